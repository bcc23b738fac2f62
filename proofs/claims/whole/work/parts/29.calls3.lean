theorem ofS_in {a : bpM} {p w : Nat} (hx : isP a (nI p) = true) (hp : p < 6) (hw : w < 10) : ofS a (nI p) (nI w) = ofV a p w := by
  unfold ofS
  rw [if_pos hx, if_pos ⟨nI_pos' (by omega), by rw [i_le, i_9, i_n (by omega)]; omega⟩, nIc (by omega), nIc (by omega)]
theorem queueS_in {a : bpM} {p j : Nat} (hx : isP a (nI p) = true) (hp : p < 6) (hj : j < qm a p) (h17 : a 17 p = nI (qm a p)) (h20 : qm a p ≤ 20) : queueS a (nI p) (nI j) = qV a p j := by
  unfold queueS
  rw [nIc (show p < 2 ^ 31 by omega), nIc (show j < 2 ^ 31 by omega), if_pos ⟨hx, nI_pos' (by omega), by rw [h17]; exact nI_lt hj (by omega)⟩]
theorem keyS_in {a : bpM} {k w : Nat} (hk : k < 4) (hw : w < 4) : keyS a (nI k) (nI w) = keyV a (nI k) w := by
  unfold keyS
  rw [if_pos ⟨nI_pos' (by omega), by rw [i_le, i_3, i_n (by omega)]; omega⟩, if_pos ⟨nI_pos' (by omega), by rw [i_le, i_3, i_n (by omega)]; omega⟩, nIc (by omega)]
theorem wayS_in {a : bpM} {f : Nat} (hf : f < 12) : wayS a (nI f) = oI (way a f) := by
  unfold wayS
  rw [if_pos (isF_n hf), nIc (by omega)]
theorem flowS_in {a : bpM} {f w : Nat} (hf : f < 12) (hw : w < 7) : flowS a (nI f) (nI w) = a (fsl w) f := by
  unfold flowS
  rw [if_pos (isF_n hf), if_pos ⟨nI_pos' (by omega), by rw [i_le, i_6, i_n (by omega)]; omega⟩, nIc (by omega), nIc (by omega)]
theorem countS_in {a : bpM} {w : Nat} (hw : w < 12) : countS a (nI w) = cntV a w := by
  unfold countS
  rw [if_pos ⟨nI_pos' (by omega), by rw [i_le, i_11, i_n (by omega)]; omega⟩, nIc (by omega)]
set_option maxRecDepth 100000 in
set_option maxHeartbeats 4000000 in
theorem c_of {G : bpG} {C : bpC} {M : bpM} {hl : Int64} {a : bpM} {k : Nat} {x w : Int32} (hR : RA C a 9) (hI : Inv a k) : Ct G yX4_of cX4_of 4 (some .int) rmX4_of [.ref (G.1 0 0), .int x, .int w] C M hl (qI C M hl (ofS a x w)) := by
  refine ct_of [some (.ref (G.1 0 0)), some (.int x), some (.int w), none] (by decide +kernel) rfl rfl (Nat.le_of_ble_eq_true rfl) ?_
  intro κ X Z
  refine r_aload_n X dX4_of_0 rfl ?_
  refine r_iload_n X dX4_of_1 rfl ?_
  refine r_cv1_I X mdX4_isPort wml_X4_92 dX4_of_2 ⟨rfl, rfl, Nat.le_of_ble_eq_true rfl, Nat.le_of_ble_eq_true rfl⟩ (by decide) rfl rfl (Nat.le_of_ble_eq_true rfl) rfl (zroom Z) (c_isPort hR.1.1.1 hR.1.2.1) ?_
  show Rn G κ 5 _ _ _ _ _
  refine r_ifne 12 X dX4_of_5 (by decide) (fun c5 => ?_) (fun c5 => ?_)
  · obtain ⟨p, hp, rfl⟩ := isP_of hR.1.2.1 (bI_1 c5)
    have hn6 := hR.1.2.1.2.1
    have hp6 : p < 6 := by omega
    have hxp := bI_1 c5
    have ecl : (nI p).toNatClampNeg = p := nIc (by omega)
    have hrp := hR.1.2.2 p hp
    show Rn G κ 12 _ _ _ _ _
    refine r_aload_n X dX4_of_12 rfl ?_
    refine r_gr0_1 X wfl_X4_18 dX4_of_13 ?_
    refine r_iload_n X dX4_of_16 rfl ?_
    refine r_aaP _ X rfl (by assumption) dX4_of_17 ?_
    refine r_astore_3 X dX4_of_18 rfl ?_
    refine r_iload_n X dX4_of_19 rfl ?_
    by_cases hw : 0 ≤ w ∧ w ≤ 9
    · obtain ⟨w, hw2, rfl⟩ := rng_of (n := 9) (by decide) hw.1 hw.2
      rcases (show w = 0 ∨ w = 1 ∨ w = 2 ∨ w = 3 ∨ w = 4 ∨ w = 5 ∨ w = 6 ∨ w = 7 ∨ w = 8 ∨ w = 9 by omega) with rfl | rfl | rfl | rfl | rfl | rfl | rfl | rfl | rfl | rfl
      · refine r_tblIn (off := 56) 76 X dX4_of_20 (by decide) (by decide) (by decide) (by decide) ?_
        refine r_aload_n X dX4_of_76 rfl ?_
        refine r_gi5 1 X (by assumption) wfl_X4_131 dX4_of_77 (by decide) rfl ?_
        refine r_iret X Z dX4_of_80 ?_
        refine ⟨rfl, rfl, rfl, ret_i ?_⟩
        rw [ofS_in hxp hp6 (by decide)]
        exact hrp.1
      · refine r_tblIn (off := 61) 81 X dX4_of_20 (by decide) (by decide) (by decide) (by decide) ?_
        refine r_aload_n X dX4_of_81 rfl ?_
        refine r_gi5 2 X (by assumption) wfl_X4_95 dX4_of_82 (by decide) rfl ?_
        refine r_iret X Z dX4_of_85 ?_
        refine ⟨rfl, rfl, rfl, ret_i ?_⟩
        rw [ofS_in hxp hp6 (by decide)]
        exact hrp.2.1
      · refine r_tblIn (off := 66) 86 X dX4_of_20 (by decide) (by decide) (by decide) (by decide) ?_
        refine r_aload_n X dX4_of_86 rfl ?_
        refine r_gi5 3 X (by assumption) wfl_X4_101 dX4_of_87 (by decide) rfl ?_
        refine r_cs1_I X mdX4_asNumber wml_X4_105 dX4_of_90 ⟨rfl, rfl, Nat.le_of_ble_eq_true rfl, Nat.le_of_ble_eq_true rfl⟩ (Nat.le_of_ble_eq_true rfl) rfl (zroom Z) (c_asNumber (by rw [hrp.2.2.1]; exact (hI.2.2.1.2 p hp).2.1)) ?_
        show Rn G κ 93 _ _ _ _ _
        refine r_iret X Z dX4_of_93 ?_
        refine ⟨rfl, rfl, rfl, ret_i ?_⟩
        rw [ofS_in hxp hp6 (by decide)]
        exact hrp.2.2.1
      · refine r_tblIn (off := 74) 94 X dX4_of_20 (by decide) (by decide) (by decide) (by decide) ?_
        refine r_aload_n X dX4_of_94 rfl ?_
        refine r_gi5 4 X (by assumption) wfl_X4_109 dX4_of_95 (by decide) rfl ?_
        refine r_ifeq 108 X dX4_of_98 (by decide) (fun c98 => ?_) (fun c98 => ?_)
        · show Rn G κ 108 _ _ _ _ _
          refine r_iconst (-1) X dX4_of_108 (by decide) ?_
          refine r_iret X Z dX4_of_109 ?_
          refine ⟨rfl, rfl, rfl, ret_i ?_⟩
          rw [ofS_in hxp hp6 (by decide)]
          show (-1 : Int32) = hrd a p _
          unfold hrd
          rw [if_neg (of_decide_eq_false (bI_0 (hrp.2.2.2.1 ▸ c98)))]
        · show Rn G κ 101 _ _ _ _ _
          refine r_aload_n X dX4_of_101 rfl ?_
          refine r_gi5 5 X (by assumption) wfl_X4_134 dX4_of_102 (by decide) rfl ?_
          refine r_goto 109 X dX4_of_105 (by decide) ?_
          refine r_iret X Z dX4_of_109 ?_
          refine ⟨rfl, rfl, rfl, ret_i ?_⟩
          rw [ofS_in hxp hp6 (by decide)]
          have hh := of_decide_eq_true (bI_1 (hrp.2.2.2.1 ▸ c98))
          show _ = hrd a p _
          unfold hrd
          rw [if_pos hh]
          exact (hrp.2.2.2.2.2 hh).1
      · refine r_tblIn (off := 90) 110 X dX4_of_20 (by decide) (by decide) (by decide) (by decide) ?_
        refine r_aload_n X dX4_of_110 rfl ?_
        refine r_gi5 4 X (by assumption) wfl_X4_109 dX4_of_111 (by decide) rfl ?_
        refine r_ifeq 124 X dX4_of_114 (by decide) (fun c114 => ?_) (fun c114 => ?_)
        · show Rn G κ 124 _ _ _ _ _
          refine r_iconst (-1) X dX4_of_124 (by decide) ?_
          refine r_iret X Z dX4_of_125 ?_
          refine ⟨rfl, rfl, rfl, ret_i ?_⟩
          rw [ofS_in hxp hp6 (by decide)]
          show (-1 : Int32) = hrd a p _
          unfold hrd
          rw [if_neg (of_decide_eq_false (bI_0 (hrp.2.2.2.1 ▸ c114)))]
        · show Rn G κ 117 _ _ _ _ _
          refine r_aload_n X dX4_of_117 rfl ?_
          refine r_gi5 6 X (by assumption) wfl_X4_137 dX4_of_118 (by decide) rfl ?_
          refine r_goto 125 X dX4_of_121 (by decide) ?_
          refine r_iret X Z dX4_of_125 ?_
          refine ⟨rfl, rfl, rfl, ret_i ?_⟩
          rw [ofS_in hxp hp6 (by decide)]
          have hh := of_decide_eq_true (bI_1 (hrp.2.2.2.1 ▸ c114))
          show _ = hrd a p _
          unfold hrd
          rw [if_pos hh]
          exact (hrp.2.2.2.2.2 hh).2.1
      · refine r_tblIn (off := 106) 126 X dX4_of_20 (by decide) (by decide) (by decide) (by decide) ?_
        refine r_aload_n X dX4_of_126 rfl ?_
        refine r_gi5 4 X (by assumption) wfl_X4_109 dX4_of_127 (by decide) rfl ?_
        refine r_ifeq 143 X dX4_of_130 (by decide) (fun c130 => ?_) (fun c130 => ?_)
        · show Rn G κ 143 _ _ _ _ _
          refine r_iconst (-1) X dX4_of_143 (by decide) ?_
          refine r_iret X Z dX4_of_144 ?_
          refine ⟨rfl, rfl, rfl, ret_i ?_⟩
          rw [ofS_in hxp hp6 (by decide)]
          show (-1 : Int32) = hrd a p _
          unfold hrd
          rw [if_neg (of_decide_eq_false (bI_0 (hrp.2.2.2.1 ▸ c130)))]
        · show Rn G κ 133 _ _ _ _ _
          refine r_aload_n X dX4_of_133 rfl ?_
          refine r_gi5 7 X (by assumption) wfl_X4_140 dX4_of_134 (by decide) rfl ?_
          refine r_cs1_I X mdX4_asNumber wml_X4_105 dX4_of_137 ⟨rfl, rfl, Nat.le_of_ble_eq_true rfl, Nat.le_of_ble_eq_true rfl⟩ (Nat.le_of_ble_eq_true rfl) rfl (zroom Z) (c_asNumber (by rw [(hrp.2.2.2.2.2 (of_decide_eq_true (bI_1 (hrp.2.2.2.1 ▸ c130)))).2.2.1]; exact (hI.2.2.1.2 p hp).2.2.1)) ?_
          show Rn G κ 140 _ _ _ _ _
          refine r_goto 144 X dX4_of_140 (by decide) ?_
          refine r_iret X Z dX4_of_144 ?_
          refine ⟨rfl, rfl, rfl, ret_i ?_⟩
          rw [ofS_in hxp hp6 (by decide)]
          have hh := of_decide_eq_true (bI_1 (hrp.2.2.2.1 ▸ c130))
          show _ = hrd a p _
          unfold hrd
          rw [if_pos hh]
          exact (hrp.2.2.2.2.2 hh).2.2.1
      · refine r_tblIn (off := 125) 145 X dX4_of_20 (by decide) (by decide) (by decide) (by decide) ?_
        refine r_aload_n X dX4_of_145 rfl ?_
        refine r_gi5 4 X (by assumption) wfl_X4_109 dX4_of_146 (by decide) rfl ?_
        refine r_ifeq 159 X dX4_of_149 (by decide) (fun c149 => ?_) (fun c149 => ?_)
        · show Rn G κ 159 _ _ _ _ _
          refine r_iconst (-1) X dX4_of_159 (by decide) ?_
          refine r_iret X Z dX4_of_160 ?_
          refine ⟨rfl, rfl, rfl, ret_i ?_⟩
          rw [ofS_in hxp hp6 (by decide)]
          show (-1 : Int32) = hrd a p _
          unfold hrd
          rw [if_neg (of_decide_eq_false (bI_0 (hrp.2.2.2.1 ▸ c149)))]
        · show Rn G κ 152 _ _ _ _ _
          refine r_aload_n X dX4_of_152 rfl ?_
          refine r_gi5 8 X (by assumption) wfl_X4_143 dX4_of_153 (by decide) rfl ?_
          refine r_goto 160 X dX4_of_156 (by decide) ?_
          refine r_iret X Z dX4_of_160 ?_
          refine ⟨rfl, rfl, rfl, ret_i ?_⟩
          rw [ofS_in hxp hp6 (by decide)]
          have hh := of_decide_eq_true (bI_1 (hrp.2.2.2.1 ▸ c149))
          show _ = hrd a p _
          unfold hrd
          rw [if_pos hh]
          exact (hrp.2.2.2.2.2 hh).2.2.2
      · refine r_tblIn (off := 141) 161 X dX4_of_20 (by decide) (by decide) (by decide) (by decide) ?_
        refine r_aload_n X dX4_of_161 rfl ?_
        refine r_aload_n X dX4_of_162 rfl ?_
        refine r_cv1_I X mdX4_howItIs wml_X4_146 dX4_of_163 ⟨rfl, rfl, Nat.le_of_ble_eq_true rfl, Nat.le_of_ble_eq_true rfl⟩ (by decide) rfl rfl (Nat.le_of_ble_eq_true rfl) rfl (zroom Z) (c_howItIs hR.1.1 hp6 hrp (hR.2.1 p hp)) ?_
        show Rn G κ 166 _ _ _ _ _
        refine r_iret X Z dX4_of_166 ?_
        refine ⟨rfl, rfl, rfl, ret_i ?_⟩
        rw [ofS_in hxp hp6 (by decide)]
        rfl
      · refine r_tblIn (off := 147) 167 X dX4_of_20 (by decide) (by decide) (by decide) (by decide) ?_
        refine r_aload_n X dX4_of_167 rfl ?_
        refine r_gi5 10 X (by assumption) wfl_X4_150 dX4_of_168 (by decide) rfl ?_
        refine r_iret X Z dX4_of_171 ?_
        refine ⟨rfl, rfl, rfl, ret_i ?_⟩
        rw [ofS_in hxp hp6 (by decide)]
        exact hrp.2.2.2.2.1
      · refine r_tblIn (off := 152) 172 X dX4_of_20 (by decide) (by decide) (by decide) (by decide) ?_
        refine r_aload_n X dX4_of_172 rfl ?_
        refine r_gr5_0 X (by assumption) wfl_X4_112 dX4_of_173 ?_
        refine r_gi6 2 X (by assumption) wfl_X4_153 dX4_of_176 (by decide) rfl ?_
        refine r_iret X Z dX4_of_179 ?_
        refine ⟨rfl, rfl, rfl, ret_i ?_⟩
        rw [ofS_in hxp hp6 (by decide)]
        exact (hR.2.2.1 p hp (by omega)).1
    · have hout : w.toInt < 0 ∨ 9 < w.toInt := by rw [i_le, i_le, i_0, i_9] at hw; omega
      refine r_tblOut 180 X dX4_of_20 hout (by decide) ?_
      refine r_sipush (-1002) X dX4_of_180 (by decide) ?_
      refine r_iret X Z dX4_of_183 ?_
      refine ⟨rfl, rfl, rfl, ret_i ?_⟩
      unfold ofS
      rw [if_pos hxp, if_neg hw]
  · show Rn G κ 8 _ _ _ _ _
    refine r_sipush (-1001) X dX4_of_8 (by decide) ?_
    refine r_iret X Z dX4_of_11 ?_
    refine ⟨rfl, rfl, rfl, ret_i ?_⟩
    unfold ofS
    rw [if_neg (by rw [bI_0 c5]; decide)]
set_option maxRecDepth 100000 in
set_option maxHeartbeats 4000000 in
theorem c_queue {G : bpG} {C : bpC} {M : bpM} {hl : Int64} {a : bpM} {k : Nat} {x j : Int32} (hR : RA C a 9) (hI : Inv a k) : Ct G yX4_queue cX4_queue 4 (some .int) rmX4_queue [.ref (G.1 0 0), .int x, .int j] C M hl (qI C M hl (queueS a x j)) := by
  refine ct_of [some (.ref (G.1 0 0)), some (.int x), some (.int j), none] (by decide +kernel) rfl rfl (Nat.le_of_ble_eq_true rfl) ?_
  intro κ X Z
  refine r_aload_n X dX4_queue_0 rfl ?_
  refine r_iload_n X dX4_queue_1 rfl ?_
  refine r_cv1_I X mdX4_isPort wml_X4_92 dX4_queue_2 ⟨rfl, rfl, Nat.le_of_ble_eq_true rfl, Nat.le_of_ble_eq_true rfl⟩ (by decide) rfl rfl (Nat.le_of_ble_eq_true rfl) rfl (zroom Z) (c_isPort hR.1.1.1 hR.1.2.1) ?_
  show Rn G κ 5 _ _ _ _ _
  refine r_ifne 12 X dX4_queue_5 (by decide) (fun c5 => ?_) (fun c5 => ?_)
  · obtain ⟨p, hp, rfl⟩ := isP_of hR.1.2.1 (bI_1 c5)
    have hn6 := hR.1.2.1.2.1
    have hp6 : p < 6 := by omega
    have hxp := bI_1 c5
    have ecl : (nI p).toNatClampNeg = p := nIc (by omega)
    have hq := hI.1 p hp
    have hrq := hR.2.2.1 p hp (by omega)
    have hq20 := hq.le
    have hsz : C 6 p 2 = nI (qm a p) := hrq.1.trans hq.1
    show Rn G κ 12 _ _ _ _ _
    refine r_aload_n X dX4_queue_12 rfl ?_
    refine r_gr0_1 X wfl_X4_18 dX4_queue_13 ?_
    refine r_iload_n X dX4_queue_16 rfl ?_
    refine r_aaP _ X rfl (by assumption) dX4_queue_17 ?_
    refine r_gr5_0 X (by assumption) wfl_X4_112 dX4_queue_18 ?_
    refine r_astore_3 X dX4_queue_21 rfl ?_
    refine r_aload_n X dX4_queue_22 rfl ?_
    show Rn G κ 23 _ _ _ _ _
    refine r_iload_n X dX4_queue_23 rfl ?_
    refine r_cv1_I X mdX3_has wml_X4_156 dX4_queue_24 ⟨rfl, rfl, Nat.le_of_ble_eq_true rfl, Nat.le_of_ble_eq_true rfl⟩ (by assumption) rfl rfl (Nat.le_of_ble_eq_true rfl) rfl (zroom Z) (c_qhas hp6) ?_
    show Rn G κ 27 _ _ _ _ _
    refine r_ifne 34 X dX4_queue_27 (by decide) (fun c27 => ?_) (fun c27 => ?_)
    · have h27 := bI_1 c27
      rw [Bool.and_eq_true, decide_eq_true_eq, decide_eq_true_eq] at h27
      have h0 : ¬ j < 0 := by rw [i_lt, i_0]; have := h27.1; rw [i_le, i_0] at this; omega
      obtain ⟨j, hj31, rfl⟩ := nI_of h0
      have hlt := h27.2
      have hjq : j < qm a p := by rw [hsz] at hlt; exact (nI_ltI hj31 (by omega)).mp hlt
      have h20 : j < 20 := by omega
      obtain ⟨e7, e8⟩ := hrq.2 j hjq
      show Rn G κ 34 _ _ _ _ _
      refine r_aload_n X dX4_queue_34 rfl ?_
      refine r_iload_n X dX4_queue_35 rfl ?_
      refine r_cv1_I X mdX3_isMarker wml_X4_159 dX4_queue_36 ⟨rfl, rfl, Nat.le_of_ble_eq_true rfl, Nat.le_of_ble_eq_true rfl⟩ (by assumption) rfl rfl (Nat.le_of_ble_eq_true rfl) rfl (zroom Z) (c_isMarker hp6 h20 hlt) ?_
      show Rn G κ 39 _ _ _ _ _
      refine r_ifeq 50 X dX4_queue_39 (by decide) (fun c39 => ?_) (fun c39 => ?_)
      · show Rn G κ 50 _ _ _ _ _
        refine r_bipush (100) X dX4_queue_50 (by decide) ?_
        refine r_aload_n X dX4_queue_52 rfl ?_
        refine r_iload_n X dX4_queue_53 rfl ?_
        refine r_cv1_I X mdX3_flowAt wml_X4_162 dX4_queue_54 ⟨rfl, rfl, Nat.le_of_ble_eq_true rfl, Nat.le_of_ble_eq_true rfl⟩ (by assumption) rfl rfl (Nat.le_of_ble_eq_true rfl) rfl (zroom Z) (c_flowAt hp6 h20 hlt) ?_
        show Rn G κ 57 _ _ _ _ _
        refine r_imul X dX4_queue_57 ?_
        refine r_aload_n X dX4_queue_58 rfl ?_
        refine r_iload_n X dX4_queue_59 rfl ?_
        show Rn G κ 60 _ _ _ _ _
        refine r_cv1_I X mdX3_numberAt wml_X4_165 dX4_queue_60 ⟨rfl, rfl, Nat.le_of_ble_eq_true rfl, Nat.le_of_ble_eq_true rfl⟩ (by assumption) rfl rfl (Nat.le_of_ble_eq_true rfl) rfl (zroom Z) (c_numberAt hp6 h20 hlt) ?_
        show Rn G κ 63 _ _ _ _ _
        refine r_bipush (100) X dX4_queue_63 (by decide) ?_
        refine r_irem X dX4_queue_65 (by decide) ?_
        refine r_iadd X dX4_queue_66 ?_
        refine r_iret X Z dX4_queue_67 ?_
        refine ⟨rfl, rfl, rfl, ret_i ?_⟩
        rw [queueS_in hxp hp6 hjq hq.1 hq20]
        unfold qV
        rw [if_neg (by rw [← e8]; exact of_decide_eq_false (bI_0 c39)), e7, e8]
      · show Rn G κ 42 _ _ _ _ _
        refine r_iconst (-1) X dX4_queue_42 (by decide) ?_
        refine r_aload_n X dX4_queue_43 rfl ?_
        refine r_iload_n X dX4_queue_44 rfl ?_
        refine r_cv1_I X mdX3_flowAt wml_X4_162 dX4_queue_45 ⟨rfl, rfl, Nat.le_of_ble_eq_true rfl, Nat.le_of_ble_eq_true rfl⟩ (by assumption) rfl rfl (Nat.le_of_ble_eq_true rfl) rfl (zroom Z) (c_flowAt hp6 h20 hlt) ?_
        show Rn G κ 48 _ _ _ _ _
        refine r_isub X dX4_queue_48 ?_
        refine r_iret X Z dX4_queue_49 ?_
        refine ⟨rfl, rfl, rfl, ret_i ?_⟩
        rw [queueS_in hxp hp6 hjq hq.1 hq20]
        unfold qV
        rw [if_pos (by rw [← e8]; exact of_decide_eq_true (bI_1 c39)), e7]
    · show Rn G κ 30 _ _ _ _ _
      refine r_sipush (-1001) X dX4_queue_30 (by decide) ?_
      refine r_iret X Z dX4_queue_33 ?_
      refine ⟨rfl, rfl, rfl, ret_i ?_⟩
      unfold queueS
      rw [if_neg]
      rintro ⟨-, z1, z2⟩
      rw [ecl, ← hrq.1] at z2
      have h27 := bI_0 c27
      rw [Bool.and_eq_false_iff, decide_eq_false_iff_not, decide_eq_false_iff_not] at h27
      rcases h27 with h27 | h27
      · exact h27 z1
      · exact h27 z2
  · show Rn G κ 8 _ _ _ _ _
    refine r_sipush (-1001) X dX4_queue_8 (by decide) ?_
    refine r_iret X Z dX4_queue_11 ?_
    refine ⟨rfl, rfl, rfl, ret_i ?_⟩
    unfold queueS
    rw [if_neg (fun z => by have := z.1; rw [bI_0 c5] at this; cases this)]
set_option maxRecDepth 100000 in
set_option maxHeartbeats 4000000 in
theorem c_key {G : bpG} {C : bpC} {M : bpM} {hl : Int64} {a : bpM} {k : Nat} {q w : Int32} (hR : RA C a 9) (hI : Inv a k) : Ct G yX4_key cX4_key 3 (some .int) rmX4_key [.ref (G.1 0 0), .int q, .int w] C M hl (qI C M hl (keyS a q w)) := by
  refine ct_of [some (.ref (G.1 0 0)), some (.int q), some (.int w)] (by decide +kernel) rfl rfl (Nat.le_of_ble_eq_true rfl) ?_
  intro κ X Z
  refine r_iload_n X dX4_key_0 rfl ?_
  refine r_cs1_I X mdX4_isKey wml_X4_120 dX4_key_1 ⟨rfl, rfl, Nat.le_of_ble_eq_true rfl, Nat.le_of_ble_eq_true rfl⟩ (Nat.le_of_ble_eq_true rfl) rfl (zroom Z) (c_isKey) ?_
  show Rn G κ 4 _ _ _ _ _
  refine r_ifne 11 X dX4_key_4 (by decide) (fun c4 => ?_) (fun c4 => ?_)
  · have h4 := bI_1 c4
    rw [Bool.and_eq_true, decide_eq_true_eq, decide_eq_true_eq] at h4
    have hq3 : 0 ≤ q ∧ q ≤ 3 := ⟨h4.1, by have := h4.2; rw [i_lt, i_4] at this; rw [i_le, i_3]; omega⟩
    show Rn G κ 11 _ _ _ _ _
    refine r_iload_n X dX4_key_11 rfl ?_
    by_cases hw : 0 ≤ w ∧ w ≤ 3
    · obtain ⟨w, hw2, rfl⟩ := rng_of (n := 3) (by decide) hw.1 hw.2
      rcases (show w = 0 ∨ w = 1 ∨ w = 2 ∨ w = 3 by omega) with rfl | rfl | rfl | rfl
      · refine r_tblIn (off := 32) 44 X dX4_key_12 (by decide) (by decide) (by decide) (by decide) ?_
        refine r_aload_n X dX4_key_44 rfl ?_
        refine r_iload_n X dX4_key_45 rfl ?_
        refine r_cv1_I X mdX4_leadOf wml_X4_168 dX4_key_46 ⟨rfl, rfl, Nat.le_of_ble_eq_true rfl, Nat.le_of_ble_eq_true rfl⟩ (by decide) rfl rfl (Nat.le_of_ble_eq_true rfl) rfl (zroom Z) (c_leadOf hR.1) ?_
        show Rn G κ 49 _ _ _ _ _
        refine r_iret X Z dX4_key_49 ?_
        refine ⟨rfl, rfl, rfl, ret_i ?_⟩
        unfold keyS
        rw [if_pos hq3, if_pos (by decide)]
        rfl
      · refine r_tblIn (off := 38) 50 X dX4_key_12 (by decide) (by decide) (by decide) (by decide) ?_
        refine r_aload_n X dX4_key_50 rfl ?_
        refine r_iload_n X dX4_key_51 rfl ?_
        refine r_iconst (2) X dX4_key_52 (by decide) ?_
        refine r_iconst (4) X dX4_key_53 (by decide) ?_
        refine r_cv3_I X mdX4_bitsOf wml_X4_171 dX4_key_54 ⟨rfl, rfl, Nat.le_of_ble_eq_true rfl, Nat.le_of_ble_eq_true rfl⟩ (by decide) rfl rfl (Nat.le_of_ble_eq_true rfl) rfl (zroom Z) (c_bitsOf hR.1 hR.2.1) ?_
        show Rn G κ 57 _ _ _ _ _
        refine r_iret X Z dX4_key_57 ?_
        refine ⟨rfl, rfl, rfl, ret_i ?_⟩
        unfold keyS
        rw [if_pos hq3, if_pos (by decide)]
        rfl
      · refine r_tblIn (off := 46) 58 X dX4_key_12 (by decide) (by decide) (by decide) (by decide) ?_
        refine r_aload_n X dX4_key_58 rfl ?_
        refine r_iload_n X dX4_key_59 rfl ?_
        refine r_iconst (1) X dX4_key_60 (by decide) ?_
        refine r_iconst (1) X dX4_key_61 (by decide) ?_
        refine r_cv3_I X mdX4_bitsOf wml_X4_171 dX4_key_62 ⟨rfl, rfl, Nat.le_of_ble_eq_true rfl, Nat.le_of_ble_eq_true rfl⟩ (by decide) rfl rfl (Nat.le_of_ble_eq_true rfl) rfl (zroom Z) (c_bitsOf hR.1 hR.2.1) ?_
        show Rn G κ 65 _ _ _ _ _
        refine r_iret X Z dX4_key_65 ?_
        refine ⟨rfl, rfl, rfl, ret_i ?_⟩
        unfold keyS
        rw [if_pos hq3, if_pos (by decide)]
        rfl
      · refine r_tblIn (off := 54) 66 X dX4_key_12 (by decide) (by decide) (by decide) (by decide) ?_
        refine r_aload_n X dX4_key_66 rfl ?_
        refine r_iload_n X dX4_key_67 rfl ?_
        refine r_iconst (4) X dX4_key_68 (by decide) ?_
        refine r_iconst (4) X dX4_key_69 (by decide) ?_
        refine r_cv3_I X mdX4_bitsOf wml_X4_171 dX4_key_70 ⟨rfl, rfl, Nat.le_of_ble_eq_true rfl, Nat.le_of_ble_eq_true rfl⟩ (by decide) rfl rfl (Nat.le_of_ble_eq_true rfl) rfl (zroom Z) (c_bitsOf hR.1 hR.2.1) ?_
        show Rn G κ 73 _ _ _ _ _
        refine r_iret X Z dX4_key_73 ?_
        refine ⟨rfl, rfl, rfl, ret_i ?_⟩
        unfold keyS
        rw [if_pos hq3, if_pos (by decide)]
        rfl
    · have hout : w.toInt < 0 ∨ 3 < w.toInt := by rw [i_le, i_le, i_0, i_3] at hw; omega
      refine r_tblOut 74 X dX4_key_12 hout (by decide) ?_
      refine r_sipush (-1002) X dX4_key_74 (by decide) ?_
      refine r_iret X Z dX4_key_77 ?_
      refine ⟨rfl, rfl, rfl, ret_i ?_⟩
      unfold keyS
      rw [if_pos hq3, if_neg hw]
  · show Rn G κ 7 _ _ _ _ _
    refine r_sipush (-1001) X dX4_key_7 (by decide) ?_
    refine r_iret X Z dX4_key_10 ?_
    refine ⟨rfl, rfl, rfl, ret_i ?_⟩
    unfold keyS
    rw [if_neg]
    rintro ⟨z1, z2⟩
    have h4 := bI_0 c4
    rw [Bool.and_eq_false_iff, decide_eq_false_iff_not, decide_eq_false_iff_not] at h4
    rcases h4 with h4 | h4
    · exact h4 z1
    · rw [i_le, i_3] at z2; rw [i_lt, i_4] at h4; omega
set_option maxRecDepth 100000 in
set_option maxHeartbeats 4000000 in
theorem c_way {G : bpG} {C : bpC} {M : bpM} {hl : Int64} {a : bpM} {k : Nat} {x : Int32} (hR : RA C a 9) (hI : Inv a k) : Ct G yX4_way cX4_way 2 (some .int) rmX4_way [.ref (G.1 0 0), .int x] C M hl (qI C M hl (wayS a x)) := by
  refine ct_of [some (.ref (G.1 0 0)), some (.int x)] (by decide +kernel) rfl rfl (Nat.le_of_ble_eq_true rfl) ?_
  intro κ X Z
  refine r_iload_n X dX4_way_0 rfl ?_
  refine r_cs1_I X mdX4_isFlow wml_X4_175 dX4_way_1 ⟨rfl, rfl, Nat.le_of_ble_eq_true rfl, Nat.le_of_ble_eq_true rfl⟩ (Nat.le_of_ble_eq_true rfl) rfl (zroom Z) (c_isFlow) ?_
  show Rn G κ 4 _ _ _ _ _
  refine r_ifeq 15 X dX4_way_4 (by decide) (fun c4 => ?_) (fun c4 => ?_)
  · show Rn G κ 15 _ _ _ _ _
    refine r_sipush (-1001) X dX4_way_15 (by decide) ?_
    refine r_iret X Z dX4_way_18 ?_
    refine ⟨rfl, rfl, rfl, ret_i ?_⟩
    unfold wayS
    rw [if_neg (by rw [show isF x = false from bI_0 c4]; decide)]
  · obtain ⟨f, hf, rfl⟩ := isF_of (bI_1 c4)
    show Rn G κ 7 _ _ _ _ _
    refine r_aload_n X dX4_way_7 rfl ?_
    refine r_iload_n X dX4_way_8 rfl ?_
    refine r_cv1_I X mdX4_wayOf wml_X4_178 dX4_way_9 ⟨rfl, rfl, Nat.le_of_ble_eq_true rfl, Nat.le_of_ble_eq_true rfl⟩ (by decide) rfl rfl (Nat.le_of_ble_eq_true rfl) rfl (zroom Z) (c_wayOf hR.1 hR.2.1 hf) ?_
    show Rn G κ 12 _ _ _ _ _
    refine r_goto 18 X dX4_way_12 (by decide) ?_
    refine r_iret X Z dX4_way_18 ?_
    refine ⟨rfl, rfl, rfl, ret_i ?_⟩
    rw [wayS_in hf]
set_option maxRecDepth 100000 in
set_option maxHeartbeats 4000000 in
theorem c_flow_no {G : bpG} {C : bpC} {M : bpM} {hl : Int64} {a : bpM} {x w : Int32} (hx : isF x = false) : Ct G yX4_flow cX4_flow 4 (some .int) rmX4_flow [.ref (G.1 0 0), .int x, .int w] C M hl (qI C M hl (flowS a x w)) := by
  refine ct_of [some (.ref (G.1 0 0)), some (.int x), some (.int w), none] (by decide +kernel) rfl rfl (Nat.le_of_ble_eq_true rfl) ?_
  intro κ X Z
  refine r_iload_n X dX4_flow_0 rfl ?_
  refine r_cs1_I X mdX4_isFlow wml_X4_175 dX4_flow_1 ⟨rfl, rfl, Nat.le_of_ble_eq_true rfl, Nat.le_of_ble_eq_true rfl⟩ (Nat.le_of_ble_eq_true rfl) rfl (zroom Z) (c_isFlow) ?_
  show Rn G κ 4 _ _ _ _ _
  refine r_ifne 11 X dX4_flow_4 (by decide) (fun c4 => absurd (show bI (isF x) = 0 by rw [hx]; rfl) c4) (fun c4 => ?_)
  show Rn G κ 7 _ _ _ _ _
  refine r_sipush (-1001) X dX4_flow_7 (by decide) ?_
  refine r_iret X Z dX4_flow_10 ?_
  refine ⟨rfl, rfl, rfl, ret_i ?_⟩
  unfold flowS
  rw [if_neg (by rw [hx]; decide)]
set_option maxRecDepth 100000 in
set_option maxHeartbeats 4000000 in
theorem c_flow_out {G : bpG} {C : bpC} {M : bpM} {hl : Int64} {a : bpM} {f : Nat} {w : Int32} (hf : f < 12) (hw : ¬ (0 ≤ w ∧ w ≤ 6)) : Ct G yX4_flow cX4_flow 4 (some .int) rmX4_flow [.ref (G.1 0 0), .int (nI f), .int w] C M hl (qI C M hl (flowS a (nI f) w)) := by
  have hx := isF_n hf
  have hout : w.toInt < 0 ∨ 6 < w.toInt := by rw [i_le, i_le, i_0, i_6] at hw; omega
  refine ct_of [some (.ref (G.1 0 0)), some (.int (nI f)), some (.int w), none] (by decide +kernel) rfl rfl (Nat.le_of_ble_eq_true rfl) ?_
  intro κ X Z
  refine r_iload_n X dX4_flow_0 rfl ?_
  refine r_cs1_I X mdX4_isFlow wml_X4_175 dX4_flow_1 ⟨rfl, rfl, Nat.le_of_ble_eq_true rfl, Nat.le_of_ble_eq_true rfl⟩ (Nat.le_of_ble_eq_true rfl) rfl (zroom Z) (c_isFlow) ?_
  show Rn G κ 4 _ _ _ _ _
  refine r_ifne 11 X dX4_flow_4 (by decide) (fun c4 => ?_) (fun c4 => absurd c4 (show ¬ bI (isF (nI f)) = 0 by rw [hx]; decide))
  show Rn G κ 11 _ _ _ _ _
  refine r_aload_n X dX4_flow_11 rfl ?_
  refine r_gr0_2 X wfl_X4_24 dX4_flow_12 ?_
  refine r_iload_n X dX4_flow_15 rfl ?_
  refine r_aaF _ X rfl (by assumption) dX4_flow_16 ?_
  show Rn G κ 17 _ _ _ _ _
  refine r_astore_3 X dX4_flow_17 rfl ?_
  refine r_iload_n X dX4_flow_18 rfl ?_
  refine r_tblOut 98 X dX4_flow_19 hout (by decide) ?_
  refine r_sipush (-1002) X dX4_flow_98 (by decide) ?_
  refine r_iret X Z dX4_flow_101 ?_
  refine ⟨rfl, rfl, rfl, ret_i ?_⟩
  unfold flowS
  rw [if_pos hx, if_neg hw]
theorem c_flow {G : bpG} {C : bpC} {M : bpM} {hl : Int64} {a : bpM} {k : Nat} {x w : Int32} (hR : RA C a 9) (hI : Inv a k) : Ct G yX4_flow cX4_flow 4 (some .int) rmX4_flow [.ref (G.1 0 0), .int x, .int w] C M hl (qI C M hl (flowS a x w)) := by
  cases hx : isF x with
  | false => exact c_flow_no hx
  | true =>
    by_cases hw : 0 ≤ w ∧ w ≤ 6
    · obtain ⟨f, hf, rfl⟩ := isF_of hx
      obtain ⟨w, hw2, rfl⟩ := rng_of (n := 6) (by decide) hw.1 hw.2
      rw [flowS_in hf (by omega)]
      exact c_flow_in (hR.2.2.2 f hf) (hI.2.1 f hf).1 hf (by omega)
    · obtain ⟨f, hf, rfl⟩ := isF_of hx
      exact c_flow_out hf hw
set_option maxRecDepth 100000 in
set_option maxHeartbeats 4000000 in
theorem c_send_no {G : bpG} {C : bpC} {M : bpM} {hl : Int64} {a : bpM} {x : Int32} (hR : RA C a 9) (hx : isF x = false) : Ct G yX4_send cX4_send 4 (some .int) rmX4_send [.ref (G.1 0 0), .int x] C M hl (qCi M hl (fun C' r => RA C' (sendS a x).1 9 ∧ r = (sendS a x).2)) := by
  refine ct_of [some (.ref (G.1 0 0)), some (.int x), none, none] (by decide +kernel) rfl rfl (Nat.le_of_ble_eq_true rfl) ?_
  intro κ X Z
  refine r_iload_n X dX4_send_0 rfl ?_
  refine r_cs1_I X mdX4_isFlow wml_X4_175 dX4_send_1 ⟨rfl, rfl, Nat.le_of_ble_eq_true rfl, Nat.le_of_ble_eq_true rfl⟩ (Nat.le_of_ble_eq_true rfl) rfl (zroom Z) (c_isFlow) ?_
  show Rn G κ 4 _ _ _ _ _
  refine r_ifne 11 X dX4_send_4 (by decide) (fun c4 => absurd (show bI (isF x) = 0 by rw [hx]; rfl) c4) (fun c4 => ?_)
  show Rn G κ 7 _ _ _ _ _
  refine r_sipush (-1001) X dX4_send_7 (by decide) ?_
  refine r_iret X Z dX4_send_10 ?_
  have e : sendS a x = (a, -1001) := by unfold sendS; rw [if_neg (by rw [hx]; decide)]
  rw [e]
  exact ⟨rfl, rfl, _, rfl, hR, rfl⟩
set_option maxRecDepth 100000 in
set_option maxHeartbeats 4000000 in
theorem c_send_st {G : bpG} {C : bpC} {M : bpM} {hl : Int64} {a : bpM} {x : Int32} (hR : RA C a 9) (hx : isF x = true) (h0 : a 2 0 = 0) : Ct G yX4_send cX4_send 4 (some .int) rmX4_send [.ref (G.1 0 0), .int x] C M hl (qCi M hl (fun C' r => RA C' (sendS a x).1 9 ∧ r = (sendS a x).2)) := by
  refine ct_of [some (.ref (G.1 0 0)), some (.int x), none, none] (by decide +kernel) rfl rfl (Nat.le_of_ble_eq_true rfl) ?_
  intro κ X Z
  refine r_iload_n X dX4_send_0 rfl ?_
  refine r_cs1_I X mdX4_isFlow wml_X4_175 dX4_send_1 ⟨rfl, rfl, Nat.le_of_ble_eq_true rfl, Nat.le_of_ble_eq_true rfl⟩ (Nat.le_of_ble_eq_true rfl) rfl (zroom Z) (c_isFlow) ?_
  show Rn G κ 4 _ _ _ _ _
  refine r_ifne 11 X dX4_send_4 (by decide) (fun c4 => ?_) (fun c4 => absurd c4 (show ¬ bI (isF x) = 0 by rw [hx]; decide))
  show Rn G κ 11 _ _ _ _ _
  refine r_aload_n X dX4_send_11 rfl ?_
  refine r_gi0 3 X wfl_X4_28 dX4_send_12 (by decide) rfl ?_
  refine r_ifne 22 X dX4_send_15 (by decide) (fun c15 => absurd (by rw [hR.1.1.1]; exact h0) c15) (fun c15 => ?_)
  show Rn G κ 18 _ _ _ _ _
  refine r_sipush (-1003) X dX4_send_18 (by decide) ?_
  show Rn G κ 21 _ _ _ _ _
  refine r_iret X Z dX4_send_21 ?_
  have e : sendS a x = (a, -1003) := by unfold sendS; rw [if_pos hx, if_pos h0]
  rw [e]
  exact ⟨rfl, rfl, _, rfl, hR, rfl⟩
theorem c_sendS {G : bpG} {C : bpC} {M : bpM} {hl : Int64} {a : bpM} {k : Nat} {x : Int32} (hR : RA C a 9) (hI : Inv a k) : Ct G yX4_send cX4_send 4 (some .int) rmX4_send [.ref (G.1 0 0), .int x] C M hl (qCi M hl (fun C' r => RA C' (sendS a x).1 9 ∧ r = (sendS a x).2)) := by
  cases hx : isF x with
  | false => exact c_send_no hR hx
  | true =>
    by_cases h0 : a 2 0 = 0
    · exact c_send_st hR hx h0
    · obtain ⟨f, hf, rfl⟩ := isF_of hx
      have hn : 0 < np a := by
        rcases Nat.eq_zero_or_pos (np a) with z | z
        · exact absurd (by rw [hI.2.2.1.1.1, z]; rfl) h0
        · exact z
      have e : sendS a (nI f) = sendF a f := by unfold sendS; rw [if_pos hx, if_neg h0, nIc (by omega)]
      rw [e]
      exact c_send hR hI.1 hI.2.1 hI.2.2.1 hf hn
set_option maxRecDepth 100000 in
set_option maxHeartbeats 4000000 in
theorem c_tick_no {G : bpG} {C : bpC} {M : bpM} {hl : Int64} {a : bpM} {x : Int32} (hR : RA C a 9) (hx : ¬ (1 ≤ x ∧ x ≤ 50)) : Ct G yX4_tick cX4_tick 4 (some .int) rmX4_tick [.ref (G.1 0 0), .int x] C M hl (qCi M hl (fun C' r => RA C' (tickS a x).1 9 ∧ r = (tickS a x).2)) := by
  refine ct_of [some (.ref (G.1 0 0)), some (.int x), none, none] (by decide +kernel) rfl rfl (Nat.le_of_ble_eq_true rfl) ?_
  intro κ X Z
  refine r_iload_n X dX4_tick_0 rfl ?_
  refine r_iconst (1) X dX4_tick_1 (by decide) ?_
  refine r_icmplt 11 X dX4_tick_2 (by decide) (fun c2 => ?_) (fun c2 => ?_)
  · show Rn G κ 11 _ _ _ _ _
    refine r_sipush (-1002) X dX4_tick_11 (by decide) ?_
    refine r_iret X Z dX4_tick_14 ?_
    have e : tickS a x = (a, -1002) := by unfold tickS; rw [if_neg hx]
    rw [e]
    exact ⟨rfl, rfl, _, rfl, hR, rfl⟩
  · have h1 : 1 ≤ x := by simp only [i_lt, i_le] at c2 ⊢; omega
    show Rn G κ 5 _ _ _ _ _
    refine r_iload_n X dX4_tick_5 rfl ?_
    refine r_bipush (50) X dX4_tick_6 (by decide) ?_
    refine r_icmple 15 X dX4_tick_8 (by decide) (fun c8 => absurd c8 (fun z => hx ⟨h1, z⟩)) (fun c8 => ?_)
    show Rn G κ 11 _ _ _ _ _
    refine r_sipush (-1002) X dX4_tick_11 (by decide) ?_
    refine r_iret X Z dX4_tick_14 ?_
    have e : tickS a x = (a, -1002) := by unfold tickS; rw [if_neg hx]
    rw [e]
    exact ⟨rfl, rfl, _, rfl, hR, rfl⟩
set_option maxRecDepth 100000 in
set_option maxHeartbeats 4000000 in
theorem c_tick_st {G : bpG} {C : bpC} {M : bpM} {hl : Int64} {a : bpM} {x : Int32} (hR : RA C a 9) (hx : 1 ≤ x ∧ x ≤ 50) (h0 : a 2 0 = 0) : Ct G yX4_tick cX4_tick 4 (some .int) rmX4_tick [.ref (G.1 0 0), .int x] C M hl (qCi M hl (fun C' r => RA C' (tickS a x).1 9 ∧ r = (tickS a x).2)) := by
  refine ct_of [some (.ref (G.1 0 0)), some (.int x), none, none] (by decide +kernel) rfl rfl (Nat.le_of_ble_eq_true rfl) ?_
  intro κ X Z
  refine r_iload_n X dX4_tick_0 rfl ?_
  refine r_iconst (1) X dX4_tick_1 (by decide) ?_
  refine r_icmplt 11 X dX4_tick_2 (by decide) (fun c2 => absurd c2 (fun z => by have := hx.1; rw [i_lt] at z; rw [i_le] at this; omega)) (fun c2 => ?_)
  show Rn G κ 5 _ _ _ _ _
  refine r_iload_n X dX4_tick_5 rfl ?_
  refine r_bipush (50) X dX4_tick_6 (by decide) ?_
  refine r_icmple 15 X dX4_tick_8 (by decide) (fun c8 => ?_) (fun c8 => absurd hx.2 c8)
  show Rn G κ 15 _ _ _ _ _
  refine r_aload_n X dX4_tick_15 rfl ?_
  show Rn G κ 16 _ _ _ _ _
  refine r_gi0 3 X wfl_X4_28 dX4_tick_16 (by decide) rfl ?_
  refine r_ifne 26 X dX4_tick_19 (by decide) (fun c19 => absurd (by rw [hR.1.1.1]; exact h0) c19) (fun c19 => ?_)
  show Rn G κ 22 _ _ _ _ _
  refine r_sipush (-1003) X dX4_tick_22 (by decide) ?_
  refine r_iret X Z dX4_tick_25 ?_
  have e : tickS a x = (a, -1003) := by unfold tickS; rw [if_pos hx, if_pos h0]
  rw [e]
  exact ⟨rfl, rfl, _, rfl, hR, rfl⟩
theorem c_tickS {G : bpG} {C : bpC} {M : bpM} {hl : Int64} {a : bpM} {k : Nat} {x : Int32} (hR : RA C a 9) (hI : Inv a k) : Ct G yX4_tick cX4_tick 4 (some .int) rmX4_tick [.ref (G.1 0 0), .int x] C M hl (qCi M hl (fun C' r => RA C' (tickS a x).1 9 ∧ r = (tickS a x).2)) := by
  by_cases hx : 1 ≤ x ∧ x ≤ 50
  · by_cases h0 : a 2 0 = 0
    · exact c_tick_st hR hx h0
    · obtain ⟨n, hn50, rfl⟩ := rng_of (n := 50) (by decide) (by have := hx.1; rw [i_le, i_1] at this; rw [i_le, i_0]; omega) hx.2
      have hn : 0 < np a := by
        rcases Nat.eq_zero_or_pos (np a) with z | z
        · exact absurd (by rw [hI.2.2.1.1.1, z]; rfl) h0
        · exact z
      have h1 : 1 ≤ n := by have := hx.1; rw [i_le, i_1, i_n (by omega)] at this; omega
      have e : tickS a (nI n) = tickN a n := by unfold tickS; rw [if_pos hx, if_neg h0, nIc (by omega)]
      rw [e]
      exact c_tick_in hR hI.1 hI.2.1 hI.2.2.1 hn h1 hn50
  · exact c_tick_no hR hx
set_option maxRecDepth 100000 in
set_option maxHeartbeats 4000000 in
theorem c_count {G : bpG} {C : bpC} {M : bpM} {hl : Int64} {a : bpM} {k : Nat} {w : Int32} (hR : RA C a 9) (hI : Inv a k) : Ct G yX4_count cX4_count 2 (some .int) rmX4_count [.ref (G.1 0 0), .int w] C M hl (qI C M hl (countS a w)) := by
  refine ct_of [some (.ref (G.1 0 0)), some (.int w)] (by decide +kernel) rfl rfl (Nat.le_of_ble_eq_true rfl) ?_
  intro κ X Z
  refine r_iload_n X dX4_count_0 rfl ?_
  by_cases hw : 0 ≤ w ∧ w ≤ 11
  · obtain ⟨w, hw2, rfl⟩ := rng_of (n := 11) (by decide) hw.1 hw.2
    rcases (show w = 0 ∨ w = 1 ∨ w = 2 ∨ w = 3 ∨ w = 4 ∨ w = 5 ∨ w = 6 ∨ w = 7 ∨ w = 8 ∨ w = 9 ∨ w = 10 ∨ w = 11 by omega) with rfl | rfl | rfl | rfl | rfl | rfl | rfl | rfl | rfl | rfl | rfl | rfl
    · refine r_tblIn (off := 63) 64 X dX4_count_1 (by decide) (by decide) (by decide) (by decide) ?_
      refine r_aload_n X dX4_count_64 rfl ?_
      refine r_gi0 3 X wfl_X4_28 dX4_count_65 (by decide) rfl ?_
      refine r_iret X Z dX4_count_68 ?_
      refine ⟨rfl, rfl, rfl, ret_i ?_⟩
      rw [countS_in (by decide)]
      exact hR.1.1.1
    · refine r_tblIn (off := 68) 69 X dX4_count_1 (by decide) (by decide) (by decide) (by decide) ?_
      refine r_aload_n X dX4_count_69 rfl ?_
      refine r_gr0_0 X wfl_X4_10 dX4_count_70 ?_
      refine r_gi1 1 X wfl_X4_56 dX4_count_73 (by decide) rfl ?_
      refine r_iret X Z dX4_count_76 ?_
      refine ⟨rfl, rfl, rfl, ret_i ?_⟩
      rw [countS_in (by decide)]
      exact hR.1.1.2.2.2.2.2.2.2.1
    · refine r_tblIn (off := 76) 77 X dX4_count_1 (by decide) (by decide) (by decide) (by decide) ?_
      refine r_aload_n X dX4_count_77 rfl ?_
      refine r_gi0 4 X wfl_X4_32 dX4_count_78 (by decide) rfl ?_
      refine r_iret X Z dX4_count_81 ?_
      refine ⟨rfl, rfl, rfl, ret_i ?_⟩
      rw [countS_in (by decide)]
      exact hR.1.1.2.1
    · refine r_tblIn (off := 81) 82 X dX4_count_1 (by decide) (by decide) (by decide) (by decide) ?_
      refine r_aload_n X dX4_count_82 rfl ?_
      refine r_gi0 5 X wfl_X4_35 dX4_count_83 (by decide) rfl ?_
      refine r_iret X Z dX4_count_86 ?_
      refine ⟨rfl, rfl, rfl, ret_i ?_⟩
      rw [countS_in (by decide)]
      exact hR.1.1.2.2.1
    · refine r_tblIn (off := 86) 87 X dX4_count_1 (by decide) (by decide) (by decide) (by decide) ?_
      refine r_aload_n X dX4_count_87 rfl ?_
      refine r_gi0 6 X wfl_X4_38 dX4_count_88 (by decide) rfl ?_
      refine r_iret X Z dX4_count_91 ?_
      refine ⟨rfl, rfl, rfl, ret_i ?_⟩
      rw [countS_in (by decide)]
      exact hR.1.1.2.2.2.1
    · refine r_tblIn (off := 91) 92 X dX4_count_1 (by decide) (by decide) (by decide) (by decide) ?_
      refine r_aload_n X dX4_count_92 rfl ?_
      refine r_gi0 7 X wfl_X4_41 dX4_count_93 (by decide) rfl ?_
      refine r_iret X Z dX4_count_96 ?_
      refine ⟨rfl, rfl, rfl, ret_i ?_⟩
      rw [countS_in (by decide)]
      exact hR.1.1.2.2.2.2.1
    · refine r_tblIn (off := 96) 97 X dX4_count_1 (by decide) (by decide) (by decide) (by decide) ?_
      refine r_aload_n X dX4_count_97 rfl ?_
      refine r_iconst (3) X dX4_count_98 (by decide) ?_
      refine r_cv1_I X mdX4_sumOverFlows wml_X4_216 dX4_count_99 ⟨rfl, rfl, Nat.le_of_ble_eq_true rfl, Nat.le_of_ble_eq_true rfl⟩ (by decide) rfl rfl (Nat.le_of_ble_eq_true rfl) rfl (zroom Z) (c_sum (w := 3) hR.2.2.2 (fun f hf => (hI.2.1 f hf).1) (by decide)) ?_
      show Rn G κ 102 _ _ _ _ _
      refine r_iret X Z dX4_count_102 ?_
      refine ⟨rfl, rfl, rfl, ret_i ?_⟩
      rw [countS_in (by decide)]
      rfl
    · refine r_tblIn (off := 102) 103 X dX4_count_1 (by decide) (by decide) (by decide) (by decide) ?_
      refine r_aload_n X dX4_count_103 rfl ?_
      refine r_iconst (4) X dX4_count_104 (by decide) ?_
      refine r_cv1_I X mdX4_sumOverFlows wml_X4_216 dX4_count_105 ⟨rfl, rfl, Nat.le_of_ble_eq_true rfl, Nat.le_of_ble_eq_true rfl⟩ (by decide) rfl rfl (Nat.le_of_ble_eq_true rfl) rfl (zroom Z) (c_sum (w := 4) hR.2.2.2 (fun f hf => (hI.2.1 f hf).1) (by decide)) ?_
      show Rn G κ 108 _ _ _ _ _
      refine r_iret X Z dX4_count_108 ?_
      refine ⟨rfl, rfl, rfl, ret_i ?_⟩
      rw [countS_in (by decide)]
      rfl
    · refine r_tblIn (off := 108) 109 X dX4_count_1 (by decide) (by decide) (by decide) (by decide) ?_
      refine r_aload_n X dX4_count_109 rfl ?_
      refine r_iconst (5) X dX4_count_110 (by decide) ?_
      refine r_cv1_I X mdX4_sumOverFlows wml_X4_216 dX4_count_111 ⟨rfl, rfl, Nat.le_of_ble_eq_true rfl, Nat.le_of_ble_eq_true rfl⟩ (by decide) rfl rfl (Nat.le_of_ble_eq_true rfl) rfl (zroom Z) (c_sum (w := 5) hR.2.2.2 (fun f hf => (hI.2.1 f hf).1) (by decide)) ?_
      show Rn G κ 114 _ _ _ _ _
      refine r_iret X Z dX4_count_114 ?_
      refine ⟨rfl, rfl, rfl, ret_i ?_⟩
      rw [countS_in (by decide)]
      rfl
    · refine r_tblIn (off := 114) 115 X dX4_count_1 (by decide) (by decide) (by decide) (by decide) ?_
      refine r_aload_n X dX4_count_115 rfl ?_
      refine r_iconst (2) X dX4_count_116 (by decide) ?_
      refine r_cv1_I X mdX4_sumOverFlows wml_X4_216 dX4_count_117 ⟨rfl, rfl, Nat.le_of_ble_eq_true rfl, Nat.le_of_ble_eq_true rfl⟩ (by decide) rfl rfl (Nat.le_of_ble_eq_true rfl) rfl (zroom Z) (c_sum (w := 2) hR.2.2.2 (fun f hf => (hI.2.1 f hf).1) (by decide)) ?_
      show Rn G κ 120 _ _ _ _ _
      refine r_iret X Z dX4_count_120 ?_
      refine ⟨rfl, rfl, rfl, ret_i ?_⟩
      rw [countS_in (by decide)]
      rfl
    · refine r_tblIn (off := 120) 121 X dX4_count_1 (by decide) (by decide) (by decide) (by decide) ?_
      refine r_aload_n X dX4_count_121 rfl ?_
      refine r_gi0 8 X wfl_X4_44 dX4_count_122 (by decide) rfl ?_
      refine r_iret X Z dX4_count_125 ?_
      refine ⟨rfl, rfl, rfl, ret_i ?_⟩
      rw [countS_in (by decide)]
      exact hR.1.1.2.2.2.2.2.1
    · refine r_tblIn (off := 125) 126 X dX4_count_1 (by decide) (by decide) (by decide) (by decide) ?_
      refine r_aload_n X dX4_count_126 rfl ?_
      refine r_gi0 9 X wfl_X4_47 dX4_count_127 (by decide) rfl ?_
      refine r_iret X Z dX4_count_130 ?_
      refine ⟨rfl, rfl, rfl, ret_i ?_⟩
      rw [countS_in (by decide)]
      exact hR.1.1.2.2.2.2.2.2.1
  · have hout : w.toInt < 0 ∨ 11 < w.toInt := by rw [i_le, i_le, i_0, i_11] at hw; omega
    refine r_tblOut 131 X dX4_count_1 hout (by decide) ?_
    refine r_sipush (-1002) X dX4_count_131 (by decide) ?_
    refine r_iret X Z dX4_count_134 ?_
    refine ⟨rfl, rfl, rfl, ret_i ?_⟩
    unfold countS
    rw [if_neg hw]
set_option maxRecDepth 100000 in
set_option maxHeartbeats 4000000 in
theorem c_digestPort {G : bpG} {C : bpC} {M : bpM} {hl : Int64} {a : bpM} {k p : Nat} {h : Int64} (hR : RA C a 9) (hI : Inv a k) (hp : p < np a) : Ct G yX4_digestPort cX4_digestPort 8 (some .long) rmX4_digestPort [.ref (G.1 0 0), .long h, .int (nI p)] C M hl (qL C M hl (fldN (qV a p) (fldN (ofV a p) h 10) (qm a p))) := by
  refine ct_of [some (.ref (G.1 0 0)), some (.long h), none, some (.int (nI p)), none, none, none, none] (by decide +kernel) rfl rfl (Nat.le_of_ble_eq_true rfl) ?_
  intro κ X Z
  have hn6 := hR.1.2.1.2.1
  have hp6 : p < 6 := by omega
  have hxp := isP_n hR.1.2.1 hp
  have hq := hI.1 p hp
  have hq20 := hq.le
  have loop2 : ∀ n i : Nat, i + n = qm a p → Rn G κ 46 [some (.ref (G.1 0 0)), some (.long h), none, some (.int (nI p)), some (.long (fldN (qV a p) (fldN (ofV a p) h 10) i)), none, some (.int (a 17 p)), some (.int (nI i))] [] C M hl := by
    intro n
    induction n with
    | zero =>
      intro i hi
      have hi : i = qm a p := by omega
      subst hi
      refine r_iload X dX4_digestPort_46 rfl ?_
      refine r_iload X dX4_digestPort_48 rfl ?_
      refine r_icmpge 74 X dX4_digestPort_50 (by decide) (fun c50 => ?_) (fun c50 => absurd (by rw [hq.1]; exact Int32.le_refl _) c50)
      show Rn G κ 74 _ _ _ _ _
      refine r_lload X dX4_digestPort_74 rfl ?_
      refine r_lret X Z dX4_digestPort_76 ?_
      exact ⟨rfl, rfl, rfl, rfl⟩
    | succ n ih =>
      intro i hi
      have hiq : i < qm a p := by omega
      refine r_iload X dX4_digestPort_46 rfl ?_
      refine r_iload X dX4_digestPort_48 rfl ?_
      refine r_icmpge 74 X dX4_digestPort_50 (by decide) (fun c50 => absurd c50 (by rw [hq.1]; simp only [i_lt, i_le, i_eq, i_m1, i_0, i_1, i_2, i_3, i_4, i_5, i_6, i_7, i_8, i_9, i_10, i_11, i_12, i_17, i_20, i_24, i_32, i_44, i_48, i_50, i_51, i_52, i_57, i_58, i_100, i_126, i_n (show qm a p < 2 ^ 31 by omega), i_n (show i < 2 ^ 31 by omega)]; omega)) (fun c50 => ?_)
      show Rn G κ 53 _ _ _ _ _
      refine r_lload X dX4_digestPort_53 rfl ?_
      refine r_aload_n X dX4_digestPort_55 rfl ?_
      refine r_iload_n X dX4_digestPort_56 rfl ?_
      refine r_iload X dX4_digestPort_57 rfl ?_
      show Rn G κ 59 _ _ _ _ _
      refine r_cv2_I X mdX4_queue wml_X4_250 dX4_digestPort_59 ⟨rfl, rfl, Nat.le_of_ble_eq_true rfl, Nat.le_of_ble_eq_true rfl⟩ (by decide) rfl rfl (Nat.le_of_ble_eq_true rfl) rfl (zroom Z) (c_queue hR hI) ?_
      show Rn G κ 62 _ _ _ _ _
      refine r_top (queueS_in hxp hp6 hiq hq.1 hq20) ?_
      refine r_i2l X dX4_digestPort_62 ?_
      refine r_cs2_L X mdX4_mix wml_X4_231 dX4_digestPort_63 ⟨rfl, rfl, Nat.le_of_ble_eq_true rfl, Nat.le_of_ble_eq_true rfl⟩ (Nat.le_of_ble_eq_true rfl) rfl (zroom Z) (c_mix) ?_
      show Rn G κ 66 _ _ _ _ _
      refine r_lstore_4 X dX4_digestPort_66 rfl ?_
      refine r_iinc_7 (nI (i + 1)) X dX4_digestPort_68 (nI_1 i) rfl ?_
      refine r_goto 46 X dX4_digestPort_71 (by decide) ?_
      exact ih (i + 1) (by omega)
  have loop1 : ∀ n i : Nat, i + n = 10 → Rn G κ 6 [some (.ref (G.1 0 0)), some (.long h), none, some (.int (nI p)), some (.long (fldN (ofV a p) h i)), none, some (.int (nI i)), none] [] C M hl := by
    intro n
    induction n with
    | zero =>
      intro i hi
      have hi : i = 10 := by omega
      subst hi
      refine r_iload X dX4_digestPort_6 rfl ?_
      refine r_bipush (9) X dX4_digestPort_8 (by decide) ?_
      refine r_icmpgt 34 X dX4_digestPort_10 (by decide) (fun c10 => ?_) (fun c10 => absurd (by decide) c10)
      show Rn G κ 34 _ _ _ _ _
      refine r_aload_n X dX4_digestPort_34 rfl ?_
      refine r_iload_n X dX4_digestPort_35 rfl ?_
      refine r_bipush (9) X dX4_digestPort_36 (by decide) ?_
      refine r_cv2_I X mdX4_of wml_X4_247 dX4_digestPort_38 ⟨rfl, rfl, Nat.le_of_ble_eq_true rfl, Nat.le_of_ble_eq_true rfl⟩ (by decide) rfl rfl (Nat.le_of_ble_eq_true rfl) rfl (zroom Z) (c_of hR hI) ?_
      show Rn G κ 41 _ _ _ _ _
      refine r_top (show ofS a (nI p) 9 = a 17 p from ofS_in (w := 9) hxp hp6 (by decide)) ?_
      show Rn G κ 41 _ _ _ _ _
      refine r_istore_6 X dX4_digestPort_41 rfl ?_
      refine r_iconst (0) X dX4_digestPort_43 (by decide) ?_
      refine r_istore_7 X dX4_digestPort_44 rfl ?_
      exact loop2 (qm a p) 0 (by omega)
    | succ n ih =>
      intro i hi
      have hi10 : i < 10 := by omega
      refine r_iload X dX4_digestPort_6 rfl ?_
      refine r_bipush (9) X dX4_digestPort_8 (by decide) ?_
      refine r_icmpgt 34 X dX4_digestPort_10 (by decide) (fun c10 => absurd c10 (by simp only [i_lt, i_le, i_eq, i_m1, i_0, i_1, i_2, i_3, i_4, i_5, i_6, i_7, i_8, i_9, i_10, i_11, i_12, i_17, i_20, i_24, i_32, i_44, i_48, i_50, i_51, i_52, i_57, i_58, i_100, i_126, i_n (show i < 2 ^ 31 by omega)]; omega)) (fun c10 => ?_)
      show Rn G κ 13 _ _ _ _ _
      refine r_lload X dX4_digestPort_13 rfl ?_
      refine r_aload_n X dX4_digestPort_15 rfl ?_
      refine r_iload_n X dX4_digestPort_16 rfl ?_
      refine r_iload X dX4_digestPort_17 rfl ?_
      show Rn G κ 19 _ _ _ _ _
      refine r_cv2_I X mdX4_of wml_X4_247 dX4_digestPort_19 ⟨rfl, rfl, Nat.le_of_ble_eq_true rfl, Nat.le_of_ble_eq_true rfl⟩ (by decide) rfl rfl (Nat.le_of_ble_eq_true rfl) rfl (zroom Z) (c_of hR hI) ?_
      show Rn G κ 22 _ _ _ _ _
      refine r_top (ofS_in hxp hp6 hi10) ?_
      refine r_i2l X dX4_digestPort_22 ?_
      refine r_cs2_L X mdX4_mix wml_X4_231 dX4_digestPort_23 ⟨rfl, rfl, Nat.le_of_ble_eq_true rfl, Nat.le_of_ble_eq_true rfl⟩ (Nat.le_of_ble_eq_true rfl) rfl (zroom Z) (c_mix) ?_
      show Rn G κ 26 _ _ _ _ _
      refine r_lstore_4 X dX4_digestPort_26 rfl ?_
      refine r_iinc_6 (nI (i + 1)) X dX4_digestPort_28 (nI_1 i) rfl ?_
      refine r_goto 6 X dX4_digestPort_31 (by decide) ?_
      exact ih (i + 1) (by omega)
  refine r_lload_n X dX4_digestPort_0 rfl ?_
  refine r_lstore_4 X dX4_digestPort_1 rfl ?_
  refine r_iconst (0) X dX4_digestPort_3 (by decide) ?_
  refine r_istore_6 X dX4_digestPort_4 rfl ?_
  exact loop1 10 0 (by omega)
set_option maxRecDepth 100000 in
set_option maxHeartbeats 4000000 in
theorem c_digest {G : bpG} {C : bpC} {M : bpM} {hl : Int64} {a : bpM} {k : Nat} (hR : RA C a 9) (hI : Inv a k) : Ct G yX4_digest cX4_digest 5 (some .long) rmX4_digest [.ref (G.1 0 0)] C M hl (qL C M hl (digS a)) := by
  refine ct_of [some (.ref (G.1 0 0)), none, none, none, none] (by decide +kernel) rfl rfl (Nat.le_of_ble_eq_true rfl) ?_
  intro κ X Z
  have hc : C 0 0 3 = nI (np a) := hR.1.1.1.trans hR.1.2.1.1
  have hn6 := hR.1.2.1.2.1
  have hsz : C 1 0 1 = nI (pl a) := hR.1.1.2.2.2.2.2.2.2.1.trans hI.2.2.2.2.1
  have h17 := hI.2.2.2.2.2
  have loop5 : ∀ (n i : Nat) (z : Option Value), i + n = 12 → Rn G κ 157 [some (.ref (G.1 0 0)), some (.long (fldN (cntV a) (fldN (a 1) (dfN a (dkN a (dpN a (np a)) 4) 12) (pl a)) i)), none, some (.int (nI i)), z] [] C M hl := by
    intro n
    induction n with
    | zero =>
      intro i z hi
      have hi : i = 12 := by omega
      subst hi
      refine r_iload_n X dX4_digest_157 rfl ?_
      refine r_bipush (11) X dX4_digest_158 (by decide) ?_
      refine r_icmpgt 180 X dX4_digest_160 (by decide) (fun c160 => ?_) (fun c160 => absurd (by decide) c160)
      show Rn G κ 180 _ _ _ _ _
      refine r_lload_n X dX4_digest_180 rfl ?_
      refine r_lret X Z dX4_digest_181 ?_
      exact ⟨rfl, rfl, rfl, rfl⟩
    | succ n ih =>
      intro i z hi
      have hil : i < 12 := by omega
      refine r_iload_n X dX4_digest_157 rfl ?_
      refine r_bipush (11) X dX4_digest_158 (by decide) ?_
      refine r_icmpgt 180 X dX4_digest_160 (by decide) (fun c160 => absurd c160 (by simp only [i_lt, i_le, i_eq, i_m1, i_0, i_1, i_2, i_3, i_4, i_5, i_6, i_7, i_8, i_9, i_10, i_11, i_12, i_17, i_20, i_24, i_32, i_44, i_48, i_50, i_51, i_52, i_57, i_58, i_100, i_126, i_n (show i < 2 ^ 31 by omega)]; omega)) (fun c160 => ?_)
      show Rn G κ 163 _ _ _ _ _
      refine r_lload_n X dX4_digest_163 rfl ?_
      refine r_aload_n X dX4_digest_164 rfl ?_
      refine r_iload_n X dX4_digest_165 rfl ?_
      refine r_cv1_I X mdX4_count wml_X4_244 dX4_digest_166 ⟨rfl, rfl, Nat.le_of_ble_eq_true rfl, Nat.le_of_ble_eq_true rfl⟩ (by decide) rfl rfl (Nat.le_of_ble_eq_true rfl) rfl (zroom Z) (c_count hR hI) ?_
      show Rn G κ 169 _ _ _ _ _
      refine r_top (countS_in hil) ?_
      show Rn G κ 169 _ _ _ _ _
      refine r_i2l X dX4_digest_169 ?_
      refine r_cs2_L X mdX4_mix wml_X4_231 dX4_digest_170 ⟨rfl, rfl, Nat.le_of_ble_eq_true rfl, Nat.le_of_ble_eq_true rfl⟩ (Nat.le_of_ble_eq_true rfl) rfl (zroom Z) (c_mix) ?_
      show Rn G κ 173 _ _ _ _ _
      refine r_lstore_1 X dX4_digest_173 rfl ?_
      refine r_iinc_3 (nI (i + 1)) X dX4_digest_174 (nI_1 i) rfl ?_
      refine r_goto 157 X dX4_digest_177 (by decide) ?_
      exact ih (i + 1) _ (by omega)
  have loop4 : ∀ (n i : Nat) (z : Option Value), i + n = pl a → Rn G κ 124 [some (.ref (G.1 0 0)), some (.long (fldN (a 1) (dfN a (dkN a (dpN a (np a)) 4) 12) i)), none, some (.int (nI i)), z] [] C M hl := by
    intro n
    induction n with
    | zero =>
      intro i z hi
      have hi : i = pl a := by omega
      subst hi
      refine r_iload_n X dX4_digest_124 rfl ?_
      refine r_aload_n X dX4_digest_125 rfl ?_
      refine r_gr0_0 X wfl_X4_10 dX4_digest_126 ?_
      refine r_gi1 1 X wfl_X4_56 dX4_digest_129 (by decide) rfl ?_
      refine r_icmpge 155 X dX4_digest_132 (by decide) (fun c132 => ?_) (fun c132 => absurd (by rw [hsz]; exact Int32.le_refl _) c132)
      show Rn G κ 155 _ _ _ _ _
      refine r_iconst (0) X dX4_digest_155 (by decide) ?_
      refine r_istore_3 X dX4_digest_156 rfl ?_
      exact loop5 12 0 _ (by omega)
    | succ n ih =>
      intro i z hi
      have hil : i < pl a := by omega
      refine r_iload_n X dX4_digest_124 rfl ?_
      refine r_aload_n X dX4_digest_125 rfl ?_
      refine r_gr0_0 X wfl_X4_10 dX4_digest_126 ?_
      refine r_gi1 1 X wfl_X4_56 dX4_digest_129 (by decide) rfl ?_
      refine r_icmpge 155 X dX4_digest_132 (by decide) (fun c132 => absurd c132 (by rw [hsz]; simp only [i_lt, i_le, i_eq, i_m1, i_0, i_1, i_2, i_3, i_4, i_5, i_6, i_7, i_8, i_9, i_10, i_11, i_12, i_17, i_20, i_24, i_32, i_44, i_48, i_50, i_51, i_52, i_57, i_58, i_100, i_126, i_n (show pl a < 2 ^ 31 by omega), i_n (show i < 2 ^ 31 by omega)]; omega)) (fun c132 => ?_)
      show Rn G κ 135 _ _ _ _ _
      refine r_lload_n X dX4_digest_135 rfl ?_
      refine r_aload_n X dX4_digest_136 rfl ?_
      show Rn G κ 137 _ _ _ _ _
      refine r_gr0_0 X wfl_X4_10 dX4_digest_137 ?_
      refine r_iload_n X dX4_digest_140 rfl ?_
      refine r_cv1_I X mdX1_codeAt wml_X4_241 dX4_digest_141 ⟨rfl, rfl, Nat.le_of_ble_eq_true rfl, Nat.le_of_ble_eq_true rfl⟩ (by decide) rfl rfl (Nat.le_of_ble_eq_true rfl) rfl (zroom Z) (c_codeAt h17 hil hsz) ?_
      show Rn G κ 144 _ _ _ _ _
      refine r_top (hR.1.1.2.2.2.2.2.2.2.2 i hil) ?_
      refine r_i2l X dX4_digest_144 ?_
      refine r_cs2_L X mdX4_mix wml_X4_231 dX4_digest_145 ⟨rfl, rfl, Nat.le_of_ble_eq_true rfl, Nat.le_of_ble_eq_true rfl⟩ (Nat.le_of_ble_eq_true rfl) rfl (zroom Z) (c_mix) ?_
      show Rn G κ 148 _ _ _ _ _
      refine r_lstore_1 X dX4_digest_148 rfl ?_
      refine r_iinc_3 (nI (i + 1)) X dX4_digest_149 (nI_1 i) rfl ?_
      refine r_goto 124 X dX4_digest_152 (by decide) ?_
      exact ih (i + 1) _ (by omega)
  have loop3 : ∀ (n i : Nat) (z : Option Value), i + n = 12 → Rn G κ 70 [some (.ref (G.1 0 0)), some (.long (dfN a (dkN a (dpN a (np a)) 4) i)), none, some (.int (nI i)), z] [] C M hl := by
    intro n
    induction n with
    | zero =>
      intro i z hi
      have hi : i = 12 := by omega
      subst hi
      refine r_iload_n X dX4_digest_70 rfl ?_
      refine r_bipush (12) X dX4_digest_71 (by decide) ?_
      refine r_icmpge 122 X dX4_digest_73 (by decide) (fun c73 => ?_) (fun c73 => absurd (by decide) c73)
      show Rn G κ 122 _ _ _ _ _
      refine r_iconst (0) X dX4_digest_122 (by decide) ?_
      refine r_istore_3 X dX4_digest_123 rfl ?_
      exact loop4 (pl a) 0 _ (by omega)
    | succ n ih =>
      intro i z hi
      have hil : i < 12 := by omega
      have in3 : ∀ (m j : Nat), j + m = 7 → Rn G κ 90 [some (.ref (G.1 0 0)), some (.long (fldN (fun w => a (fsl w) i) (31 * dfN a (dkN a (dpN a (np a)) 4) i + (oI (way a i)).toInt64) j)), none, some (.int (nI i)), some (.int (nI j))] [] C M hl := by
        intro m
        induction m with
        | zero =>
          intro j hj
          have hj : j = 7 := by omega
          subst hj
          refine r_iload X dX4_digest_90 rfl ?_
          refine r_bipush (6) X dX4_digest_92 (by decide) ?_
          refine r_icmpgt 116 X dX4_digest_94 (by decide) (fun c94 => ?_) (fun c94 => absurd (by decide) c94)
          show Rn G κ 116 _ _ _ _ _
          refine r_iinc_3 (nI (i + 1)) X dX4_digest_116 (nI_1 i) rfl ?_
          refine r_goto 70 X dX4_digest_119 (by decide) ?_
          exact ih (i + 1) _ (by omega)
        | succ m ihm =>
          intro j hj
          have hjl : j < 7 := by omega
          refine r_iload X dX4_digest_90 rfl ?_
          refine r_bipush (6) X dX4_digest_92 (by decide) ?_
          refine r_icmpgt 116 X dX4_digest_94 (by decide) (fun c94 => absurd c94 (by simp only [i_lt, i_le, i_eq, i_m1, i_0, i_1, i_2, i_3, i_4, i_5, i_6, i_7, i_8, i_9, i_10, i_11, i_12, i_17, i_20, i_24, i_32, i_44, i_48, i_50, i_51, i_52, i_57, i_58, i_100, i_126, i_n (show j < 2 ^ 31 by omega)]; omega)) (fun c94 => ?_)
          show Rn G κ 97 _ _ _ _ _
          refine r_lload_n X dX4_digest_97 rfl ?_
          refine r_aload_n X dX4_digest_98 rfl ?_
          refine r_iload_n X dX4_digest_99 rfl ?_
          refine r_iload X dX4_digest_100 rfl ?_
          show Rn G κ 102 _ _ _ _ _
          refine r_cv2_I X mdX4_flow wml_X4_238 dX4_digest_102 ⟨rfl, rfl, Nat.le_of_ble_eq_true rfl, Nat.le_of_ble_eq_true rfl⟩ (by decide) rfl rfl (Nat.le_of_ble_eq_true rfl) rfl (zroom Z) (c_flow hR hI) ?_
          show Rn G κ 105 _ _ _ _ _
          refine r_top (flowS_in hil hjl) ?_
          refine r_i2l X dX4_digest_105 ?_
          refine r_cs2_L X mdX4_mix wml_X4_231 dX4_digest_106 ⟨rfl, rfl, Nat.le_of_ble_eq_true rfl, Nat.le_of_ble_eq_true rfl⟩ (Nat.le_of_ble_eq_true rfl) rfl (zroom Z) (c_mix) ?_
          show Rn G κ 109 _ _ _ _ _
          refine r_lstore_1 X dX4_digest_109 rfl ?_
          refine r_iinc_4 (nI (j + 1)) X dX4_digest_110 (nI_1 j) rfl ?_
          refine r_goto 90 X dX4_digest_113 (by decide) ?_
          exact ihm (j + 1) (by omega)
      refine r_iload_n X dX4_digest_70 rfl ?_
      refine r_bipush (12) X dX4_digest_71 (by decide) ?_
      refine r_icmpge 122 X dX4_digest_73 (by decide) (fun c73 => absurd c73 (by simp only [i_lt, i_le, i_eq, i_m1, i_0, i_1, i_2, i_3, i_4, i_5, i_6, i_7, i_8, i_9, i_10, i_11, i_12, i_17, i_20, i_24, i_32, i_44, i_48, i_50, i_51, i_52, i_57, i_58, i_100, i_126, i_n (show i < 2 ^ 31 by omega)]; omega)) (fun c73 => ?_)
      show Rn G κ 76 _ _ _ _ _
      refine r_lload_n X dX4_digest_76 rfl ?_
      refine r_aload_n X dX4_digest_77 rfl ?_
      refine r_iload_n X dX4_digest_78 rfl ?_
      refine r_cv1_I X mdX4_way wml_X4_235 dX4_digest_79 ⟨rfl, rfl, Nat.le_of_ble_eq_true rfl, Nat.le_of_ble_eq_true rfl⟩ (by decide) rfl rfl (Nat.le_of_ble_eq_true rfl) rfl (zroom Z) (c_way hR hI) ?_
      show Rn G κ 82 _ _ _ _ _
      refine r_top (wayS_in hil) ?_
      show Rn G κ 82 _ _ _ _ _
      refine r_i2l X dX4_digest_82 ?_
      refine r_cs2_L X mdX4_mix wml_X4_231 dX4_digest_83 ⟨rfl, rfl, Nat.le_of_ble_eq_true rfl, Nat.le_of_ble_eq_true rfl⟩ (Nat.le_of_ble_eq_true rfl) rfl (zroom Z) (c_mix) ?_
      show Rn G κ 86 _ _ _ _ _
      refine r_lstore_1 X dX4_digest_86 rfl ?_
      refine r_iconst (0) X dX4_digest_87 (by decide) ?_
      refine r_istore_4 X dX4_digest_88 rfl ?_
      exact in3 7 0 (by omega)
  have loop2 : ∀ (n i : Nat) (z : Option Value), i + n = 4 → Rn G κ 29 [some (.ref (G.1 0 0)), some (.long (dkN a (dpN a (np a)) i)), none, some (.int (nI i)), z] [] C M hl := by
    intro n
    induction n with
    | zero =>
      intro i z hi
      have hi : i = 4 := by omega
      subst hi
      refine r_iload_n X dX4_digest_29 rfl ?_
      refine r_iconst (4) X dX4_digest_30 (by decide) ?_
      refine r_icmpge 68 X dX4_digest_31 (by decide) (fun c31 => ?_) (fun c31 => absurd (by decide) c31)
      show Rn G κ 68 _ _ _ _ _
      refine r_iconst (0) X dX4_digest_68 (by decide) ?_
      refine r_istore_3 X dX4_digest_69 rfl ?_
      exact loop3 12 0 _ (by omega)
    | succ n ih =>
      intro i z hi
      have hil : i < 4 := by omega
      have in2 : ∀ (m j : Nat), j + m = 4 → Rn G κ 37 [some (.ref (G.1 0 0)), some (.long (fldN (keyV a (nI i)) (dkN a (dpN a (np a)) i) j)), none, some (.int (nI i)), some (.int (nI j))] [] C M hl := by
        intro m
        induction m with
        | zero =>
          intro j hj
          have hj : j = 4 := by omega
          subst hj
          refine r_iload X dX4_digest_37 rfl ?_
          refine r_iconst (3) X dX4_digest_39 (by decide) ?_
          refine r_icmpgt 62 X dX4_digest_40 (by decide) (fun c40 => ?_) (fun c40 => absurd (by decide) c40)
          show Rn G κ 62 _ _ _ _ _
          refine r_iinc_3 (nI (i + 1)) X dX4_digest_62 (nI_1 i) rfl ?_
          refine r_goto 29 X dX4_digest_65 (by decide) ?_
          exact ih (i + 1) _ (by omega)
        | succ m ihm =>
          intro j hj
          have hjl : j < 4 := by omega
          refine r_iload X dX4_digest_37 rfl ?_
          refine r_iconst (3) X dX4_digest_39 (by decide) ?_
          refine r_icmpgt 62 X dX4_digest_40 (by decide) (fun c40 => absurd c40 (by simp only [i_lt, i_le, i_eq, i_m1, i_0, i_1, i_2, i_3, i_4, i_5, i_6, i_7, i_8, i_9, i_10, i_11, i_12, i_17, i_20, i_24, i_32, i_44, i_48, i_50, i_51, i_52, i_57, i_58, i_100, i_126, i_n (show j < 2 ^ 31 by omega)]; omega)) (fun c40 => ?_)
          show Rn G κ 43 _ _ _ _ _
          refine r_lload_n X dX4_digest_43 rfl ?_
          refine r_aload_n X dX4_digest_44 rfl ?_
          refine r_iload_n X dX4_digest_45 rfl ?_
          refine r_iload X dX4_digest_46 rfl ?_
          show Rn G κ 48 _ _ _ _ _
          refine r_cv2_I X mdX4_key wml_X4_228 dX4_digest_48 ⟨rfl, rfl, Nat.le_of_ble_eq_true rfl, Nat.le_of_ble_eq_true rfl⟩ (by decide) rfl rfl (Nat.le_of_ble_eq_true rfl) rfl (zroom Z) (c_key hR hI) ?_
          show Rn G κ 51 _ _ _ _ _
          refine r_top (keyS_in hil hjl) ?_
          refine r_i2l X dX4_digest_51 ?_
          refine r_cs2_L X mdX4_mix wml_X4_231 dX4_digest_52 ⟨rfl, rfl, Nat.le_of_ble_eq_true rfl, Nat.le_of_ble_eq_true rfl⟩ (Nat.le_of_ble_eq_true rfl) rfl (zroom Z) (c_mix) ?_
          show Rn G κ 55 _ _ _ _ _
          refine r_lstore_1 X dX4_digest_55 rfl ?_
          refine r_iinc_4 (nI (j + 1)) X dX4_digest_56 (nI_1 j) rfl ?_
          refine r_goto 37 X dX4_digest_59 (by decide) ?_
          exact ihm (j + 1) (by omega)
      refine r_iload_n X dX4_digest_29 rfl ?_
      refine r_iconst (4) X dX4_digest_30 (by decide) ?_
      refine r_icmpge 68 X dX4_digest_31 (by decide) (fun c31 => absurd c31 (by simp only [i_lt, i_le, i_eq, i_m1, i_0, i_1, i_2, i_3, i_4, i_5, i_6, i_7, i_8, i_9, i_10, i_11, i_12, i_17, i_20, i_24, i_32, i_44, i_48, i_50, i_51, i_52, i_57, i_58, i_100, i_126, i_n (show i < 2 ^ 31 by omega)]; omega)) (fun c31 => ?_)
      show Rn G κ 34 _ _ _ _ _
      refine r_iconst (0) X dX4_digest_34 (by decide) ?_
      refine r_istore_4 X dX4_digest_35 rfl ?_
      exact in2 4 0 (by omega)
  have loop1 : ∀ (n i : Nat) (z : Option Value), i + n = np a → Rn G κ 6 [some (.ref (G.1 0 0)), some (.long (dpN a i)), none, some (.int (nI i)), z] [] C M hl := by
    intro n
    induction n with
    | zero =>
      intro i z hi
      have hi : i = np a := by omega
      subst hi
      refine r_iload_n X dX4_digest_6 rfl ?_
      refine r_aload_n X dX4_digest_7 rfl ?_
      refine r_gi0 3 X wfl_X4_28 dX4_digest_8 (by decide) rfl ?_
      refine r_icmpge 27 X dX4_digest_11 (by decide) (fun c11 => ?_) (fun c11 => absurd (by rw [hc]; exact Int32.le_refl _) c11)
      show Rn G κ 27 _ _ _ _ _
      refine r_iconst (0) X dX4_digest_27 (by decide) ?_
      refine r_istore_3 X dX4_digest_28 rfl ?_
      exact loop2 4 0 _ (by omega)
    | succ n ih =>
      intro i z hi
      have hil : i < np a := by omega
      refine r_iload_n X dX4_digest_6 rfl ?_
      refine r_aload_n X dX4_digest_7 rfl ?_
      refine r_gi0 3 X wfl_X4_28 dX4_digest_8 (by decide) rfl ?_
      refine r_icmpge 27 X dX4_digest_11 (by decide) (fun c11 => absurd c11 (by rw [hc]; simp only [i_lt, i_le, i_eq, i_m1, i_0, i_1, i_2, i_3, i_4, i_5, i_6, i_7, i_8, i_9, i_10, i_11, i_12, i_17, i_20, i_24, i_32, i_44, i_48, i_50, i_51, i_52, i_57, i_58, i_100, i_126, i_n (show np a < 2 ^ 31 by omega), i_n (show i < 2 ^ 31 by omega)]; omega)) (fun c11 => ?_)
      show Rn G κ 14 _ _ _ _ _
      refine r_aload_n X dX4_digest_14 rfl ?_
      refine r_lload_n X dX4_digest_15 rfl ?_
      refine r_iload_n X dX4_digest_16 rfl ?_
      show Rn G κ 17 _ _ _ _ _
      refine r_cv2_L X mdX4_digestPort wml_X4_224 dX4_digest_17 ⟨rfl, rfl, Nat.le_of_ble_eq_true rfl, Nat.le_of_ble_eq_true rfl⟩ (by decide) rfl rfl (Nat.le_of_ble_eq_true rfl) rfl (zroom Z) (c_digestPort hR hI hil) ?_
      show Rn G κ 20 _ _ _ _ _
      refine r_lstore_1 X dX4_digest_20 rfl ?_
      refine r_iinc_3 (nI (i + 1)) X dX4_digest_21 (nI_1 i) rfl ?_
      refine r_goto 6 X dX4_digest_24 (by decide) ?_
      exact ih (i + 1) _ (by omega)
  refine r_ldc2 wcL_X4_222 X dX4_digest_0 ?_
  refine r_lstore_1 X dX4_digest_3 rfl ?_
  refine r_iconst (0) X dX4_digest_4 (by decide) ?_
  refine r_istore_3 X dX4_digest_5 rfl ?_
  exact loop1 (np a) 0 _ (by omega)
