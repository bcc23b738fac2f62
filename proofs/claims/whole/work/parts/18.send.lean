set_option maxRecDepth 100000 in
set_option maxHeartbeats 4000000 in
theorem c_holdR {G : bpG} {C : bpC} {M : bpM} {hl : Int64} {a : bpM} {ex f : Nat} {n : Int32} (hR : RA C a ex) (hf : f < 12) (h20 : a 20 f = nI (hm a f)) (hall : ∀ g, g < 12 → hm a g ≤ 8) : Ct G yX0_hold cX0_hold 2 (some .boolean) rmX0_hold [.ref (G.1 9 f), .int n] C M hl (qCi M hl (fun C' r => RA C' (holdF a f n).1 ex ∧ r = bI (decide ((holdF a f n).2 = 1)))) := by
  have h8 := hall f hf
  have e1 : C 9 f 1 = nI (hm a f) := (hR.2.2.2 f hf).1.trans h20
  refine ct_of [some (.ref (G.1 9 f)), some (.int n)] (by decide +kernel) rfl rfl (Nat.le_of_ble_eq_true rfl) ?_
  intro κ X Z
  refine r_aload_n X dX0_hold_0 rfl ?_
  refine r_gi9 1 X (by assumption) wfl_X0_15 dX0_hold_1 (by decide) rfl ?_
  refine r_bipush (8) X dX0_hold_4 (by decide) ?_
  refine r_icmplt 21 X dX0_hold_6 (by decide) (fun c6 => ?_) (fun c6 => ?_)
  · show Rn G κ 21 _ _ _ _ _
    refine r_aload_n X dX0_hold_21 rfl ?_
    refine r_gr9_0 X (by assumption) wfl_X0_9 dX0_hold_22 ?_
    refine r_aload_n X dX0_hold_25 rfl ?_
    refine r_gi9 1 X (by assumption) wfl_X0_15 dX0_hold_26 (by decide) rfl ?_
    refine r_iload_n X dX0_hold_29 rfl ?_
    refine r_isC (hm a f) X e1 (show hm a f < 8 by rw [e1, i_lt, i_8, i_n (by omega)] at c6; omega) (by assumption) dX0_hold_30 (by decide) rfl rfl rfl ?_
    refine r_aload_n X dX0_hold_31 rfl ?_
    show Rn G κ 32 _ _ _ _ _
    refine r_dup X dX0_hold_32 rfl ?_
    refine r_gi9 1 X (by assumption) wfl_X0_15 dX0_hold_33 (by decide) rfl ?_
    refine r_iconst (1) X dX0_hold_36 (by decide) ?_
    refine r_iadd X dX0_hold_37 ?_
    refine r_pi9 1 X (by assumption) wfl_X0_15 dX0_hold_38 (by decide) rfl rfl (by decide +kernel) ?_
    refine r_iconst (1) X dX0_hold_41 (by decide) ?_
    refine r_zret X Z dX0_hold_42 (by decide) ?_
    have hlt : hm a f < 8 := by rw [e1, i_lt, i_8, i_n (by omega)] at c6; omega
    have e8 : ¬ a 20 f = 8 := by rw [h20, i_eq, i_8, i_n (by omega)]; omega
    have e : holdF a f n = (upM (upM a 21 (8 * f + hm a f) n) 20 f (a 20 f + 1), 1) := by unfold holdF; rw [if_neg e8]
    rw [e]
    refine ⟨rfl, rfl, _, rfl, ?_, rfl⟩
    have := RA_hold (n := n) hR hf h20 hlt hall
    rw [upC_ne _ _ _ _ _ (by simp), e1, nI_1]
    exact this
  · show Rn G κ 9 _ _ _ _ _
    refine r_aload_n X dX0_hold_9 rfl ?_
    refine r_dup X dX0_hold_10 rfl ?_
    refine r_gi9 6 X (by assumption) wfl_X0_32 dX0_hold_11 (by decide) rfl ?_
    refine r_iconst (1) X dX0_hold_14 (by decide) ?_
    refine r_iadd X dX0_hold_15 ?_
    refine r_pi9 6 X (by assumption) wfl_X0_32 dX0_hold_16 (by decide) rfl rfl (by decide +kernel) ?_
    refine r_iconst (0) X dX0_hold_19 (by decide) ?_
    show Rn G κ 20 _ _ _ _ _
    refine r_zret X Z dX0_hold_20 (by decide) ?_
    have e8 : a 20 f = 8 := by
      rw [e1, i_lt, i_8, i_n (by omega)] at c6
      rw [h20, show hm a f = 8 by omega]; rfl
    have e : holdF a f n = (lostF a f, 2) := by unfold holdF; rw [if_pos e8]
    rw [e]
    exact ⟨rfl, rfl, _, rfl, RA_lost hR hf, rfl⟩
set_option maxRecDepth 100000 in
set_option maxHeartbeats 4000000 in
theorem c_send {G : bpG} {C : bpC} {M : bpM} {hl : Int64} {a : bpM} {k f : Nat} (hR : RA C a 9) (hQ : IQ a) (hF : IF a k) (hP : IP a) (hf : f < 12) (hn : 0 < np a) : Ct G yX4_send cX4_send 4 (some .int) rmX4_send [.ref (G.1 0 0), .int (nI f)] C M hl (qCi M hl (fun C' r => RA C' (sendF a f).1 9 ∧ r = (sendF a f).2)) := by
  refine ct_of [some (.ref (G.1 0 0)), some (.int (nI f)), none, none] (by decide +kernel) rfl rfl (Nat.le_of_ble_eq_true rfl) ?_
  intro κ X Z
  have hc : C 0 0 3 = nI (np a) := hR.1.1.1.trans hR.1.2.1.1
  have hn6 := hR.1.2.1.2.1
  refine r_iload_n X dX4_send_0 rfl ?_
  refine r_cs1_I X mdX4_isFlow wml_X4_175 dX4_send_1 ⟨rfl, rfl, Nat.le_of_ble_eq_true rfl, Nat.le_of_ble_eq_true rfl⟩ (Nat.le_of_ble_eq_true rfl) rfl (zroom Z) (c_isFlow) ?_
  show Rn G κ 4 _ _ _ _ _
  refine r_ifne 11 X dX4_send_4 (by decide) (fun c4 => ?_) (fun c4 => absurd c4 (by rw [show (decide (0 ≤ nI f) && decide (nI f < 12)) = true by simp only [Bool.and_eq_true, Bool.or_eq_true, decide_eq_true_eq, Bool.and_eq_false_iff, Bool.or_eq_false_iff, decide_eq_false_iff_not, Bool.not_eq_true', Bool.not_eq_false', i_lt, i_le, i_eq, i_m1, i_0, i_1, i_2, i_3, i_4, i_5, i_6, i_7, i_8, i_9, i_10, i_11, i_12, i_17, i_20, i_24, i_32, i_44, i_48, i_50, i_51, i_52, i_57, i_58, i_100, i_126, i_n (show f < 2 ^ 31 by omega)]; omega]; decide))
  show Rn G κ 11 _ _ _ _ _
  refine r_aload_n X dX4_send_11 rfl ?_
  refine r_gi0 3 X wfl_X4_28 dX4_send_12 (by decide) rfl ?_
  refine r_ifne 22 X dX4_send_15 (by decide) (fun c15 => ?_) (fun c15 => absurd c15 (by rw [hc]; exact nI_ne0 hn (by omega)))
  show Rn G κ 22 _ _ _ _ _
  refine r_aload_n X dX4_send_22 rfl ?_
  show Rn G κ 23 _ _ _ _ _
  refine r_gr0_2 X wfl_X4_24 dX4_send_23 ?_
  refine r_iload_n X dX4_send_26 rfl ?_
  refine r_aaF _ X rfl (by assumption) dX4_send_27 ?_
  refine r_astore_2 X dX4_send_28 rfl ?_
  refine r_aload_n X dX4_send_29 rfl ?_
  refine r_dup X dX4_send_30 rfl ?_
  refine r_gi9 4 X (by assumption) wfl_X4_181 dX4_send_31 (by decide) rfl ?_
  refine r_iconst (1) X dX4_send_34 (by decide) ?_
  show Rn G κ 35 _ _ _ _ _
  refine r_iadd X dX4_send_35 ?_
  refine r_pi9 4 X (by assumption) wfl_X4_181 dX4_send_36 (by decide) rfl rfl (by decide +kernel) ?_
  have e22 : C 9 f 4 = a 22 f := (hR.2.2.2 f hf).2.2.2.1
  rw [e22]
  have hR1 := RA_flow (v := a 22 f + 1) hR hf (s := 4) (t := 22) (by omega)
  have hQ1 : IQ (upM a 22 f (a 22 f + 1)) := IQ_up (by omega) hQ
  have hF1 := IF_sent hf hF
  rw [sendF_eq] at Z
  generalize upM a 22 f (a 22 f + 1) = a1 at hR1 hQ1 hF1 Z
  generalize upC C 9 f 4 (a 22 f + 1) = C1 at hR1 ⊢
  refine r_aload_n X dX4_send_39 rfl ?_
  refine r_gi9 3 X (by assumption) wfl_X4_184 dX4_send_40 (by decide) rfl ?_
  refine r_top (show C1 9 f 3 = a1 19 f from (hR1.2.2.2 f hf).2.2.1) ?_
  refine r_ifeq 63 X dX4_send_43 (by decide) (fun c43 => ?_) (fun c43 => ?_)
  · have h0 : a1 19 f = 0 := c43
    show Rn G κ 63 _ _ _ _ _
    cases hw : way a1 f with
    | none =>
      have hG : sendG a1 f = (lostF a1 f, 2) := by unfold sendG; rw [if_neg (Classical.not_not.mpr h0), hw]
      refine r_aload_n X dX4_send_63 rfl ?_
      refine r_iload_n X dX4_send_64 rfl ?_
      refine r_cv1_I X mdX4_wayOf wml_X4_178 dX4_send_65 ⟨rfl, rfl, Nat.le_of_ble_eq_true rfl, Nat.le_of_ble_eq_true rfl⟩ (by decide) rfl rfl (Nat.le_of_ble_eq_true rfl) rfl (zroom Z) (c_wayOf hR1.1 hR1.2.1 hf) ?_
      show Rn G κ 68 _ _ _ _ _
      refine r_top (show oI (way a1 f) = -1 by rw [hw]; rfl) ?_
      refine r_istore_3 X dX4_send_68 rfl ?_
      refine r_iload_n X dX4_send_69 rfl ?_
      refine r_iconst (-1) X dX4_send_70 (by decide) ?_
      refine r_icmpne 86 X dX4_send_71 (by decide) (fun c71 => absurd rfl c71) (fun c71 => ?_)
      show Rn G κ 74 _ _ _ _ _
      show Rn G κ 74 _ _ _ _ _
      refine r_aload_n X dX4_send_74 rfl ?_
      refine r_dup X dX4_send_75 rfl ?_
      refine r_gi9 6 X (by assumption) wfl_X4_190 dX4_send_76 (by decide) rfl ?_
      refine r_iconst (1) X dX4_send_79 (by decide) ?_
      refine r_iadd X dX4_send_80 ?_
      refine r_pi9 6 X (by assumption) wfl_X4_190 dX4_send_81 (by decide) rfl rfl (by decide +kernel) ?_
      refine r_iconst (2) X dX4_send_84 (by decide) ?_
      refine r_iret X Z dX4_send_85 ?_
      rw [hG]
      exact ⟨rfl, rfl, _, rfl, RA_lost hR1 hf, rfl⟩
    | some q =>
      have hq := way_lt hw
      have hq6 : q < 6 := by have := hR1.1.2.1.2.1; omega
      refine r_aload_n X dX4_send_63 rfl ?_
      refine r_iload_n X dX4_send_64 rfl ?_
      refine r_cv1_I X mdX4_wayOf wml_X4_178 dX4_send_65 ⟨rfl, rfl, Nat.le_of_ble_eq_true rfl, Nat.le_of_ble_eq_true rfl⟩ (by decide) rfl rfl (Nat.le_of_ble_eq_true rfl) rfl (zroom Z) (c_wayOf hR1.1 hR1.2.1 hf) ?_
      show Rn G κ 68 _ _ _ _ _
      refine r_top (show oI (way a1 f) = nI q by rw [hw]; rfl) ?_
      refine r_istore_3 X dX4_send_68 rfl ?_
      refine r_iload_n X dX4_send_69 rfl ?_
      refine r_iconst (-1) X dX4_send_70 (by decide) ?_
      refine r_icmpne 86 X dX4_send_71 (by decide) (fun c71 => ?_) (fun c71 => absurd c71 (nI_m1 (show q < 2 ^ 31 by omega)))
      show Rn G κ 86 _ _ _ _ _
      show Rn G κ 86 _ _ _ _ _
      refine r_aload_n X dX4_send_86 rfl ?_
      refine r_gi9 2 X (by assumption) wfl_X4_193 dX4_send_87 (by decide) rfl ?_
      refine r_iload_n X dX4_send_90 rfl ?_
      refine r_icmpeq 124 X dX4_send_91 (by decide) (fun c91 => ?_) (fun c91 => ?_)
      · show Rn G κ 124 _ _ _ _ _
        have hG : sendG a1 f = comeF (upM a1 18 f (nI q)) (some q) f (a1 22 f) := by
          unfold sendG
          rw [if_neg (Classical.not_not.mpr h0), hw]
          simp only
          rw [if_neg]
          rintro ⟨z1, z2, z3⟩
          exact z2 (((hR1.2.2.2 f hf).2.1).symm.trans c91)
        refine r_aload_n X dX4_send_124 rfl ?_
        refine r_iload_n X dX4_send_125 rfl ?_
        refine r_pi9 2 X (by assumption) wfl_X4_193 dX4_send_126 (by decide) rfl rfl (by decide +kernel) ?_
        have hR3 := RA_flow (v := nI q) hR1 hf (s := 2) (t := 18) (by omega)
        have hQ3 : QB (upM a1 18 f (nI q)) := QB_up (by omega) hQ1.qb
        refine r_aload_n X dX4_send_129 rfl ?_
        refine r_iload_n X dX4_send_130 rfl ?_
        refine r_aload_n X dX4_send_131 rfl ?_
        refine r_gi9 4 X (by assumption) wfl_X4_181 dX4_send_132 (by decide) rfl ?_
        refine r_top (show upC C1 9 f 2 (nI q) 9 f 4 = a1 22 f by rw [upC_ne _ _ _ _ _ (by simp)]; exact (hR1.2.2.2 f hf).2.2.2.1) ?_
        show Rn G κ 135 _ _ _ _ _
        refine r_iload_n X dX4_send_135 rfl ?_
        refine r_cv3_Ci X mdX4_putLetter wml_X4_203 dX4_send_136 ⟨rfl, rfl, Nat.le_of_ble_eq_true rfl, Nat.le_of_ble_eq_true rfl⟩ (by decide) rfl rfl (Nat.le_of_ble_eq_true rfl) rfl (zroom Z) (c_putLetter (w := some q) hR3 hQ3 hf (fun r hr => by cases hr; exact ⟨by rw [np_up (by omega)]; exact hq, by omega⟩)) (fun C2 r2 q2 => ?_)
        show Rn G κ 139 _ _ _ _ _
        refine r_ifeq 146 X dX4_send_139 (by decide) (fun c139 => ?_) (fun c139 => ?_)
        · show Rn G κ 146 _ _ _ _ _
          refine r_iconst (2) X dX4_send_146 (by decide) ?_
          refine r_iret X Z dX4_send_147 ?_
          rw [hG]
          refine ⟨rfl, rfl, _, rfl, q2.1, ?_⟩
          have c9 := c139
          rw [q2.2.2] at c9
          rcases come_02 (upM a1 18 f (nI q)) (some q) f (a1 22 f) with e | e
          · first | (rw [e] at c9 ⊢; done) | (rw [e] at c9; exact absurd c9 (by decide))
          · first | (rw [e] at c9 ⊢; done) | (rw [e] at c9; exact absurd rfl c9)
        · show Rn G κ 142 _ _ _ _ _
          refine r_iconst (0) X dX4_send_142 (by decide) ?_
          refine r_goto 147 X dX4_send_143 (by decide) ?_
          refine r_iret X Z dX4_send_147 ?_
          rw [hG]
          refine ⟨rfl, rfl, _, rfl, q2.1, ?_⟩
          have c9 := c139
          rw [q2.2.2] at c9
          rcases come_02 (upM a1 18 f (nI q)) (some q) f (a1 22 f) with e | e
          · first | (rw [e] at c9 ⊢; done) | (rw [e] at c9; exact absurd c9 (by decide))
          · first | (rw [e] at c9 ⊢; done) | (rw [e] at c9; exact absurd rfl c9)
      · show Rn G κ 94 _ _ _ _ _
        rcases (hF1 f hf).2.1 with eo | ⟨r, hr, eo⟩
        · have NOLET : a1 18 f ≠ -1 → hasL a1 (onN a1 f) f = true → False := fun z _ => z eo
          refine r_aload_n X dX4_send_94 rfl ?_
          refine r_iload_n X dX4_send_95 rfl ?_
          refine r_cv1_I X mdX4_hasLettersBehind wml_X4_196 dX4_send_96 ⟨rfl, rfl, Nat.le_of_ble_eq_true rfl, Nat.le_of_ble_eq_true rfl⟩ (by decide) rfl rfl (Nat.le_of_ble_eq_true rfl) rfl (zroom Z) (c_hasBehind_none hR1 hf eo) ?_
          show Rn G κ 99 _ _ _ _ _
          refine r_ifeq 124 X dX4_send_99 (by decide) (fun c99 => ?_) (fun c99 => absurd rfl c99)
          show Rn G κ 124 _ _ _ _ _
          have hG : sendG a1 f = comeF (upM a1 18 f (nI q)) (some q) f (a1 22 f) := by
            unfold sendG
            rw [if_neg (Classical.not_not.mpr h0), hw]
            simp only
            rw [if_neg]
            rintro ⟨z1, z2, z3⟩
            exact NOLET z1 z3
          refine r_aload_n X dX4_send_124 rfl ?_
          refine r_iload_n X dX4_send_125 rfl ?_
          refine r_pi9 2 X (by assumption) wfl_X4_193 dX4_send_126 (by decide) rfl rfl (by decide +kernel) ?_
          have hR3 := RA_flow (v := nI q) hR1 hf (s := 2) (t := 18) (by omega)
          have hQ3 : QB (upM a1 18 f (nI q)) := QB_up (by omega) hQ1.qb
          refine r_aload_n X dX4_send_129 rfl ?_
          refine r_iload_n X dX4_send_130 rfl ?_
          refine r_aload_n X dX4_send_131 rfl ?_
          refine r_gi9 4 X (by assumption) wfl_X4_181 dX4_send_132 (by decide) rfl ?_
          refine r_top (show upC C1 9 f 2 (nI q) 9 f 4 = a1 22 f by rw [upC_ne _ _ _ _ _ (by simp)]; exact (hR1.2.2.2 f hf).2.2.2.1) ?_
          show Rn G κ 135 _ _ _ _ _
          refine r_iload_n X dX4_send_135 rfl ?_
          refine r_cv3_Ci X mdX4_putLetter wml_X4_203 dX4_send_136 ⟨rfl, rfl, Nat.le_of_ble_eq_true rfl, Nat.le_of_ble_eq_true rfl⟩ (by decide) rfl rfl (Nat.le_of_ble_eq_true rfl) rfl (zroom Z) (c_putLetter (w := some q) hR3 hQ3 hf (fun r hr => by cases hr; exact ⟨by rw [np_up (by omega)]; exact hq, by omega⟩)) (fun C2 r2 q2 => ?_)
          show Rn G κ 139 _ _ _ _ _
          refine r_ifeq 146 X dX4_send_139 (by decide) (fun c139 => ?_) (fun c139 => ?_)
          · show Rn G κ 146 _ _ _ _ _
            refine r_iconst (2) X dX4_send_146 (by decide) ?_
            refine r_iret X Z dX4_send_147 ?_
            rw [hG]
            refine ⟨rfl, rfl, _, rfl, q2.1, ?_⟩
            have c9 := c139
            rw [q2.2.2] at c9
            rcases come_02 (upM a1 18 f (nI q)) (some q) f (a1 22 f) with e | e
            · first | (rw [e] at c9 ⊢; done) | (rw [e] at c9; exact absurd c9 (by decide))
            · first | (rw [e] at c9 ⊢; done) | (rw [e] at c9; exact absurd rfl c9)
          · show Rn G κ 142 _ _ _ _ _
            refine r_iconst (0) X dX4_send_142 (by decide) ?_
            refine r_goto 147 X dX4_send_143 (by decide) ?_
            refine r_iret X Z dX4_send_147 ?_
            rw [hG]
            refine ⟨rfl, rfl, _, rfl, q2.1, ?_⟩
            have c9 := c139
            rw [q2.2.2] at c9
            rcases come_02 (upM a1 18 f (nI q)) (some q) f (a1 22 f) with e | e
            · first | (rw [e] at c9 ⊢; done) | (rw [e] at c9; exact absurd c9 (by decide))
            · first | (rw [e] at c9 ⊢; done) | (rw [e] at c9; exact absurd rfl c9)
        · have hr6 : r < 6 := by have := hR1.1.2.1.2.1; omega
          have eon := onN_eq eo (show r < 2 ^ 31 by omega)
          refine r_aload_n X dX4_send_94 rfl ?_
          refine r_iload_n X dX4_send_95 rfl ?_
          refine r_cv1_I X mdX4_hasLettersBehind wml_X4_196 dX4_send_96 ⟨rfl, rfl, Nat.le_of_ble_eq_true rfl, Nat.le_of_ble_eq_true rfl⟩ (by decide) rfl rfl (Nat.le_of_ble_eq_true rfl) rfl (zroom Z) (c_hasBehind_some hR1 hQ1 hf hr eo) ?_
          show Rn G κ 99 _ _ _ _ _
          refine r_ifeq 124 X dX4_send_99 (by decide) (fun c99 => ?_) (fun c99 => ?_)
          · have NOLET : a1 18 f ≠ -1 → hasL a1 (onN a1 f) f = true → False := fun _ z => by rw [eon, bI_0 c99] at z; cases z
            show Rn G κ 124 _ _ _ _ _
            have hG : sendG a1 f = comeF (upM a1 18 f (nI q)) (some q) f (a1 22 f) := by
              unfold sendG
              rw [if_neg (Classical.not_not.mpr h0), hw]
              simp only
              rw [if_neg]
              rintro ⟨z1, z2, z3⟩
              exact NOLET z1 z3
            refine r_aload_n X dX4_send_124 rfl ?_
            refine r_iload_n X dX4_send_125 rfl ?_
            refine r_pi9 2 X (by assumption) wfl_X4_193 dX4_send_126 (by decide) rfl rfl (by decide +kernel) ?_
            have hR3 := RA_flow (v := nI q) hR1 hf (s := 2) (t := 18) (by omega)
            have hQ3 : QB (upM a1 18 f (nI q)) := QB_up (by omega) hQ1.qb
            refine r_aload_n X dX4_send_129 rfl ?_
            refine r_iload_n X dX4_send_130 rfl ?_
            refine r_aload_n X dX4_send_131 rfl ?_
            refine r_gi9 4 X (by assumption) wfl_X4_181 dX4_send_132 (by decide) rfl ?_
            refine r_top (show upC C1 9 f 2 (nI q) 9 f 4 = a1 22 f by rw [upC_ne _ _ _ _ _ (by simp)]; exact (hR1.2.2.2 f hf).2.2.2.1) ?_
            show Rn G κ 135 _ _ _ _ _
            refine r_iload_n X dX4_send_135 rfl ?_
            refine r_cv3_Ci X mdX4_putLetter wml_X4_203 dX4_send_136 ⟨rfl, rfl, Nat.le_of_ble_eq_true rfl, Nat.le_of_ble_eq_true rfl⟩ (by decide) rfl rfl (Nat.le_of_ble_eq_true rfl) rfl (zroom Z) (c_putLetter (w := some q) hR3 hQ3 hf (fun r hr => by cases hr; exact ⟨by rw [np_up (by omega)]; exact hq, by omega⟩)) (fun C2 r2 q2 => ?_)
            show Rn G κ 139 _ _ _ _ _
            refine r_ifeq 146 X dX4_send_139 (by decide) (fun c139 => ?_) (fun c139 => ?_)
            · show Rn G κ 146 _ _ _ _ _
              refine r_iconst (2) X dX4_send_146 (by decide) ?_
              refine r_iret X Z dX4_send_147 ?_
              rw [hG]
              refine ⟨rfl, rfl, _, rfl, q2.1, ?_⟩
              have c9 := c139
              rw [q2.2.2] at c9
              rcases come_02 (upM a1 18 f (nI q)) (some q) f (a1 22 f) with e | e
              · first | (rw [e] at c9 ⊢; done) | (rw [e] at c9; exact absurd c9 (by decide))
              · first | (rw [e] at c9 ⊢; done) | (rw [e] at c9; exact absurd rfl c9)
            · show Rn G κ 142 _ _ _ _ _
              refine r_iconst (0) X dX4_send_142 (by decide) ?_
              refine r_goto 147 X dX4_send_143 (by decide) ?_
              refine r_iret X Z dX4_send_147 ?_
              rw [hG]
              refine ⟨rfl, rfl, _, rfl, q2.1, ?_⟩
              have c9 := c139
              rw [q2.2.2] at c9
              rcases come_02 (upM a1 18 f (nI q)) (some q) f (a1 22 f) with e | e
              · first | (rw [e] at c9 ⊢; done) | (rw [e] at c9; exact absurd c9 (by decide))
              · first | (rw [e] at c9 ⊢; done) | (rw [e] at c9; exact absurd rfl c9)
          · have hhas : hasL a1 r f = true := bI_1 c99
            have hr20 : qm a1 r < 20 := by
              have := (hQ1 r hr).2.1
              have := mvc_le (p := r) hf h0
              omega
            have hG : sendG a1 f = holdF (layF (upM a1 19 f 1) r (nI f) 0) f (a1 22 f) := by
              unfold sendG
              rw [if_neg (Classical.not_not.mpr h0), hw]
              simp only
              rw [if_pos, eon]
              refine ⟨by rw [eo]; exact nI_m1 (by omega), fun z => c91 ((hR1.2.2.2 f hf).2.1.trans z), by rw [eon]; exact hhas⟩
            have hFb : IF (layF (upM a1 19 f 1) r (nI f) 0) (k + 1) := IF_lay (IF_mov (Or.inr rfl) hF1)
            have h20b := (hFb f hf).2.2.1
            have hallb : ∀ g, g < 12 → hm (layF (upM a1 19 f 1) r (nI f) 0) g ≤ 8 := fun g hg => (hFb g hg).2.2.2.1
            show Rn G κ 102 _ _ _ _ _
            refine r_aload_n X dX4_send_102 rfl ?_
            refine r_iload_n X dX4_send_103 rfl ?_
            refine r_cv1_C X mdX4_startMoving wml_X4_199 dX4_send_104 ⟨rfl, rfl, Nat.le_of_ble_eq_true rfl, Nat.le_of_ble_eq_true rfl⟩ (by decide) rfl rfl (Nat.le_of_ble_eq_true rfl) rfl (zroom Z) (c_startMoving hR1 hQ1.qb hf hr eo hr20) (fun C2 hR2 => ?_)
            show Rn G κ 107 _ _ _ _ _
            refine r_aload_n X dX4_send_107 rfl ?_
            refine r_aload_n X dX4_send_108 rfl ?_
            refine r_gi9 4 X (by assumption) wfl_X4_181 dX4_send_109 (by decide) rfl ?_
            refine r_top (show C2 9 f 4 = a1 22 f by rw [(hR2.2.2.2 f hf).2.2.2.1]; unfold layF; rw [upM_other _ _ _ _ (by omega), upM_other _ _ _ _ (by omega), upM_other _ _ _ _ (by omega), upM_other _ _ _ _ (by omega)]) ?_
            refine r_cv1_Ci X mdX0_hold wml_X4_187 dX4_send_112 ⟨rfl, rfl, Nat.le_of_ble_eq_true rfl, Nat.le_of_ble_eq_true rfl⟩ (by assumption) rfl rfl (Nat.le_of_ble_eq_true rfl) rfl (zroom Z) (c_holdR hR2 hf h20b hallb) (fun C3 r3 q2 => ?_)
            show Rn G κ 115 _ _ _ _ _
            show Rn G κ 115 _ _ _ _ _
            refine r_ifeq 122 X dX4_send_115 (by decide) (fun c115 => ?_) (fun c115 => ?_)
            · show Rn G κ 122 _ _ _ _ _
              refine r_iconst (2) X dX4_send_122 (by decide) ?_
              refine r_iret X Z dX4_send_123 ?_
              rw [hG]
              refine ⟨rfl, rfl, _, rfl, q2.1, ?_⟩
              have h12 := hold_12 (layF (upM a1 19 f 1) r (nI f) 0) f (a1 22 f)
              have c9 := c115
              rw [q2.2] at c9
              rcases h12 with e | e
              · first | (rw [e] at c9 ⊢; done) | (rw [e] at c9; exact absurd c9 (by decide))
              · first | (rw [e] at c9 ⊢; done) | (rw [e] at c9; exact absurd rfl c9)
            · show Rn G κ 118 _ _ _ _ _
              refine r_iconst (1) X dX4_send_118 (by decide) ?_
              refine r_goto 123 X dX4_send_119 (by decide) ?_
              refine r_iret X Z dX4_send_123 ?_
              rw [hG]
              refine ⟨rfl, rfl, _, rfl, q2.1, ?_⟩
              have h12 := hold_12 (layF (upM a1 19 f 1) r (nI f) 0) f (a1 22 f)
              have c9 := c115
              rw [q2.2] at c9
              rcases h12 with e | e
              · first | (rw [e] at c9 ⊢; done) | (rw [e] at c9; exact absurd c9 (by decide))
              · first | (rw [e] at c9 ⊢; done) | (rw [e] at c9; exact absurd rfl c9)
  · have hG : sendG a1 f = holdF a1 f (a1 22 f) := by unfold sendG; rw [if_pos c43]
    show Rn G κ 46 _ _ _ _ _
    refine r_aload_n X dX4_send_46 rfl ?_
    refine r_aload_n X dX4_send_47 rfl ?_
    refine r_gi9 4 X (by assumption) wfl_X4_181 dX4_send_48 (by decide) rfl ?_
    refine r_top (show C1 9 f 4 = a1 22 f from (hR1.2.2.2 f hf).2.2.2.1) ?_
    refine r_cv1_Ci X mdX0_hold wml_X4_187 dX4_send_51 ⟨rfl, rfl, Nat.le_of_ble_eq_true rfl, Nat.le_of_ble_eq_true rfl⟩ (by assumption) rfl rfl (Nat.le_of_ble_eq_true rfl) rfl (zroom Z) (c_holdR hR1 hf (hF1 f hf).2.2.1 (fun g hg => (hF1 g hg).2.2.2.1)) (fun C2 r2 q2 => ?_)
    show Rn G κ 54 _ _ _ _ _
    refine r_ifeq 61 X dX4_send_54 (by decide) (fun c54 => ?_) (fun c54 => ?_)
    · show Rn G κ 61 _ _ _ _ _
      refine r_iconst (2) X dX4_send_61 (by decide) ?_
      refine r_iret X Z dX4_send_62 ?_
      rw [hG]
      refine ⟨rfl, rfl, _, rfl, q2.1, ?_⟩
      have h12 := hold_12 a1 f (a1 22 f)
      have c9 := c54
      rw [q2.2] at c9
      rcases h12 with e | e
      · first | (rw [e] at c9 ⊢; done) | (rw [e] at c9; exact absurd c9 (by decide))
      · first | (rw [e] at c9 ⊢; done) | (rw [e] at c9; exact absurd rfl c9)
    · show Rn G κ 57 _ _ _ _ _
      refine r_iconst (1) X dX4_send_57 (by decide) ?_
      refine r_goto 62 X dX4_send_58 (by decide) ?_
      refine r_iret X Z dX4_send_62 ?_
      rw [hG]
      refine ⟨rfl, rfl, _, rfl, q2.1, ?_⟩
      have h12 := hold_12 a1 f (a1 22 f)
      have c9 := c54
      rw [q2.2] at c9
      rcases h12 with e | e
      · first | (rw [e] at c9 ⊢; done) | (rw [e] at c9; exact absurd c9 (by decide))
      · first | (rw [e] at c9 ⊢; done) | (rw [e] at c9; exact absurd rfl c9)
set_option maxRecDepth 100000 in
set_option maxHeartbeats 4000000 in
theorem c_chooseOfKey {G : bpG} {C : bpC} {M : bpM} {hl : Int64} {a : bpM} {key : Int32} (hR : RB C a) : Ct G yX4_chooseOfKey cX4_chooseOfKey 4 none rmX4_chooseOfKey [.ref (G.1 0 0), .int key] C M hl (qC M hl (fun C' => RB C' (stK a key (np a)) ∧ (∀ p, p < (np a) → a 3 p = key → C' 5 p 9 = choi a p) ∧ (∀ p, ¬ (p < (np a) ∧ a 3 p = key) → C' 5 p 9 = C 5 p 9) ∧ (∀ x, x ≠ 5 → C' x = C x))) := by
  refine ct_of [some (.ref (G.1 0 0)), some (.int key), none, none] (by decide +kernel) rfl rfl (Nat.le_of_ble_eq_true rfl) ?_
  intro κ X Z
  have hB := hR.2.1
  have hn := hB.2.1
  have loop : ∀ (n i : Nat) (Ck : bpC), i + n = np a → (RB Ck (stK a key i) ∧ (∀ p, p < i → a 3 p = key → Ck 5 p 9 = choi a p) ∧ (∀ p, ¬ (p < i ∧ a 3 p = key) → Ck 5 p 9 = C 5 p 9) ∧ (∀ x, x ≠ 5 → Ck x = C x)) → Rn G κ 8 [some (.ref (G.1 0 0)), some (.int key), some (.int (oI (lead a key))), some (.int (nI i))] [] Ck M hl := by
    intro n
    induction n with
    | zero =>
      intro i Ck hi hk
      have hi : i = np a := by omega
      subst hi
      have hc : Ck 0 0 3 = nI (np a) := by rw [hk.2.2.2 0 (by decide)]; exact hR.1.1.trans hB.1
      refine r_iload_n X dX4_chooseOfKey_8 rfl ?_
      refine r_aload_n X dX4_chooseOfKey_9 rfl ?_
      refine r_gi0 3 X wfl_X4_28 dX4_chooseOfKey_10 (by decide) rfl ?_
      refine r_icmpge 73 X dX4_chooseOfKey_13 (by decide) (fun c13 => ?_) (fun c13 => absurd (by rw [hc]; exact Int32.le_refl _) c13)
      show Rn G κ 73 _ _ _ _ _
      refine r_vret X Z dX4_chooseOfKey_73 ?_
      exact ⟨rfl, rfl, rfl, hk⟩
    | succ n ih =>
      intro i Ck hi hk
      obtain ⟨hRk, hch, hoc, hox⟩ := hk
      have hin : i < np a := by omega
      have h6 : i < 6 := by omega
      have hc : Ck 0 0 3 = nI (np a) := by rw [hox 0 (by decide)]; exact hR.1.1.trans hB.1
      have hin2 : i < np (stK a key i) := by rw [stK_np]; exact hin
      have ek : Ck 5 i 1 = a 3 i := by rw [(hRk.2.2 i hin2).1, stK_s _ _ _ (by decide)]
      refine r_iload_n X dX4_chooseOfKey_8 rfl ?_
      refine r_aload_n X dX4_chooseOfKey_9 rfl ?_
      refine r_gi0 3 X wfl_X4_28 dX4_chooseOfKey_10 (by decide) rfl ?_
      refine r_icmpge 73 X dX4_chooseOfKey_13 (by decide) (fun c13 => absurd c13 (by rw [hc]; simp only [i_lt, i_le, i_eq, i_m1, i_0, i_1, i_2, i_3, i_4, i_5, i_6, i_7, i_8, i_9, i_10, i_11, i_12, i_17, i_20, i_24, i_32, i_44, i_48, i_50, i_51, i_52, i_57, i_58, i_100, i_126, i_n (show np a < 2 ^ 31 by omega), i_n (show i < 2 ^ 31 by omega)]; omega)) (fun c13 => ?_)
      show Rn G κ 16 _ _ _ _ _
      refine r_aload_n X dX4_chooseOfKey_16 rfl ?_
      refine r_gr0_1 X wfl_X4_18 dX4_chooseOfKey_17 ?_
      refine r_iload_n X dX4_chooseOfKey_20 rfl ?_
      show Rn G κ 21 _ _ _ _ _
      refine r_aaP _ X rfl (by assumption) dX4_chooseOfKey_21 ?_
      refine r_gi5 1 X (by assumption) wfl_X4_131 dX4_chooseOfKey_22 (by decide) rfl ?_
      refine r_iload_n X dX4_chooseOfKey_25 rfl ?_
      refine r_icmpne 67 X dX4_chooseOfKey_26 (by decide) (fun c26 => ?_) (fun c26 => ?_)
      · show Rn G κ 67 _ _ _ _ _
        refine r_iinc_3 (nI (i + 1)) X dX4_chooseOfKey_67 (nI_1 i) rfl ?_
        refine r_goto 8 X dX4_chooseOfKey_70 (by decide) ?_
        refine ih (i + 1) Ck (by omega) ⟨?_, fun p hp h3 => ?_, fun p hp => ?_, hox⟩
        · rw [stK_f (fun z => c26 (ek.trans z.1))]; exact hRk
        · refine hch p ?_ h3
          have : p ≠ i := fun z => c26 (ek.trans (z ▸ h3))
          omega
        · exact hoc p (fun z => hp ⟨by omega, z.2⟩)
      · show Rn G κ 29 _ _ _ _ _
        refine r_aload_n X dX4_chooseOfKey_29 rfl ?_
        refine r_gr0_1 X wfl_X4_18 dX4_chooseOfKey_30 ?_
        refine r_iload_n X dX4_chooseOfKey_33 rfl ?_
        refine r_aaP _ X rfl (by assumption) dX4_chooseOfKey_34 ?_
        refine r_aload_n X dX4_chooseOfKey_35 rfl ?_
        refine r_iload_n X dX4_chooseOfKey_36 rfl ?_
        refine r_iload_n X dX4_chooseOfKey_37 rfl ?_
        show Rn G κ 38 _ _ _ _ _
        refine r_cv2_I X mdX4_choiceOf wml_X4_257 dX4_chooseOfKey_38 ⟨rfl, rfl, Nat.le_of_ble_eq_true rfl, Nat.le_of_ble_eq_true rfl⟩ (by decide) rfl rfl (Nat.le_of_ble_eq_true rfl) rfl (zroom Z) (c_choiceOf hRk hin2 (fun b hb => by rw [stK_np]; exact leadN_ltn hb)) ?_
        show Rn G κ 41 _ _ _ _ _
        have ech : choL (stK a key i) i (lead a key) = choi a i := by
          rw [choL_cg (stK_np a key i) (stK_s a key i (by decide)) (stK_s a key i (by decide)) (stK_s a key i (by decide)) (stK_s a key i (by decide)) (by rw [stK_s a key i (by decide)]), ← choL_eq]
          rw [← ek, c26]
        refine r_top ech ?_
        refine r_pi5 9 X (by assumption) wfl_X4_260 dX4_chooseOfKey_41 (by decide) rfl rfl (by decide +kernel) ?_
        refine r_aload_n X dX4_chooseOfKey_44 rfl ?_
        refine r_gr0_1 X wfl_X4_18 dX4_chooseOfKey_45 ?_
        refine r_iload_n X dX4_chooseOfKey_48 rfl ?_
        refine r_aaP _ X rfl (by assumption) dX4_chooseOfKey_49 ?_
        refine r_gi5 9 X (by assumption) wfl_X4_260 dX4_chooseOfKey_50 (by decide) rfl ?_
        refine r_iconst (2) X dX4_chooseOfKey_53 (by decide) ?_
        show Rn G κ 54 _ _ _ _ _
        refine r_icmpeq 67 X dX4_chooseOfKey_54 (by decide) (fun c54 => ?_) (fun c54 => ?_)
        · show Rn G κ 67 _ _ _ _ _
          refine r_iinc_3 (nI (i + 1)) X dX4_chooseOfKey_67 (nI_1 i) rfl ?_
          refine r_goto 8 X dX4_chooseOfKey_70 (by decide) ?_
          refine ih (i + 1) _ (by omega) ⟨?_, fun p hp h3 => ?_, fun p hp => ?_, fun x hx => ?_⟩
          · rw [stK_f (fun z => z.2 (by rw [upC_at] at c54; exact c54))]; exact RB_ch hRk
          · by_cases e : p = i
            · subst e; rw [upC_at]
            · rw [upC_ne _ _ _ _ _ (by omega)]; exact hch p (by omega) h3
          · have e : p ≠ i := fun z => hp ⟨by omega, by rw [z, ← ek, c26]⟩
            rw [upC_ne _ _ _ _ _ (by omega)]; exact hoc p (fun z => hp ⟨by omega, z.2⟩)
          · rw [upC_k _ _ _ _ hx]; exact hox x hx
        · show Rn G κ 57 _ _ _ _ _
          refine r_aload_n X dX4_chooseOfKey_57 rfl ?_
          refine r_gr0_1 X wfl_X4_18 dX4_chooseOfKey_58 ?_
          refine r_iload_n X dX4_chooseOfKey_61 rfl ?_
          refine r_aaP _ X rfl (by assumption) dX4_chooseOfKey_62 ?_
          refine r_iconst (0) X dX4_chooseOfKey_63 (by decide) ?_
          refine r_pi5 10 X (by assumption) wfl_X4_150 dX4_chooseOfKey_64 (by decide) rfl rfl (by decide +kernel) ?_
          refine r_iinc_3 (nI (i + 1)) X dX4_chooseOfKey_67 (nI_1 i) rfl ?_
          show Rn G κ 70 _ _ _ _ _
          refine r_goto 8 X dX4_chooseOfKey_70 (by decide) ?_
          refine ih (i + 1) _ (by omega) ⟨?_, fun p hp h3 => ?_, fun p hp => ?_, fun x hx => ?_⟩
          · rw [stK_t (by rw [← ek, c26]) (by rw [upC_at] at c54; exact c54)]; exact RB_wait (RB_ch hRk)
          · by_cases e : p = i
            · subst e; rw [upC_ne _ _ _ _ _ (by simp)]; rw [upC_at]
            · rw [upC_ne _ _ _ _ _ (by omega), upC_ne _ _ _ _ _ (by omega)]; exact hch p (by omega) h3
          · have e : p ≠ i := fun z => hp ⟨by omega, by rw [z, ← ek, c26]⟩
            rw [upC_ne _ _ _ _ _ (by omega), upC_ne _ _ _ _ _ (by omega)]; exact hoc p (fun z => hp ⟨by omega, z.2⟩)
          · rw [upC_k _ _ _ _ hx, upC_k _ _ _ _ hx]; exact hox x hx
  refine r_aload_n X dX4_chooseOfKey_0 rfl ?_
  refine r_iload_n X dX4_chooseOfKey_1 rfl ?_
  refine r_cv1_I X mdX4_leadOf wml_X4_168 dX4_chooseOfKey_2 ⟨rfl, rfl, Nat.le_of_ble_eq_true rfl, Nat.le_of_ble_eq_true rfl⟩ (by decide) rfl rfl (Nat.le_of_ble_eq_true rfl) rfl (zroom Z) (c_leadOf hR) ?_
  show Rn G κ 5 _ _ _ _ _
  refine r_istore_2 X dX4_chooseOfKey_5 rfl ?_
  refine r_iconst (0) X dX4_chooseOfKey_6 (by decide) ?_
  refine r_istore_3 X dX4_chooseOfKey_7 rfl ?_
  exact loop (np a) 0 C (by omega) ⟨by rw [stK_0]; exact hR, fun p hp => absurd hp (Nat.not_lt_zero _), fun _ _ => rfl, fun _ _ => rfl⟩
set_option maxRecDepth 100000 in
set_option maxHeartbeats 4000000 in
theorem c_chooseAll {G : bpG} {C : bpC} {M : bpM} {hl : Int64} {a : bpM} (hR : RB C a) (hK : ∀ p, p < np a → ∃ k, k < 4 ∧ a 3 p = nI k) : Ct G yX4_chooseAll cX4_chooseAll 2 none rmX4_chooseAll [.ref (G.1 0 0)] C M hl (qC M hl (fun C' => RB C' (settle a) ∧ (∀ p, p < np a → RCh C' (settle a) p) ∧ ∀ x, x ≠ 5 → C' x = C x)) := by
  refine ct_of [some (.ref (G.1 0 0)), none] (by decide +kernel) rfl rfl (Nat.le_of_ble_eq_true rfl) ?_
  intro κ X Z
  have loop : ∀ (n t : Nat) (Ck : bpC), t + n = 4 → (RB Ck (stA a t) ∧ (∀ p, p < np a → (∃ k, k < t ∧ a 3 p = nI k) → Ck 5 p 9 = choi a p) ∧ (∀ x, x ≠ 5 → Ck x = C x)) → Rn G κ 2 [some (.ref (G.1 0 0)), some (.int (nI t))] [] Ck M hl := by
    intro n
    induction n with
    | zero =>
      intro t Ck ht hk
      have ht : t = 4 := by omega
      subst ht
      refine r_iload_n X dX4_chooseAll_2 rfl ?_
      refine r_iconst (4) X dX4_chooseAll_3 (by decide) ?_
      refine r_icmpge 18 X dX4_chooseAll_4 (by decide) (fun c4 => ?_) (fun c4 => absurd (by decide) c4)
      show Rn G κ 18 _ _ _ _ _
      refine r_vret X Z dX4_chooseAll_18 ?_
      rw [stA_settle hK] at hk
      refine ⟨rfl, rfl, rfl, hk.1, fun p hp => ?_, hk.2.2⟩
      unfold RCh
      rw [settle_choi]
      exact hk.2.1 p hp (hK p hp)
    | succ n ih =>
      intro t Ck ht hk
      refine r_iload_n X dX4_chooseAll_2 rfl ?_
      refine r_iconst (4) X dX4_chooseAll_3 (by decide) ?_
      refine r_icmpge 18 X dX4_chooseAll_4 (by decide) (fun c4 => absurd c4 (by simp only [i_lt, i_le, i_eq, i_m1, i_0, i_1, i_2, i_3, i_4, i_5, i_6, i_7, i_8, i_9, i_10, i_11, i_12, i_17, i_20, i_24, i_32, i_44, i_48, i_50, i_51, i_52, i_57, i_58, i_100, i_126, i_n (show t < 2 ^ 31 by omega)]; omega)) (fun c4 => ?_)
      show Rn G κ 7 _ _ _ _ _
      refine r_aload_n X dX4_chooseAll_7 rfl ?_
      refine r_iload_n X dX4_chooseAll_8 rfl ?_
      refine r_cv1_C X mdX4_chooseOfKey wml_X4_254 dX4_chooseAll_9 ⟨rfl, rfl, Nat.le_of_ble_eq_true rfl, Nat.le_of_ble_eq_true rfl⟩ (by decide) rfl rfl (Nat.le_of_ble_eq_true rfl) rfl (zroom Z) (c_chooseOfKey hk.1) (fun C2 q2 => ?_)
      show Rn G κ 12 _ _ _ _ _
      refine r_iinc_1 (nI (t + 1)) X dX4_chooseAll_12 (nI_1 t) rfl ?_
      show Rn G κ 15 _ _ _ _ _
      refine r_goto 2 X dX4_chooseAll_15 (by decide) ?_
      obtain ⟨q1, q2a, q3, q4⟩ := q2
      refine ih (t + 1) C2 (by omega) ⟨?_, fun p hp h3 => ?_, fun x hx => ?_⟩
      · simp only [stA]; rw [stA_np] at q1; exact q1
      · by_cases e : a 3 p = nI t
        · have := q2a p (by rw [stA_np]; exact hp) (by rw [stA_s _ (by decide)]; exact e)
          rw [stA_choi] at this
          exact this
        · rw [q3 p (fun z => e (by have := z.2; rw [stA_s _ (by decide)] at this; exact this))]
          obtain ⟨k, z1, z2⟩ := h3
          exact hk.2.1 p hp ⟨k, by have : k ≠ t := fun z => e (z ▸ z2); omega, z2⟩
      · rw [q4 x hx]; exact hk.2.2 x hx
  refine r_iconst (0) X dX4_chooseAll_0 (by decide) ?_
  refine r_istore_1 X dX4_chooseAll_1 rfl ?_
  exact loop 4 0 C (by omega) ⟨hR, fun p _ h3 => by obtain ⟨k, z, -⟩ := h3; omega, fun _ _ => rfl⟩
