set_option maxRecDepth 100000 in
set_option maxHeartbeats 4000000 in
theorem m_sendNow {G : bpG} {C : bpC} {M : bpM} {hl : Int64} {k f : Nat} (hB : Bas M) (hQ : IQ M) (hF : IF M k) (hf : f < 12) : Ct G yX5_sendNow cX5_sendNow 3 (some .int) rmX5_sendNow [.ref (G.1 11 0), .int (nI f)] C M hl (qMi C hl (fun M' r => M' = (sendF M f).1 ∧ r = (sendF M f).2)) := by
  refine ct_of [some (.ref (G.1 11 0)), some (.int (nI f)), none] (by decide +kernel) rfl rfl (Nat.le_of_ble_eq_true rfl) ?_
  intro κ X Z
  refine r_aload_n X dX5_sendNow_0 rfl ?_
  refine r_gam 22 X wfl_X5_66 dX5_sendNow_1 (by decide) rfl ?_
  refine r_iload_n X dX5_sendNow_4 rfl ?_
  refine r_dup2 X dX5_sendNow_5 rfl rfl ?_
  refine r_iaM _ X rfl (by assumption) dX5_sendNow_6 (by decide) rfl rfl rfl ?_
  refine r_iconst (1) X dX5_sendNow_7 (by decide) ?_
  refine r_iadd X dX5_sendNow_8 ?_
  show Rn G κ 9 _ _ _ _ _
  refine r_isM _ X rfl (by assumption) dX5_sendNow_9 (by decide) rfl rfl rfl ?_
  have hQ1 : IQ (upM M 22 f (M 22 f + 1)) := IQ_up (by omega) hQ
  have hF1 := IF_sent hf hF
  have hB1 : Bas (upM M 22 f (M 22 f + 1)) := Bas_M (by omega) hB
  rw [sendF_eq] at Z
  generalize upM M 22 f (M 22 f + 1) = M1 at hQ1 hF1 hB1 Z ⊢
  refine r_aload_n X dX5_sendNow_10 rfl ?_
  refine r_gam 19 X wfl_X5_57 dX5_sendNow_11 (by decide) rfl ?_
  refine r_iload_n X dX5_sendNow_14 rfl ?_
  refine r_zaM _ X rfl (by assumption) dX5_sendNow_15 (by decide) rfl rfl rfl ?_
  refine r_ifeq 31 X dX5_sendNow_16 (by decide) (fun c16 => ?_) (fun c16 => ?_)
  · have h0 : M1 19 f = 0 := c16
    show Rn G κ 31 _ _ _ _ _
    cases hw : way M1 f with
    | none =>
      have hG : sendG M1 f = (lostF M1 f, 2) := by unfold sendG; rw [if_neg (Classical.not_not.mpr h0), hw]
      refine r_aload_n X dX5_sendNow_31 rfl ?_
      refine r_iload_n X dX5_sendNow_32 rfl ?_
      refine r_cv1_I X mdX5_wayOf wml_X5_164 dX5_sendNow_33 ⟨rfl, rfl, Nat.le_of_ble_eq_true rfl, Nat.le_of_ble_eq_true rfl⟩ (by decide) rfl rfl (Nat.le_of_ble_eq_true rfl) rfl (zroom Z) (m_wayOf hB1 hf) ?_
      show Rn G κ 36 _ _ _ _ _
      refine r_top (show oI (way M1 f) = -1 by rw [hw]; rfl) ?_
      refine r_istore_2 X dX5_sendNow_36 rfl ?_
      refine r_iload_n X dX5_sendNow_37 rfl ?_
      refine r_iconst (-1) X dX5_sendNow_38 (by decide) ?_
      refine r_icmpne 54 X dX5_sendNow_39 (by decide) (fun c39 => absurd rfl c39) (fun c39 => ?_)
      show Rn G κ 42 _ _ _ _ _
      show Rn G κ 42 _ _ _ _ _
      refine r_aload_n X dX5_sendNow_42 rfl ?_
      refine r_gam 24 X wfl_X5_72 dX5_sendNow_43 (by decide) rfl ?_
      refine r_iload_n X dX5_sendNow_46 rfl ?_
      refine r_dup2 X dX5_sendNow_47 rfl rfl ?_
      refine r_iaM _ X rfl (by assumption) dX5_sendNow_48 (by decide) rfl rfl rfl ?_
      refine r_iconst (1) X dX5_sendNow_49 (by decide) ?_
      refine r_iadd X dX5_sendNow_50 ?_
      refine r_isM _ X rfl (by assumption) dX5_sendNow_51 (by decide) rfl rfl rfl ?_
      show Rn G κ 52 _ _ _ _ _
      refine r_iconst (2) X dX5_sendNow_52 (by decide) ?_
      refine r_iret X Z dX5_sendNow_53 ?_
      rw [hG]
      exact ⟨rfl, rfl, _, rfl, rfl, rfl⟩
    | some q =>
      have hq := way_lt hw
      have hq6 : q < 6 := by have := hB1.2.1; omega
      rcases (hF1 f hf).2.1 with eo | ⟨r, hr, eo⟩
      · refine r_aload_n X dX5_sendNow_31 rfl ?_
        refine r_iload_n X dX5_sendNow_32 rfl ?_
        refine r_cv1_I X mdX5_wayOf wml_X5_164 dX5_sendNow_33 ⟨rfl, rfl, Nat.le_of_ble_eq_true rfl, Nat.le_of_ble_eq_true rfl⟩ (by decide) rfl rfl (Nat.le_of_ble_eq_true rfl) rfl (zroom Z) (m_wayOf hB1 hf) ?_
        show Rn G κ 36 _ _ _ _ _
        refine r_top (show oI (way M1 f) = nI q by rw [hw]; rfl) ?_
        refine r_istore_2 X dX5_sendNow_36 rfl ?_
        refine r_iload_n X dX5_sendNow_37 rfl ?_
        refine r_iconst (-1) X dX5_sendNow_38 (by decide) ?_
        refine r_icmpne 54 X dX5_sendNow_39 (by decide) (fun c39 => ?_) (fun c39 => absurd c39 (nI_m1 (show q < 2 ^ 31 by omega)))
        show Rn G κ 54 _ _ _ _ _
        show Rn G κ 54 _ _ _ _ _
        refine r_aload_n X dX5_sendNow_54 rfl ?_
        refine r_gam 18 X wfl_X5_54 dX5_sendNow_55 (by decide) rfl ?_
        refine r_iload_n X dX5_sendNow_58 rfl ?_
        refine r_iaM _ X rfl (by assumption) dX5_sendNow_59 (by decide) rfl rfl rfl ?_
        refine r_iconst (-1) X dX5_sendNow_60 (by decide) ?_
        refine r_icmpeq 119 X dX5_sendNow_61 (by decide) (fun c61 => ?_) (fun c61 => absurd eo c61)
        show Rn G κ 119 _ _ _ _ _
        have hG : sendG M1 f = comeF (upM M1 18 f (nI q)) (some q) f (M1 22 f) := by
          unfold sendG
          rw [if_neg (Classical.not_not.mpr h0), hw]
          simp only
          rw [if_neg]
          rintro ⟨z1, z2, z3⟩
          exact z1 eo
        refine r_aload_n X dX5_sendNow_119 rfl ?_
        refine r_gam 18 X wfl_X5_54 dX5_sendNow_120 (by decide) rfl ?_
        refine r_iload_n X dX5_sendNow_123 rfl ?_
        refine r_iload_n X dX5_sendNow_124 rfl ?_
        refine r_isM _ X rfl (by assumption) dX5_sendNow_125 (by decide) rfl rfl rfl ?_
        refine r_aload_n X dX5_sendNow_126 rfl ?_
        refine r_iload_n X dX5_sendNow_127 rfl ?_
        show Rn G κ 128 _ _ _ _ _
        refine r_iload_n X dX5_sendNow_128 rfl ?_
        refine r_aload_n X dX5_sendNow_129 rfl ?_
        refine r_gam 22 X wfl_X5_66 dX5_sendNow_130 (by decide) rfl ?_
        refine r_iload_n X dX5_sendNow_133 rfl ?_
        refine r_iaM _ X rfl (by assumption) dX5_sendNow_134 (by decide) rfl rfl rfl ?_
        refine r_top (upM_ne _ _ _ _ (by omega)) ?_
        refine r_cv3_Mi X mdX5_comes wml_X5_177 dX5_sendNow_135 ⟨rfl, rfl, Nat.le_of_ble_eq_true rfl, Nat.le_of_ble_eq_true rfl⟩ (by decide) rfl rfl (Nat.le_of_ble_eq_true rfl) rfl (zroom Z) (m_comes (w := some q) (fun r hr => by cases hr; rw [np_up (by omega)]; exact hq) (Bas_M (by omega) hB1) (QB_up (by omega) hQ1.qb) hf) (fun M3 r3 q3 => ?_)
        show Rn G κ 138 _ _ _ _ _
        refine r_iret X Z dX5_sendNow_138 ?_
        rw [hG]
        exact ⟨rfl, rfl, _, rfl, q3⟩
      · have hr6 : r < 6 := by have := hB1.2.1; omega
        have eon := onN_eq eo (show r < 2 ^ 31 by omega)
        refine r_aload_n X dX5_sendNow_31 rfl ?_
        refine r_iload_n X dX5_sendNow_32 rfl ?_
        refine r_cv1_I X mdX5_wayOf wml_X5_164 dX5_sendNow_33 ⟨rfl, rfl, Nat.le_of_ble_eq_true rfl, Nat.le_of_ble_eq_true rfl⟩ (by decide) rfl rfl (Nat.le_of_ble_eq_true rfl) rfl (zroom Z) (m_wayOf hB1 hf) ?_
        show Rn G κ 36 _ _ _ _ _
        refine r_top (show oI (way M1 f) = nI q by rw [hw]; rfl) ?_
        refine r_istore_2 X dX5_sendNow_36 rfl ?_
        refine r_iload_n X dX5_sendNow_37 rfl ?_
        refine r_iconst (-1) X dX5_sendNow_38 (by decide) ?_
        refine r_icmpne 54 X dX5_sendNow_39 (by decide) (fun c39 => ?_) (fun c39 => absurd c39 (nI_m1 (show q < 2 ^ 31 by omega)))
        show Rn G κ 54 _ _ _ _ _
        show Rn G κ 54 _ _ _ _ _
        refine r_aload_n X dX5_sendNow_54 rfl ?_
        refine r_gam 18 X wfl_X5_54 dX5_sendNow_55 (by decide) rfl ?_
        refine r_iload_n X dX5_sendNow_58 rfl ?_
        refine r_iaM _ X rfl (by assumption) dX5_sendNow_59 (by decide) rfl rfl rfl ?_
        refine r_top eo ?_
        refine r_iconst (-1) X dX5_sendNow_60 (by decide) ?_
        refine r_icmpeq 119 X dX5_sendNow_61 (by decide) (fun c61 => absurd c61 (nI_m1 (show r < 2 ^ 31 by omega))) (fun c61 => ?_)
        show Rn G κ 64 _ _ _ _ _
        refine r_aload_n X dX5_sendNow_64 rfl ?_
        refine r_gam 18 X wfl_X5_54 dX5_sendNow_65 (by decide) rfl ?_
        show Rn G κ 68 _ _ _ _ _
        refine r_iload_n X dX5_sendNow_68 rfl ?_
        refine r_iaM _ X rfl (by assumption) dX5_sendNow_69 (by decide) rfl rfl rfl ?_
        refine r_top eo ?_
        refine r_iload_n X dX5_sendNow_70 rfl ?_
        refine r_icmpeq 119 X dX5_sendNow_71 (by decide) (fun c71 => ?_) (fun c71 => ?_)
        · show Rn G κ 119 _ _ _ _ _
          have hG : sendG M1 f = comeF (upM M1 18 f (nI q)) (some q) f (M1 22 f) := by
            unfold sendG
            rw [if_neg (Classical.not_not.mpr h0), hw]
            simp only
            rw [if_neg]
            rintro ⟨z1, z2, z3⟩
            exact z2 (eo.trans c71)
          refine r_aload_n X dX5_sendNow_119 rfl ?_
          refine r_gam 18 X wfl_X5_54 dX5_sendNow_120 (by decide) rfl ?_
          refine r_iload_n X dX5_sendNow_123 rfl ?_
          refine r_iload_n X dX5_sendNow_124 rfl ?_
          refine r_isM _ X rfl (by assumption) dX5_sendNow_125 (by decide) rfl rfl rfl ?_
          refine r_aload_n X dX5_sendNow_126 rfl ?_
          refine r_iload_n X dX5_sendNow_127 rfl ?_
          show Rn G κ 128 _ _ _ _ _
          refine r_iload_n X dX5_sendNow_128 rfl ?_
          refine r_aload_n X dX5_sendNow_129 rfl ?_
          refine r_gam 22 X wfl_X5_66 dX5_sendNow_130 (by decide) rfl ?_
          refine r_iload_n X dX5_sendNow_133 rfl ?_
          refine r_iaM _ X rfl (by assumption) dX5_sendNow_134 (by decide) rfl rfl rfl ?_
          refine r_top (upM_ne _ _ _ _ (by omega)) ?_
          refine r_cv3_Mi X mdX5_comes wml_X5_177 dX5_sendNow_135 ⟨rfl, rfl, Nat.le_of_ble_eq_true rfl, Nat.le_of_ble_eq_true rfl⟩ (by decide) rfl rfl (Nat.le_of_ble_eq_true rfl) rfl (zroom Z) (m_comes (w := some q) (fun r hr => by cases hr; rw [np_up (by omega)]; exact hq) (Bas_M (by omega) hB1) (QB_up (by omega) hQ1.qb) hf) (fun M3 r3 q3 => ?_)
          show Rn G κ 138 _ _ _ _ _
          refine r_iret X Z dX5_sendNow_138 ?_
          rw [hG]
          exact ⟨rfl, rfl, _, rfl, q3⟩
        · show Rn G κ 74 _ _ _ _ _
          refine r_aload_n X dX5_sendNow_74 rfl ?_
          refine r_aload_n X dX5_sendNow_75 rfl ?_
          refine r_gam 18 X wfl_X5_54 dX5_sendNow_76 (by decide) rfl ?_
          refine r_iload_n X dX5_sendNow_79 rfl ?_
          refine r_iaM _ X rfl (by assumption) dX5_sendNow_80 (by decide) rfl rfl rfl ?_
          refine r_top eo ?_
          refine r_iload_n X dX5_sendNow_81 rfl ?_
          refine r_cv2_I X mdX5_hasLetter wml_X5_174 dX5_sendNow_82 ⟨rfl, rfl, Nat.le_of_ble_eq_true rfl, Nat.le_of_ble_eq_true rfl⟩ (by decide) rfl rfl (Nat.le_of_ble_eq_true rfl) rfl (zroom Z) (m_hasLetter hr6 (hQ1 r hr).1 (hQ1 r hr).le) ?_
          show Rn G κ 85 _ _ _ _ _
          show Rn G κ 85 _ _ _ _ _
          refine r_ifeq 119 X dX5_sendNow_85 (by decide) (fun c85 => ?_) (fun c85 => ?_)
          · show Rn G κ 119 _ _ _ _ _
            have hG : sendG M1 f = comeF (upM M1 18 f (nI q)) (some q) f (M1 22 f) := by
              unfold sendG
              rw [if_neg (Classical.not_not.mpr h0), hw]
              simp only
              rw [if_neg]
              rintro ⟨z1, z2, z3⟩
              rw [eon, bI_0 c85] at z3; cases z3
            refine r_aload_n X dX5_sendNow_119 rfl ?_
            refine r_gam 18 X wfl_X5_54 dX5_sendNow_120 (by decide) rfl ?_
            refine r_iload_n X dX5_sendNow_123 rfl ?_
            refine r_iload_n X dX5_sendNow_124 rfl ?_
            refine r_isM _ X rfl (by assumption) dX5_sendNow_125 (by decide) rfl rfl rfl ?_
            refine r_aload_n X dX5_sendNow_126 rfl ?_
            refine r_iload_n X dX5_sendNow_127 rfl ?_
            show Rn G κ 128 _ _ _ _ _
            refine r_iload_n X dX5_sendNow_128 rfl ?_
            refine r_aload_n X dX5_sendNow_129 rfl ?_
            refine r_gam 22 X wfl_X5_66 dX5_sendNow_130 (by decide) rfl ?_
            refine r_iload_n X dX5_sendNow_133 rfl ?_
            refine r_iaM _ X rfl (by assumption) dX5_sendNow_134 (by decide) rfl rfl rfl ?_
            refine r_top (upM_ne _ _ _ _ (by omega)) ?_
            refine r_cv3_Mi X mdX5_comes wml_X5_177 dX5_sendNow_135 ⟨rfl, rfl, Nat.le_of_ble_eq_true rfl, Nat.le_of_ble_eq_true rfl⟩ (by decide) rfl rfl (Nat.le_of_ble_eq_true rfl) rfl (zroom Z) (m_comes (w := some q) (fun r hr => by cases hr; rw [np_up (by omega)]; exact hq) (Bas_M (by omega) hB1) (QB_up (by omega) hQ1.qb) hf) (fun M3 r3 q3 => ?_)
            show Rn G κ 138 _ _ _ _ _
            refine r_iret X Z dX5_sendNow_138 ?_
            rw [hG]
            exact ⟨rfl, rfl, _, rfl, q3⟩
          · have hG : sendG M1 f = holdF (layF (upM M1 19 f 1) r (nI f) 0) f (M1 22 f) := by
              unfold sendG
              rw [if_neg (Classical.not_not.mpr h0), hw]
              simp only
              rw [if_pos, eon]
              exact ⟨by rw [eo]; exact nI_m1 (by omega), fun z => c71 (eo.symm.trans z), by rw [eon]; exact bI_1 c85⟩
            have hFb : IF (layF (upM M1 19 f 1) r (nI f) 0) (k + 1) := IF_lay (IF_mov (Or.inr rfl) hF1)
            show Rn G κ 88 _ _ _ _ _
            refine r_aload_n X dX5_sendNow_88 rfl ?_
            refine r_gam 19 X wfl_X5_57 dX5_sendNow_89 (by decide) rfl ?_
            refine r_iload_n X dX5_sendNow_92 rfl ?_
            refine r_iconst (1) X dX5_sendNow_93 (by decide) ?_
            refine r_zsM _ X (by decide) rfl (by assumption) dX5_sendNow_94 (by decide) rfl rfl rfl ?_
            refine r_aload_n X dX5_sendNow_95 rfl ?_
            refine r_aload_n X dX5_sendNow_96 rfl ?_
            show Rn G κ 97 _ _ _ _ _
            refine r_gam 18 X wfl_X5_54 dX5_sendNow_97 (by decide) rfl ?_
            refine r_iload_n X dX5_sendNow_100 rfl ?_
            refine r_iaM _ X rfl (by assumption) dX5_sendNow_101 (by decide) rfl rfl rfl ?_
            refine r_top (show upM M1 19 f 1 18 f = nI r by rw [upM_ne _ _ _ _ (by omega)]; exact eo) ?_
            refine r_iload_n X dX5_sendNow_102 rfl ?_
            refine r_iconst (0) X dX5_sendNow_103 (by decide) ?_
            refine r_cv3_M X mdX5_lay wml_X5_167 dX5_sendNow_104 ⟨rfl, rfl, Nat.le_of_ble_eq_true rfl, Nat.le_of_ble_eq_true rfl⟩ (by decide) rfl rfl (Nat.le_of_ble_eq_true rfl) rfl (zroom Z) (m_lay (M := upM M1 19 f 1) hr6 (by rw [qm_up (by omega), upM_ne _ _ _ _ (by omega)]; exact (hQ1 r hr).1) (by rw [qm_up (by omega)]; have := (hQ1 r hr).le; omega)) (fun M3 e3 => ?_)
            subst e3
            show Rn G κ 107 _ _ _ _ _
            refine r_aload_n X dX5_sendNow_107 rfl ?_
            refine r_iload_n X dX5_sendNow_108 rfl ?_
            show Rn G κ 109 _ _ _ _ _
            refine r_aload_n X dX5_sendNow_109 rfl ?_
            refine r_gam 22 X wfl_X5_66 dX5_sendNow_110 (by decide) rfl ?_
            refine r_iload_n X dX5_sendNow_113 rfl ?_
            refine r_iaM _ X rfl (by assumption) dX5_sendNow_114 (by decide) rfl rfl rfl ?_
            refine r_top (show layF (upM M1 19 f 1) r (nI f) 0 22 f = M1 22 f by unfold layF; rw [upM_other _ _ _ _ (by omega), upM_other _ _ _ _ (by omega), upM_other _ _ _ _ (by omega), upM_other _ _ _ _ (by omega)]) ?_
            refine r_cv2_Mi X mdX5_holds wml_X5_171 dX5_sendNow_115 ⟨rfl, rfl, Nat.le_of_ble_eq_true rfl, Nat.le_of_ble_eq_true rfl⟩ (by decide) rfl rfl (Nat.le_of_ble_eq_true rfl) rfl (zroom Z) (m_holds hf (hFb f hf).2.2.1 (hFb f hf).2.2.2.1) (fun M4 r4 q4 => ?_)
            show Rn G κ 118 _ _ _ _ _
            refine r_iret X Z dX5_sendNow_118 ?_
            rw [hG]
            exact ⟨rfl, rfl, _, rfl, q4⟩
  · show Rn G κ 19 _ _ _ _ _
    refine r_aload_n X dX5_sendNow_19 rfl ?_
    refine r_iload_n X dX5_sendNow_20 rfl ?_
    refine r_aload_n X dX5_sendNow_21 rfl ?_
    refine r_gam 22 X wfl_X5_66 dX5_sendNow_22 (by decide) rfl ?_
    refine r_iload_n X dX5_sendNow_25 rfl ?_
    refine r_iaM _ X rfl (by assumption) dX5_sendNow_26 (by decide) rfl rfl rfl ?_
    refine r_cv2_Mi X mdX5_holds wml_X5_171 dX5_sendNow_27 ⟨rfl, rfl, Nat.le_of_ble_eq_true rfl, Nat.le_of_ble_eq_true rfl⟩ (by decide) rfl rfl (Nat.le_of_ble_eq_true rfl) rfl (zroom Z) (m_holds hf (hF1 f hf).2.2.1 (hF1 f hf).2.2.2.1) (fun M2 r2 q2 => ?_)
    show Rn G κ 30 _ _ _ _ _
    show Rn G κ 30 _ _ _ _ _
    refine r_iret X Z dX5_sendNow_30 ?_
    have hG : sendG M1 f = holdF M1 f (M1 22 f) := by unfold sendG; rw [if_pos c16]
    rw [hG]
    exact ⟨rfl, rfl, _, rfl, q2⟩
set_option maxRecDepth 100000 in
set_option maxHeartbeats 4000000 in
theorem m_send {G : bpG} {C : bpC} {M : bpM} {hl : Int64} {k : Nat} {x : Int32} (hI : Inv M k) : Ct G yX5_send cX5_send 2 (some .int) rmX5_send [.ref (G.1 11 0), .int x] C M hl (qMi C hl (fun M' r => M' = (sendS M x).1 ∧ r = (sendS M x).2)) := by
  refine ct_of [some (.ref (G.1 11 0)), some (.int x)] (by decide +kernel) rfl rfl (Nat.le_of_ble_eq_true rfl) ?_
  intro κ X Z
  refine r_iload_n X dX5_send_0 rfl ?_
  refine r_cs1_I X mdX5_isFlow wml_X5_161 dX5_send_1 ⟨rfl, rfl, Nat.le_of_ble_eq_true rfl, Nat.le_of_ble_eq_true rfl⟩ (Nat.le_of_ble_eq_true rfl) rfl (zroom Z) (m_isFlow) ?_
  show Rn G κ 4 _ _ _ _ _
  refine r_ifne 11 X dX5_send_4 (by decide) (fun c4 => ?_) (fun c4 => ?_)
  · have hx := bI_1 c4
    show Rn G κ 11 _ _ _ _ _
    refine r_aload_n X dX5_send_11 rfl ?_
    refine r_gim 2 X wfl_X5_105 dX5_send_12 (by decide) rfl ?_
    refine r_ifne 24 X dX5_send_15 (by decide) (fun c15 => ?_) (fun c15 => ?_)
    · obtain ⟨f, hf, rfl⟩ := isF_of hx
      show Rn G κ 24 _ _ _ _ _
      refine r_aload_n X dX5_send_24 rfl ?_
      refine r_iload_n X dX5_send_25 rfl ?_
      refine r_cv1_Mi X mdX5_sendNow wml_X5_180 dX5_send_26 ⟨rfl, rfl, Nat.le_of_ble_eq_true rfl, Nat.le_of_ble_eq_true rfl⟩ (by decide) rfl rfl (Nat.le_of_ble_eq_true rfl) rfl (zroom Z) (m_sendNow hI.2.2.1.1 hI.1 hI.2.1 hf) (fun M2 r2 q2 => ?_)
      show Rn G κ 29 _ _ _ _ _
      refine r_iret X Z dX5_send_29 ?_
      have e : sendS M (nI f) = sendF M f := by unfold sendS; rw [if_pos hx, if_neg c15, nIc (by omega)]
      rw [e]
      exact ⟨rfl, rfl, _, rfl, q2⟩
    · show Rn G κ 18 _ _ _ _ _
      refine r_sipush (-1003) X dX5_send_18 (by decide) ?_
      refine r_goto 29 X dX5_send_21 (by decide) ?_
      refine r_iret X Z dX5_send_29 ?_
      have e : sendS M x = (M, -1003) := by unfold sendS; rw [if_pos hx, if_pos c15]
      rw [e]
      exact ⟨rfl, rfl, _, rfl, rfl, rfl⟩
  · show Rn G κ 7 _ _ _ _ _
    refine r_sipush (-1001) X dX5_send_7 (by decide) ?_
    refine r_iret X Z dX5_send_10 ?_
    have e : sendS M x = (M, -1001) := by unfold sendS; rw [if_neg (by rw [bI_0 c4]; decide)]
    rw [e]
    exact ⟨rfl, rfl, _, rfl, rfl, rfl⟩
set_option maxRecDepth 100000 in
set_option maxHeartbeats 4000000 in
theorem m_answer {G : bpG} {C : bpC} {M : bpM} {hl : Int64} {f : Nat} (hB : Bas M) (hQ : QB M) (h20 : M 20 f = nI (hm M f)) (h8 : hm M f ≤ 8) (hf : f < 12) : Ct G yX5_answer cX5_answer 5 none rmX5_answer [.ref (G.1 11 0), .int (nI f)] C M hl (qM C hl (fun M' => M' = answerF M f)) := by
  refine ct_of [some (.ref (G.1 11 0)), some (.int (nI f)), none, none, none] (by decide +kernel) rfl rfl (Nat.le_of_ble_eq_true rfl) ?_
  intro κ X Z
  have hn6 := hB.2.1
  have loop : ∀ (n k : Nat) (z : Option Value), k + n = hm M f → Bas (ansN (upM (ansB M f) 20 f 0) (way M f) f (fun k => M 21 (8 * f + k)) k) → QB (ansN (upM (ansB M f) 20 f 0) (way M f) f (fun k => M 21 (8 * f + k)) k) → Rn G κ 44 [some (.ref (G.1 11 0)), some (.int (nI f)), some (.int (nI (hm M f))), some (.int (nI k)), z] [] C (ansN (upM (ansB M f) 20 f 0) (way M f) f (fun k => M 21 (8 * f + k)) k) hl := by
    intro n
    induction n with
    | zero =>
      intro k z hk hBk hQk
      refine r_iload_n X dX5_answer_44 rfl ?_
      refine r_iload_n X dX5_answer_45 rfl ?_
      refine r_icmpge 79 X dX5_answer_46 (by decide) (fun c46 => ?_) (fun c46 => absurd (by rw [show k = hm M f by omega]; exact Int32.le_refl _) c46)
      show Rn G κ 79 _ _ _ _ _
      refine r_vret X Z dX5_answer_79 ?_
      refine ⟨rfl, rfl, rfl, ?_⟩
      unfold answerF
      rw [show k = hm M f by omega]
    | succ n ih =>
      intro k z hk hBk hQk
      have e18 : (ansN (upM (ansB M f) 20 f 0) (way M f) f (fun k => M 21 (8 * f + k)) k) 18 f = oI (way M f) := by rw [ansN_s _ _ _ _ (by omega), upM_ne _ _ _ _ (by omega)]; unfold ansB; rw [upM_at]
      have e21 : (ansN (upM (ansB M f) 20 f 0) (way M f) f (fun k => M 21 (8 * f + k)) k) 21 (8 * f + k) = M 21 (8 * f + k) := by rw [ansN_s _ _ _ _ (by omega), upM_other _ _ _ _ (by omega)]; unfold ansB; rw [upM_other _ _ _ _ (by omega), upM_other _ _ _ _ (by omega), upM_other _ _ _ _ (by omega)]
      have hnp : np (ansN (upM (ansB M f) 20 f 0) (way M f) f (fun k => M 21 (8 * f + k)) k) = np M := by rw [ansN_np, np_up (by omega)]; unfold ansB; rw [np_up (by omega), np_up (by omega), np_up (by omega)]
      have hw : ∀ p, way M f = some p → p < np (ansN (upM (ansB M f) 20 f 0) (way M f) f (fun k => M 21 (8 * f + k)) k) := fun p hp => by rw [hnp]; exact way_lt hp
      refine r_iload_n X dX5_answer_44 rfl ?_
      refine r_iload_n X dX5_answer_45 rfl ?_
      refine r_icmpge 79 X dX5_answer_46 (by decide) (fun c46 => absurd c46 (by simp only [i_lt, i_le, i_eq, i_m1, i_0, i_1, i_2, i_3, i_4, i_5, i_6, i_7, i_8, i_9, i_10, i_11, i_12, i_17, i_20, i_24, i_32, i_44, i_48, i_50, i_51, i_52, i_57, i_58, i_100, i_126, i_n (show hm M f < 2 ^ 31 by omega), i_n (show k < 2 ^ 31 by omega)]; omega)) (fun c46 => ?_)
      show Rn G κ 49 _ _ _ _ _
      refine r_aload_n X dX5_answer_49 rfl ?_
      refine r_aload_n X dX5_answer_50 rfl ?_
      refine r_gam 18 X wfl_X5_54 dX5_answer_51 (by decide) rfl ?_
      refine r_iload_n X dX5_answer_54 rfl ?_
      show Rn G κ 55 _ _ _ _ _
      refine r_iaM _ X rfl (by assumption) dX5_answer_55 (by decide) rfl rfl rfl ?_
      refine r_top e18 ?_
      refine r_iload_n X dX5_answer_56 rfl ?_
      refine r_aload_n X dX5_answer_57 rfl ?_
      refine r_gam 21 X wfl_X5_63 dX5_answer_58 (by decide) rfl ?_
      refine r_bipush (8) X dX5_answer_61 (by decide) ?_
      refine r_iload_n X dX5_answer_63 rfl ?_
      refine r_imul X dX5_answer_64 ?_
      refine r_iload_n X dX5_answer_65 rfl ?_
      show Rn G κ 66 _ _ _ _ _
      refine r_iadd X dX5_answer_66 ?_
      refine r_iaM (8 * f + k) X (show (8 : Int32) * nI f + nI k = nI (8 * f + k) by rw [← nI_add, ← pk_mul]; rfl) (show 8 * f + k < 96 by omega) dX5_answer_67 (by decide) rfl rfl rfl ?_
      refine r_top e21 ?_
      refine r_cv3_Mi X mdX5_comes wml_X5_177 dX5_answer_68 ⟨rfl, rfl, Nat.le_of_ble_eq_true rfl, Nat.le_of_ble_eq_true rfl⟩ (by decide) rfl rfl (Nat.le_of_ble_eq_true rfl) rfl (zroom Z) (m_comes hw hBk hQk hf) (fun M2 r2 q2 => ?_)
      show Rn G κ 71 _ _ _ _ _
      refine r_istore_4 X dX5_answer_71 rfl ?_
      refine r_iinc_3 (nI (k + 1)) X dX5_answer_73 (nI_1 k) rfl ?_
      refine r_goto 44 X dX5_answer_76 (by decide) ?_
      have e2 := q2.1
      subst e2
      have hB2 : Bas (comeF (ansN (upM (ansB M f) 20 f 0) (way M f) f (fun k => M 21 (8 * f + k)) k) (way M f) f (M 21 (8 * f + k))).1 := Bas_cg (come_s _ _ _ _ (by omega)) (come_s _ _ _ _ (by omega)) hBk
      exact ih (k + 1) _ (by omega) hB2 (QB_come hQk hw)
  refine r_aload_n X dX5_answer_0 rfl ?_
  refine r_gam 19 X wfl_X5_57 dX5_answer_1 (by decide) rfl ?_
  refine r_iload_n X dX5_answer_4 rfl ?_
  refine r_iconst (0) X dX5_answer_5 (by decide) ?_
  refine r_zsM _ X (by decide) rfl (by assumption) dX5_answer_6 (by decide) rfl rfl rfl ?_
  refine r_aload_n X dX5_answer_7 rfl ?_
  refine r_dup X dX5_answer_8 rfl ?_
  show Rn G κ 9 _ _ _ _ _
  refine r_gim 27 X wfl_X5_102 dX5_answer_9 (by decide) rfl ?_
  refine r_top (upM_ne _ 19 f _ (k' := 27) (by omega)) ?_
  refine r_iconst (1) X dX5_answer_12 (by decide) ?_
  refine r_iadd X dX5_answer_13 ?_
  refine r_pim 27 X wfl_X5_102 dX5_answer_14 (by decide) rfl rfl (by decide +kernel) ?_
  refine r_aload_n X dX5_answer_17 rfl ?_
  refine r_gam 18 X wfl_X5_54 dX5_answer_18 (by decide) rfl ?_
  refine r_iload_n X dX5_answer_21 rfl ?_
  refine r_aload_n X dX5_answer_22 rfl ?_
  show Rn G κ 23 _ _ _ _ _
  refine r_iload_n X dX5_answer_23 rfl ?_
  refine r_cv1_I X mdX5_wayOf wml_X5_164 dX5_answer_24 ⟨rfl, rfl, Nat.le_of_ble_eq_true rfl, Nat.le_of_ble_eq_true rfl⟩ (by decide) rfl rfl (Nat.le_of_ble_eq_true rfl) rfl (zroom Z) (m_wayOf (Bas_M (by omega) (Bas_M (by omega) hB)) hf) ?_
  show Rn G κ 27 _ _ _ _ _
  refine r_top (show oI (way (upM (upM M 19 f 0) 27 0 (M 27 0 + 1)) f) = oI (way M f) by rw [way_up (by omega), way_up (by omega)]) ?_
  refine r_isM _ X rfl (by assumption) dX5_answer_27 (by decide) rfl rfl rfl ?_
  refine r_aload_n X dX5_answer_28 rfl ?_
  refine r_gam 20 X wfl_X5_60 dX5_answer_29 (by decide) rfl ?_
  refine r_iload_n X dX5_answer_32 rfl ?_
  refine r_iaM _ X rfl (by assumption) dX5_answer_33 (by decide) rfl rfl rfl ?_
  refine r_top (show upM (upM (upM M 19 f 0) 27 0 (M 27 0 + 1)) 18 f (oI (way M f)) 20 f = nI (hm M f) by rw [upM_ne _ _ _ _ (by omega), upM_ne _ _ _ _ (by omega), upM_ne _ _ _ _ (by omega)]; exact h20) ?_
  refine r_istore_2 X dX5_answer_34 rfl ?_
  show Rn G κ 35 _ _ _ _ _
  refine r_aload_n X dX5_answer_35 rfl ?_
  refine r_gam 20 X wfl_X5_60 dX5_answer_36 (by decide) rfl ?_
  refine r_iload_n X dX5_answer_39 rfl ?_
  refine r_iconst (0) X dX5_answer_40 (by decide) ?_
  refine r_isM _ X rfl (by assumption) dX5_answer_41 (by decide) rfl rfl rfl ?_
  refine r_iconst (0) X dX5_answer_42 (by decide) ?_
  refine r_istore_3 X dX5_answer_43 rfl ?_
  have hB2 : Bas (upM (ansB M f) 20 f 0) := Bas_M (by omega) (Bas_M (by omega) (Bas_M (by omega) (Bas_M (by omega) hB)))
  have hQ2 : QB (upM (ansB M f) 20 f 0) := QB_up (by omega) (QB_up (by omega) (QB_up (by omega) (QB_up (by omega) hQ)))
  exact loop (hm M f) 0 none (by omega) hB2 hQ2
set_option maxRecDepth 100000 in
set_option maxHeartbeats 4000000 in
theorem m_letter {G : bpG} {C : bpC} {M : bpM} {hl : Int64} {k : Nat} {x : Int32} (hI : Inv M k) : Ct G yX5_letter cX5_letter 2 (some .int) rmX5_letter [.ref (G.1 11 0), .int x] C M hl (qMi C hl (fun M' r => M' = (letterS M x).1 ∧ r = (letterS M x).2)) := by
  have hG := hI.2.2.2.2
  have h17 := hG.2
  refine ct_of [some (.ref (G.1 11 0)), some (.int x)] (by decide +kernel) rfl rfl (Nat.le_of_ble_eq_true rfl) ?_
  intro κ X Z
  refine r_iload_n X dX5_letter_0 rfl ?_
  refine r_bipush (32) X dX5_letter_1 (by decide) ?_
  refine r_bipush (126) X dX5_letter_3 (by decide) ?_
  refine r_cs3_I X mdX5_within wml_X5_84 dX5_letter_5 ⟨rfl, rfl, Nat.le_of_ble_eq_true rfl, Nat.le_of_ble_eq_true rfl⟩ (Nat.le_of_ble_eq_true rfl) rfl (zroom Z) (m_within) ?_
  show Rn G κ 8 _ _ _ _ _
  refine r_ifne 15 X dX5_letter_8 (by decide) (fun c8 => ?_) (fun c8 => ?_)
  · have hx : 32 ≤ x ∧ x ≤ 126 := by have := bI_1 c8; rw [Bool.and_eq_true, decide_eq_true_eq, decide_eq_true_eq] at this; exact this
    show Rn G κ 15 _ _ _ _ _
    refine r_aload_n X dX5_letter_15 rfl ?_
    refine r_gim 0 X wfl_X5_88 dX5_letter_16 (by decide) rfl ?_
    refine r_bipush (17) X dX5_letter_19 (by decide) ?_
    refine r_icmpne 28 X dX5_letter_21 (by decide) (fun c21 => ?_) (fun c21 => ?_)
    · have hlt : pl M < 17 := by
        rcases Nat.lt_or_ge (pl M) 17 with q | q
        · exact q
        · exact absurd (by rw [hG.1, show pl M = 17 by omega]; rfl) c21
      show Rn G κ 28 _ _ _ _ _
      refine r_aload_n X dX5_letter_28 rfl ?_
      refine r_gam 1 X wfl_X5_7 dX5_letter_29 (by decide) rfl ?_
      refine r_aload_n X dX5_letter_32 rfl ?_
      refine r_gim 0 X wfl_X5_88 dX5_letter_33 (by decide) rfl ?_
      refine r_iload_n X dX5_letter_36 rfl ?_
      refine r_isM (pl M) X hG.1 (by assumption) dX5_letter_37 (by decide) rfl rfl rfl ?_
      refine r_aload_n X dX5_letter_38 rfl ?_
      show Rn G κ 39 _ _ _ _ _
      refine r_dup X dX5_letter_39 rfl ?_
      refine r_gim 0 X wfl_X5_88 dX5_letter_40 (by decide) rfl ?_
      refine r_iconst (1) X dX5_letter_43 (by decide) ?_
      refine r_iadd X dX5_letter_44 ?_
      refine r_pim 0 X wfl_X5_88 dX5_letter_45 (by decide) rfl rfl (by decide +kernel) ?_
      refine r_aload_n X dX5_letter_48 rfl ?_
      refine r_gim 0 X wfl_X5_88 dX5_letter_49 (by decide) rfl ?_
      refine r_iret X Z dX5_letter_52 ?_
      have e : letterS M x = (upM (upM M 1 (pl M) x) 0 0 (M 0 0 + 1), M 0 0 + 1) := by unfold letterS; rw [if_pos hx, if_neg c21]
      rw [e]
      refine ⟨rfl, rfl, _, rfl, ?_, ?_⟩
      · show upM (upM M 1 (pl M) x) 0 0 (upM M 1 (pl M) x 0 0 + 1) = _
        rw [upM_ne _ 1 _ _ (k' := 0) (by omega)]
      · show upM (upM M 1 (pl M) x) 0 0 (upM M 1 (pl M) x 0 0 + 1) 0 0 = _
        rw [upM_at, upM_ne _ 1 _ _ (k' := 0) (by omega)]
    · show Rn G κ 24 _ _ _ _ _
      refine r_sipush (-1004) X dX5_letter_24 (by decide) ?_
      refine r_iret X Z dX5_letter_27 ?_
      have e : letterS M x = (M, -1004) := by unfold letterS; rw [if_pos hx, if_pos c21]
      rw [e]
      exact ⟨rfl, rfl, _, rfl, rfl, rfl⟩
  · show Rn G κ 11 _ _ _ _ _
    refine r_sipush (-1002) X dX5_letter_11 (by decide) ?_
    refine r_iret X Z dX5_letter_14 ?_
    have e : letterS M x = (M, -1002) := by
      unfold letterS
      rw [if_neg]
      rintro ⟨z1, z2⟩
      have := bI_0 c8
      rw [Bool.and_eq_false_iff, decide_eq_false_iff_not, decide_eq_false_iff_not] at this
      rcases this with h | h
      · exact h z1
      · exact h z2
    rw [e]
    exact ⟨rfl, rfl, _, rfl, rfl, rfl⟩
set_option maxRecDepth 100000 in
set_option maxHeartbeats 4000000 in
theorem m_blank {G : bpG} {C : bpC} {M : bpM} {hl : Int64}  : Ct G yX5_blank cX5_blank 2 (some .int) rmX5_blank [.ref (G.1 11 0)] C M hl (qMi C hl (fun M' r => M' = (blankS M).1 ∧ r = (blankS M).2)) := by
  refine ct_of [some (.ref (G.1 11 0)), none] (by decide +kernel) rfl rfl (Nat.le_of_ble_eq_true rfl) ?_
  intro κ X Z
  refine r_aload_n X dX5_blank_0 rfl ?_
  refine r_gim 0 X wfl_X5_88 dX5_blank_1 (by decide) rfl ?_
  refine r_istore_1 X dX5_blank_4 rfl ?_
  refine r_aload_n X dX5_blank_5 rfl ?_
  refine r_iconst (0) X dX5_blank_6 (by decide) ?_
  refine r_pim 0 X wfl_X5_88 dX5_blank_7 (by decide) rfl rfl (by decide +kernel) ?_
  refine r_iload_n X dX5_blank_10 rfl ?_
  show Rn G κ 11 _ _ _ _ _
  refine r_iret X Z dX5_blank_11 ?_
  exact ⟨rfl, rfl, _, rfl, rfl, rfl⟩
def tolV (a : bpM) (w : Int32) : Int32 := if w = 0 then a 11 0 else if w = 1 then a 12 0 else a 13 0
set_option maxRecDepth 100000 in
set_option maxHeartbeats 4000000 in
theorem m_toldNow {G : bpG} {C : bpC} {M : bpM} {hl : Int64} {w : Int32} : Ct G yX5_toldNow cX5_toldNow 2 (some .int) rmX5_toldNow [.ref (G.1 11 0), .int w] C M hl (qI C M hl (tolV M w)) := by
  refine ct_of [some (.ref (G.1 11 0)), some (.int w)] (by decide +kernel) rfl rfl (Nat.le_of_ble_eq_true rfl) ?_
  intro κ X Z
  refine r_iload_n X dX5_toldNow_0 rfl ?_
  refine r_ifne 11 X dX5_toldNow_1 (by decide) (fun c1 => ?_) (fun c1 => ?_)
  · show Rn G κ 11 _ _ _ _ _
    refine r_iload_n X dX5_toldNow_11 rfl ?_
    refine r_iconst (1) X dX5_toldNow_12 (by decide) ?_
    refine r_icmpne 23 X dX5_toldNow_13 (by decide) (fun c13 => ?_) (fun c13 => ?_)
    · show Rn G κ 23 _ _ _ _ _
      refine r_aload_n X dX5_toldNow_23 rfl ?_
      refine r_gim 13 X wfl_X5_132 dX5_toldNow_24 (by decide) rfl ?_
      refine r_iret X Z dX5_toldNow_27 ?_
      refine ⟨rfl, rfl, rfl, ret_i ?_⟩
      unfold tolV
      simp [*]
    · show Rn G κ 16 _ _ _ _ _
      refine r_aload_n X dX5_toldNow_16 rfl ?_
      refine r_gim 12 X wfl_X5_42 dX5_toldNow_17 (by decide) rfl ?_
      refine r_goto 27 X dX5_toldNow_20 (by decide) ?_
      refine r_iret X Z dX5_toldNow_27 ?_
      refine ⟨rfl, rfl, rfl, ret_i ?_⟩
      unfold tolV
      simp [*]
  · show Rn G κ 4 _ _ _ _ _
    refine r_aload_n X dX5_toldNow_4 rfl ?_
    refine r_gim 11 X wfl_X5_38 dX5_toldNow_5 (by decide) rfl ?_
    refine r_goto 27 X dX5_toldNow_8 (by decide) ?_
    refine r_iret X Z dX5_toldNow_27 ?_
    refine ⟨rfl, rfl, rfl, ret_i ?_⟩
    unfold tolV
    simp [*]
set_option maxRecDepth 100000 in
set_option maxHeartbeats 4000000 in
theorem m_rank {G : bpG} {C : bpC} {M : bpM} {hl : Int64} {k : Nat} {x v : Int32} (hI : Inv M k) : Ct G yX5_rank cX5_rank 4 (some .int) rmX5_rank [.ref (G.1 11 0), .int x, .int v] C M hl (qMi C hl (fun M' r => M' = (rankS M x v).1 ∧ r = (rankS M x v).2)) := by
  refine ct_of [some (.ref (G.1 11 0)), some (.int x), some (.int v), none] (by decide +kernel) rfl rfl (Nat.le_of_ble_eq_true rfl) ?_
  intro κ X Z
  refine r_aload_n X dX5_rank_0 rfl ?_
  refine r_iload_n X dX5_rank_1 rfl ?_
  refine r_cv1_I X mdX5_isPort wml_X5_141 dX5_rank_2 ⟨rfl, rfl, Nat.le_of_ble_eq_true rfl, Nat.le_of_ble_eq_true rfl⟩ (by decide) rfl rfl (Nat.le_of_ble_eq_true rfl) rfl (zroom Z) (m_isPort hI.2.2.1.1) ?_
  show Rn G κ 5 _ _ _ _ _
  refine r_ifne 12 X dX5_rank_5 (by decide) (fun c5 => ?_) (fun c5 => ?_)
  · have hx := bI_1 c5
    obtain ⟨p, hp, rfl⟩ := isP_of hI.2.2.1.1 hx
    have hp6 : p < 6 := by have := hI.2.2.1.1.2.1; omega
    show Rn G κ 12 _ _ _ _ _
    refine r_iload_n X dX5_rank_12 rfl ?_
    refine r_iconst (0) X dX5_rank_13 (by decide) ?_
    refine r_bipush (9) X dX5_rank_14 (by decide) ?_
    refine r_cs3_I X mdX5_within wml_X5_84 dX5_rank_16 ⟨rfl, rfl, Nat.le_of_ble_eq_true rfl, Nat.le_of_ble_eq_true rfl⟩ (Nat.le_of_ble_eq_true rfl) rfl (zroom Z) (m_within) ?_
    show Rn G κ 19 _ _ _ _ _
    refine r_ifne 26 X dX5_rank_19 (by decide) (fun c19 => ?_) (fun c19 => ?_)
    · have hv : 0 ≤ v ∧ v ≤ 9 := by have := bI_1 c19; rw [Bool.and_eq_true, decide_eq_true_eq, decide_eq_true_eq] at this; exact this
      show Rn G κ 26 _ _ _ _ _
      refine r_aload_n X dX5_rank_26 rfl ?_
      refine r_gam 4 X wfl_X5_16 dX5_rank_27 (by decide) rfl ?_
      refine r_iload_n X dX5_rank_30 rfl ?_
      refine r_iaM _ X rfl (by assumption) dX5_rank_31 (by decide) rfl rfl rfl ?_
      refine r_istore_3 X dX5_rank_32 rfl ?_
      refine r_aload_n X dX5_rank_33 rfl ?_
      refine r_gam 4 X wfl_X5_16 dX5_rank_34 (by decide) rfl ?_
      show Rn G κ 37 _ _ _ _ _
      refine r_iload_n X dX5_rank_37 rfl ?_
      refine r_iload_n X dX5_rank_38 rfl ?_
      refine r_isM _ X rfl (by assumption) dX5_rank_39 (by decide) rfl rfl rfl ?_
      refine r_aload_n X dX5_rank_40 rfl ?_
      refine r_cv0_M X mdX5_settle wml_X5_138 dX5_rank_41 ⟨rfl, rfl, Nat.le_of_ble_eq_true rfl, Nat.le_of_ble_eq_true rfl⟩ (by decide) rfl rfl (Nat.le_of_ble_eq_true rfl) rfl (zroom Z) (m_settle (Bas_M (by omega) hI.2.2.1.1)) (fun M2 e2 => ?_)
      subst e2
      show Rn G κ 44 _ _ _ _ _
      refine r_iload_n X dX5_rank_44 rfl ?_
      refine r_iret X Z dX5_rank_45 ?_
      have e : rankS M (nI p) v = (settle (upM M 4 p v), M 4 p) := by unfold rankS; rw [if_pos hx, if_pos hv, nIc (by omega)]
      rw [e]
      exact ⟨rfl, rfl, _, rfl, rfl, rfl⟩
    · show Rn G κ 22 _ _ _ _ _
      refine r_sipush (-1002) X dX5_rank_22 (by decide) ?_
      refine r_iret X Z dX5_rank_25 ?_
      have e : rankS M (nI p) v = (M, -1002) := by
        unfold rankS
        rw [if_pos hx, if_neg]
        rintro ⟨z1, z2⟩
        have := bI_0 c19
        rw [Bool.and_eq_false_iff, decide_eq_false_iff_not, decide_eq_false_iff_not] at this
        rcases this with h | h
        · exact h z1
        · exact h z2
      rw [e]
      exact ⟨rfl, rfl, _, rfl, rfl, rfl⟩
  · show Rn G κ 8 _ _ _ _ _
    refine r_sipush (-1001) X dX5_rank_8 (by decide) ?_
    refine r_iret X Z dX5_rank_11 ?_
    have e : rankS M x v = (M, -1001) := by unfold rankS; rw [if_neg (by rw [bI_0 c5]; decide)]
    rw [e]
    exact ⟨rfl, rfl, _, rfl, rfl, rfl⟩
set_option maxRecDepth 100000 in
set_option maxHeartbeats 4000000 in
theorem m_hear {G : bpG} {C : bpC} {M : bpM} {hl : Int64} {k : Nat} {x y q g : Int32} (hr : g = 0 ∨ g = 1) (hI : Inv M k) : Ct G yX5_hear cX5_hear 5 (some .int) rmX5_hear [.ref (G.1 11 0), .int x, .int y, .int q, .int g] C M hl (qMi C hl (fun M' r => M' = (hearS M x y q g).1 ∧ r = (hearS M x y q g).2)) := by
  refine ct_of [some (.ref (G.1 11 0)), some (.int x), some (.int y), some (.int q), some (.int g)] (by decide +kernel) rfl rfl (Nat.le_of_ble_eq_true rfl) ?_
  intro κ X Z
  refine r_aload_n X dX5_hear_0 rfl ?_
  refine r_iload_n X dX5_hear_1 rfl ?_
  refine r_cv1_I X mdX5_isPort wml_X5_141 dX5_hear_2 ⟨rfl, rfl, Nat.le_of_ble_eq_true rfl, Nat.le_of_ble_eq_true rfl⟩ (by decide) rfl rfl (Nat.le_of_ble_eq_true rfl) rfl (zroom Z) (m_isPort hI.2.2.1.1) ?_
  show Rn G κ 5 _ _ _ _ _
  refine r_ifne 12 X dX5_hear_5 (by decide) (fun c5 => ?_) (fun c5 => ?_)
  · have hx := bI_1 c5
    obtain ⟨p, hp, rfl⟩ := isP_of hI.2.2.1.1 hx
    have hp6 : p < 6 := by have := hI.2.2.1.1.2.1; omega
    show Rn G κ 12 _ _ _ _ _
    refine r_iload_n X dX5_hear_12 rfl ?_
    refine r_iconst (1) X dX5_hear_13 (by decide) ?_
    refine r_bipush (9) X dX5_hear_14 (by decide) ?_
    refine r_cs3_I X mdX5_within wml_X5_84 dX5_hear_16 ⟨rfl, rfl, Nat.le_of_ble_eq_true rfl, Nat.le_of_ble_eq_true rfl⟩ (Nat.le_of_ble_eq_true rfl) rfl (zroom Z) (m_within) ?_
    show Rn G κ 19 _ _ _ _ _
    refine r_ifeq 31 X dX5_hear_19 (by decide) (fun c19 => ?_) (fun c19 => ?_)
    · show Rn G κ 31 _ _ _ _ _
      refine r_sipush (-1002) X dX5_hear_31 (by decide) ?_
      refine r_iret X Z dX5_hear_34 ?_
      have e : hearS M (nI p) y q g = (M, -1002) := by
        unfold hearS
        rw [if_pos hx, if_neg]
        rintro ⟨z1, z2, z3, z4⟩
        have := bI_0 c19
        rw [Bool.and_eq_false_iff, decide_eq_false_iff_not, decide_eq_false_iff_not] at this
        rcases this with h | h
        · exact h z1
        · exact h z2
      rw [e]
      exact ⟨rfl, rfl, _, rfl, rfl, rfl⟩
    · show Rn G κ 22 _ _ _ _ _
      refine r_iload_n X dX5_hear_22 rfl ?_
      refine r_iconst (0) X dX5_hear_23 (by decide) ?_
      refine r_iconst (3) X dX5_hear_24 (by decide) ?_
      refine r_cs3_I X mdX5_within wml_X5_84 dX5_hear_25 ⟨rfl, rfl, Nat.le_of_ble_eq_true rfl, Nat.le_of_ble_eq_true rfl⟩ (Nat.le_of_ble_eq_true rfl) rfl (zroom Z) (m_within) ?_
      show Rn G κ 28 _ _ _ _ _
      refine r_ifne 35 X dX5_hear_28 (by decide) (fun c28 => ?_) (fun c28 => ?_)
      · have hrng : 1 ≤ y ∧ y ≤ 9 ∧ 0 ≤ q ∧ q ≤ 3 := by
          have h1 := bI_1 c19
          have h2 := bI_1 c28
          rw [Bool.and_eq_true, decide_eq_true_eq, decide_eq_true_eq] at h1 h2
          exact ⟨h1.1, h1.2, h2.1, h2.2⟩
        show Rn G κ 35 _ _ _ _ _
        refine r_aload_n X dX5_hear_35 rfl ?_
        refine r_gam 5 X wfl_X5_19 dX5_hear_36 (by decide) rfl ?_
        refine r_iload_n X dX5_hear_39 rfl ?_
        refine r_zaM _ X rfl (by assumption) dX5_hear_40 (by decide) rfl rfl rfl ?_
        refine r_ifne 48 X dX5_hear_41 (by decide) (fun c41 => ?_) (fun c41 => ?_)
        · show Rn G κ 48 _ _ _ _ _
          refine r_aload_n X dX5_hear_48 rfl ?_
          refine r_gam 6 X wfl_X5_23 dX5_hear_49 (by decide) rfl ?_
          refine r_iload_n X dX5_hear_52 rfl ?_
          refine r_iload_n X dX5_hear_53 rfl ?_
          refine r_isM _ X rfl (by assumption) dX5_hear_54 (by decide) rfl rfl rfl ?_
          refine r_aload_n X dX5_hear_55 rfl ?_
          refine r_gam 7 X wfl_X5_26 dX5_hear_56 (by decide) rfl ?_
          show Rn G κ 59 _ _ _ _ _
          refine r_iload_n X dX5_hear_59 rfl ?_
          refine r_iload_n X dX5_hear_60 rfl ?_
          refine r_isM _ X rfl (by assumption) dX5_hear_61 (by decide) rfl rfl rfl ?_
          refine r_aload_n X dX5_hear_62 rfl ?_
          refine r_gam 8 X wfl_X5_29 dX5_hear_63 (by decide) rfl ?_
          refine r_iload_n X dX5_hear_66 rfl ?_
          refine r_iload X dX5_hear_67 rfl ?_
          refine r_zsM _ X hr rfl (by assumption) dX5_hear_69 (by decide) rfl rfl rfl ?_
          show Rn G κ 70 _ _ _ _ _
          refine r_aload_n X dX5_hear_70 rfl ?_
          refine r_gam 9 X wfl_X5_32 dX5_hear_71 (by decide) rfl ?_
          refine r_iload_n X dX5_hear_74 rfl ?_
          refine r_iconst (0) X dX5_hear_75 (by decide) ?_
          refine r_isM _ X rfl (by assumption) dX5_hear_76 (by decide) rfl rfl rfl ?_
          have hB4 : Bas (upM (upM (upM (upM M 6 p y) 7 p q) 8 p g) 9 p 0) := Bas_M (by omega) (Bas_M (by omega) (Bas_M (by omega) (Bas_M (by omega) hI.2.2.1.1)))
          have hn4 : np (upM (upM (upM (upM M 6 p y) 7 p q) 8 p g) 9 p 0) = np M := by rw [np_up (by omega), np_up (by omega), np_up (by omega), np_up (by omega)]
          refine r_aload_n X dX5_hear_77 rfl ?_
          refine r_cv0_M X mdX5_settle wml_X5_138 dX5_hear_78 ⟨rfl, rfl, Nat.le_of_ble_eq_true rfl, Nat.le_of_ble_eq_true rfl⟩ (by decide) rfl rfl (Nat.le_of_ble_eq_true rfl) rfl (zroom Z) (m_settle hB4) (fun M2 e2 => ?_)
          subst e2
          show Rn G κ 81 _ _ _ _ _
          refine r_aload_n X dX5_hear_81 rfl ?_
          show Rn G κ 82 _ _ _ _ _
          refine r_iload_n X dX5_hear_82 rfl ?_
          refine r_cv1_I X mdX5_stateOf wml_X5_129 dX5_hear_83 ⟨rfl, rfl, Nat.le_of_ble_eq_true rfl, Nat.le_of_ble_eq_true rfl⟩ (by decide) rfl rfl (Nat.le_of_ble_eq_true rfl) rfl (zroom Z) (m_stateOf (M := settle (upM (upM (upM (upM M 6 p y) 7 p q) 8 p g) 9 p 0)) (Bas_cg (settle_s _ (by omega)) (settle_s _ (by omega)) hB4) (by rw [settle_np, hn4]; exact hp)) ?_
          show Rn G κ 86 _ _ _ _ _
          refine r_iconst (4) X dX5_hear_86 (by decide) ?_
          refine r_icmpne 94 X dX5_hear_87 (by decide) (fun c87 => ?_) (fun c87 => ?_)
          · show Rn G κ 94 _ _ _ _ _
            refine r_iconst (0) X dX5_hear_94 (by decide) ?_
            refine r_iret X Z dX5_hear_95 ?_
            have e : hearS M (nI p) y q g = (hearF M p y q g, bI (decide (stat (hearF M p y q g) p = 4))) := by unfold hearS; rw [if_pos hx, if_pos hrng, nIc (by omega), if_neg c41]
            rw [e]
            refine ⟨rfl, rfl, _, rfl, rfl, ?_⟩
            have c9 : ¬ (stat (hearF M p y q g) p = 4) := c87
            simp [bI, c9]
          · show Rn G κ 90 _ _ _ _ _
            refine r_iconst (1) X dX5_hear_90 (by decide) ?_
            refine r_goto 95 X dX5_hear_91 (by decide) ?_
            refine r_iret X Z dX5_hear_95 ?_
            have e : hearS M (nI p) y q g = (hearF M p y q g, bI (decide (stat (hearF M p y q g) p = 4))) := by unfold hearS; rw [if_pos hx, if_pos hrng, nIc (by omega), if_neg c41]
            rw [e]
            refine ⟨rfl, rfl, _, rfl, rfl, ?_⟩
            have c9 : stat (hearF M p y q g) p = 4 := c87
            simp [bI, c9]
        · show Rn G κ 44 _ _ _ _ _
          refine r_sipush (-1003) X dX5_hear_44 (by decide) ?_
          refine r_iret X Z dX5_hear_47 ?_
          have e : hearS M (nI p) y q g = (M, -1003) := by unfold hearS; rw [if_pos hx, if_pos hrng, nIc (by omega), if_pos c41]
          rw [e]
          exact ⟨rfl, rfl, _, rfl, rfl, rfl⟩
      · show Rn G κ 31 _ _ _ _ _
        refine r_sipush (-1002) X dX5_hear_31 (by decide) ?_
        refine r_iret X Z dX5_hear_34 ?_
        have e : hearS M (nI p) y q g = (M, -1002) := by
          unfold hearS
          rw [if_pos hx, if_neg]
          rintro ⟨z1, z2, z3, z4⟩
          have := bI_0 c28
          rw [Bool.and_eq_false_iff, decide_eq_false_iff_not, decide_eq_false_iff_not] at this
          rcases this with h | h
          · exact h z3
          · exact h z4
        rw [e]
        exact ⟨rfl, rfl, _, rfl, rfl, rfl⟩
  · show Rn G κ 8 _ _ _ _ _
    refine r_sipush (-1001) X dX5_hear_8 (by decide) ?_
    refine r_iret X Z dX5_hear_11 ?_
    have e : hearS M x y q g = (M, -1001) := by unfold hearS; rw [if_neg (by rw [bI_0 c5]; decide)]
    rw [e]
    exact ⟨rfl, rfl, _, rfl, rfl, rfl⟩
