theorem oldN_0 (a : bpM) : oldN a 0 = a := by
  funext k j
  simp only [oldN]
  rw [if_neg (by omega)]
/-- the whole relation again, once all is chosen -/
theorem RA_of {C C' : bpC} {a b : bpM} {ex : Nat} (h : RA C a ex) (hB : RB C' b) (hC : ∀ p, p < np b → RCh C' b p) (hx : ∀ x, x ≠ 5 → C' x = C x) (hs : ∀ s, s < 3 ∨ 10 < s → s ≠ 11 → s ≠ 12 → s ≠ 13 → b s = a s) : RA C' b ex := by
  have hn : np b = np a := by unfold np; rw [hs 2 (by omega) (by omega) (by omega) (by omega)]
  refine ⟨hB, hC, fun q hq he => ?_, fun f hf => ?_⟩
  · rw [hn] at hq
    have := h.2.2.1 q hq he
    unfold RQu qm at this ⊢
    rw [hx 6 (by decide), hx 7 (by decide), hx 8 (by decide), hs 15 (by omega) (by omega) (by omega) (by omega), hs 16 (by omega) (by omega) (by omega) (by omega), hs 17 (by omega) (by omega) (by omega) (by omega)]
    exact this
  · have := h.2.2.2 f hf
    unfold RFl hm at this ⊢
    rw [hx 9 (by decide), hx 10 (by decide), hs 18 (by omega) (by omega) (by omega) (by omega), hs 19 (by omega) (by omega) (by omega) (by omega), hs 20 (by omega) (by omega) (by omega) (by omega), hs 21 (by omega) (by omega) (by omega) (by omega), hs 22 (by omega) (by omega) (by omega) (by omega), hs 23 (by omega) (by omega) (by omega) (by omega), hs 24 (by omega) (by omega) (by omega) (by omega), hs 25 (by omega) (by omega) (by omega) (by omega)]
    exact this
set_option maxRecDepth 100000 in
set_option maxHeartbeats 4000000 in
theorem c_passTick {G : bpG} {C : bpC} {M : bpM} {hl : Int64} {a : bpM} {k : Nat} (hR : RA C a 9) (hQ : IQ a) (hF : IF a k) (hP : IP a) : Ct G yX4_passTick cX4_passTick 2 none rmX4_passTick [.ref (G.1 0 0)] C M hl (qC M hl (fun C' => RA C' (tick1 a).1 9)) := by
  refine ct_of [some (.ref (G.1 0 0)), none] (by decide +kernel) rfl rfl (Nat.le_of_ble_eq_true rfl) ?_
  intro κ X Z
  have hP1 : IP (upM a 26 0 (a 26 0 + 1)) := IP_up (by omega) hP
  have hn6 := hP.1.2.1
  have hI := I_pre hQ hF hP
  obtain ⟨a1, ea1⟩ : ∃ a1, a1 = upM a 26 0 (a 26 0 + 1) := ⟨_, rfl⟩
  rw [← ea1] at hP1
  have hnp1 : np a1 = np a := by rw [ea1, np_up (by omega)]
  have epre : preT a = wtF (settle (oldF a1)) := by rw [ea1]; rfl
  have hnb : np (settle (oldF a1)) = np a := by rw [settle_np]; unfold oldF; rw [oldN_np, hnp1]
  have loop3 : ∀ (n i : Nat) (Ck : bpC), i + n = np a → RA Ck (outN (preT a) i).1 9 → Rn G κ 99 [some (.ref (G.1 0 0)), some (.int (nI i))] [] Ck M hl := by
    intro n
    induction n with
    | zero =>
      intro i Ck hi hRk
      have hi : i = np a := by omega
      subst hi
      have hc : Ck 0 0 3 = nI (np a) := by rw [hRk.1.1.1, hRk.1.2.1.1]; rw [(I_out hI.1 hI.2.1 hI.2.2 (np a) (by rw [preT_np]; exact Nat.le_refl _)).2.2.2.1, preT_np]
      refine r_iload_n X dX4_passTick_99 rfl ?_
      refine r_aload_n X dX4_passTick_100 rfl ?_
      refine r_gi0 3 X wfl_X4_28 dX4_passTick_101 (by decide) rfl ?_
      refine r_icmpge 138 X dX4_passTick_104 (by decide) (fun c104 => ?_) (fun c104 => absurd (by rw [hc]; exact Int32.le_refl _) c104)
      show Rn G κ 138 _ _ _ _ _
      refine r_vret X Z dX4_passTick_138 ?_
      exact ⟨rfl, rfl, rfl, hRk⟩
    | succ n ih =>
      intro i Ck hi hRk
      have hin : i < np a := by omega
      have h6 : i < 6 := by omega
      obtain ⟨o1, o2, o3, o4, o5⟩ := I_out hI.1 hI.2.1 hI.2.2 i (by rw [preT_np]; omega)
      rw [preT_np] at o4
      have hc : Ck 0 0 3 = nI (np a) := by rw [hRk.1.1.1, hRk.1.2.1.1, o4]
      have hup : Ck 5 i 3 = (outN (preT a) i).1 5 i := (hRk.1.2.2 i (by rw [o4]; exact hin)).2.2.1
      refine r_iload_n X dX4_passTick_99 rfl ?_
      refine r_aload_n X dX4_passTick_100 rfl ?_
      refine r_gi0 3 X wfl_X4_28 dX4_passTick_101 (by decide) rfl ?_
      refine r_icmpge 138 X dX4_passTick_104 (by decide) (fun c104 => absurd c104 (by rw [hc]; simp only [i_lt, i_le, i_eq, i_m1, i_0, i_1, i_2, i_3, i_4, i_5, i_6, i_7, i_8, i_9, i_10, i_11, i_12, i_17, i_20, i_24, i_32, i_44, i_48, i_50, i_51, i_52, i_57, i_58, i_100, i_126, i_n (show np a < 2 ^ 31 by omega), i_n (show i < 2 ^ 31 by omega)]; omega)) (fun c104 => ?_)
      show Rn G κ 107 _ _ _ _ _
      refine r_aload_n X dX4_passTick_107 rfl ?_
      refine r_gr0_1 X wfl_X4_18 dX4_passTick_108 ?_
      refine r_iload_n X dX4_passTick_111 rfl ?_
      show Rn G κ 112 _ _ _ _ _
      refine r_aaP _ X rfl (by assumption) dX4_passTick_112 ?_
      refine r_gi5 3 X (by assumption) wfl_X4_101 dX4_passTick_113 (by decide) rfl ?_
      refine r_ifeq 132 X dX4_passTick_116 (by decide) (fun c116 => ?_) (fun c116 => ?_)
      · show Rn G κ 132 _ _ _ _ _
        refine r_iinc_1 (nI (i + 1)) X dX4_passTick_132 (nI_1 i) rfl ?_
        refine r_goto 99 X dX4_passTick_135 (by decide) ?_
        refine ih (i + 1) Ck (by omega) ?_
        simp only [outN]
        rw [if_pos (hup.symm.trans c116)]
        exact hRk
      · show Rn G κ 119 _ _ _ _ _
        refine r_aload_n X dX4_passTick_119 rfl ?_
        refine r_aload_n X dX4_passTick_120 rfl ?_
        refine r_gr0_1 X wfl_X4_18 dX4_passTick_121 ?_
        refine r_iload_n X dX4_passTick_124 rfl ?_
        refine r_aaP _ X rfl (by assumption) dX4_passTick_125 ?_
        refine r_gr5_0 X (by assumption) wfl_X4_112 dX4_passTick_126 ?_
        refine r_cv1_C X mdX4_letFirstOut wml_X4_293 dX4_passTick_129 ⟨rfl, rfl, Nat.le_of_ble_eq_true rfl, Nat.le_of_ble_eq_true rfl⟩ (by decide) rfl rfl (Nat.le_of_ble_eq_true rfl) rfl (zroom Z) (c_letFirstOut hRk o1 o2 o3 (by rw [o4]; exact hin)) (fun C2 q2 => ?_)
        show Rn G κ 132 _ _ _ _ _
        show Rn G κ 132 _ _ _ _ _
        refine r_iinc_1 (nI (i + 1)) X dX4_passTick_132 (nI_1 i) rfl ?_
        refine r_goto 99 X dX4_passTick_135 (by decide) ?_
        refine ih (i + 1) C2 (by omega) ?_
        simp only [outN]
        rw [if_neg (fun z => c116 (hup.trans z))]
        exact q2
  have loop2 : ∀ (n i : Nat) (Ck : bpC), i + n = np a → RA Ck (wtN (settle (oldF a1)) i) 9 → Rn G κ 41 [some (.ref (G.1 0 0)), some (.int (nI i))] [] Ck M hl := by
    intro n
    induction n with
    | zero =>
      intro i Ck hi hRk
      have hi : i = np a := by omega
      subst hi
      have hc : Ck 0 0 3 = nI (np a) := by rw [hRk.1.1.1, hRk.1.2.1.1, wtN_np, hnb]
      refine r_iload_n X dX4_passTick_41 rfl ?_
      refine r_aload_n X dX4_passTick_42 rfl ?_
      refine r_gi0 3 X wfl_X4_28 dX4_passTick_43 (by decide) rfl ?_
      refine r_icmpge 97 X dX4_passTick_46 (by decide) (fun c46 => ?_) (fun c46 => absurd (by rw [hc]; exact Int32.le_refl _) c46)
      show Rn G κ 97 _ _ _ _ _
      refine r_iconst (0) X dX4_passTick_97 (by decide) ?_
      refine r_istore_1 X dX4_passTick_98 rfl ?_
      refine loop3 (np a) 0 Ck (by omega) ?_
      show RA Ck (preT a) 9
      rw [epre]
      unfold wtF
      rw [hnb]
      exact hRk
    | succ n ih =>
      intro i Ck hi hRk
      have hin : i < np a := by omega
      have h6 : i < 6 := by omega
      have hc : Ck 0 0 3 = nI (np a) := by rw [hRk.1.1.1, hRk.1.2.1.1, wtN_np, hnb]
      have hinw : i < np (wtN (settle (oldF a1)) i) := by rw [wtN_np, hnb]; exact hin
      have e9 : Ck 5 i 9 = choi (settle (oldF a1)) i := by have := hRk.2.1 i hinw; unfold RCh at this; rw [this, wtN_choi]
      have e10 : Ck 5 i 10 = (settle (oldF a1)) 10 i := by rw [(hRk.1.2.2 i hinw).2.2.2.2.1]; exact wtN_10 _ (Nat.le_refl _)
      refine r_iload_n X dX4_passTick_41 rfl ?_
      refine r_aload_n X dX4_passTick_42 rfl ?_
      refine r_gi0 3 X wfl_X4_28 dX4_passTick_43 (by decide) rfl ?_
      refine r_icmpge 97 X dX4_passTick_46 (by decide) (fun c46 => absurd c46 (by rw [hc]; simp only [i_lt, i_le, i_eq, i_m1, i_0, i_1, i_2, i_3, i_4, i_5, i_6, i_7, i_8, i_9, i_10, i_11, i_12, i_17, i_20, i_24, i_32, i_44, i_48, i_50, i_51, i_52, i_57, i_58, i_100, i_126, i_n (show np a < 2 ^ 31 by omega), i_n (show i < 2 ^ 31 by omega)]; omega)) (fun c46 => ?_)
      show Rn G κ 49 _ _ _ _ _
      refine r_aload_n X dX4_passTick_49 rfl ?_
      refine r_gr0_1 X wfl_X4_18 dX4_passTick_50 ?_
      refine r_iload_n X dX4_passTick_53 rfl ?_
      show Rn G κ 54 _ _ _ _ _
      refine r_aaP _ X rfl (by assumption) dX4_passTick_54 ?_
      refine r_gi5 9 X (by assumption) wfl_X4_260 dX4_passTick_55 (by decide) rfl ?_
      refine r_iconst (2) X dX4_passTick_58 (by decide) ?_
      refine r_icmpne 91 X dX4_passTick_59 (by decide) (fun c59 => ?_) (fun c59 => ?_)
      · show Rn G κ 91 _ _ _ _ _
        refine r_iinc_1 (nI (i + 1)) X dX4_passTick_91 (nI_1 i) rfl ?_
        refine r_goto 41 X dX4_passTick_94 (by decide) ?_
        refine ih (i + 1) Ck (by omega) ?_
        rw [wtN_f (fun z => c59 (e9.trans z.1))]
        exact hRk
      · show Rn G κ 62 _ _ _ _ _
        refine r_aload_n X dX4_passTick_62 rfl ?_
        refine r_gr0_1 X wfl_X4_18 dX4_passTick_63 ?_
        refine r_iload_n X dX4_passTick_66 rfl ?_
        refine r_aaP _ X rfl (by assumption) dX4_passTick_67 ?_
        refine r_gi5 10 X (by assumption) wfl_X4_150 dX4_passTick_68 (by decide) rfl ?_
        refine r_bipush (9) X dX4_passTick_71 (by decide) ?_
        refine r_icmpge 91 X dX4_passTick_73 (by decide) (fun c73 => ?_) (fun c73 => ?_)
        · show Rn G κ 91 _ _ _ _ _
          refine r_iinc_1 (nI (i + 1)) X dX4_passTick_91 (nI_1 i) rfl ?_
          refine r_goto 41 X dX4_passTick_94 (by decide) ?_
          refine ih (i + 1) Ck (by omega) ?_
          rw [wtN_f (fun z => by have h1 := z.2; rw [e10] at c73; rw [i_lt] at h1; rw [i_le] at c73; omega)]
          exact hRk
        · show Rn G κ 76 _ _ _ _ _
          refine r_aload_n X dX4_passTick_76 rfl ?_
          refine r_gr0_1 X wfl_X4_18 dX4_passTick_77 ?_
          refine r_iload_n X dX4_passTick_80 rfl ?_
          refine r_aaP _ X rfl (by assumption) dX4_passTick_81 ?_
          refine r_dup X dX4_passTick_82 rfl ?_
          refine r_gi5 10 X (by assumption) wfl_X4_150 dX4_passTick_83 (by decide) rfl ?_
          refine r_iconst (1) X dX4_passTick_86 (by decide) ?_
          show Rn G κ 87 _ _ _ _ _
          refine r_iadd X dX4_passTick_87 ?_
          refine r_pi5 10 X (by assumption) wfl_X4_150 dX4_passTick_88 (by decide) rfl rfl (by decide +kernel) ?_
          refine r_iinc_1 (nI (i + 1)) X dX4_passTick_91 (nI_1 i) rfl ?_
          refine r_goto 41 X dX4_passTick_94 (by decide) ?_
          refine ih (i + 1) _ (by omega) ?_
          rw [wtN_t ⟨e9.symm.trans c59, by rw [e10] at c73; rw [i_le] at c73; rw [i_lt]; omega⟩, e10]
          exact RA_wait hRk
  have hR1 := RA_sc (v := a 26 0 + 1) hR (s := 7) (t := 26) (by omega)
  rw [← ea1] at hR1
  have loop1 : ∀ (n i : Nat) (Ck : bpC), i + n = np a → RB Ck (oldN a1 i) → (∀ x, x ≠ 5 → Ck x = upC C 0 0 7 (a 26 0 + 1) x) → Rn G κ 12 [some (.ref (G.1 0 0)), some (.int (nI i))] [] Ck M hl := by
    intro n
    induction n with
    | zero =>
      intro i Ck hi hRk hox
      have hi : i = np a := by omega
      subst hi
      have hc : Ck 0 0 3 = nI (np a) := by rw [hRk.1.1, hRk.2.1.1, oldN_np, hnp1]
      refine r_iload_n X dX4_passTick_12 rfl ?_
      refine r_aload_n X dX4_passTick_13 rfl ?_
      refine r_gi0 3 X wfl_X4_28 dX4_passTick_14 (by decide) rfl ?_
      refine r_icmpge 35 X dX4_passTick_17 (by decide) (fun c17 => ?_) (fun c17 => absurd (by rw [hc]; exact Int32.le_refl _) c17)
      show Rn G κ 35 _ _ _ _ _
      have hky : ∀ p, p < np (oldN a1 (np a)) → ∃ k, k < 4 ∧ oldN a1 (np a) 3 p = nI k := fun p hp => by
        rw [oldN_np] at hp
        rw [oldN_s _ _ (by omega)]
        exact (hP1.2 p hp).1
      refine r_aload_n X dX4_passTick_35 rfl ?_
      refine r_cv0_C X mdX4_chooseAll wml_X4_98 dX4_passTick_36 ⟨rfl, rfl, Nat.le_of_ble_eq_true rfl, Nat.le_of_ble_eq_true rfl⟩ (by decide) rfl rfl (Nat.le_of_ble_eq_true rfl) rfl (zroom Z) (c_chooseAll hRk hky) (fun C2 q2 => ?_)
      show Rn G κ 39 _ _ _ _ _
      refine r_iconst (0) X dX4_passTick_39 (by decide) ?_
      show Rn G κ 40 _ _ _ _ _
      refine r_istore_1 X dX4_passTick_40 rfl ?_
      obtain ⟨q1, q2a, q3⟩ := q2
      have eB : settle (oldN a1 (np a)) = settle (oldF a1) := by unfold oldF; rw [hnp1]
      rw [eB] at q1 q2a
      refine loop2 (np a) 0 C2 (by omega) ?_
      rw [wtN_0]
      refine RA_of hR1 q1 (fun p hp => q2a p ?_) (fun x hx => (q3 x hx).trans (hox x hx)) (fun s h1 h2 h3 h4 => ?_)
      · rw [settle_np] at hp; unfold oldF at hp; rw [oldN_np] at hp ⊢; exact hp
      · rw [settle_s _ (by omega)]; unfold oldF; rw [oldN_s _ _ (by omega)]
    | succ n ih =>
      intro i Ck hi hRk hox
      have hin : i < np a := by omega
      have h6 : i < 6 := by omega
      have hc : Ck 0 0 3 = nI (np a) := by rw [hRk.1.1, hRk.2.1.1, oldN_np, hnp1]
      refine r_iload_n X dX4_passTick_12 rfl ?_
      refine r_aload_n X dX4_passTick_13 rfl ?_
      refine r_gi0 3 X wfl_X4_28 dX4_passTick_14 (by decide) rfl ?_
      refine r_icmpge 35 X dX4_passTick_17 (by decide) (fun c17 => absurd c17 (by rw [hc]; simp only [i_lt, i_le, i_eq, i_m1, i_0, i_1, i_2, i_3, i_4, i_5, i_6, i_7, i_8, i_9, i_10, i_11, i_12, i_17, i_20, i_24, i_32, i_44, i_48, i_50, i_51, i_52, i_57, i_58, i_100, i_126, i_n (show np a < 2 ^ 31 by omega), i_n (show i < 2 ^ 31 by omega)]; omega)) (fun c17 => ?_)
      show Rn G κ 20 _ _ _ _ _
      refine r_aload_n X dX4_passTick_20 rfl ?_
      refine r_gr0_1 X wfl_X4_18 dX4_passTick_21 ?_
      refine r_iload_n X dX4_passTick_24 rfl ?_
      show Rn G κ 25 _ _ _ _ _
      refine r_aaP _ X rfl (by assumption) dX4_passTick_25 ?_
      refine r_cv0_C X mdX2_growOlder wml_X4_290 dX4_passTick_26 ⟨rfl, rfl, Nat.le_of_ble_eq_true rfl, Nat.le_of_ble_eq_true rfl⟩ (by assumption) rfl rfl (Nat.le_of_ble_eq_true rfl) rfl (zroom Z) (c_growOlder h6) (fun C2 e2 => ?_)
      subst e2
      show Rn G κ 29 _ _ _ _ _
      refine r_iinc_1 (nI (i + 1)) X dX4_passTick_29 (nI_1 i) rfl ?_
      refine r_goto 12 X dX4_passTick_32 (by decide) ?_
      refine ih (i + 1) _ (by omega) (RB_old hP1 (by rw [hnp1]; exact hin) hRk) (fun x hx => ?_)
      split
      · exact hox x hx
      · rw [upC_k _ _ _ _ hx, upC_k _ _ _ _ hx]; exact hox x hx
  refine r_aload_n X dX4_passTick_0 rfl ?_
  refine r_dup X dX4_passTick_1 rfl ?_
  refine r_gi0 7 X wfl_X4_41 dX4_passTick_2 (by decide) rfl ?_
  refine r_iconst (1) X dX4_passTick_5 (by decide) ?_
  refine r_iadd X dX4_passTick_6 ?_
  refine r_pi0 7 X wfl_X4_41 dX4_passTick_7 (by decide) rfl rfl (by decide +kernel) ?_
  rw [show C 0 0 7 = a 26 0 from hR.1.1.2.2.2.2.1]
  refine r_iconst (0) X dX4_passTick_10 (by decide) ?_
  show Rn G κ 11 _ _ _ _ _
  refine r_istore_1 X dX4_passTick_11 rfl ?_
  exact loop1 (np a) 0 _ (by omega) (by rw [oldN_0]; exact hR1.1) (fun _ _ => rfl)
set_option maxRecDepth 100000 in
set_option maxHeartbeats 4000000 in
theorem c_tick_in {G : bpG} {C : bpC} {M : bpM} {hl : Int64} {a : bpM} {k n : Nat} (hR : RA C a 9) (hQ : IQ a) (hF : IF a k) (hP : IP a) (hnp : 0 < np a) (h1 : 1 ≤ n) (h50 : n ≤ 50) : Ct G yX4_tick cX4_tick 4 (some .int) rmX4_tick [.ref (G.1 0 0), .int (nI n)] C M hl (qCi M hl (fun C' r => RA C' (tickN a n).1 9 ∧ r = (tickN a n).2)) := by
  refine ct_of [some (.ref (G.1 0 0)), some (.int (nI n)), none, none] (by decide +kernel) rfl rfl (Nat.le_of_ble_eq_true rfl) ?_
  intro κ X Z
  have hz : ∀ f, f < 12 → a 19 f = 0 ∨ a 19 f = 1 := fun f hf => (hF f hf).1
  have loop : ∀ (m i : Nat) (Ck : bpC), i + m = n → RA Ck (tickN a i).1 9 → Rn G κ 34 [some (.ref (G.1 0 0)), some (.int (nI n)), some (.int (smN (a 23) 12)), some (.int (nI i))] [] Ck M hl := by
    intro m
    induction m with
    | zero =>
      intro i Ck hi hRk
      have hi : i = n := by omega
      subst hi
      obtain ⟨q1, q2, q3, q4⟩ := I_tickN hQ hF hP i
      refine r_iload_n X dX4_tick_34 rfl ?_
      refine r_iload_n X dX4_tick_35 rfl ?_
      refine r_icmpge 49 X dX4_tick_36 (by decide) (fun c36 => ?_) (fun c36 => absurd (Int32.le_refl _) c36)
      show Rn G κ 49 _ _ _ _ _
      refine r_aload_n X dX4_tick_49 rfl ?_
      refine r_iconst (4) X dX4_tick_50 (by decide) ?_
      refine r_cv1_I X mdX4_sumOverFlows wml_X4_216 dX4_tick_51 ⟨rfl, rfl, Nat.le_of_ble_eq_true rfl, Nat.le_of_ble_eq_true rfl⟩ (by decide) rfl rfl (Nat.le_of_ble_eq_true rfl) rfl (zroom Z) (c_sum (w := 4) hRk.2.2.2 (fun f hf => (q2 f hf).1) (by decide)) ?_
      show Rn G κ 54 _ _ _ _ _
      refine r_iload_n X dX4_tick_54 rfl ?_
      show Rn G κ 55 _ _ _ _ _
      refine r_isub X dX4_tick_55 ?_
      refine r_iret X Z dX4_tick_56 ?_
      refine ⟨rfl, rfl, _, rfl, hRk, ?_⟩
      show smN ((tickN a i).1 23) 12 - smN (a 23) 12 = (tickN a i).2
      rw [tickN_del hQ hF hP i, i_comm, Int32.add_sub_cancel]
    | succ m ih =>
      intro i Ck hi hRk
      obtain ⟨q1, q2, q3, q4⟩ := I_tickN hQ hF hP i
      refine r_iload_n X dX4_tick_34 rfl ?_
      refine r_iload_n X dX4_tick_35 rfl ?_
      refine r_icmpge 49 X dX4_tick_36 (by decide) (fun c36 => absurd c36 (by simp only [i_lt, i_le, i_eq, i_m1, i_0, i_1, i_2, i_3, i_4, i_5, i_6, i_7, i_8, i_9, i_10, i_11, i_12, i_17, i_20, i_24, i_32, i_44, i_48, i_50, i_51, i_52, i_57, i_58, i_100, i_126, i_n (show n < 2 ^ 31 by omega), i_n (show i < 2 ^ 31 by omega)]; omega)) (fun c36 => ?_)
      show Rn G κ 39 _ _ _ _ _
      refine r_aload_n X dX4_tick_39 rfl ?_
      refine r_cv0_C X mdX4_passTick wml_X4_219 dX4_tick_40 ⟨rfl, rfl, Nat.le_of_ble_eq_true rfl, Nat.le_of_ble_eq_true rfl⟩ (by decide) rfl rfl (Nat.le_of_ble_eq_true rfl) rfl (zroom Z) (c_passTick hRk q1 q2 q3) (fun C2 q5 => ?_)
      show Rn G κ 43 _ _ _ _ _
      refine r_iinc_3 (nI (i + 1)) X dX4_tick_43 (nI_1 i) rfl ?_
      refine r_goto 34 X dX4_tick_46 (by decide) ?_
      exact ih (i + 1) C2 (by omega) q5
  refine r_iload_n X dX4_tick_0 rfl ?_
  refine r_iconst (1) X dX4_tick_1 (by decide) ?_
  refine r_icmplt 11 X dX4_tick_2 (by decide) (fun c2 => absurd c2 (by simp only [i_lt, i_le, i_eq, i_m1, i_0, i_1, i_2, i_3, i_4, i_5, i_6, i_7, i_8, i_9, i_10, i_11, i_12, i_17, i_20, i_24, i_32, i_44, i_48, i_50, i_51, i_52, i_57, i_58, i_100, i_126, i_n (show n < 2 ^ 31 by omega)]; omega)) (fun c2 => ?_)
  show Rn G κ 5 _ _ _ _ _
  refine r_iload_n X dX4_tick_5 rfl ?_
  refine r_bipush (50) X dX4_tick_6 (by decide) ?_
  refine r_icmple 15 X dX4_tick_8 (by decide) (fun c8 => ?_) (fun c8 => absurd (by simp only [i_lt, i_le, i_eq, i_m1, i_0, i_1, i_2, i_3, i_4, i_5, i_6, i_7, i_8, i_9, i_10, i_11, i_12, i_17, i_20, i_24, i_32, i_44, i_48, i_50, i_51, i_52, i_57, i_58, i_100, i_126, i_n (show n < 2 ^ 31 by omega)]; omega) c8)
  show Rn G κ 15 _ _ _ _ _
  refine r_aload_n X dX4_tick_15 rfl ?_
  show Rn G κ 16 _ _ _ _ _
  refine r_gi0 3 X wfl_X4_28 dX4_tick_16 (by decide) rfl ?_
  refine r_ifne 26 X dX4_tick_19 (by decide) (fun c19 => ?_) (fun c19 => absurd c19 (by rw [hR.1.1.1, hR.1.2.1.1]; exact nI_ne0 hnp (by have := hR.1.2.1.2.1; omega)))
  show Rn G κ 26 _ _ _ _ _
  refine r_aload_n X dX4_tick_26 rfl ?_
  refine r_iconst (4) X dX4_tick_27 (by decide) ?_
  refine r_cv1_I X mdX4_sumOverFlows wml_X4_216 dX4_tick_28 ⟨rfl, rfl, Nat.le_of_ble_eq_true rfl, Nat.le_of_ble_eq_true rfl⟩ (by decide) rfl rfl (Nat.le_of_ble_eq_true rfl) rfl (zroom Z) (c_sum (w := 4) hR.2.2.2 hz (by decide)) ?_
  show Rn G κ 31 _ _ _ _ _
  refine r_istore_2 X dX4_tick_31 rfl ?_
  refine r_iconst (0) X dX4_tick_32 (by decide) ?_
  refine r_istore_3 X dX4_tick_33 rfl ?_
  exact loop n 0 C (by omega) hR
