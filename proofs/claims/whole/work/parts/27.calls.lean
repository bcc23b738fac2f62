set_option maxRecDepth 100000 in
set_option maxHeartbeats 4000000 in
theorem c_letter {G : bpG} {C : bpC} {M : bpM} {hl : Int64} {a : bpM} {k : Nat} {x : Int32} (hR : RA C a 9) (hI : Inv a k) : Ct G yX4_letter cX4_letter 2 (some .int) rmX4_letter [.ref (G.1 0 0), .int x] C M hl (qCi M hl (fun C' r => RA C' (letterS a x).1 9 ∧ r = (letterS a x).2)) := by
  refine ct_of [some (.ref (G.1 0 0)), some (.int x)] (by decide +kernel) rfl rfl (Nat.le_of_ble_eq_true rfl) ?_
  intro κ X Z
  refine r_iload_n X dX4_letter_0 rfl ?_
  refine r_bipush (32) X dX4_letter_1 (by decide) ?_
  refine r_icmplt 12 X dX4_letter_3 (by decide) (fun c3 => ?_) (fun c3 => ?_)
  · show Rn G κ 12 _ _ _ _ _
    refine r_sipush (-1002) X dX4_letter_12 (by decide) ?_
    refine r_iret X Z dX4_letter_15 ?_
    have e : letterS a x = (a, -1002) := by
      unfold letterS
      rw [if_neg]
      rintro ⟨z1, z2⟩
      rw [i_le] at z1 z2
      simp only [i_lt, i_le] at c3
      omega
    rw [e]
    exact ⟨rfl, rfl, _, rfl, hR, rfl⟩
  · show Rn G κ 6 _ _ _ _ _
    refine r_iload_n X dX4_letter_6 rfl ?_
    refine r_bipush (126) X dX4_letter_7 (by decide) ?_
    refine r_icmple 16 X dX4_letter_9 (by decide) (fun c9 => ?_) (fun c9 => ?_)
    · show Rn G κ 16 _ _ _ _ _
      have hx : 32 ≤ x ∧ x ≤ 126 := ⟨by simp only [i_lt, i_le] at c3 ⊢; omega, c9⟩
      rcases Nat.lt_or_ge (pl a) 17 with hlt | hge
      · have n17 : ¬ a 0 0 = 17 := by rw [hI.2.2.2.2.1, i_eq, i_17, i_n (by omega)]; omega
        have hsz : C 1 0 1 = nI (pl a) := hR.1.1.2.2.2.2.2.2.2.1.trans hI.2.2.2.2.1
        refine r_aload_n X dX4_letter_16 rfl ?_
        refine r_gr0_0 X wfl_X4_10 dX4_letter_17 ?_
        refine r_iload_n X dX4_letter_20 rfl ?_
        refine r_cv1_Ci X mdX1_append wml_X4_52 dX4_letter_21 ⟨rfl, rfl, Nat.le_of_ble_eq_true rfl, Nat.le_of_ble_eq_true rfl⟩ (by decide) rfl rfl (Nat.le_of_ble_eq_true rfl) rfl (zroom Z) (c_pappend hlt hsz) (fun C2 r2 q2 => ?_)
        obtain ⟨rfl, rfl⟩ := q2
        show Rn G κ 24 _ _ _ _ _
        refine r_ifeq 37 X dX4_letter_24 (by decide) (fun c24 => absurd c24 (by decide)) (fun c24 => ?_)
        show Rn G κ 27 _ _ _ _ _
        refine r_aload_n X dX4_letter_27 rfl ?_
        refine r_gr0_0 X wfl_X4_10 dX4_letter_28 ?_
        show Rn G κ 31 _ _ _ _ _
        refine r_gi1 1 X wfl_X4_56 dX4_letter_31 (by decide) rfl ?_
        refine r_goto 40 X dX4_letter_34 (by decide) ?_
        refine r_iret X Z dX4_letter_40 ?_
        have e : letterS a x = (upM (upM a 1 (pl a) x) 0 0 (a 0 0 + 1), a 0 0 + 1) := by unfold letterS; rw [if_pos hx, if_neg n17]
        rw [e, show a 0 0 + 1 = nI (pl a + 1) by rw [hI.2.2.2.2.1]; exact nI_1 _]
        exact ⟨rfl, rfl, _, rfl, RA_page hR hlt hI.2.2.2.2.1, upC_at _ _ _ _ _⟩
      · have e17 : a 0 0 = 17 := by rw [hI.2.2.2.2.1, show pl a = 17 by have := hI.2.2.2.2.2; omega]; rfl
        have hsz : C 1 0 1 = 17 := hR.1.1.2.2.2.2.2.2.2.1.trans e17
        refine r_aload_n X dX4_letter_16 rfl ?_
        refine r_gr0_0 X wfl_X4_10 dX4_letter_17 ?_
        refine r_iload_n X dX4_letter_20 rfl ?_
        refine r_cv1_I X mdX1_append wml_X4_52 dX4_letter_21 ⟨rfl, rfl, Nat.le_of_ble_eq_true rfl, Nat.le_of_ble_eq_true rfl⟩ (by decide) rfl rfl (Nat.le_of_ble_eq_true rfl) rfl (zroom Z) (c_pappend_full hsz) ?_
        show Rn G κ 24 _ _ _ _ _
        refine r_ifeq 37 X dX4_letter_24 (by decide) (fun c24 => ?_) (fun c24 => absurd rfl c24)
        show Rn G κ 37 _ _ _ _ _
        refine r_sipush (-1004) X dX4_letter_37 (by decide) ?_
        refine r_iret X Z dX4_letter_40 ?_
        have e : letterS a x = (a, -1004) := by unfold letterS; rw [if_pos hx, if_pos e17]
        rw [e]
        exact ⟨rfl, rfl, _, rfl, hR, rfl⟩
    · show Rn G κ 12 _ _ _ _ _
      refine r_sipush (-1002) X dX4_letter_12 (by decide) ?_
      refine r_iret X Z dX4_letter_15 ?_
      have e : letterS a x = (a, -1002) := by
        unfold letterS
        rw [if_neg]
        rintro ⟨z1, z2⟩
        rw [i_le] at z1 z2
        simp only [i_lt, i_le] at c3 c9
        omega
      rw [e]
      exact ⟨rfl, rfl, _, rfl, hR, rfl⟩
set_option maxRecDepth 100000 in
set_option maxHeartbeats 4000000 in
theorem c_blank {G : bpG} {C : bpC} {M : bpM} {hl : Int64} {a : bpM} (hR : RA C a 9) : Ct G yX4_blank cX4_blank 2 (some .int) rmX4_blank [.ref (G.1 0 0)] C M hl (qCi M hl (fun C' r => RA C' (blankS a).1 9 ∧ r = (blankS a).2)) := by
  refine ct_of [some (.ref (G.1 0 0)), none] (by decide +kernel) rfl rfl (Nat.le_of_ble_eq_true rfl) ?_
  intro κ X Z
  refine r_aload_n X dX4_blank_0 rfl ?_
  refine r_gr0_0 X wfl_X4_10 dX4_blank_1 ?_
  refine r_gi1 1 X wfl_X4_56 dX4_blank_4 (by decide) rfl ?_
  refine r_istore_1 X dX4_blank_7 rfl ?_
  refine r_aload_n X dX4_blank_8 rfl ?_
  refine r_gr0_0 X wfl_X4_10 dX4_blank_9 ?_
  refine r_iconst (0) X dX4_blank_12 (by decide) ?_
  show Rn G κ 13 _ _ _ _ _
  refine r_pi1 1 X wfl_X4_56 dX4_blank_13 (by decide) rfl rfl (by decide +kernel) ?_
  refine r_iload_n X dX4_blank_16 rfl ?_
  refine r_iret X Z dX4_blank_17 ?_
  exact ⟨rfl, rfl, _, rfl, RA_blank hR, hR.1.1.2.2.2.2.2.2.2.1⟩
set_option maxRecDepth 100000 in
set_option maxHeartbeats 4000000 in
theorem c_fault {G : bpG} {C : bpC} {M : bpM} {hl : Int64} {a : bpM} {k : Nat} (hR : RA C a 9) (hI : Inv a k) : Ct G yX4_fault cX4_fault 1 (some .int) rmX4_fault [.ref (G.1 0 0)] C M hl (qI C M hl (nI (rlN a))) := by
  have hsz : C 1 0 1 = nI (pl a) := hR.1.1.2.2.2.2.2.2.2.1.trans hI.2.2.2.2.1
  have h17 := hI.2.2.2.2.2
  have hfw : fsN (fun j => fitB (C 2 0 j) j) 0 (pl a) = rlN a := fsN_cong _ _ (fun j _ hj => by
    have := hR.1.1.2.2.2.2.2.2.2.2 j (by omega)
    show fitB (C 2 0 j) j = fitB (a 1 j) j
    rw [this])
  refine ct_of [some (.ref (G.1 0 0))] (by decide +kernel) rfl rfl (Nat.le_of_ble_eq_true rfl) ?_
  intro κ X Z
  refine r_aload_n X dX4_fault_0 rfl ?_
  refine r_gr0_0 X wfl_X4_10 dX4_fault_1 ?_
  refine r_cv0_I X mdX1_firstWrong wml_X4_59 dX4_fault_4 ⟨rfl, rfl, Nat.le_of_ble_eq_true rfl, Nat.le_of_ble_eq_true rfl⟩ (by decide) rfl rfl (Nat.le_of_ble_eq_true rfl) rfl (zroom Z) (c_firstWrong h17 hsz) ?_
  show Rn G κ 7 _ _ _ _ _
  refine r_iret X Z dX4_fault_7 ?_
  refine ⟨rfl, rfl, rfl, ret_i ?_⟩
  rw [hfw]
set_option maxRecDepth 100000 in
set_option maxHeartbeats 4000000 in
theorem c_board {G : bpG} {C : bpC} {M : bpM} {hl : Int64} {a : bpM} {k : Nat} (hR : RA C a 9) (hI : Inv a k) : Ct G yX4_board cX4_board 2 (some .int) rmX4_board [.ref (G.1 0 0)] C M hl (qCi M hl (fun C' r => RA C' (boardS a).1 9 ∧ r = (boardS a).2)) := by
  have hsz : C 1 0 1 = nI (pl a) := hR.1.1.2.2.2.2.2.2.2.1.trans hI.2.2.2.2.1
  have h17 := hI.2.2.2.2.2
  have hfw : fsN (fun j => fitB (C 2 0 j) j) 0 (pl a) = rlN a := fsN_cong _ _ (fun j _ hj => by
    have := hR.1.1.2.2.2.2.2.2.2.2 j (by omega)
    show fitB (C 2 0 j) j = fitB (a 1 j) j
    rw [this])
  refine ct_of [some (.ref (G.1 0 0)), none] (by decide +kernel) rfl rfl (Nat.le_of_ble_eq_true rfl) ?_
  intro κ X Z
  have hbd := isBd_key (a := a)
  obtain ⟨n, hn⟩ : ∃ n, n = (pl a + 1) / 3 := ⟨_, rfl⟩
  have hn6 : n ≤ 6 := by omega
  have loop2 : ∀ (C2 : bpC), isBd a = true → ((∀ q, q < n → C2 5 q 1 = C 2 0 (3 * q) - 48 ∧ C2 5 q 2 = C 2 0 (3 * q + 1) - 48 ∧ C2 5 q 3 = 0 ∧ C2 5 q 4 = 0 ∧ C2 5 q 9 = 0 ∧ C2 5 q 10 = 0 ∧ C2 6 q 2 = 0) ∧ (∀ x, x ≠ 5 → x ≠ 6 → C2 x = upC C 0 0 3 (nI n) x)) → ∀ (m i : Nat) (Ck : bpC), i + m = 12 → ((∀ g, g < i → Ck 9 g 1 = 0 ∧ Ck 9 g 2 = -1 ∧ Ck 9 g 3 = 0 ∧ Ck 9 g 4 = 0 ∧ Ck 9 g 5 = 0 ∧ Ck 9 g 6 = 0 ∧ Ck 9 g 7 = 0) ∧ (∀ x, x ≠ 9 → Ck x = C2 x)) → Rn G κ 68 [some (.ref (G.1 0 0)), some (.int (nI i))] [] Ck M hl := by
    intro C2 hbt h1 m
    induction m with
    | zero =>
      intro i Ck hi hk
      have hi : i = 12 := by omega
      subst hi
      refine r_iload_n X dX4_board_68 rfl ?_
      refine r_bipush (12) X dX4_board_69 (by decide) ?_
      refine r_icmpge 89 X dX4_board_71 (by decide) (fun c71 => ?_) (fun c71 => absurd (by decide) c71)
      show Rn G κ 89 _ _ _ _ _
      refine r_aload_n X dX4_board_89 rfl ?_
      refine r_gr0_0 X wfl_X4_10 dX4_board_90 ?_
      refine r_iconst (0) X dX4_board_93 (by decide) ?_
      refine r_pi1 1 X wfl_X4_56 dX4_board_94 (by decide) rfl rfl (by decide +kernel) ?_
      show Rn G κ 97 _ _ _ _ _
      refine r_aload_n X dX4_board_97 rfl ?_
      refine r_iconst (0) X dX4_board_98 (by decide) ?_
      refine r_pi0 7 X wfl_X4_41 dX4_board_99 (by decide) rfl rfl (by decide +kernel) ?_
      refine r_aload_n X dX4_board_102 rfl ?_
      refine r_iconst (0) X dX4_board_103 (by decide) ?_
      refine r_pi0 8 X wfl_X4_44 dX4_board_104 (by decide) rfl rfl (by decide +kernel) ?_
      refine r_aload_n X dX4_board_107 rfl ?_
      refine r_dup X dX4_board_108 rfl ?_
      show Rn G κ 109 _ _ _ _ _
      refine r_gi0 9 X wfl_X4_47 dX4_board_109 (by decide) rfl ?_
      refine r_iconst (1) X dX4_board_112 (by decide) ?_
      refine r_iadd X dX4_board_113 ?_
      refine r_pi0 9 X wfl_X4_47 dX4_board_114 (by decide) rfl rfl (by decide +kernel) ?_
      refine r_aload_n X dX4_board_117 rfl ?_
      refine r_gi0 3 X wfl_X4_28 dX4_board_118 (by decide) rfl ?_
      refine r_iret X Z dX4_board_121 ?_
      have e : boardS a = (boardF a n, nI n) := by unfold boardS; rw [if_pos hbt, hn]
      rw [e]
      show qCi M hl (fun C' r => RA C' (boardF a n) 9 ∧ r = nI n) _ _ _ _
      obtain ⟨k1, k2⟩ := hk
      obtain ⟨l1, l2⟩ := h1
      have c0 : ∀ j, Ck 0 0 j = upC C 0 0 3 (nI n) 0 0 j := fun j => by rw [k2 0 (by decide), l2 0 (by decide) (by decide)]
      obtain ⟨s1, s2, s3, s4, s5, s6, s7, s8, s9⟩ := hR.1.1
      refine ⟨rfl, rfl, _, rfl, ⟨⟨?_, ?_, ?_⟩, ?_, ?_, ?_⟩, ?_⟩
      · have epl : pl (boardF a n) = 0 := by unfold pl; rw [bd_0]; rfl
        unfold RSc
        rw [epl, bd_2, bd_0, bd_14, bd_26 a n (s := 26) (by omega), bd_26 a n (s := 27) (by omega), bd_s a n (s := 11) (by omega), bd_s a n (s := 12) (by omega), bd_s a n (s := 13) (by omega)]
        refine ⟨?_, ?_, ?_, ?_, ?_, ?_, ?_, ?_, fun j hj => absurd hj (Nat.not_lt_zero _)⟩ <;> simp [upC, c0, s2, s3, s4, s7]
      · have hB := hR.1.2.1
        unfold Bas sh at hB ⊢
        rw [bd_np a hn6, bd_2, bd_s a _ (s := 13) (by omega)]
        exact ⟨rfl, hn6, hB.2.2⟩
      · rw [bd_np a hn6]
        intro q hq
        obtain ⟨g1, g2, g3, g4, g5, g6, g7⟩ := l1 q hq
        have c5 : ∀ j, Ck 5 q j = C2 5 q j := fun j => by rw [k2 5 (by decide)]
        unfold RPt
        rw [bd_3 a hq hn6, bd_4 a hq hn6, bd_p a n (s := 5) (by omega) (by omega), bd_p a n (s := 6) (by omega) (by omega), bd_p a n (s := 10) (by omega) (by omega), ← s9 (3 * q) (by omega), ← s9 (3 * q + 1) (by omega)]
        refine ⟨?_, ?_, ?_, ?_, ?_, fun z => absurd z (by decide)⟩ <;> simp [upC, c5, g1, g2, g3, g4, g6]
        decide
      · rw [bd_np a hn6]
        intro q hq
        unfold RCh
        rw [bd_choi a hn6]
        simp [upC, k2 5 (by decide), (l1 q hq).2.2.2.2.1]
      · rw [bd_np a hn6]
        intro q hq _
        unfold RQu qm
        rw [bd_p a n (s := 17) (by omega) (by omega)]
        refine ⟨?_, fun j hj => absurd hj (Nat.not_lt_zero _)⟩
        simp [upC, k2 6 (by decide), (l1 q hq).2.2.2.2.2.2]
      · intro f hf
        obtain ⟨g1, g2, g3, g4, g5, g6, g7⟩ := k1 f hf
        unfold RFl hm
        rw [bd_f a n (s := 20) (by omega) hf, bd_f a n (s := 19) (by omega) hf, bd_f a n (s := 22) (by omega) hf, bd_f a n (s := 23) (by omega) hf, bd_f a n (s := 24) (by omega) hf, bd_f a n (s := 25) (by omega) hf, bd_18 a n hf]
        refine ⟨?_, ?_, ?_, ?_, ?_, ?_, ?_, fun j hj => absurd hj (Nat.not_lt_zero _)⟩ <;> simp [upC, g1, g2, g3, g4, g5, g6, g7]
      · simp [upC, c0]
    | succ m ih =>
      intro i Ck hi hk
      have h12 : i < 12 := by omega
      refine r_iload_n X dX4_board_68 rfl ?_
      refine r_bipush (12) X dX4_board_69 (by decide) ?_
      refine r_icmpge 89 X dX4_board_71 (by decide) (fun c71 => absurd c71 (by simp only [i_lt, i_le, i_eq, i_m1, i_0, i_1, i_2, i_3, i_4, i_5, i_6, i_7, i_8, i_9, i_10, i_11, i_12, i_17, i_20, i_24, i_32, i_44, i_48, i_50, i_51, i_52, i_57, i_58, i_100, i_126, i_n (show i < 2 ^ 31 by omega)]; omega)) (fun c71 => ?_)
      show Rn G κ 74 _ _ _ _ _
      refine r_aload_n X dX4_board_74 rfl ?_
      refine r_gr0_2 X wfl_X4_24 dX4_board_75 ?_
      refine r_iload_n X dX4_board_78 rfl ?_
      refine r_aaF _ X rfl (by assumption) dX4_board_79 ?_
      show Rn G κ 80 _ _ _ _ _
      refine r_cv0_C X mdX0_restart wml_X4_81 dX4_board_80 ⟨rfl, rfl, Nat.le_of_ble_eq_true rfl, Nat.le_of_ble_eq_true rfl⟩ (by assumption) rfl rfl (Nat.le_of_ble_eq_true rfl) rfl (zroom Z) (c_frestart h12) (fun C3 e3 => ?_)
      subst e3
      show Rn G κ 83 _ _ _ _ _
      refine r_iinc_1 (nI (i + 1)) X dX4_board_83 (nI_1 i) rfl ?_
      refine r_goto 68 X dX4_board_86 (by decide) ?_
      refine ih (i + 1) _ (by omega) ⟨fun g hg => ?_, fun x hx => ?_⟩
      · by_cases e : g = i
        · subst e; simp [upC]
        · have := hk.1 g (by omega)
          simp only [upC]
          simpa [e] using this
      · rw [upC_k _ _ _ _ hx, upC_k _ _ _ _ hx, upC_k _ _ _ _ hx, upC_k _ _ _ _ hx, upC_k _ _ _ _ hx, upC_k _ _ _ _ hx, upC_k _ _ _ _ hx]
        exact hk.2 x hx
  have loop1 : isBd a = true → ∀ (m i : Nat) (Ck : bpC), i + m = n → ((∀ q, q < i → Ck 5 q 1 = C 2 0 (3 * q) - 48 ∧ Ck 5 q 2 = C 2 0 (3 * q + 1) - 48 ∧ Ck 5 q 3 = 0 ∧ Ck 5 q 4 = 0 ∧ Ck 5 q 9 = 0 ∧ Ck 5 q 10 = 0 ∧ Ck 6 q 2 = 0) ∧ (∀ x, x ≠ 5 → x ≠ 6 → Ck x = upC C 0 0 3 (nI n) x)) → Rn G κ 27 [some (.ref (G.1 0 0)), some (.int (nI i))] [] Ck M hl := by
    intro hbt m
    induction m with
    | zero =>
      intro i Ck hi hk
      have hi : i = n := by omega
      subst hi
      have hc : Ck 0 0 3 = nI i := by rw [hk.2 0 (by decide) (by decide)]; exact upC_at _ _ _ _ _
      refine r_iload_n X dX4_board_27 rfl ?_
      refine r_aload_n X dX4_board_28 rfl ?_
      refine r_gi0 3 X wfl_X4_28 dX4_board_29 (by decide) rfl ?_
      refine r_icmpge 66 X dX4_board_32 (by decide) (fun c32 => ?_) (fun c32 => absurd (by rw [hc]; exact Int32.le_refl _) c32)
      show Rn G κ 66 _ _ _ _ _
      refine r_iconst (0) X dX4_board_66 (by decide) ?_
      refine r_istore_1 X dX4_board_67 rfl ?_
      exact loop2 Ck hbt hk 12 0 Ck (by omega) ⟨fun g hg => absurd hg (Nat.not_lt_zero _), fun _ _ => rfl⟩
    | succ m ih =>
      intro i Ck hi hk
      have hin : i < n := by omega
      have h6 : i < 6 := by omega
      have hc : Ck 0 0 3 = nI n := by rw [hk.2 0 (by decide) (by decide)]; exact upC_at _ _ _ _ _
      have hszk : Ck 1 0 1 = nI (pl a) := by rw [hk.2 1 (by decide) (by decide), upC_k _ _ _ _ (by decide)]; exact hsz
      have hck : ∀ j, Ck 2 0 j = C 2 0 j := fun j => by rw [hk.2 2 (by decide) (by decide), upC_k _ _ _ _ (by decide)]
      refine r_iload_n X dX4_board_27 rfl ?_
      refine r_aload_n X dX4_board_28 rfl ?_
      refine r_gi0 3 X wfl_X4_28 dX4_board_29 (by decide) rfl ?_
      refine r_icmpge 66 X dX4_board_32 (by decide) (fun c32 => absurd c32 (by rw [hc]; simp only [i_lt, i_le, i_eq, i_m1, i_0, i_1, i_2, i_3, i_4, i_5, i_6, i_7, i_8, i_9, i_10, i_11, i_12, i_17, i_20, i_24, i_32, i_44, i_48, i_50, i_51, i_52, i_57, i_58, i_100, i_126, i_n (show n < 2 ^ 31 by omega), i_n (show i < 2 ^ 31 by omega)]; omega)) (fun c32 => ?_)
      show Rn G κ 35 _ _ _ _ _
      refine r_aload_n X dX4_board_35 rfl ?_
      refine r_gr0_1 X wfl_X4_18 dX4_board_36 ?_
      refine r_iload_n X dX4_board_39 rfl ?_
      show Rn G κ 40 _ _ _ _ _
      refine r_aaP _ X rfl (by assumption) dX4_board_40 ?_
      refine r_aload_n X dX4_board_41 rfl ?_
      refine r_gr0_0 X wfl_X4_10 dX4_board_42 ?_
      refine r_iload_n X dX4_board_45 rfl ?_
      refine r_cv1_I X mdX1_keyOfPort wml_X4_70 dX4_board_46 ⟨rfl, rfl, Nat.le_of_ble_eq_true rfl, Nat.le_of_ble_eq_true rfl⟩ (by decide) rfl rfl (Nat.le_of_ble_eq_true rfl) rfl (zroom Z) (c_keyOfPort (m := pl a) h17 (by omega) hszk) ?_
      show Rn G κ 49 _ _ _ _ _
      refine r_aload_n X dX4_board_49 rfl ?_
      refine r_gr0_0 X wfl_X4_10 dX4_board_50 ?_
      refine r_iload_n X dX4_board_53 rfl ?_
      show Rn G κ 54 _ _ _ _ _
      refine r_cv1_I X mdX1_rankOfPort wml_X4_74 dX4_board_54 ⟨rfl, rfl, Nat.le_of_ble_eq_true rfl, Nat.le_of_ble_eq_true rfl⟩ (by decide) rfl rfl (Nat.le_of_ble_eq_true rfl) rfl (zroom Z) (c_rankOfPort (m := pl a) h17 (by omega) hszk) ?_
      show Rn G κ 57 _ _ _ _ _
      refine r_cv2_C X mdX2_restart wml_X4_77 dX4_board_57 ⟨rfl, rfl, Nat.le_of_ble_eq_true rfl, Nat.le_of_ble_eq_true rfl⟩ (by assumption) rfl rfl (Nat.le_of_ble_eq_true rfl) rfl (zroom Z) (c_prestart h6) (fun C3 e3 => ?_)
      subst e3
      show Rn G κ 60 _ _ _ _ _
      refine r_iinc_1 (nI (i + 1)) X dX4_board_60 (nI_1 i) rfl ?_
      refine r_goto 27 X dX4_board_63 (by decide) ?_
      refine ih (i + 1) _ (by omega) ⟨fun q hq => ?_, fun x hx hx6 => ?_⟩
      · by_cases e : q = i
        · subst e; simp [upC, hck]
        · have := hk.1 q (by omega)
          simp only [upC]
          simpa [e] using this
      · rw [upC_k _ _ _ _ hx6, upC_k _ _ _ _ hx, upC_k _ _ _ _ hx, upC_k _ _ _ _ hx, upC_k _ _ _ _ hx, upC_k _ _ _ _ hx, upC_k _ _ _ _ hx]
        exact hk.2 x hx hx6
  refine r_aload_n X dX4_board_0 rfl ?_
  refine r_gr0_0 X wfl_X4_10 dX4_board_1 ?_
  refine r_cv0_I X mdX1_isBoard wml_X4_63 dX4_board_4 ⟨rfl, rfl, Nat.le_of_ble_eq_true rfl, Nat.le_of_ble_eq_true rfl⟩ (by decide) rfl rfl (Nat.le_of_ble_eq_true rfl) rfl (zroom Z) (c_isBoard h17 hsz) ?_
  show Rn G κ 7 _ _ _ _ _
  rw [hfw]
  have ebd : (decide (pl a % 3 = 2) && decide (rlN a = pl a)) = isBd a := rfl
  rw [ebd]
  refine r_ifne 14 X dX4_board_7 (by decide) (fun c7 => ?_) (fun c7 => ?_)
  · show Rn G κ 14 _ _ _ _ _
    refine r_aload_n X dX4_board_14 rfl ?_
    refine r_aload_n X dX4_board_15 rfl ?_
    refine r_gr0_0 X wfl_X4_10 dX4_board_16 ?_
    refine r_cv0_I X mdX1_portsWritten wml_X4_67 dX4_board_19 ⟨rfl, rfl, Nat.le_of_ble_eq_true rfl, Nat.le_of_ble_eq_true rfl⟩ (by decide) rfl rfl (Nat.le_of_ble_eq_true rfl) rfl (zroom Z) (c_portsWritten h17 hsz) ?_
    show Rn G κ 22 _ _ _ _ _
    rw [← hn]
    refine r_pi0 3 X wfl_X4_28 dX4_board_22 (by decide) rfl rfl (by decide +kernel) ?_
    refine r_iconst (0) X dX4_board_25 (by decide) ?_
    refine r_istore_1 X dX4_board_26 rfl ?_
    exact loop1 (bI_1 c7) n 0 _ (by omega) ⟨fun q hq => absurd hq (Nat.not_lt_zero _), fun _ _ _ => rfl⟩
  · show Rn G κ 10 _ _ _ _ _
    refine r_sipush (-1003) X dX4_board_10 (by decide) ?_
    refine r_iret X Z dX4_board_13 ?_
    have e : boardS a = (a, -1003) := by unfold boardS; rw [if_neg (by rw [bI_0 c7]; decide)]
    rw [e]
    exact ⟨rfl, rfl, _, rfl, hR, rfl⟩
