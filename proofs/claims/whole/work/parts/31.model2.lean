theorem upM_id {a : bpM} {k j : Nat} {v : Int32} (h : a k j = v) : upM a k j v = a := by
  funext x y
  simp only [upM]
  by_cases e : x = k ∧ y = j
  · rw [if_pos e, e.1, e.2, h]
  · rw [if_neg e]
theorem upM_up (a : bpM) (k j : Nat) (v w : Int32) : upM (upM a k j v) k j w = upM a k j w := by
  funext x y
  simp only [upM]
  by_cases e : x = k ∧ y = j
  · rw [if_pos e, if_pos e]
  · rw [if_neg e, if_neg e, if_neg e]
def stN (a : bpM) (i : Nat) : bpM := fun k j => if k = 10 ∧ j < i ∧ choi a j ≠ 2 then 0 else a k j
theorem stN_0 (a : bpM) : stN a 0 = a := by
  funext k j
  simp only [stN]
  rw [if_neg (by omega)]
theorem stN_s (a : bpM) (i : Nat) {s : Nat} (hs : s ≠ 10) : stN a i s = a s := by
  funext j
  simp only [stN]
  rw [if_neg (fun q => hs q.1)]
theorem stN_np (a : bpM) (i : Nat) : np (stN a i) = np a := by unfold np; rw [stN_s a i (by decide)]
theorem stN_choi (a : bpM) (i p : Nat) : choi (stN a i) p = choi a p :=
  choi_cg (stN_np a i) (stN_s a i (by decide)) (stN_s a i (by decide)) (stN_s a i (by decide)) (stN_s a i (by decide)) (by rw [stN_s a i (by decide)]) p
theorem stN_step (a : bpM) (i : Nat) : stN a (i + 1) = upM (stN a i) 10 i (if choi a i ≠ 2 then 0 else a 10 i) := by
  funext k j
  simp only [stN, upM]
  by_cases e : k = 10 ∧ j = i
  · obtain ⟨rfl, rfl⟩ := e
    rw [if_pos (show (10 : Nat) = 10 ∧ j = j from ⟨rfl, rfl⟩)]
    by_cases hc : choi a j ≠ 2
    · rw [if_pos (show (10 : Nat) = 10 ∧ j < j + 1 ∧ choi a j ≠ 2 from ⟨rfl, by omega, hc⟩), if_pos hc]
    · rw [if_neg (show ¬ ((10 : Nat) = 10 ∧ j < j + 1 ∧ choi a j ≠ 2) from fun q => hc q.2.2), if_neg hc]
  · rw [if_neg e]
    by_cases e2 : k = 10 ∧ j < i ∧ choi a j ≠ 2
    · rw [if_pos e2, if_pos ⟨e2.1, by omega, e2.2.2⟩]
    · rw [if_neg e2, if_neg]
      rintro ⟨q1, q2, q3⟩
      exact e2 ⟨q1, by omega, q3⟩
theorem stN_10 (a : bpM) (i : Nat) : stN a i 10 i = a 10 i := by
  simp only [stN]
  rw [if_neg (by omega)]
theorem stat_2 {a : bpM} {p : Nat} : stat a p < 2 ↔ choi a p ≠ 2 := by
  unfold stat
  by_cases h : choi a p = 2
  · rw [if_pos h]
    constructor
    · intro z
      exfalso
      revert z
      split
      · decide
      · split <;> decide
    · intro z; exact absurd h z
  · rw [if_neg h]
    rcases choi_012 a p with e | e | e
    · rw [e]; decide
    · rw [e]; decide
    · exact absurd e h
set_option maxRecDepth 100000 in
set_option maxHeartbeats 4000000 in
theorem m_wayOf {G : bpG} {C : bpC} {M : bpM} {hl : Int64} {f : Nat} (hB : Bas M) (hf : f < 12) : Ct G yX5_wayOf cX5_wayOf 6 (some .int) rmX5_wayOf [.ref (G.1 11 0), .int (nI f)] C M hl (qI C M hl (oI (way M f))) := by
  refine ct_of [some (.ref (G.1 11 0)), some (.int (nI f)), none, none, none, none] (by decide +kernel) rfl rfl (Nat.le_of_ble_eq_true rfl) ?_
  intro κ X Z
  have hn := hB.2.1
  have hsh := hB.2.2.2
  have hbits : bits M (nI (f % 4)) 4 4 = (bitP (car M (nI (f % 4))) (np M)) := bitN_P M _ (np M)
  have hb6 := bitP_lt (car M (nI (f % 4))) (np M)
  have hb7 : 2 ^ (np M) ≤ 2 ^ 6 := Nat.pow_le_pow_right (by decide) hn
  have hct := ctN_le (car M (nI (f % 4))) (np M)
  have loop2 : ∀ (t p0 n i : Nat), t < 6 → p0 < np M → (car M (nI (f % 4))) p0 = true → ctN (car M (nI (f % 4))) p0 = t → (∀ i, i < p0 → ¬ ((car M (nI (f % 4))) i = true ∧ ctN (car M (nI (f % 4))) i = t)) → oI (way M f) = nI p0 → i + n = p0 → ctN (car M (nI (f % 4))) i ≤ t → Rn G κ 58 [some (.ref (G.1 11 0)), some (.int (nI f)), some (.int (nI (bitP (car M (nI (f % 4))) (np M)))), some (.int (nI (ctN (car M (nI (f % 4))) (np M)))), some (.int (nI (t - ctN (car M (nI (f % 4))) i))), some (.int (nI i))] [] C M hl := by
    intro t p0 n
    induction n with
    | zero =>
      intro i ht hp0 hP hc hno hw hi hle
      have hi : i = p0 := by omega
      subst hi
      have h6 : i < 6 := by omega
      have hbit : (nI (bitP (car M (nI (f % 4))) (np M)) >>> (nI i &&& 31)) &&& (1 : Int32) = 1 := by rw [shr_bit i h6 _ (by omega), bitP_test, hP]; simp [hp0, bI]
      refine r_iload_n X dX5_wayOf_58 rfl ?_
      refine r_iload X dX5_wayOf_59 rfl ?_
      refine r_ishr X dX5_wayOf_61 ?_
      refine r_iconst (1) X dX5_wayOf_62 (by decide) ?_
      refine r_iand X dX5_wayOf_63 ?_
      refine r_top hbit ?_
      refine r_ifeq 72 X dX5_wayOf_64 (by decide) (fun c64 => absurd c64 (by decide)) (fun c64 => ?_)
      show Rn G κ 67 _ _ _ _ _
      refine r_iload X dX5_wayOf_67 rfl ?_
      show Rn G κ 69 _ _ _ _ _
      refine r_ifle 89 X dX5_wayOf_69 (by decide) (fun c69 => ?_) (fun c69 => absurd (by rw [hc, Nat.sub_self]; decide) c69)
      show Rn G κ 89 _ _ _ _ _
      refine r_iload X dX5_wayOf_89 rfl ?_
      refine r_iret X Z dX5_wayOf_91 ?_
      refine ⟨rfl, rfl, rfl, ret_i ?_⟩
      exact hw.symm
    | succ n ih =>
      intro i ht hp0 hP hc hno hw hi hle
      have h6 : i < 6 := by omega
      have hin : i < np M := by omega
      have hbit : (nI (bitP (car M (nI (f % 4))) (np M)) >>> (nI i &&& 31)) &&& (1 : Int32) = bI ((car M (nI (f % 4))) i) := by rw [shr_bit i h6 _ (by omega), bitP_test]; simp [hin]
      cases hPi : (car M (nI (f % 4))) i with
      | false =>
        rw [hPi] at hbit
        refine r_iload_n X dX5_wayOf_58 rfl ?_
        refine r_iload X dX5_wayOf_59 rfl ?_
        refine r_ishr X dX5_wayOf_61 ?_
        refine r_iconst (1) X dX5_wayOf_62 (by decide) ?_
        refine r_iand X dX5_wayOf_63 ?_
        refine r_top hbit ?_
        refine r_ifeq 72 X dX5_wayOf_64 (by decide) (fun c64 => ?_) (fun c64 => absurd rfl c64)
        show Rn G κ 72 _ _ _ _ _
        refine r_iload X dX5_wayOf_72 rfl ?_
        show Rn G κ 74 _ _ _ _ _
        refine r_iload_n X dX5_wayOf_74 rfl ?_
        refine r_iload X dX5_wayOf_75 rfl ?_
        refine r_ishr X dX5_wayOf_77 ?_
        refine r_iconst (1) X dX5_wayOf_78 (by decide) ?_
        refine r_iand X dX5_wayOf_79 ?_
        rw [hbit]
        refine r_isub X dX5_wayOf_80 ?_
        refine r_istore_4 X dX5_wayOf_81 rfl ?_
        refine r_iinc_5 (nI (i + 1)) X dX5_wayOf_83 (nI_1 i) rfl ?_
        show Rn G κ 86 _ _ _ _ _
        refine r_goto 58 X dX5_wayOf_86 (by decide) ?_
        have := ih (i + 1) ht hp0 hP hc hno hw (by omega) (by rw [ctN_f hPi]; exact hle)
        rw [ctN_f hPi] at this
        rw [show nI (t - ctN (car M (nI (f % 4))) i) - bI false = nI (t - ctN (car M (nI (f % 4))) i) from Int32.sub_zero _]
        exact this
      | true =>
        rw [hPi] at hbit
        have hlt : ctN (car M (nI (f % 4))) i < t := by
          have := hno i (by omega)
          rw [hPi] at this
          rcases Nat.lt_or_ge (ctN (car M (nI (f % 4))) i) t with z | z
          · exact z
          · exact absurd ⟨rfl, by omega⟩ this
        refine r_iload_n X dX5_wayOf_58 rfl ?_
        refine r_iload X dX5_wayOf_59 rfl ?_
        refine r_ishr X dX5_wayOf_61 ?_
        refine r_iconst (1) X dX5_wayOf_62 (by decide) ?_
        refine r_iand X dX5_wayOf_63 ?_
        refine r_top hbit ?_
        refine r_ifeq 72 X dX5_wayOf_64 (by decide) (fun c64 => absurd c64 (by decide)) (fun c64 => ?_)
        show Rn G κ 67 _ _ _ _ _
        refine r_iload X dX5_wayOf_67 rfl ?_
        show Rn G κ 69 _ _ _ _ _
        refine r_ifle 89 X dX5_wayOf_69 (by decide) (fun c69 => absurd c69 (nI_nle (by omega) (by omega))) (fun c69 => ?_)
        show Rn G κ 72 _ _ _ _ _
        refine r_iload X dX5_wayOf_72 rfl ?_
        refine r_iload_n X dX5_wayOf_74 rfl ?_
        refine r_iload X dX5_wayOf_75 rfl ?_
        refine r_ishr X dX5_wayOf_77 ?_
        refine r_iconst (1) X dX5_wayOf_78 (by decide) ?_
        refine r_iand X dX5_wayOf_79 ?_
        rw [hbit]
        refine r_isub X dX5_wayOf_80 ?_
        show Rn G κ 81 _ _ _ _ _
        refine r_istore_4 X dX5_wayOf_81 rfl ?_
        refine r_iinc_5 (nI (i + 1)) X dX5_wayOf_83 (nI_1 i) rfl ?_
        refine r_goto 58 X dX5_wayOf_86 (by decide) ?_
        have := ih (i + 1) ht hp0 hP hc hno hw (by omega) (by rw [ctN_t hPi]; omega)
        rw [ctN_t hPi] at this
        rw [show nI (t - ctN (car M (nI (f % 4))) i) - bI true = nI (t - (ctN (car M (nI (f % 4))) i + 1)) by rw [show t - ctN (car M (nI (f % 4))) i = (t - (ctN (car M (nI (f % 4))) i + 1)) + 1 by omega]; exact nI_pred _]
        exact this
  have loop1 : ∀ n i : Nat, i + n = 6 → Rn G κ 15 [some (.ref (G.1 11 0)), some (.int (nI f)), some (.int (nI (bitP (car M (nI (f % 4))) (np M)))), some (.int (nI (ctN (fun j => (bitP (car M (nI (f % 4))) (np M)).testBit j) i))), some (.int (nI i)), none] [] C M hl := by
    intro n
    induction n with
    | zero =>
      intro i hi
      have hi : i = 6 := by omega
      subst hi
      have epop : ctN (fun j => (bitP (car M (nI (f % 4))) (np M)).testBit j) 6 = ctN (car M (nI (f % 4))) (np M) := pop6_bitP _ hn
      rw [epop]
      refine r_iload X dX5_wayOf_15 rfl ?_
      refine r_bipush (6) X dX5_wayOf_17 (by decide) ?_
      refine r_icmpge 37 X dX5_wayOf_19 (by decide) (fun c19 => ?_) (fun c19 => absurd (by decide) c19)
      show Rn G κ 37 _ _ _ _ _
      refine r_iload_n X dX5_wayOf_37 rfl ?_
      refine r_ifne 43 X dX5_wayOf_38 (by decide) (fun c38 => ?_) (fun c38 => ?_)
      · show Rn G κ 43 _ _ _ _ _
        refine r_iload_n X dX5_wayOf_43 rfl ?_
        refine r_iconst (4) X dX5_wayOf_44 (by decide) ?_
        refine r_idiv X dX5_wayOf_45 (by decide) ?_
        refine r_top (pk_div (a := f) (d := 4) (by omega) (by decide) (by decide)) ?_
        refine r_aload_n X dX5_wayOf_46 rfl ?_
        refine r_gim 13 X wfl_X5_132 dX5_wayOf_47 (by decide) rfl ?_
        refine r_iadd X dX5_wayOf_50 ?_
        refine r_top (show nI (f / 4) + M 13 0 = nI (f / 4 + sh M) by rw [hB.2.2.1, nI_add]) ?_
        refine r_iload_n X dX5_wayOf_51 rfl ?_
        show Rn G κ 52 _ _ _ _ _
        refine r_irem X dX5_wayOf_52 c38 ?_
        have hpos : 0 < ctN (car M (nI (f % 4))) (np M) := by
          rcases Nat.eq_zero_or_pos (ctN (car M (nI (f % 4))) (np M)) with q | q
          · rw [q] at c38; exact absurd rfl c38
          · exact q
        refine r_top (rem_n (ctN (car M (nI (f % 4))) (np M)) (show f / 4 + sh M < 2 ^ 31 by omega) hpos (by omega)) ?_
        refine r_istore_4 X dX5_wayOf_53 rfl ?_
        refine r_iconst (0) X dX5_wayOf_55 (by decide) ?_
        refine r_istore_5 X dX5_wayOf_56 rfl ?_
        have htl := Nat.mod_lt (f / 4 + sh M) hpos
        obtain ⟨p0, k1, k2, k3, k4, k5⟩ := kth_ex htl
        have hw : oI (way M f) = nI p0 := by
          unfold way
          rw [if_neg (by omega)]
          show oI (kth (car M (nI (f % 4))) ((f / 4 + sh M) % ctN (car M (nI (f % 4))) (np M)) (np M)) = nI p0
          rw [k1]
          rfl
        exact loop2 ((f / 4 + sh M) % ctN (car M (nI (f % 4))) (np M)) p0 p0 0 (by omega) k2 k3 k4 k5 hw (by omega) (Nat.zero_le _)
      · show Rn G κ 41 _ _ _ _ _
        refine r_iconst (-1) X dX5_wayOf_41 (by decide) ?_
        refine r_iret X Z dX5_wayOf_42 ?_
        refine ⟨rfl, rfl, rfl, ret_i ?_⟩
        have h0 : ctN (car M (nI (f % 4))) (np M) = 0 := nI_inj (by omega) (by decide) c38
        unfold way
        rw [if_pos h0]
        rfl
    | succ n ih =>
      intro i hi
      have h6 : i < 6 := by omega
      refine r_iload X dX5_wayOf_15 rfl ?_
      refine r_bipush (6) X dX5_wayOf_17 (by decide) ?_
      refine r_icmpge 37 X dX5_wayOf_19 (by decide) (fun c19 => absurd c19 (by simp only [i_lt, i_le, i_eq, i_m1, i_0, i_1, i_2, i_3, i_4, i_5, i_6, i_7, i_8, i_9, i_10, i_11, i_12, i_17, i_20, i_24, i_32, i_44, i_48, i_50, i_51, i_52, i_57, i_58, i_100, i_126, i_n (show i < 2 ^ 31 by omega)]; omega)) (fun c19 => ?_)
      show Rn G κ 22 _ _ _ _ _
      refine r_iload_n X dX5_wayOf_22 rfl ?_
      refine r_iload_n X dX5_wayOf_23 rfl ?_
      refine r_iload X dX5_wayOf_24 rfl ?_
      refine r_ishr X dX5_wayOf_26 ?_
      show Rn G κ 27 _ _ _ _ _
      refine r_iconst (1) X dX5_wayOf_27 (by decide) ?_
      refine r_iand X dX5_wayOf_28 ?_
      refine r_top (shr_bit i h6 _ (by omega)) ?_
      refine r_iadd X dX5_wayOf_29 ?_
      refine r_istore_3 X dX5_wayOf_30 rfl ?_
      refine r_iinc_4 (nI (i + 1)) X dX5_wayOf_31 (nI_1 i) rfl ?_
      refine r_goto 15 X dX5_wayOf_34 (by decide) ?_
      have := ih (i + 1) (by omega)
      cases hb : (bitP (car M (nI (f % 4))) (np M)).testBit i with
      | false =>
        rw [ctN_f hb] at this
        rw [show nI (ctN (fun j => (bitP (car M (nI (f % 4))) (np M)).testBit j) i) + bI false = nI (ctN (fun j => (bitP (car M (nI (f % 4))) (np M)).testBit j) i) from Int32.add_zero _]
        exact this
      | true =>
        rw [ctN_t hb] at this
        rw [show nI (ctN (fun j => (bitP (car M (nI (f % 4))) (np M)).testBit j) i) + bI true = nI (ctN (fun j => (bitP (car M (nI (f % 4))) (np M)).testBit j) i + 1) from nI_1 _]
        exact this
  refine r_aload_n X dX5_wayOf_0 rfl ?_
  refine r_iload_n X dX5_wayOf_1 rfl ?_
  refine r_iconst (4) X dX5_wayOf_2 (by decide) ?_
  refine r_irem X dX5_wayOf_3 (by decide) ?_
  refine r_top (rem_n 4 (show f < 2 ^ 31 by omega) (by decide) (by decide)) ?_
  refine r_iconst (4) X dX5_wayOf_4 (by decide) ?_
  refine r_iconst (4) X dX5_wayOf_5 (by decide) ?_
  refine r_cv3_I X mdX5_bitsOf wml_X5_154 dX5_wayOf_6 ⟨rfl, rfl, Nat.le_of_ble_eq_true rfl, Nat.le_of_ble_eq_true rfl⟩ (by decide) rfl rfl (Nat.le_of_ble_eq_true rfl) rfl (zroom Z) (m_bitsOf hB) ?_
  show Rn G κ 9 _ _ _ _ _
  rw [hbits]
  show Rn G κ 9 _ _ _ _ _
  refine r_istore_2 X dX5_wayOf_9 rfl ?_
  refine r_iconst (0) X dX5_wayOf_10 (by decide) ?_
  refine r_istore_3 X dX5_wayOf_11 rfl ?_
  refine r_iconst (0) X dX5_wayOf_12 (by decide) ?_
  refine r_istore_4 X dX5_wayOf_13 rfl ?_
  exact loop1 6 0 (by omega)
set_option maxRecDepth 100000 in
set_option maxHeartbeats 4000000 in
theorem m_settle {G : bpG} {C : bpC} {M : bpM} {hl : Int64} (hB : Bas M) : Ct G yX5_settle cX5_settle 2 none rmX5_settle [.ref (G.1 11 0)] C M hl (qM C hl (fun M' => M' = settle M)) := by
  refine ct_of [some (.ref (G.1 11 0)), none] (by decide +kernel) rfl rfl (Nat.le_of_ble_eq_true rfl) ?_
  intro κ X Z
  have hn := hB.2.1
  have loop : ∀ n i : Nat, i + n = np M → Rn G κ 2 [some (.ref (G.1 11 0)), some (.int (nI i))] [] C (stN M i) hl := by
    intro n
    induction n with
    | zero =>
      intro i hi
      have hi : i = np M := by omega
      subst hi
      refine r_iload_n X dX5_settle_2 rfl ?_
      refine r_aload_n X dX5_settle_3 rfl ?_
      refine r_gim 2 X wfl_X5_105 dX5_settle_4 (by decide) rfl ?_
      refine r_icmpge 41 X dX5_settle_7 (by decide) (fun c7 => ?_) (fun c7 => absurd (by rw [stN_s _ _ (by decide), hB.1]; exact Int32.le_refl _) c7)
      show Rn G κ 41 _ _ _ _ _
      refine r_vret X Z dX5_settle_41 ?_
      exact ⟨rfl, rfl, rfl, rfl⟩
    | succ n ih =>
      intro i hi
      have hin : i < np M := by omega
      have h6 : i < 6 := by omega
      have hBk : Bas (stN M i) := Bas_cg (stN_s _ _ (by decide)) (stN_s _ _ (by decide)) hB
      refine r_iload_n X dX5_settle_2 rfl ?_
      refine r_aload_n X dX5_settle_3 rfl ?_
      refine r_gim 2 X wfl_X5_105 dX5_settle_4 (by decide) rfl ?_
      refine r_icmpge 41 X dX5_settle_7 (by decide) (fun c7 => absurd c7 (by rw [stN_s _ _ (by decide), hB.1]; simp only [i_lt, i_le, i_eq, i_m1, i_0, i_1, i_2, i_3, i_4, i_5, i_6, i_7, i_8, i_9, i_10, i_11, i_12, i_17, i_20, i_24, i_32, i_44, i_48, i_50, i_51, i_52, i_57, i_58, i_100, i_126, i_n (show np M < 2 ^ 31 by omega), i_n (show i < 2 ^ 31 by omega)]; omega)) (fun c7 => ?_)
      show Rn G κ 10 _ _ _ _ _
      refine r_aload_n X dX5_settle_10 rfl ?_
      refine r_gam 10 X wfl_X5_35 dX5_settle_11 (by decide) rfl ?_
      refine r_iload_n X dX5_settle_14 rfl ?_
      show Rn G κ 15 _ _ _ _ _
      refine r_aload_n X dX5_settle_15 rfl ?_
      refine r_iload_n X dX5_settle_16 rfl ?_
      refine r_cv1_I X mdX5_stateOf wml_X5_129 dX5_settle_17 ⟨rfl, rfl, Nat.le_of_ble_eq_true rfl, Nat.le_of_ble_eq_true rfl⟩ (by decide) rfl rfl (Nat.le_of_ble_eq_true rfl) rfl (zroom Z) (m_stateOf hBk (by rw [stN_np]; exact hin)) ?_
      show Rn G κ 20 _ _ _ _ _
      refine r_iconst (2) X dX5_settle_20 (by decide) ?_
      refine r_icmpge 28 X dX5_settle_21 (by decide) (fun c21 => ?_) (fun c21 => ?_)
      · show Rn G κ 28 _ _ _ _ _
        refine r_aload_n X dX5_settle_28 rfl ?_
        refine r_gam 10 X wfl_X5_35 dX5_settle_29 (by decide) rfl ?_
        refine r_iload_n X dX5_settle_32 rfl ?_
        refine r_iaM _ X rfl (by assumption) dX5_settle_33 (by decide) rfl rfl rfl ?_
        refine r_isM _ X rfl (by assumption) dX5_settle_34 (by decide) rfl rfl rfl ?_
        refine r_iinc_1 (nI (i + 1)) X dX5_settle_35 (nI_1 i) rfl ?_
        refine r_goto 2 X dX5_settle_38 (by decide) ?_
        have h2 : ¬ choi M i ≠ 2 := by
          intro z
          have := stat_2.mpr (show choi (stN M i) i ≠ 2 by rw [stN_choi]; exact z)
          rw [i_lt, i_2] at this
          rw [i_le, i_2] at c21
          omega
        have := ih (i + 1) (by omega)
        rw [stN_step, if_neg h2, ← stN_10 M i] at this
        exact this
      · show Rn G κ 24 _ _ _ _ _
        refine r_iconst (0) X dX5_settle_24 (by decide) ?_
        refine r_goto 34 X dX5_settle_25 (by decide) ?_
        refine r_isM _ X rfl (by assumption) dX5_settle_34 (by decide) rfl rfl rfl ?_
        refine r_iinc_1 (nI (i + 1)) X dX5_settle_35 (nI_1 i) rfl ?_
        refine r_goto 2 X dX5_settle_38 (by decide) ?_
        have h2 : choi M i ≠ 2 := by
          have := stat_2.mp (show stat (stN M i) i < 2 by rw [i_lt, i_2]; rw [i_le, i_2] at c21; omega)
          rw [stN_choi] at this
          exact this
        have := ih (i + 1) (by omega)
        rw [stN_step, if_pos h2] at this
        exact this
  refine r_iconst (0) X dX5_settle_0 (by decide) ?_
  refine r_istore_1 X dX5_settle_1 rfl ?_
  have h0 := loop (np M) 0 (by omega)
  rw [stN_0] at h0
  exact h0
set_option maxRecDepth 100000 in
set_option maxHeartbeats 4000000 in
theorem m_forget {G : bpG} {C : bpC} {M : bpM} {hl : Int64} {p : Nat} (hp : p < 6) : Ct G yX5_forget cX5_forget 2 none rmX5_forget [.ref (G.1 11 0), .int (nI p)] C M hl (qM C hl (fun M' => M' = forgF M p)) := by
  refine ct_of [some (.ref (G.1 11 0)), some (.int (nI p))] (by decide +kernel) rfl rfl (Nat.le_of_ble_eq_true rfl) ?_
  intro κ X Z
  refine r_aload_n X dX5_forget_0 rfl ?_
  refine r_gam 6 X wfl_X5_23 dX5_forget_1 (by decide) rfl ?_
  refine r_iload_n X dX5_forget_4 rfl ?_
  refine r_iconst (0) X dX5_forget_5 (by decide) ?_
  refine r_isM _ X rfl (by assumption) dX5_forget_6 (by decide) rfl rfl rfl ?_
  refine r_aload_n X dX5_forget_7 rfl ?_
  refine r_gam 7 X wfl_X5_26 dX5_forget_8 (by decide) rfl ?_
  show Rn G κ 11 _ _ _ _ _
  refine r_iload_n X dX5_forget_11 rfl ?_
  refine r_iconst (0) X dX5_forget_12 (by decide) ?_
  refine r_isM _ X rfl (by assumption) dX5_forget_13 (by decide) rfl rfl rfl ?_
  refine r_aload_n X dX5_forget_14 rfl ?_
  refine r_gam 8 X wfl_X5_29 dX5_forget_15 (by decide) rfl ?_
  refine r_iload_n X dX5_forget_18 rfl ?_
  refine r_iconst (0) X dX5_forget_19 (by decide) ?_
  refine r_zsM _ X (by decide) rfl (by assumption) dX5_forget_20 (by decide) rfl rfl rfl ?_
  show Rn G κ 21 _ _ _ _ _
  refine r_aload_n X dX5_forget_21 rfl ?_
  refine r_gam 9 X wfl_X5_32 dX5_forget_22 (by decide) rfl ?_
  refine r_iload_n X dX5_forget_25 rfl ?_
  refine r_iconst (0) X dX5_forget_26 (by decide) ?_
  refine r_isM _ X rfl (by assumption) dX5_forget_27 (by decide) rfl rfl rfl ?_
  refine r_vret X Z dX5_forget_28 ?_
  exact ⟨rfl, rfl, rfl, rfl⟩
set_option maxRecDepth 100000 in
set_option maxHeartbeats 4000000 in
theorem m_lay {G : bpG} {C : bpC} {M : bpM} {hl : Int64} {p : Nat} {f n : Int32} (hp : p < 6) (h17 : M 17 p = nI (qm M p)) (hq : qm M p < 24) : Ct G yX5_lay cX5_lay 4 none rmX5_lay [.ref (G.1 11 0), .int (nI p), .int f, .int n] C M hl (qM C hl (fun M' => M' = layF M p f n)) := by
  refine ct_of [some (.ref (G.1 11 0)), some (.int (nI p)), some (.int f), some (.int n)] (by decide +kernel) rfl rfl (Nat.le_of_ble_eq_true rfl) ?_
  intro κ X Z
  refine r_aload_n X dX5_lay_0 rfl ?_
  refine r_gam 15 X wfl_X5_45 dX5_lay_1 (by decide) rfl ?_
  refine r_bipush (24) X dX5_lay_4 (by decide) ?_
  refine r_iload_n X dX5_lay_6 rfl ?_
  refine r_imul X dX5_lay_7 ?_
  refine r_aload_n X dX5_lay_8 rfl ?_
  refine r_gam 17 X wfl_X5_51 dX5_lay_9 (by decide) rfl ?_
  show Rn G κ 12 _ _ _ _ _
  refine r_iload_n X dX5_lay_12 rfl ?_
  refine r_iaM _ X rfl (by assumption) dX5_lay_13 (by decide) rfl rfl rfl ?_
  refine r_iadd X dX5_lay_14 ?_
  refine r_iload_n X dX5_lay_15 rfl ?_
  refine r_isM (24 * p + qm M p) X (show (24 : Int32) * nI p + M 17 p = nI (24 * p + qm M p) by rw [h17, ← nI_add, ← pk_mul]; rfl) (show 24 * p + qm M p < 144 by omega) dX5_lay_16 (by decide) rfl rfl rfl ?_
  refine r_aload_n X dX5_lay_17 rfl ?_
  refine r_gam 16 X wfl_X5_48 dX5_lay_18 (by decide) rfl ?_
  refine r_bipush (24) X dX5_lay_21 (by decide) ?_
  show Rn G κ 23 _ _ _ _ _
  refine r_iload_n X dX5_lay_23 rfl ?_
  refine r_imul X dX5_lay_24 ?_
  refine r_aload_n X dX5_lay_25 rfl ?_
  refine r_gam 17 X wfl_X5_51 dX5_lay_26 (by decide) rfl ?_
  refine r_iload_n X dX5_lay_29 rfl ?_
  refine r_iaM _ X rfl (by assumption) dX5_lay_30 (by decide) rfl rfl rfl ?_
  refine r_iadd X dX5_lay_31 ?_
  refine r_iload_n X dX5_lay_32 rfl ?_
  show Rn G κ 33 _ _ _ _ _
  refine r_isM (24 * p + qm M p) X (by rw [upM_ne _ _ _ _ (by omega)]; exact (show (24 : Int32) * nI p + M 17 p = nI (24 * p + qm M p) by rw [h17, ← nI_add, ← pk_mul]; rfl)) (show 24 * p + qm M p < 144 by omega) dX5_lay_33 (by decide) rfl rfl rfl ?_
  refine r_aload_n X dX5_lay_34 rfl ?_
  refine r_gam 17 X wfl_X5_51 dX5_lay_35 (by decide) rfl ?_
  refine r_iload_n X dX5_lay_38 rfl ?_
  refine r_dup2 X dX5_lay_39 rfl rfl ?_
  refine r_iaM _ X rfl (by assumption) dX5_lay_40 (by decide) rfl rfl rfl ?_
  refine r_iconst (1) X dX5_lay_41 (by decide) ?_
  refine r_iadd X dX5_lay_42 ?_
  show Rn G κ 43 _ _ _ _ _
  refine r_isM _ X rfl (by assumption) dX5_lay_43 (by decide) rfl rfl rfl ?_
  refine r_vret X Z dX5_lay_44 ?_
  refine ⟨rfl, rfl, rfl, ?_⟩
  unfold layF
  rw [upM_ne _ 16 _ _ (k' := 17) (by omega), upM_ne _ 15 _ _ (k' := 17) (by omega)]
set_option maxRecDepth 100000 in
set_option maxHeartbeats 4000000 in
theorem m_comes_none {G : bpG} {C : bpC} {M : bpM} {hl : Int64} {f : Nat} {n : Int32} (hf : f < 12) : Ct G yX5_comes cX5_comes 4 (some .int) rmX5_comes [.ref (G.1 11 0), .int (-1), .int (nI f), .int n] C M hl (qMi C hl (fun M' r => M' = (comeF M none f n).1 ∧ r = (comeF M none f n).2)) := by
  refine ct_of [some (.ref (G.1 11 0)), some (.int (-1)), some (.int (nI f)), some (.int n)] (by decide +kernel) rfl rfl (Nat.le_of_ble_eq_true rfl) ?_
  intro κ X Z
  refine r_iload_n X dX5_comes_0 rfl ?_
  refine r_iconst (-1) X dX5_comes_1 (by decide) ?_
  refine r_icmpeq 16 X dX5_comes_2 (by decide) (fun c2 => ?_) (fun c2 => absurd rfl c2)
  show Rn G κ 16 _ _ _ _ _
  refine r_aload_n X dX5_comes_16 rfl ?_
  refine r_gam 24 X wfl_X5_72 dX5_comes_17 (by decide) rfl ?_
  refine r_iload_n X dX5_comes_20 rfl ?_
  refine r_dup2 X dX5_comes_21 rfl rfl ?_
  show Rn G κ 22 _ _ _ _ _
  refine r_iaM _ X rfl (by assumption) dX5_comes_22 (by decide) rfl rfl rfl ?_
  refine r_iconst (1) X dX5_comes_23 (by decide) ?_
  refine r_iadd X dX5_comes_24 ?_
  refine r_isM _ X rfl (by assumption) dX5_comes_25 (by decide) rfl rfl rfl ?_
  refine r_iconst (2) X dX5_comes_26 (by decide) ?_
  refine r_iret X Z dX5_comes_27 ?_
  exact ⟨rfl, rfl, _, rfl, rfl, rfl⟩
set_option maxRecDepth 100000 in
set_option maxHeartbeats 4000000 in
theorem m_comes_some {G : bpG} {C : bpC} {M : bpM} {hl : Int64} {p f : Nat} {n : Int32} (hp : p < 6) (h17 : M 17 p = nI (qm M p)) (h20 : qm M p ≤ 20) (hf : f < 12) : Ct G yX5_comes cX5_comes 4 (some .int) rmX5_comes [.ref (G.1 11 0), .int (nI p), .int (nI f), .int n] C M hl (qMi C hl (fun M' r => M' = (comeF M (some p) f n).1 ∧ r = (comeF M (some p) f n).2)) := by
  refine ct_of [some (.ref (G.1 11 0)), some (.int (nI p)), some (.int (nI f)), some (.int n)] (by decide +kernel) rfl rfl (Nat.le_of_ble_eq_true rfl) ?_
  intro κ X Z
  refine r_iload_n X dX5_comes_0 rfl ?_
  refine r_iconst (-1) X dX5_comes_1 (by decide) ?_
  refine r_icmpeq 16 X dX5_comes_2 (by decide) (fun c2 => absurd c2 (nI_m1 (show p < 2 ^ 31 by omega))) (fun c2 => ?_)
  show Rn G κ 5 _ _ _ _ _
  refine r_aload_n X dX5_comes_5 rfl ?_
  refine r_gam 17 X wfl_X5_51 dX5_comes_6 (by decide) rfl ?_
  refine r_iload_n X dX5_comes_9 rfl ?_
  refine r_iaM _ X rfl (by assumption) dX5_comes_10 (by decide) rfl rfl rfl ?_
  show Rn G κ 11 _ _ _ _ _
  refine r_bipush (8) X dX5_comes_11 (by decide) ?_
  refine r_icmplt 28 X dX5_comes_13 (by decide) (fun c13 => ?_) (fun c13 => ?_)
  · show Rn G κ 28 _ _ _ _ _
    refine r_aload_n X dX5_comes_28 rfl ?_
    refine r_iload_n X dX5_comes_29 rfl ?_
    refine r_iload_n X dX5_comes_30 rfl ?_
    refine r_iload_n X dX5_comes_31 rfl ?_
    refine r_cv3_M X mdX5_lay wml_X5_167 dX5_comes_32 ⟨rfl, rfl, Nat.le_of_ble_eq_true rfl, Nat.le_of_ble_eq_true rfl⟩ (by decide) rfl rfl (Nat.le_of_ble_eq_true rfl) rfl (zroom Z) (m_lay hp h17 (by omega)) (fun M2 e2 => ?_)
    subst e2
    show Rn G κ 35 _ _ _ _ _
    refine r_iconst (0) X dX5_comes_35 (by decide) ?_
    refine r_iret X Z dX5_comes_36 ?_
    have h8 : ¬ 8 ≤ M 17 p := by rw [i_lt] at c13; rw [i_le]; omega
    have e : comeF M (some p) f n = (layF M p (nI f) n, 0) := by simp only [comeF]; rw [if_neg h8]
    rw [e]
    exact ⟨rfl, rfl, _, rfl, rfl, rfl⟩
  · show Rn G κ 16 _ _ _ _ _
    refine r_aload_n X dX5_comes_16 rfl ?_
    refine r_gam 24 X wfl_X5_72 dX5_comes_17 (by decide) rfl ?_
    refine r_iload_n X dX5_comes_20 rfl ?_
    refine r_dup2 X dX5_comes_21 rfl rfl ?_
    refine r_iaM _ X rfl (by assumption) dX5_comes_22 (by decide) rfl rfl rfl ?_
    refine r_iconst (1) X dX5_comes_23 (by decide) ?_
    refine r_iadd X dX5_comes_24 ?_
    show Rn G κ 25 _ _ _ _ _
    refine r_isM _ X rfl (by assumption) dX5_comes_25 (by decide) rfl rfl rfl ?_
    refine r_iconst (2) X dX5_comes_26 (by decide) ?_
    refine r_iret X Z dX5_comes_27 ?_
    have h8 : 8 ≤ M 17 p := by rw [i_lt] at c13; rw [i_le]; omega
    have e : comeF M (some p) f n = (lostF M f, 2) := by simp only [comeF]; rw [if_pos h8]
    rw [e]
    exact ⟨rfl, rfl, _, rfl, rfl, rfl⟩
theorem m_comes {G : bpG} {C : bpC} {M : bpM} {hl : Int64} {w : Option Nat} {f : Nat} {n : Int32} (hw : ∀ p, w = some p → p < np M) (hB : Bas M) (hQ : QB M) (hf : f < 12) : Ct G yX5_comes cX5_comes 4 (some .int) rmX5_comes [.ref (G.1 11 0), .int (oI w), .int (nI f), .int n] C M hl (qMi C hl (fun M' r => M' = (comeF M w f n).1 ∧ r = (comeF M w f n).2)) := by
  cases w with
  | none => exact m_comes_none hf
  | some p =>
    have hp := hw p rfl
    have h6 := hB.2.1
    exact m_comes_some (by omega) (hQ p hp).1 (hQ p hp).2 hf
set_option maxRecDepth 100000 in
set_option maxHeartbeats 4000000 in
theorem m_holds {G : bpG} {C : bpC} {M : bpM} {hl : Int64} {f : Nat} {n : Int32} (hf : f < 12) (h20 : M 20 f = nI (hm M f)) (h8 : hm M f ≤ 8) : Ct G yX5_holds cX5_holds 3 (some .int) rmX5_holds [.ref (G.1 11 0), .int (nI f), .int n] C M hl (qMi C hl (fun M' r => M' = (holdF M f n).1 ∧ r = (holdF M f n).2)) := by
  refine ct_of [some (.ref (G.1 11 0)), some (.int (nI f)), some (.int n)] (by decide +kernel) rfl rfl (Nat.le_of_ble_eq_true rfl) ?_
  intro κ X Z
  refine r_aload_n X dX5_holds_0 rfl ?_
  refine r_gam 20 X wfl_X5_60 dX5_holds_1 (by decide) rfl ?_
  refine r_iload_n X dX5_holds_4 rfl ?_
  refine r_iaM _ X rfl (by assumption) dX5_holds_5 (by decide) rfl rfl rfl ?_
  refine r_bipush (8) X dX5_holds_6 (by decide) ?_
  refine r_icmpne 23 X dX5_holds_8 (by decide) (fun c8 => ?_) (fun c8 => ?_)
  · show Rn G κ 23 _ _ _ _ _
    refine r_aload_n X dX5_holds_23 rfl ?_
    refine r_gam 21 X wfl_X5_63 dX5_holds_24 (by decide) rfl ?_
    refine r_bipush (8) X dX5_holds_27 (by decide) ?_
    refine r_iload_n X dX5_holds_29 rfl ?_
    refine r_imul X dX5_holds_30 ?_
    refine r_aload_n X dX5_holds_31 rfl ?_
    refine r_gam 20 X wfl_X5_60 dX5_holds_32 (by decide) rfl ?_
    show Rn G κ 35 _ _ _ _ _
    refine r_iload_n X dX5_holds_35 rfl ?_
    refine r_iaM _ X rfl (by assumption) dX5_holds_36 (by decide) rfl rfl rfl ?_
    refine r_iadd X dX5_holds_37 ?_
    refine r_iload_n X dX5_holds_38 rfl ?_
    refine r_isM (8 * f + hm M f) X (show (8 : Int32) * nI f + M 20 f = nI (8 * f + hm M f) by rw [h20, ← nI_add, ← pk_mul]; rfl) (show 8 * f + hm M f < 96 by have : hm M f ≠ 8 := fun z => c8 (by rw [h20, z]; rfl); omega) dX5_holds_39 (by decide) rfl rfl rfl ?_
    refine r_aload_n X dX5_holds_40 rfl ?_
    refine r_gam 20 X wfl_X5_60 dX5_holds_41 (by decide) rfl ?_
    refine r_iload_n X dX5_holds_44 rfl ?_
    show Rn G κ 45 _ _ _ _ _
    refine r_dup2 X dX5_holds_45 rfl rfl ?_
    refine r_iaM _ X rfl (by assumption) dX5_holds_46 (by decide) rfl rfl rfl ?_
    refine r_iconst (1) X dX5_holds_47 (by decide) ?_
    refine r_iadd X dX5_holds_48 ?_
    refine r_isM _ X rfl (by assumption) dX5_holds_49 (by decide) rfl rfl rfl ?_
    refine r_iconst (1) X dX5_holds_50 (by decide) ?_
    refine r_iret X Z dX5_holds_51 ?_
    have e : holdF M f n = (upM (upM M 21 (8 * f + hm M f) n) 20 f (M 20 f + 1), 1) := by unfold holdF; rw [if_neg c8]
    rw [e]
    refine ⟨rfl, rfl, _, rfl, ?_, rfl⟩
    rw [upM_ne _ 21 _ _ (k' := 20) (by omega)]
  · show Rn G κ 11 _ _ _ _ _
    refine r_aload_n X dX5_holds_11 rfl ?_
    refine r_gam 24 X wfl_X5_72 dX5_holds_12 (by decide) rfl ?_
    refine r_iload_n X dX5_holds_15 rfl ?_
    refine r_dup2 X dX5_holds_16 rfl rfl ?_
    refine r_iaM _ X rfl (by assumption) dX5_holds_17 (by decide) rfl rfl rfl ?_
    refine r_iconst (1) X dX5_holds_18 (by decide) ?_
    refine r_iadd X dX5_holds_19 ?_
    show Rn G κ 20 _ _ _ _ _
    refine r_isM _ X rfl (by assumption) dX5_holds_20 (by decide) rfl rfl rfl ?_
    refine r_iconst (2) X dX5_holds_21 (by decide) ?_
    refine r_iret X Z dX5_holds_22 ?_
    have e : holdF M f n = (lostF M f, 2) := by unfold holdF; rw [if_pos c8]
    rw [e]
    exact ⟨rfl, rfl, _, rfl, rfl, rfl⟩
set_option maxRecDepth 100000 in
set_option maxHeartbeats 4000000 in
theorem m_hasLetter {G : bpG} {C : bpC} {M : bpM} {hl : Int64} {p f : Nat} (hp : p < 6) (h17 : M 17 p = nI (qm M p)) (h20 : qm M p ≤ 20) : Ct G yX5_hasLetter cX5_hasLetter 5 (some .boolean) rmX5_hasLetter [.ref (G.1 11 0), .int (nI p), .int (nI f)] C M hl (qI C M hl (bI (hasL M p f))) := by
  refine ct_of [some (.ref (G.1 11 0)), some (.int (nI p)), some (.int (nI f)), none, none] (by decide +kernel) rfl rfl (Nat.le_of_ble_eq_true rfl) ?_
  intro κ X Z
  have h24 : ∀ i, (24 : Int32) * nI p + nI i = nI (24 * p + i) := fun i => by rw [← nI_add, ← pk_mul]; rfl
  have loop : ∀ n i : Nat, i + n = qm M p → Rn G κ 8 [some (.ref (G.1 11 0)), some (.int (nI p)), some (.int (nI f)), some (.int (bI (exN (fun j => decide (M 15 (24 * p + j) = nI f) && decide (0 < M 16 (24 * p + j))) i))), some (.int (nI (24 * p + i)))] [] C M hl := by
    intro n
    induction n with
    | zero =>
      intro i hi
      have hi : i = qm M p := by omega
      subst hi
      refine r_iload X dX5_hasLetter_8 rfl ?_
      refine r_bipush (24) X dX5_hasLetter_10 (by decide) ?_
      refine r_iload_n X dX5_hasLetter_12 rfl ?_
      refine r_imul X dX5_hasLetter_13 ?_
      refine r_aload_n X dX5_hasLetter_14 rfl ?_
      refine r_gam 17 X wfl_X5_51 dX5_hasLetter_15 (by decide) rfl ?_
      refine r_iload_n X dX5_hasLetter_18 rfl ?_
      show Rn G κ 19 _ _ _ _ _
      refine r_iaM _ X rfl (by assumption) dX5_hasLetter_19 (by decide) rfl rfl rfl ?_
      refine r_iadd X dX5_hasLetter_20 ?_
      refine r_top (show (24 : Int32) * nI p + M 17 p = nI (24 * p + qm M p) by rw [h17, ← nI_add, ← pk_mul]; rfl) ?_
      refine r_icmpge 61 X dX5_hasLetter_21 (by decide) (fun c21 => ?_) (fun c21 => absurd (Int32.le_refl _) c21)
      show Rn G κ 61 _ _ _ _ _
      refine r_iload_n X dX5_hasLetter_61 rfl ?_
      refine r_zret X Z dX5_hasLetter_62 (bI_01 _) ?_
      exact ⟨rfl, rfl, rfl, rfl⟩
    | succ n ih =>
      intro i hi
      have hix : 24 * p + i < 144 := by omega
      refine r_iload X dX5_hasLetter_8 rfl ?_
      refine r_bipush (24) X dX5_hasLetter_10 (by decide) ?_
      refine r_iload_n X dX5_hasLetter_12 rfl ?_
      refine r_imul X dX5_hasLetter_13 ?_
      refine r_aload_n X dX5_hasLetter_14 rfl ?_
      refine r_gam 17 X wfl_X5_51 dX5_hasLetter_15 (by decide) rfl ?_
      refine r_iload_n X dX5_hasLetter_18 rfl ?_
      show Rn G κ 19 _ _ _ _ _
      refine r_iaM _ X rfl (by assumption) dX5_hasLetter_19 (by decide) rfl rfl rfl ?_
      refine r_iadd X dX5_hasLetter_20 ?_
      refine r_top (show (24 : Int32) * nI p + M 17 p = nI (24 * p + qm M p) by rw [h17, ← nI_add, ← pk_mul]; rfl) ?_
      refine r_icmpge 61 X dX5_hasLetter_21 (by decide) (fun c21 => absurd c21 (by simp only [i_lt, i_le, i_eq, i_m1, i_0, i_1, i_2, i_3, i_4, i_5, i_6, i_7, i_8, i_9, i_10, i_11, i_12, i_17, i_20, i_24, i_32, i_44, i_48, i_50, i_51, i_52, i_57, i_58, i_100, i_126, i_n (show 24 * p + qm M p < 2 ^ 31 by omega), i_n (show 24 * p + i < 2 ^ 31 by omega)]; omega)) (fun c21 => ?_)
      show Rn G κ 24 _ _ _ _ _
      refine r_iload_n X dX5_hasLetter_24 rfl ?_
      refine r_ifne 49 X dX5_hasLetter_25 (by decide) (fun c25 => ?_) (fun c25 => ?_)
      · show Rn G κ 49 _ _ _ _ _
        refine r_iconst (1) X dX5_hasLetter_49 (by decide) ?_
        refine r_goto 54 X dX5_hasLetter_50 (by decide) ?_
        refine r_istore_3 X dX5_hasLetter_54 rfl ?_
        refine r_iinc_4 (nI (24 * p + (i + 1))) X dX5_hasLetter_55 (nI_1 (24 * p + i)) rfl ?_
        refine r_goto 8 X dX5_hasLetter_58 (by decide) ?_
        have := ih (i + 1) (by omega)
        rw [show exN (fun j => decide (M 15 (24 * p + j) = nI f) && decide (0 < M 16 (24 * p + j))) (i + 1) = true by simp only [exN]; rw [bI_1 c25]; rfl] at this
        exact this
      · show Rn G κ 28 _ _ _ _ _
        refine r_aload_n X dX5_hasLetter_28 rfl ?_
        refine r_gam 15 X wfl_X5_45 dX5_hasLetter_29 (by decide) rfl ?_
        refine r_iload X dX5_hasLetter_32 rfl ?_
        refine r_iaM _ X rfl (by assumption) dX5_hasLetter_34 (by decide) rfl rfl rfl ?_
        refine r_iload_n X dX5_hasLetter_35 rfl ?_
        refine r_icmpne 53 X dX5_hasLetter_36 (by decide) (fun c36 => ?_) (fun c36 => ?_)
        · show Rn G κ 53 _ _ _ _ _
          refine r_iconst (0) X dX5_hasLetter_53 (by decide) ?_
          refine r_istore_3 X dX5_hasLetter_54 rfl ?_
          refine r_iinc_4 (nI (24 * p + (i + 1))) X dX5_hasLetter_55 (nI_1 (24 * p + i)) rfl ?_
          refine r_goto 8 X dX5_hasLetter_58 (by decide) ?_
          have := ih (i + 1) (by omega)
          rw [show exN (fun j => decide (M 15 (24 * p + j) = nI f) && decide (0 < M 16 (24 * p + j))) (i + 1) = false by simp only [exN]; rw [bI_0 c25]; simp [c36]] at this
          exact this
        · show Rn G κ 39 _ _ _ _ _
          refine r_aload_n X dX5_hasLetter_39 rfl ?_
          refine r_gam 16 X wfl_X5_48 dX5_hasLetter_40 (by decide) rfl ?_
          refine r_iload X dX5_hasLetter_43 rfl ?_
          refine r_iaM _ X rfl (by assumption) dX5_hasLetter_45 (by decide) rfl rfl rfl ?_
          refine r_ifle 53 X dX5_hasLetter_46 (by decide) (fun c46 => ?_) (fun c46 => ?_)
          · show Rn G κ 53 _ _ _ _ _
            refine r_iconst (0) X dX5_hasLetter_53 (by decide) ?_
            refine r_istore_3 X dX5_hasLetter_54 rfl ?_
            refine r_iinc_4 (nI (24 * p + (i + 1))) X dX5_hasLetter_55 (nI_1 (24 * p + i)) rfl ?_
            refine r_goto 8 X dX5_hasLetter_58 (by decide) ?_
            have := ih (i + 1) (by omega)
            rw [show exN (fun j => decide (M 15 (24 * p + j) = nI f) && decide (0 < M 16 (24 * p + j))) (i + 1) = false by simp only [exN]; rw [bI_0 c25]; rw [i_le, i_0] at c46; simp; intro _; rw [i_le, i_0]; omega] at this
            exact this
          · show Rn G κ 49 _ _ _ _ _
            refine r_iconst (1) X dX5_hasLetter_49 (by decide) ?_
            refine r_goto 54 X dX5_hasLetter_50 (by decide) ?_
            refine r_istore_3 X dX5_hasLetter_54 rfl ?_
            refine r_iinc_4 (nI (24 * p + (i + 1))) X dX5_hasLetter_55 (nI_1 (24 * p + i)) rfl ?_
            refine r_goto 8 X dX5_hasLetter_58 (by decide) ?_
            have := ih (i + 1) (by omega)
            rw [show exN (fun j => decide (M 15 (24 * p + j) = nI f) && decide (0 < M 16 (24 * p + j))) (i + 1) = true by simp only [exN]; rw [bI_0 c25]; simp [c36]; rw [i_le, i_0] at c46; rw [i_lt, i_0]; omega] at this
            exact this
  refine r_iconst (0) X dX5_hasLetter_0 (by decide) ?_
  refine r_istore_3 X dX5_hasLetter_1 rfl ?_
  refine r_bipush (24) X dX5_hasLetter_2 (by decide) ?_
  refine r_iload_n X dX5_hasLetter_4 rfl ?_
  refine r_imul X dX5_hasLetter_5 ?_
  refine r_top (pk_mul 24 p) ?_
  refine r_istore_4 X dX5_hasLetter_6 rfl ?_
  exact loop (qm M p) 0 (by omega)
