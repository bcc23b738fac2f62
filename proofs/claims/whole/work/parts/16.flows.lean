set_option maxRecDepth 100000 in
set_option maxHeartbeats 4000000 in
theorem c_putLetter_none {G : bpG} {C : bpC} {M : bpM} {hl : Int64} {a : bpM} {ex f : Nat} {n : Int32} (hR : RA C a ex) (hf : f < 12) : Ct G yX4_putLetter cX4_putLetter 4 (some .boolean) rmX4_putLetter [.ref (G.1 0 0), .int (nI f), .int n, .int (-1)] C M hl (qCi M hl (fun C' r => RA C' (comeF a none f n).1 ex ∧ FrQ C C' ex ∧ r = bI (decide ((comeF a none f n).2 = 0)))) := by
  refine ct_of [some (.ref (G.1 0 0)), some (.int (nI f)), some (.int n), some (.int (-1))] (by decide +kernel) rfl rfl (Nat.le_of_ble_eq_true rfl) ?_
  intro κ X Z
  refine r_aload_n X dX4_putLetter_0 rfl ?_
  refine r_iload_n X dX4_putLetter_1 rfl ?_
  refine r_cv1_I X mdX4_isPort wml_X4_92 dX4_putLetter_2 ⟨rfl, rfl, Nat.le_of_ble_eq_true rfl, Nat.le_of_ble_eq_true rfl⟩ (by decide) rfl rfl (Nat.le_of_ble_eq_true rfl) rfl (zroom Z) (c_isPort hR.1.1.1 hR.1.2.1) ?_
  show Rn G κ 5 _ _ _ _ _
  refine r_ifeq 41 X dX4_putLetter_5 (by decide) (fun c5 => ?_) (fun c5 => absurd (by rw [isP_m1]; rfl) c5)
  show Rn G κ 41 _ _ _ _ _
  refine r_aload_n X dX4_putLetter_41 rfl ?_
  refine r_gr0_2 X wfl_X4_24 dX4_putLetter_42 ?_
  refine r_iload_n X dX4_putLetter_45 rfl ?_
  show Rn G κ 46 _ _ _ _ _
  refine r_aaF _ X rfl (by assumption) dX4_putLetter_46 ?_
  refine r_dup X dX4_putLetter_47 rfl ?_
  refine r_gi9 6 X (by assumption) wfl_X4_190 dX4_putLetter_48 (by decide) rfl ?_
  refine r_iconst (1) X dX4_putLetter_51 (by decide) ?_
  refine r_iadd X dX4_putLetter_52 ?_
  refine r_pi9 6 X (by assumption) wfl_X4_190 dX4_putLetter_53 (by decide) rfl rfl (by decide +kernel) ?_
  refine r_iconst (0) X dX4_putLetter_56 (by decide) ?_
  refine r_zret X Z dX4_putLetter_57 (by decide) ?_
  exact ⟨rfl, rfl, _, rfl, RA_lost hR hf, FrQ.rf.k (by decide), rfl⟩
set_option maxRecDepth 100000 in
set_option maxHeartbeats 4000000 in
theorem c_putLetter_some {G : bpG} {C : bpC} {M : bpM} {hl : Int64} {a : bpM} {ex f q : Nat} {n : Int32} (hR : RA C a ex) (hQ : QB a) (hf : f < 12) (hq : q < np a) (hx : q ≠ ex) : Ct G yX4_putLetter cX4_putLetter 4 (some .boolean) rmX4_putLetter [.ref (G.1 0 0), .int (nI f), .int n, .int (nI q)] C M hl (qCi M hl (fun C' r => RA C' (comeF a (some q) f n).1 ex ∧ FrQ C C' ex ∧ r = bI (decide ((comeF a (some q) f n).2 = 0)))) := by
  have hB := hR.1.2.1
  have hn := hB.2.1
  have hq6 : q < 6 := by omega
  have h0 := hQ q hq
  have hsz : C 6 q 2 = nI (qm a q) := (hR.2.2.1 q hq hx).1.trans h0.1
  refine ct_of [some (.ref (G.1 0 0)), some (.int (nI f)), some (.int n), some (.int (nI q))] (by decide +kernel) rfl rfl (Nat.le_of_ble_eq_true rfl) ?_
  intro κ X Z
  refine r_aload_n X dX4_putLetter_0 rfl ?_
  refine r_iload_n X dX4_putLetter_1 rfl ?_
  refine r_cv1_I X mdX4_isPort wml_X4_92 dX4_putLetter_2 ⟨rfl, rfl, Nat.le_of_ble_eq_true rfl, Nat.le_of_ble_eq_true rfl⟩ (by decide) rfl rfl (Nat.le_of_ble_eq_true rfl) rfl (zroom Z) (c_isPort hR.1.1.1 hB) ?_
  show Rn G κ 5 _ _ _ _ _
  refine r_ifeq 41 X dX4_putLetter_5 (by decide) (fun c5 => absurd c5 (by rw [isP_n hB hq]; decide)) (fun c5 => ?_)
  show Rn G κ 8 _ _ _ _ _
  refine r_aload_n X dX4_putLetter_8 rfl ?_
  refine r_gr0_1 X wfl_X4_18 dX4_putLetter_9 ?_
  refine r_iload_n X dX4_putLetter_12 rfl ?_
  show Rn G κ 13 _ _ _ _ _
  refine r_aaP _ X rfl (by assumption) dX4_putLetter_13 ?_
  refine r_gr5_0 X (by assumption) wfl_X4_112 dX4_putLetter_14 ?_
  refine r_gi6 2 X (by assumption) wfl_X4_153 dX4_putLetter_17 (by decide) rfl ?_
  refine r_bipush (8) X dX4_putLetter_20 (by decide) ?_
  refine r_icmpge 41 X dX4_putLetter_22 (by decide) (fun c22 => ?_) (fun c22 => ?_)
  · show Rn G κ 41 _ _ _ _ _
    refine r_aload_n X dX4_putLetter_41 rfl ?_
    refine r_gr0_2 X wfl_X4_24 dX4_putLetter_42 ?_
    refine r_iload_n X dX4_putLetter_45 rfl ?_
    refine r_aaF _ X rfl (by assumption) dX4_putLetter_46 ?_
    refine r_dup X dX4_putLetter_47 rfl ?_
    refine r_gi9 6 X (by assumption) wfl_X4_190 dX4_putLetter_48 (by decide) rfl ?_
    refine r_iconst (1) X dX4_putLetter_51 (by decide) ?_
    show Rn G κ 52 _ _ _ _ _
    refine r_iadd X dX4_putLetter_52 ?_
    refine r_pi9 6 X (by assumption) wfl_X4_190 dX4_putLetter_53 (by decide) rfl rfl (by decide +kernel) ?_
    refine r_iconst (0) X dX4_putLetter_56 (by decide) ?_
    refine r_zret X Z dX4_putLetter_57 (by decide) ?_
    have h8 : 8 ≤ a 17 q := by rw [← (hR.2.2.1 q hq hx).1]; exact c22
    refine ⟨rfl, rfl, _, rfl, ?_, FrQ.rf.k (by decide), ?_⟩
    · simp only [comeF]; rw [if_pos h8]; exact RA_lost hR hf
    · rw [show (comeF a (some q) f n).2 = 2 by simp only [comeF]; rw [if_pos h8]]; rfl
  · show Rn G κ 25 _ _ _ _ _
    have h8 : ¬ 8 ≤ a 17 q := by rw [← (hR.2.2.1 q hq hx).1]; exact c22
    have hm20 : qm a q < 20 := by rw [h0.1, i_le, i_8, i_n (by omega)] at h8; omega
    refine r_aload_n X dX4_putLetter_25 rfl ?_
    refine r_gr0_1 X wfl_X4_18 dX4_putLetter_26 ?_
    refine r_iload_n X dX4_putLetter_29 rfl ?_
    refine r_aaP _ X rfl (by assumption) dX4_putLetter_30 ?_
    refine r_gr5_0 X (by assumption) wfl_X4_112 dX4_putLetter_31 ?_
    refine r_iload_n X dX4_putLetter_34 rfl ?_
    refine r_iload_n X dX4_putLetter_35 rfl ?_
    show Rn G κ 36 _ _ _ _ _
    refine r_cv2_C X mdX3_append wml_X4_281 dX4_putLetter_36 ⟨rfl, rfl, Nat.le_of_ble_eq_true rfl, Nat.le_of_ble_eq_true rfl⟩ (by assumption) rfl rfl (Nat.le_of_ble_eq_true rfl) rfl (zroom Z) (c_append hq6 hm20 hsz hf) (fun C2 e2 => ?_)
    subst e2
    show Rn G κ 39 _ _ _ _ _
    refine r_iconst (1) X dX4_putLetter_39 (by decide) ?_
    refine r_zret X Z dX4_putLetter_40 (by decide) ?_
    refine ⟨rfl, rfl, _, rfl, ?_, ((FrQ.rf.i hx).i hx).i hx, ?_⟩
    · simp only [comeF]; rw [if_neg h8]; exact RA_lay hR hq h0.1 hm20 (fun r hr => (hQ r hr).2)
    · rw [show (comeF a (some q) f n).2 = 0 by simp only [comeF]; rw [if_neg h8]]; rfl
theorem c_putLetter {G : bpG} {C : bpC} {M : bpM} {hl : Int64} {a : bpM} {ex f : Nat} {n : Int32} {w : Option Nat} (hR : RA C a ex) (hQ : QB a) (hf : f < 12) (hw : ∀ q, w = some q → q < np a ∧ q ≠ ex) : Ct G yX4_putLetter cX4_putLetter 4 (some .boolean) rmX4_putLetter [.ref (G.1 0 0), .int (nI f), .int n, .int (oI w)] C M hl (qCi M hl (fun C' r => RA C' (comeF a w f n).1 ex ∧ FrQ C C' ex ∧ r = bI (decide ((comeF a w f n).2 = 0)))) := by
  cases w with
  | none => exact c_putLetter_none hR hf
  | some q => exact c_putLetter_some hR hQ hf (hw q rfl).1 (hw q rfl).2
set_option maxRecDepth 100000 in
set_option maxHeartbeats 4000000 in
theorem c_answerMarker {G : bpG} {C : bpC} {M : bpM} {hl : Int64} {a : bpM} {ex f : Nat} (hR : RA C a ex) (hQ : QB a) (h20 : a 20 f = nI (hm a f)) (h8 : hm a f ≤ 8) (hf : f < 12) (hx : way a f ≠ some ex) : Ct G yX4_answerMarker cX4_answerMarker 4 none rmX4_answerMarker [.ref (G.1 0 0), .int (nI f)] C M hl (qC M hl (fun C' => RA C' (answerF a f) ex ∧ FrQ C C' ex)) := by
  refine ct_of [some (.ref (G.1 0 0)), some (.int (nI f)), none, none] (by decide +kernel) rfl rfl (Nat.le_of_ble_eq_true rfl) ?_
  intro κ X Z
  have hR0 := hR
  have loop : ∀ (n k : Nat) (Ck : bpC), k + n = hm a f → RA Ck (ansN (ansB a f) (way a f) f (fun k => a 21 (8 * f + k)) k) ex → FrQ C Ck ex → QB (ansN (ansB a f) (way a f) f (fun k => a 21 (8 * f + k)) k) → Rn G κ 33 [some (.ref (G.1 0 0)), some (.int (nI f)), some (.ref (G.1 9 f)), some (.int (nI k))] [] Ck M hl := by
    intro n
    induction n with
    | zero =>
      intro k Ck hk hRk hFk hQk
      have e20 : Ck 9 f 1 = nI (hm a f) := by rw [(hRk.2.2.2 f hf).1, ansN_s _ _ _ _ (by omega)]; unfold ansB; rw [upM_ne _ _ _ _ (by omega), upM_ne _ _ _ _ (by omega), upM_ne _ _ _ _ (by omega)]; exact h20
      refine r_iload_n X dX4_answerMarker_33 rfl ?_
      refine r_aload_n X dX4_answerMarker_34 rfl ?_
      refine r_gi9 1 X (by assumption) wfl_X4_207 dX4_answerMarker_35 (by decide) rfl ?_
      refine r_icmpge 63 X dX4_answerMarker_38 (by decide) (fun c38 => ?_) (fun c38 => absurd (by rw [e20, show k = hm a f by omega]; exact Int32.le_refl _) c38)
      show Rn G κ 63 _ _ _ _ _
      refine r_aload_n X dX4_answerMarker_63 rfl ?_
      refine r_iconst (0) X dX4_answerMarker_64 (by decide) ?_
      refine r_pi9 1 X (by assumption) wfl_X4_207 dX4_answerMarker_65 (by decide) rfl rfl (by decide +kernel) ?_
      show Rn G κ 68 _ _ _ _ _
      refine r_vret X Z dX4_answerMarker_68 ?_
      refine ⟨rfl, rfl, rfl, ?_, hFk.k (by decide)⟩
      rw [answerF_eq]
      have := RA_held0 hRk hf
      rw [show k = hm a f by omega] at this
      exact this
    | succ n ih =>
      intro k Ck hk hRk hFk hQk
      have hFl := hRk.2.2.2 f hf
      have e20 : Ck 9 f 1 = nI (hm a f) := by rw [hFl.1, ansN_s _ _ _ _ (by omega)]; unfold ansB; rw [upM_ne _ _ _ _ (by omega), upM_ne _ _ _ _ (by omega), upM_ne _ _ _ _ (by omega)]; exact h20
      have e18 : Ck 9 f 2 = oI (way a f) := by rw [hFl.2.1, ansN_s _ _ _ _ (by omega)]; unfold ansB; rw [upM_at]
      have ehm : hm (ansN (ansB a f) (way a f) f (fun k => a 21 (8 * f + k)) k) f = hm a f := by unfold hm; rw [ansN_s _ _ _ _ (by omega)]; unfold ansB; rw [upM_ne _ _ _ _ (by omega), upM_ne _ _ _ _ (by omega), upM_ne _ _ _ _ (by omega)]
      have e21 : Ck 10 f k = a 21 (8 * f + k) := by rw [hFl.2.2.2.2.2.2.2 k (by rw [ehm]; omega), ansN_s _ _ _ _ (by omega)]; unfold ansB; rw [upM_other _ _ _ _ (by omega), upM_other _ _ _ _ (by omega), upM_other _ _ _ _ (by omega)]
      have hk8 : k < 8 := by omega
      have hnp : np (ansN (ansB a f) (way a f) f (fun k => a 21 (8 * f + k)) k) = np a := by rw [ansN_np]; unfold ansB; rw [np_up (by omega), np_up (by omega), np_up (by omega)]
      refine r_iload_n X dX4_answerMarker_33 rfl ?_
      refine r_aload_n X dX4_answerMarker_34 rfl ?_
      refine r_gi9 1 X (by assumption) wfl_X4_207 dX4_answerMarker_35 (by decide) rfl ?_
      refine r_icmpge 63 X dX4_answerMarker_38 (by decide) (fun c38 => absurd c38 (by rw [e20]; simp only [i_lt, i_le, i_eq, i_m1, i_0, i_1, i_2, i_3, i_4, i_5, i_6, i_7, i_8, i_9, i_10, i_11, i_12, i_17, i_20, i_24, i_32, i_44, i_48, i_50, i_51, i_52, i_57, i_58, i_100, i_126, i_n (show hm a f < 2 ^ 31 by omega), i_n (show k < 2 ^ 31 by omega)]; omega)) (fun c38 => ?_)
      show Rn G κ 41 _ _ _ _ _
      refine r_aload_n X dX4_answerMarker_41 rfl ?_
      refine r_iload_n X dX4_answerMarker_42 rfl ?_
      refine r_aload_n X dX4_answerMarker_43 rfl ?_
      show Rn G κ 44 _ _ _ _ _
      refine r_gr9_0 X (by assumption) wfl_X4_283 dX4_answerMarker_44 ?_
      refine r_iload_n X dX4_answerMarker_47 rfl ?_
      refine r_iaC k X rfl (by assumption) (by assumption) dX4_answerMarker_48 (by decide) rfl rfl rfl ?_
      refine r_top e21 ?_
      refine r_aload_n X dX4_answerMarker_49 rfl ?_
      refine r_gi9 2 X (by assumption) wfl_X4_193 dX4_answerMarker_50 (by decide) rfl ?_
      refine r_top e18 ?_
      refine r_cv3_Ci X mdX4_putLetter wml_X4_203 dX4_answerMarker_53 ⟨rfl, rfl, Nat.le_of_ble_eq_true rfl, Nat.le_of_ble_eq_true rfl⟩ (by decide) rfl rfl (Nat.le_of_ble_eq_true rfl) rfl (zroom Z) (c_putLetter hRk hQk hf (fun q hq => ⟨by rw [hnp]; exact way_lt hq, fun e => hx (e ▸ hq)⟩)) (fun C2 r2 q2 => ?_)
      show Rn G κ 56 _ _ _ _ _
      refine r_pop X dX4_answerMarker_56 rfl ?_
      refine r_iinc_3 (nI (k + 1)) X dX4_answerMarker_57 (nI_1 k) rfl ?_
      show Rn G κ 60 _ _ _ _ _
      refine r_goto 33 X dX4_answerMarker_60 (by decide) ?_
      refine ih (k + 1) C2 (by omega) q2.1 (hFk.tr q2.2.1) (QB_come hQk (fun q hq => by rw [hnp]; exact way_lt hq))
  refine r_aload_n X dX4_answerMarker_0 rfl ?_
  refine r_gr0_2 X wfl_X4_24 dX4_answerMarker_1 ?_
  refine r_iload_n X dX4_answerMarker_4 rfl ?_
  refine r_aaF _ X rfl (by assumption) dX4_answerMarker_5 ?_
  refine r_astore_2 X dX4_answerMarker_6 rfl ?_
  refine r_aload_n X dX4_answerMarker_7 rfl ?_
  refine r_dup X dX4_answerMarker_8 rfl ?_
  show Rn G κ 9 _ _ _ _ _
  refine r_gi0 8 X wfl_X4_44 dX4_answerMarker_9 (by decide) rfl ?_
  refine r_iconst (1) X dX4_answerMarker_12 (by decide) ?_
  refine r_iadd X dX4_answerMarker_13 ?_
  refine r_pi0 8 X wfl_X4_44 dX4_answerMarker_14 (by decide) rfl rfl (by decide +kernel) ?_
  refine r_aload_n X dX4_answerMarker_17 rfl ?_
  refine r_iconst (0) X dX4_answerMarker_18 (by decide) ?_
  refine r_pz9 3 X (by assumption) (by decide) wfl_X4_184 dX4_answerMarker_19 (by decide) rfl rfl (by decide +kernel) ?_
  have e27 : C 0 0 8 = a 27 0 := hR.1.1.2.2.2.2.2.1
  rw [e27]
  have hR1 := RA_sc (v := a 27 0 + 1) hR (s := 8) (t := 27) (by omega)
  have hR2 := RA_flow (v := 0) hR1 hf (s := 3) (t := 19) (by omega)
  have ew : way (upM (upM a 27 0 (a 27 0 + 1)) 19 f 0) f = way a f := by rw [way_up (by omega), way_up (by omega)]
  refine r_aload_n X dX4_answerMarker_22 rfl ?_
  show Rn G κ 23 _ _ _ _ _
  refine r_aload_n X dX4_answerMarker_23 rfl ?_
  refine r_iload_n X dX4_answerMarker_24 rfl ?_
  refine r_cv1_I X mdX4_wayOf wml_X4_178 dX4_answerMarker_25 ⟨rfl, rfl, Nat.le_of_ble_eq_true rfl, Nat.le_of_ble_eq_true rfl⟩ (by decide) rfl rfl (Nat.le_of_ble_eq_true rfl) rfl (zroom Z) (c_wayOf hR2.1 hR2.2.1 hf) ?_
  show Rn G κ 28 _ _ _ _ _
  rw [ew]
  refine r_pi9 2 X (by assumption) wfl_X4_193 dX4_answerMarker_28 (by decide) rfl rfl (by decide +kernel) ?_
  have hR3 := RA_flow (v := oI (way a f)) hR2 hf (s := 2) (t := 18) (by omega)
  rw [upM_comm a (show (27 : Nat) ≠ 19 by decide)] at hR3
  refine r_iconst (0) X dX4_answerMarker_31 (by decide) ?_
  refine r_istore_3 X dX4_answerMarker_32 rfl ?_
  exact loop (hm a f) 0 _ (by omega) hR3 (((FrQ.rf.k (by decide)).k (by decide)).k (by decide)) (QB_up (by omega) (QB_up (by omega) (QB_up (by omega) hQ)))
set_option maxRecDepth 100000 in
set_option maxHeartbeats 4000000 in
theorem c_hasBehind_none {G : bpG} {C : bpC} {M : bpM} {hl : Int64} {a : bpM} {f : Nat} (hR : RA C a 9) (hf : f < 12) (h : a 18 f = -1) : Ct G yX4_hasLettersBehind cX4_hasLettersBehind 3 (some .boolean) rmX4_hasLettersBehind [.ref (G.1 0 0), .int (nI f)] C M hl (qI C M hl 0) := by
  refine ct_of [some (.ref (G.1 0 0)), some (.int (nI f)), none] (by decide +kernel) rfl rfl (Nat.le_of_ble_eq_true rfl) ?_
  intro κ X Z
  refine r_aload_n X dX4_hasLettersBehind_0 rfl ?_
  refine r_gr0_2 X wfl_X4_24 dX4_hasLettersBehind_1 ?_
  refine r_iload_n X dX4_hasLettersBehind_4 rfl ?_
  refine r_aaF _ X rfl (by assumption) dX4_hasLettersBehind_5 ?_
  refine r_gi9 2 X (by assumption) wfl_X4_193 dX4_hasLettersBehind_6 (by decide) rfl ?_
  refine r_top (show C 9 f 2 = -1 by rw [(hR.2.2.2 f hf).2.1]; exact h) ?_
  refine r_istore_2 X dX4_hasLettersBehind_9 rfl ?_
  refine r_aload_n X dX4_hasLettersBehind_10 rfl ?_
  show Rn G κ 11 _ _ _ _ _
  refine r_iload_n X dX4_hasLettersBehind_11 rfl ?_
  refine r_cv1_I X mdX4_isPort wml_X4_92 dX4_hasLettersBehind_12 ⟨rfl, rfl, Nat.le_of_ble_eq_true rfl, Nat.le_of_ble_eq_true rfl⟩ (by decide) rfl rfl (Nat.le_of_ble_eq_true rfl) rfl (zroom Z) (c_isPort hR.1.1.1 hR.1.2.1) ?_
  show Rn G κ 15 _ _ _ _ _
  refine r_ifeq 38 X dX4_hasLettersBehind_15 (by decide) (fun c15 => ?_) (fun c15 => absurd (by rw [isP_m1]; rfl) c15)
  show Rn G κ 38 _ _ _ _ _
  refine r_iconst (0) X dX4_hasLettersBehind_38 (by decide) ?_
  refine r_zret X Z dX4_hasLettersBehind_39 (by decide) ?_
  exact ⟨rfl, rfl, rfl, rfl⟩
set_option maxRecDepth 100000 in
set_option maxHeartbeats 4000000 in
theorem c_hasBehind_some {G : bpG} {C : bpC} {M : bpM} {hl : Int64} {a : bpM} {f q : Nat} (hR : RA C a 9) (hQ : IQ a) (hf : f < 12) (hq : q < np a) (h : a 18 f = nI q) : Ct G yX4_hasLettersBehind cX4_hasLettersBehind 3 (some .boolean) rmX4_hasLettersBehind [.ref (G.1 0 0), .int (nI f)] C M hl (qI C M hl (bI (hasL a q f))) := by
  have hB := hR.1.2.1
  have hn := hB.2.1
  have hq6 : q < 6 := by omega
  have hI := hQ q hq
  have hRq := hR.2.2.1 q hq (by omega)
  have hsz : C 6 q 2 = nI (qm a q) := hRq.1.trans hI.1
  have hex : exN (fun j => decide (C 7 q j = nI f) && !decide (C 8 q j = 0)) (qm a q) = hasL a q f := by
    unfold hasL
    refine exN_cong (fun j hj => ?_)
    obtain ⟨e1, e2⟩ := hRq.2 j hj
    have h0 := (hI.2.2.2.1 j hj).1
    rw [e1, e2]
    congr 1
    rw [← decide_not]
    refine decide_eq_decide.mpr ?_
    rw [i_lt, i_eq, i_0]
    rw [i_le, i_0] at h0
    omega
  refine ct_of [some (.ref (G.1 0 0)), some (.int (nI f)), none] (by decide +kernel) rfl rfl (Nat.le_of_ble_eq_true rfl) ?_
  intro κ X Z
  refine r_aload_n X dX4_hasLettersBehind_0 rfl ?_
  refine r_gr0_2 X wfl_X4_24 dX4_hasLettersBehind_1 ?_
  refine r_iload_n X dX4_hasLettersBehind_4 rfl ?_
  refine r_aaF _ X rfl (by assumption) dX4_hasLettersBehind_5 ?_
  refine r_gi9 2 X (by assumption) wfl_X4_193 dX4_hasLettersBehind_6 (by decide) rfl ?_
  refine r_top (show C 9 f 2 = nI q by rw [(hR.2.2.2 f hf).2.1]; exact h) ?_
  refine r_istore_2 X dX4_hasLettersBehind_9 rfl ?_
  refine r_aload_n X dX4_hasLettersBehind_10 rfl ?_
  show Rn G κ 11 _ _ _ _ _
  refine r_iload_n X dX4_hasLettersBehind_11 rfl ?_
  refine r_cv1_I X mdX4_isPort wml_X4_92 dX4_hasLettersBehind_12 ⟨rfl, rfl, Nat.le_of_ble_eq_true rfl, Nat.le_of_ble_eq_true rfl⟩ (by decide) rfl rfl (Nat.le_of_ble_eq_true rfl) rfl (zroom Z) (c_isPort hR.1.1.1 hB) ?_
  show Rn G κ 15 _ _ _ _ _
  refine r_ifeq 38 X dX4_hasLettersBehind_15 (by decide) (fun c15 => absurd c15 (by rw [isP_n hB hq]; decide)) (fun c15 => ?_)
  show Rn G κ 18 _ _ _ _ _
  refine r_aload_n X dX4_hasLettersBehind_18 rfl ?_
  refine r_gr0_1 X wfl_X4_18 dX4_hasLettersBehind_19 ?_
  refine r_iload_n X dX4_hasLettersBehind_22 rfl ?_
  refine r_aaP _ X rfl (by assumption) dX4_hasLettersBehind_23 ?_
  refine r_gr5_0 X (by assumption) wfl_X4_112 dX4_hasLettersBehind_24 ?_
  show Rn G κ 27 _ _ _ _ _
  refine r_iload_n X dX4_hasLettersBehind_27 rfl ?_
  refine r_cv1_I X mdX3_hasLetterOf wml_X4_275 dX4_hasLettersBehind_28 ⟨rfl, rfl, Nat.le_of_ble_eq_true rfl, Nat.le_of_ble_eq_true rfl⟩ (by assumption) rfl rfl (Nat.le_of_ble_eq_true rfl) rfl (zroom Z) (c_hasLetterOf hq6 hI.le hsz) ?_
  show Rn G κ 31 _ _ _ _ _
  rw [hex]
  refine r_ifeq 38 X dX4_hasLettersBehind_31 (by decide) (fun c31 => ?_) (fun c31 => ?_)
  · show Rn G κ 38 _ _ _ _ _
    refine r_iconst (0) X dX4_hasLettersBehind_38 (by decide) ?_
    refine r_zret X Z dX4_hasLettersBehind_39 (by decide) ?_
    refine ⟨rfl, rfl, rfl, ret_i ?_⟩
    simp [bI] at c31 ⊢
    simp [c31]
  · show Rn G κ 34 _ _ _ _ _
    refine r_iconst (1) X dX4_hasLettersBehind_34 (by decide) ?_
    refine r_goto 39 X dX4_hasLettersBehind_35 (by decide) ?_
    refine r_zret X Z dX4_hasLettersBehind_39 (by decide) ?_
    refine ⟨rfl, rfl, rfl, ret_i ?_⟩
    simp [bI] at c31 ⊢
    simp [c31]
set_option maxRecDepth 100000 in
set_option maxHeartbeats 4000000 in
theorem c_startMoving {G : bpG} {C : bpC} {M : bpM} {hl : Int64} {a : bpM} {f q : Nat} (hR : RA C a 9) (hQ : QB a) (hf : f < 12) (hq : q < np a) (h : a 18 f = nI q) (h20 : qm a q < 20) : Ct G yX4_startMoving cX4_startMoving 3 none rmX4_startMoving [.ref (G.1 0 0), .int (nI f)] C M hl (qC M hl (fun C' => RA C' (layF (upM a 19 f 1) q (nI f) 0) 9)) := by
  have hB := hR.1.2.1
  have hn := hB.2.1
  have hq6 : q < 6 := by omega
  have hsz : C 6 q 2 = nI (qm a q) := (hR.2.2.1 q hq (by omega)).1.trans (hQ q hq).1
  refine ct_of [some (.ref (G.1 0 0)), some (.int (nI f)), none] (by decide +kernel) rfl rfl (Nat.le_of_ble_eq_true rfl) ?_
  intro κ X Z
  refine r_aload_n X dX4_startMoving_0 rfl ?_
  refine r_gr0_2 X wfl_X4_24 dX4_startMoving_1 ?_
  refine r_iload_n X dX4_startMoving_4 rfl ?_
  refine r_aaF _ X rfl (by assumption) dX4_startMoving_5 ?_
  refine r_gi9 2 X (by assumption) wfl_X4_193 dX4_startMoving_6 (by decide) rfl ?_
  refine r_top (show C 9 f 2 = nI q by rw [(hR.2.2.2 f hf).2.1]; exact h) ?_
  refine r_istore_2 X dX4_startMoving_9 rfl ?_
  refine r_aload_n X dX4_startMoving_10 rfl ?_
  show Rn G κ 11 _ _ _ _ _
  refine r_iload_n X dX4_startMoving_11 rfl ?_
  refine r_cv1_I X mdX4_isPort wml_X4_92 dX4_startMoving_12 ⟨rfl, rfl, Nat.le_of_ble_eq_true rfl, Nat.le_of_ble_eq_true rfl⟩ (by decide) rfl rfl (Nat.le_of_ble_eq_true rfl) rfl (zroom Z) (c_isPort hR.1.1.1 hB) ?_
  show Rn G κ 15 _ _ _ _ _
  refine r_ifeq 41 X dX4_startMoving_15 (by decide) (fun c15 => absurd c15 (by rw [isP_n hB hq]; decide)) (fun c15 => ?_)
  show Rn G κ 18 _ _ _ _ _
  refine r_aload_n X dX4_startMoving_18 rfl ?_
  refine r_gr0_1 X wfl_X4_18 dX4_startMoving_19 ?_
  refine r_iload_n X dX4_startMoving_22 rfl ?_
  refine r_aaP _ X rfl (by assumption) dX4_startMoving_23 ?_
  refine r_gr5_0 X (by assumption) wfl_X4_112 dX4_startMoving_24 ?_
  show Rn G κ 27 _ _ _ _ _
  refine r_iload_n X dX4_startMoving_27 rfl ?_
  refine r_cv1_C X mdX3_appendMarker wml_X4_278 dX4_startMoving_28 ⟨rfl, rfl, Nat.le_of_ble_eq_true rfl, Nat.le_of_ble_eq_true rfl⟩ (by assumption) rfl rfl (Nat.le_of_ble_eq_true rfl) rfl (zroom Z) (c_appendMarker hq6 h20 hsz hf) (fun C2 e2 => ?_)
  subst e2
  show Rn G κ 31 _ _ _ _ _
  refine r_aload_n X dX4_startMoving_31 rfl ?_
  refine r_gr0_2 X wfl_X4_24 dX4_startMoving_32 ?_
  refine r_iload_n X dX4_startMoving_35 rfl ?_
  refine r_aaF _ X rfl (by assumption) dX4_startMoving_36 ?_
  refine r_iconst (1) X dX4_startMoving_37 (by decide) ?_
  refine r_pz9 3 X (by assumption) (by decide) wfl_X4_184 dX4_startMoving_38 (by decide) rfl rfl (by decide +kernel) ?_
  show Rn G κ 41 _ _ _ _ _
  refine r_vret X Z dX4_startMoving_41 ?_
  refine ⟨rfl, rfl, rfl, ?_⟩
  rw [lay_19]
  exact RA_flow (RA_lay hR hq (hQ q hq).1 h20 (fun r hr => (hQ r hr).2)) hf (by omega)
