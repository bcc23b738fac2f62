/-- a row that nobody reads -/
def s28 (a : bpM) (z : Nat → Int32) : bpM := fun k j => if k = 28 then z j else a k j
theorem s28_s (a : bpM) (z : Nat → Int32) {s : Nat} (hs : s ≠ 28) : s28 a z s = a s := by
  funext j
  simp only [s28]
  rw [if_neg hs]
theorem s28_28 (a : bpM) (z : Nat → Int32) (c : Nat) (v : Int32) : upM (s28 a z) 28 c v = s28 a (upd z c v) := by
  funext k j
  simp only [upM, s28, upd]
  by_cases hk : k = 28
  · subst hk
    by_cases hj : j = c
    · subst hj; simp
    · simp [hj]
  · rw [if_neg (fun q => hk q.1), if_neg hk, if_neg hk]
theorem s28_up (a : bpM) (z : Nat → Int32) {k : Nat} (hk : k ≠ 28) (j : Nat) (v : Int32) : upM (s28 a z) k j v = s28 (upM a k j v) z := by
  funext x y
  simp only [upM, s28]
  by_cases hx : x = 28
  · rw [if_neg (fun q => hk (q.1.symm.trans hx)), if_pos hx, if_pos hx]
  · rw [if_neg hx, if_neg hx]
theorem s28_id (a : bpM) : s28 a (a 28) = a := by
  funext k j
  simp only [s28]
  by_cases hk : k = 28
  · rw [if_pos hk, hk]
  · rw [if_neg hk]
theorem s28_np (a : bpM) (z : Nat → Int32) : np (s28 a z) = np a := by unfold np; rw [s28_s a z (by decide)]
theorem s28_way (a : bpM) (z : Nat → Int32) (f : Nat) : way (s28 a z) f = way a f :=
  way_cg (s28_np a z) (s28_s a z (by decide)) (s28_s a z (by decide)) (s28_s a z (by decide)) (s28_s a z (by decide)) (s28_s a z (by decide)) (s28_s a z (by decide)) (by rw [s28_s a z (by decide)]) (by rw [s28_s a z (by decide)]) (by rw [s28_s a z (by decide)]) f
theorem s28_come (a : bpM) (z : Nat → Int32) (w : Option Nat) (f : Nat) (n : Int32) : (comeF (s28 a z) w f n).1 = s28 (comeF a w f n).1 z := by
  cases w with
  | none =>
    simp only [comeF, lostF]
    rw [s28_up _ _ (by decide), s28_s a z (by decide)]
  | some p =>
    simp only [comeF]
    rw [s28_s a z (s := 17) (by decide)]
    split
    · simp only [lostF]
      rw [s28_up _ _ (by decide), s28_s a z (by decide)]
    · simp only [layF, qm]
      rw [s28_s a z (s := 17) (by decide), s28_up _ _ (by decide), s28_up _ _ (by decide), s28_up _ _ (by decide)]
theorem s28_ansN (a : bpM) (z : Nat → Int32) (w : Option Nat) (f : Nat) (v : Nat → Int32) : ∀ k, ansN (s28 a z) w f v k = s28 (ansN a w f v k) z
  | 0 => rfl
  | k + 1 => by
    simp only [ansN]
    rw [s28_ansN a z w f v k, s28_come]
theorem s28_ans (a : bpM) (z : Nat → Int32) (f : Nat) : answerF (s28 a z) f = s28 (answerF a f) z := by
  unfold answerF ansB hm
  rw [s28_way, s28_s a z (s := 20) (by decide), s28_s a z (s := 21) (by decide), s28_s a z (s := 27) (by decide), s28_up _ _ (by decide), s28_up _ _ (by decide), s28_up _ _ (by decide), s28_up _ _ (by decide), s28_ansN]
theorem s28_Bas {a : bpM} {z : Nat → Int32} (h : Bas a) : Bas (s28 a z) := Bas_cg (s28_s a z (by decide)) (s28_s a z (by decide)) h
theorem s28_QB {a : bpM} {z : Nat → Int32} (h : QB a) : QB (s28 a z) := by
  intro q hq
  rw [s28_np] at hq
  unfold qm
  rw [s28_s a z (by decide)]
  exact h q hq
theorem s28_hm (a : bpM) (z : Nat → Int32) (f : Nat) : hm (s28 a z) f = hm a f := by unfold hm; rw [s28_s a z (by decide)]
def mkB (a : bpM) (p j : Nat) : Bool := !decide (0 < a 16 (24 * p + j))
/-- MARKERS one by one -/
def anK (b : bpM) (g : Nat → Nat) : Nat → bpM
  | 0 => b
  | k + 1 => answerF (anK b g k) (g k)
theorem anK_eq {a b : bpM} {p m : Nat} {z : Nat → Int32} (hz : ∀ i, i < m → mkB a p i = true → z (ctN (mkB a p) i) = a 15 (24 * p + i)) : ∀ j, j ≤ m → anMN a b p j = anK b (fun k => (z k).toNatClampNeg) (ctN (mkB a p) j)
  | 0, _ => rfl
  | j + 1, hj => by
    have ih := anK_eq (b := b) hz j (by omega)
    simp only [anMN]
    by_cases h : 0 < a 16 (24 * p + j)
    · rw [if_pos h, ctN_f (by simp [mkB, h])]
      exact ih
    · rw [if_neg h, ctN_t (by simp [mkB, h]), ih]
      simp only [anK]
      rw [hz j (by omega) (by simp [mkB, h])]
      rfl
set_option maxRecDepth 100000 in
set_option maxHeartbeats 4000000 in
theorem m_empty {G : bpG} {C : bpC} {M : bpM} {hl : Int64} {k p : Nat} (hq : ∀ q, q < np M → q ≠ p → IQp M q) (hE : IQe M p) (hF : IF M k) (hP : IP M) (hp : p < np M) (hh : ¬ 0 < M 6 p) : Ct G yX5_empty cX5_empty 4 none rmX5_empty [.ref (G.1 11 0), .int (nI p)] C M hl (qM C hl (fun M' => ∃ z, M' = s28 (emptyF M p) z)) := by
  refine ct_of [some (.ref (G.1 11 0)), some (.int (nI p)), none, none] (by decide +kernel) rfl rfl (Nat.le_of_ble_eq_true rfl) ?_
  intro κ X Z
  have hn6 := hP.1.2.1
  have hp6 : p < 6 := by omega
  have h20 := hE.le
  have hcm := ctN_le (mkB M p) (qm M p)
  have loop2 : ∀ (z : Nat → Int32), (∀ i, i < qm M p → mkB M p i = true → z (ctN (mkB M p) i) = M 15 (24 * p + i)) → ∀ n k : Nat, k + n = ctN (mkB M p) (qm M p) → Rn G κ 79 [some (.ref (G.1 11 0)), some (.int (nI p)), some (.int (nI (ctN (mkB M p) (qm M p)))), some (.int (nI k))] [] C (s28 (anK (upM (losN M p (qm M p)) 17 p 0) (fun k => (z k).toNatClampNeg) k) z) hl := by
    intro z hz n
    induction n with
    | zero =>
      intro k hk
      have hk : k = ctN (mkB M p) (qm M p) := by omega
      subst hk
      refine r_iload_n X dX5_empty_79 rfl ?_
      refine r_iload_n X dX5_empty_80 rfl ?_
      refine r_icmpge 100 X dX5_empty_81 (by decide) (fun c81 => ?_) (fun c81 => absurd (Int32.le_refl _) c81)
      show Rn G κ 100 _ _ _ _ _
      refine r_vret X Z dX5_empty_100 ?_
      refine ⟨rfl, rfl, rfl, z, ?_⟩
      unfold emptyF
      rw [anK_eq hz _ (Nat.le_refl _)]
    | succ n ih =>
      intro k hk
      obtain ⟨j, -, hj, hmj, hcj, -⟩ := kth_ex (P := mkB M p) (t := k) (n := qm M p) (by omega)
      have hJ := Jm_all hE hp hh (Jm_0 hq hE hF hP) j (by omega)
      rw [anK_eq hz j (by omega), hcj] at hJ
      have hfl := hE.fl hj
      have ez : z k = nI (flN M p j) := by rw [← hcj, hz j hj hmj]; exact hfl.2
      have eg : (z k).toNatClampNeg = flN M p j := by rw [ez]; exact nIc (by omega)
      have hk24 : k < 24 := by omega
      have hzz : s28 (anK (upM (losN M p (qm M p)) 17 p 0) (fun k => (z k).toNatClampNeg) k) z 28 k = z k := by simp [s28]
      refine r_iload_n X dX5_empty_79 rfl ?_
      refine r_iload_n X dX5_empty_80 rfl ?_
      refine r_icmpge 100 X dX5_empty_81 (by decide) (fun c81 => absurd c81 (by simp only [i_lt, i_le, i_eq, i_m1, i_0, i_1, i_2, i_3, i_4, i_5, i_6, i_7, i_8, i_9, i_10, i_11, i_12, i_17, i_20, i_24, i_32, i_44, i_48, i_50, i_51, i_52, i_57, i_58, i_100, i_126, i_n (show k < 2 ^ 31 by omega), i_n (show ctN (mkB M p) (qm M p) < 2 ^ 31 by omega)]; omega)) (fun c81 => ?_)
      show Rn G κ 84 _ _ _ _ _
      refine r_aload_n X dX5_empty_84 rfl ?_
      refine r_aload_n X dX5_empty_85 rfl ?_
      refine r_gam 28 X wfl_X5_78 dX5_empty_86 (by decide) rfl ?_
      refine r_iload_n X dX5_empty_89 rfl ?_
      show Rn G κ 90 _ _ _ _ _
      refine r_iaM _ X rfl (by assumption) dX5_empty_90 (by decide) rfl rfl rfl ?_
      refine r_top (hzz.trans ez) ?_
      refine r_cv1_M X mdX5_answer wml_X5_183 dX5_empty_91 ⟨rfl, rfl, Nat.le_of_ble_eq_true rfl, Nat.le_of_ble_eq_true rfl⟩ (by decide) rfl rfl (Nat.le_of_ble_eq_true rfl) rfl (zroom Z) (m_answer (f := flN M p j) (s28_Bas hJ.2.2.1.1) (s28_QB hJ.1.qb) (by rw [s28_hm, s28_s _ _ (by decide)]; exact (hJ.2.1 _ hfl.1).2.2.1) (by rw [s28_hm]; exact (hJ.2.1 _ hfl.1).2.2.2.1) hfl.1) (fun M2 e2 => ?_)
      show Rn G κ 94 _ _ _ _ _
      refine r_iinc_3 (nI (k + 1)) X dX5_empty_94 (nI_1 k) rfl ?_
      refine r_goto 79 X dX5_empty_97 (by decide) ?_
      rw [s28_ans] at e2
      subst e2
      have := ih (k + 1) (by omega)
      simp only [anK] at this
      rw [eg] at this
      exact this
  have loop1 : ∀ (n j : Nat) (z : Nat → Int32), j + n = qm M p → (∀ i, i < j → mkB M p i = true → z (ctN (mkB M p) i) = M 15 (24 * p + i)) → Rn G κ 7 [some (.ref (G.1 11 0)), some (.int (nI p)), some (.int (nI (ctN (mkB M p) j))), some (.int (nI (24 * p + j)))] [] C (s28 (losN M p j) z) hl := by
    intro n
    induction n with
    | zero =>
      intro j z hj hz
      have hj : j = qm M p := by omega
      subst hj
      have hend : (24 : Int32) * nI p + s28 (losN M p (qm M p)) z 17 p = nI (24 * p + qm M p) := by rw [s28_s _ _ (by decide), losN_s _ _ (by decide), hE.1, ← nI_add, ← pk_mul]; rfl
      refine r_iload_n X dX5_empty_7 rfl ?_
      refine r_bipush (24) X dX5_empty_8 (by decide) ?_
      refine r_iload_n X dX5_empty_10 rfl ?_
      refine r_imul X dX5_empty_11 ?_
      refine r_aload_n X dX5_empty_12 rfl ?_
      refine r_gam 17 X wfl_X5_51 dX5_empty_13 (by decide) rfl ?_
      refine r_iload_n X dX5_empty_16 rfl ?_
      show Rn G κ 17 _ _ _ _ _
      refine r_iaM _ X rfl (by assumption) dX5_empty_17 (by decide) rfl rfl rfl ?_
      refine r_iadd X dX5_empty_18 ?_
      refine r_top hend ?_
      refine r_icmpge 70 X dX5_empty_19 (by decide) (fun c19 => ?_) (fun c19 => absurd (Int32.le_refl _) c19)
      show Rn G κ 70 _ _ _ _ _
      refine r_aload_n X dX5_empty_70 rfl ?_
      refine r_gam 17 X wfl_X5_51 dX5_empty_71 (by decide) rfl ?_
      refine r_iload_n X dX5_empty_74 rfl ?_
      refine r_iconst (0) X dX5_empty_75 (by decide) ?_
      refine r_isM _ X rfl (by assumption) dX5_empty_76 (by decide) rfl rfl rfl ?_
      rw [s28_up _ _ (by decide)]
      show Rn G κ 77 _ _ _ _ _
      refine r_iconst (0) X dX5_empty_77 (by decide) ?_
      refine r_istore_3 X dX5_empty_78 rfl ?_
      exact loop2 z hz (ctN (mkB M p) (qm M p)) 0 (by omega)
    | succ n ih =>
      intro j z hj hz
      have hjq : j < qm M p := by omega
      have hcj := ctN_le (mkB M p) j
      have hfl := hE.fl hjq
      have hfl12 := hfl.1
      have hix : 24 * p + j < 144 := by omega
      have hc24 : ctN (mkB M p) j < 24 := by omega
      have hend : (24 : Int32) * nI p + (s28 (losN M p j) z) 17 p = nI (24 * p + qm M p) := by rw [s28_s _ _ (by decide), losN_s _ _ (by decide), hE.1, ← nI_add, ← pk_mul]; rfl
      have e16 : (s28 (losN M p j) z) 16 (24 * p + j) = M 16 (24 * p + j) := by rw [s28_s _ _ (by decide), losN_s _ _ (by decide)]
      have e15 : (s28 (losN M p j) z) 15 (24 * p + j) = nI (flN M p j) := by rw [s28_s _ _ (by decide), losN_s _ _ (by decide)]; exact hfl.2
      have e24 : (s28 (losN M p j) z) 24 (flN M p j) = losN M p j 24 (flN M p j) := by rw [s28_s _ _ (by decide)]
      refine r_iload_n X dX5_empty_7 rfl ?_
      refine r_bipush (24) X dX5_empty_8 (by decide) ?_
      refine r_iload_n X dX5_empty_10 rfl ?_
      refine r_imul X dX5_empty_11 ?_
      refine r_aload_n X dX5_empty_12 rfl ?_
      refine r_gam 17 X wfl_X5_51 dX5_empty_13 (by decide) rfl ?_
      refine r_iload_n X dX5_empty_16 rfl ?_
      show Rn G κ 17 _ _ _ _ _
      refine r_iaM _ X rfl (by assumption) dX5_empty_17 (by decide) rfl rfl rfl ?_
      refine r_iadd X dX5_empty_18 ?_
      refine r_top hend ?_
      refine r_icmpge 70 X dX5_empty_19 (by decide) (fun c19 => absurd c19 (by simp only [i_lt, i_le, i_eq, i_m1, i_0, i_1, i_2, i_3, i_4, i_5, i_6, i_7, i_8, i_9, i_10, i_11, i_12, i_17, i_20, i_24, i_32, i_44, i_48, i_50, i_51, i_52, i_57, i_58, i_100, i_126, i_n (show 24 * p + qm M p < 2 ^ 31 by omega), i_n (show 24 * p + j < 2 ^ 31 by omega)]; omega)) (fun c19 => ?_)
      show Rn G κ 22 _ _ _ _ _
      refine r_aload_n X dX5_empty_22 rfl ?_
      refine r_gam 16 X wfl_X5_48 dX5_empty_23 (by decide) rfl ?_
      refine r_iload_n X dX5_empty_26 rfl ?_
      refine r_iaM _ X rfl (by assumption) dX5_empty_27 (by decide) rfl rfl rfl ?_
      refine r_top e16 ?_
      refine r_ifle 49 X dX5_empty_28 (by decide) (fun c28 => ?_) (fun c28 => ?_)
      · show Rn G κ 49 _ _ _ _ _
        refine r_aload_n X dX5_empty_49 rfl ?_
        refine r_gam 28 X wfl_X5_78 dX5_empty_50 (by decide) rfl ?_
        refine r_iload_n X dX5_empty_53 rfl ?_
        refine r_aload_n X dX5_empty_54 rfl ?_
        refine r_gam 15 X wfl_X5_45 dX5_empty_55 (by decide) rfl ?_
        refine r_iload_n X dX5_empty_58 rfl ?_
        refine r_iaM _ X rfl (by assumption) dX5_empty_59 (by decide) rfl rfl rfl ?_
        refine r_top e15 ?_
        show Rn G κ 60 _ _ _ _ _
        refine r_isM _ X rfl (by assumption) dX5_empty_60 (by decide) rfl rfl rfl ?_
        refine r_iinc_2 (nI (ctN (mkB M p) j + 1)) X dX5_empty_61 (nI_1 _) rfl ?_
        refine r_iinc_3 (nI (24 * p + (j + 1))) X dX5_empty_64 (nI_1 (24 * p + j)) rfl ?_
        refine r_goto 7 X dX5_empty_67 (by decide) ?_
        have hpos : ¬ 0 < M 16 (24 * p + j) := by rw [i_le, i_0] at c28; rw [i_lt, i_0]; omega
        have hmk : mkB M p j = true := by simp [mkB, hpos]
        rw [s28_28]
        have := ih (j + 1) (upd z (ctN (mkB M p) j) (nI (flN M p j))) (by omega) (fun i hi hm => by
          by_cases e : i = j
          · subst e
            rw [pk_us]
            exact hfl.2.symm
          · have hne : ctN (mkB M p) i ≠ ctN (mkB M p) j := by
              intro h
              have mono : ∀ d, ctN (mkB M p) (i + 1) ≤ ctN (mkB M p) (i + 1 + d) := by
                intro d
                induction d with
                | zero => exact Nat.le_refl _
                | succ d ihd =>
                  rw [← Nat.add_assoc]
                  simp only [ctN] at ihd ⊢
                  omega
              have h1 := mono (j - (i + 1))
              rw [show i + 1 + (j - (i + 1)) = j by omega, ctN_t hm] at h1
              omega
            rw [pk_un hne]
            exact hz i (by omega) hm)
        simp only [losN] at this
        rw [if_neg hpos, ctN_t hmk] at this
        exact this
      · show Rn G κ 31 _ _ _ _ _
        refine r_aload_n X dX5_empty_31 rfl ?_
        refine r_gam 24 X wfl_X5_72 dX5_empty_32 (by decide) rfl ?_
        refine r_aload_n X dX5_empty_35 rfl ?_
        refine r_gam 15 X wfl_X5_45 dX5_empty_36 (by decide) rfl ?_
        refine r_iload_n X dX5_empty_39 rfl ?_
        refine r_iaM _ X rfl (by assumption) dX5_empty_40 (by decide) rfl rfl rfl ?_
        refine r_top e15 ?_
        refine r_dup2 X dX5_empty_41 rfl rfl ?_
        show Rn G κ 42 _ _ _ _ _
        refine r_iaM _ X rfl (by assumption) dX5_empty_42 (by decide) rfl rfl rfl ?_
        refine r_iconst (1) X dX5_empty_43 (by decide) ?_
        refine r_iadd X dX5_empty_44 ?_
        refine r_isM _ X rfl (by assumption) dX5_empty_45 (by decide) rfl rfl rfl ?_
        refine r_goto 64 X dX5_empty_46 (by decide) ?_
        refine r_iinc_3 (nI (24 * p + (j + 1))) X dX5_empty_64 (nI_1 (24 * p + j)) rfl ?_
        refine r_goto 7 X dX5_empty_67 (by decide) ?_
        have hpos : 0 < M 16 (24 * p + j) := by rw [i_le, i_0] at c28; rw [i_lt, i_0]; omega
        rw [s28_up _ _ (by decide), e24]
        have := ih (j + 1) z (by omega) (fun i hi hm => hz i (by
          have : i ≠ j := fun e => by rw [e] at hm; simp [mkB, hpos] at hm
          omega) hm)
        simp only [losN] at this
        rw [if_pos hpos, ctN_f (by simp [mkB, hpos])] at this
        exact this
  refine r_iconst (0) X dX5_empty_0 (by decide) ?_
  refine r_istore_2 X dX5_empty_1 rfl ?_
  refine r_bipush (24) X dX5_empty_2 (by decide) ?_
  refine r_iload_n X dX5_empty_4 rfl ?_
  refine r_imul X dX5_empty_5 ?_
  refine r_top (show (24 : Int32) * nI p = nI (24 * p) from pk_mul 24 p) ?_
  refine r_istore_3 X dX5_empty_6 rfl ?_
  have h0 := loop1 (qm M p) 0 (M 28) (by omega) (fun i hi => absurd hi (Nat.not_lt_zero _))
  simp only [losN] at h0
  rw [s28_id] at h0
  exact h0
set_option maxRecDepth 100000 in
set_option maxHeartbeats 4000000 in
theorem m_up {G : bpG} {C : bpC} {M : bpM} {hl : Int64} {k : Nat} {x b : Int32} (hb : b = 0 ∨ b = 1) (hI : Inv M k) : Ct G yX5_up cX5_up 4 (some .int) rmX5_up [.ref (G.1 11 0), .int x, .int b] C M hl (qMi C hl (fun M' r => (∃ z, M' = s28 (upS M x b).1 z) ∧ r = (upS M x b).2)) := by
  refine ct_of [some (.ref (G.1 11 0)), some (.int x), some (.int b), none] (by decide +kernel) rfl rfl (Nat.le_of_ble_eq_true rfl) ?_
  intro κ X Z
  refine r_aload_n X dX5_up_0 rfl ?_
  refine r_iload_n X dX5_up_1 rfl ?_
  refine r_cv1_I X mdX5_isPort wml_X5_141 dX5_up_2 ⟨rfl, rfl, Nat.le_of_ble_eq_true rfl, Nat.le_of_ble_eq_true rfl⟩ (by decide) rfl rfl (Nat.le_of_ble_eq_true rfl) rfl (zroom Z) (m_isPort hI.2.2.1.1) ?_
  show Rn G κ 5 _ _ _ _ _
  refine r_ifne 12 X dX5_up_5 (by decide) (fun c5 => ?_) (fun c5 => ?_)
  · have hx := bI_1 c5
    obtain ⟨p, hp, rfl⟩ := isP_of hI.2.2.1.1 hx
    have hp6 : p < 6 := by have := hI.2.2.1.1.2.1; omega
    show Rn G κ 12 _ _ _ _ _
    refine r_aload_n X dX5_up_12 rfl ?_
    refine r_gam 5 X wfl_X5_19 dX5_up_13 (by decide) rfl ?_
    refine r_iload_n X dX5_up_16 rfl ?_
    refine r_zaM _ X rfl (by assumption) dX5_up_17 (by decide) rfl rfl rfl ?_
    refine r_ifeq 25 X dX5_up_18 (by decide) (fun c18 => ?_) (fun c18 => ?_)
    · show Rn G κ 25 _ _ _ _ _
      refine r_iconst (0) X dX5_up_25 (by decide) ?_
      refine r_istore_3 X dX5_up_26 rfl ?_
      refine r_aload_n X dX5_up_27 rfl ?_
      refine r_gam 5 X wfl_X5_19 dX5_up_28 (by decide) rfl ?_
      refine r_iload_n X dX5_up_31 rfl ?_
      refine r_iload_n X dX5_up_32 rfl ?_
      refine r_zsM _ X hb rfl (by assumption) dX5_up_33 (by decide) rfl rfl rfl ?_
      show Rn G κ 34 _ _ _ _ _
      refine r_iload_n X dX5_up_34 rfl ?_
      refine r_iconst (1) X dX5_up_35 (by decide) ?_
      refine r_icmpne 57 X dX5_up_36 (by decide) (fun c36 => ?_) (fun c36 => absurd c36 (by decide))
      show Rn G κ 57 _ _ _ _ _
      refine r_iload_n X dX5_up_57 rfl ?_
      refine r_iret X Z dX5_up_58 ?_
      have h5 : M 5 p = 0 := c18
      have e : upS M (nI p) b = (upM M 5 p b, M 5 p) := by unfold upS; rw [if_pos hx, nIc (by omega), if_neg (fun z => by rw [h5] at z; exact absurd z.1 (by decide))]
      rw [e]
      exact ⟨rfl, rfl, _, rfl, ⟨_, (s28_id _).symm⟩, h5.symm⟩
    · show Rn G κ 21 _ _ _ _ _
      refine r_iconst (1) X dX5_up_21 (by decide) ?_
      refine r_goto 26 X dX5_up_22 (by decide) ?_
      refine r_istore_3 X dX5_up_26 rfl ?_
      refine r_aload_n X dX5_up_27 rfl ?_
      refine r_gam 5 X wfl_X5_19 dX5_up_28 (by decide) rfl ?_
      refine r_iload_n X dX5_up_31 rfl ?_
      refine r_iload_n X dX5_up_32 rfl ?_
      show Rn G κ 33 _ _ _ _ _
      refine r_zsM _ X hb rfl (by assumption) dX5_up_33 (by decide) rfl rfl rfl ?_
      refine r_iload_n X dX5_up_34 rfl ?_
      refine r_iconst (1) X dX5_up_35 (by decide) ?_
      refine r_icmpne 57 X dX5_up_36 (by decide) (fun c36 => absurd rfl c36) (fun c36 => ?_)
      show Rn G κ 39 _ _ _ _ _
      refine r_iload_n X dX5_up_39 rfl ?_
      refine r_ifne 57 X dX5_up_40 (by decide) (fun c40 => ?_) (fun c40 => ?_)
      · show Rn G κ 57 _ _ _ _ _
        refine r_iload_n X dX5_up_57 rfl ?_
        refine r_iret X Z dX5_up_58 ?_
        have h5 : M 5 p = 1 := (hI.2.2.1.2 p hp).2.1.resolve_left c18
        have e : upS M (nI p) b = (upM M 5 p b, M 5 p) := by unfold upS; rw [if_pos hx, nIc (by omega), if_neg (fun z => c40 z.2)]
        rw [e]
        exact ⟨rfl, rfl, _, rfl, ⟨_, (s28_id _).symm⟩, h5.symm⟩
      · show Rn G κ 43 _ _ _ _ _
        obtain ⟨d1, d2, d3, d4, d5, d6⟩ := down_pre hI hp
        refine r_aload_n X dX5_up_43 rfl ?_
        refine r_iload_n X dX5_up_44 rfl ?_
        refine r_cv1_M X mdX5_forget wml_X5_108 dX5_up_45 ⟨rfl, rfl, Nat.le_of_ble_eq_true rfl, Nat.le_of_ble_eq_true rfl⟩ (by decide) rfl rfl (Nat.le_of_ble_eq_true rfl) rfl (zroom Z) (m_forget hp6) (fun M2 e2 => ?_)
        subst e2
        rw [c40]
        show Rn G κ 48 _ _ _ _ _
        refine r_aload_n X dX5_up_48 rfl ?_
        refine r_cv0_M X mdX5_settle wml_X5_138 dX5_up_49 ⟨rfl, rfl, Nat.le_of_ble_eq_true rfl, Nat.le_of_ble_eq_true rfl⟩ (by decide) rfl rfl (Nat.le_of_ble_eq_true rfl) rfl (zroom Z) (m_settle (Bas_cg (by rw [forg_s _ _ (by omega), upM_other _ _ _ _ (by omega)]) (by rw [forg_s _ _ (by omega), upM_other _ _ _ _ (by omega)]) hI.2.2.1.1)) (fun M3 e3 => ?_)
        subst e3
        show Rn G κ 52 _ _ _ _ _
        refine r_aload_n X dX5_up_52 rfl ?_
        refine r_iload_n X dX5_up_53 rfl ?_
        show Rn G κ 54 _ _ _ _ _
        refine r_cv1_M X mdX5_empty wml_X5_144 dX5_up_54 ⟨rfl, rfl, Nat.le_of_ble_eq_true rfl, Nat.le_of_ble_eq_true rfl⟩ (by decide) rfl rfl (Nat.le_of_ble_eq_true rfl) rfl (zroom Z) (m_empty (k := k) d1 d2 d3 d4 (by rw [d5]; exact hp) d6) (fun M4 ez => ?_)
        show Rn G κ 57 _ _ _ _ _
        refine r_iload_n X dX5_up_57 rfl ?_
        refine r_iret X Z dX5_up_58 ?_
        have h5 : M 5 p = 1 := (hI.2.2.1.2 p hp).2.1.resolve_left c18
        have e : upS M (nI p) b = (downF M p, M 5 p) := by unfold upS; rw [if_pos hx, nIc (by omega), if_pos ⟨h5, c40⟩]
        rw [e]
        exact ⟨rfl, rfl, _, rfl, ez, h5.symm⟩
  · show Rn G κ 8 _ _ _ _ _
    refine r_sipush (-1001) X dX5_up_8 (by decide) ?_
    refine r_iret X Z dX5_up_11 ?_
    have e : upS M x b = (M, -1001) := by unfold upS; rw [if_neg (by rw [bI_0 c5]; decide)]
    rw [e]
    exact ⟨rfl, rfl, _, rfl, ⟨_, (s28_id _).symm⟩, rfl⟩
