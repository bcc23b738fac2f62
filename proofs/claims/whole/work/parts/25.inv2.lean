/-! the invariant under the larger calls -/
theorem IQp_cg2 {a b : bpM} {q : Nat} (h17 : b 17 q = a 17 q) (h5 : b 5 q = a 5 q) (h15 : b 15 = a 15) (h16 : b 16 = a 16) (h18 : b 18 = a 18) (h19 : b 19 = a 19) (h : IQp a q) : IQp b q := by
  unfold IQp mvc qm at h ⊢
  rw [h17, h5, h15, h16, h18, h19]
  exact h
theorem anM_s (a b : bpM) (p : Nat) {s : Nat} (hs : s ≠ 15 ∧ s ≠ 16 ∧ s ≠ 17 ∧ s ≠ 18 ∧ s ≠ 19 ∧ s ≠ 20 ∧ s ≠ 24 ∧ s ≠ 27) : ∀ j, anMN a b p j s = b s
  | 0 => rfl
  | j + 1 => by
    simp only [anMN]
    split
    · exact anM_s a b p hs j
    · rw [ans_s _ _ hs, anM_s a b p hs j]
theorem emp_s (a : bpM) (p : Nat) {s : Nat} (hs : s ≠ 15 ∧ s ≠ 16 ∧ s ≠ 17 ∧ s ≠ 18 ∧ s ≠ 19 ∧ s ≠ 20 ∧ s ≠ 24 ∧ s ≠ 27) : emptyF a p s = a s := by
  unfold emptyF
  rw [anM_s _ _ _ hs, upM_other _ _ _ _ (by omega), losN_s _ _ (by omega)]
theorem forg_s (a : bpM) (p : Nat) {s : Nat} (hs : s < 6 ∨ 9 < s) : forgF a p s = a s := by
  unfold forgF
  rw [upM_other _ _ _ _ (by omega), upM_other _ _ _ _ (by omega), upM_other _ _ _ _ (by omega), upM_other _ _ _ _ (by omega)]
theorem forg_o (a : bpM) {p q : Nat} (h : q ≠ p) (s : Nat) : forgF a p s q = a s q := by
  unfold forgF
  rw [upM_ne _ _ _ _ (by omega), upM_ne _ _ _ _ (by omega), upM_ne _ _ _ _ (by omega), upM_ne _ _ _ _ (by omega)]
theorem forg_p (a : bpM) {p s : Nat} (h : 6 ≤ s ∧ s ≤ 9) : forgF a p s p = 0 := by
  unfold forgF
  rcases (show s = 6 ∨ s = 7 ∨ s = 8 ∨ s = 9 by omega) with rfl | rfl | rfl | rfl <;> simp [upM]
theorem Inv_up {a : bpM} {k : Nat} (x b : Int32) (hb : b = 0 ∨ b = 1) (h : Inv a k) : Inv (upS a x b).1 k := by
  obtain ⟨hQ, hF, hP, hU, hG⟩ := id h
  unfold upS
  by_cases hx : isP a x = true
  · rw [if_pos hx]
    obtain ⟨p, hp, rfl⟩ := isP_of hP.1 hx
    have hn6 := hP.1.2.1
    rw [nIc (by omega)]
    dsimp only
    by_cases hd : a 5 p = 1 ∧ b = 0
    · rw [if_pos hd]
      unfold downF
      have s0 : ∀ s, s < 3 ∨ 10 < s → settle (forgF (upM a 5 p 0) p) s = a s := fun s hs => by rw [settle_s _ (by omega), forg_s _ _ (by omega), upM_other _ _ _ _ (by omega)]
      have hn : np (settle (forgF (upM a 5 p 0) p)) = np a := by unfold np; rw [s0 2 (by omega)]
      have h5 : ∀ q, q ≠ p → settle (forgF (upM a 5 p 0) p) 5 q = a 5 q := fun q hq => by rw [settle_s _ (by omega), forg_s _ _ (by omega), upM_ne _ _ _ _ (by omega)]
      have hP2 : IP (settle (forgF (upM a 5 p 0) p)) := by
        refine IP_settle (Bas_cg (by rw [forg_s _ _ (by omega), upM_other _ _ _ _ (by omega)]) (by rw [forg_s _ _ (by omega), upM_other _ _ _ _ (by omega)]) hP.1) (fun q hq => ?_)
        have hq2 : q < np a := by
          have e : np (forgF (upM a 5 p 0) p) = np a := by unfold np; rw [forg_s _ _ (by omega), upM_other _ _ _ _ (by omega)]
          rw [e] at hq; exact hq
        obtain ⟨g1, g2, g3, g4, g5⟩ := (hP.2 q hq2).z
        unfold IPp0
        by_cases e : q = p
        · subst e
          rw [forg_p _ (s := 6) (by omega), forg_p _ (s := 8) (by omega), forg_p _ (s := 9) (by omega), forg_s _ _ (s := 3) (by omega), forg_s _ _ (s := 5) (by omega), upM_at, upM_ne _ _ _ _ (by omega)]
          exact ⟨g1, Or.inl rfl, Or.inl rfl, fun z => absurd z (by decide), 0, by omega, rfl⟩
        · rw [forg_o _ e, forg_o _ e, forg_o _ e, forg_o _ e, forg_o _ e, upM_ne _ _ _ _ (by omega), upM_ne _ _ _ _ (by omega), upM_ne _ _ _ _ (by omega), upM_ne _ _ _ _ (by omega), upM_ne _ _ _ _ (by omega)]
          exact ⟨g1, g2, g3, g4, g5⟩
      have hF2 : IF (settle (forgF (upM a 5 p 0) p)) k := IF_cg hn (s0 18 (by omega)) (s0 19 (by omega)) (s0 20 (by omega)) (s0 21 (by omega)) (s0 22 (by omega)) hF
      have h6 : settle (forgF (upM a 5 p 0) p) 6 p = 0 := by rw [settle_s _ (by omega), forg_p _ (by omega)]
      obtain ⟨r1, r2, r3⟩ := I_empty (p := p) (fun q hq hne => IQp_cg2 (by rw [s0 17 (by omega)]) (h5 q hne) (s0 15 (by omega)) (s0 16 (by omega)) (s0 18 (by omega)) (s0 19 (by omega)) (hQ q (by rw [hn] at hq; exact hq))) (IQe_cg (s0 15 (by omega)) (s0 16 (by omega)) (s0 17 (by omega)) (s0 18 (by omega)) (s0 19 (by omega)) (hQ p hp).e) hF2 hP2 (by rw [hn]; exact hp) (by rw [h6]; decide)
      refine ⟨r1, r2, r3, ?_, IG_cg (by rw [emp_s _ _ (by omega), s0 0 (by omega)]) hG⟩
      refine IU_cg (emp_s _ _ (by omega)) (emp_s _ _ (by omega)) (emp_s _ _ (by omega)) (emp_s _ _ (by omega)) (emp_s _ _ (by omega)) ?_
      intro q hq hz
      rw [hn] at hq
      rw [settle_s _ (by omega), settle_s _ (by omega), settle_s _ (by omega), settle_s _ (by omega)] at *
      by_cases e : q = p
      · subst e
        exact ⟨forg_p _ (by omega), forg_p _ (by omega), forg_p _ (by omega), forg_p _ (by omega)⟩
      · rw [forg_o _ e, upM_ne _ _ _ _ (by omega)] at hz
        rw [forg_o _ e, forg_o _ e, forg_o _ e, forg_o _ e, upM_ne _ _ _ _ (by omega), upM_ne _ _ _ _ (by omega), upM_ne _ _ _ _ (by omega), upM_ne _ _ _ _ (by omega)]
        exact hU q hq hz
    · rw [if_neg hd]
      rcases hb with rfl | rfl
      · have h0 : a 5 p = 0 := by
          rcases (hP.2 p hp).2.1 with z | z
          · exact z
          · exact absurd ⟨z, rfl⟩ hd
        have : upM a 5 p 0 = a := by
          funext s j
          simp only [upM]
          by_cases e : s = 5 ∧ j = p
          · rw [if_pos e, e.1, e.2, h0]
          · rw [if_neg e]
        rw [this]
        exact h
      · have hs : ∀ s, s ≠ 5 → upM a 5 p 1 s = a s := fun s hs => upM_other _ _ _ _ hs
        have hn : np (upM a 5 p 1) = np a := np_up (by omega)
        have h5 : ∀ q, a 5 q = 1 → upM a 5 p 1 5 q = 1 := fun q hq => by
          simp only [upM]
          split
          · rfl
          · exact hq
        refine ⟨fun q hq => ?_, IF_cg hn (hs 18 (by omega)) (hs 19 (by omega)) (hs 20 (by omega)) (hs 21 (by omega)) (hs 22 (by omega)) hF, ⟨Bas_M (by omega) hP.1, fun q hq => ?_⟩, IU_cg (hs 2 (by omega)) (hs 6 (by omega)) (hs 7 (by omega)) (hs 8 (by omega)) (hs 9 (by omega)) hU, IG_cg (hs 0 (by omega)) hG⟩
        · rw [hn] at hq
          refine (IQe_cg (hs 15 (by omega)) (hs 16 (by omega)) (hs 17 (by omega)) (hs 18 (by omega)) (hs 19 (by omega)) (hQ q hq).e).p (fun z => h5 q ((hQ q hq).2.2.1 ?_))
          rw [qm_up (by omega)] at z
          exact z
        · rw [hn] at hq
          obtain ⟨g1, g2, g3, g4, g5, g6⟩ := hP.2 q hq
          unfold IPp
          rw [choi_up (by omega), hs 3 (by omega), hs 6 (by omega), hs 8 (by omega), hs 9 (by omega), hs 10 (by omega)]
          refine ⟨g1, ?_, g3, fun z => h5 q (g4 z), g5, g6⟩
          simp only [upM]
          split
          · exact Or.inr rfl
          · exact g2
  · rw [if_neg hx]
    exact h
theorem hear_s (a : bpM) (p : Nat) (y q r : Int32) {s : Nat} (hs : s < 6 ∨ 10 < s) : hearF a p y q r s = a s := by
  unfold hearF
  rw [settle_s _ (by omega), upM_other _ _ _ _ (by omega), upM_other _ _ _ _ (by omega), upM_other _ _ _ _ (by omega), upM_other _ _ _ _ (by omega)]
theorem Inv_hear {a : bpM} {k : Nat} (x y q r : Int32) (hr : r = 0 ∨ r = 1) (h : Inv a k) : Inv (hearS a x y q r).1 k := by
  obtain ⟨hQ, hF, hP, hU, hG⟩ := id h
  unfold hearS
  by_cases hx : isP a x = true
  · rw [if_pos hx]
    obtain ⟨p, hp, rfl⟩ := isP_of hP.1 hx
    have hn6 := hP.1.2.1
    rw [nIc (by omega)]
    split
    · rename_i hy
      split
      · exact h
      · rename_i h5
        dsimp only
        have hup : a 5 p = 1 := by
          rcases (hP.2 p hp).2.1 with z | z
          · exact absurd z h5
          · exact z
        have hy0 : 0 < y := by have := hy.1; rw [i_le, i_1] at this; rw [i_lt, i_0]; omega
        have e2 : ∀ s, s < 6 ∨ 9 < s → upM (upM (upM (upM a 6 p y) 7 p q) 8 p r) 9 p 0 s = a s := fun s hs => by rw [upM_other _ _ _ _ (by omega), upM_other _ _ _ _ (by omega), upM_other _ _ _ _ (by omega), upM_other _ _ _ _ (by omega)]
        have eo : ∀ s j, j ≠ p → upM (upM (upM (upM a 6 p y) 7 p q) 8 p r) 9 p 0 s j = a s j := fun s j hj => by rw [upM_ne _ _ _ _ (by omega), upM_ne _ _ _ _ (by omega), upM_ne _ _ _ _ (by omega), upM_ne _ _ _ _ (by omega)]
        have k6 : upM (upM (upM (upM a 6 p y) 7 p q) 8 p r) 9 p 0 6 p = y := by simp [upM]
        have k8 : upM (upM (upM (upM a 6 p y) 7 p q) 8 p r) 9 p 0 8 p = r := by simp [upM]
        have k9 : upM (upM (upM (upM a 6 p y) 7 p q) 8 p r) 9 p 0 9 p = 0 := by simp [upM]
        have hnn : np (upM (upM (upM (upM a 6 p y) 7 p q) 8 p r) 9 p 0) = np a := by unfold np; rw [e2 2 (by omega)]
        refine Inv_ports (fun s hs => hear_s a p y q r (by omega)) (hear_s a p y q r (by omega)) (IP_settle (Bas_cg (e2 2 (by omega)) (e2 13 (by omega)) hP.1) (fun j hj => ?_)) (IU_settle (fun j hj hz => ?_)) h
        · rw [hnn] at hj
          obtain ⟨g1, g2, g3, g4, g5⟩ := (hP.2 j hj).z
          unfold IPp0
          by_cases e : j = p
          · subst e
            rw [k6, k8, k9, e2 3 (by omega), e2 5 (by omega)]
            exact ⟨g1, g2, hr, fun _ => hup, 0, by omega, rfl⟩
          · rw [eo _ _ e, eo _ _ e, eo _ _ e, eo _ _ e, eo _ _ e]
            exact ⟨g1, g2, g3, g4, g5⟩
        · rw [hnn] at hj
          by_cases e : j = p
          · subst e
            rw [k6] at hz
            exact absurd hy0 hz
          · rw [eo _ _ e] at hz
            rw [eo _ _ e, eo _ _ e, eo _ _ e, eo _ _ e]
            exact hU j hj hz
    · exact h
  · rw [if_neg hx]
    exact h
theorem fsN_all {P : Nat → Bool} : ∀ {n i : Nat}, fsN P i n = i + n → ∀ j, i ≤ j → j < i + n → P j = true
  | 0, i, _, j, h1, h2 => by omega
  | n + 1, i, h, j, h1, h2 => by
    simp only [fsN] at h
    by_cases hP : P i = true
    · rw [if_pos hP] at h
      by_cases e : j = i
      · rw [e]; exact hP
      · exact fsN_all (n := n) (i := i + 1) (by omega) j (by omega) (by omega)
    · rw [if_neg hP] at h
      omega
theorem bd_s (a : bpM) (n : Nat) {s : Nat} (hs : s = 1 ∨ s = 11 ∨ s = 12 ∨ s = 13 ∨ s = 15 ∨ s = 16 ∨ s = 21 ∨ 27 < s) : boardF a n s = a s := by
  funext j
  unfold boardF
  rw [if_neg (by omega), if_neg (by omega), if_neg (by omega), if_neg (by omega), if_neg (by omega), if_neg (by omega), if_neg (by omega), if_neg (by omega), if_neg (by omega)]
theorem bd_2 (a : bpM) (n : Nat) : boardF a n 2 0 = nI n := by simp [boardF]
theorem bd_np (a : bpM) {n : Nat} (h : n ≤ 6) : np (boardF a n) = n := by
  unfold np
  rw [bd_2]
  exact nIc (by omega)
theorem bd_3 (a : bpM) {n p : Nat} (h : p < n) (hn : n ≤ 6) : boardF a n 3 p = a 1 (3 * p) - 48 := by
  simp [boardF, h, show p < 6 by omega]
theorem bd_4 (a : bpM) {n p : Nat} (h : p < n) (hn : n ≤ 6) : boardF a n 4 p = a 1 (3 * p + 1) - 48 := by
  simp [boardF, h, show p < 6 by omega]
theorem bd_p (a : bpM) (n : Nat) {s p : Nat} (hs : 5 ≤ s ∧ s ≤ 10 ∨ s = 17) (h : p < 6) : boardF a n s p = 0 := by
  unfold boardF
  rw [if_neg (by omega), if_neg (by omega), if_neg (by omega), if_neg (by omega), if_pos ⟨hs, h⟩]
theorem bd_18 (a : bpM) (n : Nat) {f : Nat} (h : f < 12) : boardF a n 18 f = -1 := by
  unfold boardF
  rw [if_neg (by omega), if_neg (by omega), if_neg (by omega), if_neg (by omega), if_neg (by omega), if_neg (by omega), if_pos ⟨rfl, h⟩]
theorem bd_f (a : bpM) (n : Nat) {s f : Nat} (hs : s = 19 ∨ s = 20 ∨ 22 ≤ s ∧ s ≤ 25) (h : f < 12) : boardF a n s f = 0 := by
  unfold boardF
  rw [if_neg (by omega), if_neg (by omega), if_neg (by omega), if_neg (by omega), if_neg (by omega), if_neg (by omega), if_neg (by omega), if_pos ⟨hs, h⟩]
theorem bd_0 (a : bpM) (n : Nat) : boardF a n 0 0 = 0 := by simp [boardF]
theorem bd_14 (a : bpM) (n : Nat) : boardF a n 14 0 = a 14 0 + 1 := by simp [boardF]
theorem bd_26 (a : bpM) (n : Nat) {s : Nat} (hs : s = 26 ∨ s = 27) : boardF a n s 0 = 0 := by
  unfold boardF
  rw [if_neg (by omega), if_neg (by omega), if_neg (by omega), if_neg (by omega), if_neg (by omega), if_neg (by omega), if_neg (by omega), if_neg (by omega), if_pos ⟨hs, rfl⟩]
theorem isBd_key {a : bpM} (h : isBd a = true) {p : Nat} (hp : p < (pl a + 1) / 3) : ∃ k, k < 4 ∧ a 1 (3 * p) - 48 = nI k := by
  simp only [isBd, Bool.and_eq_true, decide_eq_true_eq] at h
  have hf := fsN_all (P := fun j => fitB (a 1 j) j) (n := pl a) (i := 0) (by rw [Nat.zero_add]; exact h.2) (3 * p) (by omega) (by omega)
  simp only [fitB] at hf
  rw [if_pos (by omega), Bool.and_eq_true, decide_eq_true_eq, decide_eq_true_eq, i_le, i_lt, i_48, i_52] at hf
  have h0 : ¬ a 1 (3 * p) < 0 := by rw [i_lt, i_0]; omega
  obtain ⟨j, hj, e⟩ := nI_of h0
  rw [e, i_n hj] at hf
  refine ⟨j - 48, by omega, ?_⟩
  rw [e, show (48 : Int32) = nI 48 from rfl, pk_sub (by omega)]
theorem lead_none {a : bpM} (h : ∀ p, p < np a → ¬ 0 < a 6 p) (key : Int32) : lead a key = none := by
  have key2 : ∀ n, n ≤ np a → leadN a key n = none := by
    intro n
    induction n with
    | zero => intro _; rfl
    | succ n ih =>
      intro hn
      simp only [leadN]
      rw [if_neg (fun q => h n (by omega) q.2.1)]
      exact ih (by omega)
  exact key2 _ (Nat.le_refl _)
theorem bd_choi (a : bpM) {n p : Nat} (hn : n ≤ 6) : choi (boardF a n) p = 0 := by
  unfold choi place
  rw [lead_none (fun q hq => by rw [bd_np a hn] at hq; rw [bd_p a n (by omega) (by omega)]; decide)]
theorem Inv_board {a : bpM} {k : Nat} (h : Inv a k) : Inv (boardS a).1 k := by
  obtain ⟨hQ, hF, hP, hU, hG⟩ := id h
  unfold boardS
  by_cases hb : isBd a = true
  · rw [if_pos hb]
    dsimp only
    have hn : (pl a + 1) / 3 ≤ 6 := by have := hG.2; omega
    have hnp := bd_np a hn
    refine ⟨fun p hp => ?_, fun f hf => ?_, ⟨?_, fun p hp => ?_⟩, fun p hp _ => ?_, ?_⟩
    · rw [hnp] at hp
      have hz : qm (boardF a ((pl a + 1) / 3)) p = 0 := by unfold qm; rw [bd_p a _ (by omega) (by omega)]; rfl
      unfold IQp
      rw [hz, bd_p a _ (s := 17) (by omega) (by omega)]
      exact ⟨rfl, by omega, fun z => absurd z (Nat.lt_irrefl _), fun j hj => absurd hj (Nat.not_lt_zero _), fun j _ hj => absurd hj (Nat.not_lt_zero _)⟩
    · have hz : hm (boardF a ((pl a + 1) / 3)) f = 0 := by unfold hm; rw [bd_f a _ (by omega) hf]; rfl
      unfold IFf
      rw [hz, bd_f a _ (s := 19) (by omega) hf, bd_f a _ (s := 20) (by omega) hf, bd_f a _ (s := 22) (by omega) hf, bd_18 a _ hf]
      exact ⟨Or.inl rfl, Or.inl rfl, rfl, by omega, fun j hj => absurd hj (Nat.not_lt_zero _), 0, by omega, rfl⟩
    · have hB := hP.1
      unfold Bas sh at hB ⊢
      rw [hnp, bd_2, bd_s a _ (s := 13) (by omega)]
      exact ⟨rfl, hn, hB.2.2⟩
    · rw [hnp] at hp
      unfold IPp
      rw [bd_3 a hp hn, bd_p a _ (s := 5) (by omega) (by omega), bd_p a _ (s := 6) (by omega) (by omega), bd_p a _ (s := 8) (by omega) (by omega), bd_p a _ (s := 9) (by omega) (by omega), bd_p a _ (s := 10) (by omega) (by omega)]
      exact ⟨isBd_key hb hp, Or.inl rfl, Or.inl rfl, fun z => absurd z (by decide), ⟨0, by omega, rfl⟩, fun _ => rfl⟩
    · rw [hnp] at hp
      exact ⟨bd_p a _ (by omega) (by omega), bd_p a _ (by omega) (by omega), bd_p a _ (by omega) (by omega), bd_p a _ (by omega) (by omega)⟩
    · unfold IG pl
      rw [bd_0]
      exact ⟨rfl, by decide⟩
  · rw [if_neg hb]
    exact h
theorem hold_s (a : bpM) (f : Nat) (n : Int32) {s : Nat} (hs : s ≠ 20 ∧ s ≠ 21 ∧ s ≠ 24) : (holdF a f n).1 s = a s := by
  unfold holdF
  split
  · exact upM_other _ _ _ _ (by omega)
  · show upM (upM a 21 (8 * f + hm a f) n) 20 f (a 20 f + 1) s = a s
    rw [upM_other _ _ _ _ (by omega), upM_other _ _ _ _ (by omega)]
theorem send_s (a : bpM) (f : Nat) {s : Nat} (hs : s < 15) : (sendF a f).1 s = a s := by
  rw [sendF_eq]
  have e0 : upM a 22 f (a 22 f + 1) s = a s := upM_other _ _ _ _ (by omega)
  rw [← e0]
  generalize upM a 22 f (a 22 f + 1) = b
  unfold sendG
  split
  · exact hold_s _ _ _ (by omega)
  · cases way b f with
    | none => exact upM_other b 24 f (b 24 f + 1) (by omega)
    | some p =>
      simp only
      split
      · rw [hold_s _ _ _ (by omega)]
        unfold layF
        rw [upM_other _ _ _ _ (by omega), upM_other _ _ _ _ (by omega), upM_other _ _ _ _ (by omega), upM_other _ _ _ _ (by omega)]
      · rw [come_s _ _ _ _ (by omega), upM_other _ _ _ _ (by omega)]
theorem Inv_send {a : bpM} {k : Nat} (x : Int32) (hk : k < 2 ^ 30) (h : Inv a k) : Inv (sendS a x).1 (k + 1) := by
  obtain ⟨hQ, hF, hP, hU, hG⟩ := id h
  unfold sendS
  split
  · rename_i hx
    split
    · exact Inv_mono (by omega) h
    · obtain ⟨f, hf, rfl⟩ := isF_of hx
      rw [nIc (by omega)]
      obtain ⟨r1, r2, r3⟩ := I_send hf hk hQ hF hP
      exact ⟨r1, r2, r3, IU_cg (send_s a f (by omega)) (send_s a f (by omega)) (send_s a f (by omega)) (send_s a f (by omega)) (send_s a f (by omega)) hU, IG_cg (send_s a f (by omega)) hG⟩
  · exact Inv_mono (by omega) h
theorem go_s (a : bpM) (p : Nat) {s : Nat} (hs : s < 15) : (goF a p).1 s = a s := by
  unfold goF
  split
  · rfl
  · split
    · show answerF (popF a p) (flN a p 0) s = a s
      rw [ans_s _ _ (by omega), pop_s _ _ (by omega)]
    · show upM (upM (popF a p) 23 (flN a p 0) (a 23 (flN a p 0) + 1)) 25 (flN a p 0) (a 16 (24 * p)) s = a s
      rw [upM_other _ _ _ _ (by omega), upM_other _ _ _ _ (by omega), pop_s _ _ (by omega)]
theorem out_s (a : bpM) {s : Nat} (hs : s < 15) : ∀ i, (outN a i).1 s = a s
  | 0 => rfl
  | i + 1 => by
    simp only [outN]
    split
    · exact out_s a hs i
    · rw [go_s _ _ hs, out_s a hs i]
theorem IU_tick1 {a : bpM} (h : IU a) : IU (tick1 a).1 := by
  unfold tick1
  refine IU_cg (out_s _ (by omega) _) (out_s _ (by omega) _) (out_s _ (by omega) _) (out_s _ (by omega) _) (out_s _ (by omega) _) ?_
  unfold preT
  have h1 : IU (upM a 26 0 (a 26 0 + 1)) := IU_cg (upM_other _ _ _ _ (by omega)) (upM_other _ _ _ _ (by omega)) (upM_other _ _ _ _ (by omega)) (upM_other _ _ _ _ (by omega)) (upM_other _ _ _ _ (by omega)) h
  generalize upM a 26 0 (a 26 0 + 1) = b at h1
  refine IU_cg (wtN_s _ _ (by omega)) (wtN_s _ _ (by omega)) (wtN_s _ _ (by omega)) (wtN_s _ _ (by omega)) (wtN_s _ _ (by omega)) (IU_settle ?_)
  intro p hp hz
  unfold oldF at hp hz ⊢
  rw [oldN_np] at hp
  by_cases h6 : 0 < b 6 p
  · rw [oldN_i b hp h6 (by omega)] at hz
    rw [oldN_i b hp h6 (by omega), oldN_i b hp h6 (by omega), oldN_i b hp h6 (by omega), oldN_i b hp h6 (by omega)]
    by_cases e4 : b 9 p + 1 = 4
    · rw [if_pos e4, if_pos e4, if_pos e4, if_pos e4]
      exact ⟨rfl, rfl, rfl, rfl⟩
    · rw [if_neg e4, if_neg (by decide)] at hz
      exact absurd h6 hz
  · rw [oldN_o b (fun q => h6 q.2), oldN_o b (fun q => h6 q.2), oldN_o b (fun q => h6 q.2), oldN_o b (fun q => h6 q.2)]
    exact h1 p hp h6
theorem IU_tickN {a : bpM} (h : IU a) : ∀ n, IU (tickN a n).1
  | 0 => h
  | n + 1 => IU_tick1 (IU_tickN h n)
theorem tick_0 (a : bpM) : ∀ n, (tickN a n).1 0 = a 0
  | 0 => rfl
  | n + 1 => by
    show (tick1 (tickN a n).1).1 0 = a 0
    unfold tick1
    rw [out_s _ (by omega), preT_s _ (by omega), tick_0 a n]
theorem Inv_tick {a : bpM} {k : Nat} (x : Int32) (h : Inv a k) : Inv (tickS a x).1 k := by
  obtain ⟨hQ, hF, hP, hU, hG⟩ := id h
  unfold tickS
  split
  · split
    · exact h
    · obtain ⟨r1, r2, r3, -⟩ := I_tickN hQ hF hP x.toNatClampNeg
      exact ⟨r1, r2, r3, IU_tickN hU _, IG_cg (tick_0 a _) hG⟩
  · exact h
