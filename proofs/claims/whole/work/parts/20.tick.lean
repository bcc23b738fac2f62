/-! a TICK -/
def oldN (a : bpM) (i : Nat) : bpM := fun k j => if j < i ∧ 0 < a 6 j ∧ 6 ≤ k ∧ k ≤ 9 then (if a 9 j + 1 = 4 then 0 else if k = 9 then a 9 j + 1 else a k j) else a k j
def oldF (a : bpM) : bpM := oldN a (np a)
theorem oldN_s (a : bpM) (i : Nat) {s : Nat} (hs : s < 6 ∨ 9 < s) : oldN a i s = a s := by
  funext j
  simp only [oldN]
  rw [if_neg (by omega)]
theorem oldN_np (a : bpM) (i : Nat) : np (oldN a i) = np a := by unfold np; rw [oldN_s a i (by omega)]
theorem oldN_o (a : bpM) {i j : Nat} (h : ¬ (j < i ∧ 0 < a 6 j)) (s : Nat) : oldN a i s j = a s j := by
  simp only [oldN]
  rw [if_neg (fun q => h ⟨q.1, q.2.1⟩)]
theorem oldN_i (a : bpM) {i j : Nat} (h : j < i) (h6 : 0 < a 6 j) {s : Nat} (hs : 6 ≤ s ∧ s ≤ 9) : oldN a i s j = if a 9 j + 1 = 4 then 0 else if s = 9 then a 9 j + 1 else a s j := by
  simp only [oldN]
  rw [if_pos ⟨h, h6, hs⟩]
theorem oldN_succ (a : bpM) {i j : Nat} (h : j ≠ i) (s : Nat) : oldN a (i + 1) s j = oldN a i s j := by
  simp only [oldN]
  by_cases q : j < i ∧ 0 < a 6 j ∧ 6 ≤ s ∧ s ≤ 9
  · rw [if_pos q, if_pos ⟨by omega, q.2⟩]
  · rw [if_neg q, if_neg]
    rintro ⟨q1, q2⟩
    exact q ⟨by omega, q2⟩
def IPp0 (a : bpM) (p : Nat) : Prop := (∃ k, k < 4 ∧ a 3 p = nI k) ∧ (a 5 p = 0 ∨ a 5 p = 1) ∧ (a 8 p = 0 ∨ a 8 p = 1) ∧ (0 < a 6 p → a 5 p = 1) ∧ (∃ g, g < 4 ∧ a 9 p = nI g)
theorem IPp.z {a : bpM} {p : Nat} (h : IPp a p) : IPp0 a p := ⟨h.1, h.2.1, h.2.2.1, h.2.2.2.1, h.2.2.2.2.1⟩
theorem Bas_cg {a b : bpM} (h2 : b 2 = a 2) (h13 : b 13 = a 13) (h : Bas a) : Bas b := by
  unfold Bas np sh at h ⊢
  rw [h2, h13]
  exact h
theorem IP_settle {a : bpM} (hB : Bas a) (h : ∀ p, p < np a → IPp0 a p) : IP (settle a) := by
  refine ⟨Bas_cg (settle_s a (by decide)) (settle_s a (by decide)) hB, fun p hp => ?_⟩
  rw [settle_np] at hp
  obtain ⟨h1, h2, h3, h4, h5⟩ := h p hp
  unfold IPp
  rw [settle_choi, settle_s a (by decide), settle_s a (by decide), settle_s a (by decide), settle_s a (by decide), settle_s a (by decide)]
  refine ⟨h1, h2, h3, h4, h5, fun hc => ?_⟩
  unfold settle
  rw [if_pos ⟨rfl, hp, hc⟩]
theorem IP_old {a : bpM} (h : IP a) : ∀ p, p < np (oldF a) → IPp0 (oldF a) p := by
  intro p hp
  unfold oldF at hp ⊢
  rw [oldN_np] at hp
  obtain ⟨h1, h2, h3, h4, ⟨g, hg, e9⟩, -⟩ := h.2 p hp
  unfold IPp0
  rw [oldN_s a (np a) (s := 3) (by omega), oldN_s a (np a) (s := 5) (by omega)]
  by_cases h6 : 0 < a 6 p
  · rw [oldN_i a hp h6 (by omega), oldN_i a hp h6 (by omega), oldN_i a hp h6 (by omega)]
    by_cases e4 : a 9 p + 1 = 4
    · rw [if_pos e4, if_pos e4, if_pos e4]
      exact ⟨h1, h2, Or.inl rfl, fun z => absurd z (by decide), 0, by omega, rfl⟩
    · rw [if_neg e4, if_neg e4, if_neg e4, if_neg (by decide), if_neg (by decide), if_pos rfl]
      have eg : a 9 p + 1 = nI (g + 1) := by rw [e9]; exact nI_1 g
      refine ⟨h1, h2, h3, h4, g + 1, ?_, eg⟩
      rcases Nat.lt_or_ge (g + 1) 4 with q | q
      · exact q
      · exact absurd (by rw [eg, show g + 1 = 4 by omega]; rfl) e4
  · rw [oldN_o a (fun q => h6 q.2), oldN_o a (fun q => h6 q.2), oldN_o a (fun q => h6 q.2)]
    exact ⟨h1, h2, h3, h4, g, hg, e9⟩
def wtN (a : bpM) (i : Nat) : bpM := fun k j => if k = 10 ∧ j < i ∧ choi a j = 2 ∧ a 10 j < 9 then a 10 j + 1 else a k j
def wtF (a : bpM) : bpM := wtN a (np a)
theorem wtN_0 (a : bpM) : wtN a 0 = a := by
  funext k j
  simp only [wtN]
  rw [if_neg (by omega)]
theorem wtN_s (a : bpM) (i : Nat) {s : Nat} (hs : s ≠ 10) : wtN a i s = a s := by
  funext j
  simp only [wtN]
  rw [if_neg (fun q => hs q.1)]
theorem wtN_np (a : bpM) (i : Nat) : np (wtN a i) = np a := by unfold np; rw [wtN_s a i (by decide)]
theorem wtN_choi (a : bpM) (i p : Nat) : choi (wtN a i) p = choi a p :=
  choi_cg (wtN_np a i) (wtN_s a i (by decide)) (wtN_s a i (by decide)) (wtN_s a i (by decide)) (wtN_s a i (by decide)) (by rw [wtN_s a i (by decide)]) p
theorem wtN_t {a : bpM} {i : Nat} (h : choi a i = 2 ∧ a 10 i < 9) : wtN a (i + 1) = upM (wtN a i) 10 i (a 10 i + 1) := by
  funext k j
  simp only [wtN, upM]
  by_cases e : k = 10 ∧ j = i
  · obtain ⟨rfl, rfl⟩ := e
    rw [if_pos ⟨rfl, by omega, h⟩, if_pos ⟨rfl, rfl⟩]
  · rw [if_neg e]
    by_cases e2 : k = 10 ∧ j < i ∧ choi a j = 2 ∧ a 10 j < 9
    · rw [if_pos e2, if_pos ⟨e2.1, by omega, e2.2.2⟩]
    · rw [if_neg e2, if_neg]
      rintro ⟨q1, q2, q3⟩
      exact e2 ⟨q1, by omega, q3⟩
theorem wtN_f {a : bpM} {i : Nat} (h : ¬ (choi a i = 2 ∧ a 10 i < 9)) : wtN a (i + 1) = wtN a i := by
  funext k j
  simp only [wtN]
  by_cases e2 : k = 10 ∧ j < i ∧ choi a j = 2 ∧ a 10 j < 9
  · rw [if_pos e2, if_pos ⟨e2.1, by omega, e2.2.2⟩]
  · rw [if_neg e2, if_neg]
    rintro ⟨q1, q2, q3⟩
    have : j ≠ i := fun z => h (z ▸ q3)
    exact e2 ⟨q1, by omega, q3⟩
theorem wtN_10 (a : bpM) {i j : Nat} (h : i ≤ j) : wtN a i 10 j = a 10 j := by
  simp only [wtN]
  rw [if_neg (by omega)]
theorem IP_wt {a : bpM} (h : IP a) : IP (wtF a) := by
  refine ⟨Bas_cg (wtN_s a _ (by decide)) (wtN_s a _ (by decide)) h.1, fun p hp => ?_⟩
  unfold wtF at hp ⊢
  rw [wtN_np] at hp
  obtain ⟨h1, h2, h3, h4, h5, h6⟩ := h.2 p hp
  unfold IPp
  rw [wtN_choi, wtN_s a _ (by decide), wtN_s a _ (by decide), wtN_s a _ (by decide), wtN_s a _ (by decide), wtN_s a _ (by decide)]
  refine ⟨h1, h2, h3, h4, h5, fun hc => ?_⟩
  simp only [wtN]
  rw [if_neg (fun q => hc q.2.2.1)]
  exact h6 hc
/-- the first ones of the QUEUES go out, of so many PORTS: how many letters -/
def outN (a : bpM) : Nat → bpM × Int32
  | 0 => (a, 0)
  | i + 1 => if (outN a i).1 5 i = 0 then outN a i else ((goF (outN a i).1 i).1, (outN a i).2 + (goF (outN a i).1 i).2)
theorem I_out {a : bpM} {k : Nat} (hQ : IQ a) (hF : IF a k) (hP : IP a) : ∀ i, i ≤ np a → IQ (outN a i).1 ∧ IF (outN a i).1 k ∧ IP (outN a i).1 ∧ np (outN a i).1 = np a ∧ (outN a i).1 5 = a 5
  | 0, _ => ⟨hQ, hF, hP, rfl, rfl⟩
  | i + 1, hi => by
    obtain ⟨q1, q2, q3, q4, q5⟩ := I_out hQ hF hP i (by omega)
    simp only [outN]
    split
    · exact ⟨q1, q2, q3, q4, q5⟩
    · obtain ⟨r1, r2, r3, r4, r5⟩ := I_go (p := i) q1 q2 q3 (by rw [q4]; omega)
      exact ⟨r1, r2, r3, r4.trans q4, r5.trans q5⟩
def preT (a : bpM) : bpM := wtF (settle (oldF (upM a 26 0 (a 26 0 + 1))))
def tick1 (a : bpM) : bpM × Int32 := outN (preT a) (np a)
theorem preT_s (a : bpM) {s : Nat} (hs : s ≠ 26 ∧ (s < 6 ∨ 10 < s)) : preT a s = a s := by
  unfold preT wtF oldF
  rw [wtN_s _ _ (by omega), settle_s _ (by omega), oldN_s _ _ (by omega), upM_other _ _ _ _ (by omega)]
theorem preT_np (a : bpM) : np (preT a) = np a := by unfold np; rw [preT_s a (by omega)]
theorem I_pre {a : bpM} {k : Nat} (hQ : IQ a) (hF : IF a k) (hP : IP a) : IQ (preT a) ∧ IF (preT a) k ∧ IP (preT a) := by
  refine ⟨IQ_cg (preT_np a) (preT_s a (by omega)) (preT_s a (by omega)) (preT_s a (by omega)) (preT_s a (by omega)) (preT_s a (by omega)) (preT_s a (by omega)) hQ, IF_cg (preT_np a) (preT_s a (by omega)) (preT_s a (by omega)) (preT_s a (by omega)) (preT_s a (by omega)) (preT_s a (by omega)) hF, ?_⟩
  have h1 : IP (upM a 26 0 (a 26 0 + 1)) := IP_up (by omega) hP
  exact IP_wt (IP_settle (Bas_cg (oldN_s _ _ (by omega)) (oldN_s _ _ (by omega)) h1.1) (IP_old h1))
theorem I_tick1 {a : bpM} {k : Nat} (hQ : IQ a) (hF : IF a k) (hP : IP a) : IQ (tick1 a).1 ∧ IF (tick1 a).1 k ∧ IP (tick1 a).1 ∧ np (tick1 a).1 = np a := by
  obtain ⟨h1, h2, h3⟩ := I_pre hQ hF hP
  obtain ⟨q1, q2, q3, q4, -⟩ := I_out h1 h2 h3 (np a) (by rw [preT_np]; exact Nat.le_refl _)
  exact ⟨q1, q2, q3, q4.trans (preT_np a)⟩
def tickN (a : bpM) : Nat → bpM × Int32
  | 0 => (a, 0)
  | n + 1 => ((tick1 (tickN a n).1).1, (tickN a n).2 + (tick1 (tickN a n).1).2)
theorem I_tickN {a : bpM} {k : Nat} (hQ : IQ a) (hF : IF a k) (hP : IP a) : ∀ n, IQ (tickN a n).1 ∧ IF (tickN a n).1 k ∧ IP (tickN a n).1 ∧ np (tickN a n).1 = np a
  | 0 => ⟨hQ, hF, hP, rfl⟩
  | n + 1 => by
    obtain ⟨q1, q2, q3, q4⟩ := I_tickN hQ hF hP n
    obtain ⟨r1, r2, r3, r4⟩ := I_tick1 q1 q2 q3
    exact ⟨r1, r2, r3, r4.trans q4⟩
/-! sums over the flows -/
def smN (g : Nat → Int32) : Nat → Int32
  | 0 => 0
  | n + 1 => smN g n + g n
theorem smN_cong {g h : Nat → Int32} : ∀ {n : Nat}, (∀ k, k < n → g k = h k) → smN g n = smN h n
  | 0, _ => rfl
  | n + 1, e => by
    simp only [smN]
    rw [smN_cong (fun k hk => e k (by omega)), e n (by omega)]
theorem i_assoc (x y z : Int32) : x + y + z = x + (y + z) := Int32.add_assoc x y z
theorem i_comm (x y : Int32) : x + y = y + x := Int32.add_comm x y
theorem smN_up {g : Nat → Int32} {i : Nat} {v d : Int32} (hv : v = g i + d) : ∀ {n : Nat}, i < n → smN (fun j => if j = i then v else g j) n = smN g n + d
  | 0, h => absurd h (Nat.not_lt_zero _)
  | n + 1, h => by
    simp only [smN]
    by_cases e : i = n
    · subst e
      rw [if_pos rfl, hv, smN_cong (h := g) (fun k hk => if_neg (by omega)), i_assoc]
    · rw [if_neg (fun z => e z.symm), smN_up hv (show i < n by omega), i_assoc, i_comm d, ← i_assoc]
theorem out_del {a : bpM} {p : Nat} (hf : flN a p 0 < 12) : smN ((goF a p).1 23) 12 = smN (a 23) 12 + (goF a p).2 := by
  unfold goF
  by_cases h0 : a 17 p = 0
  · rw [if_pos h0]
    show smN (a 23) 12 = smN (a 23) 12 + 0
    rw [Int32.add_zero]
  · rw [if_neg h0]
    by_cases hz : a 16 (24 * p) = 0
    · rw [if_pos hz]
      show smN (answerF (popF a p) (flN a p 0) 23) 12 = smN (a 23) 12 + 0
      rw [ans_s _ _ (by omega), pop_s _ _ (by omega), Int32.add_zero]
    · rw [if_neg hz]
      show smN (upM (upM (popF a p) 23 (flN a p 0) (a 23 (flN a p 0) + 1)) 25 (flN a p 0) (a 16 (24 * p)) 23) 12 = smN (a 23) 12 + 1
      rw [upM_other _ _ _ _ (by omega)]
      rw [← smN_up (g := a 23) (i := flN a p 0) (v := a 23 (flN a p 0) + 1) (d := 1) rfl hf]
      refine smN_cong (fun k _ => ?_)
      simp only [upM]
      rw [pop_s _ _ (by omega)]
      by_cases e : k = flN a p 0
      · rw [if_pos ⟨trivial, e⟩, if_pos e]
      · rw [if_neg (fun q => e q.2), if_neg e]
theorem go_del {a : bpM} {p : Nat} (hQ : IQ a) (hp : p < np a) : smN ((goF a p).1 23) 12 = smN (a 23) 12 + (goF a p).2 := by
  by_cases h0 : a 17 p = 0
  · unfold goF
    rw [if_pos h0]
    show smN (a 23) 12 = smN (a 23) 12 + 0
    rw [Int32.add_zero]
  · refine out_del ((hQ p hp).e.fl ?_).1
    rcases Nat.eq_zero_or_pos (qm a p) with q | q
    · exact absurd (by rw [(hQ p hp).1, q]; rfl) h0
    · exact q
theorem outN_del {a : bpM} {k : Nat} (hQ : IQ a) (hF : IF a k) (hP : IP a) : ∀ i, i ≤ np a → smN ((outN a i).1 23) 12 = smN (a 23) 12 + (outN a i).2
  | 0, _ => by show smN (a 23) 12 = smN (a 23) 12 + 0; rw [Int32.add_zero]
  | i + 1, hi => by
    obtain ⟨q1, q2, q3, q4, q5⟩ := I_out hQ hF hP i (by omega)
    simp only [outN]
    split
    · exact outN_del hQ hF hP i (by omega)
    · rw [go_del q1 (by rw [q4]; omega), outN_del hQ hF hP i (by omega), i_assoc]
theorem tick1_del {a : bpM} {k : Nat} (hQ : IQ a) (hF : IF a k) (hP : IP a) : smN ((tick1 a).1 23) 12 = smN (a 23) 12 + (tick1 a).2 := by
  obtain ⟨h1, h2, h3⟩ := I_pre hQ hF hP
  have := outN_del h1 h2 h3 (np a) (by rw [preT_np]; exact Nat.le_refl _)
  rw [preT_s a (s := 23) (by omega)] at this
  exact this
theorem tickN_del {a : bpM} {k : Nat} (hQ : IQ a) (hF : IF a k) (hP : IP a) : ∀ n, smN ((tickN a n).1 23) 12 = smN (a 23) 12 + (tickN a n).2
  | 0 => by show smN (a 23) 12 = smN (a 23) 12 + 0; rw [Int32.add_zero]
  | n + 1 => by
    obtain ⟨q1, q2, q3, q4⟩ := I_tickN hQ hF hP n
    simp only [tickN]
    rw [tick1_del q1 q2 q3, tickN_del hQ hF hP n, i_assoc]
