/-! a queue that goes, one that moves up, ticks -/
def flN (a : bpM) (p j : Nat) : Nat := (a 15 (24 * p + j)).toNatClampNeg
def losN (a : bpM) (p : Nat) : Nat → bpM
  | 0 => a
  | j + 1 => if 0 < a 16 (24 * p + j) then lostF (losN a p j) (flN a p j) else losN a p j
def anMN (a b : bpM) (p : Nat) : Nat → bpM
  | 0 => b
  | j + 1 => if 0 < a 16 (24 * p + j) then anMN a b p j else answerF (anMN a b p j) (flN a p j)
def emptyF (a : bpM) (p : Nat) : bpM := anMN a (upM (losN a p (qm a p)) 17 p 0) p (qm a p)
theorem losN_s (a : bpM) (p : Nat) {s : Nat} (hs : s ≠ 24) : ∀ j, losN a p j s = a s
  | 0 => rfl
  | j + 1 => by
    simp only [losN]
    split
    · unfold lostF; rw [upM_other _ _ _ _ hs, losN_s a p hs j]
    · exact losN_s a p hs j
theorem losN_np (a : bpM) (p j : Nat) : np (losN a p j) = np a := by unfold np; rw [losN_s a p (by decide)]
/-- of a QUEUE all but that its PORT is UP -/
def IQe (a : bpM) (p : Nat) : Prop := a 17 p = nI (qm a p) ∧ qm a p ≤ 8 + mvc a p ∧ (∀ j, j < qm a p → 0 ≤ a 16 (24 * p + j) ∧ ∃ f, f < 12 ∧ a 15 (24 * p + j) = nI f ∧ (a 16 (24 * p + j) = 0 → a 19 f ≠ 0 ∧ a 18 f = nI p)) ∧ (∀ j j', j < qm a p → j' < qm a p → a 16 (24 * p + j) = 0 → a 16 (24 * p + j') = 0 → a 15 (24 * p + j) = a 15 (24 * p + j') → j = j')
theorem IQp.e {a : bpM} {p : Nat} (h : IQp a p) : IQe a p := ⟨h.1, h.2.1, h.2.2.2.1, h.2.2.2.2⟩
theorem IQe.p {a : bpM} {p : Nat} (h : IQe a p) (h5 : 0 < qm a p → a 5 p = 1) : IQp a p := ⟨h.1, h.2.1, h5, h.2.2.1, h.2.2.2⟩
theorem IQe.le {a : bpM} {p : Nat} (h : IQe a p) : qm a p ≤ 20 := by
  have := ctN_le (fun f => decide (a 19 f ≠ 0) && decide (a 18 f = nI p)) 12
  have h2 : qm a p ≤ 8 + ctN (fun f => decide (a 19 f ≠ 0) && decide (a 18 f = nI p)) 12 := h.2.1
  omega
theorem IQe.fl {a : bpM} {p j : Nat} (h : IQe a p) (hj : j < qm a p) : flN a p j < 12 ∧ a 15 (24 * p + j) = nI (flN a p j) := by
  obtain ⟨-, f, hf, e, -⟩ := h.2.2.1 j hj
  have : flN a p j = f := by unfold flN; rw [e]; exact nIc (by omega)
  rw [this]
  exact ⟨hf, e⟩
theorem IQe_cg {a b : bpM} {p : Nat} (h15 : b 15 = a 15) (h16 : b 16 = a 16) (h17 : b 17 = a 17) (h18 : b 18 = a 18) (h19 : b 19 = a 19) (h : IQe a p) : IQe b p := by
  unfold IQe mvc qm at h ⊢
  rw [h15, h16, h17, h18, h19]
  exact h
theorem IQ_cg {a b : bpM} (hn : np b = np a) (h5 : b 5 = a 5) (h15 : b 15 = a 15) (h16 : b 16 = a 16) (h17 : b 17 = a 17) (h18 : b 18 = a 18) (h19 : b 19 = a 19) (h : IQ a) : IQ b := by
  intro p hp
  rw [hn] at hp
  refine (IQe_cg h15 h16 h17 h18 h19 (h p hp).e).p ?_
  unfold qm
  rw [h17, h5]
  exact (h p hp).2.2.1
theorem IQp_cg {a b : bpM} {q : Nat} (h17 : b 17 q = a 17 q) (h5 : b 5 = a 5) (h15 : b 15 = a 15) (h16 : b 16 = a 16) (h18 : b 18 = a 18) (h19 : b 19 = a 19) (h : IQp a q) : IQp b q := by
  unfold IQp mvc qm at h ⊢
  rw [h17, h5, h15, h16, h18, h19]
  exact h
/-- a FLOW of a PORT whose QUEUE is empty does not move any more -/
theorem IQ_unm {b : bpM} {p g : Nat} (hQ : IQ b) (hn6 : np b ≤ 6) (hp : p < np b) (h0 : b 17 p = 0) (h18 : b 18 g = nI p) : IQ (upM b 19 g 0) := by
  intro q hq
  rw [np_up (by omega)] at hq
  obtain ⟨h1, h2, h3, h4, h5⟩ := hQ q hq
  unfold IQp
  rw [qm_up (by omega), upM_other b 19 g 0 (k' := 5) (by omega), upM_other b 19 g 0 (k' := 15) (by omega), upM_other b 19 g 0 (k' := 16) (by omega), upM_other b 19 g 0 (k' := 17) (by omega), upM_other b 19 g 0 (k' := 18) (by omega)]
  by_cases e : q = p
  · subst e
    have hz : qm b q = 0 := by unfold qm; rw [h0]; rfl
    rw [hz] at h1 ⊢
    exact ⟨h1, by omega, fun z => absurd z (Nat.lt_irrefl _), fun j hj => absurd hj (Nat.not_lt_zero _), fun j _ hj => absurd hj (Nat.not_lt_zero _)⟩
  · have ne : b 18 g ≠ nI q := fun z => e (nI_inj (by omega) (by omega) (h18.symm.trans z)).symm
    have emv : mvc (upM b 19 g 0) q = mvc b q := mvc_cg (fun f _ => by
      rw [upM_other b 19 g 0 (k' := 18) (by omega)]
      by_cases ef : f = g
      · subst ef
        constructor
        · rintro ⟨-, z⟩; exact absurd z ne
        · rintro ⟨-, z⟩; exact absurd z ne
      · rw [upM_ne b 19 g 0 (by simp [ef])])
    rw [emv]
    refine ⟨h1, h2, h3, fun j hj => ?_, h5⟩
    obtain ⟨q1, f, hf, q2, q3⟩ := h4 j hj
    refine ⟨q1, f, hf, q2, fun z => ⟨?_, (q3 z).2⟩⟩
    have : f ≠ g := fun ef => ne (by rw [← ef]; exact (q3 z).2)
    rw [upM_ne b 19 g 0 (by simp [this])]
    exact (q3 z).1
theorem lo_bit {x : Int32} (h : 0 ≤ x) (h2 : ¬ 0 < x) : x = 0 := by
  rw [i_eq, i_0]
  rw [i_le, i_0] at h
  rw [i_lt, i_0] at h2
  omega
theorem lo_bit2 {x : Int32} (h2 : 0 < x) : ¬ x = 0 := by
  rw [i_eq, i_0]
  rw [i_lt, i_0] at h2
  omega
/-- what holds while the MARKERS of a QUEUE that went are ANSWERED -/
def Jm (a : bpM) (p k j : Nat) (b : bpM) : Prop := IQ b ∧ IF b k ∧ IP b ∧ np b = np a ∧ b 17 p = 0 ∧ b 6 = a 6 ∧ ∀ j', j ≤ j' → j' < qm a p → a 16 (24 * p + j') = 0 → b 18 (flN a p j') = nI p
theorem Jm_no {a b : bpM} {p k j : Nat} (h : Jm a p k j b) (hh : ¬ 0 < a 6 p) (f : Nat) : way b f ≠ some p := fun z => hh (by rw [← h.2.2.2.2.2.1]; exact stat_heard (way_car z))
theorem Jm_step {a b : bpM} {p k j : Nat} (hE : IQe a p) (hp : p < np a) (hh : ¬ 0 < a 6 p) (hj : j < qm a p) (hz : ¬ 0 < a 16 (24 * p + j)) (h : Jm a p k j b) : IQ (upM b 19 (flN a p j) 0) ∧ Jm a p k (j + 1) (answerF b (flN a p j)) := by
  have hno := Jm_no h hh
  obtain ⟨hQ, hF, hP, hn, h0, h6, hr⟩ := h
  have hfl := hE.fl hj
  have hn6 := hP.1.2.1
  have hz0 := lo_bit (hE.2.2.1 j hj).1 hz
  have hu := IQ_unm hQ hn6 (by rw [hn]; exact hp) h0 (hr j (Nat.le_refl _) hj hz0)
  refine ⟨hu, IQ_ans hu hF hP hfl.1, IF_ans hF hfl.1, IP_ans hP, by rw [ans_np]; exact hn, by rw [ans_q b (hno _)]; exact h0, by rw [ans_s _ _ (by omega)]; exact h6, fun j' h1 h2 h3 => ?_⟩
  have ne : flN a p j' ≠ flN a p j := fun z => by
    have := hE.2.2.2 j' j h2 hj h3 hz0 (by rw [(hE.fl h2).2, hfl.2, z])
    omega
  rw [ans_o b ne (by omega)]
  exact hr j' (by omega) h2 h3
theorem Jm_all {a b : bpM} {p k : Nat} (hE : IQe a p) (hp : p < np a) (hh : ¬ 0 < a 6 p) (h : Jm a p k 0 b) : ∀ j, j ≤ qm a p → Jm a p k j (anMN a b p j)
  | 0, _ => h
  | j + 1, hj => by
    have ih := Jm_all hE hp hh h j (by omega)
    simp only [anMN]
    by_cases hz : 0 < a 16 (24 * p + j)
    · rw [if_pos hz]
      exact ⟨ih.1, ih.2.1, ih.2.2.1, ih.2.2.2.1, ih.2.2.2.2.1, ih.2.2.2.2.2.1, fun j' h1 h2 h3 => ih.2.2.2.2.2.2 j' (by omega) h2 h3⟩
    · rw [if_neg hz]
      exact (Jm_step hE hp hh (by omega) hz ih).2
theorem Jm_0 {a : bpM} {p k : Nat} (hq : ∀ q, q < np a → q ≠ p → IQp a q) (hE : IQe a p) (hF : IF a k) (hP : IP a) : Jm a p k 0 (upM (losN a p (qm a p)) 17 p 0) := by
  have hs : ∀ s, s ≠ 24 → s ≠ 17 → upM (losN a p (qm a p)) 17 p 0 s = a s := fun s h1 h2 => by rw [upM_other _ _ _ _ h2, losN_s a p h1]
  have hn : np (upM (losN a p (qm a p)) 17 p 0) = np a := by unfold np; rw [hs 2 (by decide) (by decide)]
  refine ⟨?_, IF_cg hn (hs _ (by decide) (by decide)) (hs _ (by decide) (by decide)) (hs _ (by decide) (by decide)) (hs _ (by decide) (by decide)) (hs _ (by decide) (by decide)) hF, IP_cg (hs _ (by decide) (by decide)) (hs _ (by decide) (by decide)) (hs _ (by decide) (by decide)) (hs _ (by decide) (by decide)) (hs _ (by decide) (by decide)) (hs _ (by decide) (by decide)) (hs _ (by decide) (by decide)) (hs _ (by decide) (by decide)) (hs _ (by decide) (by decide)) (hs _ (by decide) (by decide)) (hs _ (by decide) (by decide)) hP, hn, upM_at _ _ _ _, hs 6 (by decide) (by decide), fun j' _ h2 h3 => ?_⟩
  · intro q hq2
    rw [hn] at hq2
    by_cases e : q = p
    · subst e
      have hz : qm (upM (losN a q (qm a q)) 17 q 0) q = 0 := by
        show (upM _ 17 q 0 17 q).toNatClampNeg = 0
        rw [upM_at]; rfl
      unfold IQp
      rw [hz]
      exact ⟨upM_at _ _ _ _, by omega, fun z => absurd z (Nat.lt_irrefl _), fun j hj => absurd hj (Nat.not_lt_zero _), fun j _ hj => absurd hj (Nat.not_lt_zero _)⟩
    · have h17 : upM (losN a p (qm a p)) 17 p 0 17 q = a 17 q := by rw [upM_ne _ _ _ _ (by omega), losN_s a p (by decide)]
      exact IQp_cg h17 (hs 5 (by decide) (by decide)) (hs 15 (by decide) (by decide)) (hs 16 (by decide) (by decide)) (hs 18 (by decide) (by decide)) (hs 19 (by decide) (by decide)) (hq q hq2 e)
  · rw [hs 18 (by decide) (by decide)]
    obtain ⟨-, f, hf, e, q3⟩ := hE.2.2.1 j' h2
    have : flN a p j' = f := by unfold flN; rw [e]; exact nIc (by omega)
    rw [this]
    exact (q3 h3).2
theorem I_empty {a : bpM} {p k : Nat} (hq : ∀ q, q < np a → q ≠ p → IQp a q) (hE : IQe a p) (hF : IF a k) (hP : IP a) (hp : p < np a) (hh : ¬ 0 < a 6 p) : IQ (emptyF a p) ∧ IF (emptyF a p) k ∧ IP (emptyF a p) :=
  have h := Jm_all hE hp hh (Jm_0 hq hE hF hP) (qm a p) (Nat.le_refl _)
  ⟨h.1, h.2.1, h.2.2.1⟩
/-- the first one of a QUEUE leaves -/
def popF (a : bpM) (p : Nat) : bpM := fun k j => if k = 17 ∧ j = p then a 17 p - 1 else if (k = 15 ∨ k = 16) ∧ 24 * p ≤ j ∧ j + 1 < 24 * p + qm a p then a k (j + 1) else a k j
theorem pop_s (a : bpM) (p : Nat) {s : Nat} (hs : s ≠ 15 ∧ s ≠ 16 ∧ s ≠ 17) : popF a p s = a s := by
  funext j
  simp only [popF]
  rw [if_neg (by omega), if_neg (by omega)]
theorem pop_np (a : bpM) (p : Nat) : np (popF a p) = np a := by unfold np; rw [pop_s a p (by omega)]
theorem pop_in (a : bpM) {p j s : Nat} (hs : s = 15 ∨ s = 16) (hj : j + 1 < qm a p) : popF a p s (24 * p + j) = a s (24 * p + (j + 1)) := by
  simp only [popF]
  rw [if_neg (by omega), if_pos (by omega)]
  rfl
theorem pop_out (a : bpM) {p q j s : Nat} (hs : s = 15 ∨ s = 16) (hne : q ≠ p) (hj : j < 24) (hq : qm a p ≤ 24) : popF a p s (24 * q + j) = a s (24 * q + j) := by
  simp only [popF]
  rw [if_neg (by omega), if_neg (by omega)]
theorem pop_17 (a : bpM) (p : Nat) : popF a p 17 p = a 17 p - 1 := by
  simp only [popF]
  rw [if_pos ⟨trivial, trivial⟩]
theorem pop_17o (a : bpM) {p q : Nat} (h : q ≠ p) : popF a p 17 q = a 17 q := by
  simp only [popF]
  rw [if_neg (by omega), if_neg (by omega)]
theorem pop_qm {a : bpM} {p m : Nat} (h : a 17 p = nI (m + 1)) (hm : m < 20) : qm a p = m + 1 ∧ popF a p 17 p = nI m ∧ qm (popF a p) p = m := by
  have e1 : popF a p 17 p = nI m := by rw [pop_17, h]; exact nI_pred m
  refine ⟨by unfold qm; rw [h]; exact nIc (by omega), e1, by unfold qm; rw [e1]; exact nIc (by omega)⟩
theorem pop_qmo (a : bpM) {p q : Nat} (h : q ≠ p) : qm (popF a p) q = qm a q := by unfold qm; rw [pop_17o a h]
theorem mvc_un {a : bpM} {p g : Nat} (hg : g < 12) (h19 : a 19 g ≠ 0) (h18 : a 18 g = nI p) : mvc (upM a 19 g 0) p + 1 = mvc a p := by
  unfold mvc
  have := ctN_upd (P := fun f => decide (a 19 f ≠ 0) && decide (a 18 f = nI p)) (Q := fun f => decide (upM a 19 g 0 19 f ≠ 0) && decide (upM a 19 g 0 18 f = nI p)) (i := g) (fun f hf => by rw [upM_ne a 19 g 0 (k' := 19) (j' := f) (by simp [hf]), upM_ne a 19 g 0 (k' := 18) (j' := f) (by simp)]) hg
  rw [if_pos (by simp [h19, h18]), if_neg (by rw [upM_at]; simp)] at this
  omega
/-- the first one leaves: of the letters nothing else changes; a MARKER's FLOW does not move any more -/
theorem IQ_pop {a : bpM} {p m : Nat} (hQ : IQ a) (hn6 : np a ≤ 6) (hp : p < np a) (hm : qm a p = m + 1) : (¬ a 16 (24 * p) = 0 → IQ (popF a p)) ∧ (a 16 (24 * p) = 0 → IQ (upM (popF a p) 19 (flN a p 0) 0)) := by
  obtain ⟨p1, p2, p3, p4, p5⟩ := hQ p hp
  have hp20 := (hQ p hp).le
  have h17 : a 17 p = nI (m + 1) := by rw [p1, hm]
  obtain ⟨-, e17, eqm⟩ := pop_qm h17 (by omega)
  have in16 : ∀ j, j < m → popF a p 16 (24 * p + j) = a 16 (24 * p + (j + 1)) := fun j hj => pop_in a (Or.inr rfl) (by omega)
  have in15 : ∀ j, j < m → popF a p 15 (24 * p + j) = a 15 (24 * p + (j + 1)) := fun j hj => pop_in a (Or.inl rfl) (by omega)
  constructor
  · intro hz q hq
    rw [pop_np] at hq
    obtain ⟨h1, h2, h3, h4, h5⟩ := hQ q hq
    have hq20 := (hQ q hq).le
    have emv : mvc (popF a p) q = mvc a q := by unfold mvc; rw [pop_s a p (by omega), pop_s a p (by omega)]
    unfold IQp
    rw [emv, pop_s a p (s := 5) (by omega), pop_s a p (s := 18) (by omega), pop_s a p (s := 19) (by omega)]
    by_cases e : q = p
    · subst e
      rw [eqm, e17]
      refine ⟨rfl, by omega, fun _ => h3 (by omega), fun j hj => ?_, fun j j' hj hj' z z' w => ?_⟩
      · rw [in16 j hj, in15 j hj]; exact h4 (j + 1) (by omega)
      · rw [in16 j hj] at z
        rw [in16 j' hj'] at z'
        rw [in15 j hj, in15 j' hj'] at w
        have := h5 (j + 1) (j' + 1) (by omega) (by omega) z z' w
        omega
    · have o16 : ∀ j, j < qm a q → popF a p 16 (24 * q + j) = a 16 (24 * q + j) := fun j hj => pop_out a (Or.inr rfl) e (by omega) (by omega)
      have o15 : ∀ j, j < qm a q → popF a p 15 (24 * q + j) = a 15 (24 * q + j) := fun j hj => pop_out a (Or.inl rfl) e (by omega) (by omega)
      rw [pop_qmo a e, pop_17o a e]
      refine ⟨h1, h2, h3, fun j hj => ?_, fun j j' hj hj' z z' w => ?_⟩
      · rw [o16 j hj, o15 j hj]; exact h4 j hj
      · rw [o16 j hj] at z
        rw [o16 j' hj'] at z'
        rw [o15 j hj, o15 j' hj'] at w
        exact h5 j j' hj hj' z z' w
  · intro hz
    have hfl := (hQ p hp).e.fl (j := 0) (by omega)
    have hzz : a 16 (24 * p + 0) = 0 := hz
    obtain ⟨-, f0, hf0, e0, k0⟩ := p4 0 (by omega)
    have ef0 : flN a p 0 = f0 := by unfold flN; rw [e0]; exact nIc (by omega)
    obtain ⟨k19, k18⟩ := k0 hzz
    rw [ef0]
    intro q hq
    rw [np_up (by omega), pop_np] at hq
    obtain ⟨h1, h2, h3, h4, h5⟩ := hQ q hq
    have hq20 := (hQ q hq).le
    have s19 : ∀ g, upM (popF a p) 19 f0 0 19 g = upM a 19 f0 0 19 g := fun g => by simp only [upM]; rw [pop_s a p (s := 19) (by omega)]
    have emv : mvc (upM (popF a p) 19 f0 0) q = mvc (upM a 19 f0 0) q := mvc_cg (fun g _ => by rw [s19, upM_other _ 19 f0 0 (k' := 18) (by omega), upM_other _ 19 f0 0 (k' := 18) (by omega), pop_s a p (s := 18) (by omega)])
    have keep : ∀ g, g ≠ f0 → a 19 g ≠ 0 → upM (popF a p) 19 f0 0 19 g ≠ 0 := fun g hg h => by rw [s19, upM_ne _ _ _ _ (by simp [hg])]; exact h
    unfold IQp
    rw [emv, qm_up (by omega), upM_other _ 19 f0 0 (k' := 5) (by omega), upM_other _ 19 f0 0 (k' := 15) (by omega), upM_other _ 19 f0 0 (k' := 16) (by omega), upM_other _ 19 f0 0 (k' := 17) (by omega), upM_other _ 19 f0 0 (k' := 18) (by omega), pop_s a p (s := 5) (by omega), pop_s a p (s := 18) (by omega)]
    by_cases e : q = p
    · subst e
      have hmv := mvc_un hf0 k19 k18
      rw [eqm, e17]
      refine ⟨rfl, by omega, fun _ => h3 (by omega), fun j hj => ?_, fun j j' hj hj' z z' w => ?_⟩
      · rw [in16 j hj, in15 j hj]
        obtain ⟨q1, g, hg, q2, q3⟩ := h4 (j + 1) (by omega)
        refine ⟨q1, g, hg, q2, fun z => ⟨keep g (fun eg => ?_) (q3 z).1, (q3 z).2⟩⟩
        have := h5 (j + 1) 0 (by omega) (by omega) z hzz (by rw [q2, e0, eg])
        omega
      · rw [in16 j hj] at z
        rw [in16 j' hj'] at z'
        rw [in15 j hj, in15 j' hj'] at w
        have := h5 (j + 1) (j' + 1) (by omega) (by omega) z z' w
        omega
    · have ne : a 18 f0 ≠ nI q := fun z => e (nI_inj (by omega) (by omega) (k18.symm.trans z)).symm
      have emv2 : mvc (upM a 19 f0 0) q = mvc a q := mvc_cg (fun g _ => by
        rw [upM_other a 19 f0 0 (k' := 18) (by omega)]
        by_cases eg : g = f0
        · subst eg
          constructor
          · rintro ⟨-, z⟩; exact absurd z ne
          · rintro ⟨-, z⟩; exact absurd z ne
        · rw [upM_ne a 19 f0 0 (by simp [eg])])
      have o16 : ∀ j, j < qm a q → popF a p 16 (24 * q + j) = a 16 (24 * q + j) := fun j hj => pop_out a (Or.inr rfl) e (by omega) (by omega)
      have o15 : ∀ j, j < qm a q → popF a p 15 (24 * q + j) = a 15 (24 * q + j) := fun j hj => pop_out a (Or.inl rfl) e (by omega) (by omega)
      rw [pop_qmo a e, pop_17o a e, emv2]
      refine ⟨h1, h2, h3, fun j hj => ?_, fun j j' hj hj' z z' w => ?_⟩
      · rw [o16 j hj, o15 j hj]
        obtain ⟨q1, g, hg, q2, q3⟩ := h4 j hj
        refine ⟨q1, g, hg, q2, fun z => ⟨keep g (fun eg => ne (by rw [← eg]; exact (q3 z).2)) (q3 z).1, (q3 z).2⟩⟩
      · rw [o16 j hj] at z
        rw [o16 j' hj'] at z'
        rw [o15 j hj, o15 j' hj'] at w
        exact h5 j j' hj hj' z z' w
theorem IF_pop {a : bpM} {p k : Nat} (h : IF a k) : IF (popF a p) k := IF_cg (pop_np a p) (pop_s a p (by omega)) (pop_s a p (by omega)) (pop_s a p (by omega)) (pop_s a p (by omega)) (pop_s a p (by omega)) h
theorem IP_pop {a : bpM} {p : Nat} (h : IP a) : IP (popF a p) := IP_cg (pop_s a p (by omega)) (pop_s a p (by omega)) (pop_s a p (by omega)) (pop_s a p (by omega)) (pop_s a p (by omega)) (pop_s a p (by omega)) (pop_s a p (by omega)) (pop_s a p (by omega)) (pop_s a p (by omega)) (pop_s a p (by omega)) (pop_s a p (by omega)) h
/-- the first one of a QUEUE goes out: how many letters -/
def goF (a : bpM) (p : Nat) : bpM × Int32 :=
  if a 17 p = 0 then (a, 0)
  else if a 16 (24 * p) = 0 then (answerF (popF a p) (flN a p 0), 0)
  else (upM (upM (popF a p) 23 (flN a p 0) (a 23 (flN a p 0) + 1)) 25 (flN a p 0) (a 16 (24 * p)), 1)
theorem I_go {a : bpM} {p k : Nat} (hQ : IQ a) (hF : IF a k) (hP : IP a) (hp : p < np a) : IQ (goF a p).1 ∧ IF (goF a p).1 k ∧ IP (goF a p).1 ∧ np (goF a p).1 = np a ∧ (goF a p).1 5 = a 5 := by
  have hn6 := hP.1.2.1
  unfold goF
  by_cases h0 : a 17 p = 0
  · rw [if_pos h0]; exact ⟨hQ, hF, hP, rfl, rfl⟩
  · rw [if_neg h0]
    have e17 := (hQ p hp).1
    obtain ⟨m, hm⟩ : ∃ m, qm a p = m + 1 := by
      cases hq : qm a p with
      | zero => exact absurd (by rw [e17, hq]; rfl) h0
      | succ m => exact ⟨m, rfl⟩
    have hfl := (hQ p hp).e.fl (j := 0) (by omega)
    obtain ⟨g1, g2⟩ := IQ_pop hQ hn6 hp hm
    by_cases hz : a 16 (24 * p) = 0
    · rw [if_pos hz]
      exact ⟨IQ_ans (g2 hz) (IF_pop hF) (IP_pop hP) hfl.1, IF_ans (IF_pop hF) hfl.1, IP_ans (IP_pop hP), by rw [ans_np, pop_np], by show answerF (popF a p) (flN a p 0) 5 = a 5; rw [ans_s _ _ (by omega), pop_s _ _ (by omega)]⟩
    · rw [if_neg hz]
      exact ⟨IQ_up (by omega) (IQ_up (by omega) (g1 hz)), IF_up (by omega) (IF_up (by omega) (IF_pop hF)), IP_up (by omega) (IP_up (by omega) (IP_pop hP)), by rw [np_up (by omega), np_up (by omega), pop_np], by show upM (upM (popF a p) 23 (flN a p 0) (a 23 (flN a p 0) + 1)) 25 (flN a p 0) (a 16 (24 * p)) 5 = a 5; rw [upM_other _ _ _ _ (by omega), upM_other _ _ _ _ (by omega), pop_s _ _ (by omega)]⟩
