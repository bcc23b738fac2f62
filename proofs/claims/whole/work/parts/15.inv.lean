/-! what stays true of the numbers -/
theorem ctN_upd {P Q : Nat → Bool} {i : Nat} (h : ∀ k, k ≠ i → P k = Q k) : ∀ {n : Nat}, i < n → ctN Q n + (if P i then 1 else 0) = ctN P n + (if Q i then 1 else 0)
  | 0, hn => absurd hn (Nat.not_lt_zero _)
  | n + 1, hn => by
    simp only [ctN]
    by_cases e : i = n
    · subst e
      rw [ctN_cong (P := P) (Q := Q) (fun k hk => h k (by omega))]
      omega
    · have := ctN_upd h (show i < n by omega)
      rw [h n (fun q => e q.symm)]
      omega
theorem ctN_lt {P : Nat → Bool} {i n : Nat} (hi : i < n) (h : P i = false) : ctN P n < n := by
  have h1 := ctN_upd (P := P) (Q := fun k => if k = i then true else P k) (i := i) (fun k hk => by simp [hk]) hi
  have h2 := ctN_le (fun k => if k = i then true else P k) n
  rw [if_neg (by rw [h]; decide), if_pos (by simp)] at h1
  omega
theorem mvc_cg {a b : bpM} {p : Nat} (h : ∀ f, f < 12 → (a 19 f ≠ 0 ∧ a 18 f = nI p ↔ b 19 f ≠ 0 ∧ b 18 f = nI p)) : mvc a p = mvc b p := by
  unfold mvc
  refine ctN_cong (fun f hf => ?_)
  have := h f hf
  rw [Bool.eq_iff_iff]
  simpa using this
theorem mvc_up {a : bpM} {s t : Nat} {v : Int32} (hs : s ≠ 18 ∧ s ≠ 19) (p : Nat) : mvc (upM a s t v) p = mvc a p := by
  unfold mvc
  rw [upM_other a s t v (k' := 18) (by omega), upM_other a s t v (k' := 19) (by omega)]
theorem mvc_le {a : bpM} {p f : Nat} (hf : f < 12) (h : a 19 f = 0) : mvc a p ≤ 11 := by
  have := ctN_lt (P := fun f => decide (a 19 f ≠ 0) && decide (a 18 f = nI p)) hf (by simp [h])
  unfold mvc
  omega
/-- a slot that IQ does not speak of -/
theorem IQp_up {a : bpM} {s t p : Nat} {v : Int32} (hs : s ≠ 5 ∧ s ≠ 15 ∧ s ≠ 16 ∧ s ≠ 17 ∧ s ≠ 18 ∧ s ≠ 19) (h : IQp a p) : IQp (upM a s t v) p := by
  unfold IQp at h ⊢
  rw [qm_up (by omega), mvc_up (by omega), upM_other a s t v (k' := 5) (by omega), upM_other a s t v (k' := 15) (by omega), upM_other a s t v (k' := 16) (by omega), upM_other a s t v (k' := 17) (by omega), upM_other a s t v (k' := 18) (by omega), upM_other a s t v (k' := 19) (by omega)]
  exact h
theorem IQ_up {a : bpM} {s t : Nat} {v : Int32} (hs : s ≠ 2 ∧ s ≠ 5 ∧ s ≠ 15 ∧ s ≠ 16 ∧ s ≠ 17 ∧ s ≠ 18 ∧ s ≠ 19) (h : IQ a) : IQ (upM a s t v) := by
  intro p hp
  rw [np_up (by omega)] at hp
  exact IQp_up (by omega) (h p hp)
theorem IQ_lost {a : bpM} {f : Nat} (h : IQ a) : IQ (lostF a f) := IQ_up (by omega) h
/-- where a FLOW that does not move is -/
theorem IQ_on {a : bpM} {f : Nat} {v : Int32} (h0 : a 19 f = 0) (h : IQ a) : IQ (upM a 18 f v) := by
  intro p hp
  rw [np_up (by omega)] at hp
  obtain ⟨h1, h2, h3, h4, h5⟩ := h p hp
  have e18 : ∀ g, g ≠ f → upM a 18 f v 18 g = a 18 g := fun g hg => upM_ne _ _ _ _ (fun q => hg q.2)
  have emv : mvc (upM a 18 f v) p = mvc a p := mvc_cg (fun g _ => by
    rw [upM_other a 18 f v (k' := 19) (by omega)]
    by_cases e : g = f
    · subst e
      simp [h0]
    · rw [e18 g e])
  unfold IQp
  rw [qm_up (by omega), emv, upM_other a 18 f v (k' := 5) (by omega), upM_other a 18 f v (k' := 15) (by omega), upM_other a 18 f v (k' := 16) (by omega), upM_other a 18 f v (k' := 17) (by omega), upM_other a 18 f v (k' := 19) (by omega)]
  refine ⟨h1, h2, h3, fun j hj => ?_, h5⟩
  obtain ⟨q1, g, hg, q2, q3⟩ := h4 j hj
  refine ⟨q1, g, hg, q2, fun z => ?_⟩
  have := q3 z
  refine ⟨this.1, ?_⟩
  rw [e18 g (fun e => this.1 (by rw [e]; exact h0))]
  exact this.2
/-- a letter comes into a QUEUE that has room -/
theorem IQ_lay {a : bpM} {p f : Nat} {n : Int32} (h : IQ a) (hp : p < np a) (hf : f < 12) (h8 : qm a p < 8) (hn : 0 < n) (hup : a 5 p = 1) : IQ (layF a p (nI f) n) := by
  have e17 := (h p hp).1
  have eq1 : a 17 p + 1 = nI (qm a p + 1) := by rw [e17]; exact nI_1 _
  unfold layF
  rw [eq1]
  intro q hq
  rw [np_up (by omega), np_up (by omega), np_up (by omega)] at hq
  obtain ⟨h1, h2, h3, h4, h5⟩ := h q hq
  have hq20 := (h q hq).le
  unfold IQp
  rw [mvc_up (by omega), mvc_up (by omega), mvc_up (by omega)]
  by_cases e : q = p
  · subst e
    have eh : qm (upM (upM (upM a 15 (24 * q + qm a q) (nI f)) 16 (24 * q + qm a q) n) 17 q (nI (qm a q + 1))) q = qm a q + 1 := by
      show (upM _ 17 q (nI (qm a q + 1)) 17 q).toNatClampNeg = _
      rw [upM_at]; exact nIc (by omega)
    have g15 : ∀ j, j < qm a q → upM (upM (upM a 15 (24 * q + qm a q) (nI f)) 16 (24 * q + qm a q) n) 17 q (nI (qm a q + 1)) 15 (24 * q + j) = a 15 (24 * q + j) := fun j hj => by rw [upM_ne _ _ _ _ (by omega), upM_ne _ _ _ _ (by omega), upM_ne _ _ _ _ (by omega)]
    have g16 : ∀ j, j < qm a q → upM (upM (upM a 15 (24 * q + qm a q) (nI f)) 16 (24 * q + qm a q) n) 17 q (nI (qm a q + 1)) 16 (24 * q + j) = a 16 (24 * q + j) := fun j hj => by rw [upM_ne _ _ _ _ (by omega), upM_ne _ _ _ _ (by omega), upM_ne _ _ _ _ (by omega)]
    have m16 : upM (upM (upM a 15 (24 * q + qm a q) (nI f)) 16 (24 * q + qm a q) n) 17 q (nI (qm a q + 1)) 16 (24 * q + qm a q) = n := by rw [upM_ne _ _ _ _ (by omega), upM_at]
    have m15 : upM (upM (upM a 15 (24 * q + qm a q) (nI f)) 16 (24 * q + qm a q) n) 17 q (nI (qm a q + 1)) 15 (24 * q + qm a q) = nI f := by rw [upM_ne _ _ _ _ (by omega), upM_ne _ _ _ _ (by omega), upM_at]
    have g5 : upM (upM (upM a 15 (24 * q + qm a q) (nI f)) 16 (24 * q + qm a q) n) 17 q (nI (qm a q + 1)) 5 q = a 5 q := by rw [upM_ne _ _ _ _ (by omega), upM_ne _ _ _ _ (by omega), upM_ne _ _ _ _ (by omega)]
    have g18 : upM (upM (upM a 15 (24 * q + qm a q) (nI f)) 16 (24 * q + qm a q) n) 17 q (nI (qm a q + 1)) 18 = a 18 := by rw [upM_other _ _ _ _ (by omega), upM_other _ _ _ _ (by omega), upM_other _ _ _ _ (by omega)]
    have g19 : upM (upM (upM a 15 (24 * q + qm a q) (nI f)) 16 (24 * q + qm a q) n) 17 q (nI (qm a q + 1)) 19 = a 19 := by rw [upM_other _ _ _ _ (by omega), upM_other _ _ _ _ (by omega), upM_other _ _ _ _ (by omega)]
    have n0 : ¬ n = 0 := fun z => by rw [z] at hn; exact absurd hn (by decide)
    rw [eh, g18, g19, g5]
    refine ⟨upM_at _ _ _ _, by omega, fun _ => hup, fun j hj => ?_, fun j j' hj hj' z z' w => ?_⟩
    · by_cases ej : j = qm a q
      · subst ej
        rw [m16, m15]
        refine ⟨?_, f, hf, rfl, fun z => absurd z n0⟩
        rw [i_le, i_0]; rw [i_lt, i_0] at hn; omega
      · rw [g16 j (by omega), g15 j (by omega)]
        exact h4 j (by omega)
    · have d1 : j ≠ qm a q := fun z2 => by rw [z2, m16] at z; exact n0 z
      have d2 : j' ≠ qm a q := fun z2 => by rw [z2, m16] at z'; exact n0 z'
      rw [g16 j (by omega)] at z
      rw [g16 j' (by omega)] at z'
      rw [g15 j (by omega), g15 j' (by omega)] at w
      exact h5 j j' (by omega) (by omega) z z' w
  · have eh : qm (upM (upM (upM a 15 (24 * p + qm a p) (nI f)) 16 (24 * p + qm a p) n) 17 p (nI (qm a p + 1))) q = qm a q := by
      show (upM _ 17 p (nI (qm a p + 1)) 17 q).toNatClampNeg = _
      rw [upM_ne _ _ _ _ (by omega), upM_ne _ _ _ _ (by omega), upM_ne _ _ _ _ (by omega)]
      rfl
    have hp20 := (h p hp).le
    have g15 : ∀ j, j < qm a q → upM (upM (upM a 15 (24 * p + qm a p) (nI f)) 16 (24 * p + qm a p) n) 17 p (nI (qm a p + 1)) 15 (24 * q + j) = a 15 (24 * q + j) := fun j hj => by rw [upM_ne _ _ _ _ (by omega), upM_ne _ _ _ _ (by omega), upM_ne _ _ _ _ (by omega)]
    have g16 : ∀ j, j < qm a q → upM (upM (upM a 15 (24 * p + qm a p) (nI f)) 16 (24 * p + qm a p) n) 17 p (nI (qm a p + 1)) 16 (24 * q + j) = a 16 (24 * q + j) := fun j hj => by rw [upM_ne _ _ _ _ (by omega), upM_ne _ _ _ _ (by omega), upM_ne _ _ _ _ (by omega)]
    have g5 : upM (upM (upM a 15 (24 * p + qm a p) (nI f)) 16 (24 * p + qm a p) n) 17 p (nI (qm a p + 1)) 5 q = a 5 q := by rw [upM_ne _ _ _ _ (by omega), upM_ne _ _ _ _ (by omega), upM_ne _ _ _ _ (by omega)]
    have g17 : upM (upM (upM a 15 (24 * p + qm a p) (nI f)) 16 (24 * p + qm a p) n) 17 p (nI (qm a p + 1)) 17 q = a 17 q := by rw [upM_ne _ _ _ _ (by omega), upM_ne _ _ _ _ (by omega), upM_ne _ _ _ _ (by omega)]
    have g18 : upM (upM (upM a 15 (24 * p + qm a p) (nI f)) 16 (24 * p + qm a p) n) 17 p (nI (qm a p + 1)) 18 = a 18 := by rw [upM_other _ _ _ _ (by omega), upM_other _ _ _ _ (by omega), upM_other _ _ _ _ (by omega)]
    have g19 : upM (upM (upM a 15 (24 * p + qm a p) (nI f)) 16 (24 * p + qm a p) n) 17 p (nI (qm a p + 1)) 19 = a 19 := by rw [upM_other _ _ _ _ (by omega), upM_other _ _ _ _ (by omega), upM_other _ _ _ _ (by omega)]
    rw [eh, g18, g19, g5, g17]
    refine ⟨h1, h2, h3, fun j hj => ?_, fun j j' hj hj' z z' w => ?_⟩
    · rw [g16 j hj, g15 j hj]
      exact h4 j hj
    · rw [g16 j hj] at z
      rw [g16 j' hj'] at z'
      rw [g15 j hj, g15 j' hj'] at w
      exact h5 j j' hj hj' z z' w
/-- a marker comes: its FLOW moves from then on -/
theorem IQ_mark {a : bpM} {p f : Nat} (h : IQ a) (hn6 : np a ≤ 6) (hp : p < np a) (hf : f < 12) (h0 : a 19 f = 0) (hon : a 18 f = nI p) (h1q : 0 < qm a p) : IQ (layF (upM a 19 f 1) p (nI f) 0) := by
  have e17 := (h p hp).1
  have hp20 := (h p hp).le
  have hm11 := mvc_le (p := p) hf h0
  have hqb := (h p hp).2.1
  have hn := hp
  have eq0 : qm (upM a 19 f 1) p = qm a p := qm_up (by omega) p
  have eq1 : upM a 19 f 1 17 p + 1 = nI (qm a p + 1) := by rw [upM_ne _ _ _ _ (by omega), e17]; exact nI_1 _
  unfold layF
  rw [eq0, eq1]
  intro q hq
  rw [np_up (by omega), np_up (by omega), np_up (by omega), np_up (by omega)] at hq
  obtain ⟨h1, h2, h3, h4, h5⟩ := h q hq
  have hq20 := (h q hq).le
  have nof : ∀ j, j < qm a q → a 16 (24 * q + j) = 0 → a 15 (24 * q + j) ≠ nI f := by
    intro j hj z w
    obtain ⟨-, g, hg, w2, w3⟩ := h4 j hj
    have : g = f := nI_inj (by omega) (by omega) (w2.symm.trans w)
    subst this
    exact (w3 z).1 h0
  have g18 : ∀ v : Int32, ∀ i j, upM (upM (upM (upM a 19 f 1) 15 i (nI f)) 16 i 0) 17 j v 18 = a 18 := fun v i j => by rw [upM_other _ _ _ _ (by omega), upM_other _ _ _ _ (by omega), upM_other _ _ _ _ (by omega), upM_other _ _ _ _ (by omega)]
  have g19 : ∀ v : Int32, ∀ i j, upM (upM (upM (upM a 19 f 1) 15 i (nI f)) 16 i 0) 17 j v 19 = upM a 19 f 1 19 := fun v i j => by rw [upM_other _ _ _ _ (by omega), upM_other _ _ _ _ (by omega), upM_other _ _ _ _ (by omega)]
  have k19 : ∀ g, a 19 g ≠ 0 → upM a 19 f 1 19 g ≠ 0 := fun g hg => by
    simp only [upM]
    split
    · decide
    · exact hg
  unfold IQp
  rw [mvc_up (by omega), mvc_up (by omega), mvc_up (by omega)]
  by_cases e : q = p
  · subst e
    have emv : mvc (upM a 19 f 1) q = mvc a q + 1 := by
      unfold mvc
      have := ctN_upd (P := fun f => decide (a 19 f ≠ 0) && decide (a 18 f = nI q)) (Q := fun g => decide (upM a 19 f 1 19 g ≠ 0) && decide (upM a 19 f 1 18 g = nI q)) (i := f) (fun g hg => by rw [upM_ne a 19 f 1 (k' := 19) (j' := g) (by simp [hg]), upM_ne a 19 f 1 (k' := 18) (j' := g) (by simp)]) hf
      rw [if_neg (by simp [h0]), if_pos (by rw [upM_at, upM_ne _ _ _ _ (by simp), hon]; simp)] at this
      omega
    have eh : qm (upM (upM (upM (upM a 19 f 1) 15 (24 * q + qm a q) (nI f)) 16 (24 * q + qm a q) 0) 17 q (nI (qm a q + 1))) q = qm a q + 1 := by
      show (upM _ 17 q (nI (qm a q + 1)) 17 q).toNatClampNeg = _
      rw [upM_at]; exact nIc (by omega)
    have g15 : ∀ j, j < qm a q → upM (upM (upM (upM a 19 f 1) 15 (24 * q + qm a q) (nI f)) 16 (24 * q + qm a q) 0) 17 q (nI (qm a q + 1)) 15 (24 * q + j) = a 15 (24 * q + j) := fun j hj => by rw [upM_ne _ _ _ _ (by omega), upM_ne _ _ _ _ (by omega), upM_ne _ _ _ _ (by omega), upM_ne _ _ _ _ (by omega)]
    have g16 : ∀ j, j < qm a q → upM (upM (upM (upM a 19 f 1) 15 (24 * q + qm a q) (nI f)) 16 (24 * q + qm a q) 0) 17 q (nI (qm a q + 1)) 16 (24 * q + j) = a 16 (24 * q + j) := fun j hj => by rw [upM_ne _ _ _ _ (by omega), upM_ne _ _ _ _ (by omega), upM_ne _ _ _ _ (by omega), upM_ne _ _ _ _ (by omega)]
    have m16 : upM (upM (upM (upM a 19 f 1) 15 (24 * q + qm a q) (nI f)) 16 (24 * q + qm a q) 0) 17 q (nI (qm a q + 1)) 16 (24 * q + qm a q) = 0 := by rw [upM_ne _ _ _ _ (by omega), upM_at]
    have m15 : upM (upM (upM (upM a 19 f 1) 15 (24 * q + qm a q) (nI f)) 16 (24 * q + qm a q) 0) 17 q (nI (qm a q + 1)) 15 (24 * q + qm a q) = nI f := by rw [upM_ne _ _ _ _ (by omega), upM_ne _ _ _ _ (by omega), upM_at]
    have g5 : upM (upM (upM (upM a 19 f 1) 15 (24 * q + qm a q) (nI f)) 16 (24 * q + qm a q) 0) 17 q (nI (qm a q + 1)) 5 q = a 5 q := by rw [upM_ne _ _ _ _ (by omega), upM_ne _ _ _ _ (by omega), upM_ne _ _ _ _ (by omega), upM_ne _ _ _ _ (by omega)]
    rw [eh, g18, g19, g5, emv]
    refine ⟨upM_at _ _ _ _, by omega, fun _ => h3 h1q, fun j hj => ?_, fun j j' hj hj' z z' w => ?_⟩
    · by_cases ej : j = qm a q
      · subst ej
        rw [m16, m15]
        exact ⟨by decide, f, hf, rfl, fun _ => ⟨by rw [upM_at]; decide, hon⟩⟩
      · rw [g16 j (by omega), g15 j (by omega)]
        obtain ⟨q1, g, hg, q2, q3⟩ := h4 j (by omega)
        exact ⟨q1, g, hg, q2, fun z => ⟨k19 g (q3 z).1, (q3 z).2⟩⟩
    · by_cases ej : j = qm a q
      · by_cases ej' : j' = qm a q
        · omega
        · exfalso
          rw [ej, m15, g15 j' (by omega)] at w
          rw [g16 j' (by omega)] at z'
          exact nof j' (by omega) z' w.symm
      · by_cases ej' : j' = qm a q
        · exfalso
          rw [ej', m15, g15 j (by omega)] at w
          rw [g16 j (by omega)] at z
          exact nof j (by omega) z w
        · rw [g16 j (by omega)] at z
          rw [g16 j' (by omega)] at z'
          rw [g15 j (by omega), g15 j' (by omega)] at w
          exact h5 j j' (by omega) (by omega) z z' w
  · have emv : mvc (upM a 19 f 1) q = mvc a q := mvc_cg (fun g _ => by
      rw [upM_other a 19 f 1 (k' := 18) (by omega)]
      by_cases eg : g = f
      · subst eg
        rw [upM_at, hon]
        constructor
        · rintro ⟨-, z⟩
          exact absurd (nI_inj (by omega) (by omega) z).symm (by omega)
        · rintro ⟨z, -⟩
          exact absurd h0 z
      · rw [upM_ne a 19 f 1 (by simp [eg])])
    have eh : qm (upM (upM (upM (upM a 19 f 1) 15 (24 * p + qm a p) (nI f)) 16 (24 * p + qm a p) 0) 17 p (nI (qm a p + 1))) q = qm a q := by
      show (upM _ 17 p (nI (qm a p + 1)) 17 q).toNatClampNeg = _
      rw [upM_ne _ _ _ _ (by omega), upM_ne _ _ _ _ (by omega), upM_ne _ _ _ _ (by omega), upM_ne _ _ _ _ (by omega)]
      rfl
    have g15 : ∀ j, j < qm a q → upM (upM (upM (upM a 19 f 1) 15 (24 * p + qm a p) (nI f)) 16 (24 * p + qm a p) 0) 17 p (nI (qm a p + 1)) 15 (24 * q + j) = a 15 (24 * q + j) := fun j hj => by rw [upM_ne _ _ _ _ (by omega), upM_ne _ _ _ _ (by omega), upM_ne _ _ _ _ (by omega), upM_ne _ _ _ _ (by omega)]
    have g16 : ∀ j, j < qm a q → upM (upM (upM (upM a 19 f 1) 15 (24 * p + qm a p) (nI f)) 16 (24 * p + qm a p) 0) 17 p (nI (qm a p + 1)) 16 (24 * q + j) = a 16 (24 * q + j) := fun j hj => by rw [upM_ne _ _ _ _ (by omega), upM_ne _ _ _ _ (by omega), upM_ne _ _ _ _ (by omega), upM_ne _ _ _ _ (by omega)]
    have g5 : upM (upM (upM (upM a 19 f 1) 15 (24 * p + qm a p) (nI f)) 16 (24 * p + qm a p) 0) 17 p (nI (qm a p + 1)) 5 q = a 5 q := by rw [upM_ne _ _ _ _ (by omega), upM_ne _ _ _ _ (by omega), upM_ne _ _ _ _ (by omega), upM_ne _ _ _ _ (by omega)]
    have g17 : upM (upM (upM (upM a 19 f 1) 15 (24 * p + qm a p) (nI f)) 16 (24 * p + qm a p) 0) 17 p (nI (qm a p + 1)) 17 q = a 17 q := by rw [upM_ne _ _ _ _ (by omega), upM_ne _ _ _ _ (by omega), upM_ne _ _ _ _ (by omega), upM_ne _ _ _ _ (by omega)]
    rw [eh, g18, g19, g5, g17, emv]
    refine ⟨h1, h2, h3, fun j hj => ?_, fun j j' hj hj' z z' w => ?_⟩
    · rw [g16 j hj, g15 j hj]
      obtain ⟨q1, g, hg, q2, q3⟩ := h4 j hj
      exact ⟨q1, g, hg, q2, fun z => ⟨k19 g (q3 z).1, (q3 z).2⟩⟩
    · rw [g16 j hj] at z
      rw [g16 j' hj'] at z'
      rw [g15 j hj, g15 j' hj'] at w
      exact h5 j j' hj hj' z z' w
/-- what comes, or is lost, keeps the queues -/
theorem come_np (a : bpM) (w : Option Nat) (f : Nat) (n : Int32) : np (comeF a w f n).1 = np a := by
  cases w with
  | none => exact np_up (by decide)
  | some p =>
    simp only [comeF]
    split
    · exact np_up (by decide)
    · unfold layF; rw [np_up (by decide), np_up (by decide), np_up (by decide)]
theorem come_s (a : bpM) (w : Option Nat) (f : Nat) (n : Int32) {s : Nat} (hs : s ≠ 15 ∧ s ≠ 16 ∧ s ≠ 17 ∧ s ≠ 24) : (comeF a w f n).1 s = a s := by
  cases w with
  | none => exact upM_other _ _ _ _ (by omega)
  | some p =>
    simp only [comeF]
    split
    · exact upM_other _ _ _ _ (by omega)
    · show layF a p (nI f) n s = a s
      unfold layF
      rw [upM_other _ _ _ _ (by omega), upM_other _ _ _ _ (by omega), upM_other _ _ _ _ (by omega)]
theorem come_q (a : bpM) {w : Option Nat} (f : Nat) (n : Int32) {q : Nat} (hq : w ≠ some q) : (comeF a w f n).1 17 q = a 17 q := by
  cases w with
  | none => exact upM_ne a 24 f (a 24 f + 1) (k' := 17) (j' := q) (by omega)
  | some p =>
    have : q ≠ p := fun e => hq (by rw [e])
    simp only [comeF]
    split
    · exact upM_ne a 24 f (a 24 f + 1) (k' := 17) (j' := q) (by omega)
    · show layF a p (nI f) n 17 q = a 17 q
      unfold layF
      rw [upM_ne _ _ _ _ (by omega), upM_ne _ _ _ _ (by omega), upM_ne _ _ _ _ (by omega)]
theorem IQ_come {a : bpM} {w : Option Nat} {f : Nat} {n : Int32} (h : IQ a) (hf : f < 12) (hn : 0 < n) (hw : ∀ p, w = some p → p < np a ∧ a 5 p = 1) : IQ (comeF a w f n).1 := by
  cases w with
  | none => exact IQ_lost h
  | some p =>
    obtain ⟨hp, h5⟩ := hw p rfl
    have e17 := (h p hp).1
    have h20 := (h p hp).le
    simp only [comeF]
    by_cases h8 : 8 ≤ a 17 p
    · rw [if_pos h8]; exact IQ_lost h
    · rw [if_neg h8]
      refine IQ_lay h hp hf ?_ hn h5
      rw [e17, i_le, i_8, i_n (by omega)] at h8
      omega
theorem ansN_np (a : bpM) (w : Option Nat) (f : Nat) (v : Nat → Int32) : ∀ k, np (ansN a w f v k) = np a
  | 0 => rfl
  | k + 1 => by simp only [ansN]; rw [come_np, ansN_np a w f v k]
theorem ansN_s (a : bpM) (w : Option Nat) (f : Nat) (v : Nat → Int32) {s : Nat} (hs : s ≠ 15 ∧ s ≠ 16 ∧ s ≠ 17 ∧ s ≠ 24) : ∀ k, ansN a w f v k s = a s
  | 0 => rfl
  | k + 1 => by simp only [ansN]; rw [come_s _ _ _ _ hs, ansN_s a w f v hs k]
theorem ansN_q (a : bpM) {w : Option Nat} (f : Nat) (v : Nat → Int32) {q : Nat} (hq : w ≠ some q) : ∀ k, ansN a w f v k 17 q = a 17 q
  | 0 => rfl
  | k + 1 => by simp only [ansN]; rw [come_q _ _ _ hq, ansN_q a f v hq k]
theorem IQ_ansN {a : bpM} {w : Option Nat} {f : Nat} {v : Nat → Int32} (h : IQ a) (hf : f < 12) (hw : ∀ p, w = some p → p < np a ∧ a 5 p = 1) : ∀ k, (∀ j, j < k → 0 < v j) → IQ (ansN a w f v k)
  | 0, _ => h
  | k + 1, hv => by
    simp only [ansN]
    refine IQ_come (IQ_ansN h hf hw k (fun j hj => hv j (by omega))) hf (hv k (by omega)) (fun p hp => ?_)
    rw [ansN_np, ansN_s _ _ _ _ (by omega)]
    exact hw p hp
theorem IP_way {a : bpM} (h : IP a) {f p : Nat} (hw : way a f = some p) : p < np a ∧ a 5 p = 1 :=
  ⟨way_lt hw, (h.2 p (way_lt hw)).2.2.2.1 (stat_heard (way_car hw))⟩
theorem ans_s (a : bpM) (f : Nat) {s : Nat} (hs : s ≠ 15 ∧ s ≠ 16 ∧ s ≠ 17 ∧ s ≠ 18 ∧ s ≠ 19 ∧ s ≠ 20 ∧ s ≠ 24 ∧ s ≠ 27) : answerF a f s = a s := by
  unfold answerF ansB
  rw [ansN_s _ _ _ _ (by omega), upM_other _ _ _ _ (by omega), upM_other _ _ _ _ (by omega), upM_other _ _ _ _ (by omega), upM_other _ _ _ _ (by omega)]
theorem ans_np (a : bpM) (f : Nat) : np (answerF a f) = np a := by
  unfold np
  rw [ans_s _ _ (by omega)]
/-- of another FLOW nothing changes, but what it lost -/
theorem ans_o (a : bpM) {f g : Nat} (hg : g ≠ f) {s : Nat} (hs : s = 18 ∨ s = 19 ∨ s = 20) : answerF a f s g = a s g := by
  unfold answerF ansB
  rw [ansN_s _ _ _ _ (by omega), upM_ne _ _ _ _ (by omega), upM_ne _ _ _ _ (by omega), upM_ne _ _ _ _ (by omega), upM_ne _ _ _ _ (by omega)]
theorem ans_q (a : bpM) {f q : Nat} (hq : way a f ≠ some q) : answerF a f 17 q = a 17 q := by
  unfold answerF ansB
  rw [ansN_q _ _ _ hq, upM_ne _ _ _ _ (by omega), upM_ne _ _ _ _ (by omega), upM_ne _ _ _ _ (by omega), upM_ne _ _ _ _ (by omega)]
theorem IQ_ans {a : bpM} {f k : Nat} (h : IQ (upM a 19 f 0)) (hF : IF a k) (hP : IP a) (hf : f < 12) : IQ (answerF a f) := by
  unfold answerF ansB
  refine IQ_ansN (IQ_up (by omega) (IQ_on ?_ (IQ_up (by omega) h))) hf (fun p hp => ?_) (hm a f) (fun j hj => (hF f hf).2.2.2.2.1 j hj)
  · rw [upM_ne _ _ _ _ (by omega), upM_at]
  · have := IP_way hP hp
    rw [np_up (by omega), np_up (by omega), np_up (by omega), np_up (by omega), upM_ne _ _ _ _ (by omega), upM_ne _ _ _ _ (by omega), upM_ne _ _ _ _ (by omega), upM_ne _ _ _ _ (by omega)]
    exact this
theorem IF_cg {a b : bpM} {k : Nat} (hn : np b = np a) (h18 : b 18 = a 18) (h19 : b 19 = a 19) (h20 : b 20 = a 20) (h21 : b 21 = a 21) (h22 : b 22 = a 22) (h : IF a k) : IF b k := by
  intro f hf
  have := h f hf
  unfold IFf hm at this ⊢
  rw [hn, h18, h19, h20, h21, h22]
  exact this
theorem IF_ans {a : bpM} {f k : Nat} (hF : IF a k) (hf : f < 12) : IF (answerF a f) k := by
  intro g hg
  obtain ⟨h1, h2, h3, h4, h5, h6⟩ := hF g hg
  unfold IFf
  rw [ans_np, ans_s a f (s := 21) (by omega), ans_s a f (s := 22) (by omega)]
  by_cases e : g = f
  · subst e
    have e18 : answerF a g 18 g = oI (way a g) := by
      unfold answerF ansB
      rw [ansN_s _ _ _ _ (by omega), upM_ne _ _ _ _ (by omega), upM_at]
    have e19 : answerF a g 19 g = 0 := by
      unfold answerF ansB
      rw [ansN_s _ _ _ _ (by omega), upM_ne _ _ _ _ (by omega), upM_ne _ _ _ _ (by omega), upM_ne _ _ _ _ (by omega), upM_at]
    have e20 : answerF a g 20 g = 0 := by
      unfold answerF
      rw [ansN_s _ _ _ _ (by omega), upM_at]
    have eh : hm (answerF a g) g = 0 := by unfold hm; rw [e20]; rfl
    rw [e18, e19, e20, eh]
    refine ⟨Or.inl rfl, ?_, rfl, by omega, fun j hj => absurd hj (Nat.not_lt_zero _), h6⟩
    cases hw : way a g with
    | none => exact Or.inl rfl
    | some p => exact Or.inr ⟨p, way_lt hw, rfl⟩
  · have eh : hm (answerF a f) g = hm a g := by unfold hm; rw [ans_o a e (by omega)]
    rw [ans_o a e (s := 18) (by omega), ans_o a e (s := 19) (by omega), ans_o a e (s := 20) (by omega), eh]
    exact ⟨h1, h2, h3, h4, h5, h6⟩
theorem IP_cg {a b : bpM} (h2 : b 2 = a 2) (h3 : b 3 = a 3) (h4 : b 4 = a 4) (h5 : b 5 = a 5) (h6 : b 6 = a 6) (h7 : b 7 = a 7) (h8 : b 8 = a 8) (h9 : b 9 = a 9) (h10 : b 10 = a 10) (h11 : b 11 = a 11) (h13 : b 13 = a 13) (h : IP a) : IP b := by
  have hn : np b = np a := by unfold np; rw [h2]
  have hc : ∀ p, choi b p = choi a p := fun p => choi_cg hn h3 h4 h6 h7 (by rw [h11]) p
  refine ⟨?_, fun p hp => ?_⟩
  · have := h.1
    unfold Bas sh at this ⊢
    rw [hn, h2, h13]
    exact this
  · rw [hn] at hp
    have := h.2 p hp
    unfold IPp at this ⊢
    rw [hc, h3, h5, h6, h8, h9, h10]
    exact this
theorem IP_up {a : bpM} {s t : Nat} {v : Int32} (hs : s = 0 ∨ s = 1 ∨ s = 12 ∨ 14 ≤ s) (h : IP a) : IP (upM a s t v) :=
  IP_cg (upM_other _ _ _ _ (by omega)) (upM_other _ _ _ _ (by omega)) (upM_other _ _ _ _ (by omega)) (upM_other _ _ _ _ (by omega)) (upM_other _ _ _ _ (by omega)) (upM_other _ _ _ _ (by omega)) (upM_other _ _ _ _ (by omega)) (upM_other _ _ _ _ (by omega)) (upM_other _ _ _ _ (by omega)) (upM_other _ _ _ _ (by omega)) (upM_other _ _ _ _ (by omega)) h
theorem IP_ans {a : bpM} {f : Nat} (h : IP a) : IP (answerF a f) :=
  IP_cg (ans_s _ _ (by omega)) (ans_s _ _ (by omega)) (ans_s _ _ (by omega)) (ans_s _ _ (by omega)) (ans_s _ _ (by omega)) (ans_s _ _ (by omega)) (ans_s _ _ (by omega)) (ans_s _ _ (by omega)) (ans_s _ _ (by omega)) (ans_s _ _ (by omega)) (ans_s _ _ (by omega)) h
/-- the queues' numbers, and no more -/
def QB (a : bpM) : Prop := ∀ q, q < np a → a 17 q = nI (qm a q) ∧ qm a q ≤ 20
theorem IQ.qb {a : bpM} (h : IQ a) : QB a := fun q hq => ⟨(h q hq).1, (h q hq).le⟩
theorem QB_up {a : bpM} {s t : Nat} {v : Int32} (hs : s ≠ 2 ∧ s ≠ 17) (h : QB a) : QB (upM a s t v) := by
  intro q hq
  rw [np_up hs.1] at hq
  rw [qm_up hs.2, upM_other a s t v (k' := 17) (by omega)]
  exact h q hq
theorem QB_come {a : bpM} {w : Option Nat} {f : Nat} {n : Int32} (h : QB a) (hw : ∀ p, w = some p → p < np a) : QB (comeF a w f n).1 := by
  cases w with
  | none => exact QB_up (by omega) h
  | some p =>
    have hp := hw p rfl
    simp only [comeF]
    by_cases h8 : 8 ≤ a 17 p
    · rw [if_pos h8]; exact QB_up (by omega) h
    · rw [if_neg h8]
      have h0 := h p hp
      rw [h0.1, i_le, i_8, i_n (by omega)] at h8
      show QB (layF a p (nI f) n)
      intro q hq
      have e2 : np (layF a p (nI f) n) = np a := by unfold layF; rw [np_up (by decide), np_up (by decide), np_up (by decide)]
      rw [e2] at hq
      by_cases e : q = p
      · subst e
        have e1 : layF a q (nI f) n 17 q = nI (qm a q + 1) := by unfold layF; rw [upM_at, h0.1]; exact nI_1 _
        have e3 : qm (layF a q (nI f) n) q = qm a q + 1 := by
          show (layF a q (nI f) n 17 q).toNatClampNeg = _
          rw [e1]; exact nIc (by omega)
        rw [e1, e3]
        exact ⟨rfl, by omega⟩
      · have e1 : layF a p (nI f) n 17 q = a 17 q := by unfold layF; rw [upM_ne _ _ _ _ (by omega), upM_ne _ _ _ _ (by omega), upM_ne _ _ _ _ (by omega)]
        have e3 : qm (layF a p (nI f) n) q = qm a q := by unfold qm; rw [e1]
        rw [e1, e3]
        exact h q hq
/-- the cells of one QUEUE stay -/
def FrQ (C C' : bpC) (ex : Nat) : Prop := C' 6 ex = C 6 ex ∧ C' 7 ex = C 7 ex ∧ C' 8 ex = C 8 ex
theorem FrQ.rf {C : bpC} {ex : Nat} : FrQ C C ex := ⟨rfl, rfl, rfl⟩
theorem FrQ.tr {C C' C'' : bpC} {ex : Nat} (h : FrQ C C' ex) (h2 : FrQ C' C'' ex) : FrQ C C'' ex := ⟨h2.1.trans h.1, h2.2.1.trans h.2.1, h2.2.2.trans h.2.2⟩
theorem FrQ.k {C C' : bpC} {ex k i j : Nat} {v : Int32} (h : FrQ C C' ex) (hk : k ≠ 6 ∧ k ≠ 7 ∧ k ≠ 8) : FrQ C (upC C' k i j v) ex :=
  h.tr ⟨by rw [upC_k C' i j v (by omega)], by rw [upC_k C' i j v (by omega)], by rw [upC_k C' i j v (by omega)]⟩
theorem FrQ.i {C C' : bpC} {ex k i j : Nat} {v : Int32} (h : FrQ C C' ex) (hi : i ≠ ex) : FrQ C (upC C' k i j v) ex :=
  h.tr ⟨upC_other _ _ _ _ _ (fun q => hi q.2.symm), upC_other _ _ _ _ _ (fun q => hi q.2.symm), upC_other _ _ _ _ _ (fun q => hi q.2.symm)⟩
theorem lay_19 (a : bpM) (p f : Nat) (x n v : Int32) : layF (upM a 19 f v) p x n = upM (layF a p x n) 19 f v := by
  unfold layF
  rw [qm_up (by decide), upM_ne a 19 f v (k' := 17) (j' := p) (by omega), upM_comm a (show (19 : Nat) ≠ 15 by decide), upM_comm _ (show (19 : Nat) ≠ 16 by decide), upM_comm _ (show (19 : Nat) ≠ 17 by decide)]
theorem onN_eq {a : bpM} {f p : Nat} (h : a 18 f = nI p) (hp : p < 2 ^ 31) : onN a f = p := by unfold onN; rw [h]; exact nIc hp
