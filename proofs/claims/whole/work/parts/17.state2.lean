/-! sending -/
def sendG (a : bpM) (f : Nat) : bpM × Int32 :=
  if a 19 f ≠ 0 then holdF a f (a 22 f)
  else match way a f with
    | none => (lostF a f, 2)
    | some p => if a 18 f ≠ -1 ∧ a 18 f ≠ nI p ∧ hasL a (onN a f) f = true then holdF (layF (upM a 19 f 1) (onN a f) (nI f) 0) f (a 22 f)
      else comeF (upM a 18 f (nI p)) (some p) f (a 22 f)
theorem sendF_eq (a : bpM) (f : Nat) : sendF a f = sendG (upM a 22 f (a 22 f + 1)) f := rfl
theorem hold_12 (a : bpM) (f : Nat) (n : Int32) : (holdF a f n).2 = 1 ∨ (holdF a f n).2 = 2 := by
  unfold holdF
  split
  · exact Or.inr rfl
  · exact Or.inl rfl
theorem come_02 (a : bpM) (w : Option Nat) (f : Nat) (n : Int32) : (comeF a w f n).2 = 0 ∨ (comeF a w f n).2 = 2 := by
  unfold comeF
  split
  · exact Or.inr rfl
  · split
    · exact Or.inr rfl
    · exact Or.inl rfl
theorem IF_up {a : bpM} {s t k : Nat} {v : Int32} (hs : s ≠ 2 ∧ s ≠ 18 ∧ s ≠ 19 ∧ s ≠ 20 ∧ s ≠ 21 ∧ s ≠ 22) (h : IF a k) : IF (upM a s t v) k :=
  IF_cg (np_up (by omega)) (upM_other _ _ _ _ (by omega)) (upM_other _ _ _ _ (by omega)) (upM_other _ _ _ _ (by omega)) (upM_other _ _ _ _ (by omega)) (upM_other _ _ _ _ (by omega)) h
theorem IF_mono {a : bpM} {k k' : Nat} (hk : k ≤ k') (h : IF a k) : IF a k' := by
  intro f hf
  obtain ⟨h1, h2, h3, h4, h5, s, h6, h7⟩ := h f hf
  exact ⟨h1, h2, h3, h4, h5, s, by omega, h7⟩
theorem IF_sent {a : bpM} {k f : Nat} (hf : f < 12) (h : IF a k) : IF (upM a 22 f (a 22 f + 1)) (k + 1) := by
  intro g hg
  obtain ⟨h1, h2, h3, h4, h5, s, h6, h7⟩ := h g hg
  unfold IFf
  rw [np_up (by omega), hm_up (by omega), upM_other a 22 f (a 22 f + 1) (k' := 18) (by omega), upM_other a 22 f (a 22 f + 1) (k' := 19) (by omega), upM_other a 22 f (a 22 f + 1) (k' := 20) (by omega), upM_other a 22 f (a 22 f + 1) (k' := 21) (by omega)]
  refine ⟨h1, h2, h3, h4, h5, ?_⟩
  by_cases e : g = f
  · subst e
    exact ⟨s + 1, by omega, by rw [upM_at, h7]; exact nI_1 s⟩
  · exact ⟨s, by omega, by rw [upM_ne _ _ _ _ (by omega)]; exact h7⟩
theorem IF_on {a : bpM} {k f : Nat} {v : Int32} (hv : v = -1 ∨ ∃ p, p < np a ∧ v = nI p) (h : IF a k) : IF (upM a 18 f v) k := by
  intro g hg
  obtain ⟨h1, h2, h3, h4, h5, h6⟩ := h g hg
  unfold IFf
  rw [np_up (by omega), hm_up (by omega), upM_other a 18 f v (k' := 19) (by omega), upM_other a 18 f v (k' := 20) (by omega), upM_other a 18 f v (k' := 21) (by omega), upM_other a 18 f v (k' := 22) (by omega)]
  refine ⟨h1, ?_, h3, h4, h5, h6⟩
  by_cases e : g = f
  · subst e; rw [upM_at]; exact hv
  · rw [upM_ne _ _ _ _ (by omega)]; exact h2
theorem IF_mov {a : bpM} {k f : Nat} {v : Int32} (hv : v = 0 ∨ v = 1) (h : IF a k) : IF (upM a 19 f v) k := by
  intro g hg
  obtain ⟨h1, h2, h3, h4, h5, h6⟩ := h g hg
  unfold IFf
  rw [np_up (by omega), hm_up (by omega), upM_other a 19 f v (k' := 18) (by omega), upM_other a 19 f v (k' := 20) (by omega), upM_other a 19 f v (k' := 21) (by omega), upM_other a 19 f v (k' := 22) (by omega)]
  refine ⟨?_, h2, h3, h4, h5, h6⟩
  by_cases e : g = f
  · subst e; rw [upM_at]; exact hv
  · rw [upM_ne _ _ _ _ (by omega)]; exact h1
theorem IF_lay {a : bpM} {k p : Nat} {x n : Int32} (h : IF a k) : IF (layF a p x n) k := IF_up (by omega) (IF_up (by omega) (IF_up (by omega) h))
theorem IF_come {a : bpM} {k : Nat} {w : Option Nat} {f : Nat} {n : Int32} (h : IF a k) : IF (comeF a w f n).1 k :=
  IF_cg (come_np _ _ _ _) (come_s _ _ _ _ (by omega)) (come_s _ _ _ _ (by omega)) (come_s _ _ _ _ (by omega)) (come_s _ _ _ _ (by omega)) (come_s _ _ _ _ (by omega)) h
theorem IP_come {a : bpM} {w : Option Nat} {f : Nat} {n : Int32} (h : IP a) : IP (comeF a w f n).1 :=
  IP_cg (come_s _ _ _ _ (by omega)) (come_s _ _ _ _ (by omega)) (come_s _ _ _ _ (by omega)) (come_s _ _ _ _ (by omega)) (come_s _ _ _ _ (by omega)) (come_s _ _ _ _ (by omega)) (come_s _ _ _ _ (by omega)) (come_s _ _ _ _ (by omega)) (come_s _ _ _ _ (by omega)) (come_s _ _ _ _ (by omega)) (come_s _ _ _ _ (by omega)) h
theorem IF_hold {a : bpM} {k f : Nat} {n : Int32} (hf : f < 12) (hn : 0 < n) (h : IF a k) : IF (holdF a f n).1 k := by
  have hall : ∀ g, g < 12 → hm a g ≤ 8 := fun g hg => (h g hg).2.2.2.1
  unfold holdF
  by_cases e8 : a 20 f = 8
  · rw [if_pos e8]; exact IF_up (by omega) h
  · rw [if_neg e8]
    have e20 := (h f hf).2.2.1
    have h8 := hall f hf
    have hlt : hm a f < 8 := by
      rcases Nat.lt_or_ge (hm a f) 8 with q | q
      · exact q
      · exact absurd (by rw [e20, show hm a f = 8 by omega]; rfl) e8
    show IF (upM (upM a 21 (8 * f + hm a f) n) 20 f (a 20 f + 1)) k
    intro g hg
    obtain ⟨h1, h2, h3, h4, h5, h6⟩ := h g hg
    have e1 : a 20 f + 1 = nI (hm a f + 1) := by rw [e20]; exact nI_1 _
    rw [e1]
    unfold IFf
    rw [np_up (by omega), np_up (by omega), upM_other _ 20 f _ (k' := 18) (by omega), upM_other _ 20 f _ (k' := 19) (by omega), upM_other _ 20 f _ (k' := 21) (by omega), upM_other _ 20 f _ (k' := 22) (by omega), upM_other _ 21 _ n (k' := 18) (by omega), upM_other _ 21 _ n (k' := 19) (by omega), upM_other _ 21 _ n (k' := 22) (by omega)]
    by_cases e : g = f
    · subst e
      have eh : hm (upM (upM a 21 (8 * g + hm a g) n) 20 g (nI (hm a g + 1))) g = hm a g + 1 := by
        show (upM _ 20 g (nI (hm a g + 1)) 20 g).toNatClampNeg = _
        rw [upM_at]; exact nIc (by omega)
      rw [eh, upM_at]
      refine ⟨h1, h2, rfl, by omega, fun j hj => ?_, h6⟩
      by_cases ej : j = hm a g
      · subst ej; rw [upM_at]; exact hn
      · rw [upM_ne _ _ _ _ (by omega)]; exact h5 j (by omega)
    · have eh : hm (upM (upM a 21 (8 * f + hm a f) n) 20 f (nI (hm a f + 1))) g = hm a g := by
        show (upM _ 20 f (nI (hm a f + 1)) 20 g).toNatClampNeg = _
        rw [upM_ne _ _ _ _ (by omega), upM_ne _ _ _ _ (by omega)]; rfl
      rw [eh, upM_ne _ _ _ _ (by omega), upM_ne _ _ _ _ (by omega)]
      refine ⟨h1, h2, h3, h4, fun j hj => ?_, h6⟩
      rw [upM_ne _ _ _ _ (by omega)]
      exact h5 j hj
theorem IQ_hold {a : bpM} {f : Nat} {n : Int32} (h : IQ a) : IQ (holdF a f n).1 := by
  unfold holdF
  split
  · exact IQ_lost h
  · exact IQ_up (by omega) (IQ_up (by omega) h)
theorem IP_hold {a : bpM} {f : Nat} {n : Int32} (h : IP a) : IP (holdF a f n).1 := by
  unfold holdF
  split
  · exact IP_up (by omega) h
  · exact IP_up (by omega) (IP_up (by omega) h)
theorem hasL_pos {a : bpM} {p f : Nat} (h : hasL a p f = true) : 0 < qm a p := by
  unfold hasL at h
  cases hq : qm a p with
  | zero => rw [hq] at h; cases h
  | succ n => omega
theorem sent_pos {a : bpM} {k f : Nat} (hf : f < 12) (hk : k < 2 ^ 30) (h : IF a k) : 0 < upM a 22 f (a 22 f + 1) 22 f := by
  obtain ⟨h1, h2, h3, h4, h5, s, h6, h7⟩ := h f hf
  rw [upM_at, h7, nI_1, i_lt, i_0, i_n (by omega)]
  omega
theorem I_send {a : bpM} {k f : Nat} (hf : f < 12) (hk : k < 2 ^ 30) (hQ : IQ a) (hF : IF a k) (hP : IP a) : IQ (sendF a f).1 ∧ IF (sendF a f).1 (k + 1) ∧ IP (sendF a f).1 := by
  have hpos := sent_pos hf hk hF
  have hQ1 : IQ (upM a 22 f (a 22 f + 1)) := IQ_up (by omega) hQ
  have hF1 := IF_sent hf hF
  have hP1 : IP (upM a 22 f (a 22 f + 1)) := IP_up (by omega) hP
  rw [sendF_eq]
  generalize upM a 22 f (a 22 f + 1) = b at hpos hQ1 hF1 hP1 ⊢
  unfold sendG
  by_cases hm0 : b 19 f ≠ 0
  · rw [if_pos hm0]
    exact ⟨IQ_hold hQ1, IF_hold hf hpos hF1, IP_hold hP1⟩
  · rw [if_neg hm0]
    have h0 : b 19 f = 0 := Classical.not_not.mp hm0
    cases hw : way b f with
    | none => exact ⟨IQ_lost hQ1, IF_up (by omega) hF1, IP_up (by omega) hP1⟩
    | some p =>
      simp only
      by_cases hc : b 18 f ≠ -1 ∧ b 18 f ≠ nI p ∧ hasL b (onN b f) f = true
      · rw [if_pos hc]
        obtain ⟨c1, c2, c3⟩ := hc
        rcases (hF1 f hf).2.1 with e | ⟨q, hq, e⟩
        · exact absurd e c1
        · have hn6 := hP1.1.2.1
          have eo := onN_eq e (by omega)
          rw [eo] at c3 ⊢
          have hQ2 := IQ_mark hQ1 hn6 hq hf h0 e (hasL_pos c3)
          exact ⟨IQ_hold hQ2, IF_hold hf hpos (IF_lay (IF_mov (Or.inr rfl) hF1)), IP_hold (IP_up (by omega) (IP_up (by omega) (IP_up (by omega) (IP_up (by omega) hP1))))⟩
      · rw [if_neg hc]
        have hwp := IP_way hP1 hw
        refine ⟨IQ_come (IQ_on h0 hQ1) hf hpos (fun q e => ?_), IF_come (IF_on (Or.inr ⟨p, hwp.1, rfl⟩) hF1), IP_come (IP_up (by omega) hP1)⟩
        cases e
        rw [np_up (by omega), upM_ne _ _ _ _ (by omega)]
        exact hwp
/-! choosing -/
def stK (a : bpM) (key : Int32) (i : Nat) : bpM := fun k j => if k = 10 ∧ j < i ∧ a 3 j = key ∧ choi a j ≠ 2 then 0 else a k j
theorem stK_0 (a : bpM) (key : Int32) : stK a key 0 = a := by
  funext k j
  simp only [stK]
  rw [if_neg (by omega)]
theorem stK_s (a : bpM) (key : Int32) (i : Nat) {s : Nat} (hs : s ≠ 10) : stK a key i s = a s := by
  funext j
  simp only [stK]
  rw [if_neg (fun q => hs q.1)]
theorem stK_np (a : bpM) (key : Int32) (i : Nat) : np (stK a key i) = np a := by unfold np; rw [stK_s a key i (by decide)]
theorem stK_t {a : bpM} {key : Int32} {i : Nat} (h : a 3 i = key) (h2 : choi a i ≠ 2) : stK a key (i + 1) = upM (stK a key i) 10 i 0 := by
  funext k j
  simp only [stK, upM]
  by_cases e : k = 10 ∧ j = i
  · obtain ⟨rfl, rfl⟩ := e
    rw [if_pos ⟨rfl, by omega, h, h2⟩, if_pos ⟨rfl, rfl⟩]
  · rw [if_neg e]
    by_cases e2 : k = 10 ∧ j < i ∧ a 3 j = key ∧ choi a j ≠ 2
    · rw [if_pos e2, if_pos ⟨e2.1, by omega, e2.2.2⟩]
    · rw [if_neg e2, if_neg]
      rintro ⟨q1, q2, q3⟩
      exact e2 ⟨q1, by omega, q3⟩
theorem stK_f {a : bpM} {key : Int32} {i : Nat} (h : ¬ (a 3 i = key ∧ choi a i ≠ 2)) : stK a key (i + 1) = stK a key i := by
  funext k j
  simp only [stK]
  by_cases e2 : k = 10 ∧ j < i ∧ a 3 j = key ∧ choi a j ≠ 2
  · rw [if_pos e2, if_pos ⟨e2.1, by omega, e2.2.2⟩]
  · rw [if_neg e2, if_neg]
    rintro ⟨q1, q2, q3⟩
    have : j ≠ i := fun z => h (z ▸ q3)
    exact e2 ⟨q1, by omega, q3⟩
theorem stK_choi (a : bpM) (key : Int32) (i p : Nat) : choi (stK a key i) p = choi a p :=
  choi_cg (stK_np a key i) (stK_s a key i (by decide)) (stK_s a key i (by decide)) (stK_s a key i (by decide)) (stK_s a key i (by decide)) (by rw [stK_s a key i (by decide)]) p
theorem choL_cg {a b : bpM} (h2 : np a = np b) (h3 : a 3 = b 3) (h4 : a 4 = b 4) (h6 : a 6 = b 6) (h7 : a 7 = b 7) (h11 : a 11 0 = b 11 0) (p : Nat) (l : Option Nat) : choL a p l = choL b p l := by
  cases l with
  | none => rfl
  | some l => simp only [choL, alk_cg h3 h6 h7, ahd_cg h4, h2, h11]
theorem RB_wait {C : bpC} {a : bpM} {i : Nat} {v : Int32} (h : RB C a) : RB (upC C 5 i 10 v) (upM a 10 i v) := by
  obtain ⟨hS, hB, hP⟩ := h
  refine ⟨RSc_M (by omega) (RSc_C (by decide) hS), Bas_M (by omega) hB, ?_⟩
  rw [np_up (by omega)]
  intro p hp
  have := hP p hp
  unfold RPt at this ⊢
  by_cases e : p = i
  · subst e
    simp only [upC, upM]
    simp
    exact ⟨this.1, this.2.1, this.2.2.1, this.2.2.2.1, this.2.2.2.2.2⟩
  · rw [upC_other _ _ _ _ _ (fun q => e q.2), upM_ne _ _ _ _ (by omega), upM_ne _ _ _ _ (by omega), upM_ne _ _ _ _ (by omega), upM_ne _ _ _ _ (by omega), upM_ne _ _ _ _ (by omega), upM_ne _ _ _ _ (by omega), upM_ne _ _ _ _ (by omega), upM_ne _ _ _ _ (by omega)]
    exact this
theorem RB_ch {C : bpC} {a : bpM} {i : Nat} {v : Int32} (h : RB C a) : RB (upC C 5 i 9 v) a := by
  obtain ⟨hS, hB, hP⟩ := h
  refine ⟨RSc_C (by decide) hS, hB, fun p hp => ?_⟩
  have := hP p hp
  unfold RPt at this ⊢
  simp only [upC]
  simpa using this
def stA (a : bpM) : Nat → bpM
  | 0 => a
  | t + 1 => stK (stA a t) (nI t) (np a)
theorem stA_s (a : bpM) {s : Nat} (hs : s ≠ 10) : ∀ t, stA a t s = a s
  | 0 => rfl
  | t + 1 => by simp only [stA]; rw [stK_s _ _ _ hs, stA_s a hs t]
theorem stA_np (a : bpM) (t : Nat) : np (stA a t) = np a := by unfold np; rw [stA_s a (by decide)]
theorem stA_choi (a : bpM) (p : Nat) : ∀ t, choi (stA a t) p = choi a p
  | 0 => rfl
  | t + 1 => by simp only [stA]; rw [stK_choi, stA_choi a p t]
theorem stA_10 (a : bpM) (j : Nat) : ∀ t, stA a t 10 j = if j < np a ∧ choi a j ≠ 2 ∧ (∃ k, k < t ∧ a 3 j = nI k) then 0 else a 10 j
  | 0 => by
    show a 10 j = _
    rw [if_neg]
    rintro ⟨-, -, k, hk, -⟩
    omega
  | t + 1 => by
    show stK (stA a t) (nI t) (np a) 10 j = _
    simp only [stK]
    rw [stA_s a (by decide), stA_choi, stA_10 a j t]
    by_cases h1 : j < np a ∧ choi a j ≠ 2
    · by_cases h2 : a 3 j = nI t
      · rw [if_pos ⟨by trivial, h1.1, h2, h1.2⟩, if_pos ⟨h1.1, h1.2, t, by omega, h2⟩]
      · rw [if_neg (fun q => h2 q.2.2.1)]
        by_cases h3 : ∃ k, k < t ∧ a 3 j = nI k
        · obtain ⟨k, q1, q2⟩ := h3
          rw [if_pos ⟨h1.1, h1.2, k, q1, q2⟩, if_pos ⟨h1.1, h1.2, k, by omega, q2⟩]
        · rw [if_neg (fun q => h3 q.2.2), if_neg]
          rintro ⟨-, -, k, q1, q2⟩
          by_cases e : k = t
          · exact h2 (e ▸ q2)
          · exact h3 ⟨k, by omega, q2⟩
    · rw [if_neg (fun q => h1 ⟨q.2.1, q.2.2.2⟩), if_neg (fun q => h1 ⟨q.1, q.2.1⟩), if_neg (fun q => h1 ⟨q.1, q.2.1⟩)]
theorem stA_settle {a : bpM} (h : ∀ p, p < np a → ∃ k, k < 4 ∧ a 3 p = nI k) : stA a 4 = settle a := by
  funext k j
  by_cases hk : k = 10
  · subst hk
    rw [stA_10]
    unfold settle
    by_cases hj : j < np a ∧ choi a j ≠ 2
    · rw [if_pos ⟨hj.1, hj.2, h j hj.1⟩, if_pos ⟨rfl, hj⟩]
    · rw [if_neg (fun q => hj ⟨q.1, q.2.1⟩), if_neg (fun q => hj q.2)]
  · rw [stA_s a hk]
    unfold settle
    rw [if_neg (fun q => hk q.1)]
theorem settle_s (a : bpM) {s : Nat} (hs : s ≠ 10) : settle a s = a s := by
  funext j
  unfold settle
  rw [if_neg (fun q => hs q.1)]
theorem settle_np (a : bpM) : np (settle a) = np a := by unfold np; rw [settle_s a (by decide)]
theorem settle_choi (a : bpM) (p : Nat) : choi (settle a) p = choi a p :=
  choi_cg (settle_np a) (settle_s a (by decide)) (settle_s a (by decide)) (settle_s a (by decide)) (settle_s a (by decide)) (by rw [settle_s a (by decide)]) p
