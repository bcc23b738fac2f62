/-! the relation under larger steps -/
section REL3
variable {C : bpC} {a : bpM} {ex : Nat}
/-- a QUEUE left out, its number gone -/
theorem RA_cut {p : Nat} (h : RA C a 9) : RA C (upM a 17 p 0) p := by
  obtain ⟨⟨hS, hB, hP⟩, hC, hQ, hF⟩ := h
  refine ⟨⟨RSc_M (by omega) hS, Bas_M (by omega) hB, ?_⟩, ?_, ?_, fun f hf => RFl_M (by omega) (hF f hf)⟩ <;> rw [np_up (by omega)]
  · exact fun q hq => RPt_M (by omega) (hP q hq)
  · exact fun q hq => RCh_M (by omega) (hC q hq)
  · intro q hq he
    have hn := hB.2.1
    have := hQ q hq (by omega)
    have e17 : upM a 17 p 0 17 q = a 17 q := upM_ne _ _ _ _ (by omega)
    unfold RQu qm at this ⊢
    rw [e17, upM_other a 17 p 0 (k' := 15) (by omega), upM_other a 17 p 0 (k' := 16) (by omega)]
    exact this
/-- and put back, empty -/
theorem RA_back {p : Nat} (h : RA C a p) (h0 : a 17 p = 0) : RA (upC C 6 p 2 0) a 9 := by
  obtain ⟨⟨hS, hB, hP⟩, hC, hQ, hF⟩ := h
  refine ⟨⟨RSc_C (by decide) hS, hB, fun q hq => RPt_C (by decide) (hP q hq)⟩, fun q hq => RCh_C (by decide) (hC q hq), fun q hq _ => ?_, fun f hf => RFl_C (by decide) (hF f hf)⟩
  by_cases e : q = p
  · subst e
    unfold RQu qm
    rw [h0, upC_at]
    exact ⟨rfl, fun j hj => absurd hj (Nat.not_lt_zero _)⟩
  · exact RQu_Cp (Ne.symm e) (hQ q hq e)
theorem RA_pop {p m : Nat} (h : RA C a 9) (hp : p < np a) (h17 : a 17 p = nI (m + 1)) (hm2 : m < 20) (hall : ∀ q, q < np a → qm a q ≤ 20) : RA (upC (shf C p m) 6 p 2 (nI m)) (popF a p) 9 := by
  obtain ⟨⟨hS, hB, hP⟩, hC, hQ, hF⟩ := h
  obtain ⟨e1, e2, e3⟩ := pop_qm h17 hm2
  have hk : ∀ k, k ≠ 6 ∧ k ≠ 7 ∧ k ≠ 8 → upC (shf C p m) 6 p 2 (nI m) k = C k := fun k hk => by
    rw [upC_k _ _ _ _ hk.1]
    funext i j
    simp only [shf]
    rw [if_neg (by omega)]
  have hs : ∀ s, s ≠ 15 ∧ s ≠ 16 ∧ s ≠ 17 → popF a p s = a s := fun s hs => pop_s a p hs
  have hnp := pop_np a p
  have hch : ∀ q, choi (popF a p) q = choi a q := fun q => choi_cg hnp (hs 3 (by omega)) (hs 4 (by omega)) (hs 6 (by omega)) (hs 7 (by omega)) (by rw [hs 11 (by omega)]) q
  refine ⟨⟨?_, Bas_cg (hs 2 (by omega)) (hs 13 (by omega)) hB, ?_⟩, ?_, ?_, ?_⟩
  · unfold RSc pl at hS ⊢
    rw [hk 0 (by omega), hk 1 (by omega), hk 2 (by omega), hs 0 (by omega), hs 1 (by omega), hs 2 (by omega), hs 11 (by omega), hs 12 (by omega), hs 13 (by omega), hs 14 (by omega), hs 26 (by omega), hs 27 (by omega)]
    exact hS
  · rw [hnp]
    intro q hq
    have := hP q hq
    unfold RPt at this ⊢
    rw [hk 5 (by omega), hs 3 (by omega), hs 4 (by omega), hs 5 (by omega), hs 6 (by omega), hs 7 (by omega), hs 8 (by omega), hs 9 (by omega), hs 10 (by omega)]
    exact this
  · rw [hnp]
    intro q hq
    have := hC q hq
    unfold RCh at this ⊢
    rw [hk 5 (by omega), hch]
    exact this
  · rw [hnp]
    intro q hq _
    have hn := hB.2.1
    have hQq := hQ q hq (by omega)
    by_cases e : q = p
    · subst e
      unfold RQu
      rw [e3, e2, upC_at]
      refine ⟨rfl, fun j hj => ?_⟩
      rw [pop_in a (Or.inl rfl) (by omega), pop_in a (Or.inr rfl) (by omega), upC_k _ _ _ _ (by decide), upC_k _ _ _ _ (by decide)]
      simp only [shf]
      rw [if_pos ⟨Or.inl trivial, trivial, hj⟩, if_pos ⟨Or.inr trivial, trivial, hj⟩]
      exact hQq.2 (j + 1) (by omega)
    · refine RQu_Cp (Ne.symm e) ?_
      have hq20 := hall q hq
      unfold RQu
      rw [pop_qmo a e, pop_17o a e]
      refine ⟨?_, fun j hj => ?_⟩
      · have : shf C p m 6 q 2 = C 6 q 2 := by simp only [shf]; rw [if_neg (by omega)]
        rw [this]; exact hQq.1
      · have t7 : shf C p m 7 q j = C 7 q j := by simp only [shf]; rw [if_neg (by omega)]
        have t8 : shf C p m 8 q j = C 8 q j := by simp only [shf]; rw [if_neg (by omega)]
        rw [t7, t8, pop_out a (Or.inl rfl) e (by omega) (by omega), pop_out a (Or.inr rfl) e (by omega) (by omega)]
        exact hQq.2 j hj
  · intro f hf
    have := hF f hf
    unfold RFl hm at this ⊢
    rw [hk 9 (by omega), hk 10 (by omega), hs 18 (by omega), hs 19 (by omega), hs 20 (by omega), hs 21 (by omega), hs 22 (by omega), hs 23 (by omega), hs 24 (by omega), hs 25 (by omega)]
    exact this
/-- one more TICK has been WAITED -/
theorem RA_wait {i : Nat} {v : Int32} (h : RA C a ex) : RA (upC C 5 i 10 v) (upM a 10 i v) ex := by
  obtain ⟨hB, hC, hQ, hF⟩ := h
  refine ⟨RB_wait hB, ?_, ?_, fun f hf => RFl_M (by omega) (RFl_C (by decide) (hF f hf))⟩ <;> rw [np_up (by omega)]
  · intro q hq
    have := hC q hq
    unfold RCh at this ⊢
    rw [choi_up (by omega), upC_ne _ _ _ _ _ (by omega)]
    exact this
  · exact fun q hq he => RQu_M (by omega) (RQu_C (by decide) (hQ q hq he))
/-- grown older by one -/
theorem RB_old {i : Nat} (hP : IP a) (hi : i < np a) (h : RB C (oldN a i)) : RB (if C 5 i 4 = 0 then C else upC (upC C 5 i 8 (C 5 i 8 + 1)) 5 i 4 (bI (decide (C 5 i 8 + 1 < 4)))) (oldN a (i + 1)) := by
  obtain ⟨hS, hB, hPt⟩ := h
  have hnp := oldN_np a i
  obtain ⟨-, -, -, -, ⟨g, hg, e9⟩, -⟩ := hP.2 i hi
  have hi' := hPt i (by rw [hnp]; exact hi)
  have hs : ∀ s, s < 6 ∨ 9 < s → oldN a (i + 1) s = oldN a i s := fun s h => by rw [oldN_s a _ h, oldN_s a _ h]
  have same : ∀ s, oldN a i s i = a s i := fun s => oldN_o a (by omega) s
  have hsc : ∀ C' : bpC, C' 0 = C 0 → C' 1 = C 1 → C' 2 = C 2 → RSc C' (oldN a (i + 1)) := fun C' h0 h1 h2 => by
    unfold RSc pl at hS ⊢
    rw [h0, h1, h2, hs 0 (by omega), hs 1 (by omega), hs 2 (by omega), hs 11 (by omega), hs 12 (by omega), hs 13 (by omega), hs 14 (by omega), hs 26 (by omega), hs 27 (by omega)]
    exact hS
  have hbs : Bas (oldN a (i + 1)) := Bas_cg (hs 2 (by omega)) (hs 13 (by omega)) hB
  have oth : ∀ C' : bpC, ∀ q, q < np a → q ≠ i → C' 5 q = C 5 q → RPt C' (oldN a (i + 1)) q := fun C' q hq hne hc => by
    have := hPt q (by rw [hnp]; exact hq)
    unfold RPt at this ⊢
    rw [hc, oldN_succ a hne, oldN_succ a hne, oldN_succ a hne, oldN_succ a hne, oldN_succ a hne, oldN_succ a hne, oldN_succ a hne, oldN_succ a hne]
    exact this
  obtain ⟨p1, p2, p3, p4, p5, p6⟩ := hi'
  rw [same] at p1 p2 p3 p4 p5 p6
  rw [same, same, same] at p6
  by_cases h6 : 0 < a 6 i
  · have hh : ¬ C 5 i 4 = 0 := by rw [p4]; simp [bI, h6]
    rw [if_neg hh]
    obtain ⟨r5, r6, r7, r8⟩ := p6 h6
    have e8 : C 5 i 8 + 1 = nI (g + 1) := by rw [r8, e9]; exact nI_1 g
    have e8' : a 9 i + 1 = nI (g + 1) := by rw [e9]; exact nI_1 g
    refine ⟨hsc _ (by rw [upC_k _ _ _ _ (by decide), upC_k _ _ _ _ (by decide)]) (by rw [upC_k _ _ _ _ (by decide), upC_k _ _ _ _ (by decide)]) (by rw [upC_k _ _ _ _ (by decide), upC_k _ _ _ _ (by decide)]), hbs, ?_⟩
    rw [oldN_np]
    intro q hq
    by_cases e : q = i
    · subst e
      have o3 := oldN_s a (q + 1) (s := 3) (by omega)
      have o4 := oldN_s a (q + 1) (s := 4) (by omega)
      have o5 := oldN_s a (q + 1) (s := 5) (by omega)
      have o10 := oldN_s a (q + 1) (s := 10) (by omega)
      unfold RPt
      rw [o3, o4, o5, o10, oldN_i a (Nat.lt_succ_self q) h6 (by omega), oldN_i a (Nat.lt_succ_self q) h6 (by omega), oldN_i a (Nat.lt_succ_self q) h6 (by omega), oldN_i a (Nat.lt_succ_self q) h6 (by omega)]
      rw [e8, e8']
      rcases Nat.lt_or_ge (g + 1) 4 with q4 | q4
      · have n4 : ¬ nI (g + 1) = 4 := by rw [i_eq, i_4, i_n (by omega)]; omega
        have l4 : nI (g + 1) < 4 := by rw [i_lt, i_4, i_n (by omega)]; omega
        rw [if_neg n4, if_neg n4, if_neg n4, if_neg n4, if_neg (by decide), if_neg (by decide), if_neg (by decide), if_pos rfl]
        refine ⟨by simpa [upC] using p1, by simpa [upC] using p2, by simpa [upC] using p3, ?_, by simpa [upC] using p5, fun _ => ⟨by simpa [upC] using r5, by simpa [upC] using r6, by simpa [upC] using r7, by simp [upC]⟩⟩
        rw [upC_at]
        simp [l4, h6]
      · have n4 : nI (g + 1) = 4 := by rw [show g + 1 = 4 by omega]; rfl
        rw [if_pos n4, if_pos n4, if_pos n4, if_pos n4]
        refine ⟨by simpa [upC] using p1, by simpa [upC] using p2, by simpa [upC] using p3, ?_, by simpa [upC] using p5, fun z => absurd z (by decide)⟩
        rw [upC_at, n4]
        rfl
    · exact oth _ q hq e (by rw [upC_other _ _ _ _ _ (fun z => e z.2), upC_other _ _ _ _ _ (fun z => e z.2)])
  · have hh : C 5 i 4 = 0 := by rw [p4]; simp [bI, h6]
    rw [if_pos hh]
    refine ⟨hsc C rfl rfl rfl, hbs, ?_⟩
    rw [oldN_np]
    intro q hq
    by_cases e : q = i
    · subst e
      have o : ∀ s, oldN a (q + 1) s q = a s q := fun s => oldN_o a (fun z => h6 z.2) s
      unfold RPt
      rw [o, o, o, o, o, o, o, o]
      exact ⟨p1, p2, p3, p4, p5, p6⟩
    · exact oth C q hq e rfl
end REL3
