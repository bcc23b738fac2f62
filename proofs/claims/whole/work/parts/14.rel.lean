/-! the relation under changes of one cell -/
section REL
variable {C : bpC} {a : bpM} {p f k i j s t : Nat} {v : Int32}
theorem upC_k (C : bpC) {k k' : Nat} (i j : Nat) (v : Int32) (h : k' ≠ k) : upC C k i j v k' = C k' := by
  funext x y
  simp only [upC]
  rw [if_neg (fun q => h q.1)]
theorem RPt_C (hk : k ≠ 5) (h : RPt C a p) : RPt (upC C k i j v) a p := by
  unfold RPt at h ⊢
  rw [upC_k C i j v (Ne.symm hk)]
  exact h
theorem RPt_M (hs : s < 3 ∨ 10 < s) (h : RPt C a p) : RPt C (upM a s t v) p := by
  unfold RPt at h ⊢
  rw [upM_other a s t v (k' := 3) (by omega), upM_other a s t v (k' := 4) (by omega), upM_other a s t v (k' := 5) (by omega), upM_other a s t v (k' := 6) (by omega), upM_other a s t v (k' := 7) (by omega), upM_other a s t v (k' := 8) (by omega), upM_other a s t v (k' := 9) (by omega), upM_other a s t v (k' := 10) (by omega)]
  exact h
theorem RCh_C (hk : k ≠ 5) (h : RCh C a p) : RCh (upC C k i j v) a p := by
  unfold RCh at h ⊢
  rw [upC_k C i j v (Ne.symm hk)]
  exact h
theorem RCh_M (hs : s = 0 ∨ s = 1 ∨ s = 5 ∨ s = 8 ∨ s = 9 ∨ s = 10 ∨ 12 ≤ s) (h : RCh C a p) : RCh C (upM a s t v) p := by
  unfold RCh at h ⊢
  rw [choi_up hs]
  exact h
theorem RQu_C (hk : k ≠ 6 ∧ k ≠ 7 ∧ k ≠ 8) (h : RQu C a p) : RQu (upC C k i j v) a p := by
  unfold RQu at h ⊢
  rw [upC_k C i j v (Ne.symm hk.1), upC_k C i j v (Ne.symm hk.2.1), upC_k C i j v (Ne.symm hk.2.2)]
  exact h
theorem RQu_Cp (hk : i ≠ p) (h : RQu C a p) : RQu (upC C k i j v) a p := by
  unfold RQu at h ⊢
  rw [upC_other C k i j v (k' := 6) (i' := p) (fun q => hk q.2.symm), upC_other C k i j v (k' := 7) (i' := p) (fun q => hk q.2.symm), upC_other C k i j v (k' := 8) (i' := p) (fun q => hk q.2.symm)]
  exact h
theorem RQu_M (hs : s ≠ 15 ∧ s ≠ 16 ∧ s ≠ 17) (h : RQu C a p) : RQu C (upM a s t v) p := by
  unfold RQu at h ⊢
  rw [qm_up hs.2.2, upM_other a s t v (k' := 15) (by omega), upM_other a s t v (k' := 16) (by omega), upM_other a s t v (k' := 17) (by omega)]
  exact h
theorem RFl_C (hk : k ≠ 9 ∧ k ≠ 10) (h : RFl C a f) : RFl (upC C k i j v) a f := by
  unfold RFl at h ⊢
  rw [upC_k C i j v (Ne.symm hk.1), upC_k C i j v (Ne.symm hk.2)]
  exact h
theorem RFl_Cf (hk : i ≠ f) (h : RFl C a f) : RFl (upC C k i j v) a f := by
  unfold RFl at h ⊢
  rw [upC_other C k i j v (k' := 9) (i' := f) (fun q => hk q.2.symm), upC_other C k i j v (k' := 10) (i' := f) (fun q => hk q.2.symm)]
  exact h
theorem RFl_M (hs : s < 18 ∨ 25 < s) (h : RFl C a f) : RFl C (upM a s t v) f := by
  unfold RFl at h ⊢
  rw [hm_up (by omega), upM_other a s t v (k' := 18) (by omega), upM_other a s t v (k' := 19) (by omega), upM_other a s t v (k' := 20) (by omega), upM_other a s t v (k' := 21) (by omega), upM_other a s t v (k' := 22) (by omega), upM_other a s t v (k' := 23) (by omega), upM_other a s t v (k' := 24) (by omega), upM_other a s t v (k' := 25) (by omega)]
  exact h
theorem RFl_Mf (hs : s ≠ 21) (ht : t ≠ f) (h : RFl C a f) : RFl C (upM a s t v) f := by
  unfold RFl at h ⊢
  have e : ∀ k', upM a s t v k' f = a k' f := fun k' => upM_ne _ _ _ _ (fun q => ht q.2.symm)
  have e2 : hm (upM a s t v) f = hm a f := by unfold hm; rw [e]
  rw [e2, e, e, e, e, e, e, e, upM_other a s t v (k' := 21) (Ne.symm hs)]
  exact h
theorem RSc_C (hk : 2 < k) (h : RSc C a) : RSc (upC C k i j v) a := by
  unfold RSc at h ⊢
  rw [upC_k C i j v (k' := 0) (by omega), upC_k C i j v (k' := 1) (by omega), upC_k C i j v (k' := 2) (by omega)]
  exact h
theorem RSc_M (hs : s ≠ 0 ∧ s ≠ 1 ∧ s ≠ 2 ∧ s ≠ 11 ∧ s ≠ 12 ∧ s ≠ 13 ∧ s ≠ 14 ∧ s ≠ 26 ∧ s ≠ 27) (h : RSc C a) : RSc C (upM a s t v) := by
  unfold RSc at h ⊢
  rw [pl_up hs.1, upM_other a s t v (k' := 0) (by omega), upM_other a s t v (k' := 1) (by omega), upM_other a s t v (k' := 2) (by omega), upM_other a s t v (k' := 11) (by omega), upM_other a s t v (k' := 12) (by omega), upM_other a s t v (k' := 13) (by omega), upM_other a s t v (k' := 14) (by omega), upM_other a s t v (k' := 26) (by omega), upM_other a s t v (k' := 27) (by omega)]
  exact h
theorem Bas_M (hs : s ≠ 2 ∧ s ≠ 13) (h : Bas a) : Bas (upM a s t v) := by
  unfold Bas at h ⊢
  rw [np_up hs.1, sh_up hs.2, upM_other a s t v (k' := 2) (by omega), upM_other a s t v (k' := 13) (by omega)]
  exact h
end REL
section REL2
variable {C : bpC} {a : bpM} {ex : Nat}
theorem RA.up {k i j s t : Nat} {v w : Int32} (h : RA C a ex) (hs : s ≠ 2 ∧ s ≠ 13) (hS : RSc C a → RSc (upC C k i j v) (upM a s t w)) (hP : ∀ p, p < np a → RPt C a p → RPt (upC C k i j v) (upM a s t w) p) (hC : ∀ p, p < np a → RCh C a p → RCh (upC C k i j v) (upM a s t w) p) (hQ : ∀ p, p < np a → RQu C a p → RQu (upC C k i j v) (upM a s t w) p) (hF : ∀ f, f < 12 → RFl C a f → RFl (upC C k i j v) (upM a s t w) f) : RA (upC C k i j v) (upM a s t w) ex := by
  obtain ⟨⟨hS0, hB0, hP0⟩, hC0, hQ0, hF0⟩ := h
  refine ⟨⟨hS hS0, Bas_M hs hB0, ?_⟩, ?_, ?_, fun f hf => hF f hf (hF0 f hf)⟩ <;> rw [np_up hs.1]
  · exact fun p hp => hP p hp (hP0 p hp)
  · exact fun p hp => hC p hp (hC0 p hp)
  · exact fun p hp he => hQ p hp (hQ0 p hp he)
/-- a number of a FLOW -/
theorem RA_flow {f s t : Nat} {v : Int32} (h : RA C a ex) (hf : f < 12) (hst : (s = 2 ∧ t = 18) ∨ (s = 3 ∧ t = 19) ∨ (s = 4 ∧ t = 22) ∨ (s = 5 ∧ t = 23) ∨ (s = 6 ∧ t = 24) ∨ (s = 7 ∧ t = 25)) : RA (upC C 9 f s v) (upM a t f v) ex := by
  refine h.up (by omega) (fun q => RSc_M (by omega) (RSc_C (by decide) q)) (fun p _ q => RPt_M (by omega) (RPt_C (by decide) q)) (fun p _ q => RCh_M (by omega) (RCh_C (by decide) q)) (fun p _ q => RQu_M (by omega) (RQu_C (by decide) q)) (fun g hg q => ?_)
  by_cases e : f = g
  · subst e
    obtain ⟨q1, q2, q3, q4, q5, q6, q7, q8⟩ := q
    have eh : hm (upM a t f v) f = hm a f := hm_up (by omega) f
    unfold RFl
    rw [eh]
    rcases hst with ⟨rfl, rfl⟩ | ⟨rfl, rfl⟩ | ⟨rfl, rfl⟩ | ⟨rfl, rfl⟩ | ⟨rfl, rfl⟩ | ⟨rfl, rfl⟩ <;>
      (simp only [upC, upM]; refine ⟨by simpa using q1, by simpa using q2, by simpa using q3, by simpa using q4, by simpa using q5, by simpa using q6, by simpa using q7, fun j hj => by simpa using q8 j hj⟩)
  · exact RFl_Mf (by omega) e (RFl_Cf e q)
theorem RA_lost {f : Nat} (h : RA C a ex) (hf : f < 12) : RA (upC C 9 f 6 (C 9 f 6 + 1)) (lostF a f) ex := by
  have := RA_flow (v := C 9 f 6 + 1) h hf (s := 6) (t := 24) (by omega)
  rw [show C 9 f 6 + 1 = a 24 f + 1 by rw [(h.2.2.2 f hf).2.2.2.2.2.1]] at this ⊢
  exact this
/-- nothing is HELD any more -/
theorem RA_held0 {f : Nat} (h : RA C a ex) (hf : f < 12) : RA (upC C 9 f 1 0) (upM a 20 f 0) ex := by
  refine h.up (by omega) (fun q => RSc_M (by omega) (RSc_C (by decide) q)) (fun p _ q => RPt_M (by omega) (RPt_C (by decide) q)) (fun p _ q => RCh_M (by omega) (RCh_C (by decide) q)) (fun p _ q => RQu_M (by omega) (RQu_C (by decide) q)) (fun g hg q => ?_)
  by_cases e : f = g
  · subst e
    obtain ⟨q1, q2, q3, q4, q5, q6, q7, q8⟩ := q
    have eh : hm (upM a 20 f 0) f = 0 := by unfold hm; rw [upM_at]; rfl
    unfold RFl
    rw [eh]
    simp only [upC, upM]
    exact ⟨by simp, by simpa using q2, by simpa using q3, by simpa using q4, by simpa using q5, by simpa using q6, by simpa using q7, fun j hj => absurd hj (Nat.not_lt_zero _)⟩
  · exact RFl_Mf (by omega) e (RFl_Cf e q)
theorem nIc {m : Nat} (h : m < 2 ^ 31) : (nI m).toNatClampNeg = m := nI_clamp h
/-- one more is HELD -/
theorem RA_hold {f m : Nat} {n : Int32} (h : RA C a ex) (hf : f < 12) (e20 : a 20 f = nI m) (hm8 : m < 8) (hall : ∀ g, g < 12 → hm a g ≤ 8) : RA (upC (upC C 10 f m n) 9 f 1 (nI (m + 1))) (upM (upM a 21 (8 * f + hm a f) n) 20 f (a 20 f + 1)) ex := by
  have em : hm a f = m := by unfold hm; rw [e20]; exact nIc (by omega)
  have e1 : a 20 f + 1 = nI (m + 1) := by rw [e20]; exact nI_1 m
  rw [em, e1]
  obtain ⟨⟨hS0, hB0, hP0⟩, hC0, hQ0, hF0⟩ := h
  have hnp : np (upM (upM a 21 (8 * f + m) n) 20 f (nI (m + 1))) = np a := by rw [np_up (by decide), np_up (by decide)]
  refine ⟨⟨RSc_M (by omega) (RSc_M (by omega) (RSc_C (by decide) (RSc_C (by decide) hS0))), Bas_M (by omega) (Bas_M (by omega) hB0), ?_⟩, ?_, ?_, fun g hg => ?_⟩
  · rw [hnp]; exact fun p hp => RPt_M (by omega) (RPt_M (by omega) (RPt_C (by decide) (RPt_C (by decide) (hP0 p hp))))
  · rw [hnp]; exact fun p hp => RCh_M (by omega) (RCh_M (by omega) (RCh_C (by decide) (RCh_C (by decide) (hC0 p hp))))
  · rw [hnp]; exact fun p hp he => RQu_M (by omega) (RQu_M (by omega) (RQu_C (by decide) (RQu_C (by decide) (hQ0 p hp he))))
  · obtain ⟨q1, q2, q3, q4, q5, q6, q7, q8⟩ := hF0 g hg
    by_cases e : f = g
    · subst e
      have eh : hm (upM (upM a 21 (8 * f + m) n) 20 f (nI (m + 1))) f = m + 1 := by unfold hm; rw [upM_at]; exact nIc (by omega)
      unfold RFl
      rw [eh]
      refine ⟨by simp [upC, upM], by simpa [upC, upM] using q2, by simpa [upC, upM] using q3, by simpa [upC, upM] using q4, by simpa [upC, upM] using q5, by simpa [upC, upM] using q6, by simpa [upC, upM] using q7, fun j hj => ?_⟩
      by_cases ej : j = m
      · subst ej
        simp [upC, upM]
      · have := q8 j (by omega)
        simp only [upC, upM]
        rw [if_neg (by simp), if_neg (by simp [ej]), if_neg (by simp), if_neg (by simp; omega)]
        exact this
    · refine RFl_Mf (by omega) e (RFl_Cf e (RFl_Cf e ?_))
      have eh : hm (upM a 21 (8 * f + m) n) g = hm a g := hm_up (by decide) g
      unfold RFl
      rw [eh]
      refine ⟨by simpa [upM] using q1, by simpa [upM] using q2, by simpa [upM] using q3, by simpa [upM] using q4, by simpa [upM] using q5, by simpa [upM] using q6, by simpa [upM] using q7, fun j hj => ?_⟩
      have h8 := hall g hg
      rw [upM_ne _ _ _ _ (by omega)]
      exact q8 j hj
/-- one comes behind all in a QUEUE -/
theorem RA_lay {p m : Nat} {f n : Int32} (h : RA C a ex) (hp : p < np a) (e17 : a 17 p = nI m) (hm20 : m < 20) (hall : ∀ q, q < np a → qm a q ≤ 20) : RA (upC (upC (upC C 7 p m f) 8 p m n) 6 p 2 (nI (m + 1))) (layF a p f n) ex := by
  have em : qm a p = m := by unfold qm; rw [e17]; exact nIc (by omega)
  have e1 : a 17 p + 1 = nI (m + 1) := by rw [e17]; exact nI_1 m
  unfold layF
  rw [em, e1]
  obtain ⟨⟨hS0, hB0, hP0⟩, hC0, hQ0, hF0⟩ := h
  have hnp : np (upM (upM (upM a 15 (24 * p + m) f) 16 (24 * p + m) n) 17 p (nI (m + 1))) = np a := by rw [np_up (by decide), np_up (by decide), np_up (by decide)]
  refine ⟨⟨RSc_M (by omega) (RSc_M (by omega) (RSc_M (by omega) (RSc_C (by decide) (RSc_C (by decide) (RSc_C (by decide) hS0))))), Bas_M (by omega) (Bas_M (by omega) (Bas_M (by omega) hB0)), ?_⟩, ?_, ?_, fun g hg => ?_⟩
  · rw [hnp]; exact fun q hq => RPt_M (by omega) (RPt_M (by omega) (RPt_M (by omega) (RPt_C (by decide) (RPt_C (by decide) (RPt_C (by decide) (hP0 q hq))))))
  · rw [hnp]; exact fun q hq => RCh_M (by omega) (RCh_M (by omega) (RCh_M (by omega) (RCh_C (by decide) (RCh_C (by decide) (RCh_C (by decide) (hC0 q hq))))))
  · rw [hnp]
    intro q hq he
    obtain ⟨q1, q2⟩ := hQ0 q hq he
    by_cases e : q = p
    · subst e
      have eh : qm (upM (upM (upM a 15 (24 * q + m) f) 16 (24 * q + m) n) 17 q (nI (m + 1))) q = m + 1 := by unfold qm; rw [upM_at]; exact nIc (by omega)
      unfold RQu
      rw [eh]
      refine ⟨by simp [upC, upM], fun j hj => ?_⟩
      by_cases ej : j = m
      · subst ej
        simp [upC, upM]
      · have := q2 j (by omega)
        simp only [upC, upM]
        rw [if_neg (by simp), if_neg (by simp), if_neg (by simp [ej]), if_neg (by simp), if_neg (by simp), if_neg (by simp; omega), if_neg (by simp), if_neg (by simp [ej]), if_neg (by simp), if_neg (by simp), if_neg (by simp; omega), if_neg (by simp)]
        exact this
    · have hq20 := hall q hq
      have ne : p ≠ q := Ne.symm e
      refine RQu_Cp ne (RQu_Cp ne (RQu_Cp ne ?_))
      have eh : qm (upM (upM (upM a 15 (24 * p + m) f) 16 (24 * p + m) n) 17 p (nI (m + 1))) q = qm a q := by unfold qm; rw [upM_ne _ _ _ _ (by omega), upM_ne _ _ _ _ (by omega), upM_ne _ _ _ _ (by omega)]
      unfold RQu
      rw [eh]
      refine ⟨by rw [upM_ne _ _ _ _ (by omega), upM_ne _ _ _ _ (by omega), upM_ne _ _ _ _ (by omega)]; exact q1, fun j hj => ?_⟩
      rw [upM_ne _ _ _ _ (by omega), upM_ne _ _ _ _ (by omega), upM_ne _ _ _ _ (by omega), upM_ne _ _ _ _ (by omega), upM_ne _ _ _ _ (by omega), upM_ne _ _ _ _ (by omega)]
      exact q2 j hj
  · exact RFl_M (by omega) (RFl_M (by omega) (RFl_M (by omega) (RFl_C (by decide) (RFl_C (by decide) (RFl_C (by decide) (hF0 g hg))))))
/-- a number of the object -/
theorem RA_sc {s t : Nat} {v : Int32} (h : RA C a ex) (hst : (s = 7 ∧ t = 26) ∨ (s = 8 ∧ t = 27) ∨ (s = 9 ∧ t = 14)) : RA (upC C 0 0 s v) (upM a t 0 v) ex := by
  refine h.up (by omega) (fun q => ?_) (fun p _ q => RPt_M (by omega) (RPt_C (by decide) q)) (fun p _ q => RCh_M (by omega) (RCh_C (by decide) q)) (fun p _ q => RQu_M (by omega) (RQu_C (by decide) q)) (fun g hg q => RFl_M (by omega) (RFl_C (by decide) q))
  obtain ⟨q1, q2, q3, q4, q5, q6, q7, q8, q9⟩ := q
  unfold RSc
  rw [pl_up (by omega)]
  rcases hst with ⟨rfl, rfl⟩ | ⟨rfl, rfl⟩ | ⟨rfl, rfl⟩ <;>
    (simp only [upC, upM]; refine ⟨by simpa using q1, by simpa using q2, by simpa using q3, by simpa using q4, by simpa using q5, by simpa using q6, by simpa using q7, by simpa using q8, fun j hj => by simpa using q9 j hj⟩)
end REL2
