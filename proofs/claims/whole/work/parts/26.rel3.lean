/-! the relation under what is told -/
section REL4
variable {C : bpC} {a : bpM} {ex : Nat}
theorem upC_id {C : bpC} {k i j : Nat} {v : Int32} (h : C k i j = v) : upC C k i j v = C := by
  funext x y z
  simp only [upC]
  by_cases e : x = k ∧ y = i ∧ z = j
  · rw [if_pos e, e.1, e.2.1, e.2.2, h]
  · rw [if_neg e]
theorem RA_page {m : Nat} {x : Int32} (h : RA C a 9) (hm17 : m < 17) (hpl : a 0 0 = nI m) : RA (upC (upC C 2 0 m x) 1 0 1 (nI (m + 1))) (upM (upM a 1 m x) 0 0 (nI (m + 1))) 9 := by
  obtain ⟨⟨hS, hB, hP⟩, hC, hQ, hF⟩ := h
  refine ⟨⟨?_, Bas_M (by omega) (Bas_M (by omega) hB), ?_⟩, ?_, ?_, fun f hf => RFl_M (by omega) (RFl_M (by omega) (RFl_C (by decide) (RFl_C (by decide) (hF f hf))))⟩
  · have e1 : pl a = m := by unfold pl; rw [hpl]; exact nIc (by omega)
    have e2 : pl (upM (upM a 1 m x) 0 0 (nI (m + 1))) = m + 1 := by
      show (upM _ 0 0 (nI (m + 1)) 0 0).toNatClampNeg = _
      rw [upM_at]; exact nIc (by omega)
    obtain ⟨q1, q2, q3, q4, q5, q6, q7, q8, q9⟩ := hS
    unfold RSc
    rw [e2]
    refine ⟨by simpa [upC, upM] using q1, by simpa [upC, upM] using q2, by simpa [upC, upM] using q3, by simpa [upC, upM] using q4, by simpa [upC, upM] using q5, by simpa [upC, upM] using q6, by simpa [upC, upM] using q7, by simp [upC, upM], fun j hj => ?_⟩
    by_cases ej : j = m
    · subst ej; simp [upC, upM]
    · rw [upC_ne _ _ _ _ _ (by omega), upC_ne _ _ _ _ _ (by omega), upM_ne _ _ _ _ (by omega), upM_ne _ _ _ _ (by omega)]
      exact q9 j (by omega)
  · rw [np_up (by omega), np_up (by omega)]; exact fun q hq => RPt_M (by omega) (RPt_M (by omega) (RPt_C (by decide) (RPt_C (by decide) (hP q hq))))
  · rw [np_up (by omega), np_up (by omega)]; exact fun q hq => RCh_M (by omega) (RCh_M (by omega) (RCh_C (by decide) (RCh_C (by decide) (hC q hq))))
  · rw [np_up (by omega), np_up (by omega)]; exact fun q hq he => RQu_M (by omega) (RQu_M (by omega) (RQu_C (by decide) (RQu_C (by decide) (hQ q hq he))))
theorem RA_blank (h : RA C a 9) : RA (upC C 1 0 1 0) (upM a 0 0 0) 9 := by
  refine h.up (by omega) (fun q => ?_) (fun p _ q => RPt_M (by omega) (RPt_C (by decide) q)) (fun p _ q => RCh_M (by omega) (RCh_C (by decide) q)) (fun p _ q => RQu_M (by omega) (RQu_C (by decide) q)) (fun g hg q => RFl_M (by omega) (RFl_C (by decide) q))
  obtain ⟨q1, q2, q3, q4, q5, q6, q7, q8, q9⟩ := q
  have e2 : pl (upM a 0 0 0) = 0 := by
    show (upM a 0 0 0 0 0).toNatClampNeg = _
    rw [upM_at]; rfl
  unfold RSc
  rw [e2]
  exact ⟨by simpa [upC, upM] using q1, by simpa [upC, upM] using q2, by simpa [upC, upM] using q3, by simpa [upC, upM] using q4, by simpa [upC, upM] using q5, by simpa [upC, upM] using q6, by simpa [upC, upM] using q7, by simp [upC, upM], fun j hj => absurd hj (Nat.not_lt_zero _)⟩
theorem RA_of2 {C' : bpC} {b : bpM} (h : RA C a ex) (hB : RB C' b) (hC : ∀ p, p < np b → RCh C' b p) (hx : ∀ x, 6 ≤ x → x ≤ 10 → C' x = C x) (hn : np b = np a) (hs : ∀ s, 15 ≤ s → s ≤ 25 → b s = a s) : RA C' b ex := by
  refine ⟨hB, hC, fun q hq he => ?_, fun f hf => ?_⟩
  · rw [hn] at hq
    have := h.2.2.1 q hq he
    unfold RQu qm at this ⊢
    rw [hx 6 (by omega) (by omega), hx 7 (by omega) (by omega), hx 8 (by omega) (by omega), hs 15 (by omega) (by omega), hs 16 (by omega) (by omega), hs 17 (by omega) (by omega)]
    exact this
  · have := h.2.2.2 f hf
    unfold RFl hm at this ⊢
    rw [hx 9 (by omega) (by omega), hx 10 (by omega) (by omega), hs 18 (by omega) (by omega), hs 19 (by omega) (by omega), hs 20 (by omega) (by omega), hs 21 (by omega) (by omega), hs 22 (by omega) (by omega), hs 23 (by omega) (by omega), hs 24 (by omega) (by omega), hs 25 (by omega) (by omega)]
    exact this
theorem RB_scal {s t : Nat} {v : Int32} (h : RB C a) (hst : (s = 4 ∧ t = 11) ∨ (s = 5 ∧ t = 12)) : RB (upC C 0 0 s v) (upM a t 0 v) := by
  obtain ⟨⟨q1, q2, q3, q4, q5, q6, q7, q8, q9⟩, hB, hP⟩ := h
  refine ⟨?_, Bas_M (by omega) hB, ?_⟩
  · unfold RSc
    rw [pl_up (by omega)]
    rcases hst with ⟨rfl, rfl⟩ | ⟨rfl, rfl⟩ <;>
      (simp only [upC, upM]; refine ⟨by simpa using q1, by simpa using q2, by simpa using q3, by simpa using q4, by simpa using q5, by simpa using q6, by simpa using q7, by simpa using q8, fun j hj => by simpa using q9 j hj⟩)
  · rw [np_up (by omega)]
    exact fun p hp => RPt_M (by omega) (RPt_C (by decide) (hP p hp))
theorem RA_wt12 {v : Int32} (h : RA C a 9) : RA (upC C 0 0 5 v) (upM a 12 0 v) 9 := by
  refine ⟨RB_scal h.1 (by omega), ?_, ?_, fun f hf => RFl_M (by omega) (RFl_C (by decide) (h.2.2.2 f hf))⟩ <;> rw [np_up (by omega)]
  · exact fun p hp => RCh_M (by omega) (RCh_C (by decide) (h.2.1 p hp))
  · exact fun p hp he => RQu_M (by omega) (RQu_C (by decide) (h.2.2.1 p hp he))
theorem RA_sh13 {w : Nat} (h : RA C a 9) (hw : w ≤ 9) : RA (upC C 0 0 6 (nI w)) (upM a 13 0 (nI w)) 9 := by
  obtain ⟨⟨⟨q1, q2, q3, q4, q5, q6, q7, q8, q9⟩, hB, hP⟩, hC, hQ, hF⟩ := h
  refine ⟨⟨?_, ?_, ?_⟩, ?_, ?_, fun f hf => RFl_M (by omega) (RFl_C (by decide) (hF f hf))⟩
  · unfold RSc
    rw [pl_up (by omega)]
    simp only [upC, upM]
    exact ⟨by simpa using q1, by simpa using q2, by simpa using q3, by simp, by simpa using q5, by simpa using q6, by simpa using q7, by simpa using q8, fun j hj => by simpa using q9 j hj⟩
  · have e : sh (upM a 13 0 (nI w)) = w := by
      show (upM a 13 0 (nI w) 13 0).toNatClampNeg = _
      rw [upM_at]; exact nIc (by omega)
    unfold Bas
    rw [e, np_up (by omega), upM_at, upM_ne _ _ _ _ (by omega)]
    exact ⟨hB.1, hB.2.1, rfl, hw⟩
  · rw [np_up (by omega)]; exact fun p hp => RPt_M (by omega) (RPt_C (by decide) (hP p hp))
  · rw [np_up (by omega)]; exact fun p hp => RCh_M (by omega) (RCh_C (by decide) (hC p hp))
  · rw [np_up (by omega)]; exact fun p hp he => RQu_M (by omega) (RQu_C (by decide) (hQ p hp he))
theorem RB_pt {C' : bpC} {b : bpM} {p : Nat} (h : RB C a) (h0 : C' 0 = C 0) (h1 : C' 1 = C 1) (h2 : C' 2 = C 2) (hs : ∀ s, s < 3 ∨ 10 < s → b s = a s) (ho : ∀ q, q ≠ p → C' 5 q = C 5 q) (hso : ∀ s q, q ≠ p → b s q = a s q) (hp : p < np a → RPt C' b p) : RB C' b := by
  obtain ⟨hS, hB, hP⟩ := h
  have hn : np b = np a := by unfold np; rw [hs 2 (by omega)]
  refine ⟨?_, Bas_cg (hs 2 (by omega)) (hs 13 (by omega)) hB, ?_⟩
  · unfold RSc pl at hS ⊢
    rw [h0, h1, h2, hs 0 (by omega), hs 1 (by omega), hs 2 (by omega), hs 11 (by omega), hs 12 (by omega), hs 13 (by omega), hs 14 (by omega), hs 26 (by omega), hs 27 (by omega)]
    exact hS
  · rw [hn]
    intro q hq
    by_cases e : q = p
    · subst e; exact hp hq
    · have := hP q hq
      unfold RPt at this ⊢
      rw [ho q e, hso 3 q e, hso 4 q e, hso 5 q e, hso 6 q e, hso 7 q e, hso 8 q e, hso 9 q e, hso 10 q e]
      exact this
theorem RB_rank {p : Nat} {v : Int32} (h : RB C a) : RB (upC C 5 p 2 v) (upM a 4 p v) :=
  RB_pt h (upC_k _ _ _ _ (by decide)) (upC_k _ _ _ _ (by decide)) (upC_k _ _ _ _ (by decide)) (fun s hs => upM_other _ _ _ _ (by omega)) (fun q hq => upC_other _ _ _ _ _ (fun z => hq z.2)) (fun s q hq => upM_ne _ _ _ _ (by omega)) (fun hp => by
    obtain ⟨p1, p2, p3, p4, p5, p6⟩ := h.2.2 p hp
    unfold RPt
    refine ⟨by simpa [upC, upM] using p1, by simp [upC, upM], by simpa [upC, upM] using p3, by simpa [upC, upM] using p4, by simpa [upC, upM] using p5, fun z => ?_⟩
    rw [upM_ne _ _ _ _ (by omega)] at z
    simpa [upC, upM] using p6 z)
theorem RB_upd {p : Nat} {v : Int32} (h : RB C a) : RB (upC C 5 p 3 v) (upM a 5 p v) :=
  RB_pt h (upC_k _ _ _ _ (by decide)) (upC_k _ _ _ _ (by decide)) (upC_k _ _ _ _ (by decide)) (fun s hs => upM_other _ _ _ _ (by omega)) (fun q hq => upC_other _ _ _ _ _ (fun z => hq z.2)) (fun s q hq => upM_ne _ _ _ _ (by omega)) (fun hp => by
    obtain ⟨p1, p2, p3, p4, p5, p6⟩ := h.2.2 p hp
    unfold RPt
    refine ⟨by simpa [upC, upM] using p1, by simpa [upC, upM] using p2, by simp [upC, upM], by simpa [upC, upM] using p4, by simpa [upC, upM] using p5, fun z => ?_⟩
    rw [upM_ne _ _ _ _ (by omega)] at z
    simpa [upC, upM] using p6 z)
theorem RA_upd {p : Nat} {v : Int32} (h : RA C a ex) : RA (upC C 5 p 3 v) (upM a 5 p v) ex := by
  refine ⟨RB_upd h.1, ?_, ?_, fun f hf => RFl_M (by omega) (RFl_C (by decide) (h.2.2.2 f hf))⟩ <;> rw [np_up (by omega)]
  · intro q hq
    have := h.2.1 q hq
    unfold RCh at this ⊢
    rw [choi_up (by omega), upC_ne _ _ _ _ _ (by omega)]
    exact this
  · exact fun q hq he => RQu_M (by omega) (RQu_C (by decide) (h.2.2.1 q hq he))
theorem RB_forg {p : Nat} (h : RB C a) : RB (upC C 5 p 4 0) (forgF a p) :=
  RB_pt h (upC_k _ _ _ _ (by decide)) (upC_k _ _ _ _ (by decide)) (upC_k _ _ _ _ (by decide)) (fun s hs => forg_s _ _ (by omega)) (fun q hq => upC_other _ _ _ _ _ (fun z => hq z.2)) (fun s q hq => forg_o _ hq s) (fun hp => by
    obtain ⟨p1, p2, p3, p4, p5, p6⟩ := h.2.2 p hp
    unfold RPt
    rw [forg_p a (s := 6) (by omega), forg_s a p (s := 3) (by omega), forg_s a p (s := 4) (by omega), forg_s a p (s := 5) (by omega), forg_s a p (s := 10) (by omega)]
    exact ⟨by simpa [upC] using p1, by simpa [upC] using p2, by simpa [upC] using p3, by rw [upC_at]; rfl, by simpa [upC] using p5, fun z => absurd z (by decide)⟩)
theorem RB_hear {p : Nat} {y k r : Int32} (hy : 0 < y) (h : RB C a) : RB (upC (upC (upC (upC (upC C 5 p 4 1) 5 p 5 y) 5 p 6 k) 5 p 7 r) 5 p 8 0) (upM (upM (upM (upM a 6 p y) 7 p k) 8 p r) 9 p 0) := by
  have hk : ∀ x, x ≠ 5 → upC (upC (upC (upC (upC C 5 p 4 1) 5 p 5 y) 5 p 6 k) 5 p 7 r) 5 p 8 0 x = C x := fun x hx => by rw [upC_k _ _ _ _ hx, upC_k _ _ _ _ hx, upC_k _ _ _ _ hx, upC_k _ _ _ _ hx, upC_k _ _ _ _ hx]
  refine RB_pt (p := p) h (hk 0 (by decide)) (hk 1 (by decide)) (hk 2 (by decide)) (fun s hs => by rw [upM_other _ _ _ _ (by omega), upM_other _ _ _ _ (by omega), upM_other _ _ _ _ (by omega), upM_other _ _ _ _ (by omega)]) (fun q hq => by rw [upC_other _ _ _ _ _ (fun z => hq z.2), upC_other _ _ _ _ _ (fun z => hq z.2), upC_other _ _ _ _ _ (fun z => hq z.2), upC_other _ _ _ _ _ (fun z => hq z.2), upC_other _ _ _ _ _ (fun z => hq z.2)]) (fun s q hq => by rw [upM_ne _ _ _ _ (by omega), upM_ne _ _ _ _ (by omega), upM_ne _ _ _ _ (by omega), upM_ne _ _ _ _ (by omega)]) (fun hp => ?_)
  obtain ⟨p1, p2, p3, p4, p5, p6⟩ := h.2.2 p hp
  have e6 : upM (upM (upM (upM a 6 p y) 7 p k) 8 p r) 9 p 0 6 p = y := by simp [upM]
  unfold RPt
  rw [e6]
  refine ⟨by simpa [upC, upM] using p1, by simpa [upC, upM] using p2, by simpa [upC, upM] using p3, ?_, by simpa [upC, upM] using p5, fun _ => ⟨by simp [upC], by simp [upC, upM], by simp [upC, upM], by simp [upC, upM]⟩⟩
  simp [upC, bI, hy]
end REL4
/-- what holds just ahead of emptying the QUEUE of a PORT that goes DOWN -/
theorem down_pre {a : bpM} {k p : Nat} (h : Inv a k) (hp : p < np a) : (∀ q, q < np (settle (forgF (upM a 5 p 0) p)) → q ≠ p → IQp (settle (forgF (upM a 5 p 0) p)) q) ∧ IQe (settle (forgF (upM a 5 p 0) p)) p ∧ IF (settle (forgF (upM a 5 p 0) p)) k ∧ IP (settle (forgF (upM a 5 p 0) p)) ∧ np (settle (forgF (upM a 5 p 0) p)) = np a ∧ ¬ 0 < settle (forgF (upM a 5 p 0) p) 6 p := by
  obtain ⟨hQ, hF, hP, hU, hG⟩ := h
  have s0 : ∀ s, s < 3 ∨ 10 < s → settle (forgF (upM a 5 p 0) p) s = a s := fun s hs => by rw [settle_s _ (by omega), forg_s _ _ (by omega), upM_other _ _ _ _ (by omega)]
  have hn : np (settle (forgF (upM a 5 p 0) p)) = np a := by unfold np; rw [s0 2 (by omega)]
  have h5 : ∀ q, q ≠ p → settle (forgF (upM a 5 p 0) p) 5 q = a 5 q := fun q hq => by rw [settle_s _ (by omega), forg_s _ _ (by omega), upM_ne _ _ _ _ (by omega)]
  have hP2 : IP (settle (forgF (upM a 5 p 0) p)) := by
    refine IP_settle (Bas_cg (by rw [forg_s _ _ (by omega), upM_other _ _ _ _ (by omega)]) (by rw [forg_s _ _ (by omega), upM_other _ _ _ _ (by omega)]) hP.1) (fun q hq => ?_)
    have hq2 : q < np a := by
      have e : np (forgF (upM a 5 p 0) p) = np a := by unfold np; rw [forg_s _ _ (by omega), upM_other _ _ _ _ (by omega)]
      rw [e] at hq; exact hq
    obtain ⟨g1, g2, g3, g4, g5⟩ := (hP.2 q hq2).z
    unfold IPp0
    by_cases e : q = p
    · subst e
      rw [forg_p _ (s := 6) (by omega), forg_p _ (s := 8) (by omega), forg_p _ (s := 9) (by omega), forg_s _ _ (s := 3) (by omega), forg_s _ _ (s := 5) (by omega), upM_at, upM_ne _ _ _ _ (by omega)]
      exact ⟨g1, Or.inl rfl, Or.inl rfl, fun z => absurd z (by decide), 0, by omega, rfl⟩
    · rw [forg_o _ e, forg_o _ e, forg_o _ e, forg_o _ e, forg_o _ e, upM_ne _ _ _ _ (by omega), upM_ne _ _ _ _ (by omega), upM_ne _ _ _ _ (by omega), upM_ne _ _ _ _ (by omega), upM_ne _ _ _ _ (by omega)]
      exact ⟨g1, g2, g3, g4, g5⟩
  refine ⟨fun q hq hne => IQp_cg2 (by rw [s0 17 (by omega)]) (h5 q hne) (s0 15 (by omega)) (s0 16 (by omega)) (s0 18 (by omega)) (s0 19 (by omega)) (hQ q (by rw [hn] at hq; exact hq)), IQe_cg (s0 15 (by omega)) (s0 16 (by omega)) (s0 17 (by omega)) (s0 18 (by omega)) (s0 19 (by omega)) (hQ p hp).e, IF_cg hn (s0 18 (by omega)) (s0 19 (by omega)) (s0 20 (by omega)) (s0 21 (by omega)) (s0 22 (by omega)) hF, hP2, hn, ?_⟩
  rw [settle_s _ (by omega), forg_p _ (by omega)]
  decide
theorem empty_none {a : bpM} {p : Nat} (h : a 17 p = 0) : emptyF a p = a := by
  have hz : qm a p = 0 := by unfold qm; rw [h]; rfl
  unfold emptyF
  rw [hz]
  show upM a 17 p 0 = a
  funext s j
  simp only [upM]
  by_cases e : s = 17 ∧ j = p
  · rw [if_pos e, e.1, e.2, h]
  · rw [if_neg e]
