theorem s28_pl (a : bpM) (z : Nat → Int32) : pl (s28 a z) = pl a := by unfold pl; rw [s28_s a z (by decide)]
theorem s28_qm (a : bpM) (z : Nat → Int32) (p : Nat) : qm (s28 a z) p = qm a p := by unfold qm; rw [s28_s a z (by decide)]
theorem s28_choi (a : bpM) (z : Nat → Int32) (p : Nat) : choi (s28 a z) p = choi a p :=
  choi_cg (s28_np a z) (s28_s a z (s := 3) (by decide)) (s28_s a z (s := 4) (by decide)) (s28_s a z (s := 6) (by decide)) (s28_s a z (s := 7) (by decide)) (by rw [s28_s a z (by decide)]) p
theorem s28_Inv {a : bpM} {k : Nat} {z : Nat → Int32} (h : Inv a k) : Inv (s28 a z) k :=
  ⟨IQ_cg (s28_np a z) (s28_s a z (s := 5) (by decide)) (s28_s a z (s := 15) (by decide)) (s28_s a z (s := 16) (by decide)) (s28_s a z (s := 17) (by decide)) (s28_s a z (s := 18) (by decide)) (s28_s a z (s := 19) (by decide)) h.1, IF_cg (s28_np a z) (s28_s a z (s := 18) (by decide)) (s28_s a z (s := 19) (by decide)) (s28_s a z (s := 20) (by decide)) (s28_s a z (s := 21) (by decide)) (s28_s a z (s := 22) (by decide)) h.2.1, IP_cg (s28_s a z (s := 2) (by decide)) (s28_s a z (s := 3) (by decide)) (s28_s a z (s := 4) (by decide)) (s28_s a z (s := 5) (by decide)) (s28_s a z (s := 6) (by decide)) (s28_s a z (s := 7) (by decide)) (s28_s a z (s := 8) (by decide)) (s28_s a z (s := 9) (by decide)) (s28_s a z (s := 10) (by decide)) (s28_s a z (s := 11) (by decide)) (s28_s a z (s := 13) (by decide)) h.2.2.1, IU_cg (s28_s a z (s := 2) (by decide)) (s28_s a z (s := 6) (by decide)) (s28_s a z (s := 7) (by decide)) (s28_s a z (s := 8) (by decide)) (s28_s a z (s := 9) (by decide)) h.2.2.2.1, IG_cg (s28_s a z (s := 0) (by decide)) h.2.2.2.2⟩
theorem s28_RA {C : bpC} {a : bpM} {z : Nat → Int32} {ex : Nat} (h : RA C a ex) : RA C (s28 a z) ex := by
  obtain ⟨⟨h1, h2, h3⟩, h4, h5, h6⟩ := h
  refine ⟨⟨?_, s28_Bas h2, fun p hp => ?_⟩, fun p hp => ?_, fun p hp he => ?_, fun f hf => ?_⟩
  · unfold RSc at h1 ⊢
    rw [s28_pl, (s28_s a z (s := 2) (by decide)), (s28_s a z (s := 11) (by decide)), (s28_s a z (s := 12) (by decide)), (s28_s a z (s := 13) (by decide)), (s28_s a z (s := 26) (by decide)), (s28_s a z (s := 27) (by decide)), (s28_s a z (s := 14) (by decide)), (s28_s a z (s := 0) (by decide)), (s28_s a z (s := 1) (by decide))]
    exact h1
  · rw [s28_np] at hp
    have := h3 p hp
    unfold RPt at this ⊢
    rw [(s28_s a z (s := 3) (by decide)), (s28_s a z (s := 4) (by decide)), (s28_s a z (s := 5) (by decide)), (s28_s a z (s := 6) (by decide)), (s28_s a z (s := 10) (by decide)), (s28_s a z (s := 7) (by decide)), (s28_s a z (s := 8) (by decide)), (s28_s a z (s := 9) (by decide))]
    exact this
  · rw [s28_np] at hp
    have := h4 p hp
    unfold RCh at this ⊢
    rw [s28_choi]
    exact this
  · rw [s28_np] at hp
    have := h5 p hp he
    unfold RQu at this ⊢
    rw [s28_qm, (s28_s a z (s := 17) (by decide)), (s28_s a z (s := 15) (by decide)), (s28_s a z (s := 16) (by decide))]
    exact this
  · have := h6 f hf
    unfold RFl at this ⊢
    rw [s28_hm, (s28_s a z (s := 20) (by decide)), (s28_s a z (s := 18) (by decide)), (s28_s a z (s := 19) (by decide)), (s28_s a z (s := 22) (by decide)), (s28_s a z (s := 23) (by decide)), (s28_s a z (s := 24) (by decide)), (s28_s a z (s := 25) (by decide)), (s28_s a z (s := 21) (by decide))]
    exact this
