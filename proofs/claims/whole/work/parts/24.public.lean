/-! what each call answers, and the state behind it -/
def IU (a : bpM) : Prop := ∀ p, p < np a → ¬ 0 < a 6 p → a 6 p = 0 ∧ a 7 p = 0 ∧ a 8 p = 0 ∧ a 9 p = 0
def IG (a : bpM) : Prop := a 0 0 = nI (pl a) ∧ pl a ≤ 17
def Inv (a : bpM) (k : Nat) : Prop := IQ a ∧ IF a k ∧ IP a ∧ IU a ∧ IG a
def letterS (a : bpM) (x : Int32) : bpM × Int32 := if 32 ≤ x ∧ x ≤ 126 then (if a 0 0 = 17 then (a, -1004) else (upM (upM a 1 (pl a) x) 0 0 (a 0 0 + 1), a 0 0 + 1)) else (a, -1002)
def blankS (a : bpM) : bpM × Int32 := (upM a 0 0 0, a 0 0)
def rlN (a : bpM) : Nat := fsN (fun j => fitB (a 1 j) j) 0 (pl a)
def isBd (a : bpM) : Bool := decide (pl a % 3 = 2) && decide (rlN a = pl a)
/-- a BOARD of n PORTS out of THE PAGE -/
def boardF (a : bpM) (n : Nat) : bpM := fun k j =>
  if k = 0 ∧ j = 0 then 0
  else if k = 2 ∧ j = 0 then nI n
  else if k = 3 ∧ j < 6 then (if j < n then a 1 (3 * j) - 48 else 0)
  else if k = 4 ∧ j < 6 then (if j < n then a 1 (3 * j + 1) - 48 else 0)
  else if (5 ≤ k ∧ k ≤ 10 ∨ k = 17) ∧ j < 6 then 0
  else if k = 14 ∧ j = 0 then a 14 0 + 1
  else if k = 18 ∧ j < 12 then -1
  else if (k = 19 ∨ k = 20 ∨ 22 ≤ k ∧ k ≤ 25) ∧ j < 12 then 0
  else if (k = 26 ∨ k = 27) ∧ j = 0 then 0
  else a k j
def boardS (a : bpM) : bpM × Int32 := if isBd a then (boardF a ((pl a + 1) / 3), nI ((pl a + 1) / 3)) else (a, -1003)
def setS (a : bpM) (w v : Int32) : bpM × Int32 :=
  if w = 0 then (if 1 ≤ v ∧ v ≤ 6 then (settle (upM a 11 0 v), a 11 0) else (a, -1002))
  else if w = 1 then (if 0 ≤ v ∧ v ≤ 9 then (upM a 12 0 v, a 12 0) else (a, -1002))
  else if w = 2 then (if 0 ≤ v ∧ v ≤ 9 then (upM a 13 0 v, a 13 0) else (a, -1002))
  else (a, -1002)
def rankS (a : bpM) (x v : Int32) : bpM × Int32 := if isP a x then (if 0 ≤ v ∧ v ≤ 9 then (settle (upM a 4 x.toNatClampNeg v), a 4 x.toNatClampNeg) else (a, -1002)) else (a, -1001)
def forgF (a : bpM) (p : Nat) : bpM := upM (upM (upM (upM a 6 p 0) 7 p 0) 8 p 0) 9 p 0
def downF (a : bpM) (p : Nat) : bpM := emptyF (settle (forgF (upM a 5 p 0) p)) p
def upS (a : bpM) (x b : Int32) : bpM × Int32 := if isP a x then ((if a 5 x.toNatClampNeg = 1 ∧ b = 0 then downF a x.toNatClampNeg else upM a 5 x.toNatClampNeg b), a 5 x.toNatClampNeg) else (a, -1001)
def hearF (a : bpM) (p : Nat) (y k r : Int32) : bpM := settle (upM (upM (upM (upM a 6 p y) 7 p k) 8 p r) 9 p 0)
def hearS (a : bpM) (x y k r : Int32) : bpM × Int32 :=
  if isP a x then
    (if 1 ≤ y ∧ y ≤ 9 ∧ 0 ≤ k ∧ k ≤ 3 then
      (if a 5 x.toNatClampNeg = 0 then (a, -1003) else (hearF a x.toNatClampNeg y k r, bI (decide (stat (hearF a x.toNatClampNeg y k r) x.toNatClampNeg = 4))))
    else (a, -1002))
  else (a, -1001)
def hrd (a : bpM) (p : Nat) (v : Int32) : Int32 := if 0 < a 6 p then v else -1
def ofV (a : bpM) (p : Nat) : Nat → Int32
  | 0 => a 3 p | 1 => a 4 p | 2 => a 5 p | 3 => hrd a p (a 6 p) | 4 => hrd a p (a 7 p) | 5 => hrd a p (a 8 p) | 6 => hrd a p (a 9 p) | 7 => stat a p | 8 => a 10 p | _ => a 17 p
def ofS (a : bpM) (x w : Int32) : Int32 := if isP a x then (if 0 ≤ w ∧ w ≤ 9 then ofV a x.toNatClampNeg w.toNatClampNeg else -1002) else -1001
def qV (a : bpM) (p j : Nat) : Int32 := if a 16 (24 * p + j) = 0 then -1 - a 15 (24 * p + j) else 100 * a 15 (24 * p + j) + (a 16 (24 * p + j) - a 16 (24 * p + j) / 100 * 100)
def queueS (a : bpM) (x j : Int32) : Int32 := if isP a x = true ∧ 0 ≤ j ∧ j < a 17 x.toNatClampNeg then qV a x.toNatClampNeg j.toNatClampNeg else -1001
def keyV (a : bpM) (k : Int32) : Nat → Int32
  | 0 => oI (lead a k) | 1 => nI (bits a k 2 4) | 2 => nI (bits a k 1 1) | _ => nI (bits a k 4 4)
def keyS (a : bpM) (k w : Int32) : Int32 := if 0 ≤ k ∧ k ≤ 3 then (if 0 ≤ w ∧ w ≤ 3 then keyV a k w.toNatClampNeg else -1002) else -1001
def isF (x : Int32) : Bool := decide (0 ≤ x) && decide (x < 12)
def wayS (a : bpM) (x : Int32) : Int32 := if isF x then oI (way a x.toNatClampNeg) else -1001
def sendS (a : bpM) (x : Int32) : bpM × Int32 := if isF x then (if a 2 0 = 0 then (a, -1003) else sendF a x.toNatClampNeg) else (a, -1001)
def flowS (a : bpM) (x w : Int32) : Int32 := if isF x then (if 0 ≤ w ∧ w ≤ 6 then a (fsl w.toNatClampNeg) x.toNatClampNeg else -1002) else -1001
def tickS (a : bpM) (x : Int32) : bpM × Int32 := if 1 ≤ x ∧ x ≤ 50 then (if a 2 0 = 0 then (a, -1003) else tickN a x.toNatClampNeg) else (a, -1002)
def cntV (a : bpM) : Nat → Int32
  | 0 => a 2 0 | 1 => a 0 0 | 2 => a 11 0 | 3 => a 12 0 | 4 => a 13 0 | 5 => a 26 0 | 6 => smN (a 22) 12 | 7 => smN (a 23) 12 | 8 => smN (a 24) 12 | 9 => smN (a 20) 12 | 10 => a 27 0 | _ => a 14 0
def countS (a : bpM) (w : Int32) : Int32 := if 0 ≤ w ∧ w ≤ 11 then cntV a w.toNatClampNeg else -1002
/-! the digest -/
def fldN (g : Nat → Int32) (h : Int64) : Nat → Int64
  | 0 => h
  | n + 1 => 31 * fldN g h n + (g n).toInt64
def dpN (a : bpM) : Nat → Int64
  | 0 => 1741
  | p + 1 => fldN (qV a p) (fldN (ofV a p) (dpN a p) 10) (qm a p)
def dkN (a : bpM) (h : Int64) : Nat → Int64
  | 0 => h
  | k + 1 => fldN (keyV a (nI k)) (dkN a h k) 4
def dfN (a : bpM) (h : Int64) : Nat → Int64
  | 0 => h
  | f + 1 => fldN (fun w => a (fsl w) f) (31 * dfN a h f + (oI (way a f)).toInt64) 7
def digS (a : bpM) : Int64 := fldN (cntV a) (fldN (a 1) (dfN a (dkN a (dpN a (np a)) 4) 12) (pl a)) 12
theorem isP_c {a : bpM} {p : Nat} (h : p < 2 ^ 31) : (nI p).toNatClampNeg = p := nIc h
theorem isF_n {f : Nat} (h : f < 12) : isF (nI f) = true := by
  simp only [isF, Bool.and_eq_true, decide_eq_true_eq]
  rw [i_le, i_lt, i_0, i_12, i_n (by omega)]
  omega
theorem isF_of {x : Int32} (h : isF x = true) : ∃ f, f < 12 ∧ x = nI f := by
  simp only [isF, Bool.and_eq_true, decide_eq_true_eq] at h
  obtain ⟨h1, h2⟩ := h
  have h0 : ¬ x < 0 := by rw [i_lt, i_0]; rw [i_le, i_0] at h1; omega
  obtain ⟨j, hj, rfl⟩ := nI_of h0
  rw [i_lt, i_12, i_n hj] at h2
  exact ⟨j, by omega, rfl⟩
theorem rng_of {x : Int32} {n : Nat} (hn : n < 2 ^ 31) (h1 : 0 ≤ x) (h2 : x ≤ nI n) : ∃ w, w ≤ n ∧ x = nI w := by
  have h0 : ¬ x < 0 := by rw [i_lt, i_0]; rw [i_le, i_0] at h1; omega
  obtain ⟨j, hj, rfl⟩ := nI_of h0
  rw [i_le, i_n hj, i_n hn] at h2
  exact ⟨j, by omega, rfl⟩
/-! the invariant under the calls -/
theorem IU_cg {a b : bpM} (h2 : b 2 = a 2) (h6 : b 6 = a 6) (h7 : b 7 = a 7) (h8 : b 8 = a 8) (h9 : b 9 = a 9) (h : IU a) : IU b := by
  intro p hp
  have hn : np b = np a := by unfold np; rw [h2]
  rw [hn] at hp
  rw [h6, h7, h8, h9]
  exact h p hp
theorem IG_cg {a b : bpM} (h0 : b 0 = a 0) (h : IG a) : IG b := by
  unfold IG pl at h ⊢
  rw [h0]
  exact h
theorem Inv_mono {a : bpM} {k k' : Nat} (hk : k ≤ k') (h : Inv a k) : Inv a k' := ⟨h.1, IF_mono hk h.2.1, h.2.2⟩
theorem settle_eq {a : bpM} (h : ∀ p, p < np a → choi a p ≠ 2 → a 10 p = 0) : settle a = a := by
  funext k j
  unfold settle
  by_cases hc : k = 10 ∧ j < np a ∧ choi a j ≠ 2
  · rw [if_pos hc, hc.1, h j hc.2.1 hc.2.2]
  · rw [if_neg hc]
/-- what a change of the PORTS' numbers leaves of the rest -/
theorem Inv_ports {a b : bpM} {k : Nat} (hs : ∀ s, s < 3 ∨ 13 < s → b s = a s) (h5 : b 5 = a 5) (hP : IP b) (hU : IU b) (h : Inv a k) : Inv b k := by
  have hn : np b = np a := by unfold np; rw [hs 2 (by omega)]
  exact ⟨IQ_cg hn h5 (hs 15 (by omega)) (hs 16 (by omega)) (hs 17 (by omega)) (hs 18 (by omega)) (hs 19 (by omega)) h.1, IF_cg hn (hs 18 (by omega)) (hs 19 (by omega)) (hs 20 (by omega)) (hs 21 (by omega)) (hs 22 (by omega)) h.2.1, hP, hU, IG_cg (hs 0 (by omega)) h.2.2.2.2⟩
theorem Inv_letter {a : bpM} {k : Nat} (x : Int32) (h : Inv a k) : Inv (letterS a x).1 k := by
  unfold letterS
  split
  · split
    · exact h
    · rename_i h17
      dsimp only
      obtain ⟨hQ, hF, hP, hU, hG⟩ := h
      have hlt : pl a < 17 := by
        rcases Nat.lt_or_ge (pl a) 17 with q | q
        · exact q
        · exact absurd (by rw [hG.1, show pl a = 17 by have := hG.2; omega]; rfl) h17
      refine ⟨IQ_up (by omega) (IQ_up (by omega) hQ), IF_up (by omega) (IF_up (by omega) hF), IP_up (by omega) (IP_up (by omega) hP), IU_cg (by rw [upM_other _ _ _ _ (by omega), upM_other _ _ _ _ (by omega)]) (by rw [upM_other _ _ _ _ (by omega), upM_other _ _ _ _ (by omega)]) (by rw [upM_other _ _ _ _ (by omega), upM_other _ _ _ _ (by omega)]) (by rw [upM_other _ _ _ _ (by omega), upM_other _ _ _ _ (by omega)]) (by rw [upM_other _ _ _ _ (by omega), upM_other _ _ _ _ (by omega)]) hU, ?_⟩
      have e1 : a 0 0 + 1 = nI (pl a + 1) := by rw [hG.1]; exact nI_1 _
      rw [e1]
      have e2 : pl (upM (upM a 1 (pl a) x) 0 0 (nI (pl a + 1))) = pl a + 1 := by
        show (upM _ 0 0 (nI (pl a + 1)) 0 0).toNatClampNeg = _
        rw [upM_at]; exact nIc (by omega)
      unfold IG
      rw [e2, upM_at]
      exact ⟨rfl, by omega⟩
  · exact h
theorem Inv_blank {a : bpM} {k : Nat} (h : Inv a k) : Inv (blankS a).1 k := by
  obtain ⟨hQ, hF, hP, hU, hG⟩ := h
  unfold blankS
  dsimp only
  refine ⟨IQ_up (by omega) hQ, IF_up (by omega) hF, IP_up (by omega) hP, IU_cg (upM_other _ _ _ _ (by omega)) (upM_other _ _ _ _ (by omega)) (upM_other _ _ _ _ (by omega)) (upM_other _ _ _ _ (by omega)) (upM_other _ _ _ _ (by omega)) hU, ?_⟩
  have e2 : pl (upM a 0 0 0) = 0 := by
    show (upM a 0 0 0 0 0).toNatClampNeg = _
    rw [upM_at]; rfl
  unfold IG
  rw [e2, upM_at]
  exact ⟨rfl, by omega⟩
theorem IU_settle {a : bpM} (h : IU a) : IU (settle a) := IU_cg (settle_s a (by decide)) (settle_s a (by decide)) (settle_s a (by decide)) (settle_s a (by decide)) (settle_s a (by decide)) h
theorem Inv_set {a : bpM} {k : Nat} (w v : Int32) (h : Inv a k) : Inv (setS a w v).1 k := by
  obtain ⟨hQ, hF, hP, hU, hG⟩ := id h
  unfold setS
  split
  · split
    · dsimp only
      have hP0 : ∀ p, p < np (upM a 11 0 v) → IPp0 (upM a 11 0 v) p := fun p hp => by
        rw [np_up (by omega)] at hp
        have := (hP.2 p hp).z
        unfold IPp0 at this ⊢
        rw [upM_other _ _ _ _ (by omega), upM_other _ _ _ _ (by omega), upM_other _ _ _ _ (by omega), upM_other _ _ _ _ (by omega), upM_other _ _ _ _ (by omega)]
        exact this
      refine Inv_ports (fun s hs => by rw [settle_s _ (by omega), upM_other _ _ _ _ (by omega)]) (by rw [settle_s _ (by omega), upM_other _ _ _ _ (by omega)]) (IP_settle (Bas_M (by omega) hP.1) hP0) (IU_settle (IU_cg (upM_other _ _ _ _ (by omega)) (upM_other _ _ _ _ (by omega)) (upM_other _ _ _ _ (by omega)) (upM_other _ _ _ _ (by omega)) (upM_other _ _ _ _ (by omega)) hU)) h
    · exact h
  · split
    · split
      · dsimp only
        exact Inv_ports (fun s hs => upM_other _ _ _ _ (by omega)) (upM_other _ _ _ _ (by omega)) (IP_up (by omega) hP) (IU_cg (upM_other _ _ _ _ (by omega)) (upM_other _ _ _ _ (by omega)) (upM_other _ _ _ _ (by omega)) (upM_other _ _ _ _ (by omega)) (upM_other _ _ _ _ (by omega)) hU) h
      · exact h
    · split
      · split
        · rename_i hv
          dsimp only
          have hv2 : ∃ w, w ≤ 9 ∧ v = nI w := rng_of (n := 9) (by decide) hv.1 hv.2
          obtain ⟨w', hw', rfl⟩ := hv2
          refine Inv_ports (fun s hs => upM_other _ _ _ _ (by omega)) (upM_other _ _ _ _ (by omega)) ⟨?_, fun p hp => ?_⟩ (IU_cg (upM_other _ _ _ _ (by omega)) (upM_other _ _ _ _ (by omega)) (upM_other _ _ _ _ (by omega)) (upM_other _ _ _ _ (by omega)) (upM_other _ _ _ _ (by omega)) hU) h
          · have e : sh (upM a 13 0 (nI w')) = w' := by
              show (upM a 13 0 (nI w') 13 0).toNatClampNeg = _
              rw [upM_at]; exact nIc (by omega)
            unfold Bas
            rw [e, np_up (by omega), upM_at, upM_ne _ _ _ _ (by omega)]
            exact ⟨hP.1.1, hP.1.2.1, rfl, hw'⟩
          · rw [np_up (by omega)] at hp
            have := hP.2 p hp
            unfold IPp at this ⊢
            rw [choi_up (by omega), upM_other _ _ _ _ (by omega), upM_other _ _ _ _ (by omega), upM_other _ _ _ _ (by omega), upM_other _ _ _ _ (by omega), upM_other _ _ _ _ (by omega), upM_other _ _ _ _ (by omega)]
            exact this
        · exact h
      · exact h
theorem Inv_rank {a : bpM} {k : Nat} (x v : Int32) (h : Inv a k) : Inv (rankS a x v).1 k := by
  obtain ⟨hQ, hF, hP, hU, hG⟩ := id h
  unfold rankS
  split
  · split
    · dsimp only
      have hP0 : ∀ p, p < np (upM a 4 x.toNatClampNeg v) → IPp0 (upM a 4 x.toNatClampNeg v) p := fun p hp => by
        rw [np_up (by omega)] at hp
        have := (hP.2 p hp).z
        unfold IPp0 at this ⊢
        rw [upM_other _ _ _ _ (by omega), upM_other _ _ _ _ (by omega), upM_other _ _ _ _ (by omega), upM_other _ _ _ _ (by omega), upM_other _ _ _ _ (by omega)]
        exact this
      exact Inv_ports (fun s hs => by rw [settle_s _ (by omega), upM_other _ _ _ _ (by omega)]) (by rw [settle_s _ (by omega), upM_other _ _ _ _ (by omega)]) (IP_settle (Bas_M (by omega) hP.1) hP0) (IU_settle (IU_cg (upM_other _ _ _ _ (by omega)) (upM_other _ _ _ _ (by omega)) (upM_other _ _ _ _ (by omega)) (upM_other _ _ _ _ (by omega)) (upM_other _ _ _ _ (by omega)) hU)) h
    · exact h
  · exact h
