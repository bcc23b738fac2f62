/-! what a change of one slot leaves -/
theorem np_up {a : bpM} {k j : Nat} {v : Int32} (h : k ≠ 2) : np (upM a k j v) = np a := by unfold np; rw [upM_other _ _ _ _ (Ne.symm h)]
theorem qm_up {a : bpM} {k j : Nat} {v : Int32} (h : k ≠ 17) (p : Nat) : qm (upM a k j v) p = qm a p := by unfold qm; rw [upM_other _ _ _ _ (Ne.symm h)]
theorem hm_up {a : bpM} {k j : Nat} {v : Int32} (h : k ≠ 20) (f : Nat) : hm (upM a k j v) f = hm a f := by unfold hm; rw [upM_other _ _ _ _ (Ne.symm h)]
theorem pl_up {a : bpM} {k j : Nat} {v : Int32} (h : k ≠ 0) : pl (upM a k j v) = pl a := by unfold pl; rw [upM_other _ _ _ _ (Ne.symm h)]
theorem sh_up {a : bpM} {k j : Nat} {v : Int32} (h : k ≠ 13) : sh (upM a k j v) = sh a := by unfold sh; rw [upM_other _ _ _ _ (Ne.symm h)]
theorem ahd_cg {a b : bpM} (h4 : a 4 = b 4) (p q : Nat) : ahd a p q = ahd b p q := by simp only [ahd, h4]
theorem alk_cg {a b : bpM} (h3 : a 3 = b 3) (h6 : a 6 = b 6) (h7 : a 7 = b 7) (p q : Nat) : alk a p q = alk b p q := by simp only [alk, h3, h6, h7]
theorem leadN_cg {a b : bpM} (h3 : a 3 = b 3) (h4 : a 4 = b 4) (h6 : a 6 = b 6) (key : Int32) : ∀ n, leadN a key n = leadN b key n
  | 0 => rfl
  | n + 1 => by
    simp only [leadN]
    rw [leadN_cg h3 h4 h6 key n]
    simp only [h3, h6, ahd_cg h4]
theorem lead_cg {a b : bpM} (h2 : np a = np b) (h3 : a 3 = b 3) (h4 : a 4 = b 4) (h6 : a 6 = b 6) (key : Int32) : lead a key = lead b key := by
  unfold lead
  rw [h2]
  exact leadN_cg h3 h4 h6 key _
theorem choi_cg {a b : bpM} (h2 : np a = np b) (h3 : a 3 = b 3) (h4 : a 4 = b 4) (h6 : a 6 = b 6) (h7 : a 7 = b 7) (h11 : a 11 0 = b 11 0) (p : Nat) : choi a p = choi b p := by
  unfold choi place
  rw [lead_cg h2 h3 h4 h6, h3, h2, h11]
  cases lead b (b 3 p) with
  | none => rfl
  | some l =>
    simp only [alk_cg h3 h6 h7, ahd_cg h4]
theorem stat_cg {a b : bpM} (h2 : np a = np b) (h3 : a 3 = b 3) (h4 : a 4 = b 4) (h6 : a 6 = b 6) (h7 : a 7 = b 7) (h8 : a 8 = b 8) (h10 : a 10 = b 10) (h11 : a 11 0 = b 11 0) (h12 : a 12 0 = b 12 0) (p : Nat) : stat a p = stat b p := by
  unfold stat
  rw [choi_cg h2 h3 h4 h6 h7 h11, h8, h10, h12]
theorem way_cg {a b : bpM} (h2 : np a = np b) (h3 : a 3 = b 3) (h4 : a 4 = b 4) (h6 : a 6 = b 6) (h7 : a 7 = b 7) (h8 : a 8 = b 8) (h10 : a 10 = b 10) (h11 : a 11 0 = b 11 0) (h12 : a 12 0 = b 12 0) (h13 : a 13 0 = b 13 0) (f : Nat) : way a f = way b f := by
  have hc : ∀ key, car a key = car b key := fun key => by
    funext p
    unfold car
    rw [h3, stat_cg h2 h3 h4 h6 h7 h8 h10 h11 h12]
  unfold way
  rw [hc, h2, h13]
theorem choi_up {a : bpM} {k j : Nat} {v : Int32} (h : k = 0 ∨ k = 1 ∨ k = 5 ∨ k = 8 ∨ k = 9 ∨ k = 10 ∨ 12 ≤ k) (p : Nat) : choi (upM a k j v) p = choi a p :=
  choi_cg (np_up (by omega)) (upM_other _ _ _ _ (by omega)) (upM_other _ _ _ _ (by omega)) (upM_other _ _ _ _ (by omega)) (upM_other _ _ _ _ (by omega)) (by rw [upM_other _ _ _ _ (by omega)]) p
theorem stat_up {a : bpM} {k j : Nat} {v : Int32} (h : k = 0 ∨ k = 1 ∨ k = 5 ∨ k = 9 ∨ 13 ≤ k) (p : Nat) : stat (upM a k j v) p = stat a p :=
  stat_cg (np_up (by omega)) (upM_other _ _ _ _ (by omega)) (upM_other _ _ _ _ (by omega)) (upM_other _ _ _ _ (by omega)) (upM_other _ _ _ _ (by omega)) (upM_other _ _ _ _ (by omega)) (upM_other _ _ _ _ (by omega)) (by rw [upM_other _ _ _ _ (by omega)]) (by rw [upM_other _ _ _ _ (by omega)]) p
theorem way_up {a : bpM} {k j : Nat} {v : Int32} (h : k = 0 ∨ k = 1 ∨ k = 5 ∨ k = 9 ∨ 14 ≤ k) (f : Nat) : way (upM a k j v) f = way a f :=
  way_cg (np_up (by omega)) (upM_other _ _ _ _ (by omega)) (upM_other _ _ _ _ (by omega)) (upM_other _ _ _ _ (by omega)) (upM_other _ _ _ _ (by omega)) (upM_other _ _ _ _ (by omega)) (upM_other _ _ _ _ (by omega)) (by rw [upM_other _ _ _ _ (by omega)]) (by rw [upM_other _ _ _ _ (by omega)]) (by rw [upM_other _ _ _ _ (by omega)]) f
theorem upM_comm (a : bpM) {k k' : Nat} (h : k ≠ k') (j j' : Nat) (v v' : Int32) : upM (upM a k j v) k' j' v' = upM (upM a k' j' v') k j v := by
  funext x y
  simp only [upM]
  by_cases h1 : x = k' ∧ y = j'
  · rw [if_pos h1, if_neg (fun q => h (q.1.symm.trans h1.1)), if_pos h1]
  · rw [if_neg h1, if_neg h1]
theorem way_car {a : bpM} {f p : Nat} (h : way a f = some p) : stat a p = 4 := by
  have key : ∀ (P : Nat → Bool) (t n : Nat), kth P t n = some p → P p = true := by
    intro P t n
    induction n with
    | zero => intro h; cases h
    | succ n ih =>
      intro h
      simp only [kth] at h
      cases hk : kth P t n with
      | some q => rw [hk] at h; cases h; exact ih hk
      | none =>
        rw [hk] at h
        simp only at h
        split at h
        · rename_i hh; cases h; exact hh.1
        · cases h
  unfold way at h
  split at h
  · cases h
  · have := key _ _ _ h
    simp only [car, Bool.and_eq_true, decide_eq_true_eq] at this
    exact this.2
theorem stat_heard {a : bpM} {p : Nat} (h : stat a p = 4) : 0 < a 6 p := by
  unfold stat at h
  by_cases hc : choi a p = 2
  · exact choi_heard hc
  · rw [if_neg hc] at h
    rcases choi_012 a p with e | e | e <;> rw [e] at h <;> exact absurd h (by decide)
/-! steps of the state -/
def lostF (a : bpM) (f : Nat) : bpM := upM a 24 f (a 24 f + 1)
def layF (a : bpM) (p : Nat) (f n : Int32) : bpM := upM (upM (upM a 15 (24 * p + qm a p) f) 16 (24 * p + qm a p) n) 17 p (a 17 p + 1)
def comeF (a : bpM) (w : Option Nat) (f : Nat) (n : Int32) : bpM × Int32 := match w with
  | none => (lostF a f, 2)
  | some p => if 8 ≤ a 17 p then (lostF a f, 2) else (layF a p (nI f) n, 0)
def holdF (a : bpM) (f : Nat) (n : Int32) : bpM × Int32 := if a 20 f = 8 then (lostF a f, 2) else (upM (upM a 21 (8 * f + hm a f) n) 20 f (a 20 f + 1), 1)
def hasL (a : bpM) (p f : Nat) : Bool := exN (fun j => decide (a 15 (24 * p + j) = nI f) && decide (0 < a 16 (24 * p + j))) (qm a p)
def onN (a : bpM) (f : Nat) : Nat := (a 18 f).toNatClampNeg
def sendF (a0 : bpM) (f : Nat) : bpM × Int32 :=
  let a := upM a0 22 f (a0 22 f + 1)
  if a 19 f ≠ 0 then holdF a f (a 22 f)
  else match way a f with
    | none => (lostF a f, 2)
    | some p => if a 18 f ≠ -1 ∧ a 18 f ≠ nI p ∧ hasL a (onN a f) f = true then holdF (layF (upM a 19 f 1) (onN a f) (nI f) 0) f (a 22 f)
      else comeF (upM a 18 f (nI p)) (some p) f (a 22 f)
/-- what is HELD comes, so far -/
def ansN (a : bpM) (w : Option Nat) (f : Nat) (v : Nat → Int32) : Nat → bpM
  | 0 => a
  | k + 1 => (comeF (ansN a w f v k) w f (v k)).1
def ansB (a : bpM) (f : Nat) : bpM := upM (upM (upM a 19 f 0) 27 0 (a 27 0 + 1)) 18 f (oI (way a f))
def answerF (a : bpM) (f : Nat) : bpM := ansN (upM (ansB a f) 20 f 0) (way a f) f (fun k => a 21 (8 * f + k)) (hm a f)
theorem come_20 (a : bpM) (w : Option Nat) (f g : Nat) (n v : Int32) : (comeF (upM a 20 g v) w f n).1 = upM (comeF a w f n).1 20 g v := by
  cases w with
  | none =>
    simp only [comeF, lostF]
    rw [upM_comm _ (by decide), upM_ne _ _ _ _ (by simp)]
  | some p =>
    simp only [comeF]
    rw [upM_ne a 20 g v (k' := 17) (j' := p) (by simp)]
    split
    · simp only [lostF]
      rw [upM_comm _ (by decide), upM_ne _ _ _ _ (by simp)]
    · simp only [layF]
      rw [qm_up (by decide), upM_ne a 20 g v (k' := 17) (j' := p) (by simp), upM_comm a (show (20 : Nat) ≠ 15 by decide), upM_comm _ (show (20 : Nat) ≠ 16 by decide), upM_comm _ (show (20 : Nat) ≠ 17 by decide)]
theorem ansN_20 (a : bpM) (w : Option Nat) (f g : Nat) (v : Nat → Int32) (x : Int32) : ∀ k, ansN (upM a 20 g x) w f v k = upM (ansN a w f v k) 20 g x
  | 0 => rfl
  | k + 1 => by
    simp only [ansN]
    rw [ansN_20 a w f g v x k, come_20]
theorem answerF_eq (a : bpM) (f : Nat) : answerF a f = upM (ansN (ansB a f) (way a f) f (fun k => a 21 (8 * f + k)) (hm a f)) 20 f 0 := ansN_20 _ _ _ _ _ _ _
/-! the whole relation; the QUEUE of one PORT may be left out -/
def RA (C : bpC) (a : bpM) (ex : Nat) : Prop := RB C a ∧ (∀ p, p < np a → RCh C a p) ∧ (∀ p, p < np a → p ≠ ex → RQu C a p) ∧ ∀ f, f < 12 → RFl C a f
/-- what holds of the numbers of queues and flows -/
def mvc (a : bpM) (p : Nat) : Nat := ctN (fun f => decide (a 19 f ≠ 0) && decide (a 18 f = nI p)) 12
def IQp (a : bpM) (p : Nat) : Prop := a 17 p = nI (qm a p) ∧ qm a p ≤ 8 + mvc a p ∧ (0 < qm a p → a 5 p = 1) ∧ (∀ j, j < qm a p → 0 ≤ a 16 (24 * p + j) ∧ ∃ f, f < 12 ∧ a 15 (24 * p + j) = nI f ∧ (a 16 (24 * p + j) = 0 → a 19 f ≠ 0 ∧ a 18 f = nI p)) ∧ (∀ j j', j < qm a p → j' < qm a p → a 16 (24 * p + j) = 0 → a 16 (24 * p + j') = 0 → a 15 (24 * p + j) = a 15 (24 * p + j') → j = j')
def IQ (a : bpM) : Prop := ∀ p, p < np a → IQp a p
def IFf (a : bpM) (k f : Nat) : Prop := (a 19 f = 0 ∨ a 19 f = 1) ∧ (a 18 f = -1 ∨ ∃ p, p < np a ∧ a 18 f = nI p) ∧ a 20 f = nI (hm a f) ∧ hm a f ≤ 8 ∧ (∀ j, j < hm a f → 0 < a 21 (8 * f + j)) ∧ ∃ s, s ≤ k ∧ a 22 f = nI s
def IF (a : bpM) (k : Nat) : Prop := ∀ f, f < 12 → IFf a k f
def IPp (a : bpM) (p : Nat) : Prop := (∃ k, k < 4 ∧ a 3 p = nI k) ∧ (a 5 p = 0 ∨ a 5 p = 1) ∧ (a 8 p = 0 ∨ a 8 p = 1) ∧ (0 < a 6 p → a 5 p = 1) ∧ (∃ g, g < 4 ∧ a 9 p = nI g) ∧ (choi a p ≠ 2 → a 10 p = 0)
def IP (a : bpM) : Prop := Bas a ∧ ∀ p, p < np a → IPp a p
theorem IQp.le {a : bpM} {p : Nat} (h : IQp a p) : qm a p ≤ 20 := by
  have := ctN_le (fun f => decide (a 19 f ≠ 0) && decide (a 18 f = nI p)) 12
  have h2 : qm a p ≤ 8 + ctN (fun f => decide (a 19 f ≠ 0) && decide (a 18 f = nI p)) 12 := h.2.1
  omega
