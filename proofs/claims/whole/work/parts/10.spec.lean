/-! numbers -/
theorem i_lt (a b : Int32) : a < b ↔ a.toInt < b.toInt := Int32.lt_iff_toInt_lt
theorem i_le (a b : Int32) : a ≤ b ↔ a.toInt ≤ b.toInt := Int32.le_iff_toInt_le
theorem i_eq (a b : Int32) : a = b ↔ a.toInt = b.toInt := Int32.toInt_inj.symm
def bI (b : Bool) : Int32 := if b then 1 else 0
theorem bI_01 (b : Bool) : bI b = 0 ∨ bI b = 1 := by cases b <;> decide
theorem bI_0 {b : Bool} (h : bI b = 0) : b = false := by cases b <;> first | rfl | (exact absurd h (by decide))
theorem bI_1 {b : Bool} (h : ¬ bI b = 0) : b = true := by cases b <;> first | rfl | (exact absurd rfl h)
def oI : Option Nat → Int32
  | none => -1
  | some n => nI n
/-! the reference's memory as a state: its numbers by their slots -/
def np (a : bpM) : Nat := (a 2 0).toNatClampNeg
def qm (a : bpM) (p : Nat) : Nat := (a 17 p).toNatClampNeg
def hm (a : bpM) (f : Nat) : Nat := (a 20 f).toNatClampNeg
def pl (a : bpM) : Nat := (a 0 0).toNatClampNeg
def ctN (P : Nat → Bool) : Nat → Nat
  | 0 => 0
  | n + 1 => ctN P n + (if P n then 1 else 0)
theorem ctN_le (P : Nat → Bool) : ∀ n, ctN P n ≤ n
  | 0 => Nat.le_refl 0
  | n + 1 => by
    have := ctN_le P n
    simp only [ctN]
    split <;> omega
theorem ctN_cong {P Q : Nat → Bool} : ∀ {n : Nat}, (∀ k, k < n → P k = Q k) → ctN P n = ctN Q n
  | 0, _ => rfl
  | n + 1, h => by
    simp only [ctN]
    rw [ctN_cong (fun k hk => h k (Nat.lt_succ_of_lt hk)), h n (Nat.lt_succ_self n)]
/-- p goes ahead of q: by RANK, of like ones by number -/
def ahd (a : bpM) (p q : Nat) : Bool := decide (a 4 p < a 4 q) || (decide (a 4 p = a 4 q) && decide (p < q))
def leadN (a : bpM) (key : Int32) : Nat → Option Nat
  | 0 => none
  | n + 1 => if a 3 n = key ∧ 0 < a 6 n ∧ (∀ b, leadN a key n = some b → ahd a n b = true) then some n else leadN a key n
def lead (a : bpM) (key : Int32) : Option Nat := leadN a key (np a)
theorem leadN_lt (a : bpM) (key : Int32) : ∀ (n b : Nat), leadN a key n = some b → b < n
  | 0, b, h => by cases h
  | n + 1, b, h => by
    simp only [leadN] at h
    split at h
    · cases h
      exact Nat.lt_succ_self _
    · exact Nat.lt_succ_of_lt (leadN_lt a key n b h)
def alk (a : bpM) (p q : Nat) : Bool := decide (0 < a 6 p) && (decide (a 3 p = a 3 q) && (decide (a 6 p = a 6 q) && decide (a 7 p = a 7 q)))
def place (a : bpM) (p : Nat) : Option Nat := match lead a (a 3 p) with
  | none => none
  | some l => if alk a p l then some (ctN (fun q => alk a q l && ahd a q p) (np a)) else none
/-- 0 apart, 1 SPARE, 2 CHOSEN -/
def choi (a : bpM) (p : Nat) : Int32 := match place a p with
  | none => 0
  | some c => if nI c < a 11 0 then 2 else 1
/-- 0 none of these, 1 SPARE, 2 CHOSEN, 3 ATTACHED, 4 it CARRIES -/
def stat (a : bpM) (p : Nat) : Int32 := if choi a p = 2 then (if a 10 p < a 12 0 then 2 else if a 8 p = 0 then 3 else 4) else choi a p
theorem choi_012 (a : bpM) (p : Nat) : choi a p = 0 ∨ choi a p = 1 ∨ choi a p = 2 := by
  unfold choi
  split
  · exact Or.inl rfl
  · split
    · exact Or.inr (Or.inr rfl)
    · exact Or.inr (Or.inl rfl)
/-- who is not CHOSEN has not WAITED -/
def settle (a : bpM) : bpM := fun k j => if k = 10 ∧ j < np a ∧ choi a j ≠ 2 then 0 else a k j
/-- the bits of the PORTS of a KEY that are so -/
def bitN (a : bpM) (key lo hi : Int32) : Nat → Nat
  | 0 => 0
  | n + 1 => bitN a key lo hi n + (if a 3 n = key ∧ lo ≤ stat a n ∧ stat a n ≤ hi then 2 ^ n else 0)
theorem bitN_lt (a : bpM) (key lo hi : Int32) : ∀ n, bitN a key lo hi n < 2 ^ n
  | 0 => (show (0 : Nat) < 1 by decide)
  | n + 1 => by
    have := bitN_lt a key lo hi n
    simp only [bitN, Nat.pow_succ]
    split <;> omega
def bits (a : bpM) (key lo hi : Int32) : Nat := bitN a key lo hi (np a)
/-- a PORT of a KEY that CARRIES -/
def car (a : bpM) (key : Int32) (p : Nat) : Bool := decide (a 3 p = key) && decide (stat a p = 4)
/-- the first place with so many ahead of it -/
def kth (P : Nat → Bool) (t : Nat) : Nat → Option Nat
  | 0 => none
  | n + 1 => match kth P t n with
    | some p => some p
    | none => if P n ∧ ctN P n = t then some n else none
def way (a : bpM) (f : Nat) : Option Nat :=
  if ctN (car a (nI (f % 4))) (np a) = 0 then none
  else kth (car a (nI (f % 4))) ((f / 4 + (a 13 0).toNatClampNeg) % ctN (car a (nI (f % 4))) (np a)) (np a)
/-- what is told of a number: a PORT -/
def isP (a : bpM) (x : Int32) : Bool := decide (0 ≤ x) && decide (x < a 2 0)
/-! the relation between the class's memory and such a state -/
def RSc (C : bpC) (a : bpM) : Prop := C 0 0 3 = a 2 0 ∧ C 0 0 4 = a 11 0 ∧ C 0 0 5 = a 12 0 ∧ C 0 0 6 = a 13 0 ∧ C 0 0 7 = a 26 0 ∧ C 0 0 8 = a 27 0 ∧ C 0 0 9 = a 14 0 ∧ C 1 0 1 = a 0 0 ∧ ∀ j, j < pl a → C 2 0 j = a 1 j
def RPt (C : bpC) (a : bpM) (p : Nat) : Prop := C 5 p 1 = a 3 p ∧ C 5 p 2 = a 4 p ∧ C 5 p 3 = a 5 p ∧ C 5 p 4 = bI (decide (0 < a 6 p)) ∧ C 5 p 10 = a 10 p ∧ (0 < a 6 p → C 5 p 5 = a 6 p ∧ C 5 p 6 = a 7 p ∧ C 5 p 7 = a 8 p ∧ C 5 p 8 = a 9 p)
def RCh (C : bpC) (a : bpM) (p : Nat) : Prop := C 5 p 9 = choi a p
def RQu (C : bpC) (a : bpM) (p : Nat) : Prop := C 6 p 2 = a 17 p ∧ ∀ j, j < qm a p → C 7 p j = a 15 (24 * p + j) ∧ C 8 p j = a 16 (24 * p + j)
def RFl (C : bpC) (a : bpM) (f : Nat) : Prop := C 9 f 1 = a 20 f ∧ C 9 f 2 = a 18 f ∧ C 9 f 3 = a 19 f ∧ C 9 f 4 = a 22 f ∧ C 9 f 5 = a 23 f ∧ C 9 f 6 = a 24 f ∧ C 9 f 7 = a 25 f ∧ ∀ j, j < hm a f → C 10 f j = a 21 (8 * f + j)
/-- numbers that the reference keeps small, whatever is called -/
def sh (a : bpM) : Nat := (a 13 0).toNatClampNeg
def Bas (a : bpM) : Prop := a 2 0 = nI (np a) ∧ np a ≤ 6 ∧ a 13 0 = nI (sh a) ∧ sh a ≤ 9
def exN (P : Nat → Bool) : Nat → Bool
  | 0 => false
  | n + 1 => exN P n || P n
theorem exN_true {P : Nat → Bool} {i : Nat} (h : P i = true) : ∀ {n : Nat}, i < n → exN P n = true
  | 0, hn => absurd hn (Nat.not_lt_zero _)
  | n + 1, hn => by
    simp only [exN]
    rcases Nat.lt_or_ge i n with q | q
    · rw [exN_true h q]; rfl
    · have : i = n := by omega
      subst this
      rw [h, Bool.or_true]
theorem exN_succ {P : Nat → Bool} {n : Nat} (h : exN P n = false) (h2 : P n = false) : exN P (n + 1) = false := by simp [exN, h, h2]
theorem exN_cong {P Q : Nat → Bool} : ∀ {n : Nat}, (∀ k, k < n → P k = Q k) → exN P n = exN Q n
  | 0, _ => rfl
  | n + 1, h => by
    simp only [exN]
    rw [exN_cong (fun k hk => h k (Nat.lt_succ_of_lt hk)), h n (Nat.lt_succ_self n)]
theorem nI_inj {a b : Nat} (ha : a < 2 ^ 31) (hb : b < 2 ^ 31) (h : nI a = nI b) : a = b := (nI_eq ha hb).mp h
theorem ret_i {x y : Int32} (h : x = y) : some (Value.int x) = some (Value.int y) := by rw [h]
theorem bI_f {b : Bool} (h : b = false) : (0 : Int32) = bI b := by rw [h]; rfl
theorem bI_t {b : Bool} (h : b = true) : (1 : Int32) = bI b := by rw [h]; rfl
theorem i_n {n : Nat} (h : n < 2 ^ 31) : (nI n).toInt = (n : Int) := nI_toInt h
theorem i_m1 : (-1 : Int32).toInt = -1 := by decide
theorem i_0 : (0 : Int32).toInt = 0 := by decide
theorem i_1 : (1 : Int32).toInt = 1 := by decide
theorem i_2 : (2 : Int32).toInt = 2 := by decide
theorem i_3 : (3 : Int32).toInt = 3 := by decide
theorem i_4 : (4 : Int32).toInt = 4 := by decide
theorem i_5 : (5 : Int32).toInt = 5 := by decide
theorem i_6 : (6 : Int32).toInt = 6 := by decide
theorem i_7 : (7 : Int32).toInt = 7 := by decide
theorem i_8 : (8 : Int32).toInt = 8 := by decide
theorem i_9 : (9 : Int32).toInt = 9 := by decide
theorem i_10 : (10 : Int32).toInt = 10 := by decide
theorem i_11 : (11 : Int32).toInt = 11 := by decide
theorem i_12 : (12 : Int32).toInt = 12 := by decide
theorem i_17 : (17 : Int32).toInt = 17 := by decide
theorem i_20 : (20 : Int32).toInt = 20 := by decide
theorem i_24 : (24 : Int32).toInt = 24 := by decide
theorem i_32 : (32 : Int32).toInt = 32 := by decide
theorem i_44 : (44 : Int32).toInt = 44 := by decide
theorem i_48 : (48 : Int32).toInt = 48 := by decide
theorem i_50 : (50 : Int32).toInt = 50 := by decide
theorem i_51 : (51 : Int32).toInt = 51 := by decide
theorem i_52 : (52 : Int32).toInt = 52 := by decide
theorem i_57 : (57 : Int32).toInt = 57 := by decide
theorem i_58 : (58 : Int32).toInt = 58 := by decide
theorem i_100 : (100 : Int32).toInt = 100 := by decide
theorem i_126 : (126 : Int32).toInt = 126 := by decide
/-- the first place from i on, of n, where P fails -/
def fsN (P : Nat → Bool) (i : Nat) : Nat → Nat
  | 0 => i
  | n + 1 => if P i then fsN P (i + 1) n else i
theorem fsN_cong {P Q : Nat → Bool} : ∀ (n i : Nat), (∀ k, i ≤ k → k < i + n → P k = Q k) → fsN P i n = fsN Q i n
  | 0, _, _ => rfl
  | n + 1, i, h => by
    simp only [fsN]
    rw [h i (Nat.le_refl _) (by omega), fsN_cong n (i + 1) (fun k h1 h2 => h k (by omega) (by omega))]
theorem fsN_le (P : Nat → Bool) : ∀ (n i : Nat), fsN P i n ≤ i + n
  | 0, i => Nat.le_refl _
  | n + 1, i => by
    simp only [fsN]
    split
    · have := fsN_le P n (i + 1); omega
    · omega
/-- a letter that fits its place -/
def fitB (c : Int32) (j : Nat) : Bool := if j % 3 = 0 then decide (48 ≤ c) && decide (c < 52) else if j % 3 = 1 then decide (48 ≤ c) && decide (c ≤ 57) else decide (c = 44)
theorem rem_n {a : Nat} (d : Nat) (ha : a < 2 ^ 31) (h0 : 0 < d) (hd : d < 2 ^ 31) : nI a - nI a / nI d * nI d = nI (a % d) := pk_rem ha h0 hd
/-- a row moved up by one, so far -/
def shf (C : bpC) (p t : Nat) : bpC := fun k i j => if (k = 7 ∨ k = 8) ∧ i = p ∧ j < t then C k i (j + 1) else C k i j
theorem shf_0 (C : bpC) (p : Nat) : shf C p 0 = C := by
  funext k i j
  simp [shf]
theorem shf_step (C : bpC) (p t : Nat) : upC (upC (shf C p t) 7 p t (shf C p t 7 p (t + 1))) 8 p t (upC (shf C p t) 7 p t (shf C p t 7 p (t + 1)) 8 p (t + 1)) = shf C p (t + 1) := by
  funext k i j
  simp only [upC, shf]
  by_cases h8 : k = 8 ∧ i = p ∧ j = t
  · obtain ⟨rfl, rfl, rfl⟩ := h8
    simp
    intro h; omega
  · rw [if_neg h8]
    by_cases h7 : k = 7 ∧ i = p ∧ j = t
    · obtain ⟨rfl, rfl, rfl⟩ := h7
      simp
      intro h; omega
    · rw [if_neg h7]
      by_cases h : (k = 7 ∨ k = 8) ∧ i = p ∧ j < t
      · rw [if_pos h, if_pos ⟨h.1, h.2.1, by omega⟩]
      · rw [if_neg h, if_neg]
        rintro ⟨a, b, c⟩
        rcases Nat.lt_or_ge j t with q | q
        · exact h ⟨a, b, q⟩
        · have : j = t := by omega
          rcases a with a | a
          · exact h7 ⟨a, b, this⟩
          · exact h8 ⟨a, b, this⟩

theorem isP_of {a : bpM} {x : Int32} (hB : Bas a) (h : isP a x = true) : ∃ p, p < np a ∧ x = nI p := by
  simp only [isP, Bool.and_eq_true, decide_eq_true_eq] at h
  obtain ⟨h1, h2⟩ := h
  have h0 : ¬ x < 0 := by rw [i_lt, i_0]; rw [i_le, i_0] at h1; omega
  obtain ⟨j, hj, rfl⟩ := nI_of h0
  rw [hB.1] at h2
  exact ⟨j, (nI_ltI hj (by have := hB.2.1; omega)).mp h2, rfl⟩
theorem isP_n {a : bpM} {p : Nat} (hB : Bas a) (h : p < np a) : isP a (nI p) = true := by
  have := hB.2.1
  simp only [isP, Bool.and_eq_true, decide_eq_true_eq]
  exact ⟨nI_pos' (by omega), by rw [hB.1]; exact nI_lt h (by omega)⟩
theorem isP_m1 (a : bpM) : isP a (-1) = false := by
  simp only [isP]
  rfl
/-- class and state: all but what is chosen, queues, flows -/
def RB (C : bpC) (a : bpM) : Prop := RSc C a ∧ Bas a ∧ ∀ p, p < np a → RPt C a p
theorem leadN_ltn {a : bpM} {key : Int32} {n b : Nat} (h : leadN a key n = some b) : b < n := leadN_lt a key n b h
theorem alk_rel {C : bpC} {a : bpM} {p q : Nat} (hp : RPt C a p) (hq : RPt C a q) : (!decide (C 5 p 4 = 0) && (!decide (C 5 q 4 = 0) && (decide (C 5 p 1 = C 5 q 1) && (decide (C 5 p 5 = C 5 q 5) && decide (C 5 p 6 = C 5 q 6))))) = alk a p q := by
  obtain ⟨p1, p2, p3, p4, p5, p6⟩ := hp
  obtain ⟨q1, q2, q3, q4, q5, q6⟩ := hq
  by_cases hh : 0 < a 6 p
  · by_cases hg : 0 < a 6 q
    · obtain ⟨a1, a2, a3, a4⟩ := p6 hh
      obtain ⟨b1, b2, b3, b4⟩ := q6 hg
      rw [p4, q4, p1, q1, a1, b1, a2, b2]
      simp [alk, bI, hh, hg]
    · have : ¬ a 6 p = a 6 q := fun e => hg (e ▸ hh)
      rw [p4, q4]
      simp [alk, bI, hg, this]
  · rw [p4]
    simp [alk, bI, hh]
theorem ahd_rel {C : bpC} {a : bpM} {p q : Nat} (hp : RPt C a p) (hq : RPt C a q) (h6 : p < 6) (h7 : q < 6) : (decide (C 5 p 2 < C 5 q 2) || (decide (C 5 p 2 = C 5 q 2) && decide (nI p < nI q))) = ahd a p q := by
  rw [hp.2.1, hq.2.1]
  simp only [ahd]
  congr 2
  exact decide_eq_decide.mpr (nI_ltI (by omega) (by omega))
/-- a choice against a lead -/
def choL (a : bpM) (p : Nat) (l : Option Nat) : Int32 := match l with
  | none => 0
  | some l => if alk a p l then (if nI (ctN (fun q => alk a q l && ahd a q p) (np a)) < a 11 0 then 2 else 1) else 0
theorem choL_eq (a : bpM) (p : Nat) : choL a p (lead a (a 3 p)) = choi a p := by
  unfold choi place
  cases lead a (a 3 p) with
  | none => rfl
  | some l =>
    simp only [choL]
    cases alk a p l <;> rfl
theorem choi_heard {a : bpM} {p : Nat} (h : choi a p = 2) : 0 < a 6 p := by
  rw [← choL_eq] at h
  cases hl : lead a (a 3 p) with
  | none => rw [hl] at h; exact absurd (show (0 : Int32) = 2 from h) (by decide)
  | some l =>
    rw [hl] at h
    simp only [choL] at h
    by_cases hk : alk a p l = true
    · simp only [alk, Bool.and_eq_true, decide_eq_true_eq] at hk
      exact hk.1
    · rw [if_neg hk] at h
      exact absurd h (by decide)
theorem or_bit : ∀ i, i < 6 → ∀ b, b < 32 → b < 2 ^ i → nI b ||| ((1 : Int32) <<< (nI i &&& 31)) = nI (b + 2 ^ i) := by decide +kernel
theorem and_bit : ∀ i, i < 6 → ∀ b, b < 64 → ((nI b &&& ((1 : Int32) <<< (nI i &&& 31))) = 0 ↔ b.testBit i = false) := by decide +kernel
def pop6 (b : Nat) : Nat := ctN (fun j => b.testBit j) 6
/-- the bits of a predicate -/
def bitP (P : Nat → Bool) : Nat → Nat
  | 0 => 0
  | n + 1 => bitP P n + (if P n then 2 ^ n else 0)
theorem bitP_lt (P : Nat → Bool) : ∀ n, bitP P n < 2 ^ n
  | 0 => (show (0 : Nat) < 1 by decide)
  | n + 1 => by
    have := bitP_lt P n
    simp only [bitP, Nat.pow_succ]
    split <;> omega
theorem bitP_test (P : Nat → Bool) : ∀ n j, (bitP P n).testBit j = (decide (j < n) && P j)
  | 0, j => by simp [bitP]
  | n + 1, j => by
    simp only [bitP]
    have hl := bitP_lt P n
    have ih := bitP_test P n j
    by_cases hP : P n = true
    · rw [if_pos hP, Nat.add_comm]
      by_cases hj : j = n
      · subst hj
        rw [Nat.testBit_two_pow_add_eq, Nat.testBit_lt_two_pow hl]
        simp [hP]
      · rcases Nat.lt_or_ge j n with q | q
        · rw [Nat.testBit_two_pow_add_gt q, ih]
          simp [q, Nat.lt_succ_of_lt q]
        · have h1 : 2 ^ n + bitP P n < 2 ^ j := by
            have : 2 ^ (n + 1) ≤ 2 ^ j := Nat.pow_le_pow_right (by decide) (by omega)
            rw [Nat.pow_succ] at this
            omega
          rw [Nat.testBit_lt_two_pow h1]
          have : ¬ j < n + 1 := by omega
          simp [this]
    · rw [if_neg hP, Nat.add_zero, ih]
      by_cases hj : j = n
      · subst hj
        simp at hP
        simp [hP]
      · have : (j < n ↔ j < n + 1) := by omega
        simp [this]
theorem ctN_ext (P : Nat → Bool) (n : Nat) : ∀ d, ctN (fun j => decide (j < n) && P j) (n + d) = ctN P n
  | 0 => ctN_cong (fun k hk => by simp [show k < n by simpa using hk])
  | d + 1 => by
    have := ctN_ext P n d
    rw [← Nat.add_assoc]
    simp only [ctN]
    rw [this]
    have : ¬ n + d < n := by omega
    simp [this]
theorem pop6_bitP (P : Nat → Bool) {n : Nat} (h : n ≤ 6) : pop6 (bitP P n) = ctN P n := by
  unfold pop6
  rw [ctN_cong (Q := fun j => decide (j < n) && P j) (fun k _ => bitP_test P n k)]
  have := ctN_ext P n (6 - n)
  rwa [show n + (6 - n) = 6 by omega] at this
theorem bitN_P (a : bpM) (key : Int32) : ∀ n, bitN a key 4 4 n = bitP (car a key) n
  | 0 => rfl
  | n + 1 => by
    simp only [bitN, bitP]
    rw [bitN_P a key n]
    congr 1
    have : (a 3 n = key ∧ 4 ≤ stat a n ∧ stat a n ≤ 4) ↔ car a key n = true := by
      simp only [car, Bool.and_eq_true, decide_eq_true_eq, i_le, i_eq (stat a n) 4]
      constructor
      · rintro ⟨h1, h2, h3⟩; exact ⟨h1, by omega⟩
      · rintro ⟨h1, h2⟩; exact ⟨h1, by omega, by omega⟩
    by_cases h : car a key n = true
    · rw [if_pos h, if_pos (this.mpr h)]
    · rw [if_neg h, if_neg (fun q => h (this.mp q))]
theorem kth_mono {P : Nat → Bool} {t i p : Nat} (h : kth P t i = some p) : ∀ d, kth P t (i + d) = some p
  | 0 => h
  | d + 1 => by
    rw [← Nat.add_assoc]
    simp only [kth]
    rw [kth_mono h d]
theorem kth_lt {P : Nat → Bool} {t : Nat} : ∀ {n p : Nat}, kth P t n = some p → p < n
  | 0, p, h => by cases h
  | n + 1, p, h => by
    simp only [kth] at h
    cases hk : kth P t n with
    | some q =>
      rw [hk] at h
      cases h
      exact Nat.lt_succ_of_lt (kth_lt hk)
    | none =>
      rw [hk] at h
      simp only at h
      split at h
      · cases h; exact Nat.lt_succ_self _
      · cases h
theorem way_lt {a : bpM} {f p : Nat} (h : way a f = some p) : p < np a := by
  unfold way at h
  split at h
  · cases h
  · exact kth_lt h
theorem oI_n (p : Nat) : oI (some p) = nI p := rfl
theorem nI_m1 {p : Nat} (h : p < 2 ^ 31) : ¬ nI p = -1 := by
  intro e
  have := congrArg Int32.toInt e
  rw [i_n h, i_m1] at this
  omega
theorem ctN_t {P : Nat → Bool} {n : Nat} (h : P n = true) : ctN P (n + 1) = ctN P n + 1 := by simp [ctN, h]
theorem ctN_f {P : Nat → Bool} {n : Nat} (h : P n = false) : ctN P (n + 1) = ctN P n := by simp [ctN, h]
theorem bitN_t {a : bpM} {key lo hi : Int32} {n : Nat} (h : a 3 n = key ∧ lo ≤ stat a n ∧ stat a n ≤ hi) : bitN a key lo hi (n + 1) = bitN a key lo hi n + 2 ^ n := by simp only [bitN]; rw [if_pos h]
theorem bitN_f {a : bpM} {key lo hi : Int32} {n : Nat} (h : ¬ (a 3 n = key ∧ lo ≤ stat a n ∧ stat a n ≤ hi)) : bitN a key lo hi (n + 1) = bitN a key lo hi n := by simp only [bitN]; rw [if_neg h]; rfl
