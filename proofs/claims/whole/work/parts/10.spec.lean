/-! numbers -/
theorem i_lt (a b : Int32) : a < b ↔ a.toInt < b.toInt := Int32.lt_iff_toInt_lt
theorem i_le (a b : Int32) : a ≤ b ↔ a.toInt ≤ b.toInt := Int32.le_iff_toInt_le
theorem i_eq (a b : Int32) : a = b ↔ a.toInt = b.toInt := Int32.toInt_inj.symm
def bI (b : Bool) : Int32 := if b then 1 else 0
theorem bI_01 (b : Bool) : bI b = 0 ∨ bI b = 1 := by cases b <;> decide
theorem bI_0 {b : Bool} (h : bI b = 0) : b = false := by cases b <;> first | rfl | (exact absurd h (by decide))
theorem bI_1 {b : Bool} (h : ¬ bI b = 0) : b = true := by cases b <;> first | rfl | (exact absurd rfl h)
def oI : Option Nat → Int32
  | none => -1
  | some n => nI n
/-! the reference's memory as a state: its numbers by their slots -/
def np (a : bpM) : Nat := (a 2 0).toNatClampNeg
def qm (a : bpM) (p : Nat) : Nat := (a 17 p).toNatClampNeg
def hm (a : bpM) (f : Nat) : Nat := (a 20 f).toNatClampNeg
def pl (a : bpM) : Nat := (a 0 0).toNatClampNeg
def ctN (P : Nat → Bool) : Nat → Nat
  | 0 => 0
  | n + 1 => ctN P n + (if P n then 1 else 0)
theorem ctN_le (P : Nat → Bool) : ∀ n, ctN P n ≤ n
  | 0 => Nat.le_refl 0
  | n + 1 => by
    have := ctN_le P n
    simp only [ctN]
    split <;> omega
theorem ctN_cong {P Q : Nat → Bool} : ∀ {n : Nat}, (∀ k, k < n → P k = Q k) → ctN P n = ctN Q n
  | 0, _ => rfl
  | n + 1, h => by
    simp only [ctN]
    rw [ctN_cong (fun k hk => h k (Nat.lt_succ_of_lt hk)), h n (Nat.lt_succ_self n)]
/-- p goes ahead of q: by RANK, of like ones by number -/
def ahd (a : bpM) (p q : Nat) : Bool := decide (a 4 p < a 4 q) || (decide (a 4 p = a 4 q) && decide (p < q))
def leadN (a : bpM) (key : Int32) : Nat → Option Nat
  | 0 => none
  | n + 1 => if a 3 n = key ∧ 0 < a 6 n ∧ (∀ b, leadN a key n = some b → ahd a n b = true) then some n else leadN a key n
def lead (a : bpM) (key : Int32) : Option Nat := leadN a key (np a)
theorem leadN_lt (a : bpM) (key : Int32) : ∀ (n b : Nat), leadN a key n = some b → b < n
  | 0, b, h => by cases h
  | n + 1, b, h => by
    simp only [leadN] at h
    split at h
    · cases h
      exact Nat.lt_succ_self _
    · exact Nat.lt_succ_of_lt (leadN_lt a key n b h)
def alk (a : bpM) (p q : Nat) : Bool := decide (0 < a 6 p) && (decide (a 3 p = a 3 q) && (decide (a 6 p = a 6 q) && decide (a 7 p = a 7 q)))
def place (a : bpM) (p : Nat) : Option Nat := match lead a (a 3 p) with
  | none => none
  | some l => if alk a p l then some (ctN (fun q => alk a q l && ahd a q p) (np a)) else none
/-- 0 apart, 1 SPARE, 2 CHOSEN -/
def choi (a : bpM) (p : Nat) : Int32 := match place a p with
  | none => 0
  | some c => if nI c < a 11 0 then 2 else 1
/-- 0 none of these, 1 SPARE, 2 CHOSEN, 3 ATTACHED, 4 it CARRIES -/
def stat (a : bpM) (p : Nat) : Int32 := if choi a p = 2 then (if a 10 p < a 12 0 then 2 else if a 8 p = 0 then 3 else 4) else choi a p
theorem choi_012 (a : bpM) (p : Nat) : choi a p = 0 ∨ choi a p = 1 ∨ choi a p = 2 := by
  unfold choi
  split
  · exact Or.inl rfl
  · split
    · exact Or.inr (Or.inr rfl)
    · exact Or.inr (Or.inl rfl)
/-- who is not CHOSEN has not WAITED -/
def settle (a : bpM) : bpM := fun k j => if k = 10 ∧ j < np a ∧ choi a j ≠ 2 then 0 else a k j
/-- the bits of the PORTS of a KEY that are so -/
def bitN (a : bpM) (key lo hi : Int32) : Nat → Nat
  | 0 => 0
  | n + 1 => bitN a key lo hi n + (if a 3 n = key ∧ lo ≤ stat a n ∧ stat a n ≤ hi then 2 ^ n else 0)
theorem bitN_lt (a : bpM) (key lo hi : Int32) : ∀ n, bitN a key lo hi n < 2 ^ n
  | 0 => (show (0 : Nat) < 1 by decide)
  | n + 1 => by
    have := bitN_lt a key lo hi n
    simp only [bitN, Nat.pow_succ]
    split <;> omega
def bits (a : bpM) (key lo hi : Int32) : Nat := bitN a key lo hi (np a)
/-- a PORT of a KEY that CARRIES -/
def car (a : bpM) (key : Int32) (p : Nat) : Bool := decide (a 3 p = key) && decide (stat a p = 4)
/-- the first place with so many ahead of it -/
def kth (P : Nat → Bool) (t : Nat) : Nat → Option Nat
  | 0 => none
  | n + 1 => match kth P t n with
    | some p => some p
    | none => if P n ∧ ctN P n = t then some n else none
def way (a : bpM) (f : Nat) : Option Nat :=
  if ctN (car a (nI (f % 4))) (np a) = 0 then none
  else kth (car a (nI (f % 4))) ((f / 4 + (a 13 0).toNatClampNeg) % ctN (car a (nI (f % 4))) (np a)) (np a)
/-- what is told of a number: a PORT -/
def isP (a : bpM) (x : Int32) : Bool := decide (0 ≤ x) && decide (x < a 2 0)
/-! the relation between the class's memory and such a state -/
def RSc (C : bpC) (a : bpM) : Prop := C 0 0 3 = a 2 0 ∧ C 0 0 4 = a 11 0 ∧ C 0 0 5 = a 12 0 ∧ C 0 0 6 = a 13 0 ∧ C 0 0 7 = a 26 0 ∧ C 0 0 8 = a 27 0 ∧ C 0 0 9 = a 14 0 ∧ C 1 0 1 = a 0 0 ∧ ∀ j, j < pl a → C 2 0 j = a 1 j
def RPt (C : bpC) (a : bpM) (p : Nat) : Prop := C 5 p 1 = a 3 p ∧ C 5 p 2 = a 4 p ∧ C 5 p 3 = a 5 p ∧ C 5 p 4 = bI (decide (0 < a 6 p)) ∧ C 5 p 10 = a 10 p ∧ (0 < a 6 p → C 5 p 5 = a 6 p ∧ C 5 p 6 = a 7 p ∧ C 5 p 7 = a 8 p ∧ C 5 p 8 = a 9 p)
def RCh (C : bpC) (a : bpM) (p : Nat) : Prop := C 5 p 9 = choi a p
def RQu (C : bpC) (a : bpM) (p : Nat) : Prop := C 6 p 2 = a 17 p ∧ ∀ j, j < qm a p → C 7 p j = a 15 (24 * p + j) ∧ C 8 p j = a 16 (24 * p + j)
def RFl (C : bpC) (a : bpM) (f : Nat) : Prop := C 9 f 1 = a 20 f ∧ C 9 f 2 = a 18 f ∧ C 9 f 3 = a 19 f ∧ C 9 f 4 = a 22 f ∧ C 9 f 5 = a 23 f ∧ C 9 f 6 = a 24 f ∧ C 9 f 7 = a 25 f ∧ ∀ j, j < hm a f → C 10 f j = a 21 (8 * f + j)
/-- numbers that the reference keeps small, whatever is called -/
def Bas (a : bpM) : Prop := a 2 0 = nI (np a) ∧ np a ≤ 6
def exN (P : Nat → Bool) : Nat → Bool
  | 0 => false
  | n + 1 => exN P n || P n
theorem exN_true {P : Nat → Bool} {i : Nat} (h : P i = true) : ∀ {n : Nat}, i < n → exN P n = true
  | 0, hn => absurd hn (Nat.not_lt_zero _)
  | n + 1, hn => by
    simp only [exN]
    rcases Nat.lt_or_ge i n with q | q
    · rw [exN_true h q]; rfl
    · have : i = n := by omega
      subst this
      rw [h, Bool.or_true]
theorem exN_succ {P : Nat → Bool} {n : Nat} (h : exN P n = false) (h2 : P n = false) : exN P (n + 1) = false := by simp [exN, h, h2]
theorem exN_cong {P Q : Nat → Bool} : ∀ {n : Nat}, (∀ k, k < n → P k = Q k) → exN P n = exN Q n
  | 0, _ => rfl
  | n + 1, h => by
    simp only [exN]
    rw [exN_cong (fun k hk => h k (Nat.lt_succ_of_lt hk)), h n (Nat.lt_succ_self n)]
theorem nI_inj {a b : Nat} (ha : a < 2 ^ 31) (hb : b < 2 ^ 31) (h : nI a = nI b) : a = b := (nI_eq ha hb).mp h
theorem ret_i {x y : Int32} (h : x = y) : some (Value.int x) = some (Value.int y) := by rw [h]
theorem bI_f {b : Bool} (h : b = false) : (0 : Int32) = bI b := by rw [h]; rfl
theorem bI_t {b : Bool} (h : b = true) : (1 : Int32) = bI b := by rw [h]; rfl
theorem i_n {n : Nat} (h : n < 2 ^ 31) : (nI n).toInt = (n : Int) := nI_toInt h
theorem i_m1 : (-1 : Int32).toInt = -1 := by decide
theorem i_0 : (0 : Int32).toInt = 0 := by decide
theorem i_1 : (1 : Int32).toInt = 1 := by decide
theorem i_2 : (2 : Int32).toInt = 2 := by decide
theorem i_3 : (3 : Int32).toInt = 3 := by decide
theorem i_4 : (4 : Int32).toInt = 4 := by decide
theorem i_5 : (5 : Int32).toInt = 5 := by decide
theorem i_6 : (6 : Int32).toInt = 6 := by decide
theorem i_7 : (7 : Int32).toInt = 7 := by decide
theorem i_8 : (8 : Int32).toInt = 8 := by decide
theorem i_9 : (9 : Int32).toInt = 9 := by decide
theorem i_10 : (10 : Int32).toInt = 10 := by decide
theorem i_11 : (11 : Int32).toInt = 11 := by decide
theorem i_12 : (12 : Int32).toInt = 12 := by decide
theorem i_17 : (17 : Int32).toInt = 17 := by decide
theorem i_20 : (20 : Int32).toInt = 20 := by decide
theorem i_24 : (24 : Int32).toInt = 24 := by decide
theorem i_32 : (32 : Int32).toInt = 32 := by decide
theorem i_44 : (44 : Int32).toInt = 44 := by decide
theorem i_48 : (48 : Int32).toInt = 48 := by decide
theorem i_50 : (50 : Int32).toInt = 50 := by decide
theorem i_51 : (51 : Int32).toInt = 51 := by decide
theorem i_52 : (52 : Int32).toInt = 52 := by decide
theorem i_57 : (57 : Int32).toInt = 57 := by decide
theorem i_58 : (58 : Int32).toInt = 58 := by decide
theorem i_100 : (100 : Int32).toInt = 100 := by decide
theorem i_126 : (126 : Int32).toInt = 126 := by decide
/-- the first place from i on, of n, where P fails -/
def fsN (P : Nat → Bool) (i : Nat) : Nat → Nat
  | 0 => i
  | n + 1 => if P i then fsN P (i + 1) n else i
theorem fsN_cong {P Q : Nat → Bool} : ∀ (n i : Nat), (∀ k, i ≤ k → k < i + n → P k = Q k) → fsN P i n = fsN Q i n
  | 0, _, _ => rfl
  | n + 1, i, h => by
    simp only [fsN]
    rw [h i (Nat.le_refl _) (by omega), fsN_cong n (i + 1) (fun k h1 h2 => h k (by omega) (by omega))]
theorem fsN_le (P : Nat → Bool) : ∀ (n i : Nat), fsN P i n ≤ i + n
  | 0, i => Nat.le_refl _
  | n + 1, i => by
    simp only [fsN]
    split
    · have := fsN_le P n (i + 1); omega
    · omega
/-- a letter that fits its place -/
def fitB (c : Int32) (j : Nat) : Bool := if j % 3 = 0 then decide (48 ≤ c) && decide (c < 52) else if j % 3 = 1 then decide (48 ≤ c) && decide (c ≤ 57) else decide (c = 44)
theorem rem_n {a : Nat} (d : Nat) (ha : a < 2 ^ 31) (h0 : 0 < d) (hd : d < 2 ^ 31) : nI a - nI a / nI d * nI d = nI (a % d) := pk_rem ha h0 hd
/-- a row moved up by one, so far -/
def shf (C : bpC) (p t : Nat) : bpC := fun k i j => if (k = 7 ∨ k = 8) ∧ i = p ∧ j < t then C k i (j + 1) else C k i j
theorem shf_0 (C : bpC) (p : Nat) : shf C p 0 = C := by
  funext k i j
  simp [shf]
theorem shf_step (C : bpC) (p t : Nat) : upC (upC (shf C p t) 7 p t (shf C p t 7 p (t + 1))) 8 p t (upC (shf C p t) 7 p t (shf C p t 7 p (t + 1)) 8 p (t + 1)) = shf C p (t + 1) := by
  funext k i j
  simp only [upC, shf]
  by_cases h8 : k = 8 ∧ i = p ∧ j = t
  · obtain ⟨rfl, rfl, rfl⟩ := h8
    simp
    intro h; omega
  · rw [if_neg h8]
    by_cases h7 : k = 7 ∧ i = p ∧ j = t
    · obtain ⟨rfl, rfl, rfl⟩ := h7
      simp
      intro h; omega
    · rw [if_neg h7]
      by_cases h : (k = 7 ∨ k = 8) ∧ i = p ∧ j < t
      · rw [if_pos h, if_pos ⟨h.1, h.2.1, by omega⟩]
      · rw [if_neg h, if_neg]
        rintro ⟨a, b, c⟩
        rcases Nat.lt_or_ge j t with q | q
        · exact h ⟨a, b, q⟩
        · have : j = t := by omega
          rcases a with a | a
          · exact h7 ⟨a, b, this⟩
          · exact h8 ⟨a, b, this⟩
