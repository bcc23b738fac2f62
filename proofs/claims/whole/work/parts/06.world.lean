/-! the world: kinds 0 BoundPorts, 1 Page, 2 codes, 3 ports[], 4 flows[], 5 Port, 6 Queue, 7 flowRow, 8 numberRow, 9 Flow, 10 held, 11 the reference, 20+s its array of slot s -/
abbrev bpC : Type := Nat → Nat → Nat → Int32
abbrev bpM : Type := Nat → Nat → Int32
abbrev bpG : Type := (Nat → Nat → Nat) × va_G × (Nat → ClassId)
abbrev bpCl : List vw_C := [(RX0, TX0, 8), (RX1, TX1, 2), (RX2, TX2, 11), (RX3, TX3, 3), (RX4, TX4, 10), (RX5, TX5, 30)]
abbrev bpT (G : bpG) : List (ClassId × FieldType) := [(G.2.2 0, .int), (G.2.2 1, .boolean), (G.2.2 2, .object "BoundPorts$Port"), (G.2.2 3, .object "BoundPorts$Flow")]
/-- how many cells of a kind -/
def bpN : Nat → Nat
  | 0 => 1 | 1 => 1 | 2 => 1 | 3 => 1 | 4 => 1 | 5 => 6 | 6 => 6 | 7 => 6 | 8 => 6 | 9 => 12 | 10 => 12 | 11 => 1
  | 21 => 1 | 23 => 1 | 24 => 1 | 25 => 1 | 26 => 1 | 27 => 1 | 28 => 1 | 29 => 1 | 30 => 1 | 35 => 1 | 36 => 1 | 37 => 1 | 38 => 1 | 39 => 1 | 40 => 1 | 41 => 1 | 42 => 1 | 43 => 1 | 44 => 1 | 45 => 1 | 48 => 1
  | _ => 0
/-- objects: class number and fields -/
def bpO : Nat → Option (Nat × Nat)
  | 0 => some (4, 10) | 1 => some (1, 2) | 5 => some (2, 11) | 6 => some (3, 3) | 9 => some (0, 8) | 11 => some (5, 30) | _ => none
/-- arrays: which array class, how long -/
def bpL : Nat → Nat × Nat
  | 2 => (0, 17) | 3 => (2, 6) | 4 => (3, 12) | 7 => (0, 20) | 8 => (0, 20) | 10 => (0, 8)
  | 21 => (0, 17) | 23 => (0, 6) | 24 => (0, 6) | 25 => (1, 6) | 26 => (0, 6) | 27 => (0, 6) | 28 => (1, 6) | 29 => (0, 6) | 30 => (0, 6) | 35 => (0, 144) | 36 => (0, 144) | 37 => (0, 6) | 38 => (0, 12) | 39 => (1, 12) | 40 => (0, 12) | 41 => (0, 96) | 42 => (0, 12) | 43 => (0, 12) | 44 => (0, 12) | 45 => (0, 12) | 48 => (0, 24)
  | _ => (0, 0)
/-- what a field is: 0 an int or boolean, 1 the long, t+2 the cell of kind t of the same number -/
def bpF : Nat → Nat → Nat
  | 0, 0 => 3 | 0, 1 => 5 | 0, 2 => 6 | 1, 0 => 4 | 5, 0 => 8 | 6, 0 => 9 | 6, 1 => 10 | 9, 0 => 12
  | 11, 1 => 23 | 11, 3 => 25 | 11, 4 => 26 | 11, 5 => 27 | 11, 6 => 28 | 11, 7 => 29 | 11, 8 => 30 | 11, 9 => 31 | 11, 10 => 32 | 11, 15 => 37 | 11, 16 => 38 | 11, 17 => 39 | 11, 18 => 40 | 11, 19 => 41 | 11, 20 => 42 | 11, 21 => 43 | 11, 22 => 44 | 11, 23 => 45 | 11, 24 => 46 | 11, 25 => 47 | 11, 28 => 50
  | 11, 29 => 1
  | _, _ => 0
/-- arrays of cells: the kind + 1 -/
def bpE : Nat → Nat
  | 3 => 6 | 4 => 10 | _ => 0
def bpv (G : bpG) (hl : Int64) (i : Nat) (f : Nat → Int32) (j : Nat) : Nat → Value
  | 0 => .int (f j)
  | 1 => .long hl
  | t + 2 => .ref (G.1 t i)
def bpw (G : bpG) (f : Nat → Int32) (j : Nat) : Nat → Value
  | 0 => .int (f j)
  | t + 1 => .ref (G.1 t j)
def bpAt (G : bpG) (hl : Int64) (k i : Nat) (f : Nat → Int32) (H : Heap) : Prop := match bpO k with
  | some q => t_OB (G.1 k i) (G.2.1.1 q.1) q.2 (G.2.1.2 q.1) H (fun j => bpv G hl i f j (bpF k j))
  | none => H[G.1 k i]? = some (arrV (G.2.2 (bpL k).1) (bpL k).2 (fun j => bpw G f j (bpE k)))
def bpm (C : bpC) (M : bpM) (k i : Nat) : Nat → Int32 := if k < 11 then C k i else if k = 11 then (fun j => M j 0) else M (k - 20)
def WP (G : bpG) (C : bpC) (M : bpM) (hl : Int64) (H : Heap) : Prop := ∀ k i : Nat, i < bpN k → bpAt G hl k i (bpm C M k i) H
def bpGood (G : bpG) : Prop := ∀ k i k' i' : Nat, i < bpN k → i' < bpN k' → G.1 k i = G.1 k' i' → k = k' ∧ i = i'
def bpA (G : bpG) : Nat → Prop := fun q => ∃ k i : Nat, i < bpN k ∧ q = G.1 k i
def upC (C : bpC) (k i j : Nat) (v : Int32) : bpC := fun k' i' j' => if k' = k ∧ i' = i ∧ j' = j then v else C k' i' j'
def upM (M : bpM) (k j : Nat) (v : Int32) : bpM := fun k' j' => if k' = k ∧ j' = j then v else M k' j'
theorem bpAt.kept {G : bpG} {hl : Int64} {k i : Nat} {f : Nat → Int32} {H H1 : Heap} (h : bpAt G hl k i f H) (e : H1[G.1 k i]? = H[G.1 k i]?) : bpAt G hl k i f H1 := by
  unfold bpAt at h ⊢
  cases hO : bpO k with
  | none => rw [hO] at h; exact e.trans h
  | some q => rw [hO] at h; exact h.kept e
theorem bpAt.to {G : bpG} {hl hl' : Int64} {k i : Nat} {f f' : Nat → Int32} {H : Heap} (h : bpAt G hl k i f H) (e : ∀ j, bpv G hl i f j (bpF k j) = bpv G hl' i f' j (bpF k j)) (e2 : bpO k = none → ∀ j, bpw G f j (bpE k) = bpw G f' j (bpE k)) : bpAt G hl' k i f' H := by
  unfold bpAt at h ⊢
  cases hO : bpO k with
  | none => rw [hO] at h; exact h.trans (congrArg (fun z => some (arrV (G.2.2 (bpL k).1) (bpL k).2 z)) (funext (e2 hO)))
  | some q => rw [hO] at h; exact h.to (fun j _ => e j)
/-- one cell written -/
theorem WP.put {G : bpG} {C C' : bpC} {M M' : bpM} {hl hl' : Int64} {H H1 : Heap} {k0 i0 : Nat} (h : WP G C M hl H) (g : bpGood G) (hi : i0 < bpN k0) (new : bpAt G hl' k0 i0 (bpm C' M' k0 i0) H1) (oth : ∀ q, q ≠ G.1 k0 i0 → H1[q]? = H[q]?)
    (same : ∀ k i, i < bpN k → ¬ (k = k0 ∧ i = i0) → bpAt G hl k i (bpm C M k i) H1 → bpAt G hl' k i (bpm C' M' k i) H1) : WP G C' M' hl' H1 := by
  intro k i hk
  by_cases e : k = k0 ∧ i = i0
  · obtain ⟨rfl, rfl⟩ := e
    exact new
  · exact same k i hk e ((h k i hk).kept (oth _ (fun z => e (g k i k0 i0 hk hi z))))
theorem bpA_in {G : bpG} {k i : Nat} (hi : i < bpN k) : bpA G (G.1 k i) := ⟨k, i, hi, rfl⟩
theorem upC_same (C : bpC) (k i j : Nat) (v : Int32) : upC C k i j v k i = upd (C k i) j v := by
  funext j'
  simp [upC, upd]
theorem upC_other (C : bpC) (k i j : Nat) (v : Int32) {k' i' : Nat} (h : ¬ (k' = k ∧ i' = i)) : upC C k i j v k' i' = C k' i' := by
  funext j'
  simp only [upC]
  rw [if_neg (fun q => h ⟨q.1, q.2.1⟩)]
theorem upC_at (C : bpC) (k i j : Nat) (v : Int32) : upC C k i j v k i j = v := by simp [upC]
theorem upC_ne (C : bpC) (k i j : Nat) (v : Int32) {k' i' j' : Nat} (h : ¬ (k' = k ∧ i' = i ∧ j' = j)) : upC C k i j v k' i' j' = C k' i' j' := by
  simp only [upC]
  rw [if_neg h]
theorem upM_at (M : bpM) (k j : Nat) (v : Int32) : upM M k j v k j = v := by simp [upM]
theorem upM_ne (M : bpM) (k j : Nat) (v : Int32) {k' j' : Nat} (h : ¬ (k' = k ∧ j' = j)) : upM M k j v k' j' = M k' j' := by
  simp only [upM]
  rw [if_neg h]
theorem upM_same (M : bpM) (k j : Nat) (v : Int32) : upM M k j v k = upd (M k) j v := by
  funext j'
  simp [upM, upd]
theorem upM_other (M : bpM) (k j : Nat) (v : Int32) {k' : Nat} (h : k' ≠ k) : upM M k j v k' = M k' := by
  funext j'
  simp only [upM]
  rw [if_neg (fun q => h q.1)]
theorem bpm_c (C : bpC) (M : bpM) {k : Nat} (h : k < 11) (i : Nat) : bpm C M k i = C k i := by simp [bpm, h]
theorem bpm_o (C : bpC) (M : bpM) (i : Nat) : bpm C M 11 i = fun j => M j 0 := by simp [bpm]
theorem bpm_a (C : bpC) (M : bpM) (s i : Nat) : bpm C M (20 + s) i = M s := by
  have h : ¬ 20 + s < 11 := by omega
  have h2 : ¬ 20 + s = 11 := by omega
  have h3 : 20 + s - 20 = s := by omega
  simp only [bpm]
  rw [if_neg h, if_neg h2, h3]
/-- an array slot of the reference is no int of its object -/
theorem bpF_arr : ∀ s : Nat, 0 < bpN (20 + s) → bpF 11 s ≠ 0 := by
  intro s h
  have hs : s < 29 := by
    rcases Nat.lt_or_ge s 29 with q | q
    · exact q
    · exfalso
      have e : bpN (20 + s) = 0 := by
        have : ∃ t, s = t + 29 := ⟨s - 29, by omega⟩
        obtain ⟨t, rfl⟩ := this
        show bpN (20 + (t + 29)) = 0
        have e2 : 20 + (t + 29) = t + 49 := by omega
        rw [e2]
        rfl
      omega
  have key : ∀ s, s < 29 → 0 < bpN (20 + s) → bpF 11 s ≠ 0 := by decide +kernel
  exact key s hs h
/-- kinds of the reference's arrays -/
theorem bpN_big {k : Nat} (h : 11 < k) (hk : 0 < bpN k) : ∃ s, k = 20 + s := by
  rcases Nat.lt_or_ge k 20 with q | q
  · exfalso
    have key : ∀ k, k < 20 → 11 < k → bpN k = 0 := by decide +kernel
    have := key k q h
    omega
  · exact ⟨k - 20, by omega⟩
/-- a class cell written -/
theorem WP.putC {G : bpG} {C : bpC} {M : bpM} {hl : Int64} {H H1 : Heap} {k i j : Nat} {v : Int32} (h : WP G C M hl H) (g : bpGood G) (hi : i < bpN k) (hk : k < 11) (new : bpAt G hl k i (upd (C k i) j v) H1) (oth : ∀ q, q ≠ G.1 k i → H1[q]? = H[q]?) : WP G (upC C k i j v) M hl H1 := by
  refine h.put g hi (by rw [bpm_c _ _ hk, upC_same]; exact new) oth (fun k' i' h' ne q => ?_)
  have e : bpm (upC C k i j v) M k' i' = bpm C M k' i' := by
    unfold bpm
    by_cases h1 : k' < 11
    · rw [if_pos h1, if_pos h1, upC_other _ _ _ _ _ ne]
    · rw [if_neg h1, if_neg h1]
  rw [e]
  exact q
/-- a number of the reference's object written -/
theorem WP.putO {G : bpG} {C : bpC} {M : bpM} {hl : Int64} {H H1 : Heap} {j : Nat} {v : Int32} (h : WP G C M hl H) (g : bpGood G) (hj : bpF 11 j = 0) (new : bpAt G hl 11 0 (upd (fun j => M j 0) j v) H1) (oth : ∀ q, q ≠ G.1 11 0 → H1[q]? = H[q]?) : WP G C (upM M j 0 v) hl H1 := by
  refine h.put g (k0 := 11) (i0 := 0) (by decide) ?_ oth (fun k' i' h' ne q => ?_)
  · rw [bpm_o]
    have e : (fun j' => upM M j 0 v j' 0) = upd (fun j => M j 0) j v := by
      funext j'
      simp [upM, upd]
    rw [e]
    exact new
  · have e : bpm C (upM M j 0 v) k' i' = bpm C M k' i' := by
      by_cases h1 : k' < 11
      · rw [bpm_c _ _ h1, bpm_c _ _ h1]
      · by_cases h2 : k' = 11
        · subst h2
          have : bpN 11 = 1 := rfl
          exact absurd ⟨rfl, by omega⟩ ne
        · obtain ⟨s, rfl⟩ := bpN_big (by omega) (Nat.lt_of_le_of_lt (Nat.zero_le _) h')
          rw [bpm_a, bpm_a]
          refine upM_other _ _ _ _ (fun z => ?_)
          subst z
          exact bpF_arr _ (Nat.lt_of_le_of_lt (Nat.zero_le _) h') hj
    rw [e]
    exact q
/-- a place of an array of the reference's written -/
theorem WP.putA {G : bpG} {C : bpC} {M : bpM} {hl : Int64} {H H1 : Heap} {s j : Nat} {v : Int32} (h : WP G C M hl H) (g : bpGood G) (hs : 0 < bpN (20 + s)) (new : bpAt G hl (20 + s) 0 (upd (M s) j v) H1) (oth : ∀ q, q ≠ G.1 (20 + s) 0 → H1[q]? = H[q]?) : WP G C (upM M s j v) hl H1 := by
  refine h.put g (k0 := 20 + s) (i0 := 0) hs (by rw [bpm_a, upM_same]; exact new) oth (fun k' i' h' ne q => ?_)
  by_cases h1 : k' < 11
  · rw [bpm_c _ _ h1] at q ⊢
    exact q
  · by_cases h2 : k' = 11
    · subst h2
      rw [bpm_o] at q ⊢
      refine q.to (fun j' => ?_) (fun z => by cases z)
      by_cases e : j' = s
      · subst e
        have := bpF_arr _ hs
        cases hb : bpF 11 j' with
        | zero => exact absurd hb this
        | succ t => cases t <;> rfl
      · have : upM M s j v j' 0 = M j' 0 := upM_ne _ _ _ _ (fun z => e z.1)
        cases hb : bpF 11 j' with
        | zero => show Value.int (M j' 0) = Value.int (upM M s j v j' 0); rw [this]
        | succ t => cases t <;> rfl
    · obtain ⟨s', rfl⟩ := bpN_big (by omega) (Nat.lt_of_le_of_lt (Nat.zero_le _) h')
      rw [bpm_a] at q ⊢
      have hi' : i' = 0 := by
        have : bpN (20 + s') ≤ 1 := by
          rcases Nat.lt_or_ge s' 29 with w | w
          · have key : ∀ s, s < 29 → bpN (20 + s) ≤ 1 := by decide +kernel
            exact key s' w
          · have : ∃ t, s' = t + 29 := ⟨s' - 29, by omega⟩
            obtain ⟨t, rfl⟩ := this
            have e2 : 20 + (t + 29) = t + 49 := by omega
            rw [e2]
            show (0 : Nat) ≤ 1
            decide
        omega
      subst hi'
      rw [upM_other _ _ _ _ (fun z => ne ⟨by rw [z], rfl⟩)]
      exact q
/-- the long written -/
theorem WP.putH {G : bpG} {C : bpC} {M : bpM} {hl hl' : Int64} {H H1 : Heap} (h : WP G C M hl H) (g : bpGood G) (new : bpAt G hl' 11 0 (fun j => M j 0) H1) (oth : ∀ q, q ≠ G.1 11 0 → H1[q]? = H[q]?) : WP G C M hl' H1 := by
  refine h.put g (k0 := 11) (i0 := 0) (by decide) (by rw [bpm_o]; exact new) oth (fun k' i' h' ne q => ?_)
  refine q.to (fun j' => ?_) (fun _ _ => rfl)
  have hk : k' ≠ 11 := fun z => by
    subst z
    have : bpN 11 = 1 := rfl
    exact ne ⟨rfl, by omega⟩
  have : bpF k' j' ≠ 1 := by
    intro z
    unfold bpF at z
    split at z <;> first | (simp at z; done) | exact hk rfl
  cases hb : bpF k' j' with
  | zero => rfl
  | succ t =>
    cases t with
    | zero => exact absurd hb this
    | succ t => rfl
