def off : Nat → Nat → Nat
  | 0, _ => 0 | 1, _ => 1 | 2, _ => 2 | 3, _ => 3 | 4, _ => 4 | 5, i => 5 + 4 * i | 6, i => 5 + 4 * i + 1 | 7, i => 5 + 4 * i + 1 + 1 | 8, i => 5 + 4 * i + 1 + 1 + 1 | 9, i => 29 + 2 * i | 10, i => 29 + 2 * i + 1 | 11, _ => 53
  | 21, _ => 54 | 23, _ => 55 | 24, _ => 56 | 25, _ => 57 | 26, _ => 58 | 27, _ => 59 | 28, _ => 60 | 29, _ => 61 | 30, _ => 62 | 35, _ => 63 | 36, _ => 64 | 37, _ => 65 | 38, _ => 66 | 39, _ => 67 | 40, _ => 68 | 41, _ => 69 | 42, _ => 70 | 43, _ => 71 | 44, _ => 72 | 45, _ => 73 | 48, _ => 74
  | _, _ => 0
def adr (b k i : Nat) : Nat := b + off k i
abbrev bpGb (b : Nat) (D : va_G × (Nat → ClassId)) : bpG := (adr b, D)
def L75 : List (Nat × Nat) := [(0, 0), (1, 0), (2, 0), (3, 0), (4, 0), (5, 0), (6, 0), (7, 0), (8, 0), (5, 1), (6, 1), (7, 1), (8, 1), (5, 2), (6, 2), (7, 2), (8, 2), (5, 3), (6, 3), (7, 3), (8, 3), (5, 4), (6, 4), (7, 4), (8, 4), (5, 5), (6, 5), (7, 5), (8, 5), (9, 0), (10, 0), (9, 1), (10, 1), (9, 2), (10, 2), (9, 3), (10, 3), (9, 4), (10, 4), (9, 5), (10, 5), (9, 6), (10, 6), (9, 7), (10, 7), (9, 8), (10, 8), (9, 9), (10, 9), (9, 10), (10, 10), (9, 11), (10, 11), (11, 0), (21, 0), (23, 0), (24, 0), (25, 0), (26, 0), (27, 0), (28, 0), (29, 0), (30, 0), (35, 0), (36, 0), (37, 0), (38, 0), (39, 0), (40, 0), (41, 0), (42, 0), (43, 0), (44, 0), (45, 0), (48, 0)]
theorem L75_all {k i : Nat} (hi : i < bpN k) : (k, i) ∈ L75 := by
  rcases Nat.lt_or_ge k 49 with h | h
  · have key : ∀ k, k < 49 → ∀ i, i < bpN k → (k, i) ∈ L75 := by decide +kernel
    exact key k h i hi
  · obtain ⟨t, rfl⟩ : ∃ t, k = t + 49 := ⟨k - 49, by omega⟩
    have e : bpN (t + 49) = 0 := rfl
    omega
theorem L75_lt : ∀ x ∈ L75, off x.1 x.2 < 75 := by decide +kernel
theorem L75_N : ∀ x ∈ L75, x.2 < bpN x.1 := by decide +kernel
theorem L75_inj : ∀ x ∈ L75, ∀ y ∈ L75, off x.1 x.2 = off y.1 y.2 → x = y := by decide +kernel
theorem L75_sur : ∀ r, r < 75 → ∃ x ∈ L75, off x.1 x.2 = r := by decide +kernel
theorem good_b (b : Nat) (D : va_G × (Nat → ClassId)) : bpGood (bpGb b D) := by
  intro k i k' i' h h' e
  have e2 : b + off k i = b + off k' i' := e
  have := L75_inj _ (L75_all h) _ (L75_all h') (by simp only; omega)
  cases this
  exact ⟨rfl, rfl⟩
theorem bpA_b (b : Nat) (D : va_G × (Nat → ClassId)) : bpA (bpGb b D) = bpB b := by
  funext q
  apply propext
  constructor
  · rintro ⟨k, i, h, rfl⟩
    have := L75_lt _ (L75_all h)
    have e : (bpGb b D).1 k i = b + off k i := rfl
    simp only at this
    exact ⟨by rw [e]; omega, by rw [e]; omega⟩
  · rintro ⟨h1, h2⟩
    obtain ⟨⟨k, i⟩, hx, e⟩ := L75_sur (q - b) (by omega)
    refine ⟨k, i, L75_N _ hx, ?_⟩
    show q = b + off k i
    simp only at e
    omega
def cEq (x y : Cn) : Prop := x.1 = y.1 ∧ x.2.1 = y.2.1 ∧ ∀ j, j < x.2.1 → x.2.2 j = y.2.2 j
theorem arrV_cg {c : ClassId} {N : Nat} {f g : Nat → Value} (h : ∀ j, j < N → f j = g j) : arrV c N f = arrV c N g := by
  have e : (fun j : Fin N => f j.val) = fun j : Fin N => g j.val := funext fun j => h j.1 j.2
  unfold arrV
  rw [e]
theorem cAt.to {G : bpG} {q : Nat} {x y : Cn} {H : Heap} (h : cAt G q x H) (e : cEq x y) : cAt G q y H := by
  obtain ⟨k, N, f⟩ := x
  obtain ⟨k', N', f'⟩ := y
  obtain ⟨e1, e2, e3⟩ := e
  dsimp only at e1 e2 e3
  subst e1
  subst e2
  cases k with
  | inl ci => exact t_OB.to h e3
  | inr t => exact Eq.trans (show H[q]? = some (arrV (G.2.2 t) N f) from h) (congrArg some (arrV_cg e3))
def xC (G : bpG) (hl : Int64) (C : bpC) (M : bpM) (k i : Nat) : Cn := match bpO k with
  | some q => (.inl q.1, q.2, fun j => bpv G hl i (bpm C M k i) j (bpF k j))
  | none => (.inr (bpL k).1, (bpL k).2, fun j => bpw G (bpm C M k i) j (bpE k))
theorem xC_at {G : bpG} {hl : Int64} {C : bpC} {M : bpM} {k i : Nat} {H : Heap} (h : cAt G (G.1 k i) (xC G hl C M k i) H) : bpAt G hl k i (bpm C M k i) H := by
  unfold bpAt
  unfold xC at h
  cases hO : bpO k with
  | none => rw [hO] at h; exact h
  | some q => rw [hO] at h; exact h
theorem HW.WP {b : Nat} {D : va_G × (Nat → ClassId)} {w : cwT} {H : Heap} {hl : Int64} {C : bpC} {M : bpM} (h : HW (bpGb b D) b 75 w H) (hc : ∀ x ∈ L75, cEq (w (off x.1 x.2)) (xC (bpGb b D) hl C M x.1 x.2)) : WP (bpGb b D) C M hl H := by
  intro k i hi
  have hx := L75_all hi
  exact xC_at ((h.2 _ (L75_lt _ hx)).to (hc _ hx))
def C0 : bpC := fun k _ j => match k, j with
  | 0, 4 => 2 | 0, 5 => 2 | 9, 2 => -1 | _, _ => 0
def M0 : bpM := fun s _ => match s with
  | 11 => 2 | 12 => 2 | _ => 0
def w00 : cwT := ww (fun _ => (.inl 0, 0, fun _ => .null)) 0 (.inl 4, 10, fun j => defaultValue (tyX4 j))
def mw0 (b : Nat) : cwT := ww (bpW4 b w00 (fun j => defaultValue (tyX4 j))) 53 (.inl 5, 30, fun j => defaultValue (tyX5 j))
def moW (b : Nat) : cwT := ww (ww (ww (ww (ww (ww (ww (ww (ww (ww (ww (ww (ww (ww (ww (ww (ww (ww (ww (ww (ww (ww (ww (ww (ww (ww (ww (ww (ww (ww (ww (ww (ww (ww (ww (ww (ww (ww (ww (ww (ww (ww (ww (ww (mw0 b) 54 (.inr 0, 17, fun _ => defaultValue .int)) 53 (.inl 5, 30, (updV (fun j => defaultValue (tyX5 j)) 1 (.ref (b + 54))))) 55 (.inr 0, 6, fun _ => defaultValue .int)) 53 (.inl 5, 30, (updV (updV (fun j => defaultValue (tyX5 j)) 1 (.ref (b + 54))) 3 (.ref (b + 55))))) 56 (.inr 0, 6, fun _ => defaultValue .int)) 53 (.inl 5, 30, (updV (updV (updV (fun j => defaultValue (tyX5 j)) 1 (.ref (b + 54))) 3 (.ref (b + 55))) 4 (.ref (b + 56))))) 57 (.inr 1, 6, fun _ => defaultValue .boolean)) 53 (.inl 5, 30, (updV (updV (updV (updV (fun j => defaultValue (tyX5 j)) 1 (.ref (b + 54))) 3 (.ref (b + 55))) 4 (.ref (b + 56))) 5 (.ref (b + 57))))) 58 (.inr 0, 6, fun _ => defaultValue .int)) 53 (.inl 5, 30, (updV (updV (updV (updV (updV (fun j => defaultValue (tyX5 j)) 1 (.ref (b + 54))) 3 (.ref (b + 55))) 4 (.ref (b + 56))) 5 (.ref (b + 57))) 6 (.ref (b + 58))))) 59 (.inr 0, 6, fun _ => defaultValue .int)) 53 (.inl 5, 30, (updV (updV (updV (updV (updV (updV (fun j => defaultValue (tyX5 j)) 1 (.ref (b + 54))) 3 (.ref (b + 55))) 4 (.ref (b + 56))) 5 (.ref (b + 57))) 6 (.ref (b + 58))) 7 (.ref (b + 59))))) 60 (.inr 1, 6, fun _ => defaultValue .boolean)) 53 (.inl 5, 30, (updV (updV (updV (updV (updV (updV (updV (fun j => defaultValue (tyX5 j)) 1 (.ref (b + 54))) 3 (.ref (b + 55))) 4 (.ref (b + 56))) 5 (.ref (b + 57))) 6 (.ref (b + 58))) 7 (.ref (b + 59))) 8 (.ref (b + 60))))) 61 (.inr 0, 6, fun _ => defaultValue .int)) 53 (.inl 5, 30, (updV (updV (updV (updV (updV (updV (updV (updV (fun j => defaultValue (tyX5 j)) 1 (.ref (b + 54))) 3 (.ref (b + 55))) 4 (.ref (b + 56))) 5 (.ref (b + 57))) 6 (.ref (b + 58))) 7 (.ref (b + 59))) 8 (.ref (b + 60))) 9 (.ref (b + 61))))) 62 (.inr 0, 6, fun _ => defaultValue .int)) 53 (.inl 5, 30, (updV (updV (updV (updV (updV (updV (updV (updV (updV (fun j => defaultValue (tyX5 j)) 1 (.ref (b + 54))) 3 (.ref (b + 55))) 4 (.ref (b + 56))) 5 (.ref (b + 57))) 6 (.ref (b + 58))) 7 (.ref (b + 59))) 8 (.ref (b + 60))) 9 (.ref (b + 61))) 10 (.ref (b + 62))))) 53 (.inl 5, 30, (updV (updV (updV (updV (updV (updV (updV (updV (updV (updV (fun j => defaultValue (tyX5 j)) 1 (.ref (b + 54))) 3 (.ref (b + 55))) 4 (.ref (b + 56))) 5 (.ref (b + 57))) 6 (.ref (b + 58))) 7 (.ref (b + 59))) 8 (.ref (b + 60))) 9 (.ref (b + 61))) 10 (.ref (b + 62))) 11 (.int 2)))) 53 (.inl 5, 30, (updV (updV (updV (updV (updV (updV (updV (updV (updV (updV (updV (fun j => defaultValue (tyX5 j)) 1 (.ref (b + 54))) 3 (.ref (b + 55))) 4 (.ref (b + 56))) 5 (.ref (b + 57))) 6 (.ref (b + 58))) 7 (.ref (b + 59))) 8 (.ref (b + 60))) 9 (.ref (b + 61))) 10 (.ref (b + 62))) 11 (.int 2)) 12 (.int 2)))) 63 (.inr 0, 144, fun _ => defaultValue .int)) 53 (.inl 5, 30, (updV (updV (updV (updV (updV (updV (updV (updV (updV (updV (updV (updV (fun j => defaultValue (tyX5 j)) 1 (.ref (b + 54))) 3 (.ref (b + 55))) 4 (.ref (b + 56))) 5 (.ref (b + 57))) 6 (.ref (b + 58))) 7 (.ref (b + 59))) 8 (.ref (b + 60))) 9 (.ref (b + 61))) 10 (.ref (b + 62))) 11 (.int 2)) 12 (.int 2)) 15 (.ref (b + 63))))) 64 (.inr 0, 144, fun _ => defaultValue .int)) 53 (.inl 5, 30, (updV (updV (updV (updV (updV (updV (updV (updV (updV (updV (updV (updV (updV (fun j => defaultValue (tyX5 j)) 1 (.ref (b + 54))) 3 (.ref (b + 55))) 4 (.ref (b + 56))) 5 (.ref (b + 57))) 6 (.ref (b + 58))) 7 (.ref (b + 59))) 8 (.ref (b + 60))) 9 (.ref (b + 61))) 10 (.ref (b + 62))) 11 (.int 2)) 12 (.int 2)) 15 (.ref (b + 63))) 16 (.ref (b + 64))))) 65 (.inr 0, 6, fun _ => defaultValue .int)) 53 (.inl 5, 30, (updV (updV (updV (updV (updV (updV (updV (updV (updV (updV (updV (updV (updV (updV (fun j => defaultValue (tyX5 j)) 1 (.ref (b + 54))) 3 (.ref (b + 55))) 4 (.ref (b + 56))) 5 (.ref (b + 57))) 6 (.ref (b + 58))) 7 (.ref (b + 59))) 8 (.ref (b + 60))) 9 (.ref (b + 61))) 10 (.ref (b + 62))) 11 (.int 2)) 12 (.int 2)) 15 (.ref (b + 63))) 16 (.ref (b + 64))) 17 (.ref (b + 65))))) 66 (.inr 0, 12, fun _ => defaultValue .int)) 53 (.inl 5, 30, (updV (updV (updV (updV (updV (updV (updV (updV (updV (updV (updV (updV (updV (updV (updV (fun j => defaultValue (tyX5 j)) 1 (.ref (b + 54))) 3 (.ref (b + 55))) 4 (.ref (b + 56))) 5 (.ref (b + 57))) 6 (.ref (b + 58))) 7 (.ref (b + 59))) 8 (.ref (b + 60))) 9 (.ref (b + 61))) 10 (.ref (b + 62))) 11 (.int 2)) 12 (.int 2)) 15 (.ref (b + 63))) 16 (.ref (b + 64))) 17 (.ref (b + 65))) 18 (.ref (b + 66))))) 67 (.inr 1, 12, fun _ => defaultValue .boolean)) 53 (.inl 5, 30, (updV (updV (updV (updV (updV (updV (updV (updV (updV (updV (updV (updV (updV (updV (updV (updV (fun j => defaultValue (tyX5 j)) 1 (.ref (b + 54))) 3 (.ref (b + 55))) 4 (.ref (b + 56))) 5 (.ref (b + 57))) 6 (.ref (b + 58))) 7 (.ref (b + 59))) 8 (.ref (b + 60))) 9 (.ref (b + 61))) 10 (.ref (b + 62))) 11 (.int 2)) 12 (.int 2)) 15 (.ref (b + 63))) 16 (.ref (b + 64))) 17 (.ref (b + 65))) 18 (.ref (b + 66))) 19 (.ref (b + 67))))) 68 (.inr 0, 12, fun _ => defaultValue .int)) 53 (.inl 5, 30, (updV (updV (updV (updV (updV (updV (updV (updV (updV (updV (updV (updV (updV (updV (updV (updV (updV (fun j => defaultValue (tyX5 j)) 1 (.ref (b + 54))) 3 (.ref (b + 55))) 4 (.ref (b + 56))) 5 (.ref (b + 57))) 6 (.ref (b + 58))) 7 (.ref (b + 59))) 8 (.ref (b + 60))) 9 (.ref (b + 61))) 10 (.ref (b + 62))) 11 (.int 2)) 12 (.int 2)) 15 (.ref (b + 63))) 16 (.ref (b + 64))) 17 (.ref (b + 65))) 18 (.ref (b + 66))) 19 (.ref (b + 67))) 20 (.ref (b + 68))))) 69 (.inr 0, 96, fun _ => defaultValue .int)) 53 (.inl 5, 30, (updV (updV (updV (updV (updV (updV (updV (updV (updV (updV (updV (updV (updV (updV (updV (updV (updV (updV (fun j => defaultValue (tyX5 j)) 1 (.ref (b + 54))) 3 (.ref (b + 55))) 4 (.ref (b + 56))) 5 (.ref (b + 57))) 6 (.ref (b + 58))) 7 (.ref (b + 59))) 8 (.ref (b + 60))) 9 (.ref (b + 61))) 10 (.ref (b + 62))) 11 (.int 2)) 12 (.int 2)) 15 (.ref (b + 63))) 16 (.ref (b + 64))) 17 (.ref (b + 65))) 18 (.ref (b + 66))) 19 (.ref (b + 67))) 20 (.ref (b + 68))) 21 (.ref (b + 69))))) 70 (.inr 0, 12, fun _ => defaultValue .int)) 53 (.inl 5, 30, (updV (updV (updV (updV (updV (updV (updV (updV (updV (updV (updV (updV (updV (updV (updV (updV (updV (updV (updV (fun j => defaultValue (tyX5 j)) 1 (.ref (b + 54))) 3 (.ref (b + 55))) 4 (.ref (b + 56))) 5 (.ref (b + 57))) 6 (.ref (b + 58))) 7 (.ref (b + 59))) 8 (.ref (b + 60))) 9 (.ref (b + 61))) 10 (.ref (b + 62))) 11 (.int 2)) 12 (.int 2)) 15 (.ref (b + 63))) 16 (.ref (b + 64))) 17 (.ref (b + 65))) 18 (.ref (b + 66))) 19 (.ref (b + 67))) 20 (.ref (b + 68))) 21 (.ref (b + 69))) 22 (.ref (b + 70))))) 71 (.inr 0, 12, fun _ => defaultValue .int)) 53 (.inl 5, 30, (updV (updV (updV (updV (updV (updV (updV (updV (updV (updV (updV (updV (updV (updV (updV (updV (updV (updV (updV (updV (fun j => defaultValue (tyX5 j)) 1 (.ref (b + 54))) 3 (.ref (b + 55))) 4 (.ref (b + 56))) 5 (.ref (b + 57))) 6 (.ref (b + 58))) 7 (.ref (b + 59))) 8 (.ref (b + 60))) 9 (.ref (b + 61))) 10 (.ref (b + 62))) 11 (.int 2)) 12 (.int 2)) 15 (.ref (b + 63))) 16 (.ref (b + 64))) 17 (.ref (b + 65))) 18 (.ref (b + 66))) 19 (.ref (b + 67))) 20 (.ref (b + 68))) 21 (.ref (b + 69))) 22 (.ref (b + 70))) 23 (.ref (b + 71))))) 72 (.inr 0, 12, fun _ => defaultValue .int)) 53 (.inl 5, 30, (updV (updV (updV (updV (updV (updV (updV (updV (updV (updV (updV (updV (updV (updV (updV (updV (updV (updV (updV (updV (updV (fun j => defaultValue (tyX5 j)) 1 (.ref (b + 54))) 3 (.ref (b + 55))) 4 (.ref (b + 56))) 5 (.ref (b + 57))) 6 (.ref (b + 58))) 7 (.ref (b + 59))) 8 (.ref (b + 60))) 9 (.ref (b + 61))) 10 (.ref (b + 62))) 11 (.int 2)) 12 (.int 2)) 15 (.ref (b + 63))) 16 (.ref (b + 64))) 17 (.ref (b + 65))) 18 (.ref (b + 66))) 19 (.ref (b + 67))) 20 (.ref (b + 68))) 21 (.ref (b + 69))) 22 (.ref (b + 70))) 23 (.ref (b + 71))) 24 (.ref (b + 72))))) 73 (.inr 0, 12, fun _ => defaultValue .int)) 53 (.inl 5, 30, (updV (updV (updV (updV (updV (updV (updV (updV (updV (updV (updV (updV (updV (updV (updV (updV (updV (updV (updV (updV (updV (updV (fun j => defaultValue (tyX5 j)) 1 (.ref (b + 54))) 3 (.ref (b + 55))) 4 (.ref (b + 56))) 5 (.ref (b + 57))) 6 (.ref (b + 58))) 7 (.ref (b + 59))) 8 (.ref (b + 60))) 9 (.ref (b + 61))) 10 (.ref (b + 62))) 11 (.int 2)) 12 (.int 2)) 15 (.ref (b + 63))) 16 (.ref (b + 64))) 17 (.ref (b + 65))) 18 (.ref (b + 66))) 19 (.ref (b + 67))) 20 (.ref (b + 68))) 21 (.ref (b + 69))) 22 (.ref (b + 70))) 23 (.ref (b + 71))) 24 (.ref (b + 72))) 25 (.ref (b + 73))))) 74 (.inr 0, 24, fun _ => defaultValue .int)) 53 (.inl 5, 30, (updV (updV (updV (updV (updV (updV (updV (updV (updV (updV (updV (updV (updV (updV (updV (updV (updV (updV (updV (updV (updV (updV (updV (fun j => defaultValue (tyX5 j)) 1 (.ref (b + 54))) 3 (.ref (b + 55))) 4 (.ref (b + 56))) 5 (.ref (b + 57))) 6 (.ref (b + 58))) 7 (.ref (b + 59))) 8 (.ref (b + 60))) 9 (.ref (b + 61))) 10 (.ref (b + 62))) 11 (.int 2)) 12 (.int 2)) 15 (.ref (b + 63))) 16 (.ref (b + 64))) 17 (.ref (b + 65))) 18 (.ref (b + 66))) 19 (.ref (b + 67))) 20 (.ref (b + 68))) 21 (.ref (b + 69))) 22 (.ref (b + 70))) 23 (.ref (b + 71))) 24 (.ref (b + 72))) 25 (.ref (b + 73))) 28 (.ref (b + 74))))
set_option maxRecDepth 100000 in
set_option maxHeartbeats 4000000 in
theorem mo_all (b : Nat) (D : va_G × (Nat → ClassId)) : ∀ x ∈ L75, cEq (moW b (off x.1 x.2)) (xC (bpGb b D) 0 C0 M0 x.1 x.2) := by
  unfold L75
  simp only [List.forall_mem_cons]
  refine ⟨⟨rfl, rfl, fun j hj => ?_⟩, ?_⟩
  · have hj : j < 10 := hj
    rcases (show j = 0 ∨ j = 1 ∨ j = 2 ∨ j = 3 ∨ j = 4 ∨ j = 5 ∨ j = 6 ∨ j = 7 ∨ j = 8 ∨ j = 9 by omega) with rfl | rfl | rfl | rfl | rfl | rfl | rfl | rfl | rfl | rfl
    all_goals rfl
  refine ⟨⟨rfl, rfl, fun j hj => ?_⟩, ?_⟩
  · have hj : j < 2 := hj
    rcases (show j = 0 ∨ j = 1 by omega) with rfl | rfl
    all_goals rfl
  refine ⟨⟨rfl, rfl, fun j hj => rfl⟩, ?_⟩
  refine ⟨⟨rfl, rfl, fun j hj => ?_⟩, ?_⟩
  · have hj : j < 6 := hj
    rcases (show j = 0 ∨ j = 1 ∨ j = 2 ∨ j = 3 ∨ j = 4 ∨ j = 5 by omega) with rfl | rfl | rfl | rfl | rfl | rfl
    all_goals rfl
  refine ⟨⟨rfl, rfl, fun j hj => ?_⟩, ?_⟩
  · have hj : j < 12 := hj
    rcases (show j = 0 ∨ j = 1 ∨ j = 2 ∨ j = 3 ∨ j = 4 ∨ j = 5 ∨ j = 6 ∨ j = 7 ∨ j = 8 ∨ j = 9 ∨ j = 10 ∨ j = 11 by omega) with rfl | rfl | rfl | rfl | rfl | rfl | rfl | rfl | rfl | rfl | rfl | rfl
    all_goals rfl
  refine ⟨⟨rfl, rfl, fun j hj => ?_⟩, ?_⟩
  · have hj : j < 11 := hj
    rcases (show j = 0 ∨ j = 1 ∨ j = 2 ∨ j = 3 ∨ j = 4 ∨ j = 5 ∨ j = 6 ∨ j = 7 ∨ j = 8 ∨ j = 9 ∨ j = 10 by omega) with rfl | rfl | rfl | rfl | rfl | rfl | rfl | rfl | rfl | rfl | rfl
    all_goals rfl
  refine ⟨⟨rfl, rfl, fun j hj => ?_⟩, ?_⟩
  · have hj : j < 3 := hj
    rcases (show j = 0 ∨ j = 1 ∨ j = 2 by omega) with rfl | rfl | rfl
    all_goals rfl
  refine ⟨⟨rfl, rfl, fun j hj => rfl⟩, ?_⟩
  refine ⟨⟨rfl, rfl, fun j hj => rfl⟩, ?_⟩
  refine ⟨⟨rfl, rfl, fun j hj => ?_⟩, ?_⟩
  · have hj : j < 11 := hj
    rcases (show j = 0 ∨ j = 1 ∨ j = 2 ∨ j = 3 ∨ j = 4 ∨ j = 5 ∨ j = 6 ∨ j = 7 ∨ j = 8 ∨ j = 9 ∨ j = 10 by omega) with rfl | rfl | rfl | rfl | rfl | rfl | rfl | rfl | rfl | rfl | rfl
    all_goals rfl
  refine ⟨⟨rfl, rfl, fun j hj => ?_⟩, ?_⟩
  · have hj : j < 3 := hj
    rcases (show j = 0 ∨ j = 1 ∨ j = 2 by omega) with rfl | rfl | rfl
    all_goals rfl
  refine ⟨⟨rfl, rfl, fun j hj => rfl⟩, ?_⟩
  refine ⟨⟨rfl, rfl, fun j hj => rfl⟩, ?_⟩
  refine ⟨⟨rfl, rfl, fun j hj => ?_⟩, ?_⟩
  · have hj : j < 11 := hj
    rcases (show j = 0 ∨ j = 1 ∨ j = 2 ∨ j = 3 ∨ j = 4 ∨ j = 5 ∨ j = 6 ∨ j = 7 ∨ j = 8 ∨ j = 9 ∨ j = 10 by omega) with rfl | rfl | rfl | rfl | rfl | rfl | rfl | rfl | rfl | rfl | rfl
    all_goals rfl
  refine ⟨⟨rfl, rfl, fun j hj => ?_⟩, ?_⟩
  · have hj : j < 3 := hj
    rcases (show j = 0 ∨ j = 1 ∨ j = 2 by omega) with rfl | rfl | rfl
    all_goals rfl
  refine ⟨⟨rfl, rfl, fun j hj => rfl⟩, ?_⟩
  refine ⟨⟨rfl, rfl, fun j hj => rfl⟩, ?_⟩
  refine ⟨⟨rfl, rfl, fun j hj => ?_⟩, ?_⟩
  · have hj : j < 11 := hj
    rcases (show j = 0 ∨ j = 1 ∨ j = 2 ∨ j = 3 ∨ j = 4 ∨ j = 5 ∨ j = 6 ∨ j = 7 ∨ j = 8 ∨ j = 9 ∨ j = 10 by omega) with rfl | rfl | rfl | rfl | rfl | rfl | rfl | rfl | rfl | rfl | rfl
    all_goals rfl
  refine ⟨⟨rfl, rfl, fun j hj => ?_⟩, ?_⟩
  · have hj : j < 3 := hj
    rcases (show j = 0 ∨ j = 1 ∨ j = 2 by omega) with rfl | rfl | rfl
    all_goals rfl
  refine ⟨⟨rfl, rfl, fun j hj => rfl⟩, ?_⟩
  refine ⟨⟨rfl, rfl, fun j hj => rfl⟩, ?_⟩
  refine ⟨⟨rfl, rfl, fun j hj => ?_⟩, ?_⟩
  · have hj : j < 11 := hj
    rcases (show j = 0 ∨ j = 1 ∨ j = 2 ∨ j = 3 ∨ j = 4 ∨ j = 5 ∨ j = 6 ∨ j = 7 ∨ j = 8 ∨ j = 9 ∨ j = 10 by omega) with rfl | rfl | rfl | rfl | rfl | rfl | rfl | rfl | rfl | rfl | rfl
    all_goals rfl
  refine ⟨⟨rfl, rfl, fun j hj => ?_⟩, ?_⟩
  · have hj : j < 3 := hj
    rcases (show j = 0 ∨ j = 1 ∨ j = 2 by omega) with rfl | rfl | rfl
    all_goals rfl
  refine ⟨⟨rfl, rfl, fun j hj => rfl⟩, ?_⟩
  refine ⟨⟨rfl, rfl, fun j hj => rfl⟩, ?_⟩
  refine ⟨⟨rfl, rfl, fun j hj => ?_⟩, ?_⟩
  · have hj : j < 11 := hj
    rcases (show j = 0 ∨ j = 1 ∨ j = 2 ∨ j = 3 ∨ j = 4 ∨ j = 5 ∨ j = 6 ∨ j = 7 ∨ j = 8 ∨ j = 9 ∨ j = 10 by omega) with rfl | rfl | rfl | rfl | rfl | rfl | rfl | rfl | rfl | rfl | rfl
    all_goals rfl
  refine ⟨⟨rfl, rfl, fun j hj => ?_⟩, ?_⟩
  · have hj : j < 3 := hj
    rcases (show j = 0 ∨ j = 1 ∨ j = 2 by omega) with rfl | rfl | rfl
    all_goals rfl
  refine ⟨⟨rfl, rfl, fun j hj => rfl⟩, ?_⟩
  refine ⟨⟨rfl, rfl, fun j hj => rfl⟩, ?_⟩
  refine ⟨⟨rfl, rfl, fun j hj => ?_⟩, ?_⟩
  · have hj : j < 8 := hj
    rcases (show j = 0 ∨ j = 1 ∨ j = 2 ∨ j = 3 ∨ j = 4 ∨ j = 5 ∨ j = 6 ∨ j = 7 by omega) with rfl | rfl | rfl | rfl | rfl | rfl | rfl | rfl
    all_goals rfl
  refine ⟨⟨rfl, rfl, fun j hj => rfl⟩, ?_⟩
  refine ⟨⟨rfl, rfl, fun j hj => ?_⟩, ?_⟩
  · have hj : j < 8 := hj
    rcases (show j = 0 ∨ j = 1 ∨ j = 2 ∨ j = 3 ∨ j = 4 ∨ j = 5 ∨ j = 6 ∨ j = 7 by omega) with rfl | rfl | rfl | rfl | rfl | rfl | rfl | rfl
    all_goals rfl
  refine ⟨⟨rfl, rfl, fun j hj => rfl⟩, ?_⟩
  refine ⟨⟨rfl, rfl, fun j hj => ?_⟩, ?_⟩
  · have hj : j < 8 := hj
    rcases (show j = 0 ∨ j = 1 ∨ j = 2 ∨ j = 3 ∨ j = 4 ∨ j = 5 ∨ j = 6 ∨ j = 7 by omega) with rfl | rfl | rfl | rfl | rfl | rfl | rfl | rfl
    all_goals rfl
  refine ⟨⟨rfl, rfl, fun j hj => rfl⟩, ?_⟩
  refine ⟨⟨rfl, rfl, fun j hj => ?_⟩, ?_⟩
  · have hj : j < 8 := hj
    rcases (show j = 0 ∨ j = 1 ∨ j = 2 ∨ j = 3 ∨ j = 4 ∨ j = 5 ∨ j = 6 ∨ j = 7 by omega) with rfl | rfl | rfl | rfl | rfl | rfl | rfl | rfl
    all_goals rfl
  refine ⟨⟨rfl, rfl, fun j hj => rfl⟩, ?_⟩
  refine ⟨⟨rfl, rfl, fun j hj => ?_⟩, ?_⟩
  · have hj : j < 8 := hj
    rcases (show j = 0 ∨ j = 1 ∨ j = 2 ∨ j = 3 ∨ j = 4 ∨ j = 5 ∨ j = 6 ∨ j = 7 by omega) with rfl | rfl | rfl | rfl | rfl | rfl | rfl | rfl
    all_goals rfl
  refine ⟨⟨rfl, rfl, fun j hj => rfl⟩, ?_⟩
  refine ⟨⟨rfl, rfl, fun j hj => ?_⟩, ?_⟩
  · have hj : j < 8 := hj
    rcases (show j = 0 ∨ j = 1 ∨ j = 2 ∨ j = 3 ∨ j = 4 ∨ j = 5 ∨ j = 6 ∨ j = 7 by omega) with rfl | rfl | rfl | rfl | rfl | rfl | rfl | rfl
    all_goals rfl
  refine ⟨⟨rfl, rfl, fun j hj => rfl⟩, ?_⟩
  refine ⟨⟨rfl, rfl, fun j hj => ?_⟩, ?_⟩
  · have hj : j < 8 := hj
    rcases (show j = 0 ∨ j = 1 ∨ j = 2 ∨ j = 3 ∨ j = 4 ∨ j = 5 ∨ j = 6 ∨ j = 7 by omega) with rfl | rfl | rfl | rfl | rfl | rfl | rfl | rfl
    all_goals rfl
  refine ⟨⟨rfl, rfl, fun j hj => rfl⟩, ?_⟩
  refine ⟨⟨rfl, rfl, fun j hj => ?_⟩, ?_⟩
  · have hj : j < 8 := hj
    rcases (show j = 0 ∨ j = 1 ∨ j = 2 ∨ j = 3 ∨ j = 4 ∨ j = 5 ∨ j = 6 ∨ j = 7 by omega) with rfl | rfl | rfl | rfl | rfl | rfl | rfl | rfl
    all_goals rfl
  refine ⟨⟨rfl, rfl, fun j hj => rfl⟩, ?_⟩
  refine ⟨⟨rfl, rfl, fun j hj => ?_⟩, ?_⟩
  · have hj : j < 8 := hj
    rcases (show j = 0 ∨ j = 1 ∨ j = 2 ∨ j = 3 ∨ j = 4 ∨ j = 5 ∨ j = 6 ∨ j = 7 by omega) with rfl | rfl | rfl | rfl | rfl | rfl | rfl | rfl
    all_goals rfl
  refine ⟨⟨rfl, rfl, fun j hj => rfl⟩, ?_⟩
  refine ⟨⟨rfl, rfl, fun j hj => ?_⟩, ?_⟩
  · have hj : j < 8 := hj
    rcases (show j = 0 ∨ j = 1 ∨ j = 2 ∨ j = 3 ∨ j = 4 ∨ j = 5 ∨ j = 6 ∨ j = 7 by omega) with rfl | rfl | rfl | rfl | rfl | rfl | rfl | rfl
    all_goals rfl
  refine ⟨⟨rfl, rfl, fun j hj => rfl⟩, ?_⟩
  refine ⟨⟨rfl, rfl, fun j hj => ?_⟩, ?_⟩
  · have hj : j < 8 := hj
    rcases (show j = 0 ∨ j = 1 ∨ j = 2 ∨ j = 3 ∨ j = 4 ∨ j = 5 ∨ j = 6 ∨ j = 7 by omega) with rfl | rfl | rfl | rfl | rfl | rfl | rfl | rfl
    all_goals rfl
  refine ⟨⟨rfl, rfl, fun j hj => rfl⟩, ?_⟩
  refine ⟨⟨rfl, rfl, fun j hj => ?_⟩, ?_⟩
  · have hj : j < 8 := hj
    rcases (show j = 0 ∨ j = 1 ∨ j = 2 ∨ j = 3 ∨ j = 4 ∨ j = 5 ∨ j = 6 ∨ j = 7 by omega) with rfl | rfl | rfl | rfl | rfl | rfl | rfl | rfl
    all_goals rfl
  refine ⟨⟨rfl, rfl, fun j hj => rfl⟩, ?_⟩
  refine ⟨⟨rfl, rfl, fun j hj => ?_⟩, ?_⟩
  · have hj : j < 30 := hj
    rcases (show j = 0 ∨ j = 1 ∨ j = 2 ∨ j = 3 ∨ j = 4 ∨ j = 5 ∨ j = 6 ∨ j = 7 ∨ j = 8 ∨ j = 9 ∨ j = 10 ∨ j = 11 ∨ j = 12 ∨ j = 13 ∨ j = 14 ∨ j = 15 ∨ j = 16 ∨ j = 17 ∨ j = 18 ∨ j = 19 ∨ j = 20 ∨ j = 21 ∨ j = 22 ∨ j = 23 ∨ j = 24 ∨ j = 25 ∨ j = 26 ∨ j = 27 ∨ j = 28 ∨ j = 29 by omega) with rfl | rfl | rfl | rfl | rfl | rfl | rfl | rfl | rfl | rfl | rfl | rfl | rfl | rfl | rfl | rfl | rfl | rfl | rfl | rfl | rfl | rfl | rfl | rfl | rfl | rfl | rfl | rfl | rfl | rfl
    all_goals rfl
  refine ⟨⟨rfl, rfl, fun j hj => rfl⟩, ?_⟩
  refine ⟨⟨rfl, rfl, fun j hj => rfl⟩, ?_⟩
  refine ⟨⟨rfl, rfl, fun j hj => rfl⟩, ?_⟩
  refine ⟨⟨rfl, rfl, fun j hj => rfl⟩, ?_⟩
  refine ⟨⟨rfl, rfl, fun j hj => rfl⟩, ?_⟩
  refine ⟨⟨rfl, rfl, fun j hj => rfl⟩, ?_⟩
  refine ⟨⟨rfl, rfl, fun j hj => rfl⟩, ?_⟩
  refine ⟨⟨rfl, rfl, fun j hj => rfl⟩, ?_⟩
  refine ⟨⟨rfl, rfl, fun j hj => rfl⟩, ?_⟩
  refine ⟨⟨rfl, rfl, fun j hj => rfl⟩, ?_⟩
  refine ⟨⟨rfl, rfl, fun j hj => rfl⟩, ?_⟩
  refine ⟨⟨rfl, rfl, fun j hj => rfl⟩, ?_⟩
  refine ⟨⟨rfl, rfl, fun j hj => rfl⟩, ?_⟩
  refine ⟨⟨rfl, rfl, fun j hj => rfl⟩, ?_⟩
  refine ⟨⟨rfl, rfl, fun j hj => rfl⟩, ?_⟩
  refine ⟨⟨rfl, rfl, fun j hj => rfl⟩, ?_⟩
  refine ⟨⟨rfl, rfl, fun j hj => rfl⟩, ?_⟩
  refine ⟨⟨rfl, rfl, fun j hj => rfl⟩, ?_⟩
  refine ⟨⟨rfl, rfl, fun j hj => rfl⟩, ?_⟩
  refine ⟨⟨rfl, rfl, fun j hj => rfl⟩, ?_⟩
  refine ⟨⟨rfl, rfl, fun j hj => rfl⟩, ?_⟩
  exact fun _ h => absurd h List.not_mem_nil
