section MEM
variable {G : bpG} {κ : bpK} {cc : ByteArray} {nL : Nat} {own : String} {ret : Option FieldType} {R : Room} {pc : Nat} {lv : List (Option Value)} {st : List Value} {C : bpC} {M : bpM} {hl : Int64}
theorem g_get {k i j idx ci N : Nat} {Cn : String} {T : u_T} {v : Value} (X : Cx G κ cc nL own ret R) (hi : i < bpN k) (hO : bpO k = some (ci, N)) (hc : bpCl[ci]? = some (Cn, T, N)) (hla : ∀ w ∈ u_ws Cn T N, w ∈ bpW) (hj : j < N) (hf : Cond.fieldLink own idx (T j).1 (T j).2.1 (T j).2.2.1 ∈ bpW) (hv : bpv G hl i (bpm C M k i) j (bpF k j) = v) (d : decode cc pc = .ok (.getfield idx, 3)) (kk : Rn G κ (pc + 3) lv (v :: st) C M hl) : Rn G κ pc lv (.ref (G.1 k i) :: st) C M hl := by
  intro H locs ls hP hS hL
  obtain ⟨hx, hb, hml, hown, hts, hr, hlk, hK, hg, hR⟩ := X
  have h0 := hP k i hi
  unfold bpAt at h0
  rw [hO] at h0
  obtain ⟨cell, q1, q2, q3, q4⟩ := h0
  obtain ⟨hSl, hfc, kC, hkC, hkind⟩ := hK.1 ci _ hc
  obtain ⟨cf, kf, fi, f, hif, hsl⟩ := hSl j hj
  refine W.getf hx hb hown (hts _ hf) hif (u_facts hfc hkC (u_lays hts hla hj) hif).1 q1 (by rw [q3]; exact fun h => by cases h) (v := v) ?_ rfl rfl d (kk H locs ls hP hS hL)
  rw [hsl, q4 j hj]
  exact congrArg some hv
theorem g_put {k i j idx ci N : Nat} {Cn : String} {T : u_T} {v : Value} {ty : FieldType} {ty0 : Nat → FieldType} (X : Cx G κ cc nL own ret R) (hi : i < bpN k) (hO : bpO k = some (ci, N)) (hc : bpCl[ci]? = some (Cn, T, N)) (hla : ∀ w ∈ u_ws Cn T N, w ∈ bpW) (hty : ∀ k, k < N → parseFieldDescriptor (T k).2.2.1 = some (ty0 k)) (hnm : ∀ a, a < N → ∀ b, b < N → a ≠ b → (T a).2.1 ≠ (T b).2.1) (hj : j < N) (hf : Cond.fieldLink own idx (T j).1 (T j).2.1 (T j).2.2.1 ∈ bpW) (hfin : (T j).2.2.2 = false) (hd : parseFieldDescriptor (T j).2.2.1 = some ty) (hn : narrow ty v = v) (hfit : fits ty v = true) (d : decode cc pc = .ok (.putfield idx, 3))
    {H : Heap} {locs : List Loc} {ls : Array Slot} (hP : WP G C M hl H) (hS : va_S (bpA G) (ks κ).heap H locs)
    (kk : ∀ (H1 : Heap) (locs1 : List Loc), t_OB (G.1 k i) (G.2.1.1 ci) N (G.2.1.2 ci) H1 (updV (fun j => bpv G hl i (bpm C M k i) j (bpF k j)) j v) → (∀ q, q ≠ G.1 k i → H1[q]? = H[q]?) → va_S (bpA G) (ks κ).heap H1 locs1 → W (kp κ) (kl κ) (ke κ) (kR κ) (ks κ) (km κ) (ka κ) (kb κ) (kM κ) (kc κ) H1 locs1 (kn κ) (kS κ) (kQ κ) (F0 (km κ) (pc + 3) ls st)) :
    W (kp κ) (kl κ) (ke κ) (kR κ) (ks κ) (km κ) (ka κ) (kb κ) (kM κ) (kc κ) H locs (kn κ) (kS κ) (kQ κ) (F0 (km κ) pc ls (v :: .ref (G.1 k i) :: st)) := by
  obtain ⟨hx, hb, hml, hown, hts, hr, hlk, hK, hg, hR⟩ := X
  have hap := va_apart (own := own) hts hla ty0 hty hnm hK hc
  have h0 := hP k i hi
  unfold bpAt at h0
  rw [hO] at h0
  obtain ⟨cell, q1, q2, q3, q4⟩ := h0
  obtain ⟨hSl, hfc, kC, hkC, hkind⟩ := hK.1 ci _ hc
  obtain ⟨cf, kf, fi, f, hif, hsl⟩ := hSl j hj
  have hlay := hts _ (hla _ (u_in_lay hj))
  unfold u_lay at hlay
  rw [if_neg (by rw [hfin]; decide)] at hlay
  have hst := (u_facts hfc hkC (u_lays hts hla hj) hif).1
  have h6 := u_store hfc hkC hkind hlay hif hd hn hfit
  refine W.putK hx hb (f := f) ⟨hown, hts _ hf, ⟨_, _, _, hif⟩, hst⟩ (by rw [q2]; exact h6) q1 q3 (by rw [hsl]; exact k2_hasslot (q4 j hj)) rfl rfl d fun H' e1 e2 e3 => ?_
  rw [hsl] at e1 ⊢
  exact kk H' _ ⟨_, e1, q2, q3, t_set q4 hap hj v⟩ e3 (hS.put e2 e3 (bpA_in hi))
/-- an int or boolean field of the class's own objects -/
theorem g_putC {k i j idx ci N : Nat} {Cn : String} {T : u_T} {x : Int32} {ty : FieldType} {ty0 : Nat → FieldType} (X : Cx G κ cc nL own ret R) (hi : i < bpN k) (hk : k < 11) (hF : bpF k j = 0) (hO : bpO k = some (ci, N)) (hc : bpCl[ci]? = some (Cn, T, N)) (hla : ∀ w ∈ u_ws Cn T N, w ∈ bpW) (hty : ∀ k, k < N → parseFieldDescriptor (T k).2.2.1 = some (ty0 k)) (hnm : ∀ a, a < N → ∀ b, b < N → a ≠ b → (T a).2.1 ≠ (T b).2.1) (hj : j < N) (hf : Cond.fieldLink own idx (T j).1 (T j).2.1 (T j).2.2.1 ∈ bpW) (hfin : (T j).2.2.2 = false) (hd : parseFieldDescriptor (T j).2.2.1 = some ty) (hn : narrow ty (.int x) = .int x) (hfit : fits ty (.int x) = true) (d : decode cc pc = .ok (.putfield idx, 3))
    (kk : Rn G κ (pc + 3) lv st (upC C k i j x) M hl) : Rn G κ pc lv (.int x :: .ref (G.1 k i) :: st) C M hl := by
  intro H locs ls hP hS hL
  refine g_put X hi hO hc hla hty hnm hj hf hfin hd hn hfit d hP hS (fun H1 locs1 ob oth hS1 => kk H1 locs1 ls ?_ hS1 hL)
  refine hP.putC X.2.2.2.2.2.2.2.2.1 hi hk ?_ oth
  unfold bpAt
  rw [hO]
  refine ob.to (fun j' _ => ?_)
  rw [bpm_c _ _ hk]
  by_cases e : j' = j
  · subst e
    simp only [updV, if_pos, hF]
    simp [bpv, upd]
  · simp only [updV, if_neg e]
    cases hb : bpF k j' with
    | zero => simp [bpv, upd, e]
    | succ t => cases t <;> rfl
theorem g_putO {j idx : Nat} {x : Int32} {ty : FieldType} (X : Cx G κ cc nL own ret R) (hF : bpF 11 j = 0) (hj : j < 30) (hf : Cond.fieldLink own idx (TX5 j).1 (TX5 j).2.1 (TX5 j).2.2.1 ∈ bpW) (hfin : (TX5 j).2.2.2 = false) (hd : parseFieldDescriptor (TX5 j).2.2.1 = some ty) (hn : narrow ty (.int x) = .int x) (hfit : fits ty (.int x) = true) (d : decode cc pc = .ok (.putfield idx, 3))
    (kk : Rn G κ (pc + 3) lv st C (upM M j 0 x) hl) : Rn G κ pc lv (.int x :: .ref (G.1 11 0) :: st) C M hl := by
  intro H locs ls hP hS hL
  refine g_put (k := 11) (i := 0) (ci := 5) X (by decide) rfl rfl wla_X5 tyX5_ok nmX5 hj hf hfin hd hn hfit d hP hS (fun H1 locs1 ob oth hS1 => kk H1 locs1 ls ?_ hS1 hL)
  refine hP.putO X.2.2.2.2.2.2.2.2.1 hF ?_ oth
  refine ob.to (fun j' _ => ?_)
  rw [bpm_o]
  by_cases e : j' = j
  · subst e
    simp only [updV, if_pos, hF]
    simp [bpv, upd]
  · simp only [updV, if_neg e]
    cases hb : bpF 11 j' with
    | zero => simp [bpv, upd, e]
    | succ t => cases t <;> rfl
/-- the long -/
theorem r_phm {idx : Nat} {x : Int64} (X : Cx G κ cc nL own ret R) (hf : Cond.fieldLink own idx (TX5 29).1 (TX5 29).2.1 (TX5 29).2.2.1 ∈ bpW) (d : decode cc pc = .ok (.putfield idx, 3))
    (kk : Rn G κ (pc + 3) lv st C M x) : Rn G κ pc lv (.long x :: .ref (G.1 11 0) :: st) C M hl := by
  intro H locs ls hP hS hL
  refine g_put (k := 11) (i := 0) (ci := 5) (ty := .long) X (by decide) rfl rfl wla_X5 tyX5_ok nmX5 (by decide) hf rfl (by decide +kernel) rfl rfl d hP hS (fun H1 locs1 ob oth hS1 => kk H1 locs1 ls ?_ hS1 hL)
  refine hP.putH X.2.2.2.2.2.2.2.2.1 ?_ oth
  refine ob.to (fun j' hj' => ?_)
  rw [bpm_o]
  by_cases e : j' = 29
  · subst e
    simp only [updV, if_pos]
    rfl
  · simp only [updV, if_neg e]
    have key : ∀ j, j < 30 → j ≠ 29 → bpF 11 j ≠ 1 := by decide +kernel
    have := key j' hj' e
    cases hb : bpF 11 j' with
    | zero => rfl
    | succ t =>
      cases t with
      | zero => exact absurd hb this
      | succ t => rfl
theorem r_ghm {idx : Nat} (X : Cx G κ cc nL own ret R) (hf : Cond.fieldLink own idx (TX5 29).1 (TX5 29).2.1 (TX5 29).2.2.1 ∈ bpW) (d : decode cc pc = .ok (.getfield idx, 3)) (kk : Rn G κ (pc + 3) lv (.long hl :: st) C M hl) : Rn G κ pc lv (.ref (G.1 11 0) :: st) C M hl :=
  g_get (ci := 5) X (by decide) rfl rfl wla_X5 (by decide) hf rfl d kk
theorem r_gi0 (j : Nat) {idx : Nat} (X : Cx G κ cc nL own ret R) (hf : Cond.fieldLink own idx (TX4 j).1 (TX4 j).2.1 (TX4 j).2.2.1 ∈ bpW) (d : decode cc pc = .ok (.getfield idx, 3)) (hj : j < 10) (hF : bpF 0 j = 0) (kk : Rn G κ (pc + 3) lv (.int (C 0 0 j) :: st) C M hl) : Rn G κ pc lv (.ref (G.1 0 0) :: st) C M hl := g_get (ci := 4) X (by decide) rfl rfl wla_X4 hj hf (by rw [hF, bpm_c _ _ (by decide)]; rfl) d kk
theorem r_gr0_0 {idx : Nat} (X : Cx G κ cc nL own ret R) (hf : Cond.fieldLink own idx (TX4 0).1 (TX4 0).2.1 (TX4 0).2.2.1 ∈ bpW) (d : decode cc pc = .ok (.getfield idx, 3)) (kk : Rn G κ (pc + 3) lv (.ref (G.1 1 0) :: st) C M hl) : Rn G κ pc lv (.ref (G.1 0 0) :: st) C M hl := g_get (ci := 4) X (by decide) rfl rfl wla_X4 (by decide) hf rfl d kk
theorem r_gr0_1 {idx : Nat} (X : Cx G κ cc nL own ret R) (hf : Cond.fieldLink own idx (TX4 1).1 (TX4 1).2.1 (TX4 1).2.2.1 ∈ bpW) (d : decode cc pc = .ok (.getfield idx, 3)) (kk : Rn G κ (pc + 3) lv (.ref (G.1 3 0) :: st) C M hl) : Rn G κ pc lv (.ref (G.1 0 0) :: st) C M hl := g_get (ci := 4) X (by decide) rfl rfl wla_X4 (by decide) hf rfl d kk
theorem r_gr0_2 {idx : Nat} (X : Cx G κ cc nL own ret R) (hf : Cond.fieldLink own idx (TX4 2).1 (TX4 2).2.1 (TX4 2).2.2.1 ∈ bpW) (d : decode cc pc = .ok (.getfield idx, 3)) (kk : Rn G κ (pc + 3) lv (.ref (G.1 4 0) :: st) C M hl) : Rn G κ pc lv (.ref (G.1 0 0) :: st) C M hl := g_get (ci := 4) X (by decide) rfl rfl wla_X4 (by decide) hf rfl d kk
theorem r_pi0 (j : Nat) {idx : Nat} {x : Int32} (X : Cx G κ cc nL own ret R) (hf : Cond.fieldLink own idx (TX4 j).1 (TX4 j).2.1 (TX4 j).2.2.1 ∈ bpW) (d : decode cc pc = .ok (.putfield idx, 3)) (hj : j < 10) (hF : bpF 0 j = 0) (hfin : (TX4 j).2.2.2 = false) (hd : parseFieldDescriptor (TX4 j).2.2.1 = some .int) (kk : Rn G κ (pc + 3) lv st (upC C 0 0 j x) M hl) : Rn G κ pc lv (.int x :: .ref (G.1 0 0) :: st) C M hl := g_putC (ci := 4) X (by decide) (by decide) hF rfl rfl wla_X4 tyX4_ok nmX4 hj hf hfin hd rfl rfl d kk
theorem r_gi1 (j : Nat) {idx : Nat} (X : Cx G κ cc nL own ret R) (hf : Cond.fieldLink own idx (TX1 j).1 (TX1 j).2.1 (TX1 j).2.2.1 ∈ bpW) (d : decode cc pc = .ok (.getfield idx, 3)) (hj : j < 2) (hF : bpF 1 j = 0) (kk : Rn G κ (pc + 3) lv (.int (C 1 0 j) :: st) C M hl) : Rn G κ pc lv (.ref (G.1 1 0) :: st) C M hl := g_get (ci := 1) X (by decide) rfl rfl wla_X1 hj hf (by rw [hF, bpm_c _ _ (by decide)]; rfl) d kk
theorem r_gr1_0 {idx : Nat} (X : Cx G κ cc nL own ret R) (hf : Cond.fieldLink own idx (TX1 0).1 (TX1 0).2.1 (TX1 0).2.2.1 ∈ bpW) (d : decode cc pc = .ok (.getfield idx, 3)) (kk : Rn G κ (pc + 3) lv (.ref (G.1 2 0) :: st) C M hl) : Rn G κ pc lv (.ref (G.1 1 0) :: st) C M hl := g_get (ci := 1) X (by decide) rfl rfl wla_X1 (by decide) hf rfl d kk
theorem r_pi1 (j : Nat) {idx : Nat} {x : Int32} (X : Cx G κ cc nL own ret R) (hf : Cond.fieldLink own idx (TX1 j).1 (TX1 j).2.1 (TX1 j).2.2.1 ∈ bpW) (d : decode cc pc = .ok (.putfield idx, 3)) (hj : j < 2) (hF : bpF 1 j = 0) (hfin : (TX1 j).2.2.2 = false) (hd : parseFieldDescriptor (TX1 j).2.2.1 = some .int) (kk : Rn G κ (pc + 3) lv st (upC C 1 0 j x) M hl) : Rn G κ pc lv (.int x :: .ref (G.1 1 0) :: st) C M hl := g_putC (ci := 1) X (by decide) (by decide) hF rfl rfl wla_X1 tyX1_ok nmX1 hj hf hfin hd rfl rfl d kk
theorem r_gi5 {i : Nat} (j : Nat) {idx : Nat} (X : Cx G κ cc nL own ret R) (hi : i < 6) (hf : Cond.fieldLink own idx (TX2 j).1 (TX2 j).2.1 (TX2 j).2.2.1 ∈ bpW) (d : decode cc pc = .ok (.getfield idx, 3)) (hj : j < 11) (hF : bpF 5 j = 0) (kk : Rn G κ (pc + 3) lv (.int (C 5 i j) :: st) C M hl) : Rn G κ pc lv (.ref (G.1 5 i) :: st) C M hl := g_get (ci := 2) X hi rfl rfl wla_X2 hj hf (by rw [hF, bpm_c _ _ (by decide)]; rfl) d kk
theorem r_gr5_0 {i : Nat} {idx : Nat} (X : Cx G κ cc nL own ret R) (hi : i < 6) (hf : Cond.fieldLink own idx (TX2 0).1 (TX2 0).2.1 (TX2 0).2.2.1 ∈ bpW) (d : decode cc pc = .ok (.getfield idx, 3)) (kk : Rn G κ (pc + 3) lv (.ref (G.1 6 i) :: st) C M hl) : Rn G κ pc lv (.ref (G.1 5 i) :: st) C M hl := g_get (ci := 2) X hi rfl rfl wla_X2 (by decide) hf rfl d kk
theorem r_pi5 {i : Nat} (j : Nat) {idx : Nat} {x : Int32} (X : Cx G κ cc nL own ret R) (hi : i < 6) (hf : Cond.fieldLink own idx (TX2 j).1 (TX2 j).2.1 (TX2 j).2.2.1 ∈ bpW) (d : decode cc pc = .ok (.putfield idx, 3)) (hj : j < 11) (hF : bpF 5 j = 0) (hfin : (TX2 j).2.2.2 = false) (hd : parseFieldDescriptor (TX2 j).2.2.1 = some .int) (kk : Rn G κ (pc + 3) lv st (upC C 5 i j x) M hl) : Rn G κ pc lv (.int x :: .ref (G.1 5 i) :: st) C M hl := g_putC (ci := 2) X hi (by decide) hF rfl rfl wla_X2 tyX2_ok nmX2 hj hf hfin hd rfl rfl d kk
theorem r_pz5 {i : Nat} (j : Nat) {idx : Nat} {x : Int32} (X : Cx G κ cc nL own ret R) (hi : i < 6) (hz : x = 0 ∨ x = 1) (hf : Cond.fieldLink own idx (TX2 j).1 (TX2 j).2.1 (TX2 j).2.2.1 ∈ bpW) (d : decode cc pc = .ok (.putfield idx, 3)) (hj : j < 11) (hF : bpF 5 j = 0) (hfin : (TX2 j).2.2.2 = false) (hd : parseFieldDescriptor (TX2 j).2.2.1 = some .boolean) (kk : Rn G κ (pc + 3) lv st (upC C 5 i j x) M hl) : Rn G κ pc lv (.int x :: .ref (G.1 5 i) :: st) C M hl := g_putC (ci := 2) X hi (by decide) hF rfl rfl wla_X2 tyX2_ok nmX2 hj hf hfin hd (by rcases hz with rfl | rfl <;> decide) (by rcases hz with rfl | rfl <;> decide) d kk
theorem r_gi6 {i : Nat} (j : Nat) {idx : Nat} (X : Cx G κ cc nL own ret R) (hi : i < 6) (hf : Cond.fieldLink own idx (TX3 j).1 (TX3 j).2.1 (TX3 j).2.2.1 ∈ bpW) (d : decode cc pc = .ok (.getfield idx, 3)) (hj : j < 3) (hF : bpF 6 j = 0) (kk : Rn G κ (pc + 3) lv (.int (C 6 i j) :: st) C M hl) : Rn G κ pc lv (.ref (G.1 6 i) :: st) C M hl := g_get (ci := 3) X hi rfl rfl wla_X3 hj hf (by rw [hF, bpm_c _ _ (by decide)]; rfl) d kk
theorem r_gr6_0 {i : Nat} {idx : Nat} (X : Cx G κ cc nL own ret R) (hi : i < 6) (hf : Cond.fieldLink own idx (TX3 0).1 (TX3 0).2.1 (TX3 0).2.2.1 ∈ bpW) (d : decode cc pc = .ok (.getfield idx, 3)) (kk : Rn G κ (pc + 3) lv (.ref (G.1 7 i) :: st) C M hl) : Rn G κ pc lv (.ref (G.1 6 i) :: st) C M hl := g_get (ci := 3) X hi rfl rfl wla_X3 (by decide) hf rfl d kk
theorem r_gr6_1 {i : Nat} {idx : Nat} (X : Cx G κ cc nL own ret R) (hi : i < 6) (hf : Cond.fieldLink own idx (TX3 1).1 (TX3 1).2.1 (TX3 1).2.2.1 ∈ bpW) (d : decode cc pc = .ok (.getfield idx, 3)) (kk : Rn G κ (pc + 3) lv (.ref (G.1 8 i) :: st) C M hl) : Rn G κ pc lv (.ref (G.1 6 i) :: st) C M hl := g_get (ci := 3) X hi rfl rfl wla_X3 (by decide) hf rfl d kk
theorem r_pi6 {i : Nat} (j : Nat) {idx : Nat} {x : Int32} (X : Cx G κ cc nL own ret R) (hi : i < 6) (hf : Cond.fieldLink own idx (TX3 j).1 (TX3 j).2.1 (TX3 j).2.2.1 ∈ bpW) (d : decode cc pc = .ok (.putfield idx, 3)) (hj : j < 3) (hF : bpF 6 j = 0) (hfin : (TX3 j).2.2.2 = false) (hd : parseFieldDescriptor (TX3 j).2.2.1 = some .int) (kk : Rn G κ (pc + 3) lv st (upC C 6 i j x) M hl) : Rn G κ pc lv (.int x :: .ref (G.1 6 i) :: st) C M hl := g_putC (ci := 3) X hi (by decide) hF rfl rfl wla_X3 tyX3_ok nmX3 hj hf hfin hd rfl rfl d kk
theorem r_gi9 {i : Nat} (j : Nat) {idx : Nat} (X : Cx G κ cc nL own ret R) (hi : i < 12) (hf : Cond.fieldLink own idx (TX0 j).1 (TX0 j).2.1 (TX0 j).2.2.1 ∈ bpW) (d : decode cc pc = .ok (.getfield idx, 3)) (hj : j < 8) (hF : bpF 9 j = 0) (kk : Rn G κ (pc + 3) lv (.int (C 9 i j) :: st) C M hl) : Rn G κ pc lv (.ref (G.1 9 i) :: st) C M hl := g_get (ci := 0) X hi rfl rfl wla_X0 hj hf (by rw [hF, bpm_c _ _ (by decide)]; rfl) d kk
theorem r_gr9_0 {i : Nat} {idx : Nat} (X : Cx G κ cc nL own ret R) (hi : i < 12) (hf : Cond.fieldLink own idx (TX0 0).1 (TX0 0).2.1 (TX0 0).2.2.1 ∈ bpW) (d : decode cc pc = .ok (.getfield idx, 3)) (kk : Rn G κ (pc + 3) lv (.ref (G.1 10 i) :: st) C M hl) : Rn G κ pc lv (.ref (G.1 9 i) :: st) C M hl := g_get (ci := 0) X hi rfl rfl wla_X0 (by decide) hf rfl d kk
theorem r_pi9 {i : Nat} (j : Nat) {idx : Nat} {x : Int32} (X : Cx G κ cc nL own ret R) (hi : i < 12) (hf : Cond.fieldLink own idx (TX0 j).1 (TX0 j).2.1 (TX0 j).2.2.1 ∈ bpW) (d : decode cc pc = .ok (.putfield idx, 3)) (hj : j < 8) (hF : bpF 9 j = 0) (hfin : (TX0 j).2.2.2 = false) (hd : parseFieldDescriptor (TX0 j).2.2.1 = some .int) (kk : Rn G κ (pc + 3) lv st (upC C 9 i j x) M hl) : Rn G κ pc lv (.int x :: .ref (G.1 9 i) :: st) C M hl := g_putC (ci := 0) X hi (by decide) hF rfl rfl wla_X0 tyX0_ok nmX0 hj hf hfin hd rfl rfl d kk
theorem r_pz9 {i : Nat} (j : Nat) {idx : Nat} {x : Int32} (X : Cx G κ cc nL own ret R) (hi : i < 12) (hz : x = 0 ∨ x = 1) (hf : Cond.fieldLink own idx (TX0 j).1 (TX0 j).2.1 (TX0 j).2.2.1 ∈ bpW) (d : decode cc pc = .ok (.putfield idx, 3)) (hj : j < 8) (hF : bpF 9 j = 0) (hfin : (TX0 j).2.2.2 = false) (hd : parseFieldDescriptor (TX0 j).2.2.1 = some .boolean) (kk : Rn G κ (pc + 3) lv st (upC C 9 i j x) M hl) : Rn G κ pc lv (.int x :: .ref (G.1 9 i) :: st) C M hl := g_putC (ci := 0) X hi (by decide) hF rfl rfl wla_X0 tyX0_ok nmX0 hj hf hfin hd (by rcases hz with rfl | rfl <;> decide) (by rcases hz with rfl | rfl <;> decide) d kk
theorem r_gim (j : Nat) {idx : Nat} (X : Cx G κ cc nL own ret R) (hf : Cond.fieldLink own idx (TX5 j).1 (TX5 j).2.1 (TX5 j).2.2.1 ∈ bpW) (d : decode cc pc = .ok (.getfield idx, 3)) (hj : j < 30) (hF : bpF 11 j = 0) (kk : Rn G κ (pc + 3) lv (.int (M j 0) :: st) C M hl) : Rn G κ pc lv (.ref (G.1 11 0) :: st) C M hl := g_get (ci := 5) X (by decide) rfl rfl wla_X5 hj hf (by rw [hF, bpm_o]; rfl) d kk
theorem r_gam (s : Nat) {idx : Nat} (X : Cx G κ cc nL own ret R) (hf : Cond.fieldLink own idx (TX5 s).1 (TX5 s).2.1 (TX5 s).2.2.1 ∈ bpW) (d : decode cc pc = .ok (.getfield idx, 3)) (hj : s < 30) (hF : bpF 11 s = 20 + s + 2) (kk : Rn G κ (pc + 3) lv (.ref (G.1 (20 + s) 0) :: st) C M hl) : Rn G κ pc lv (.ref (G.1 11 0) :: st) C M hl := g_get (ci := 5) X (by decide) rfl rfl wla_X5 hj hf (by rw [hF]; rfl) d kk
theorem r_pim (j : Nat) {idx : Nat} {x : Int32} (X : Cx G κ cc nL own ret R) (hf : Cond.fieldLink own idx (TX5 j).1 (TX5 j).2.1 (TX5 j).2.2.1 ∈ bpW) (d : decode cc pc = .ok (.putfield idx, 3)) (hj : j < 30) (hF : bpF 11 j = 0) (hfin : (TX5 j).2.2.2 = false) (hd : parseFieldDescriptor (TX5 j).2.2.1 = some .int) (kk : Rn G κ (pc + 3) lv st C (upM M j 0 x) hl) : Rn G κ pc lv (.int x :: .ref (G.1 11 0) :: st) C M hl := g_putO X hF hj hf hfin hd rfl rfl d kk
theorem bpL_le (k : Nat) : (bpL k).2 ≤ 144 := by
  unfold bpL
  split <;> decide
theorem g_ix {k j : Nat} (h : j < (bpL k).2) : j < 2 ^ 31 := by
  have := bpL_le k
  omega
theorem g_in {k j : Nat} {a : ClassId} {f : Nat → Value} (h : j < (bpL k).2) : ¬ (nI j < 0 ∨ (arrV a (bpL k).2 f).slots.size ≤ (nI j).toNatClampNeg) := by
  rw [arrV_size]
  exact vp_in_nI h (by have := bpL_le k; omega)
theorem g_arr {k i : Nat} {f : Nat → Int32} {H : Heap} (hO : bpO k = none) (h : bpAt G hl k i f H) : H[G.1 k i]? = some (arrV (G.2.2 (bpL k).1) (bpL k).2 (fun j => bpw G f j (bpE k))) := by
  unfold bpAt at h
  rw [hO] at h
  exact h
/-- an int out of an array -/
theorem g_iald {k i j : Nat} {x : Int32} (X : Cx G κ cc nL own ret R) (hx : x = nI j) (hj : j < (bpL k).2) (hi : i < bpN k) (hO : bpO k = none) (hA : (bpL k).1 = 0) (hE : bpE k = 0) (d : decode cc pc = .ok (.iaload, 1)) (kk : Rn G κ (pc + 1) lv (.int (bpm C M k i j) :: st) C M hl) : Rn G κ pc lv (.int x :: .ref (G.1 k i) :: st) C M hl := by
  subst hx
  intro H locs ls hP hS hL
  have h0 := g_arr hO (hP k i hi)
  rw [hA, hE] at h0
  obtain ⟨hex, hb, hml, hown, hts, hr, hlk, hK, hg, hR⟩ := X
  exact W.iald (v := .int (bpm C M k i j)) hex hb h0 ((hK.2 0 _ rfl).1 _ _) (fun q => by cases q) (g_in hj) (by rw [nI_clamp (g_ix hj), arrV_read _ _ hj]; rfl) rfl rfl d (kk H locs ls hP hS hL)
theorem g_zald {k i j : Nat} {x : Int32} (X : Cx G κ cc nL own ret R) (hx : x = nI j) (hj : j < (bpL k).2) (hi : i < bpN k) (hO : bpO k = none) (hA : (bpL k).1 = 1) (hE : bpE k = 0) (d : decode cc pc = .ok (.baload, 1)) (kk : Rn G κ (pc + 1) lv (.int (bpm C M k i j) :: st) C M hl) : Rn G κ pc lv (.int x :: .ref (G.1 k i) :: st) C M hl := by
  subst hx
  intro H locs ls hP hS hL
  have h0 := g_arr hO (hP k i hi)
  rw [hA, hE] at h0
  obtain ⟨hex, hb, hml, hown, hts, hr, hlk, hK, hg, hR⟩ := X
  exact W.zald (v := .int (bpm C M k i j)) hex hb h0 ((hK.2 1 _ rfl).1 _ _) (fun q => by cases q) (g_in hj) (by rw [nI_clamp (g_ix hj), arrV_read _ _ hj]; rfl) rfl rfl d (kk H locs ls hP hS hL)
theorem g_iast {k i j : Nat} {x v : Int32} (X : Cx G κ cc nL own ret R) (hx : x = nI j) (hj : j < (bpL k).2) (hi : i < bpN k) (hO : bpO k = none) (hA : (bpL k).1 = 0) (hE : bpE k = 0) (d : decode cc pc = .ok (.iastore, 1)) {H : Heap} {locs : List Loc} {ls : Array Slot} (hP : WP G C M hl H) (hS : va_S (bpA G) (ks κ).heap H locs)
    (kk : ∀ (H1 : Heap) (locs1 : List Loc), bpAt G hl k i (upd (bpm C M k i) j v) H1 → (∀ q, q ≠ G.1 k i → H1[q]? = H[q]?) → va_S (bpA G) (ks κ).heap H1 locs1 → W (kp κ) (kl κ) (ke κ) (kR κ) (ks κ) (km κ) (ka κ) (kb κ) (kM κ) (kc κ) H1 locs1 (kn κ) (kS κ) (kQ κ) (F0 (km κ) (pc + 1) ls st)) :
    W (kp κ) (kl κ) (ke κ) (kR κ) (ks κ) (km κ) (ka κ) (kb κ) (kM κ) (kc κ) H locs (kn κ) (kS κ) (kQ κ) (F0 (km κ) pc ls (.int v :: .int x :: .ref (G.1 k i) :: st)) := by
  subst hx
  have h0 := g_arr hO (hP k i hi)
  rw [hA, hE] at h0
  obtain ⟨hex, hb, hml, hown, hts, hr, hlk, hK, hg, hR⟩ := X
  refine W.iast hex hb h0 ((hK.2 0 _ rfl).1 _ _) (fun q => by cases q) (g_in hj) rfl rfl d fun H1 e z oq => ?_
  refine kk H1 _ ?_ oq (hS.put z oq (bpA_in hi))
  unfold bpAt
  rw [hO]
  show H1[G.1 k i]? = _
  rw [e, nI_clamp (g_ix hj), arrV_store, hA, hE]
  refine congrArg (fun z => some (arrV (G.2.2 0) (bpL k).2 z)) (funext fun q => ?_)
  by_cases hq : q = j
  · subst hq
    simp [updV, upd, bpw]
  · simp [updV, upd, bpw, hq]
theorem g_zast {k i j : Nat} {x v : Int32} (X : Cx G κ cc nL own ret R) (hz : v = 0 ∨ v = 1) (hx : x = nI j) (hj : j < (bpL k).2) (hi : i < bpN k) (hO : bpO k = none) (hA : (bpL k).1 = 1) (hE : bpE k = 0) (d : decode cc pc = .ok (.bastore, 1)) {H : Heap} {locs : List Loc} {ls : Array Slot} (hP : WP G C M hl H) (hS : va_S (bpA G) (ks κ).heap H locs)
    (kk : ∀ (H1 : Heap) (locs1 : List Loc), bpAt G hl k i (upd (bpm C M k i) j v) H1 → (∀ q, q ≠ G.1 k i → H1[q]? = H[q]?) → va_S (bpA G) (ks κ).heap H1 locs1 → W (kp κ) (kl κ) (ke κ) (kR κ) (ks κ) (km κ) (ka κ) (kb κ) (kM κ) (kc κ) H1 locs1 (kn κ) (kS κ) (kQ κ) (F0 (km κ) (pc + 1) ls st)) :
    W (kp κ) (kl κ) (ke κ) (kR κ) (ks κ) (km κ) (ka κ) (kb κ) (kM κ) (kc κ) H locs (kn κ) (kS κ) (kQ κ) (F0 (km κ) pc ls (.int v :: .int x :: .ref (G.1 k i) :: st)) := by
  subst hx
  have h0 := g_arr hO (hP k i hi)
  rw [hA, hE] at h0
  obtain ⟨hex, hb, hml, hown, hts, hr, hlk, hK, hg, hR⟩ := X
  have hnar : narrow .boolean (.int v) = .int v := by rcases hz with rfl | rfl <;> decide
  refine W.zast hex hb h0 ((hK.2 1 _ rfl).1 _ _) (fun q => by cases q) (g_in hj) rfl rfl d fun H1 e z oq => ?_
  refine kk H1 _ ?_ oq (hS.put z oq (bpA_in hi))
  unfold bpAt
  rw [hO]
  show H1[G.1 k i]? = _
  rw [e, nI_clamp (g_ix hj), arrV_store, hA, hE, hnar]
  refine congrArg (fun z => some (arrV (G.2.2 1) (bpL k).2 z)) (funext fun q => ?_)
  by_cases hq : q = j
  · subst hq
    simp [updV, upd, bpw]
  · simp [updV, upd, bpw, hq]
/-- class arrays: codes, flowRow, numberRow, held -/
theorem r_iaC {k i : Nat} (j : Nat) {x : Int32} (X : Cx G κ cc nL own ret R) (hx : x = nI j) (hj : j < (bpL k).2) (hi : i < bpN k) (d : decode cc pc = .ok (.iaload, 1)) (hk : k < 11) (hO : bpO k = none) (hA : (bpL k).1 = 0) (hE : bpE k = 0) (kk : Rn G κ (pc + 1) lv (.int (C k i j) :: st) C M hl) : Rn G κ pc lv (.int x :: .ref (G.1 k i) :: st) C M hl :=
  g_iald X hx hj hi hO hA hE d (by rw [bpm_c _ _ hk]; exact kk)
theorem r_isC {k i : Nat} (j : Nat) {x v : Int32} (X : Cx G κ cc nL own ret R) (hx : x = nI j) (hj : j < (bpL k).2) (hi : i < bpN k) (d : decode cc pc = .ok (.iastore, 1)) (hk : k < 11) (hO : bpO k = none) (hA : (bpL k).1 = 0) (hE : bpE k = 0) (kk : Rn G κ (pc + 1) lv st (upC C k i j v) M hl) : Rn G κ pc lv (.int v :: .int x :: .ref (G.1 k i) :: st) C M hl :=
  fun H locs ls hP hS hL => g_iast X hx hj hi hO hA hE d hP hS (fun H1 locs1 new oth hS1 => kk H1 locs1 ls (hP.putC X.2.2.2.2.2.2.2.2.1 hi hk (by rw [bpm_c _ _ hk] at new; exact new) oth) hS1 hL)
/-- the reference's arrays -/
theorem r_iaM {s : Nat} (j : Nat) {x : Int32} (X : Cx G κ cc nL own ret R) (hx : x = nI j) (hj : j < (bpL (20 + s)).2) (d : decode cc pc = .ok (.iaload, 1)) (hi : 0 < bpN (20 + s)) (hO : bpO (20 + s) = none) (hA : (bpL (20 + s)).1 = 0) (hE : bpE (20 + s) = 0) (kk : Rn G κ (pc + 1) lv (.int (M s j) :: st) C M hl) : Rn G κ pc lv (.int x :: .ref (G.1 (20 + s) 0) :: st) C M hl :=
  g_iald X hx hj hi hO hA hE d (by rw [bpm_a]; exact kk)
theorem r_zaM {s : Nat} (j : Nat) {x : Int32} (X : Cx G κ cc nL own ret R) (hx : x = nI j) (hj : j < (bpL (20 + s)).2) (d : decode cc pc = .ok (.baload, 1)) (hi : 0 < bpN (20 + s)) (hO : bpO (20 + s) = none) (hA : (bpL (20 + s)).1 = 1) (hE : bpE (20 + s) = 0) (kk : Rn G κ (pc + 1) lv (.int (M s j) :: st) C M hl) : Rn G κ pc lv (.int x :: .ref (G.1 (20 + s) 0) :: st) C M hl :=
  g_zald X hx hj hi hO hA hE d (by rw [bpm_a]; exact kk)
theorem r_isM {s : Nat} (j : Nat) {x v : Int32} (X : Cx G κ cc nL own ret R) (hx : x = nI j) (hj : j < (bpL (20 + s)).2) (d : decode cc pc = .ok (.iastore, 1)) (hi : 0 < bpN (20 + s)) (hO : bpO (20 + s) = none) (hA : (bpL (20 + s)).1 = 0) (hE : bpE (20 + s) = 0) (kk : Rn G κ (pc + 1) lv st C (upM M s j v) hl) : Rn G κ pc lv (.int v :: .int x :: .ref (G.1 (20 + s) 0) :: st) C M hl :=
  fun H locs ls hP hS hL => g_iast X hx hj hi hO hA hE d hP hS (fun H1 locs1 new oth hS1 => kk H1 locs1 ls (hP.putA X.2.2.2.2.2.2.2.2.1 hi (by rw [bpm_a] at new; exact new) oth) hS1 hL)
theorem r_zsM {s : Nat} (j : Nat) {x v : Int32} (X : Cx G κ cc nL own ret R) (hz : v = 0 ∨ v = 1) (hx : x = nI j) (hj : j < (bpL (20 + s)).2) (d : decode cc pc = .ok (.bastore, 1)) (hi : 0 < bpN (20 + s)) (hO : bpO (20 + s) = none) (hA : (bpL (20 + s)).1 = 1) (hE : bpE (20 + s) = 0) (kk : Rn G κ (pc + 1) lv st C (upM M s j v) hl) : Rn G κ pc lv (.int v :: .int x :: .ref (G.1 (20 + s) 0) :: st) C M hl :=
  fun H locs ls hP hS hL => g_zast X hz hx hj hi hO hA hE d hP hS (fun H1 locs1 new oth hS1 => kk H1 locs1 ls (hP.putA X.2.2.2.2.2.2.2.2.1 hi (by rw [bpm_a] at new; exact new) oth) hS1 hL)
theorem r_aaP (j : Nat) {x : Int32} (X : Cx G κ cc nL own ret R) (hx : x = nI j) (hj : j < 6) (d : decode cc pc = .ok (.aaload, 1)) (kk : Rn G κ (pc + 1) lv (.ref (G.1 5 j) :: st) C M hl) : Rn G κ pc lv (.int x :: .ref (G.1 3 0) :: st) C M hl := by
  subst hx
  intro H locs ls hP hS hL
  have h0 : H[G.1 3 0]? = some (arrV (G.2.2 2) 6 (fun j => .ref (G.1 5 j))) := g_arr rfl (hP 3 0 (by decide))
  obtain ⟨hex, hb, hml, hown, hts, hr, hlk, hK, hg, hR⟩ := X
  exact W.aald (v := .ref (G.1 5 j)) (ty := .object "BoundPorts$Port") hex hb h0 ((hK.2 2 _ rfl).1 _ _) rfl (fun q => by cases q) (by rw [arrV_size]; exact vp_in_nI hj (by omega)) (by rw [nI_clamp (by omega), arrV_read _ _ hj]) rfl rfl d (kk H locs ls hP hS hL)
theorem r_aaF (j : Nat) {x : Int32} (X : Cx G κ cc nL own ret R) (hx : x = nI j) (hj : j < 12) (d : decode cc pc = .ok (.aaload, 1)) (kk : Rn G κ (pc + 1) lv (.ref (G.1 9 j) :: st) C M hl) : Rn G κ pc lv (.int x :: .ref (G.1 4 0) :: st) C M hl := by
  subst hx
  intro H locs ls hP hS hL
  have h0 : H[G.1 4 0]? = some (arrV (G.2.2 3) 12 (fun j => .ref (G.1 9 j))) := g_arr rfl (hP 4 0 (by decide))
  obtain ⟨hex, hb, hml, hown, hts, hr, hlk, hK, hg, hR⟩ := X
  exact W.aald (v := .ref (G.1 9 j)) (ty := .object "BoundPorts$Flow") hex hb h0 ((hK.2 3 _ rfl).1 _ _) rfl (fun q => by cases q) (by rw [arrV_size]; exact vp_in_nI hj (by omega)) (by rw [nI_clamp (by omega), arrV_read _ _ hj]) rfl rfl d (kk H locs ls hP hS hL)
/-- calls -/
theorem g_blind {args : List Value} : FrameBlind (va_Pc args (fun U => bpGood G ∧ WP G C M hl U.heap ∧ va_K G.2.1 bpCl (bpT G) U)) := by
  rintro a U g mk ⟨h1, h2, h3, h4⟩
  exact ⟨h1, h2, h3, va_K.moved (u := U) (U := U.calling g mk a) (Vm.Alike.refl U.vm) h4⟩
theorem g_go {Q : bpC → bpM → Int64 → Option Value → Prop} {H : Heap} {locs : List Loc} {ls : Array Slot} {st0 : List Value} {a : Array Value} (hS : va_S (bpA G) (ks κ).heap H locs) (hL : lvs ls lv)
    (hrun : va_Run (kp κ) (kl κ) (ke κ) (kR κ) (ks κ) (km κ) (ka κ) (kb κ) (kM κ) (kc κ) H locs (kn κ) (kS κ) 0 0 (F0 (km κ) pc ls st0) st (Qm G Q a) (bpA G))
    (kk : ∀ (C' : bpC) (M' : bpM) (hl' : Int64) (v : Option Value), Q C' M' hl' v → Rn G κ (pc + 3) lv (v.toList ++ st) C' M' hl') :
    W (kp κ) (kl κ) (ke κ) (kR κ) (ks κ) (km κ) (ka κ) (kb κ) (kM κ) (kc κ) H locs (kn κ) (kS κ) (kQ κ) (F0 (km κ) pc ls st0) := by
  intro T hT XX
  obtain ⟨v, s0, t, T', L, h0, X', hLf, e1, e2, ⟨⟨v', C', M', hl', hv, hq, hw⟩, hz, hk⟩, stp⟩ := hrun T hT XX
  cases hv
  rw [h0] at hz hk
  obtain ⟨t2, a1, b1⟩ := kk C' M' hl' v hq T'.heap (locs ++ L) ls (by rw [e1]; exact hw)
    ⟨Nat.le_trans hS.1 (by rw [e1]; exact hz), fun q h1 h2 => by rw [e1, hk q (Nat.lt_of_lt_of_le h1 hS.1) h2]; exact hS.2.1 q h1 h2, fun q hq' => by
      rcases List.mem_append.mp hq' with h | h
      · exact hS.2.2 q h
      · exact hLf q h⟩ hL T' rfl X'
  exact ⟨t2, stp t2 a1, b1⟩
theorem g_callB {y : MethodName} {cy : ByteArray} {mL n idx : Nat} {ry : Option FieldType} {rm : Room} (X : Cx G κ cc nL own ret R) (md : MdB y cy mL ry n) (wml : Cond.methodLink own idx y ∈ bpW) (hR : Rm rm R mL) : CallB (kR κ) (ks κ) (ka κ) own idx y cy mL ry (Cond.code y cy mL ry :: bpW) rm 0 0 n := by
  obtain ⟨hx, hb, hml, hown, hts, hr, hlk, hK, hg, hRe⟩ := X
  obtain ⟨wcd, win, hd⟩ := md
  obtain ⟨r1, r2, r3, r4⟩ := hR
  have key : ∀ w ∈ (Cond.code y cy mL ry :: bpW), w ∈ bpW := fun w h => by
    rcases List.mem_cons.mp h with h | h
    · rw [h]; exact wcd
    · exact h
  refine ⟨r1, r2, by rw [hRe]; exact r3, by rw [hRe]; exact r4, fun w hw a' U hW => wd_warm (key w hw) hW (hts w (key w hw)), List.mem_cons_self, hts _ wcd, hts _ win, ⟨hd.1, hd.2.1⟩, fun sig h => ?_, hts _ wml⟩
  have h2 := hd.2.2
  rw [h] at h2
  exact (Option.some.inj h2).symm
theorem g_callN {y : MethodName} {cy : ByteArray} {mL n idx : Nat} {host : String} {ry : Option FieldType} {rm : Room} (X : Cx G κ cc nL own ret R) (md : MdB y cy mL ry n) (wml : Cond.methodLinkNest own idx y host ∈ bpW) (hR : Rm rm R mL) : va_CN (kR κ) (ks κ) (ka κ) own idx y host cy mL ry (Cond.code y cy mL ry :: bpW) rm 0 0 n := by
  obtain ⟨hx, hb, hml, hown, hts, hr, hlk, hK, hg, hRe⟩ := X
  obtain ⟨wcd, win, hd⟩ := md
  obtain ⟨r1, r2, r3, r4⟩ := hR
  have key : ∀ w ∈ (Cond.code y cy mL ry :: bpW), w ∈ bpW := fun w h => by
    rcases List.mem_cons.mp h with h | h
    · rw [h]; exact wcd
    · exact h
  refine ⟨⟨r1, r2, by rw [hRe]; exact r3, by rw [hRe]; exact r4, fun w hw a' U hW => wd_warm (key w hw) hW (hts w (key w hw)), List.mem_cons_self⟩, hts _ wcd, hts _ win, ⟨hd.1, hd.2.1⟩, fun sig h => ?_, hts _ wml⟩
  have h2 := hd.2.2
  rw [h] at h2
  exact (Option.some.inj h2).symm
theorem r_cvg {y : MethodName} {cy : ByteArray} {mL n idx : Nat} {ry : Option FieldType} {rm : Room} {As : List Value} {k i ci N : Nat} {T : u_T} {Q : bpC → bpM → Int64 → Option Value → Prop} (X : Cx G κ cc nL own ret R) (md : MdV y cy mL ry n) (wml : Cond.methodLink own idx y ∈ bpW) (hi : i < bpN k) (hO : bpO k = some (ci, N)) (hc : bpCl[ci]? = some (y.cls, T, N)) (hn : As.length = n) (hR : Rm rm R mL) (hst : (st.map fun v => v.category).sum ≤ 8) (hlv : lv.length = nL) (hroom : kn κ ≤ R.cells ∧ kS κ ≤ R.slots) (d : decode cc pc = .ok (.invokevirtual idx, 3)) (ct : Ct G y cy mL ry rm (.ref (G.1 k i) :: As) C M hl Q)
    (kk : ∀ (C' : bpC) (M' : bpM) (hl' : Int64) (v : Option Value), Q C' M' hl' v → Rn G κ (pc + 3) lv (v.toList ++ st) C' M' hl') : Rn G κ pc lv (As.reverse ++ .ref (G.1 k i) :: st) C M hl := by
  intro H locs ls hP hS hL
  have cb := g_callB X md.1 wml hR
  obtain ⟨hx, hb, hml, hown, hts, hr, hlk, hK, hg, hRe⟩ := X
  have h0 := hP k i hi
  unfold bpAt at h0
  rw [hO] at h0
  obtain ⟨cell, q1, q2, q3, q4⟩ := h0
  have hfc := (hK.1 ci _ hc).2.1
  refine g_go (a := (Value.ref (G.1 k i) :: As).toArray) hS hL ?_ kk
  exact va_runV (rest := st) (As := As) ⟨hx, hb, hml, hown, hts⟩ (ct (kl κ)) ⟨cb, hts _ md.2.1, hts _ md.2.2⟩ ⟨g_blind, ⟨cell, q1, by rw [q3]; rfl, by rw [q2]; exact hfc⟩, fun U hU hW => ⟨rfl, hg, by rw [hU]; exact hP, va_K.moved hW.alike hK⟩⟩ rfl hn (hL.1.trans hlv) rfl (lv_room hst) d ⟨by rw [hRe]; exact hroom.1, by rw [hRe]; exact hroom.2⟩
theorem r_csg {y : MethodName} {cy : ByteArray} {mL n idx : Nat} {ry : Option FieldType} {rm : Room} {As : List Value} {Q : bpC → bpM → Int64 → Option Value → Prop} (X : Cx G κ cc nL own ret R) (md : MdS y cy mL ry n) (wml : Cond.methodLink own idx y ∈ bpW) (hn : As.length = n) (hR : Rm rm R mL) (hst : (st.map fun v => v.category).sum ≤ 8) (hlv : lv.length = nL) (hroom : kn κ ≤ R.cells ∧ kS κ ≤ R.slots) (d : decode cc pc = .ok (.invokestatic idx, 3)) (ct : Ct G y cy mL ry rm As C M hl Q)
    (kk : ∀ (C' : bpC) (M' : bpM) (hl' : Int64) (v : Option Value), Q C' M' hl' v → Rn G κ (pc + 3) lv (v.toList ++ st) C' M' hl') : Rn G κ pc lv (As.reverse ++ st) C M hl := by
  intro H locs ls hP hS hL
  have cb := g_callB X md.1 wml hR
  obtain ⟨hx, hb, hml, hown, hts, hr, hlk, hK, hg, hRe⟩ := X
  refine g_go (a := As.toArray) hS hL ?_ kk
  exact va_runS (rest := st) (As := As) ⟨hx, hb, hml, hown, hts⟩ (ct (kl κ)) ⟨cb, hts _ md.2⟩ ⟨g_blind, fun U hU hW => ⟨rfl, hg, by rw [hU]; exact hP, va_K.moved hW.alike hK⟩⟩ rfl hn (hL.1.trans hlv) rfl (lv_room hst) d ⟨by rw [hRe]; exact hroom.1, by rw [hRe]; exact hroom.2⟩
/-- a static method of a nest mate -/
theorem r_csgN {y : MethodName} {cy : ByteArray} {mL n idx : Nat} {host : String} {ry : Option FieldType} {rm : Room} {As : List Value} {Q : bpC → bpM → Int64 → Option Value → Prop} (X : Cx G κ cc nL own ret R) (md : MdS y cy mL ry n) (wml : Cond.methodLinkNest own idx y host ∈ bpW) (hn : As.length = n) (hR : Rm rm R mL) (hst : (st.map fun v => v.category).sum ≤ 8) (hlv : lv.length = nL) (hroom : kn κ ≤ R.cells ∧ kS κ ≤ R.slots) (d : decode cc pc = .ok (.invokestatic idx, 3)) (ct : Ct G y cy mL ry rm As C M hl Q)
    (kk : ∀ (C' : bpC) (M' : bpM) (hl' : Int64) (v : Option Value), Q C' M' hl' v → Rn G κ (pc + 3) lv (v.toList ++ st) C' M' hl') : Rn G κ pc lv (As.reverse ++ st) C M hl := by
  intro H locs ls hP hS hL
  have cb := g_callN X md.1 wml hR
  obtain ⟨hx, hb, hml, hown, hts, hr, hlk, hK, hg, hRe⟩ := X
  refine g_go (a := As.toArray) hS hL ?_ kk
  exact va_runSN (rest := st) (As := As) ⟨hx, hb, hml, hown, hts⟩ (ct (kl κ)) ⟨cb, hts _ md.2, trivial⟩ ⟨g_blind, fun U hU hW => ⟨rfl, hg, by rw [hU]; exact hP, va_K.moved hW.alike hK⟩⟩ rfl hn (hL.1.trans hlv) rfl (lv_room hst) d ⟨by rw [hRe]; exact hroom.1, by rw [hRe]; exact hroom.2⟩

/-- what a method that only answers leaves -/
def qI (C : bpC) (M : bpM) (hl : Int64) (r : Int32) : bpC → bpM → Int64 → Option Value → Prop := fun C' M' hl' v => C' = C ∧ M' = M ∧ hl' = hl ∧ v = some (.int r)
theorem r_cv0 {y : MethodName} {cy : ByteArray} {mL idx : Nat} {ry : Option FieldType} {rm : Room} {k i ci N : Nat} {T : u_T} {Q : bpC → bpM → Int64 → Option Value → Prop} (X : Cx G κ cc nL own ret R) (md : MdV y cy mL ry 0) (wml : Cond.methodLink own idx y ∈ bpW) (d : decode cc pc = .ok (.invokevirtual idx, 3)) (hR : Rm rm R mL) (hi : i < bpN k) (hO : bpO k = some (ci, N)) (hc : bpCl[ci]? = some (y.cls, T, N)) (hst : (st.map fun v => v.category).sum ≤ 8) (hlv : lv.length = nL) (hroom : kn κ ≤ R.cells ∧ kS κ ≤ R.slots) (ct : Ct G y cy mL ry rm (.ref (G.1 k i) :: []) C M hl Q) (kk : ∀ (C' : bpC) (M' : bpM) (hl' : Int64) (v : Option Value), Q C' M' hl' v → Rn G κ (pc + 3) lv (v.toList ++ st) C' M' hl') : Rn G κ pc lv (.ref (G.1 k i) :: st) C M hl := r_cvg (As := []) X md wml hi hO hc rfl hR hst hlv hroom d ct kk
theorem r_ci0 {y : MethodName} {cy : ByteArray} {mL idx : Nat} {ry : Option FieldType} {rm : Room} {k i ci N : Nat} {T : u_T} {r : Int32} (X : Cx G κ cc nL own ret R) (md : MdV y cy mL ry 0) (wml : Cond.methodLink own idx y ∈ bpW) (d : decode cc pc = .ok (.invokevirtual idx, 3)) (hR : Rm rm R mL) (hi : i < bpN k) (hO : bpO k = some (ci, N)) (hc : bpCl[ci]? = some (y.cls, T, N)) (hst : (st.map fun v => v.category).sum ≤ 8) (hlv : lv.length = nL) (hroom : kn κ ≤ R.cells ∧ kS κ ≤ R.slots) (ct : Ct G y cy mL ry rm (.ref (G.1 k i) :: []) C M hl (qI C M hl r)) (kk : Rn G κ (pc + 3) lv (.int r :: st) C M hl) : Rn G κ pc lv (.ref (G.1 k i) :: st) C M hl := r_cv0 X md wml d hR hi hO hc hst hlv hroom ct (fun C' M' hl' v q => by obtain ⟨rfl, rfl, rfl, rfl⟩ := q; exact kk)
theorem r_cv1 {y : MethodName} {cy : ByteArray} {mL idx : Nat} {ry : Option FieldType} {rm : Room} {a0 : Value} {k i ci N : Nat} {T : u_T} {Q : bpC → bpM → Int64 → Option Value → Prop} (X : Cx G κ cc nL own ret R) (md : MdV y cy mL ry 1) (wml : Cond.methodLink own idx y ∈ bpW) (d : decode cc pc = .ok (.invokevirtual idx, 3)) (hR : Rm rm R mL) (hi : i < bpN k) (hO : bpO k = some (ci, N)) (hc : bpCl[ci]? = some (y.cls, T, N)) (hst : (st.map fun v => v.category).sum ≤ 8) (hlv : lv.length = nL) (hroom : kn κ ≤ R.cells ∧ kS κ ≤ R.slots) (ct : Ct G y cy mL ry rm (.ref (G.1 k i) :: [a0]) C M hl Q) (kk : ∀ (C' : bpC) (M' : bpM) (hl' : Int64) (v : Option Value), Q C' M' hl' v → Rn G κ (pc + 3) lv (v.toList ++ st) C' M' hl') : Rn G κ pc lv (a0 :: .ref (G.1 k i) :: st) C M hl := r_cvg (As := [a0]) X md wml hi hO hc rfl hR hst hlv hroom d ct kk
theorem r_ci1 {y : MethodName} {cy : ByteArray} {mL idx : Nat} {ry : Option FieldType} {rm : Room} {a0 : Value} {k i ci N : Nat} {T : u_T} {r : Int32} (X : Cx G κ cc nL own ret R) (md : MdV y cy mL ry 1) (wml : Cond.methodLink own idx y ∈ bpW) (d : decode cc pc = .ok (.invokevirtual idx, 3)) (hR : Rm rm R mL) (hi : i < bpN k) (hO : bpO k = some (ci, N)) (hc : bpCl[ci]? = some (y.cls, T, N)) (hst : (st.map fun v => v.category).sum ≤ 8) (hlv : lv.length = nL) (hroom : kn κ ≤ R.cells ∧ kS κ ≤ R.slots) (ct : Ct G y cy mL ry rm (.ref (G.1 k i) :: [a0]) C M hl (qI C M hl r)) (kk : Rn G κ (pc + 3) lv (.int r :: st) C M hl) : Rn G κ pc lv (a0 :: .ref (G.1 k i) :: st) C M hl := r_cv1 X md wml d hR hi hO hc hst hlv hroom ct (fun C' M' hl' v q => by obtain ⟨rfl, rfl, rfl, rfl⟩ := q; exact kk)
theorem r_cv2 {y : MethodName} {cy : ByteArray} {mL idx : Nat} {ry : Option FieldType} {rm : Room} {a0 a1 : Value} {k i ci N : Nat} {T : u_T} {Q : bpC → bpM → Int64 → Option Value → Prop} (X : Cx G κ cc nL own ret R) (md : MdV y cy mL ry 2) (wml : Cond.methodLink own idx y ∈ bpW) (d : decode cc pc = .ok (.invokevirtual idx, 3)) (hR : Rm rm R mL) (hi : i < bpN k) (hO : bpO k = some (ci, N)) (hc : bpCl[ci]? = some (y.cls, T, N)) (hst : (st.map fun v => v.category).sum ≤ 8) (hlv : lv.length = nL) (hroom : kn κ ≤ R.cells ∧ kS κ ≤ R.slots) (ct : Ct G y cy mL ry rm (.ref (G.1 k i) :: [a0, a1]) C M hl Q) (kk : ∀ (C' : bpC) (M' : bpM) (hl' : Int64) (v : Option Value), Q C' M' hl' v → Rn G κ (pc + 3) lv (v.toList ++ st) C' M' hl') : Rn G κ pc lv (a1 :: a0 :: .ref (G.1 k i) :: st) C M hl := r_cvg (As := [a0, a1]) X md wml hi hO hc rfl hR hst hlv hroom d ct kk
theorem r_ci2 {y : MethodName} {cy : ByteArray} {mL idx : Nat} {ry : Option FieldType} {rm : Room} {a0 a1 : Value} {k i ci N : Nat} {T : u_T} {r : Int32} (X : Cx G κ cc nL own ret R) (md : MdV y cy mL ry 2) (wml : Cond.methodLink own idx y ∈ bpW) (d : decode cc pc = .ok (.invokevirtual idx, 3)) (hR : Rm rm R mL) (hi : i < bpN k) (hO : bpO k = some (ci, N)) (hc : bpCl[ci]? = some (y.cls, T, N)) (hst : (st.map fun v => v.category).sum ≤ 8) (hlv : lv.length = nL) (hroom : kn κ ≤ R.cells ∧ kS κ ≤ R.slots) (ct : Ct G y cy mL ry rm (.ref (G.1 k i) :: [a0, a1]) C M hl (qI C M hl r)) (kk : Rn G κ (pc + 3) lv (.int r :: st) C M hl) : Rn G κ pc lv (a1 :: a0 :: .ref (G.1 k i) :: st) C M hl := r_cv2 X md wml d hR hi hO hc hst hlv hroom ct (fun C' M' hl' v q => by obtain ⟨rfl, rfl, rfl, rfl⟩ := q; exact kk)
theorem r_cv3 {y : MethodName} {cy : ByteArray} {mL idx : Nat} {ry : Option FieldType} {rm : Room} {a0 a1 a2 : Value} {k i ci N : Nat} {T : u_T} {Q : bpC → bpM → Int64 → Option Value → Prop} (X : Cx G κ cc nL own ret R) (md : MdV y cy mL ry 3) (wml : Cond.methodLink own idx y ∈ bpW) (d : decode cc pc = .ok (.invokevirtual idx, 3)) (hR : Rm rm R mL) (hi : i < bpN k) (hO : bpO k = some (ci, N)) (hc : bpCl[ci]? = some (y.cls, T, N)) (hst : (st.map fun v => v.category).sum ≤ 8) (hlv : lv.length = nL) (hroom : kn κ ≤ R.cells ∧ kS κ ≤ R.slots) (ct : Ct G y cy mL ry rm (.ref (G.1 k i) :: [a0, a1, a2]) C M hl Q) (kk : ∀ (C' : bpC) (M' : bpM) (hl' : Int64) (v : Option Value), Q C' M' hl' v → Rn G κ (pc + 3) lv (v.toList ++ st) C' M' hl') : Rn G κ pc lv (a2 :: a1 :: a0 :: .ref (G.1 k i) :: st) C M hl := r_cvg (As := [a0, a1, a2]) X md wml hi hO hc rfl hR hst hlv hroom d ct kk
theorem r_ci3 {y : MethodName} {cy : ByteArray} {mL idx : Nat} {ry : Option FieldType} {rm : Room} {a0 a1 a2 : Value} {k i ci N : Nat} {T : u_T} {r : Int32} (X : Cx G κ cc nL own ret R) (md : MdV y cy mL ry 3) (wml : Cond.methodLink own idx y ∈ bpW) (d : decode cc pc = .ok (.invokevirtual idx, 3)) (hR : Rm rm R mL) (hi : i < bpN k) (hO : bpO k = some (ci, N)) (hc : bpCl[ci]? = some (y.cls, T, N)) (hst : (st.map fun v => v.category).sum ≤ 8) (hlv : lv.length = nL) (hroom : kn κ ≤ R.cells ∧ kS κ ≤ R.slots) (ct : Ct G y cy mL ry rm (.ref (G.1 k i) :: [a0, a1, a2]) C M hl (qI C M hl r)) (kk : Rn G κ (pc + 3) lv (.int r :: st) C M hl) : Rn G κ pc lv (a2 :: a1 :: a0 :: .ref (G.1 k i) :: st) C M hl := r_cv3 X md wml d hR hi hO hc hst hlv hroom ct (fun C' M' hl' v q => by obtain ⟨rfl, rfl, rfl, rfl⟩ := q; exact kk)
theorem r_cv4 {y : MethodName} {cy : ByteArray} {mL idx : Nat} {ry : Option FieldType} {rm : Room} {a0 a1 a2 a3 : Value} {k i ci N : Nat} {T : u_T} {Q : bpC → bpM → Int64 → Option Value → Prop} (X : Cx G κ cc nL own ret R) (md : MdV y cy mL ry 4) (wml : Cond.methodLink own idx y ∈ bpW) (d : decode cc pc = .ok (.invokevirtual idx, 3)) (hR : Rm rm R mL) (hi : i < bpN k) (hO : bpO k = some (ci, N)) (hc : bpCl[ci]? = some (y.cls, T, N)) (hst : (st.map fun v => v.category).sum ≤ 8) (hlv : lv.length = nL) (hroom : kn κ ≤ R.cells ∧ kS κ ≤ R.slots) (ct : Ct G y cy mL ry rm (.ref (G.1 k i) :: [a0, a1, a2, a3]) C M hl Q) (kk : ∀ (C' : bpC) (M' : bpM) (hl' : Int64) (v : Option Value), Q C' M' hl' v → Rn G κ (pc + 3) lv (v.toList ++ st) C' M' hl') : Rn G κ pc lv (a3 :: a2 :: a1 :: a0 :: .ref (G.1 k i) :: st) C M hl := r_cvg (As := [a0, a1, a2, a3]) X md wml hi hO hc rfl hR hst hlv hroom d ct kk
theorem r_ci4 {y : MethodName} {cy : ByteArray} {mL idx : Nat} {ry : Option FieldType} {rm : Room} {a0 a1 a2 a3 : Value} {k i ci N : Nat} {T : u_T} {r : Int32} (X : Cx G κ cc nL own ret R) (md : MdV y cy mL ry 4) (wml : Cond.methodLink own idx y ∈ bpW) (d : decode cc pc = .ok (.invokevirtual idx, 3)) (hR : Rm rm R mL) (hi : i < bpN k) (hO : bpO k = some (ci, N)) (hc : bpCl[ci]? = some (y.cls, T, N)) (hst : (st.map fun v => v.category).sum ≤ 8) (hlv : lv.length = nL) (hroom : kn κ ≤ R.cells ∧ kS κ ≤ R.slots) (ct : Ct G y cy mL ry rm (.ref (G.1 k i) :: [a0, a1, a2, a3]) C M hl (qI C M hl r)) (kk : Rn G κ (pc + 3) lv (.int r :: st) C M hl) : Rn G κ pc lv (a3 :: a2 :: a1 :: a0 :: .ref (G.1 k i) :: st) C M hl := r_cv4 X md wml d hR hi hO hc hst hlv hroom ct (fun C' M' hl' v q => by obtain ⟨rfl, rfl, rfl, rfl⟩ := q; exact kk)
theorem r_cs1 {y : MethodName} {cy : ByteArray} {mL idx : Nat} {ry : Option FieldType} {rm : Room} {a0 : Value} {Q : bpC → bpM → Int64 → Option Value → Prop} (X : Cx G κ cc nL own ret R) (md : MdS y cy mL ry 1) (wml : Cond.methodLink own idx y ∈ bpW) (d : decode cc pc = .ok (.invokestatic idx, 3)) (hR : Rm rm R mL) (hst : (st.map fun v => v.category).sum ≤ 8) (hlv : lv.length = nL) (hroom : kn κ ≤ R.cells ∧ kS κ ≤ R.slots) (ct : Ct G y cy mL ry rm [a0] C M hl Q) (kk : ∀ (C' : bpC) (M' : bpM) (hl' : Int64) (v : Option Value), Q C' M' hl' v → Rn G κ (pc + 3) lv (v.toList ++ st) C' M' hl') : Rn G κ pc lv (a0 :: st) C M hl := r_csg (As := [a0]) X md wml rfl hR hst hlv hroom d ct kk
theorem r_csi1 {y : MethodName} {cy : ByteArray} {mL idx : Nat} {ry : Option FieldType} {rm : Room} {a0 : Value} {r : Int32} (X : Cx G κ cc nL own ret R) (md : MdS y cy mL ry 1) (wml : Cond.methodLink own idx y ∈ bpW) (d : decode cc pc = .ok (.invokestatic idx, 3)) (hR : Rm rm R mL) (hst : (st.map fun v => v.category).sum ≤ 8) (hlv : lv.length = nL) (hroom : kn κ ≤ R.cells ∧ kS κ ≤ R.slots) (ct : Ct G y cy mL ry rm [a0] C M hl (qI C M hl r)) (kk : Rn G κ (pc + 3) lv (.int r :: st) C M hl) : Rn G κ pc lv (a0 :: st) C M hl := r_cs1 X md wml d hR hst hlv hroom ct (fun C' M' hl' v q => by obtain ⟨rfl, rfl, rfl, rfl⟩ := q; exact kk)
theorem r_cs2 {y : MethodName} {cy : ByteArray} {mL idx : Nat} {ry : Option FieldType} {rm : Room} {a0 a1 : Value} {Q : bpC → bpM → Int64 → Option Value → Prop} (X : Cx G κ cc nL own ret R) (md : MdS y cy mL ry 2) (wml : Cond.methodLink own idx y ∈ bpW) (d : decode cc pc = .ok (.invokestatic idx, 3)) (hR : Rm rm R mL) (hst : (st.map fun v => v.category).sum ≤ 8) (hlv : lv.length = nL) (hroom : kn κ ≤ R.cells ∧ kS κ ≤ R.slots) (ct : Ct G y cy mL ry rm [a0, a1] C M hl Q) (kk : ∀ (C' : bpC) (M' : bpM) (hl' : Int64) (v : Option Value), Q C' M' hl' v → Rn G κ (pc + 3) lv (v.toList ++ st) C' M' hl') : Rn G κ pc lv (a1 :: a0 :: st) C M hl := r_csg (As := [a0, a1]) X md wml rfl hR hst hlv hroom d ct kk
theorem r_csi2 {y : MethodName} {cy : ByteArray} {mL idx : Nat} {ry : Option FieldType} {rm : Room} {a0 a1 : Value} {r : Int32} (X : Cx G κ cc nL own ret R) (md : MdS y cy mL ry 2) (wml : Cond.methodLink own idx y ∈ bpW) (d : decode cc pc = .ok (.invokestatic idx, 3)) (hR : Rm rm R mL) (hst : (st.map fun v => v.category).sum ≤ 8) (hlv : lv.length = nL) (hroom : kn κ ≤ R.cells ∧ kS κ ≤ R.slots) (ct : Ct G y cy mL ry rm [a0, a1] C M hl (qI C M hl r)) (kk : Rn G κ (pc + 3) lv (.int r :: st) C M hl) : Rn G κ pc lv (a1 :: a0 :: st) C M hl := r_cs2 X md wml d hR hst hlv hroom ct (fun C' M' hl' v q => by obtain ⟨rfl, rfl, rfl, rfl⟩ := q; exact kk)
theorem r_cs3 {y : MethodName} {cy : ByteArray} {mL idx : Nat} {ry : Option FieldType} {rm : Room} {a0 a1 a2 : Value} {Q : bpC → bpM → Int64 → Option Value → Prop} (X : Cx G κ cc nL own ret R) (md : MdS y cy mL ry 3) (wml : Cond.methodLink own idx y ∈ bpW) (d : decode cc pc = .ok (.invokestatic idx, 3)) (hR : Rm rm R mL) (hst : (st.map fun v => v.category).sum ≤ 8) (hlv : lv.length = nL) (hroom : kn κ ≤ R.cells ∧ kS κ ≤ R.slots) (ct : Ct G y cy mL ry rm [a0, a1, a2] C M hl Q) (kk : ∀ (C' : bpC) (M' : bpM) (hl' : Int64) (v : Option Value), Q C' M' hl' v → Rn G κ (pc + 3) lv (v.toList ++ st) C' M' hl') : Rn G κ pc lv (a2 :: a1 :: a0 :: st) C M hl := r_csg (As := [a0, a1, a2]) X md wml rfl hR hst hlv hroom d ct kk
theorem r_csi3 {y : MethodName} {cy : ByteArray} {mL idx : Nat} {ry : Option FieldType} {rm : Room} {a0 a1 a2 : Value} {r : Int32} (X : Cx G κ cc nL own ret R) (md : MdS y cy mL ry 3) (wml : Cond.methodLink own idx y ∈ bpW) (d : decode cc pc = .ok (.invokestatic idx, 3)) (hR : Rm rm R mL) (hst : (st.map fun v => v.category).sum ≤ 8) (hlv : lv.length = nL) (hroom : kn κ ≤ R.cells ∧ kS κ ≤ R.slots) (ct : Ct G y cy mL ry rm [a0, a1, a2] C M hl (qI C M hl r)) (kk : Rn G κ (pc + 3) lv (.int r :: st) C M hl) : Rn G κ pc lv (a2 :: a1 :: a0 :: st) C M hl := r_cs3 X md wml d hR hst hlv hroom ct (fun C' M' hl' v q => by obtain ⟨rfl, rfl, rfl, rfl⟩ := q; exact kk)
theorem r_csN1 {y : MethodName} {cy : ByteArray} {mL idx : Nat} {host : String} {ry : Option FieldType} {rm : Room} {a0 : Value} {Q : bpC → bpM → Int64 → Option Value → Prop} (X : Cx G κ cc nL own ret R) (md : MdS y cy mL ry 1) (wml : Cond.methodLinkNest own idx y host ∈ bpW) (d : decode cc pc = .ok (.invokestatic idx, 3)) (hR : Rm rm R mL) (hst : (st.map fun v => v.category).sum ≤ 8) (hlv : lv.length = nL) (hroom : kn κ ≤ R.cells ∧ kS κ ≤ R.slots) (ct : Ct G y cy mL ry rm [a0] C M hl Q) (kk : ∀ (C' : bpC) (M' : bpM) (hl' : Int64) (v : Option Value), Q C' M' hl' v → Rn G κ (pc + 3) lv (v.toList ++ st) C' M' hl') : Rn G κ pc lv (a0 :: st) C M hl := r_csgN (As := [a0]) X md wml rfl hR hst hlv hroom d ct kk
theorem r_csN1_I {y : MethodName} {cy : ByteArray} {mL idx : Nat} {host : String} {ry : Option FieldType} {rm : Room} {a0 : Value} {r : Int32} (X : Cx G κ cc nL own ret R) (md : MdS y cy mL ry 1) (wml : Cond.methodLinkNest own idx y host ∈ bpW) (d : decode cc pc = .ok (.invokestatic idx, 3)) (hR : Rm rm R mL) (hst : (st.map fun v => v.category).sum ≤ 8) (hlv : lv.length = nL) (hroom : kn κ ≤ R.cells ∧ kS κ ≤ R.slots) (ct : Ct G y cy mL ry rm [a0] C M hl (qI C M hl r)) (kk : Rn G κ (pc + 3) lv (.int r :: st) C M hl) : Rn G κ pc lv (a0 :: st) C M hl := r_csN1 X md wml d hR hst hlv hroom ct (fun C' M' hl' v q => by obtain ⟨rfl, rfl, rfl, rfl⟩ := q; exact kk)
/-- ends -/
theorem r_iret {v : Int32} {Q : bpC → bpM → Int64 → Option Value → Prop} (X : Cx G κ cc nL own (some .int) R) (Z : Zx G κ Q) (d : decode cc pc = .ok (.ireturn, 1)) (q : Q C M hl (some (.int v))) : Rn G κ pc lv [.int v] C M hl := by
  intro H locs ls hP hS hL
  obtain ⟨hx, hb, hml, hown, hts, hr, hlk, hK, hg, hRe⟩ := X
  obtain ⟨z1, z2, z3⟩ := Z
  rw [z1, z2, z3]
  exact W.iret hx hb hr (fun t ht hW => ⟨⟨_, C, M, hl, rfl, q, by rw [ht]; exact hP⟩, hS.F ht⟩) hS.2.2 d hlk
theorem r_zret {v : Int32} {Q : bpC → bpM → Int64 → Option Value → Prop} (X : Cx G κ cc nL own (some .boolean) R) (Z : Zx G κ Q) (d : decode cc pc = .ok (.ireturn, 1)) (hz : v = 0 ∨ v = 1) (q : Q C M hl (some (.int v))) : Rn G κ pc lv [.int v] C M hl := by
  intro H locs ls hP hS hL
  obtain ⟨hx, hb, hml, hown, hts, hr, hlk, hK, hg, hRe⟩ := X
  obtain ⟨z1, z2, z3⟩ := Z
  rw [z1, z2, z3]
  exact W.zret hx hb hr (by rcases hz with rfl | rfl <;> decide) (fun t ht hW => ⟨⟨_, C, M, hl, rfl, q, by rw [ht]; exact hP⟩, hS.F ht⟩) hS.2.2 d hlk
theorem r_lret {v : Int64} {Q : bpC → bpM → Int64 → Option Value → Prop} (X : Cx G κ cc nL own (some .long) R) (Z : Zx G κ Q) (d : decode cc pc = .ok (.lreturn, 1)) (q : Q C M hl (some (.long v))) : Rn G κ pc lv [.long v] C M hl := by
  intro H locs ls hP hS hL
  obtain ⟨hx, hb, hml, hown, hts, hr, hlk, hK, hg, hRe⟩ := X
  obtain ⟨z1, z2, z3⟩ := Z
  rw [z1, z2, z3]
  exact W.lret hx hb hr (fun t ht hW => ⟨⟨_, C, M, hl, rfl, q, by rw [ht]; exact hP⟩, hS.F ht⟩) hS.2.2 d hlk
theorem r_vret {Q : bpC → bpM → Int64 → Option Value → Prop} (X : Cx G κ cc nL own none R) (Z : Zx G κ Q) (d : decode cc pc = .ok (.return_, 1)) (q : Q C M hl none) : Rn G κ pc lv [] C M hl := by
  intro H locs ls hP hS hL
  obtain ⟨hx, hb, hml, hown, hts, hr, hlk, hK, hg, hRe⟩ := X
  obtain ⟨z1, z2, z3⟩ := Z
  rw [z1, z2, z3]
  exact W.vret hx hb hr (fun t ht hW => ⟨⟨_, C, M, hl, rfl, q, by rw [ht]; exact hP⟩, hS.F ht⟩) hS.2.2 d hlk
theorem zroom {Q : bpC → bpM → Int64 → Option Value → Prop} (Z : Zx G κ Q) : kn κ ≤ R.cells ∧ kS κ ≤ R.slots := ⟨by rw [Z.1]; exact Nat.zero_le _, by rw [Z.2.1]; exact Nat.zero_le _⟩
end MEM
/-- a contract out of a walk -/
theorem ct_of {G : bpG} {y : MethodName} {cy : ByteArray} {mL : Nat} {ry : Option FieldType} {rm : Room} {args : List Value} {C : bpC} {M : bpM} {hl : Int64} {Q : bpC → bpM → Int64 → Option Value → Prop} (lv0 : List (Option Value)) (hy : plainName y.cls = true) (hlen : lv0.length = mL) (hlv : asc 0 lv0 = lv_args 0 args) (hsl : (lg_sl args).length ≤ mL)
    (body : ∀ κ : bpK, Cx G κ cy mL y.cls ry rm → Zx G κ Q → Rn G κ 0 lv0 [] C M hl) : Ct G y cy mL ry rm args C M hl Q := by
  intro l
  refine Met.ofW (cc := cy) (maxL := mL) (ret := ry) hy rfl ?_
  intro p e s m as below meth c s1 B hml hv
  obtain ⟨rfl, hg, hP, hK⟩ := hv
  have hts := atoms_spec (ws := Cond.code y cy mL ry :: bpW) B.pre
  have hown : s.vm.findClass y.cls = some m.cls := findClass_of_methodNamed B.named
  have hl0 := lv_entry args (n := mL) hsl
  rw [lg_entry_eq]
  refine body (p, l, e, rm, s, m, args.toArray, below, meth, c, 0, 0, MQ below (Qm G Q) args.toArray s 0 0 (bpA G)) ⟨B.exec, B.bytes, hml, hown, fun w h => hts w (List.mem_cons_of_mem _ h), B.returns, B.notSynchronized, hK, hg, rfl⟩ ⟨rfl, rfl, rfl⟩ s.heap [] _ hP va_S.rf ?_
  unfold lvs
  rw [hlen, hlv]
  exact hl0
