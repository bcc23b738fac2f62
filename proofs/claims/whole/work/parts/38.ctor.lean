/-! the constructors: the cells from b on, by their distance from b -/
abbrev Cn : Type := (Nat ⊕ Nat) × Nat × (Nat → Value)
abbrev cwT : Type := Nat → Cn
def cAt (G : bpG) (q : Nat) (x : Cn) (H : Heap) : Prop := match x.1 with
  | .inl ci => t_OB q (G.2.1.1 ci) x.2.1 (G.2.1.2 ci) H x.2.2
  | .inr t => H[q]? = some (arrV (G.2.2 t) x.2.1 x.2.2)
def HW (G : bpG) (b n : Nat) (w : cwT) (H : Heap) : Prop := H.size = b + n ∧ ∀ q, q < n → cAt G (b + q) (w q) H
def ww (w : cwT) (q : Nat) (x : Cn) : cwT := fun j => if j = q then x else w j
theorem ww_at (w : cwT) (q : Nat) (x : Cn) : ww w q x q = x := by simp [ww]
theorem ww_ne (w : cwT) {q j : Nat} (x : Cn) (h : j ≠ q) : ww w q x j = w j := by simp [ww, h]
theorem cAt.kept {G : bpG} {q : Nat} {x : Cn} {H H1 : Heap} (h : cAt G q x H) (e : H1[q]? = H[q]?) : cAt G q x H1 := by
  obtain ⟨k, r⟩ := x
  cases k with
  | inl ci => exact t_OB.kept h e
  | inr t => exact e.trans h
theorem HW.push {G : bpG} {b n : Nat} {w : cwT} {x : Cn} {H H1 : Heap} (h : HW G b n w H) (z : H1.size = b + n + 1) (o : ∀ q, q < b + n → H1[q]? = H[q]?) (e : cAt G (b + n) x H1) : HW G b (n + 1) (ww w n x) H1 := by
  refine ⟨by rw [z]; omega, fun q hq => ?_⟩
  by_cases hn : q = n
  · subst hn
    rw [ww_at]
    exact e
  · rw [ww_ne _ _ hn]
    exact (h.2 q (by omega)).kept (o _ (by omega))
theorem HW.put {G : bpG} {b n k : Nat} {w : cwT} {x : Cn} {H H1 : Heap} (h : HW G b n w H) (z : H1.size = H.size) (o : ∀ q, q ≠ b + k → H1[q]? = H[q]?) (e : cAt G (b + k) x H1) : HW G b n (ww w k x) H1 := by
  refine ⟨by rw [z]; exact h.1, fun q hq => ?_⟩
  by_cases hn : q = k
  · subst hn
    rw [ww_at]
    exact e
  · rw [ww_ne _ _ hn]
    exact (h.2 q hq).kept (o _ (by omega))
theorem cAt_ob {G : bpG} {q ci N : Nat} {f : Nat → Value} {x : Cn} {H : Heap} (h : cAt G q x H) (e : x = (.inl ci, N, f)) : t_OB q (G.2.1.1 ci) N (G.2.1.2 ci) H f := by subst e; exact h
theorem cAt_ar {G : bpG} {q t N : Nat} {f : Nat → Value} {x : Cn} {H : Heap} (h : cAt G q x H) (e : x = (.inr t, N, f)) : H[q]? = some (arrV (G.2.2 t) N f) := by subst e; exact h
/-- words that only the constructors need -/
def bpX (U : State) : Prop := va_Nw (.methodLinkNest RX4 9 yX1_init RX4) U ∧ va_Nw (.methodLinkNest RX4 50 yX2_init RX4) U ∧ va_Nw (.methodLinkNest RX2 11 yX3_init RX4) U ∧ va_Nw (.methodLinkNest RX4 51 yX0_init RX4) U ∧ va_AO "BoundPorts$Port" U ∧ va_AO "BoundPorts$Flow" U
theorem bpX.warm {s U : State} (hW : s.WarmedH U.vm) (h : bpX s) : bpX U := ⟨va_Nw.warmM hW h.1, va_Nw.warmM hW h.2.1, va_Nw.warmM hW h.2.2.1, va_Nw.warmM hW h.2.2.2.1, va_AO.moved hW.alike h.2.2.2.2.1, va_AO.moved hW.alike h.2.2.2.2.2⟩
theorem bpX.eqvm {s U : State} (e : s.vm = U.vm) (h : bpX s) : bpX U := ⟨va_tabs rfl e h.1, va_tabs rfl e h.2.1, va_tabs rfl e h.2.2.1, va_tabs rfl e h.2.2.2.1, va_AO.moved (by rw [e]; exact Vm.Alike.refl U.vm) h.2.2.2.2.1, va_AO.moved (by rw [e]; exact Vm.Alike.refl U.vm) h.2.2.2.2.2⟩
def bpB (b : Nat) : Nat → Prop := fun q => b ≤ q ∧ q < b + 75
def Rc (G : bpG) (κ : bpK) (b pc : Nat) (lv : List (Option Value)) (st : List Value) (n : Nat) (w : cwT) (cn sn : Nat) : Prop :=
  ∀ (H : Heap) (locs : List Loc) (ls : Array Slot), HW G b n w H → va_S (bpB b) (ks κ).heap H locs → lvs ls lv → W (kp κ) (kl κ) (ke κ) (kR κ) (ks κ) (km κ) (ka κ) (kb κ) (kM κ) (kc κ) H locs cn sn (kQ κ) (F0 (km κ) pc ls st)
def Cy (G : bpG) (κ : bpK) (cc : ByteArray) (nL : Nat) (own : String) (R : Room) : Prop :=
  (kp κ).tables.exec = Jvm.exec ∧ (kc κ).code = cc ∧ (kc κ).maxLocals = nL ∧ (ks κ).vm.findClass own = some (km κ).cls ∧ (∀ w ∈ bpW, w.before (ka κ) (ks κ) = true) ∧ va_K G.2.1 bpCl (bpT G) (ks κ) ∧ bpX (ks κ) ∧ kR κ = R
/-- a constructor's contract -/
def Cc (G : bpG) (y : MethodName) (cy : ByteArray) (mL : Nat) (rm : Room) (b a n n' : Nat) (w w' : cwT) : Prop :=
  ∀ l : Launch, Met l y (Cond.code y cy mL none :: bpW) rm (va_Pc [.ref (b + a)] (fun U => HW G b n w U.heap ∧ va_K G.2.1 bpCl (bpT G) U ∧ bpX U)) (va_Qv (fun _ : Unit => True) (fun _ t => HW G b n' w' t.heap) (bpB b)) rm.cells rm.slots (bpB b)
theorem va_S.grow {A : Nat → Prop} {H0 H H1 : Heap} {locs : List Loc} (h : va_S A H0 H locs) (z : H.size ≤ H1.size) (o : ∀ q, q < H.size → H1[q]? = H[q]?) : va_S A H0 H1 locs :=
  ⟨Nat.le_trans h.1 z, fun q h1 h2 => (o q (Nat.lt_of_lt_of_le h1 h.1)).trans (h.2.1 q h1 h2), h.2.2⟩
section CTR
variable {G : bpG} {κ : bpK} {cc : ByteArray} {nL : Nat} {own : String} {R : Room} {b pc : Nat} {lv : List (Option Value)} {st : List Value} {n : Nat} {w : cwT} {cn sn : Nat}
theorem Rc.eqw {w' : cwT} (h : w = w') (k : Rc G κ b pc lv st n w' cn sn) : Rc G κ b pc lv st n w cn sn := h ▸ k
theorem k_al {f : Fin 4} {x : Nat} (X : Cy G κ cc nL own R) (d : decode cc pc = .ok (.aload_n f, 1)) (hv : lv[(f : Nat)]? = some (some (.ref x))) (k : Rc G κ b (pc + 1) lv (.ref x :: st) n w cn sn) : Rc G κ b pc lv st n w cn sn := fun H locs ls hP hS hL => lv_aload_n X.1 X.2.1 d rfl (lvs_get hL hv) (k H locs ls hP hS hL)
theorem k_il {f : Fin 4} {x : Int32} (X : Cy G κ cc nL own R) (d : decode cc pc = .ok (.iload_n f, 1)) (hv : lv[(f : Nat)]? = some (some (.int x))) (k : Rc G κ b (pc + 1) lv (.int x :: st) n w cn sn) : Rc G κ b pc lv st n w cn sn := fun H locs ls hP hS hL => lv_iload_n X.1 X.2.1 d rfl (lvs_get hL hv) (k H locs ls hP hS hL)
theorem k_iconst {i : Int} (v : Int32) (X : Cy G κ cc nL own R) (d : decode cc pc = .ok (.iconst i, 1)) (hv : Int32.ofInt i = v) (k : Rc G κ b (pc + 1) lv (.int v :: st) n w cn sn) : Rc G κ b pc lv st n w cn sn := fun H locs ls hP hS hL => lv_iconst X.1 X.2.1 d hv (k H locs ls hP hS hL)
theorem k_bipush {i : Int} (v : Int32) (X : Cy G κ cc nL own R) (d : decode cc pc = .ok (.bipush i, 2)) (hv : (Int8.ofInt i).toInt32 = v) (k : Rc G κ b (pc + 2) lv (.int v :: st) n w cn sn) : Rc G κ b pc lv st n w cn sn := fun H locs ls hP hS hL => lv_bipush X.1 X.2.1 d hv (k H locs ls hP hS hL)
theorem k_sipush {i : Int} (v : Int32) (X : Cy G κ cc nL own R) (d : decode cc pc = .ok (.sipush i, 3)) (hv : (Int16.ofInt i).toInt32 = v) (k : Rc G κ b (pc + 3) lv (.int v :: st) n w cn sn) : Rc G κ b pc lv st n w cn sn := fun H locs ls hP hS hL => lv_sipush X.1 X.2.1 d hv (k H locs ls hP hS hL)
theorem k_dup {v : Value} (X : Cy G κ cc nL own R) (d : decode cc pc = .ok (.dup, 1)) (hv : v.category = 1) (k : Rc G κ b (pc + 1) lv (v :: v :: st) n w cn sn) : Rc G κ b pc lv (v :: st) n w cn sn := fun H locs ls hP hS hL => lv_dup X.1 X.2.1 d hv (k H locs ls hP hS hL)
theorem k_goto {off : Int} (tgt : Nat) (X : Cy G κ cc nL own R) (d : decode cc pc = .ok (.goto off, 3)) (ht : (pc : Int) + off = (tgt : Int)) (k : Rc G κ b tgt lv st n w cn sn) : Rc G κ b pc lv st n w cn sn := fun H locs ls hP hS hL => lv_goto X.1 X.2.1 d ht (k H locs ls hP hS hL)
theorem k_icmpge {x y : Int32} {off : Int} (tgt : Nat) (X : Cy G κ cc nL own R) (d : decode cc pc = .ok (.if_icmp .ge off, 3)) (ht : (pc : Int) + off = (tgt : Int)) (kt : y ≤ x → Rc G κ b tgt lv st n w cn sn) (kf : ¬ y ≤ x → Rc G κ b (pc + 3) lv st n w cn sn) : Rc G κ b pc lv (.int y :: .int x :: st) n w cn sn := fun H locs ls hP hS hL => lv_icmp_ge X.1 X.2.1 d ht (fun c => kt c H locs ls hP hS hL) (fun c => kf c H locs ls hP hS hL)
theorem k_ist {f : Fin 4} {x : Int32} {lv' : List (Option Value)} (X : Cy G κ cc nL own R) (d : decode cc pc = .ok (.istore_n f, 1)) (hn : nolong lv f = true) (hi : (f : Nat) < lv.length) (hs : lv' = lv.set f (some (.int x))) (k : Rc G κ b (pc + 1) lv' st n w cn sn) : Rc G κ b pc lv (.int x :: st) n w cn sn := fun H locs ls hP hS hL => lv_istore_n X.1 X.2.1 d rfl hL hi rfl (fun ls' hL' => k H locs ls' hP hS (lvs_set hn hs hi hL'))
theorem k_ast {f : Fin 4} {x : Nat} {lv' : List (Option Value)} (X : Cy G κ cc nL own R) (d : decode cc pc = .ok (.astore_n f, 1)) (hn : nolong lv f = true) (hi : (f : Nat) < lv.length) (hs : lv' = lv.set f (some (.ref x))) (k : Rc G κ b (pc + 1) lv' st n w cn sn) : Rc G κ b pc lv (.ref x :: st) n w cn sn := fun H locs ls hP hS hL => lv_astore_n X.1 X.2.1 d rfl hL hi rfl (fun ls' hL' => k H locs ls' hP hS (lvs_set hn hs hi hL'))
theorem k_obj {idx a : Nat} (X : Cy G κ cc nL own R) (wml : Cond.methodLink own idx objectInit ∈ bpW) (d : decode cc pc = .ok (.invokespecial idx, 3)) (hlv : lv.length = nL) (hf : 1 ≤ R.frames) (hst : (st.map fun v => v.category).sum ≤ 8) (hl : 20 ≤ R.locals) (k : Rc G κ b (pc + 3) lv st n w cn sn) : Rc G κ b pc lv (.ref a :: st) n w cn sn := by
  intro H locs ls hP hS hL
  obtain ⟨hx, hb, hml, hown, hts, hK, hX, hR⟩ := X
  refine W.objInit hx hb hown (hts _ wml) (hts _ wim_obj) (hts _ wcd_obj) rfl (by rw [hml, ← hlv]; exact hL.1) rfl d (by rw [hR]; exact hf) ?_ (k H locs ls hP hS hL)
  have := @lv_room (km κ) pc ls (.ref a :: st) st hst
  rw [hR]
  omega
theorem k_newa (t N : Nat) {atype : ArrayType} {ty : FieldType} {x : Int32} (X : Cy G κ cc nL own R) (hty : newarray.typeOf atype = ty) (hw : Cond.arrayClass ty ∈ bpW) (hT : (bpT G)[t]? = some (G.2.2 t, ty)) (hra : ∀ (U : State) (c : ClassId), va_RA U c ty → U.vm.findClass ("[" ++ ty.toString) = some c) (d : decode cc pc = .ok (.newarray atype, 2)) (hn : ¬ x < 0) (hN : x.toNatClampNeg = N) (hby : N * componentBytes ty ≤ 536870912) (hc : cn + 1 ≤ R.cells) (hs : sn + N ≤ R.slots)
    (k : Rc G κ b (pc + 2) lv (.ref (b + n) :: st) (n + 1) (ww w n (.inr t, N, fun _ => defaultValue ty)) (cn + 1) (sn + N)) : Rc G κ b pc lv (.int x :: st) n w cn sn := by
  intro H locs ls hP hS hL
  obtain ⟨hx, hb, hml, hown, hts, hK, hX, hR⟩ := X
  subst hty
  refine va_newaK hx hb (hts _ hw) rfl d rfl hn hN hby (by rw [hR]; exact hc) (by rw [hR]; exact hs) hP.1 fun H1 cA e1 z1 o1 hAr hNm => ?_
  have e : cA = G.2.2 t := Option.some.inj (hNm.symm.trans (hra _ _ (hK.2 t _ hT).2))
  subst e
  exact k H1 locs ls (hP.push z1 o1 e1) (hS.grow (by rw [z1, hP.1]; omega) (fun q hq => o1 q (by rw [← hP.1]; exact hq))) hL
theorem k_new (ci : Nat) {N idx : Nat} {Cl : String} {T : u_T} {ty0 : Nat → FieldType} (X : Cy G κ cc nL own R) (hc : bpCl[ci]? = some (Cl, T, N)) (hla : ∀ w ∈ u_ws Cl T N, w ∈ bpW) (hty : ∀ k, k < N → parseFieldDescriptor (T k).2.2.1 = some (ty0 k)) (wcl : Cond.classLink own idx Cl ∈ bpW) (wis : Cond.instantiable Cl N ∈ bpW) (win : Cond.initialized Cl ∈ bpW) (d : decode cc pc = .ok (.new idx, 3)) (hcl : cn + 1 ≤ R.cells) (hs : sn + N ≤ R.slots)
    (k : Rc G κ b (pc + 3) lv (.ref (b + n) :: st) (n + 1) (ww w n (.inl ci, N, fun j => defaultValue (ty0 j))) (cn + 1) (sn + N)) : Rc G κ b pc lv st n w cn sn := by
  intro H locs ls hP hS hL
  obtain ⟨hx, hb, hml, hown, hts, hK, hX, hR⟩ := X
  have hKn := hK.1 ci _ hc
  refine W.newcK hx hb hown (hts _ wcl) (hts _ wis) (hts _ win) rfl d (by rw [hR]; exact hcl) (by rw [hR]; exact hs) hKn.2.1 hP.1 fun H1 kC hkC e1 z1 o1 => ?_
  exact k H1 locs ls (hP.push z1 o1 (u_born ty0 hts hla hKn hkC e1 hty)) (hS.grow (by rw [z1, hP.1]; omega) (fun q hq => o1 q (by rw [← hP.1]; exact hq))) hL
theorem k_anew (t N : Nat) {idx : Nat} {Cl : String} {x : Int32} (X : Cy G κ cc nL own R) (hao : bpX (ks κ) → va_AO Cl (ks κ)) (wcl : Cond.classLink own idx Cl ∈ bpW) (hT : (bpT G)[t]? = some (G.2.2 t, .object Cl)) (d : decode cc pc = .ok (.anewarray idx, 3)) (hn : ¬ x < 0) (hN : x.toNatClampNeg = N) (hby : N * 4 ≤ 536870912) (hc : cn + 1 ≤ R.cells) (hs : sn + N ≤ R.slots)
    (k : Rc G κ b (pc + 3) lv (.ref (b + n) :: st) (n + 1) (ww w n (.inr t, N, fun _ => .null)) (cn + 1) (sn + N)) : Rc G κ b pc lv (.int x :: st) n w cn sn := by
  intro H locs ls hP hS hL
  obtain ⟨hx, hb, hml, hown, hts, hK, hX, hR⟩ := X
  subst hN
  refine W.anew hx hb hown (hts _ wcl) (va_AO.use (hao hX)) rfl d rfl hn hby (by rw [hR]; exact hc) (by rw [hR]; exact hs) fun cA kA comp f1 f2 f3 f4 => ?_
  generalize hH1 : H.push ({ cls := cA, slots := Array.replicate x.toNatClampNeg .null, vm := .none } : Cell) = H1
  have z1 : H1.size = H.size + 1 := by rw [← hH1, Array.size_push]
  have e1 : H1[H.size]? = some (arrV cA x.toNatClampNeg (fun _ => .null)) := by rw [← hH1, Array.getElem?_push_size, ← arrV_new]
  have o1 : ∀ q : Nat, q < H.size → H1[q]? = H[q]? := fun q hq => by rw [← hH1, Array.getElem?_push, if_neg (Nat.ne_of_lt hq)]
  obtain ⟨kA', comp', g1, g2, g3, g4⟩ := (hK.2 t _ hT).2
  have e : cA = G.2.2 t := Option.some.inj (f1.symm.trans g4)
  subst e
  rw [hP.1] at e1 z1 ⊢
  exact k H1 locs ls (hP.push z1 (fun q hq => o1 q (by rw [hP.1]; exact hq)) e1) (hS.grow (by rw [z1, hP.1]; omega) o1) hL
/-- a field of an object -/
theorem k_put (q ci j : Nat) {N idx : Nat} {Cl : String} {T : u_T} {ty0 : Nat → FieldType} {ty : FieldType} {f : Nat → Value} {v : Value} (X : Cy G κ cc nL own R) (hc : bpCl[ci]? = some (Cl, T, N)) (hla : ∀ w ∈ u_ws Cl T N, w ∈ bpW) (hty : ∀ k, k < N → parseFieldDescriptor (T k).2.2.1 = some (ty0 k)) (hnm : ∀ a, a < N → ∀ b, b < N → a ≠ b → (T a).2.1 ≠ (T b).2.1) (hj : j < N) (hf : Cond.fieldLink own idx (T j).1 (T j).2.1 (T j).2.2.1 ∈ bpW) (hfin : (T j).2.2.2 = false) (hd : parseFieldDescriptor (T j).2.2.1 = some ty) (hn : narrow ty v = v) (hfit : fits ty v = true) (d : decode cc pc = .ok (.putfield idx, 3)) (hq : q < n) (hq79 : q < 75) (hw : w q = (.inl ci, N, f))
    (k : Rc G κ b (pc + 3) lv st n (ww w q (.inl ci, N, updV f j v)) cn sn) : Rc G κ b pc lv (v :: .ref (b + q) :: st) n w cn sn := by
  intro H locs ls hP hS hL
  obtain ⟨hx, hb, hml, hown, hts, hK, hX, hR⟩ := X
  have hap := va_apart (own := own) hts hla ty0 hty hnm hK hc
  obtain ⟨cell, q1, q2, q3, q4⟩ := cAt_ob (hP.2 q hq) hw
  obtain ⟨hSl, hfc, kC, hkC, hkind⟩ := hK.1 ci _ hc
  obtain ⟨cf, kf, fi, fd, hif, hsl⟩ := hSl j hj
  have hlay := hts _ (hla _ (u_in_lay hj))
  unfold u_lay at hlay
  rw [if_neg (by rw [hfin]; decide)] at hlay
  have hst := (u_facts hfc hkC (u_lays hts hla hj) hif).1
  have h6 := u_store hfc hkC hkind hlay hif hd hn hfit
  refine W.putK hx hb (f := fd) ⟨hown, hts _ hf, ⟨_, _, _, hif⟩, hst⟩ (by rw [q2]; exact h6) q1 q3 (by rw [hsl]; exact k2_hasslot (q4 j hj)) rfl rfl d fun H' e1 e2 e3 => ?_
  rw [hsl] at e1 ⊢
  exact k H' _ ls (hP.put e2 e3 (show t_OB _ _ _ _ _ _ from ⟨_, e1, q2, q3, t_set q4 hap hj v⟩)) (hS.put e2 e3 ⟨by omega, by omega⟩) hL
theorem k_putF (q ci j : Nat) {N idx : Nat} {Cl : String} {T : u_T} {ty0 : Nat → FieldType} {ty : FieldType} {f : Nat → Value} {v : Value} (X : Cy G κ cc nL own R) (hin2 : (kM κ).name = "<init>") (hc : bpCl[ci]? = some (Cl, T, N)) (hla : ∀ w ∈ u_ws Cl T N, w ∈ bpW) (hty : ∀ k, k < N → parseFieldDescriptor (T k).2.2.1 = some (ty0 k)) (hnm : ∀ a, a < N → ∀ b, b < N → a ≠ b → (T a).2.1 ≠ (T b).2.1) (hj : j < N) (hf : Cond.fieldLink own idx (T j).1 (T j).2.1 (T j).2.2.1 ∈ bpW) (hfin : (T j).2.2.2 = true) (hdecl : (T j).1 = own) (hd : parseFieldDescriptor (T j).2.2.1 = some ty) (hn : narrow ty v = v) (hfit : fits ty v = true) (d : decode cc pc = .ok (.putfield idx, 3)) (hq : q < n) (hq79 : q < 75) (hw : w q = (.inl ci, N, f))
    (k : Rc G κ b (pc + 3) lv st n (ww w q (.inl ci, N, updV f j v)) cn sn) : Rc G κ b pc lv (v :: .ref (b + q) :: st) n w cn sn := by
  intro H locs ls hP hS hL
  obtain ⟨hx, hb, hml, hown, hts, hK, hX, hR⟩ := X
  have hap := va_apart (own := own) hts hla ty0 hty hnm hK hc
  obtain ⟨cell, q1, q2, q3, q4⟩ := cAt_ob (hP.2 q hq) hw
  obtain ⟨hSl, hfc, kC, hkC, hkind⟩ := hK.1 ci _ hc
  obtain ⟨cf, kf, fi, fd, hif, hsl⟩ := hSl j hj
  have hlay := hts _ (hla _ (u_in_lay hj))
  unfold u_lay at hlay
  rw [if_pos hfin] at hlay
  have hst := (u_facts hfc hkC (u_lays hts hla hj) hif).1
  have hcf : (km κ).cls = cf := by
    obtain ⟨_, _, c', _, _, _, -, -, hf', -, -, -, hown2, -⟩ := Cond.laysFinal_spec hlay
    have e1 : c' = cf := by have := hif.symm.trans hf'; simp at this; exact this.1.symm
    rw [hdecl] at hown2
    rw [← e1]; exact Option.some.inj (hown.symm.trans hown2)
  have h6 := u_fits hfc hkC hkind (Or.inr hlay) hif hd hn hfit
  refine W.putFinK hx hb hown (hts _ hf) hif hst hcf hin2 (by rw [q2]; exact h6) q1 q3 (by rw [hsl]; exact k2_hasslot (q4 j hj)) rfl rfl d fun H' e1 e2 e3 => ?_
  rw [hsl] at e1 ⊢
  exact k H' _ ls (hP.put e2 e3 (show t_OB _ _ _ _ _ _ from ⟨_, e1, q2, q3, t_set q4 hap hj v⟩)) (hS.put e2 e3 ⟨by omega, by omega⟩) hL
theorem k_get (q ci j : Nat) {N idx : Nat} {Cl : String} {T : u_T} {f : Nat → Value} {v : Value} (X : Cy G κ cc nL own R) (hc : bpCl[ci]? = some (Cl, T, N)) (hla : ∀ w ∈ u_ws Cl T N, w ∈ bpW) (hj : j < N) (hf : Cond.fieldLink own idx (T j).1 (T j).2.1 (T j).2.2.1 ∈ bpW) (d : decode cc pc = .ok (.getfield idx, 3)) (hq : q < n) (hw : w q = (.inl ci, N, f)) (hv : f j = v)
    (k : Rc G κ b (pc + 3) lv (v :: st) n w cn sn) : Rc G κ b pc lv (.ref (b + q) :: st) n w cn sn := by
  intro H locs ls hP hS hL
  obtain ⟨hx, hb, hml, hown, hts, hK, hX, hR⟩ := X
  obtain ⟨cell, q1, q2, q3, q4⟩ := cAt_ob (hP.2 q hq) hw
  obtain ⟨hSl, hfc, kC, hkC, hkind⟩ := hK.1 ci _ hc
  obtain ⟨cf, kf, fi, fd, hif, hsl⟩ := hSl j hj
  refine W.getf hx hb hown (hts _ hf) hif (u_facts hfc hkC (u_lays hts hla hj) hif).1 q1 (by rw [q3]; exact fun h => by cases h) (v := v) ?_ rfl rfl d (k H locs ls hP hS hL)
  rw [hsl, q4 j hj, hv]
theorem k_aast (q q2 t ci i : Nat) {N N2 : Nat} {r : vw_C} {f g : Nat → Value} {x : Int32} (X : Cy G κ cc nL own R) (hT : (bpT G)[t]? = some (G.2.2 t, .object r.1)) (hc : bpCl[ci]? = some r) (hx : x = nI i) (hi : i < N) (hN : N < 100) (d : decode cc pc = .ok (.aastore, 1)) (hq : q < n) (hq79 : q < 75) (hw : w q = (.inr t, N, f)) (hq2 : q2 < n) (hw2 : w q2 = (.inl ci, N2, g))
    (k : Rc G κ b (pc + 1) lv st n (ww w q (.inr t, N, updV f i (.ref (b + q2)))) cn sn) : Rc G κ b pc lv (.ref (b + q2) :: .int x :: .ref (b + q) :: st) n w cn sn := by
  subst hx
  intro H locs ls hP hS hL
  obtain ⟨hx, hb, hml, hown, hts, hK, hX, hR⟩ := X
  have h0 := cAt_ar (hP.2 q hq) hw
  obtain ⟨cellV, g1, g2, g3, -⟩ := cAt_ob (hP.2 q2 hq2) hw2
  have hcls := (hK.1 ci r hc).2
  obtain ⟨kA, comp, k1, k2, k3, -⟩ := (hK.2 t _ hT).2
  have hcomp : comp = G.2.1.1 ci := Option.some.inj (k3.symm.trans hcls.1)
  subst hcomp
  obtain ⟨kC, hkC, -⟩ := hcls.2
  have hcl : (nI i).toNatClampNeg = i := nIc (by omega)
  refine W.aast hx hb h0 (fun q h => by cases h) (fun h => by cases h) k1 k2 rfl hkC ⟨by rw [i_lt, i_0, i_n (by omega)]; omega, by show _ < (arrV _ _ _).slots.size; rw [arrV_size, hcl]; exact hi⟩ g1 (fun q h => by rw [g3] at h; cases h) (by rw [g2]; exact hkC) (by rw [g2]; exact va_assign hcls) rfl rfl d fun H1 e z oq => ?_
  rw [arrV_store, hcl] at e
  exact k H1 _ ls (hP.put z oq e) (hS.put z oq ⟨by omega, by omega⟩) hL
theorem c_blind {args : List Value} : FrameBlind (va_Pc args (fun U => HW G b n w U.heap ∧ va_K G.2.1 bpCl (bpT G) U ∧ bpX U)) := by
  rintro a U g mk ⟨h1, h2, h3, h4⟩
  exact ⟨h1, h2, va_K.moved (u := U) (U := U.calling g mk a) (Vm.Alike.refl U.vm) h3, h4.eqvm rfl⟩
/-- what a caller knows of a constructor -/
def MdC (y : MethodName) (cy : ByteArray) (mL : Nat) : Prop := MdB y cy mL none 0 ∧ Cond.instanceMethod y ∈ bpW ∧ y.name = "<init>"
theorem c_words {y : MethodName} {cy : ByteArray} {mL : Nat} (hts : ∀ w ∈ bpW, w.before (ka κ) (ks κ) = true) (wcd : Cond.code y cy mL none ∈ bpW) : ∀ w ∈ (Cond.code y cy mL none :: bpW), ∀ (a' : Array Value) (U : State), (ks κ).WarmedH U.vm → w.before a' U = true := by
  intro w hw a' U hW
  have key : w ∈ bpW := by
    rcases List.mem_cons.mp hw with h | h
    · rw [h]; exact wcd
    · exact h
  exact wd_warm key hW (hts w key)
theorem c_desc {y : MethodName} (h2 : (parseMethodDescriptor y.desc).map (fun d => d.parameters.length) = some 0) : ∀ sig, parseMethodDescriptor y.desc = some sig → 0 = sig.parameters.length := by
  intro sig h
  rw [h] at h2
  exact (Option.some.inj h2).symm
theorem k_cn (a : Nat) {y : MethodName} {cy : ByteArray} {mL idx n' : Nat} {host : String} {rm : Room} {w' : cwT} (X : Cy G κ cc nL own R) (md : MdC y cy mL) (hl : bpX (ks κ) → va_Nw (.methodLinkNest own idx y host) (ks κ)) (d : decode cc pc = .ok (.invokespecial idx, 3)) (hfr : rm.frames + 1 ≤ R.frames) (hlo : 8 + (mL + 11) + rm.locals ≤ R.locals) (hst : (st.map fun v => v.category).sum ≤ 8) (hlv : lv.length = nL) (hc : cn + rm.cells ≤ R.cells) (hs : sn + rm.slots ≤ R.slots) (ct : Cc G y cy mL rm b a n n' w w')
    (k : Rc G κ b (pc + 3) lv st n' w' (cn + rm.cells) (sn + rm.slots)) : Rc G κ b pc lv (.ref (b + a) :: st) n w cn sn := by
  intro H locs ls hP hS hL
  obtain ⟨hx, hb, hml, hown, hts, hK, hX, hR⟩ := X
  obtain ⟨⟨wcd, win, hd⟩, wim, hy⟩ := md
  refine va_callv (va_runIN (As := []) (rest := st) (b := b + a) ⟨hx, hb, hml, hown, hts⟩ (ct (kl κ)) ⟨⟨⟨rfl, rfl, by rw [hR]; exact hfr, by rw [hR]; exact hlo, c_words hts wcd, List.mem_cons_self⟩, hts _ wcd, hts _ win, ⟨hd.1, hd.2.1⟩, c_desc hd.2.2, va_Nw.use rfl (hl hX)⟩, hy, hts _ wim⟩ ⟨c_blind, fun U hU hW => ⟨rfl, by rw [hU]; exact hP, va_K.moved hW.alike hK, hX.warm hW⟩⟩ rfl rfl (hL.1.trans hlv) rfl (lv_room hst) d ⟨by rw [hR]; exact hc, by rw [hR]; exact hs⟩) hS (fun q _ h => h) (fun q h => h) (fun u t H1 locs1 ht hvm hp hB hz1 hk1 hS1 => k H1 locs1 ls (by rw [← ht]; exact hB) hS1 hL)
theorem k_ci (a : Nat) {y : MethodName} {cy : ByteArray} {mL idx n' : Nat} {rm : Room} {w' : cwT} (X : Cy G κ cc nL own R) (md : MdC y cy mL) (hl : Cond.methodLink own idx y ∈ bpW) (d : decode cc pc = .ok (.invokespecial idx, 3)) (hfr : rm.frames + 1 ≤ R.frames) (hlo : 8 + (mL + 11) + rm.locals ≤ R.locals) (hst : (st.map fun v => v.category).sum ≤ 8) (hlv : lv.length = nL) (hc : cn + rm.cells ≤ R.cells) (hs : sn + rm.slots ≤ R.slots) (ct : Cc G y cy mL rm b a n n' w w')
    (k : Rc G κ b (pc + 3) lv st n' w' (cn + rm.cells) (sn + rm.slots)) : Rc G κ b pc lv (.ref (b + a) :: st) n w cn sn := by
  intro H locs ls hP hS hL
  obtain ⟨hx, hb, hml, hown, hts, hK, hX, hR⟩ := X
  obtain ⟨⟨wcd, win, hd⟩, wim, hy⟩ := md
  refine va_callv (va_runI (As := []) (rest := st) (b := b + a) ⟨hx, hb, hml, hown, hts⟩ (ct (kl κ)) ⟨⟨rfl, rfl, by rw [hR]; exact hfr, by rw [hR]; exact hlo, c_words hts wcd, List.mem_cons_self, hts _ wcd, hts _ win, ⟨hd.1, hd.2.1⟩, c_desc hd.2.2, hts _ hl⟩, hy, hts _ wim⟩ ⟨c_blind, fun U hU hW => ⟨rfl, by rw [hU]; exact hP, va_K.moved hW.alike hK, hX.warm hW⟩⟩ rfl rfl (hL.1.trans hlv) rfl (lv_room hst) d ⟨by rw [hR]; exact hc, by rw [hR]; exact hs⟩) hS (fun q _ h => h) (fun q h => h) (fun u t H1 locs1 ht hvm hp hB hz1 hk1 hS1 => k H1 locs1 ls (by rw [← ht]; exact hB) hS1 hL)
theorem k_fin {A : Nat → Prop} {Qc : Array Value → State → Outcome → State → Prop} (X : Cy G κ cc nL own R) (hr : (kM κ).sig.returnType = none) (hlk : (kM κ).locks = false) (hA : A = bpB b) (hz : kQ κ = MQ (kb κ) Qc (ka κ) (ks κ) cn sn A) (hq : ∀ (t : State), HW G b n w t.heap → va_F (bpB b) (ks κ) t → Qc (ka κ) (ks κ) (.returned none) t) (d : decode cc pc = .ok (.return_, 1)) : Rc G κ b pc lv [] n w cn sn := by
  intro H locs ls hP hS hL
  rw [hz]
  exact W.vret X.1 X.2.1 hr (fun t ht hW => hq t (by rw [ht]; exact hP) (hS.F ht)) (fun q h => by rw [hA]; exact hS.2.2 q h) d hlk
end CTR
/-- a constructor's entry -/
theorem cc_of {G : bpG} {y : MethodName} {cy : ByteArray} {mL : Nat} {rm : Room} {b a n n' : Nat} {w w' : cwT} (lv0 : List (Option Value)) (hy : plainName y.cls = true) (hlen : lv0.length = mL) (hlv : asc 0 lv0 = lv_args 0 [.ref (b + a)]) (hsl : 1 ≤ mL)
    (body : ∀ κ : bpK, Cy G κ cy mL y.cls rm → (kM κ).name = y.name → (kM κ).sig.returnType = none → (kM κ).locks = false → kQ κ = MQ (kb κ) (va_Qv (fun _ : Unit => True) (fun _ t => HW G b n' w' t.heap) (bpB b)) (ka κ) (ks κ) rm.cells rm.slots (bpB b) → Rc G κ b 0 lv0 [] n w 0 0) : Cc G y cy mL rm b a n n' w w' := by
  intro l
  refine Met.ofW (cc := cy) (maxL := mL) (ret := none) hy rfl ?_
  intro p e s m as below meth c s1 B hml hv
  obtain ⟨rfl, hP, hK, hX⟩ := hv
  have hts := atoms_spec (ws := Cond.code y cy mL none :: bpW) B.pre
  have hown : s.vm.findClass y.cls = some m.cls := findClass_of_methodNamed B.named
  have hl0 := lv_entry [.ref (b + a)] (n := mL) hsl
  rw [lg_entry_eq]
  refine body (p, l, e, rm, s, m, ([.ref (b + a)] : List Value).toArray, below, meth, c, 0, 0, MQ below (va_Qv (fun _ : Unit => True) (fun _ t => HW G b n' w' t.heap) (bpB b)) ([.ref (b + a)] : List Value).toArray s rm.cells rm.slots (bpB b)) ⟨B.exec, B.bytes, hml, hown, fun w h => hts w (List.mem_cons_of_mem _ h), hK, hX, rfl⟩ (name_of_methodNamed B.named B.method).1 B.returns B.notSynchronized rfl s.heap [] _ hP va_S.rf ?_
  unfold lvs
  rw [hlen, hlv]
  exact hl0
/-- a constructor's end -/
theorem k_end {G : bpG} {κ : bpK} {cc : ByteArray} {nL : Nat} {own : String} {rm : Room} {b pc n : Nat} {lv : List (Option Value)} {w : cwT} (X : Cy G κ cc nL own rm) (hr : (kM κ).sig.returnType = none) (hlk : (kM κ).locks = false) (hz : kQ κ = MQ (kb κ) (va_Qv (fun _ : Unit => True) (fun _ t => HW G b n w t.heap) (bpB b)) (ka κ) (ks κ) rm.cells rm.slots (bpB b)) (d : decode cc pc = .ok (.return_, 1)) {cn sn : Nat} (hc : cn = rm.cells) (hs : sn = rm.slots) : Rc G κ b pc lv [] n w cn sn := by
  subst hc
  subst hs
  exact k_fin X hr hlk rfl hz (fun t h1 h2 => ⟨⟨(), rfl, trivial, h1⟩, h2⟩) d
