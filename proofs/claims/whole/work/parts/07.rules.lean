/-! the judgement Rn: from here, with these locals, stack and world, the method comes to its end -/
abbrev bpK : Type := Program × Launch × Env × Room × State × MethodId × Array Value × List Frame × Method × Code × Nat × Nat × (State → Prop)
abbrev kp (κ : bpK) : Program := κ.1
abbrev kl (κ : bpK) : Launch := κ.2.1
abbrev ke (κ : bpK) : Env := κ.2.2.1
abbrev kR (κ : bpK) : Room := κ.2.2.2.1
abbrev ks (κ : bpK) : State := κ.2.2.2.2.1
abbrev km (κ : bpK) : MethodId := κ.2.2.2.2.2.1
abbrev ka (κ : bpK) : Array Value := κ.2.2.2.2.2.2.1
abbrev kb (κ : bpK) : List Frame := κ.2.2.2.2.2.2.2.1
abbrev kM (κ : bpK) : Method := κ.2.2.2.2.2.2.2.2.1
abbrev kc (κ : bpK) : Code := κ.2.2.2.2.2.2.2.2.2.1
abbrev kn (κ : bpK) : Nat := κ.2.2.2.2.2.2.2.2.2.2.1
abbrev kS (κ : bpK) : Nat := κ.2.2.2.2.2.2.2.2.2.2.2.1
abbrev kQ (κ : bpK) : State → Prop := κ.2.2.2.2.2.2.2.2.2.2.2.2
/-- locals by their places -/
def asc : Nat → List (Option Value) → List (Nat × Value)
  | _, [] => []
  | n, none :: t => asc (n + 1) t
  | n, some v :: t => (n, v) :: asc (n + 1) t
def lvs (ls : Array Slot) (lv : List (Option Value)) : Prop := lv_has ls lv.length (asc 0 lv)
theorem asc_mem : ∀ (lv : List (Option Value)) (n j : Nat) (v : Value), (j, v) ∈ asc n lv ↔ ∃ i, j = n + i ∧ lv[i]? = some (some v)
  | [], n, j, v => by simp [asc]
  | none :: t, n, j, v => by
    simp only [asc]
    rw [asc_mem t (n + 1) j v]
    constructor
    · rintro ⟨i, h1, h2⟩
      exact ⟨i + 1, by omega, by simpa using h2⟩
    · rintro ⟨i, h1, h2⟩
      cases i with
      | zero => simp at h2
      | succ i => exact ⟨i, by omega, by simpa using h2⟩
  | some w :: t, n, j, v => by
    simp only [asc, List.mem_cons]
    rw [asc_mem t (n + 1) j v]
    constructor
    · rintro (h | ⟨i, h1, h2⟩)
      · cases h
        exact ⟨0, by omega, by simp⟩
      · exact ⟨i + 1, by omega, by simpa using h2⟩
    · rintro ⟨i, h1, h2⟩
      cases i with
      | zero =>
        left
        simp at h2
        rw [h2, h1]
        rfl
      | succ i => exact Or.inr ⟨i, by omega, by simpa using h2⟩
theorem lvs_get {ls : Array Slot} {lv : List (Option Value)} {i : Nat} {v : Value} (h : lvs ls lv) (hi : lv[i]? = some (some v)) : ls[i]? = some (.val v) :=
  h.2.2 (i, v) ((asc_mem lv 0 i v).mpr ⟨i, by omega, hi⟩)
/-- no long lies just ahead of a place -/
def nolong (lv : List (Option Value)) (i : Nat) : Bool := match i with
  | 0 => true
  | i + 1 => match lv[i]? with
    | some (some v) => v.category != 2
    | _ => true
theorem lvs_set {ls : Array Slot} {lv lv' : List (Option Value)} {i : Nat} {v : Value} (hn : nolong lv i = true) (hs : lv' = lv.set i (some v)) (hi : i < lv.length) (h : lv_has ls lv.length ((i, v) :: (asc 0 lv).filter (fun q => !(q.1 == i) && !(q.1 + 1 == i && q.2.category == 2)))) : lvs ls lv' := by
  subst hs
  refine ⟨by rw [List.length_set]; exact h.1, h.2.1, ?_⟩
  rintro ⟨j, w⟩ hq
  obtain ⟨i', h1, h2⟩ := (asc_mem _ 0 j w).mp hq
  have h1 : j = i' := by omega
  subst h1
  by_cases e : j = i
  · subst e
    rw [List.getElem?_set_self hi] at h2
    cases h2
    exact h.2.2 _ List.mem_cons_self
  · rw [List.getElem?_set_ne (Ne.symm e)] at h2
    refine h.2.2 (j, w) (List.mem_cons_of_mem _ (List.mem_filter.mpr ⟨(asc_mem _ 0 j w).mpr ⟨j, by omega, h2⟩, ?_⟩))
    simp only [Bool.and_eq_true, Bool.not_eq_true', beq_eq_false_iff_ne, Bool.and_eq_false_iff]
    refine ⟨e, ?_⟩
    by_cases e2 : j + 1 = i
    · right
      subst e2
      simp only [nolong, h2] at hn
      simpa using hn
    · exact Or.inl e2
theorem lvs_set2 {ls : Array Slot} {lv lv' : List (Option Value)} {i : Nat} {v : Value} (hn : nolong lv i = true) (hs : lv' = (lv.set i (some v)).set (i + 1) none) (hi : i + 1 < lv.length) (h : lv_has ls lv.length ((i, v) :: (asc 0 lv).filter (fun q => !(q.1 == i) && (!(q.1 == i + 1) && !(q.1 + 1 == i && q.2.category == 2))))) : lvs ls lv' := by
  subst hs
  refine ⟨by rw [List.length_set, List.length_set]; exact h.1, h.2.1, ?_⟩
  rintro ⟨j, w⟩ hq
  obtain ⟨i', h1, h2⟩ := (asc_mem _ 0 j w).mp hq
  have h1 : j = i' := by omega
  subst h1
  by_cases e0 : j = i + 1
  · subst e0
    rw [List.getElem?_set_self (by rw [List.length_set]; exact hi)] at h2
    cases h2
  · rw [List.getElem?_set_ne (Ne.symm e0)] at h2
    by_cases e : j = i
    · subst e
      rw [List.getElem?_set_self (by omega)] at h2
      cases h2
      exact h.2.2 _ List.mem_cons_self
    · rw [List.getElem?_set_ne (Ne.symm e)] at h2
      refine h.2.2 (j, w) (List.mem_cons_of_mem _ (List.mem_filter.mpr ⟨(asc_mem _ 0 j w).mpr ⟨j, by omega, h2⟩, ?_⟩))
      simp only [Bool.and_eq_true, Bool.not_eq_true', beq_eq_false_iff_ne, Bool.and_eq_false_iff]
      refine ⟨e, e0, ?_⟩
      by_cases e2 : j + 1 = i
      · right
        subst e2
        simp only [nolong, h2] at hn
        simpa using hn
      · exact Or.inl e2
def Rn (G : bpG) (κ : bpK) (pc : Nat) (lv : List (Option Value)) (st : List Value) (C : bpC) (M : bpM) (hl : Int64) : Prop :=
  ∀ (H : Heap) (locs : List Loc) (ls : Array Slot), WP G C M hl H → va_S (bpA G) (ks κ).heap H locs → lvs ls lv → W (kp κ) (kl κ) (ke κ) (kR κ) (ks κ) (km κ) (ka κ) (kb κ) (kM κ) (kc κ) H locs (kn κ) (kS κ) (kQ κ) (F0 (km κ) pc ls st)
/-- the standing facts of a method that runs -/
def Cx (G : bpG) (κ : bpK) (cc : ByteArray) (nL : Nat) (own : String) (ret : Option FieldType) (R : Room) : Prop :=
  (kp κ).tables.exec = Jvm.exec ∧ (kc κ).code = cc ∧ (kc κ).maxLocals = nL ∧ (ks κ).vm.findClass own = some (km κ).cls ∧ (∀ w ∈ bpW, w.before (ka κ) (ks κ) = true) ∧ (kM κ).sig.returnType = ret ∧ (kM κ).locks = false ∧ va_K G.2.1 bpCl (bpT G) (ks κ) ∧ bpGood G ∧ kR κ = R
/-- a method's end: what it answers, and the world then -/
def Qm (G : bpG) (Q : bpC → bpM → Int64 → Option Value → Prop) : Array Value → State → Outcome → State → Prop := fun _ st o t => (∃ (v : Option Value) (C : bpC) (M : bpM) (hl : Int64), o = .returned v ∧ Q C M hl v ∧ WP G C M hl t.heap) ∧ va_F (bpA G) st t
def Zx (G : bpG) (κ : bpK) (Q : bpC → bpM → Int64 → Option Value → Prop) : Prop := kn κ = 0 ∧ kS κ = 0 ∧ kQ κ = MQ (kb κ) (Qm G Q) (ka κ) (ks κ) 0 0 (bpA G)
/-- a method's contract at a world -/
def Ct (G : bpG) (y : MethodName) (cy : ByteArray) (maxL : Nat) (rety : Option FieldType) (rm : Room) (args : List Value) (C : bpC) (M : bpM) (hl : Int64) (Q : bpC → bpM → Int64 → Option Value → Prop) : Prop :=
  ∀ l : Launch, Met l y (Cond.code y cy maxL rety :: bpW) rm (va_Pc args (fun U => bpGood G ∧ WP G C M hl U.heap ∧ va_K G.2.1 bpCl (bpT G) U)) (Qm G Q) 0 0 (bpA G)
/-- what a call needs to know of its callee -/
def MdB (y : MethodName) (cy : ByteArray) (maxL : Nat) (rety : Option FieldType) (n : Nat) : Prop := Cond.code y cy maxL rety ∈ bpW ∧ Cond.initialized y.cls ∈ bpW ∧ (y.cls ≠ "java/lang/invoke/MethodHandle" ∧ y.cls ≠ "java/lang/invoke/VarHandle" ∧ (parseMethodDescriptor y.desc).map (fun d => d.parameters.length) = some n)
def MdV (y : MethodName) (cy : ByteArray) (maxL : Nat) (rety : Option FieldType) (n : Nat) : Prop := MdB y cy maxL rety n ∧ Cond.instanceMethod y ∈ bpW ∧ Cond.selects y.cls y y ∈ bpW
def MdS (y : MethodName) (cy : ByteArray) (maxL : Nat) (rety : Option FieldType) (n : Nat) : Prop := MdB y cy maxL rety n ∧ Cond.static y ∈ bpW
def Rm (rm R : Room) (maxL : Nat) : Prop := rm.cells = 0 ∧ rm.slots = 0 ∧ rm.frames + 1 ≤ R.frames ∧ 8 + (maxL + 11) + rm.locals ≤ R.locals
section RULES
variable {G : bpG} {κ : bpK} {cc : ByteArray} {nL : Nat} {own : String} {ret : Option FieldType} {R : Room} {pc : Nat} {lv : List (Option Value)} {st : List Value} {C : bpC} {M : bpM} {hl : Int64}
theorem Rn.eqst {st2 : List Value} (h : st = st2) (k : Rn G κ pc lv st2 C M hl) : Rn G κ pc lv st C M hl := h ▸ k
theorem Rn.eqpc {pc2 : Nat} (h : pc = pc2) (k : Rn G κ pc2 lv st C M hl) : Rn G κ pc lv st C M hl := h ▸ k
theorem Rn.eqlv {lv2 : List (Option Value)} (h : lv = lv2) (k : Rn G κ pc lv2 st C M hl) : Rn G κ pc lv st C M hl := h ▸ k
theorem Rn.eqC {C2 : bpC} (h : C = C2) (k : Rn G κ pc lv st C2 M hl) : Rn G κ pc lv st C M hl := h ▸ k
theorem Rn.eqM {M2 : bpM} (h : M = M2) (k : Rn G κ pc lv st C M2 hl) : Rn G κ pc lv st C M hl := h ▸ k
theorem r_top {x x' : Int32} (h : x = x') (k : Rn G κ pc lv (.int x' :: st) C M hl) : Rn G κ pc lv (.int x :: st) C M hl := h ▸ k
theorem r_topl {x x' : Int64} (h : x = x') (k : Rn G κ pc lv (.long x' :: st) C M hl) : Rn G κ pc lv (.long x :: st) C M hl := h ▸ k
theorem r_iadd {x y : Int32} (X : Cx G κ cc nL own ret R) (d : decode cc pc = .ok (.iadd, 1)) (k : Rn G κ (pc + 1) lv (.int (x + y) :: st) C M hl) : Rn G κ pc lv (.int y :: .int x :: st) C M hl := fun H locs ls hP hS hL => lv_iadd X.1 X.2.1 d (k H locs ls hP hS hL)
theorem r_isub {x y : Int32} (X : Cx G κ cc nL own ret R) (d : decode cc pc = .ok (.isub, 1)) (k : Rn G κ (pc + 1) lv (.int (x - y) :: st) C M hl) : Rn G κ pc lv (.int y :: .int x :: st) C M hl := fun H locs ls hP hS hL => lv_isub X.1 X.2.1 d (k H locs ls hP hS hL)
theorem r_imul {x y : Int32} (X : Cx G κ cc nL own ret R) (d : decode cc pc = .ok (.imul, 1)) (k : Rn G κ (pc + 1) lv (.int (x * y) :: st) C M hl) : Rn G κ pc lv (.int y :: .int x :: st) C M hl := fun H locs ls hP hS hL => lv_imul X.1 X.2.1 d (k H locs ls hP hS hL)
theorem r_iand {x y : Int32} (X : Cx G κ cc nL own ret R) (d : decode cc pc = .ok (.iand, 1)) (k : Rn G κ (pc + 1) lv (.int (x &&& y) :: st) C M hl) : Rn G κ pc lv (.int y :: .int x :: st) C M hl := fun H locs ls hP hS hL => lv_iand X.1 X.2.1 d (k H locs ls hP hS hL)
theorem r_ior {x y : Int32} (X : Cx G κ cc nL own ret R) (d : decode cc pc = .ok (.ior, 1)) (k : Rn G κ (pc + 1) lv (.int (x ||| y) :: st) C M hl) : Rn G κ pc lv (.int y :: .int x :: st) C M hl := fun H locs ls hP hS hL => lv_ior X.1 X.2.1 d (k H locs ls hP hS hL)
theorem r_ishl {x y : Int32} (X : Cx G κ cc nL own ret R) (d : decode cc pc = .ok (.ishl, 1)) (k : Rn G κ (pc + 1) lv (.int (x <<< (y &&& 31)) :: st) C M hl) : Rn G κ pc lv (.int y :: .int x :: st) C M hl := fun H locs ls hP hS hL => lv_ishl X.1 X.2.1 d (k H locs ls hP hS hL)
theorem r_ishr {x y : Int32} (X : Cx G κ cc nL own ret R) (d : decode cc pc = .ok (.ishr, 1)) (k : Rn G κ (pc + 1) lv (.int (x >>> (y &&& 31)) :: st) C M hl) : Rn G κ pc lv (.int y :: .int x :: st) C M hl := fun H locs ls hP hS hL => lv_ishr X.1 X.2.1 d (k H locs ls hP hS hL)
theorem r_iushr {x y v : Int32} (X : Cx G κ cc nL own ret R) (d : decode cc pc = .ok (.iushr, 1)) (hv : (x.toUInt32 >>> (y.toUInt32 &&& Int32.toUInt32 31)).toInt32 = v) (k : Rn G κ (pc + 1) lv (.int v :: st) C M hl) : Rn G κ pc lv (.int y :: .int x :: st) C M hl := fun H locs ls hP hS hL => lv_iushr X.1 X.2.1 d hv (k H locs ls hP hS hL)
theorem r_ladd {x y : Int64} (X : Cx G κ cc nL own ret R) (d : decode cc pc = .ok (.ladd, 1)) (k : Rn G κ (pc + 1) lv (.long (x + y) :: st) C M hl) : Rn G κ pc lv (.long y :: .long x :: st) C M hl := fun H locs ls hP hS hL => lv_ladd X.1 X.2.1 d (k H locs ls hP hS hL)
theorem r_lmul {x y : Int64} (X : Cx G κ cc nL own ret R) (d : decode cc pc = .ok (.lmul, 1)) (k : Rn G κ (pc + 1) lv (.long (x * y) :: st) C M hl) : Rn G κ pc lv (.long y :: .long x :: st) C M hl := fun H locs ls hP hS hL => lv_lmul X.1 X.2.1 d (k H locs ls hP hS hL)
theorem r_idiv {x y : Int32} (X : Cx G κ cc nL own ret R) (d : decode cc pc = .ok (.idiv, 1)) (hne : ¬ y = 0) (k : Rn G κ (pc + 1) lv (.int (x / y) :: st) C M hl) : Rn G κ pc lv (.int y :: .int x :: st) C M hl := fun H locs ls hP hS hL => lv_idiv X.1 X.2.1 d hne (k H locs ls hP hS hL)
theorem r_irem {x y : Int32} (X : Cx G κ cc nL own ret R) (d : decode cc pc = .ok (.irem, 1)) (hne : ¬ y = 0) (k : Rn G κ (pc + 1) lv (.int (x - x / y * y) :: st) C M hl) : Rn G κ pc lv (.int y :: .int x :: st) C M hl := fun H locs ls hP hS hL => lv_irem X.1 X.2.1 d hne (k H locs ls hP hS hL)
theorem r_i2l {x : Int32} (X : Cx G κ cc nL own ret R) (d : decode cc pc = .ok (.i2l, 1)) (k : Rn G κ (pc + 1) lv (.long x.toInt64 :: st) C M hl) : Rn G κ pc lv (.int x :: st) C M hl := fun H locs ls hP hS hL => lv_i2l X.1 X.2.1 d rfl (k H locs ls hP hS hL)
theorem r_lcmp {x y : Int64} (X : Cx G κ cc nL own ret R) (d : decode cc pc = .ok (.lcmp, 1)) (k : Rn G κ (pc + 1) lv (.int (lg_cmp x y) :: st) C M hl) : Rn G κ pc lv (.long y :: .long x :: st) C M hl := fun H locs ls hP hS hL => W.lcmp X.1 X.2.1 d (k H locs ls hP hS hL)
theorem r_iconst {n : Int} (v : Int32) (X : Cx G κ cc nL own ret R) (d : decode cc pc = .ok (.iconst n, 1)) (hv : Int32.ofInt n = v) (k : Rn G κ (pc + 1) lv (.int v :: st) C M hl) : Rn G κ pc lv (st) C M hl := fun H locs ls hP hS hL => lv_iconst X.1 X.2.1 d hv (k H locs ls hP hS hL)
theorem r_bipush {n : Int} (v : Int32) (X : Cx G κ cc nL own ret R) (d : decode cc pc = .ok (.bipush n, 2)) (hv : (Int8.ofInt n).toInt32 = v) (k : Rn G κ (pc + 2) lv (.int v :: st) C M hl) : Rn G κ pc lv (st) C M hl := fun H locs ls hP hS hL => lv_bipush X.1 X.2.1 d hv (k H locs ls hP hS hL)
theorem r_sipush {n : Int} (v : Int32) (X : Cx G κ cc nL own ret R) (d : decode cc pc = .ok (.sipush n, 3)) (hv : (Int16.ofInt n).toInt32 = v) (k : Rn G κ (pc + 3) lv (.int v :: st) C M hl) : Rn G κ pc lv (st) C M hl := fun H locs ls hP hS hL => lv_sipush X.1 X.2.1 d hv (k H locs ls hP hS hL)
theorem r_ldc {n : Nat} {v : Int32} (hw : Cond.constant own n v ∈ bpW) (X : Cx G κ cc nL own ret R) (d : decode cc pc = .ok (.ldc n, 2)) (k : Rn G κ (pc + 2) lv (.int v :: st) C M hl) : Rn G κ pc lv (st) C M hl := fun H locs ls hP hS hL => lv_ldc X.1 X.2.1 X.2.2.2.1 (X.2.2.2.2.1 _ hw) d (k H locs ls hP hS hL)
theorem r_ldcw {n : Nat} {v : Int32} (hw : Cond.constant own n v ∈ bpW) (X : Cx G κ cc nL own ret R) (d : decode cc pc = .ok (.ldc_w n, 3)) (k : Rn G κ (pc + 3) lv (.int v :: st) C M hl) : Rn G κ pc lv (st) C M hl := fun H locs ls hP hS hL => lv_ldcw X.1 X.2.1 X.2.2.2.1 (X.2.2.2.2.1 _ hw) d (k H locs ls hP hS hL)
theorem r_ldc2 {n : Nat} {v : Int64} (hw : Cond.constantLong own n v ∈ bpW) (X : Cx G κ cc nL own ret R) (d : decode cc pc = .ok (.ldc2_w n, 3)) (k : Rn G κ (pc + 3) lv (.long v :: st) C M hl) : Rn G κ pc lv (st) C M hl := fun H locs ls hP hS hL => lv_ldc2 X.1 X.2.1 X.2.2.2.1 (X.2.2.2.2.1 _ hw) d (k H locs ls hP hS hL)
theorem r_dup {v : Value} (X : Cx G κ cc nL own ret R) (d : decode cc pc = .ok (.dup, 1)) (hv : v.category = 1) (k : Rn G κ (pc + 1) lv (v :: v :: st) C M hl) : Rn G κ pc lv (v :: st) C M hl := fun H locs ls hP hS hL => lv_dup X.1 X.2.1 d hv (k H locs ls hP hS hL)
theorem r_dup2 {v u : Value} (X : Cx G κ cc nL own ret R) (d : decode cc pc = .ok (.dup2, 1)) (hv : v.category = 1) (hu : u.category = 1) (k : Rn G κ (pc + 1) lv (v :: u :: v :: u :: st) C M hl) : Rn G κ pc lv (v :: u :: st) C M hl := fun H locs ls hP hS hL => lv_dup2_11 X.1 X.2.1 d hv hu (k H locs ls hP hS hL)
theorem r_pop {v : Value} (X : Cx G κ cc nL own ret R) (d : decode cc pc = .ok (.pop, 1)) (hv : v.category = 1) (k : Rn G κ (pc + 1) lv (st) C M hl) : Rn G κ pc lv (v :: st) C M hl := fun H locs ls hP hS hL => lv_pop X.1 X.2.1 d hv (k H locs ls hP hS hL)
theorem r_iload_n {f : Fin 4} {x : Int32} (X : Cx G κ cc nL own ret R) (d : decode cc pc = .ok (.iload_n f, 1)) (hv : lv[(f : Nat)]? = some (some (.int x))) (k : Rn G κ (pc + 1) lv (.int x :: st) C M hl) : Rn G κ pc lv (st) C M hl := fun H locs ls hP hS hL => lv_iload_n X.1 X.2.1 d rfl (lvs_get hL hv) (k H locs ls hP hS hL)
theorem r_iload {i : Nat} {x : Int32} (X : Cx G κ cc nL own ret R) (d : decode cc pc = .ok (.iload i, 2)) (hv : lv[i]? = some (some (.int x))) (k : Rn G κ (pc + 2) lv (.int x :: st) C M hl) : Rn G κ pc lv (st) C M hl := fun H locs ls hP hS hL => lv_iload X.1 X.2.1 d (lvs_get hL hv) (k H locs ls hP hS hL)
theorem r_lload_n {f : Fin 4} {x : Int64} (X : Cx G κ cc nL own ret R) (d : decode cc pc = .ok (.lload_n f, 1)) (hv : lv[(f : Nat)]? = some (some (.long x))) (k : Rn G κ (pc + 1) lv (.long x :: st) C M hl) : Rn G κ pc lv (st) C M hl := fun H locs ls hP hS hL => lv_lload_n X.1 X.2.1 d rfl (lvs_get hL hv) (k H locs ls hP hS hL)
theorem r_lload {i : Nat} {x : Int64} (X : Cx G κ cc nL own ret R) (d : decode cc pc = .ok (.lload i, 2)) (hv : lv[i]? = some (some (.long x))) (k : Rn G κ (pc + 2) lv (.long x :: st) C M hl) : Rn G κ pc lv (st) C M hl := fun H locs ls hP hS hL => lv_lload X.1 X.2.1 d (lvs_get hL hv) (k H locs ls hP hS hL)
theorem r_aload_n {f : Fin 4} {x : Nat} (X : Cx G κ cc nL own ret R) (d : decode cc pc = .ok (.aload_n f, 1)) (hv : lv[(f : Nat)]? = some (some (.ref x))) (k : Rn G κ (pc + 1) lv (.ref x :: st) C M hl) : Rn G κ pc lv (st) C M hl := fun H locs ls hP hS hL => lv_aload_n X.1 X.2.1 d rfl (lvs_get hL hv) (k H locs ls hP hS hL)
theorem r_istore_ng {f : Fin 4} {x : Int32} {lv' : List (Option Value)} (X : Cx G κ cc nL own ret R) (d : decode cc pc = .ok (.istore_n f, 1)) (hn : nolong lv f = true) (hi : (f : Nat) < lv.length) (hs : lv' = lv.set f (some (.int x))) (k : Rn G κ (pc + 1) lv' st C M hl) : Rn G κ pc lv (.int x :: st) C M hl := fun H locs ls hP hS hL => lv_istore_n X.1 X.2.1 d rfl hL hi rfl (fun ls' hL' => k H locs ls' hP hS (lvs_set hn hs hi hL'))
theorem r_istore_g {i : Nat} {x : Int32} {lv' : List (Option Value)} (X : Cx G κ cc nL own ret R) (d : decode cc pc = .ok (.istore i, 2)) (hn : nolong lv i = true) (hi : i < lv.length) (hs : lv' = lv.set i (some (.int x))) (k : Rn G κ (pc + 2) lv' st C M hl) : Rn G κ pc lv (.int x :: st) C M hl := fun H locs ls hP hS hL => lv_istore X.1 X.2.1 d hL hi rfl (fun ls' hL' => k H locs ls' hP hS (lvs_set hn hs hi hL'))
theorem r_astore_ng {f : Fin 4} {x : Nat} {lv' : List (Option Value)} (X : Cx G κ cc nL own ret R) (d : decode cc pc = .ok (.astore_n f, 1)) (hn : nolong lv f = true) (hi : (f : Nat) < lv.length) (hs : lv' = lv.set f (some (.ref x))) (k : Rn G κ (pc + 1) lv' st C M hl) : Rn G κ pc lv (.ref x :: st) C M hl := fun H locs ls hP hS hL => lv_astore_n X.1 X.2.1 d rfl hL hi rfl (fun ls' hL' => k H locs ls' hP hS (lvs_set hn hs hi hL'))
theorem r_lstore_ng {f : Fin 4} {x : Int64} {lv' : List (Option Value)} (X : Cx G κ cc nL own ret R) (d : decode cc pc = .ok (.lstore_n f, 1)) (hn : nolong lv f = true) (hi : (f : Nat) + 1 < lv.length) (hs : lv' = (lv.set f (some (.long x))).set (f + 1) none) (k : Rn G κ (pc + 1) lv' st C M hl) : Rn G κ pc lv (.long x :: st) C M hl := fun H locs ls hP hS hL => lv_lstore_n X.1 X.2.1 d rfl hL hi rfl (fun ls' hL' => k H locs ls' hP hS (lvs_set2 hn hs hi hL'))
theorem r_lstore_g {i : Nat} {x : Int64} {lv' : List (Option Value)} (X : Cx G κ cc nL own ret R) (d : decode cc pc = .ok (.lstore i, 2)) (hn : nolong lv i = true) (hi : i + 1 < lv.length) (hs : lv' = (lv.set i (some (.long x))).set (i + 1) none) (k : Rn G κ (pc + 2) lv' st C M hl) : Rn G κ pc lv (.long x :: st) C M hl := fun H locs ls hP hS hL => lv_lstore X.1 X.2.1 d hL hi rfl (fun ls' hL' => k H locs ls' hP hS (lvs_set2 hn hs hi hL'))
theorem r_iinc_g {i : Nat} {n : Int} {x v : Int32} {lv' : List (Option Value)} (X : Cx G κ cc nL own ret R) (d : decode cc pc = .ok (.iinc i n, 3)) (hx : lv[i]? = some (some (.int x))) (hv : x + Int32.ofInt n = v) (hn : nolong lv i = true) (hi : i < lv.length) (hs : lv' = lv.set i (some (.int v))) (k : Rn G κ (pc + 3) lv' st C M hl) : Rn G κ pc lv st C M hl := by
  intro H locs ls hP hS hL
  obtain ⟨q, hq⟩ := List.getElem?_of_mem ((asc_mem lv 0 i (.int x)).mpr ⟨i, by omega, hx⟩)
  exact lv_iinc X.1 X.2.1 d hL hq hv hi rfl (fun ls' hL' => k H locs ls' hP hS (lvs_set hn hs hi hL'))
theorem r_istore_0 {x0 : Option Value} {tl : List (Option Value)} {x : Int32} (X : Cx G κ cc nL own ret R) (d : decode cc pc = .ok (.istore_n 0, 1)) (k : Rn G κ (pc + 1) (some (.int x) :: tl) st C M hl) : Rn G κ pc (x0 :: tl) (.int x :: st) C M hl := r_istore_ng X d rfl (show 0 < _ by simp only [List.length_cons]; omega) rfl k
theorem r_astore_0 {x0 : Option Value} {tl : List (Option Value)} {x : Nat} (X : Cx G κ cc nL own ret R) (d : decode cc pc = .ok (.astore_n 0, 1)) (k : Rn G κ (pc + 1) (some (.ref x) :: tl) st C M hl) : Rn G κ pc (x0 :: tl) (.ref x :: st) C M hl := r_astore_ng X d rfl (show 0 < _ by simp only [List.length_cons]; omega) rfl k
theorem r_iinc_0 {tl : List (Option Value)} {n : Int} {x : Int32} (v : Int32) (X : Cx G κ cc nL own ret R) (d : decode cc pc = .ok (.iinc 0 n, 3)) (hv : x + Int32.ofInt n = v) (k : Rn G κ (pc + 3) (some (.int v) :: tl) st C M hl) : Rn G κ pc (some (.int x) :: tl) st C M hl := r_iinc_g X d (by simp) hv rfl (by simp) rfl k
theorem r_lstore_0 {x0 x1 : Option Value} {tl : List (Option Value)} {x : Int64} (X : Cx G κ cc nL own ret R) (d : decode cc pc = .ok (.lstore_n 0, 1)) (k : Rn G κ (pc + 1) (some (.long x) :: none :: tl) st C M hl) : Rn G κ pc (x0 :: x1 :: tl) (.long x :: st) C M hl := r_lstore_ng X d rfl (show 0 + 1 < _ by simp only [List.length_cons]; omega) rfl k
theorem r_istore_1 {x0 x1 : Option Value} {tl : List (Option Value)} {x : Int32} (X : Cx G κ cc nL own ret R) (d : decode cc pc = .ok (.istore_n 1, 1)) (hn : nolong (x0 :: x1 :: tl) 1 = true) (k : Rn G κ (pc + 1) (x0 :: some (.int x) :: tl) st C M hl) : Rn G κ pc (x0 :: x1 :: tl) (.int x :: st) C M hl := r_istore_ng X d hn (show 1 < _ by simp only [List.length_cons]; omega) rfl k
theorem r_astore_1 {x0 x1 : Option Value} {tl : List (Option Value)} {x : Nat} (X : Cx G κ cc nL own ret R) (d : decode cc pc = .ok (.astore_n 1, 1)) (hn : nolong (x0 :: x1 :: tl) 1 = true) (k : Rn G κ (pc + 1) (x0 :: some (.ref x) :: tl) st C M hl) : Rn G κ pc (x0 :: x1 :: tl) (.ref x :: st) C M hl := r_astore_ng X d hn (show 1 < _ by simp only [List.length_cons]; omega) rfl k
theorem r_iinc_1 {x0 : Option Value} {tl : List (Option Value)} {n : Int} {x : Int32} (v : Int32) (X : Cx G κ cc nL own ret R) (d : decode cc pc = .ok (.iinc 1 n, 3)) (hv : x + Int32.ofInt n = v) (hn : nolong (x0 :: some (.int x) :: tl) 1 = true) (k : Rn G κ (pc + 3) (x0 :: some (.int v) :: tl) st C M hl) : Rn G κ pc (x0 :: some (.int x) :: tl) st C M hl := r_iinc_g X d (by simp) hv hn (by simp) rfl k
theorem r_lstore_1 {x0 x1 x2 : Option Value} {tl : List (Option Value)} {x : Int64} (X : Cx G κ cc nL own ret R) (d : decode cc pc = .ok (.lstore_n 1, 1)) (hn : nolong (x0 :: x1 :: x2 :: tl) 1 = true) (k : Rn G κ (pc + 1) (x0 :: some (.long x) :: none :: tl) st C M hl) : Rn G κ pc (x0 :: x1 :: x2 :: tl) (.long x :: st) C M hl := r_lstore_ng X d hn (show 1 + 1 < _ by simp only [List.length_cons]; omega) rfl k
theorem r_istore_2 {x0 x1 x2 : Option Value} {tl : List (Option Value)} {x : Int32} (X : Cx G κ cc nL own ret R) (d : decode cc pc = .ok (.istore_n 2, 1)) (hn : nolong (x0 :: x1 :: x2 :: tl) 2 = true) (k : Rn G κ (pc + 1) (x0 :: x1 :: some (.int x) :: tl) st C M hl) : Rn G κ pc (x0 :: x1 :: x2 :: tl) (.int x :: st) C M hl := r_istore_ng X d hn (show 2 < _ by simp only [List.length_cons]; omega) rfl k
theorem r_astore_2 {x0 x1 x2 : Option Value} {tl : List (Option Value)} {x : Nat} (X : Cx G κ cc nL own ret R) (d : decode cc pc = .ok (.astore_n 2, 1)) (hn : nolong (x0 :: x1 :: x2 :: tl) 2 = true) (k : Rn G κ (pc + 1) (x0 :: x1 :: some (.ref x) :: tl) st C M hl) : Rn G κ pc (x0 :: x1 :: x2 :: tl) (.ref x :: st) C M hl := r_astore_ng X d hn (show 2 < _ by simp only [List.length_cons]; omega) rfl k
theorem r_iinc_2 {x0 x1 : Option Value} {tl : List (Option Value)} {n : Int} {x : Int32} (v : Int32) (X : Cx G κ cc nL own ret R) (d : decode cc pc = .ok (.iinc 2 n, 3)) (hv : x + Int32.ofInt n = v) (hn : nolong (x0 :: x1 :: some (.int x) :: tl) 2 = true) (k : Rn G κ (pc + 3) (x0 :: x1 :: some (.int v) :: tl) st C M hl) : Rn G κ pc (x0 :: x1 :: some (.int x) :: tl) st C M hl := r_iinc_g X d (by simp) hv hn (by simp) rfl k
theorem r_lstore_2 {x0 x1 x2 x3 : Option Value} {tl : List (Option Value)} {x : Int64} (X : Cx G κ cc nL own ret R) (d : decode cc pc = .ok (.lstore_n 2, 1)) (hn : nolong (x0 :: x1 :: x2 :: x3 :: tl) 2 = true) (k : Rn G κ (pc + 1) (x0 :: x1 :: some (.long x) :: none :: tl) st C M hl) : Rn G κ pc (x0 :: x1 :: x2 :: x3 :: tl) (.long x :: st) C M hl := r_lstore_ng X d hn (show 2 + 1 < _ by simp only [List.length_cons]; omega) rfl k
theorem r_istore_3 {x0 x1 x2 x3 : Option Value} {tl : List (Option Value)} {x : Int32} (X : Cx G κ cc nL own ret R) (d : decode cc pc = .ok (.istore_n 3, 1)) (hn : nolong (x0 :: x1 :: x2 :: x3 :: tl) 3 = true) (k : Rn G κ (pc + 1) (x0 :: x1 :: x2 :: some (.int x) :: tl) st C M hl) : Rn G κ pc (x0 :: x1 :: x2 :: x3 :: tl) (.int x :: st) C M hl := r_istore_ng X d hn (show 3 < _ by simp only [List.length_cons]; omega) rfl k
theorem r_astore_3 {x0 x1 x2 x3 : Option Value} {tl : List (Option Value)} {x : Nat} (X : Cx G κ cc nL own ret R) (d : decode cc pc = .ok (.astore_n 3, 1)) (hn : nolong (x0 :: x1 :: x2 :: x3 :: tl) 3 = true) (k : Rn G κ (pc + 1) (x0 :: x1 :: x2 :: some (.ref x) :: tl) st C M hl) : Rn G κ pc (x0 :: x1 :: x2 :: x3 :: tl) (.ref x :: st) C M hl := r_astore_ng X d hn (show 3 < _ by simp only [List.length_cons]; omega) rfl k
theorem r_iinc_3 {x0 x1 x2 : Option Value} {tl : List (Option Value)} {n : Int} {x : Int32} (v : Int32) (X : Cx G κ cc nL own ret R) (d : decode cc pc = .ok (.iinc 3 n, 3)) (hv : x + Int32.ofInt n = v) (hn : nolong (x0 :: x1 :: x2 :: some (.int x) :: tl) 3 = true) (k : Rn G κ (pc + 3) (x0 :: x1 :: x2 :: some (.int v) :: tl) st C M hl) : Rn G κ pc (x0 :: x1 :: x2 :: some (.int x) :: tl) st C M hl := r_iinc_g X d (by simp) hv hn (by simp) rfl k
theorem r_lstore_3 {x0 x1 x2 x3 x4 : Option Value} {tl : List (Option Value)} {x : Int64} (X : Cx G κ cc nL own ret R) (d : decode cc pc = .ok (.lstore_n 3, 1)) (hn : nolong (x0 :: x1 :: x2 :: x3 :: x4 :: tl) 3 = true) (k : Rn G κ (pc + 1) (x0 :: x1 :: x2 :: some (.long x) :: none :: tl) st C M hl) : Rn G κ pc (x0 :: x1 :: x2 :: x3 :: x4 :: tl) (.long x :: st) C M hl := r_lstore_ng X d hn (show 3 + 1 < _ by simp only [List.length_cons]; omega) rfl k
theorem r_istore_4 {x0 x1 x2 x3 x4 : Option Value} {tl : List (Option Value)} {x : Int32} (X : Cx G κ cc nL own ret R) (d : decode cc pc = .ok (.istore 4, 2)) (hn : nolong (x0 :: x1 :: x2 :: x3 :: x4 :: tl) 4 = true) (k : Rn G κ (pc + 2) (x0 :: x1 :: x2 :: x3 :: some (.int x) :: tl) st C M hl) : Rn G κ pc (x0 :: x1 :: x2 :: x3 :: x4 :: tl) (.int x :: st) C M hl := r_istore_g X d hn (by simp) rfl k
theorem r_iinc_4 {x0 x1 x2 x3 : Option Value} {tl : List (Option Value)} {n : Int} {x : Int32} (v : Int32) (X : Cx G κ cc nL own ret R) (d : decode cc pc = .ok (.iinc 4 n, 3)) (hv : x + Int32.ofInt n = v) (hn : nolong (x0 :: x1 :: x2 :: x3 :: some (.int x) :: tl) 4 = true) (k : Rn G κ (pc + 3) (x0 :: x1 :: x2 :: x3 :: some (.int v) :: tl) st C M hl) : Rn G κ pc (x0 :: x1 :: x2 :: x3 :: some (.int x) :: tl) st C M hl := r_iinc_g X d (by simp) hv hn (by simp) rfl k
theorem r_lstore_4 {x0 x1 x2 x3 x4 x5 : Option Value} {tl : List (Option Value)} {x : Int64} (X : Cx G κ cc nL own ret R) (d : decode cc pc = .ok (.lstore 4, 2)) (hn : nolong (x0 :: x1 :: x2 :: x3 :: x4 :: x5 :: tl) 4 = true) (k : Rn G κ (pc + 2) (x0 :: x1 :: x2 :: x3 :: some (.long x) :: none :: tl) st C M hl) : Rn G κ pc (x0 :: x1 :: x2 :: x3 :: x4 :: x5 :: tl) (.long x :: st) C M hl := r_lstore_g X d hn (by simp) rfl k
theorem r_istore_5 {x0 x1 x2 x3 x4 x5 : Option Value} {tl : List (Option Value)} {x : Int32} (X : Cx G κ cc nL own ret R) (d : decode cc pc = .ok (.istore 5, 2)) (hn : nolong (x0 :: x1 :: x2 :: x3 :: x4 :: x5 :: tl) 5 = true) (k : Rn G κ (pc + 2) (x0 :: x1 :: x2 :: x3 :: x4 :: some (.int x) :: tl) st C M hl) : Rn G κ pc (x0 :: x1 :: x2 :: x3 :: x4 :: x5 :: tl) (.int x :: st) C M hl := r_istore_g X d hn (by simp) rfl k
theorem r_iinc_5 {x0 x1 x2 x3 x4 : Option Value} {tl : List (Option Value)} {n : Int} {x : Int32} (v : Int32) (X : Cx G κ cc nL own ret R) (d : decode cc pc = .ok (.iinc 5 n, 3)) (hv : x + Int32.ofInt n = v) (hn : nolong (x0 :: x1 :: x2 :: x3 :: x4 :: some (.int x) :: tl) 5 = true) (k : Rn G κ (pc + 3) (x0 :: x1 :: x2 :: x3 :: x4 :: some (.int v) :: tl) st C M hl) : Rn G κ pc (x0 :: x1 :: x2 :: x3 :: x4 :: some (.int x) :: tl) st C M hl := r_iinc_g X d (by simp) hv hn (by simp) rfl k
theorem r_lstore_5 {x0 x1 x2 x3 x4 x5 x6 : Option Value} {tl : List (Option Value)} {x : Int64} (X : Cx G κ cc nL own ret R) (d : decode cc pc = .ok (.lstore 5, 2)) (hn : nolong (x0 :: x1 :: x2 :: x3 :: x4 :: x5 :: x6 :: tl) 5 = true) (k : Rn G κ (pc + 2) (x0 :: x1 :: x2 :: x3 :: x4 :: some (.long x) :: none :: tl) st C M hl) : Rn G κ pc (x0 :: x1 :: x2 :: x3 :: x4 :: x5 :: x6 :: tl) (.long x :: st) C M hl := r_lstore_g X d hn (by simp) rfl k
theorem r_istore_6 {x0 x1 x2 x3 x4 x5 x6 : Option Value} {tl : List (Option Value)} {x : Int32} (X : Cx G κ cc nL own ret R) (d : decode cc pc = .ok (.istore 6, 2)) (hn : nolong (x0 :: x1 :: x2 :: x3 :: x4 :: x5 :: x6 :: tl) 6 = true) (k : Rn G κ (pc + 2) (x0 :: x1 :: x2 :: x3 :: x4 :: x5 :: some (.int x) :: tl) st C M hl) : Rn G κ pc (x0 :: x1 :: x2 :: x3 :: x4 :: x5 :: x6 :: tl) (.int x :: st) C M hl := r_istore_g X d hn (by simp) rfl k
theorem r_iinc_6 {x0 x1 x2 x3 x4 x5 : Option Value} {tl : List (Option Value)} {n : Int} {x : Int32} (v : Int32) (X : Cx G κ cc nL own ret R) (d : decode cc pc = .ok (.iinc 6 n, 3)) (hv : x + Int32.ofInt n = v) (hn : nolong (x0 :: x1 :: x2 :: x3 :: x4 :: x5 :: some (.int x) :: tl) 6 = true) (k : Rn G κ (pc + 3) (x0 :: x1 :: x2 :: x3 :: x4 :: x5 :: some (.int v) :: tl) st C M hl) : Rn G κ pc (x0 :: x1 :: x2 :: x3 :: x4 :: x5 :: some (.int x) :: tl) st C M hl := r_iinc_g X d (by simp) hv hn (by simp) rfl k
theorem r_lstore_6 {x0 x1 x2 x3 x4 x5 x6 x7 : Option Value} {tl : List (Option Value)} {x : Int64} (X : Cx G κ cc nL own ret R) (d : decode cc pc = .ok (.lstore 6, 2)) (hn : nolong (x0 :: x1 :: x2 :: x3 :: x4 :: x5 :: x6 :: x7 :: tl) 6 = true) (k : Rn G κ (pc + 2) (x0 :: x1 :: x2 :: x3 :: x4 :: x5 :: some (.long x) :: none :: tl) st C M hl) : Rn G κ pc (x0 :: x1 :: x2 :: x3 :: x4 :: x5 :: x6 :: x7 :: tl) (.long x :: st) C M hl := r_lstore_g X d hn (by simp) rfl k
theorem r_istore_7 {x0 x1 x2 x3 x4 x5 x6 x7 : Option Value} {tl : List (Option Value)} {x : Int32} (X : Cx G κ cc nL own ret R) (d : decode cc pc = .ok (.istore 7, 2)) (hn : nolong (x0 :: x1 :: x2 :: x3 :: x4 :: x5 :: x6 :: x7 :: tl) 7 = true) (k : Rn G κ (pc + 2) (x0 :: x1 :: x2 :: x3 :: x4 :: x5 :: x6 :: some (.int x) :: tl) st C M hl) : Rn G κ pc (x0 :: x1 :: x2 :: x3 :: x4 :: x5 :: x6 :: x7 :: tl) (.int x :: st) C M hl := r_istore_g X d hn (by simp) rfl k
theorem r_iinc_7 {x0 x1 x2 x3 x4 x5 x6 : Option Value} {tl : List (Option Value)} {n : Int} {x : Int32} (v : Int32) (X : Cx G κ cc nL own ret R) (d : decode cc pc = .ok (.iinc 7 n, 3)) (hv : x + Int32.ofInt n = v) (hn : nolong (x0 :: x1 :: x2 :: x3 :: x4 :: x5 :: x6 :: some (.int x) :: tl) 7 = true) (k : Rn G κ (pc + 3) (x0 :: x1 :: x2 :: x3 :: x4 :: x5 :: x6 :: some (.int v) :: tl) st C M hl) : Rn G κ pc (x0 :: x1 :: x2 :: x3 :: x4 :: x5 :: x6 :: some (.int x) :: tl) st C M hl := r_iinc_g X d (by simp) hv hn (by simp) rfl k
theorem r_lstore_7 {x0 x1 x2 x3 x4 x5 x6 x7 x8 : Option Value} {tl : List (Option Value)} {x : Int64} (X : Cx G κ cc nL own ret R) (d : decode cc pc = .ok (.lstore 7, 2)) (hn : nolong (x0 :: x1 :: x2 :: x3 :: x4 :: x5 :: x6 :: x7 :: x8 :: tl) 7 = true) (k : Rn G κ (pc + 2) (x0 :: x1 :: x2 :: x3 :: x4 :: x5 :: x6 :: some (.long x) :: none :: tl) st C M hl) : Rn G κ pc (x0 :: x1 :: x2 :: x3 :: x4 :: x5 :: x6 :: x7 :: x8 :: tl) (.long x :: st) C M hl := r_lstore_g X d hn (by simp) rfl k
theorem r_istore_8 {x0 x1 x2 x3 x4 x5 x6 x7 x8 : Option Value} {tl : List (Option Value)} {x : Int32} (X : Cx G κ cc nL own ret R) (d : decode cc pc = .ok (.istore 8, 2)) (hn : nolong (x0 :: x1 :: x2 :: x3 :: x4 :: x5 :: x6 :: x7 :: x8 :: tl) 8 = true) (k : Rn G κ (pc + 2) (x0 :: x1 :: x2 :: x3 :: x4 :: x5 :: x6 :: x7 :: some (.int x) :: tl) st C M hl) : Rn G κ pc (x0 :: x1 :: x2 :: x3 :: x4 :: x5 :: x6 :: x7 :: x8 :: tl) (.int x :: st) C M hl := r_istore_g X d hn (by simp) rfl k
theorem r_iinc_8 {x0 x1 x2 x3 x4 x5 x6 x7 : Option Value} {tl : List (Option Value)} {n : Int} {x : Int32} (v : Int32) (X : Cx G κ cc nL own ret R) (d : decode cc pc = .ok (.iinc 8 n, 3)) (hv : x + Int32.ofInt n = v) (hn : nolong (x0 :: x1 :: x2 :: x3 :: x4 :: x5 :: x6 :: x7 :: some (.int x) :: tl) 8 = true) (k : Rn G κ (pc + 3) (x0 :: x1 :: x2 :: x3 :: x4 :: x5 :: x6 :: x7 :: some (.int v) :: tl) st C M hl) : Rn G κ pc (x0 :: x1 :: x2 :: x3 :: x4 :: x5 :: x6 :: x7 :: some (.int x) :: tl) st C M hl := r_iinc_g X d (by simp) hv hn (by simp) rfl k
theorem r_lstore_8 {x0 x1 x2 x3 x4 x5 x6 x7 x8 x9 : Option Value} {tl : List (Option Value)} {x : Int64} (X : Cx G κ cc nL own ret R) (d : decode cc pc = .ok (.lstore 8, 2)) (hn : nolong (x0 :: x1 :: x2 :: x3 :: x4 :: x5 :: x6 :: x7 :: x8 :: x9 :: tl) 8 = true) (k : Rn G κ (pc + 2) (x0 :: x1 :: x2 :: x3 :: x4 :: x5 :: x6 :: x7 :: some (.long x) :: none :: tl) st C M hl) : Rn G κ pc (x0 :: x1 :: x2 :: x3 :: x4 :: x5 :: x6 :: x7 :: x8 :: x9 :: tl) (.long x :: st) C M hl := r_lstore_g X d hn (by simp) rfl k
theorem r_istore_9 {x0 x1 x2 x3 x4 x5 x6 x7 x8 x9 : Option Value} {tl : List (Option Value)} {x : Int32} (X : Cx G κ cc nL own ret R) (d : decode cc pc = .ok (.istore 9, 2)) (hn : nolong (x0 :: x1 :: x2 :: x3 :: x4 :: x5 :: x6 :: x7 :: x8 :: x9 :: tl) 9 = true) (k : Rn G κ (pc + 2) (x0 :: x1 :: x2 :: x3 :: x4 :: x5 :: x6 :: x7 :: x8 :: some (.int x) :: tl) st C M hl) : Rn G κ pc (x0 :: x1 :: x2 :: x3 :: x4 :: x5 :: x6 :: x7 :: x8 :: x9 :: tl) (.int x :: st) C M hl := r_istore_g X d hn (by simp) rfl k
theorem r_iinc_9 {x0 x1 x2 x3 x4 x5 x6 x7 x8 : Option Value} {tl : List (Option Value)} {n : Int} {x : Int32} (v : Int32) (X : Cx G κ cc nL own ret R) (d : decode cc pc = .ok (.iinc 9 n, 3)) (hv : x + Int32.ofInt n = v) (hn : nolong (x0 :: x1 :: x2 :: x3 :: x4 :: x5 :: x6 :: x7 :: x8 :: some (.int x) :: tl) 9 = true) (k : Rn G κ (pc + 3) (x0 :: x1 :: x2 :: x3 :: x4 :: x5 :: x6 :: x7 :: x8 :: some (.int v) :: tl) st C M hl) : Rn G κ pc (x0 :: x1 :: x2 :: x3 :: x4 :: x5 :: x6 :: x7 :: x8 :: some (.int x) :: tl) st C M hl := r_iinc_g X d (by simp) hv hn (by simp) rfl k
theorem r_lstore_9 {x0 x1 x2 x3 x4 x5 x6 x7 x8 x9 x10 : Option Value} {tl : List (Option Value)} {x : Int64} (X : Cx G κ cc nL own ret R) (d : decode cc pc = .ok (.lstore 9, 2)) (hn : nolong (x0 :: x1 :: x2 :: x3 :: x4 :: x5 :: x6 :: x7 :: x8 :: x9 :: x10 :: tl) 9 = true) (k : Rn G κ (pc + 2) (x0 :: x1 :: x2 :: x3 :: x4 :: x5 :: x6 :: x7 :: x8 :: some (.long x) :: none :: tl) st C M hl) : Rn G κ pc (x0 :: x1 :: x2 :: x3 :: x4 :: x5 :: x6 :: x7 :: x8 :: x9 :: x10 :: tl) (.long x :: st) C M hl := r_lstore_g X d hn (by simp) rfl k
theorem r_goto {off : Int} (tgt : Nat) (X : Cx G κ cc nL own ret R) (d : decode cc pc = .ok (.goto off, 3)) (ht : (pc : Int) + off = (tgt : Int)) (k : Rn G κ tgt lv st C M hl) : Rn G κ pc lv st C M hl := fun H locs ls hP hS hL => lv_goto X.1 X.2.1 d ht (k H locs ls hP hS hL)
theorem r_ifeq {x : Int32} {off : Int} (tgt : Nat) (X : Cx G κ cc nL own ret R) (d : decode cc pc = .ok (.ifCond .eq off, 3)) (ht : (pc : Int) + off = (tgt : Int)) (kt : x = 0 → Rn G κ tgt lv st C M hl) (kf : ¬ x = 0 → Rn G κ (pc + 3) lv st C M hl) : Rn G κ pc lv (.int x :: st) C M hl := fun H locs ls hP hS hL => lv_if_eq X.1 X.2.1 d ht (fun c => kt c H locs ls hP hS hL) (fun c => kf c H locs ls hP hS hL)
theorem r_icmpeq {x y : Int32} {off : Int} (tgt : Nat) (X : Cx G κ cc nL own ret R) (d : decode cc pc = .ok (.if_icmp .eq off, 3)) (ht : (pc : Int) + off = (tgt : Int)) (kt : x = y → Rn G κ tgt lv st C M hl) (kf : ¬ x = y → Rn G κ (pc + 3) lv st C M hl) : Rn G κ pc lv (.int y :: .int x :: st) C M hl := fun H locs ls hP hS hL => lv_icmp_eq X.1 X.2.1 d ht (fun c => kt c H locs ls hP hS hL) (fun c => kf c H locs ls hP hS hL)
theorem r_ifne {x : Int32} {off : Int} (tgt : Nat) (X : Cx G κ cc nL own ret R) (d : decode cc pc = .ok (.ifCond .ne off, 3)) (ht : (pc : Int) + off = (tgt : Int)) (kt : ¬ x = 0 → Rn G κ tgt lv st C M hl) (kf : x = 0 → Rn G κ (pc + 3) lv st C M hl) : Rn G κ pc lv (.int x :: st) C M hl := fun H locs ls hP hS hL => lv_if_ne X.1 X.2.1 d ht (fun c => kt c H locs ls hP hS hL) (fun c => kf c H locs ls hP hS hL)
theorem r_icmpne {x y : Int32} {off : Int} (tgt : Nat) (X : Cx G κ cc nL own ret R) (d : decode cc pc = .ok (.if_icmp .ne off, 3)) (ht : (pc : Int) + off = (tgt : Int)) (kt : ¬ x = y → Rn G κ tgt lv st C M hl) (kf : x = y → Rn G κ (pc + 3) lv st C M hl) : Rn G κ pc lv (.int y :: .int x :: st) C M hl := fun H locs ls hP hS hL => lv_icmp_ne X.1 X.2.1 d ht (fun c => kt c H locs ls hP hS hL) (fun c => kf c H locs ls hP hS hL)
theorem r_iflt {x : Int32} {off : Int} (tgt : Nat) (X : Cx G κ cc nL own ret R) (d : decode cc pc = .ok (.ifCond .lt off, 3)) (ht : (pc : Int) + off = (tgt : Int)) (kt : x < 0 → Rn G κ tgt lv st C M hl) (kf : ¬ x < 0 → Rn G κ (pc + 3) lv st C M hl) : Rn G κ pc lv (.int x :: st) C M hl := fun H locs ls hP hS hL => lv_if_lt X.1 X.2.1 d ht (fun c => kt c H locs ls hP hS hL) (fun c => kf c H locs ls hP hS hL)
theorem r_icmplt {x y : Int32} {off : Int} (tgt : Nat) (X : Cx G κ cc nL own ret R) (d : decode cc pc = .ok (.if_icmp .lt off, 3)) (ht : (pc : Int) + off = (tgt : Int)) (kt : x < y → Rn G κ tgt lv st C M hl) (kf : ¬ x < y → Rn G κ (pc + 3) lv st C M hl) : Rn G κ pc lv (.int y :: .int x :: st) C M hl := fun H locs ls hP hS hL => lv_icmp_lt X.1 X.2.1 d ht (fun c => kt c H locs ls hP hS hL) (fun c => kf c H locs ls hP hS hL)
theorem r_ifge {x : Int32} {off : Int} (tgt : Nat) (X : Cx G κ cc nL own ret R) (d : decode cc pc = .ok (.ifCond .ge off, 3)) (ht : (pc : Int) + off = (tgt : Int)) (kt : 0 ≤ x → Rn G κ tgt lv st C M hl) (kf : ¬ 0 ≤ x → Rn G κ (pc + 3) lv st C M hl) : Rn G κ pc lv (.int x :: st) C M hl := fun H locs ls hP hS hL => lv_if_ge X.1 X.2.1 d ht (fun c => kt c H locs ls hP hS hL) (fun c => kf c H locs ls hP hS hL)
theorem r_icmpge {x y : Int32} {off : Int} (tgt : Nat) (X : Cx G κ cc nL own ret R) (d : decode cc pc = .ok (.if_icmp .ge off, 3)) (ht : (pc : Int) + off = (tgt : Int)) (kt : y ≤ x → Rn G κ tgt lv st C M hl) (kf : ¬ y ≤ x → Rn G κ (pc + 3) lv st C M hl) : Rn G κ pc lv (.int y :: .int x :: st) C M hl := fun H locs ls hP hS hL => lv_icmp_ge X.1 X.2.1 d ht (fun c => kt c H locs ls hP hS hL) (fun c => kf c H locs ls hP hS hL)
theorem r_ifgt {x : Int32} {off : Int} (tgt : Nat) (X : Cx G κ cc nL own ret R) (d : decode cc pc = .ok (.ifCond .gt off, 3)) (ht : (pc : Int) + off = (tgt : Int)) (kt : 0 < x → Rn G κ tgt lv st C M hl) (kf : ¬ 0 < x → Rn G κ (pc + 3) lv st C M hl) : Rn G κ pc lv (.int x :: st) C M hl := fun H locs ls hP hS hL => lv_if_gt X.1 X.2.1 d ht (fun c => kt c H locs ls hP hS hL) (fun c => kf c H locs ls hP hS hL)
theorem r_icmpgt {x y : Int32} {off : Int} (tgt : Nat) (X : Cx G κ cc nL own ret R) (d : decode cc pc = .ok (.if_icmp .gt off, 3)) (ht : (pc : Int) + off = (tgt : Int)) (kt : y < x → Rn G κ tgt lv st C M hl) (kf : ¬ y < x → Rn G κ (pc + 3) lv st C M hl) : Rn G κ pc lv (.int y :: .int x :: st) C M hl := fun H locs ls hP hS hL => lv_icmp_gt X.1 X.2.1 d ht (fun c => kt c H locs ls hP hS hL) (fun c => kf c H locs ls hP hS hL)
theorem r_ifle {x : Int32} {off : Int} (tgt : Nat) (X : Cx G κ cc nL own ret R) (d : decode cc pc = .ok (.ifCond .le off, 3)) (ht : (pc : Int) + off = (tgt : Int)) (kt : x ≤ 0 → Rn G κ tgt lv st C M hl) (kf : ¬ x ≤ 0 → Rn G κ (pc + 3) lv st C M hl) : Rn G κ pc lv (.int x :: st) C M hl := fun H locs ls hP hS hL => lv_if_le X.1 X.2.1 d ht (fun c => kt c H locs ls hP hS hL) (fun c => kf c H locs ls hP hS hL)
theorem r_icmple {x y : Int32} {off : Int} (tgt : Nat) (X : Cx G κ cc nL own ret R) (d : decode cc pc = .ok (.if_icmp .le off, 3)) (ht : (pc : Int) + off = (tgt : Int)) (kt : x ≤ y → Rn G κ tgt lv st C M hl) (kf : ¬ x ≤ y → Rn G κ (pc + 3) lv st C M hl) : Rn G κ pc lv (.int y :: .int x :: st) C M hl := fun H locs ls hP hS hL => lv_icmp_le X.1 X.2.1 d ht (fun c => kt c H locs ls hP hS hL) (fun c => kf c H locs ls hP hS hL)
theorem r_tblIn {dflt lo hi : Int} {offs : Array Int} {len : Nat} {x : Int32} {off : Int} (tgt : Nat) (X : Cx G κ cc nL own ret R) (d : decode cc pc = .ok (.tableswitch dflt lo hi offs, len)) (h1 : ¬ x.toInt < lo) (h2 : ¬ hi < x.toInt) (ho : offs[(x.toInt - lo).toNat]? = some off) (ht : (pc : Int) + off = (tgt : Int)) (k : Rn G κ tgt lv st C M hl) : Rn G κ pc lv (.int x :: st) C M hl := fun H locs ls hP hS hL => lv_tableIn X.1 X.2.1 d h1 h2 ho ht (k H locs ls hP hS hL)
theorem r_tblOut {dflt lo hi : Int} {offs : Array Int} {len : Nat} {x : Int32} (tgt : Nat) (X : Cx G κ cc nL own ret R) (d : decode cc pc = .ok (.tableswitch dflt lo hi offs, len)) (h : x.toInt < lo ∨ hi < x.toInt) (ht : (pc : Int) + dflt = (tgt : Int)) (k : Rn G κ tgt lv st C M hl) : Rn G κ pc lv (.int x :: st) C M hl := fun H locs ls hP hS hL => lv_tableOut X.1 X.2.1 d h ht (k H locs ls hP hS hL)
theorem r_lookup {dflt : Int} {ps : Array (Int × Int)} {len : Nat} {x : Int32} {off : Int} (tgt : Nat) (X : Cx G κ cc nL own ret R) (d : decode cc pc = .ok (.lookupswitch dflt ps, len)) (hp : (ps.toList.zip (ps.toList.drop 1)).all (fun (a, next) => a.1 < next.1) = true) (ho : Op.lookupswitch.offset ps.toList dflt x.toInt = off) (ht : (pc : Int) + off = (tgt : Int)) (k : Rn G κ tgt lv st C M hl) : Rn G κ pc lv (.int x :: st) C M hl := fun H locs ls hP hS hL => lv_lookup X.1 X.2.1 d hp ho ht (k H locs ls hP hS hL)
end RULES
