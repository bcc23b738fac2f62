abbrev kset (κ : bpK) (cn sn : Nat) : bpK := (kp κ, kl κ, ke κ, kR κ, ks κ, km κ, ka κ, kb κ, kM κ, kc κ, cn, sn, kQ κ)
theorem Rc.toRn {κ : bpK} {b pc cn sn : Nat} {D : va_G × (Nat → ClassId)} {lv : List (Option Value)} {st : List Value} {w : cwT} {C : bpC} {M : bpM} {hl : Int64} (hc : ∀ x ∈ L75, cEq (w (off x.1 x.2)) (xC (bpGb b D) hl C M x.1 x.2)) (k : Rn (bpGb b D) (kset κ cn sn) pc lv st C M hl) : Rc (bpGb b D) κ b pc lv st 75 w cn sn :=
  fun H locs ls hP hS hL => k H locs ls (hP.WP hc) (by rw [bpA_b]; exact hS) hL
theorem Cy.toCx {κ : bpK} {b cn sn nL : Nat} {D : va_G × (Nat → ClassId)} {cc : ByteArray} {own : String} {R : Room} {ret : Option FieldType} (X : Cy (bpGb b D) κ cc nL own R) (hr : (kM κ).sig.returnType = ret) (hlk : (kM κ).locks = false) : Cx (bpGb b D) (kset κ cn sn) cc nL own ret R :=
  ⟨X.1, X.2.1, X.2.2.1, X.2.2.2.1, X.2.2.2.2.1, hr, hlk, X.2.2.2.2.2.1, good_b b D, X.2.2.2.2.2.2.2⟩
theorem cg_of {G : bpG} {y : MethodName} {cy : ByteArray} {mL : Nat} {rm : Room} {b a n : Nat} {w : cwT} {Qc : Array Value → State → Outcome → State → Prop} (lv0 : List (Option Value)) (hy : plainName y.cls = true) (hlen : lv0.length = mL) (hlv : asc 0 lv0 = lv_args 0 [.ref (b + a)]) (hsl : 1 ≤ mL)
    (body : ∀ κ : bpK, Cy G κ cy mL y.cls rm → (kM κ).name = y.name → (kM κ).sig.returnType = none → (kM κ).locks = false → kQ κ = MQ (kb κ) Qc (ka κ) (ks κ) rm.cells rm.slots (bpB b) → Rc G κ b 0 lv0 [] n w 0 0) :
    ∀ l : Launch, Met l y (Cond.code y cy mL none :: bpW) rm (va_Pc [.ref (b + a)] (fun U => HW G b n w U.heap ∧ va_K G.2.1 bpCl (bpT G) U ∧ bpX U)) Qc rm.cells rm.slots (bpB b) := by
  intro l
  refine Met.ofW (cc := cy) (maxL := mL) (ret := none) hy rfl ?_
  intro p e s m as below meth c s1 B hml hv
  obtain ⟨rfl, hP, hK, hX⟩ := hv
  have hts := atoms_spec (ws := Cond.code y cy mL none :: bpW) B.pre
  have hown : s.vm.findClass y.cls = some m.cls := findClass_of_methodNamed B.named
  have hl0 := lv_entry [.ref (b + a)] (n := mL) hsl
  rw [lg_entry_eq]
  refine body (p, l, e, rm, s, m, ([.ref (b + a)] : List Value).toArray, below, meth, c, 0, 0, MQ below Qc ([.ref (b + a)] : List Value).toArray s rm.cells rm.slots (bpB b)) ⟨B.exec, B.bytes, hml, hown, fun w h => hts w (List.mem_cons_of_mem _ h), hK, hX, rfl⟩ (name_of_methodNamed B.named B.method).1 B.returns B.notSynchronized rfl s.heap [] _ hP va_S.rf ?_
  unfold lvs
  rw [hlen, hlv]
  exact hl0
def Cm (b : Nat) (D : va_G × (Nat → ClassId)) (y : MethodName) (cy : ByteArray) (mL : Nat) (rm : Room) : Prop :=
  ∀ l : Launch, Met l y (Cond.code y cy mL none :: bpW) rm (va_Pc [.ref (b + 53)] (fun U => HW (bpGb b D) b 54 (mw0 b) U.heap ∧ va_K D.1 bpCl (bpT (bpGb b D)) U ∧ bpX U)) (va_Qv (fun _ : Unit => True) (fun _ t => WP (bpGb b D) C0 (clF M0) 0 t.heap) (bpB b)) rm.cells rm.slots (bpB b)
set_option maxRecDepth 100000 in
set_option maxHeartbeats 4000000 in
theorem kX5_init (b : Nat) (D : va_G × (Nat → ClassId)) : Cm b D yX5_init cX5_init 1 rmX5_init := by
  refine cg_of [some (.ref (b + 53))] (by decide +kernel) rfl rfl (by decide) ?_
  intro κ X hin hr hlk hz
  have h53 : mw0 b 53 = (.inl 5, 30, fun j => defaultValue (tyX5 j)) := rfl
  refine k_al X dX5_init_0 rfl ?_
  refine k_obj X wml_X5_1 dX5_init_1 rfl (Nat.le_of_ble_eq_true rfl) (Nat.le_of_ble_eq_true rfl) (Nat.le_of_ble_eq_true rfl) ?_
  refine k_al X dX5_init_4 rfl ?_
  refine k_bipush (17) X dX5_init_5 (by decide) ?_
  refine k_newa 0 17 (atype := .int) (ty := .int) X rfl wac_int rfl (fun _ _ h => h) dX5_init_7 (by decide) (by decide) (by decide) (Nat.le_of_ble_eq_true rfl) (Nat.le_of_ble_eq_true rfl) ?_
  refine k_putF 53 5 1 (ty := (.array .int)) X hin rfl wla_X5 tyX5_ok nmX5 (by decide) wfl_X5_7 rfl rfl (by decide +kernel) rfl rfl dX5_init_9 (by decide) (by decide) ((ww_ne _ _ (by decide)).trans (h53)) ?_
  refine k_al X dX5_init_12 rfl ?_
  refine k_bipush (6) X dX5_init_13 (by decide) ?_
  refine k_newa 0 6 (atype := .int) (ty := .int) X rfl wac_int rfl (fun _ _ h => h) dX5_init_15 (by decide) (by decide) (by decide) (Nat.le_of_ble_eq_true rfl) (Nat.le_of_ble_eq_true rfl) ?_
  refine k_putF 53 5 3 (ty := (.array .int)) X hin rfl wla_X5 tyX5_ok nmX5 (by decide) wfl_X5_13 rfl rfl (by decide +kernel) rfl rfl dX5_init_17 (by decide) (by decide) ((ww_ne _ _ (by decide)).trans (ww_at _ _ _)) ?_
  refine k_al X dX5_init_20 rfl ?_
  refine k_bipush (6) X dX5_init_21 (by decide) ?_
  refine k_newa 0 6 (atype := .int) (ty := .int) X rfl wac_int rfl (fun _ _ h => h) dX5_init_23 (by decide) (by decide) (by decide) (Nat.le_of_ble_eq_true rfl) (Nat.le_of_ble_eq_true rfl) ?_
  refine k_putF 53 5 4 (ty := (.array .int)) X hin rfl wla_X5 tyX5_ok nmX5 (by decide) wfl_X5_16 rfl rfl (by decide +kernel) rfl rfl dX5_init_25 (by decide) (by decide) ((ww_ne _ _ (by decide)).trans (ww_at _ _ _)) ?_
  refine k_al X dX5_init_28 rfl ?_
  refine k_bipush (6) X dX5_init_29 (by decide) ?_
  refine k_newa 1 6 (atype := .boolean) (ty := .boolean) X rfl wac_boolean rfl (fun _ _ h => h) dX5_init_31 (by decide) (by decide) (by decide) (Nat.le_of_ble_eq_true rfl) (Nat.le_of_ble_eq_true rfl) ?_
  refine k_putF 53 5 5 (ty := (.array .boolean)) X hin rfl wla_X5 tyX5_ok nmX5 (by decide) wfl_X5_19 rfl rfl (by decide +kernel) rfl rfl dX5_init_33 (by decide) (by decide) ((ww_ne _ _ (by decide)).trans (ww_at _ _ _)) ?_
  refine k_al X dX5_init_36 rfl ?_
  refine k_bipush (6) X dX5_init_37 (by decide) ?_
  refine k_newa 0 6 (atype := .int) (ty := .int) X rfl wac_int rfl (fun _ _ h => h) dX5_init_39 (by decide) (by decide) (by decide) (Nat.le_of_ble_eq_true rfl) (Nat.le_of_ble_eq_true rfl) ?_
  refine k_putF 53 5 6 (ty := (.array .int)) X hin rfl wla_X5 tyX5_ok nmX5 (by decide) wfl_X5_23 rfl rfl (by decide +kernel) rfl rfl dX5_init_41 (by decide) (by decide) ((ww_ne _ _ (by decide)).trans (ww_at _ _ _)) ?_
  refine k_al X dX5_init_44 rfl ?_
  refine k_bipush (6) X dX5_init_45 (by decide) ?_
  refine k_newa 0 6 (atype := .int) (ty := .int) X rfl wac_int rfl (fun _ _ h => h) dX5_init_47 (by decide) (by decide) (by decide) (Nat.le_of_ble_eq_true rfl) (Nat.le_of_ble_eq_true rfl) ?_
  refine k_putF 53 5 7 (ty := (.array .int)) X hin rfl wla_X5 tyX5_ok nmX5 (by decide) wfl_X5_26 rfl rfl (by decide +kernel) rfl rfl dX5_init_49 (by decide) (by decide) ((ww_ne _ _ (by decide)).trans (ww_at _ _ _)) ?_
  refine k_al X dX5_init_52 rfl ?_
  refine k_bipush (6) X dX5_init_53 (by decide) ?_
  refine k_newa 1 6 (atype := .boolean) (ty := .boolean) X rfl wac_boolean rfl (fun _ _ h => h) dX5_init_55 (by decide) (by decide) (by decide) (Nat.le_of_ble_eq_true rfl) (Nat.le_of_ble_eq_true rfl) ?_
  refine k_putF 53 5 8 (ty := (.array .boolean)) X hin rfl wla_X5 tyX5_ok nmX5 (by decide) wfl_X5_29 rfl rfl (by decide +kernel) rfl rfl dX5_init_57 (by decide) (by decide) ((ww_ne _ _ (by decide)).trans (ww_at _ _ _)) ?_
  refine k_al X dX5_init_60 rfl ?_
  refine k_bipush (6) X dX5_init_61 (by decide) ?_
  refine k_newa 0 6 (atype := .int) (ty := .int) X rfl wac_int rfl (fun _ _ h => h) dX5_init_63 (by decide) (by decide) (by decide) (Nat.le_of_ble_eq_true rfl) (Nat.le_of_ble_eq_true rfl) ?_
  refine k_putF 53 5 9 (ty := (.array .int)) X hin rfl wla_X5 tyX5_ok nmX5 (by decide) wfl_X5_32 rfl rfl (by decide +kernel) rfl rfl dX5_init_65 (by decide) (by decide) ((ww_ne _ _ (by decide)).trans (ww_at _ _ _)) ?_
  refine k_al X dX5_init_68 rfl ?_
  refine k_bipush (6) X dX5_init_69 (by decide) ?_
  refine k_newa 0 6 (atype := .int) (ty := .int) X rfl wac_int rfl (fun _ _ h => h) dX5_init_71 (by decide) (by decide) (by decide) (Nat.le_of_ble_eq_true rfl) (Nat.le_of_ble_eq_true rfl) ?_
  refine k_putF 53 5 10 (ty := (.array .int)) X hin rfl wla_X5 tyX5_ok nmX5 (by decide) wfl_X5_35 rfl rfl (by decide +kernel) rfl rfl dX5_init_73 (by decide) (by decide) ((ww_ne _ _ (by decide)).trans (ww_at _ _ _)) ?_
  refine k_al X dX5_init_76 rfl ?_
  refine k_iconst (2) X dX5_init_77 (by decide) ?_
  refine k_put 53 5 11 (ty := .int) X rfl wla_X5 tyX5_ok nmX5 (by decide) wfl_X5_38 rfl (by decide +kernel) rfl rfl dX5_init_78 (by decide) (by decide) (ww_at _ _ _) ?_
  refine k_al X dX5_init_81 rfl ?_
  refine k_iconst (2) X dX5_init_82 (by decide) ?_
  refine k_put 53 5 12 (ty := .int) X rfl wla_X5 tyX5_ok nmX5 (by decide) wfl_X5_42 rfl (by decide +kernel) rfl rfl dX5_init_83 (by decide) (by decide) (ww_at _ _ _) ?_
  refine k_al X dX5_init_86 rfl ?_
  refine k_sipush (144) X dX5_init_87 (by decide) ?_
  refine k_newa 0 144 (atype := .int) (ty := .int) X rfl wac_int rfl (fun _ _ h => h) dX5_init_90 (by decide) (by decide) (by decide) (Nat.le_of_ble_eq_true rfl) (Nat.le_of_ble_eq_true rfl) ?_
  refine k_putF 53 5 15 (ty := (.array .int)) X hin rfl wla_X5 tyX5_ok nmX5 (by decide) wfl_X5_45 rfl rfl (by decide +kernel) rfl rfl dX5_init_92 (by decide) (by decide) ((ww_ne _ _ (by decide)).trans (ww_at _ _ _)) ?_
  refine k_al X dX5_init_95 rfl ?_
  refine k_sipush (144) X dX5_init_96 (by decide) ?_
  refine k_newa 0 144 (atype := .int) (ty := .int) X rfl wac_int rfl (fun _ _ h => h) dX5_init_99 (by decide) (by decide) (by decide) (Nat.le_of_ble_eq_true rfl) (Nat.le_of_ble_eq_true rfl) ?_
  refine k_putF 53 5 16 (ty := (.array .int)) X hin rfl wla_X5 tyX5_ok nmX5 (by decide) wfl_X5_48 rfl rfl (by decide +kernel) rfl rfl dX5_init_101 (by decide) (by decide) ((ww_ne _ _ (by decide)).trans (ww_at _ _ _)) ?_
  refine k_al X dX5_init_104 rfl ?_
  refine k_bipush (6) X dX5_init_105 (by decide) ?_
  refine k_newa 0 6 (atype := .int) (ty := .int) X rfl wac_int rfl (fun _ _ h => h) dX5_init_107 (by decide) (by decide) (by decide) (Nat.le_of_ble_eq_true rfl) (Nat.le_of_ble_eq_true rfl) ?_
  refine k_putF 53 5 17 (ty := (.array .int)) X hin rfl wla_X5 tyX5_ok nmX5 (by decide) wfl_X5_51 rfl rfl (by decide +kernel) rfl rfl dX5_init_109 (by decide) (by decide) ((ww_ne _ _ (by decide)).trans (ww_at _ _ _)) ?_
  refine k_al X dX5_init_112 rfl ?_
  refine k_bipush (12) X dX5_init_113 (by decide) ?_
  refine k_newa 0 12 (atype := .int) (ty := .int) X rfl wac_int rfl (fun _ _ h => h) dX5_init_115 (by decide) (by decide) (by decide) (Nat.le_of_ble_eq_true rfl) (Nat.le_of_ble_eq_true rfl) ?_
  refine k_putF 53 5 18 (ty := (.array .int)) X hin rfl wla_X5 tyX5_ok nmX5 (by decide) wfl_X5_54 rfl rfl (by decide +kernel) rfl rfl dX5_init_117 (by decide) (by decide) ((ww_ne _ _ (by decide)).trans (ww_at _ _ _)) ?_
  refine k_al X dX5_init_120 rfl ?_
  refine k_bipush (12) X dX5_init_121 (by decide) ?_
  refine k_newa 1 12 (atype := .boolean) (ty := .boolean) X rfl wac_boolean rfl (fun _ _ h => h) dX5_init_123 (by decide) (by decide) (by decide) (Nat.le_of_ble_eq_true rfl) (Nat.le_of_ble_eq_true rfl) ?_
  refine k_putF 53 5 19 (ty := (.array .boolean)) X hin rfl wla_X5 tyX5_ok nmX5 (by decide) wfl_X5_57 rfl rfl (by decide +kernel) rfl rfl dX5_init_125 (by decide) (by decide) ((ww_ne _ _ (by decide)).trans (ww_at _ _ _)) ?_
  refine k_al X dX5_init_128 rfl ?_
  refine k_bipush (12) X dX5_init_129 (by decide) ?_
  refine k_newa 0 12 (atype := .int) (ty := .int) X rfl wac_int rfl (fun _ _ h => h) dX5_init_131 (by decide) (by decide) (by decide) (Nat.le_of_ble_eq_true rfl) (Nat.le_of_ble_eq_true rfl) ?_
  refine k_putF 53 5 20 (ty := (.array .int)) X hin rfl wla_X5 tyX5_ok nmX5 (by decide) wfl_X5_60 rfl rfl (by decide +kernel) rfl rfl dX5_init_133 (by decide) (by decide) ((ww_ne _ _ (by decide)).trans (ww_at _ _ _)) ?_
  refine k_al X dX5_init_136 rfl ?_
  refine k_bipush (96) X dX5_init_137 (by decide) ?_
  refine k_newa 0 96 (atype := .int) (ty := .int) X rfl wac_int rfl (fun _ _ h => h) dX5_init_139 (by decide) (by decide) (by decide) (Nat.le_of_ble_eq_true rfl) (Nat.le_of_ble_eq_true rfl) ?_
  refine k_putF 53 5 21 (ty := (.array .int)) X hin rfl wla_X5 tyX5_ok nmX5 (by decide) wfl_X5_63 rfl rfl (by decide +kernel) rfl rfl dX5_init_141 (by decide) (by decide) ((ww_ne _ _ (by decide)).trans (ww_at _ _ _)) ?_
  refine k_al X dX5_init_144 rfl ?_
  refine k_bipush (12) X dX5_init_145 (by decide) ?_
  refine k_newa 0 12 (atype := .int) (ty := .int) X rfl wac_int rfl (fun _ _ h => h) dX5_init_147 (by decide) (by decide) (by decide) (Nat.le_of_ble_eq_true rfl) (Nat.le_of_ble_eq_true rfl) ?_
  refine k_putF 53 5 22 (ty := (.array .int)) X hin rfl wla_X5 tyX5_ok nmX5 (by decide) wfl_X5_66 rfl rfl (by decide +kernel) rfl rfl dX5_init_149 (by decide) (by decide) ((ww_ne _ _ (by decide)).trans (ww_at _ _ _)) ?_
  refine k_al X dX5_init_152 rfl ?_
  refine k_bipush (12) X dX5_init_153 (by decide) ?_
  refine k_newa 0 12 (atype := .int) (ty := .int) X rfl wac_int rfl (fun _ _ h => h) dX5_init_155 (by decide) (by decide) (by decide) (Nat.le_of_ble_eq_true rfl) (Nat.le_of_ble_eq_true rfl) ?_
  refine k_putF 53 5 23 (ty := (.array .int)) X hin rfl wla_X5 tyX5_ok nmX5 (by decide) wfl_X5_69 rfl rfl (by decide +kernel) rfl rfl dX5_init_157 (by decide) (by decide) ((ww_ne _ _ (by decide)).trans (ww_at _ _ _)) ?_
  refine k_al X dX5_init_160 rfl ?_
  refine k_bipush (12) X dX5_init_161 (by decide) ?_
  refine k_newa 0 12 (atype := .int) (ty := .int) X rfl wac_int rfl (fun _ _ h => h) dX5_init_163 (by decide) (by decide) (by decide) (Nat.le_of_ble_eq_true rfl) (Nat.le_of_ble_eq_true rfl) ?_
  refine k_putF 53 5 24 (ty := (.array .int)) X hin rfl wla_X5 tyX5_ok nmX5 (by decide) wfl_X5_72 rfl rfl (by decide +kernel) rfl rfl dX5_init_165 (by decide) (by decide) ((ww_ne _ _ (by decide)).trans (ww_at _ _ _)) ?_
  refine k_al X dX5_init_168 rfl ?_
  refine k_bipush (12) X dX5_init_169 (by decide) ?_
  refine k_newa 0 12 (atype := .int) (ty := .int) X rfl wac_int rfl (fun _ _ h => h) dX5_init_171 (by decide) (by decide) (by decide) (Nat.le_of_ble_eq_true rfl) (Nat.le_of_ble_eq_true rfl) ?_
  refine k_putF 53 5 25 (ty := (.array .int)) X hin rfl wla_X5 tyX5_ok nmX5 (by decide) wfl_X5_75 rfl rfl (by decide +kernel) rfl rfl dX5_init_173 (by decide) (by decide) ((ww_ne _ _ (by decide)).trans (ww_at _ _ _)) ?_
  refine k_al X dX5_init_176 rfl ?_
  refine k_bipush (24) X dX5_init_177 (by decide) ?_
  refine k_newa 0 24 (atype := .int) (ty := .int) X rfl wac_int rfl (fun _ _ h => h) dX5_init_179 (by decide) (by decide) (by decide) (Nat.le_of_ble_eq_true rfl) (Nat.le_of_ble_eq_true rfl) ?_
  refine k_putF 53 5 28 (ty := (.array .int)) X hin rfl wla_X5 tyX5_ok nmX5 (by decide) wfl_X5_78 rfl rfl (by decide +kernel) rfl rfl dX5_init_181 (by decide) (by decide) ((ww_ne _ _ (by decide)).trans (ww_at _ _ _)) ?_
  refine Rc.eqw (w' := moW b) rfl ?_
  refine Rc.toRn (mo_all b D) ?_
  have X2 : Cx (bpGb b D) (kset κ 21 563) cX5_init 1 RX5 none rmX5_init := X.toCx hr hlk
  show Rn (bpGb b D) (kset κ 21 563) 184 _ _ _ _ _
  refine r_aload_n X2 dX5_init_184 rfl ?_
  show Rn (bpGb b D) (kset κ 21 563) 185 _ [.ref ((bpGb b D).1 11 0)] _ _ _
  refine r_cv0_M X2 mdX5_clearFlows wml_X5_81 dX5_init_185 ⟨rfl, rfl, Nat.le_of_ble_eq_true rfl, Nat.le_of_ble_eq_true rfl⟩ (by decide) rfl rfl (Nat.le_of_ble_eq_true rfl) rfl ⟨Nat.le_refl _, Nat.le_refl _⟩ (m_clearFlows) (fun M2 e2 => ?_)
  subst e2
  intro H locs ls hP hS hL
  rw [bpA_b] at hS
  show W _ _ _ _ _ _ _ _ _ _ H locs 21 563 (kQ κ) _
  rw [hz]
  exact W.vret X.1 X.2.1 hr (fun t ht hW => ⟨⟨(), rfl, trivial, show WP (bpGb b D) C0 (clF M0) 0 t.heap by rw [ht]; exact hP⟩, hS.F ht⟩) hS.2.2 dX5_init_188 hlk
/-- the law's call of the reference's constructor -/
theorem k_cM {κ : bpK} {b pc idx nL cn sn : Nat} {D : va_G × (Nat → ClassId)} {cc : ByteArray} {own : String} {R : Room} {lv : List (Option Value)} {st : List Value} (X : Cy (bpGb b D) κ cc nL own R) (hl : Cond.methodLink own idx yX5_init ∈ bpW) (d : decode cc pc = .ok (.invokespecial idx, 3)) (hfr : rmX5_init.frames + 1 ≤ R.frames) (hlo : 8 + (1 + 11) + rmX5_init.locals ≤ R.locals) (hst : (st.map fun v => v.category).sum ≤ 8) (hlv : lv.length = nL) (hc : cn + 21 ≤ R.cells) (hs : sn + 563 ≤ R.slots)
    (k : Rn (bpGb b D) (kset κ (cn + 21) (sn + 563)) (pc + 3) lv st C0 (clF M0) 0) : Rc (bpGb b D) κ b pc lv (.ref (b + 53) :: st) 54 (mw0 b) cn sn := by
  intro H locs ls hP hS hL
  obtain ⟨hx, hb, hml, hown, hts, hK, hX, hR⟩ := X
  obtain ⟨⟨wcd, win, hd⟩, wim, hy⟩ := mdX5_init
  refine va_callv (va_runI (As := []) (rest := st) (b := b + 53) ⟨hx, hb, hml, hown, hts⟩ (kX5_init b D (kl κ)) ⟨⟨rfl, rfl, by rw [hR]; exact hfr, by rw [hR]; exact hlo, c_words hts wcd, List.mem_cons_self, hts _ wcd, hts _ win, ⟨hd.1, hd.2.1⟩, c_desc hd.2.2, hts _ hl⟩, hy, hts _ wim⟩ ⟨c_blind (G := bpGb b D), fun U hU hW => ⟨rfl, by rw [hU]; exact hP, va_K.moved hW.alike hK, hX.warm hW⟩⟩ rfl rfl (hL.1.trans hlv) rfl (lv_room hst) d ⟨by rw [hR]; exact hc, by rw [hR]; exact hs⟩) hS (fun q _ h => h) (fun q h => h) (fun u t H1 locs1 ht hvm hp hB hz1 hk1 hS1 => k H1 locs1 ls (by rw [← ht]; exact hB) (by rw [bpA_b]; exact hS1) hL)
/-! the start -/
theorem cl_at {k j : Nat} (hj : j < 12) (h : 18 ≤ k ∧ k ≤ 25 ∧ k ≠ 21) : clF M0 k j = if k = 18 then -1 else 0 := by
  unfold clF
  rw [upM_ne _ _ _ _ (by omega), upM_ne _ _ _ _ (by omega)]
  simp only [clN]
  by_cases h18 : k = 18
  · rw [if_pos ⟨h18, hj⟩, if_pos h18]
  · rw [if_neg (fun q => h18 q.1), if_pos ⟨by omega, hj⟩, if_neg h18]
theorem start_np : np (clF M0) = 0 := rfl
theorem start_pl : pl (clF M0) = 0 := rfl
theorem start_hm {f : Nat} (hf : f < 12) : hm (clF M0) f = 0 := by
  unfold hm
  rw [cl_at hf (by omega)]
  rfl
theorem start_Inv : Inv (clF M0) 0 := by
  refine ⟨fun p hp => absurd (start_np ▸ hp) (Nat.not_lt_zero _), fun f hf => ?_, ⟨⟨rfl, by rw [start_np]; decide, rfl, by decide⟩, fun p hp => absurd (start_np ▸ hp) (Nat.not_lt_zero _)⟩, fun p hp => absurd (start_np ▸ hp) (Nat.not_lt_zero _), ⟨rfl, by rw [start_pl]; decide⟩⟩
  refine ⟨Or.inl (cl_at hf (by omega)), Or.inl (cl_at hf (by omega)), ?_, by rw [start_hm hf]; decide, fun j hj => by rw [start_hm hf] at hj; exact absurd hj (Nat.not_lt_zero _), 0, Nat.le_refl _, cl_at hf (by omega)⟩
  rw [start_hm hf]
  exact cl_at hf (by omega)
theorem start_RA : RA C0 (clF M0) 9 := by
  refine ⟨⟨⟨rfl, rfl, rfl, rfl, rfl, rfl, rfl, rfl, fun j hj => absurd (start_pl ▸ hj) (Nat.not_lt_zero _)⟩, start_Inv.2.2.1.1, fun p hp => absurd (start_np ▸ hp) (Nat.not_lt_zero _)⟩, fun p hp => absurd (start_np ▸ hp) (Nat.not_lt_zero _), fun p hp => absurd (start_np ▸ hp) (Nat.not_lt_zero _), fun f hf => ?_⟩
  exact ⟨(cl_at (k := 20) hf (by omega)).symm, (cl_at (k := 18) hf (by omega)).symm, (cl_at (k := 19) hf (by omega)).symm, (cl_at (k := 22) hf (by omega)).symm, (cl_at (k := 23) hf (by omega)).symm, (cl_at (k := 24) hf (by omega)).symm, (cl_at (k := 25) hf (by omega)).symm, fun j hj => by rw [start_hm hf] at hj; exact absurd hj (Nat.not_lt_zero _)⟩
