theorem Rc.cast {G : bpG} {κ : bpK} {b pc n n' cn cn' sn sn' : Nat} {lv : List (Option Value)} {st : List Value} {w w' : cwT} (h1 : n = n') (h2 : w = w') (h3 : cn = cn') (h4 : sn = sn') (k : Rc G κ b pc lv st n' w' cn' sn') : Rc G κ b pc lv st n w cn sn := by subst h1; subst h2; subst h3; subst h4; exact k
theorem k_iinc {G : bpG} {κ : bpK} {cc : ByteArray} {nL : Nat} {own : String} {R : Room} {b pc n cn sn : Nat} {lv : List (Option Value)} {st : List Value} {w : cwT} {i : Nat} {m : Int} {x v : Int32} {lv' : List (Option Value)} (X : Cy G κ cc nL own R) (d : decode cc pc = .ok (.iinc i m, 3)) (hx : lv[i]? = some (some (.int x))) (hv : x + Int32.ofInt m = v) (hn : nolong lv i = true) (hi : i < lv.length) (hs : lv' = lv.set i (some (.int v))) (k : Rc G κ b (pc + 3) lv' st n w cn sn) : Rc G κ b pc lv st n w cn sn := by
  intro H locs ls hP hS hL
  obtain ⟨q, hq⟩ := List.getElem?_of_mem ((asc_mem lv 0 i (.int x)).mpr ⟨i, by omega, hx⟩)
  exact lv_iinc X.1 X.2.1 d hL hq hv hi rfl (fun ls' hL' => k H locs ls' hP hS (lvs_set hn hs hi hL'))
abbrev dfX (ty : Nat → FieldType) : Nat → Value := fun j => defaultValue (ty j)
def bpFf (b : Nat) (f : Nat → Value) : Nat → Value := updV (updV (updV (updV (updV (updV (updV (updV (updV (updV f 0 (.ref (b + 1))) 1 (.ref (b + 3))) 2 (.ref (b + 4))) 3 (.int 0)) 4 (.int 2)) 5 (.int 2)) 6 (.int 0)) 7 (.int 0)) 8 (.int 0)) 9 (.int 0)
def hdW (b : Nat) (w : cwT) (f : Nat → Value) : cwT := ww (ww (ww (ww (ww w 0 (.inl 4, 10, bpFf b f)) 1 (.inl 1, 2, pgF b 2 (fun j => defaultValue (tyX1 j)))) 2 (.inr 0, 17, fun _ => defaultValue .int)) 3 (.inr 2, 6, fun _ => .null)) 4 (.inr 3, 12, fun _ => .null)
def ptA (b : Nat) : Nat → Nat → Value
  | 0 => fun _ => .null
  | i + 1 => updV (ptA b i) i (.ref (b + (5 + 4 * i)))
def ptC (b n : Nat) (w : cwT) : cwT := ww (ww (ww (ww (ww w n (.inl 2, 11, fun j => defaultValue (tyX2 j))) n (.inl 2, 11, poF b (n + 1) (fun j => defaultValue (tyX2 j)))) (n + 1) (.inl 3, 3, quF b (n + 1 + 1) (fun j => defaultValue (tyX3 j)))) (n + 1 + 1) (.inr 0, 20, fun _ => defaultValue .int)) (n + 1 + 1 + 1) (.inr 0, 20, fun _ => defaultValue .int)
def ptW (b : Nat) (w : cwT) : Nat → cwT
  | 0 => w
  | i + 1 => ww (ptC b (5 + 4 * i) (ptW b w i)) 3 (.inr 2, 6, ptA b (i + 1))
theorem ptW_lo (b : Nat) (w : cwT) {q : Nat} (hq : q < 5) (h3 : q ≠ 3) : ∀ i, ptW b w i q = w q
  | 0 => rfl
  | i + 1 => by
    simp only [ptW, ptC]
    rw [ww_ne _ _ h3, ww_ne _ _ (by omega), ww_ne _ _ (by omega), ww_ne _ _ (by omega), ww_ne _ _ (by omega), ww_ne _ _ (by omega), ptW_lo b w hq h3 i]
theorem ptW_3 (b : Nat) (w : cwT) (h : w 3 = (.inr 2, 6, fun _ => .null)) : ∀ i, ptW b w i 3 = (.inr 2, 6, ptA b i)
  | 0 => h
  | i + 1 => by simp only [ptW]; rw [ww_at]
def flA (b : Nat) : Nat → Nat → Value
  | 0 => fun _ => .null
  | i + 1 => updV (flA b i) i (.ref (b + (29 + 2 * i)))
def flC (b n : Nat) (w : cwT) : cwT := ww (ww (ww w n (.inl 0, 8, fun j => defaultValue (tyX0 j))) n (.inl 0, 8, flF b (n + 1) (fun j => defaultValue (tyX0 j)))) (n + 1) (.inr 0, 8, fun _ => defaultValue .int)
def flW (b : Nat) (w : cwT) : Nat → cwT
  | 0 => w
  | i + 1 => ww (flC b (29 + 2 * i) (flW b w i)) 4 (.inr 3, 12, flA b (i + 1))
theorem flW_lo (b : Nat) (w : cwT) {q : Nat} (hq : q < 29) (h3 : q ≠ 4) : ∀ i, flW b w i q = w q
  | 0 => rfl
  | i + 1 => by
    simp only [flW, flC]
    rw [ww_ne _ _ h3, ww_ne _ _ (by omega), ww_ne _ _ (by omega), ww_ne _ _ (by omega), flW_lo b w hq h3 i]
theorem flW_4 (b : Nat) (w : cwT) (h : w 4 = (.inr 3, 12, fun _ => .null)) : ∀ i, flW b w i 4 = (.inr 3, 12, flA b i)
  | 0 => h
  | i + 1 => by simp only [flW]; rw [ww_at]
/-- the class's cells -/
def bpW4 (b : Nat) (w : cwT) (f : Nat → Value) : cwT := flW b (ptW b (hdW b w f) 6) 12
set_option maxRecDepth 100000 in
set_option maxHeartbeats 4000000 in
theorem kX4_init {G : bpG} {b : Nat} {w : cwT} {f : Nat → Value} (hw : w 0 = (.inl 4, 10, f)) : Cc G yX4_init cX4_init 2 rmX4_init b 0 1 53 w (bpW4 b w f) := by
  refine cc_of [some (.ref (b + 0)), none] (by decide +kernel) rfl rfl (by decide) ?_
  intro κ X hin hr hlk hz
  have g0 : ∀ i, ptW b (hdW b w f) i 0 = (.inl 4, 10, bpFf b f) := fun i => ptW_lo b _ (by decide) (by decide) i
  have g3 : ∀ i, ptW b (hdW b w f) i 3 = (.inr 2, 6, ptA b i) := ptW_3 b _ rfl
  have g4 : ptW b (hdW b w f) 6 4 = (.inr 3, 12, fun _ => .null) := ptW_lo b _ (by decide) (by decide) 6
  have l0 : ∀ i, flW b (ptW b (hdW b w f) 6) i 0 = (.inl 4, 10, bpFf b f) := fun i => (flW_lo b _ (by decide) (by decide) i).trans (g0 6)
  have l4 : ∀ i, flW b (ptW b (hdW b w f) 6) i 4 = (.inr 3, 12, flA b i) := flW_4 b _ g4
  have loop2 : ∀ m i : Nat, i + m = 12 → Rc G κ b 97 [some (.ref (b + 0)), some (.int (nI i))] [] (29 + 2 * i) (flW b (ptW b (hdW b w f) 6) i) (28 + 2 * i) (361 + 16 * i) := by
    intro m
    induction m with
    | zero =>
      intro i hi
      have hi : i = 12 := by omega
      subst hi
      refine k_il X dX4_init_97 rfl ?_
      refine k_bipush (12) X dX4_init_98 (by decide) ?_
      refine k_icmpge 122 X dX4_init_100 (by decide) (fun c => ?_) (fun c => absurd (by decide) c)
      exact k_end X hr hlk hz dX4_init_122 rfl rfl
    | succ m ih =>
      intro i hi
      have hil : i < 12 := by omega
      refine k_il X dX4_init_97 rfl ?_
      refine k_bipush (12) X dX4_init_98 (by decide) ?_
      refine k_icmpge 122 X dX4_init_100 (by decide) (fun c => absurd c (by simp only [i_lt, i_le, i_eq, i_m1, i_0, i_1, i_2, i_3, i_4, i_5, i_6, i_7, i_8, i_9, i_10, i_11, i_12, i_17, i_20, i_24, i_32, i_44, i_48, i_50, i_51, i_52, i_57, i_58, i_100, i_126, i_n (show i < 2 ^ 31 by omega)]; omega)) (fun c => ?_)
      refine k_al X dX4_init_103 rfl ?_
      refine k_get 0 4 2 X rfl wla_X4 (by decide) wfl_X4_24 dX4_init_104 (by omega) (l0 _) rfl ?_
      refine k_il X dX4_init_107 rfl ?_
      refine k_new 0 (ty0 := tyX0) X rfl wla_X0 tyX0_ok wcl_X4_22 wis_X0 win_X0 dX4_init_108 (show _ ≤ 52 by omega) (show _ ≤ 553 by omega) ?_
      refine k_dup X dX4_init_111 rfl ?_
      refine k_cn (29 + 2 * i) X mdX0_init (fun h => h.2.2.2.1) dX4_init_112 (Nat.le_of_ble_eq_true rfl) (Nat.le_of_ble_eq_true rfl) (Nat.le_of_ble_eq_true rfl) rfl (show 28 + 2 * i + 1 + 1 ≤ 52 by omega) (show 361 + 16 * i + 8 + 8 ≤ 553 by omega) (kX0_init (f := fun j => defaultValue (tyX0 j)) (by omega) (by omega) (ww_at _ _ _)) ?_
      refine k_aast 4 (29 + 2 * i) 3 0 i (r := (RX0, TX0, 8)) X rfl rfl rfl hil (by decide) dX4_init_115 (by omega) (by omega) ((ww_ne _ _ (by omega)).trans ((ww_ne _ _ (by omega)).trans ((ww_ne _ _ (by omega)).trans (l4 i)))) (by omega) ((ww_ne _ _ (by omega)).trans (ww_at _ _ _)) ?_
      refine k_iinc (v := nI (i + 1)) X dX4_init_116 rfl (nI_1 i) rfl (Nat.le_of_ble_eq_true rfl) rfl ?_
      refine k_goto 97 X dX4_init_119 (by decide) ?_
      exact Rc.cast (by omega) rfl (show 28 + 2 * i + 1 + 1 = 28 + 2 * (i + 1) by omega) (show 361 + 16 * i + 8 + 8 = 361 + 16 * (i + 1) by omega) (ih (i + 1) (by omega))
  have loop1 : ∀ m i : Nat, i + m = 6 → Rc G κ b 70 [some (.ref (b + 0)), some (.int (nI i))] [] (5 + 4 * i) (ptW b (hdW b w f) i) (4 + 4 * i) (37 + 54 * i) := by
    intro m
    induction m with
    | zero =>
      intro i hi
      have hi : i = 6 := by omega
      subst hi
      refine k_il X dX4_init_70 rfl ?_
      refine k_bipush (6) X dX4_init_71 (by decide) ?_
      refine k_icmpge 95 X dX4_init_73 (by decide) (fun c => ?_) (fun c => absurd (by decide) c)
      refine k_iconst (0) X dX4_init_95 (by decide) ?_
      refine k_ist X dX4_init_96 rfl (Nat.le_of_ble_eq_true rfl) rfl ?_
      exact loop2 12 0 (by omega)
    | succ m ih =>
      intro i hi
      have hil : i < 6 := by omega
      refine k_il X dX4_init_70 rfl ?_
      refine k_bipush (6) X dX4_init_71 (by decide) ?_
      refine k_icmpge 95 X dX4_init_73 (by decide) (fun c => absurd c (by simp only [i_lt, i_le, i_eq, i_m1, i_0, i_1, i_2, i_3, i_4, i_5, i_6, i_7, i_8, i_9, i_10, i_11, i_12, i_17, i_20, i_24, i_32, i_44, i_48, i_50, i_51, i_52, i_57, i_58, i_100, i_126, i_n (show i < 2 ^ 31 by omega)]; omega)) (fun c => ?_)
      refine k_al X dX4_init_76 rfl ?_
      refine k_get 0 4 1 X rfl wla_X4 (by decide) wfl_X4_18 dX4_init_77 (by omega) (g0 _) rfl ?_
      refine k_il X dX4_init_80 rfl ?_
      refine k_new 2 (ty0 := tyX2) X rfl wla_X2 tyX2_ok wcl_X4_16 wis_X2 win_X2 dX4_init_81 (show _ ≤ 52 by omega) (show _ ≤ 553 by omega) ?_
      refine k_dup X dX4_init_84 rfl ?_
      refine k_cn (5 + 4 * i) X mdX2_init (fun h => h.2.1) dX4_init_85 (Nat.le_of_ble_eq_true rfl) (Nat.le_of_ble_eq_true rfl) (Nat.le_of_ble_eq_true rfl) rfl (show 4 + 4 * i + 1 + 3 ≤ 52 by omega) (show 37 + 54 * i + 11 + 43 ≤ 553 by omega) (kX2_init (f := fun j => defaultValue (tyX2 j)) (by omega) (by omega) (ww_at _ _ _)) ?_
      refine k_aast 3 (5 + 4 * i) 2 2 i (r := (RX2, TX2, 11)) X rfl rfl rfl hil (by decide) dX4_init_88 (by omega) (by omega) ((ww_ne _ _ (by omega)).trans ((ww_ne _ _ (by omega)).trans ((ww_ne _ _ (by omega)).trans ((ww_ne _ _ (by omega)).trans ((ww_ne _ _ (by omega)).trans (g3 i)))))) (by omega) ((ww_ne _ _ (by omega)).trans ((ww_ne _ _ (by omega)).trans ((ww_ne _ _ (by omega)).trans (ww_at _ _ _)))) ?_
      refine k_iinc (v := nI (i + 1)) X dX4_init_89 rfl (nI_1 i) rfl (Nat.le_of_ble_eq_true rfl) rfl ?_
      refine k_goto 70 X dX4_init_92 (by decide) ?_
      exact Rc.cast (by omega) rfl (show 4 + 4 * i + 1 + 3 = 4 + 4 * (i + 1) by omega) (show 37 + 54 * i + 11 + 43 = 37 + 54 * (i + 1) by omega) (ih (i + 1) (by omega))
  refine k_al X dX4_init_0 rfl ?_
  refine k_obj X wml_X4_1 dX4_init_1 rfl (Nat.le_of_ble_eq_true rfl) (Nat.le_of_ble_eq_true rfl) (Nat.le_of_ble_eq_true rfl) ?_
  refine k_al X dX4_init_4 rfl ?_
  refine k_new 1 (ty0 := tyX1) X rfl wla_X1 tyX1_ok wcl_X4_7 wis_X1 win_X1 dX4_init_5 (Nat.le_of_ble_eq_true rfl) (Nat.le_of_ble_eq_true rfl) ?_
  refine k_dup X dX4_init_8 rfl ?_
  refine k_cn (1) X mdX1_init (fun h => h.1) dX4_init_9 (Nat.le_of_ble_eq_true rfl) (Nat.le_of_ble_eq_true rfl) (Nat.le_of_ble_eq_true rfl) rfl (Nat.le_of_ble_eq_true rfl) (Nat.le_of_ble_eq_true rfl) (kX1_init (f := fun j => defaultValue (tyX1 j)) (by decide) (by decide) (ww_at _ _ _)) ?_
  refine k_putF 0 4 0 (ty := (.object "BoundPorts$Page")) X hin rfl wla_X4 tyX4_ok nmX4 (by decide) wfl_X4_10 rfl rfl (by decide +kernel) rfl rfl dX4_init_12 (by decide) (by decide) ((ww_ne _ _ (by decide)).trans ((ww_ne _ _ (by decide)).trans ((ww_ne _ _ (by decide)).trans (hw)))) ?_
  refine k_al X dX4_init_15 rfl ?_
  refine k_bipush (6) X dX4_init_16 (by decide) ?_
  refine k_anew 2 6 X (fun h => h.2.2.2.2.1) wcl_X4_16 rfl dX4_init_18 (by decide) (by decide) (by decide) (Nat.le_of_ble_eq_true rfl) (Nat.le_of_ble_eq_true rfl) ?_
  refine k_putF 0 4 1 (ty := (.array (.object "BoundPorts$Port"))) X hin rfl wla_X4 tyX4_ok nmX4 (by decide) wfl_X4_18 rfl rfl (by decide +kernel) rfl rfl dX4_init_21 (by decide) (by decide) ((ww_ne _ _ (by decide)).trans (ww_at _ _ _)) ?_
  refine k_al X dX4_init_24 rfl ?_
  refine k_bipush (12) X dX4_init_25 (by decide) ?_
  refine k_anew 3 12 X (fun h => h.2.2.2.2.2) wcl_X4_22 rfl dX4_init_27 (by decide) (by decide) (by decide) (Nat.le_of_ble_eq_true rfl) (Nat.le_of_ble_eq_true rfl) ?_
  refine k_putF 0 4 2 (ty := (.array (.object "BoundPorts$Flow"))) X hin rfl wla_X4 tyX4_ok nmX4 (by decide) wfl_X4_24 rfl rfl (by decide +kernel) rfl rfl dX4_init_30 (by decide) (by decide) ((ww_ne _ _ (by decide)).trans (ww_at _ _ _)) ?_
  refine k_al X dX4_init_33 rfl ?_
  refine k_iconst (0) X dX4_init_34 (by decide) ?_
  refine k_put 0 4 3 (ty := .int) X rfl wla_X4 tyX4_ok nmX4 (by decide) wfl_X4_28 rfl (by decide +kernel) rfl rfl dX4_init_35 (by decide) (by decide) (ww_at _ _ _) ?_
  refine k_al X dX4_init_38 rfl ?_
  refine k_iconst (2) X dX4_init_39 (by decide) ?_
  refine k_put 0 4 4 (ty := .int) X rfl wla_X4 tyX4_ok nmX4 (by decide) wfl_X4_32 rfl (by decide +kernel) rfl rfl dX4_init_40 (by decide) (by decide) (ww_at _ _ _) ?_
  refine k_al X dX4_init_43 rfl ?_
  refine k_iconst (2) X dX4_init_44 (by decide) ?_
  refine k_put 0 4 5 (ty := .int) X rfl wla_X4 tyX4_ok nmX4 (by decide) wfl_X4_35 rfl (by decide +kernel) rfl rfl dX4_init_45 (by decide) (by decide) (ww_at _ _ _) ?_
  refine k_al X dX4_init_48 rfl ?_
  refine k_iconst (0) X dX4_init_49 (by decide) ?_
  refine k_put 0 4 6 (ty := .int) X rfl wla_X4 tyX4_ok nmX4 (by decide) wfl_X4_38 rfl (by decide +kernel) rfl rfl dX4_init_50 (by decide) (by decide) (ww_at _ _ _) ?_
  refine k_al X dX4_init_53 rfl ?_
  refine k_iconst (0) X dX4_init_54 (by decide) ?_
  refine k_put 0 4 7 (ty := .int) X rfl wla_X4 tyX4_ok nmX4 (by decide) wfl_X4_41 rfl (by decide +kernel) rfl rfl dX4_init_55 (by decide) (by decide) (ww_at _ _ _) ?_
  refine k_al X dX4_init_58 rfl ?_
  refine k_iconst (0) X dX4_init_59 (by decide) ?_
  refine k_put 0 4 8 (ty := .int) X rfl wla_X4 tyX4_ok nmX4 (by decide) wfl_X4_44 rfl (by decide +kernel) rfl rfl dX4_init_60 (by decide) (by decide) (ww_at _ _ _) ?_
  refine k_al X dX4_init_63 rfl ?_
  refine k_iconst (0) X dX4_init_64 (by decide) ?_
  refine k_put 0 4 9 (ty := .int) X rfl wla_X4 tyX4_ok nmX4 (by decide) wfl_X4_47 rfl (by decide +kernel) rfl rfl dX4_init_65 (by decide) (by decide) (ww_at _ _ _) ?_
  refine Rc.eqw (w' := hdW b w f) ?_ ?_
  · funext q
    simp only [ww, hdW]
    repeat' split
    all_goals first | rfl | (exfalso; omega)
  refine k_iconst (0) X dX4_init_68 (by decide) ?_
  refine k_ist X dX4_init_69 rfl (Nat.le_of_ble_eq_true rfl) rfl ?_
  exact loop1 6 0 (by omega)
