abbrev rmX1_init : Room := { frames := 1, cells := 1, slots := 17, locals := 20 }
theorem mdX1_init : MdC yX1_init cX1_init 1 := ⟨⟨wcd_X1_init, win_X1, by decide +kernel⟩, wim_X1_init, rfl⟩
abbrev rmX3_init : Room := { frames := 1, cells := 2, slots := 40, locals := 20 }
theorem mdX3_init : MdC yX3_init cX3_init 1 := ⟨⟨wcd_X3_init, win_X3, by decide +kernel⟩, wim_X3_init, rfl⟩
abbrev rmX2_init : Room := { frames := 2, cells := 3, slots := 43, locals := 40 }
theorem mdX2_init : MdC yX2_init cX2_init 1 := ⟨⟨wcd_X2_init, win_X2, by decide +kernel⟩, wim_X2_init, rfl⟩
abbrev rmX0_init : Room := { frames := 1, cells := 1, slots := 8, locals := 20 }
theorem mdX0_init : MdC yX0_init cX0_init 1 := ⟨⟨wcd_X0_init, win_X0, by decide +kernel⟩, wim_X0_init, rfl⟩
abbrev rmX4_init : Room := { frames := 3, cells := 52, slots := 553, locals := 60 }
theorem mdX4_init : MdC yX4_init cX4_init 2 := ⟨⟨wcd_X4_init, win_X4, by decide +kernel⟩, wim_X4_init, rfl⟩
abbrev rmX5_init : Room := { frames := 2, cells := 21, slots := 563, locals := 60 }
theorem mdX5_init : MdC yX5_init cX5_init 1 := ⟨⟨wcd_X5_init, win_X5, by decide +kernel⟩, wim_X5_init, rfl⟩
def pgF (b n : Nat) (f : Nat → Value) : Nat → Value := updV (updV f 0 (.ref (b + n))) 1 (.int 0)
set_option maxRecDepth 100000 in
set_option maxHeartbeats 4000000 in
theorem kX1_init {G : bpG} {b a n : Nat} {w : cwT} {f : Nat → Value} (ha : a < n) (hn : n + 1 ≤ 75) (hw : w a = (.inl 1, 2, f)) : Cc G yX1_init cX1_init 1 rmX1_init b a n (n + 1) w (ww (ww w a (.inl 1, 2, pgF b n f)) n (.inr 0, 17, fun _ => defaultValue .int)) := by
  refine cc_of [some (.ref (b + a))] (by decide +kernel) rfl rfl (by decide) ?_
  intro κ X hin hr hlk hz
  refine k_al X dX1_init_0 rfl ?_
  refine k_obj X wml_X1_3 dX1_init_1 rfl (Nat.le_of_ble_eq_true rfl) (Nat.le_of_ble_eq_true rfl) (Nat.le_of_ble_eq_true rfl) ?_
  refine k_al X dX1_init_4 rfl ?_
  refine k_bipush (17) X dX1_init_5 (by decide) ?_
  refine k_newa 0 17 (atype := .int) (ty := .int) X rfl wac_int rfl (fun _ _ h => h) dX1_init_7 (by decide) (by decide) (by decide) (Nat.le_of_ble_eq_true rfl) (Nat.le_of_ble_eq_true rfl) ?_
  refine k_putF a 1 0 (ty := (.array .int)) X hin rfl wla_X1 tyX1_ok nmX1 (by decide) wfl_X1_9 rfl rfl (by decide +kernel) rfl rfl dX1_init_9 (by omega) (by omega) ((ww_ne _ _ (by omega)).trans (hw)) ?_
  refine k_al X dX1_init_12 rfl ?_
  refine k_iconst (0) X dX1_init_13 (by decide) ?_
  refine k_put a 1 1 (ty := .int) X rfl wla_X1 tyX1_ok nmX1 (by decide) wfl_X1_15 rfl (by decide +kernel) rfl rfl dX1_init_14 (by omega) (by omega) (ww_at _ _ _) ?_
  refine Rc.eqw (w' := (ww (ww w a (.inl 1, 2, pgF b n f)) n (.inr 0, 17, fun _ => defaultValue .int))) ?_ ?_
  · funext q
    simp only [ww]
    repeat' split
    all_goals first | rfl | (exfalso; omega)
  exact k_end X hr hlk hz dX1_init_17 rfl rfl
def quF (b n : Nat) (f : Nat → Value) : Nat → Value := updV (updV (updV f 0 (.ref (b + n))) 1 (.ref (b + (n + 1)))) 2 (.int 0)
set_option maxRecDepth 100000 in
set_option maxHeartbeats 4000000 in
theorem kX3_init {G : bpG} {b a n : Nat} {w : cwT} {f : Nat → Value} (ha : a < n) (hn : n + 2 ≤ 75) (hw : w a = (.inl 3, 3, f)) : Cc G yX3_init cX3_init 1 rmX3_init b a n (n + 2) w (ww (ww (ww w a (.inl 3, 3, quF b n f)) n (.inr 0, 20, fun _ => defaultValue .int)) (n + 1) (.inr 0, 20, fun _ => defaultValue .int)) := by
  refine cc_of [some (.ref (b + a))] (by decide +kernel) rfl rfl (by decide) ?_
  intro κ X hin hr hlk hz
  refine k_al X dX3_init_0 rfl ?_
  refine k_obj X wml_X3_3 dX3_init_1 rfl (Nat.le_of_ble_eq_true rfl) (Nat.le_of_ble_eq_true rfl) (Nat.le_of_ble_eq_true rfl) ?_
  refine k_al X dX3_init_4 rfl ?_
  refine k_bipush (20) X dX3_init_5 (by decide) ?_
  refine k_newa 0 20 (atype := .int) (ty := .int) X rfl wac_int rfl (fun _ _ h => h) dX3_init_7 (by decide) (by decide) (by decide) (Nat.le_of_ble_eq_true rfl) (Nat.le_of_ble_eq_true rfl) ?_
  refine k_putF a 3 0 (ty := (.array .int)) X hin rfl wla_X3 tyX3_ok nmX3 (by decide) wfl_X3_11 rfl rfl (by decide +kernel) rfl rfl dX3_init_9 (by omega) (by omega) ((ww_ne _ _ (by omega)).trans (hw)) ?_
  refine k_al X dX3_init_12 rfl ?_
  refine k_bipush (20) X dX3_init_13 (by decide) ?_
  refine k_newa 0 20 (atype := .int) (ty := .int) X rfl wac_int rfl (fun _ _ h => h) dX3_init_15 (by decide) (by decide) (by decide) (Nat.le_of_ble_eq_true rfl) (Nat.le_of_ble_eq_true rfl) ?_
  refine k_putF a 3 1 (ty := (.array .int)) X hin rfl wla_X3 tyX3_ok nmX3 (by decide) wfl_X3_15 rfl rfl (by decide +kernel) rfl rfl dX3_init_17 (by omega) (by omega) ((ww_ne _ _ (by omega)).trans (ww_at _ _ _)) ?_
  refine k_al X dX3_init_20 rfl ?_
  refine k_iconst (0) X dX3_init_21 (by decide) ?_
  refine k_put a 3 2 (ty := .int) X rfl wla_X3 tyX3_ok nmX3 (by decide) wfl_X3_18 rfl (by decide +kernel) rfl rfl dX3_init_22 (by omega) (by omega) (ww_at _ _ _) ?_
  refine Rc.eqw (w' := (ww (ww (ww w a (.inl 3, 3, quF b n f)) n (.inr 0, 20, fun _ => defaultValue .int)) (n + 1) (.inr 0, 20, fun _ => defaultValue .int))) ?_ ?_
  · funext q
    simp only [ww]
    repeat' split
    all_goals first | rfl | (exfalso; omega)
  exact k_end X hr hlk hz dX3_init_25 rfl rfl
def flF (b n : Nat) (f : Nat → Value) : Nat → Value := updV (updV (updV (updV (updV (updV (updV (updV f 0 (.ref (b + n))) 1 (.int 0)) 2 (.int (-1))) 3 (.int 0)) 4 (.int 0)) 5 (.int 0)) 6 (.int 0)) 7 (.int 0)
set_option maxRecDepth 100000 in
set_option maxHeartbeats 4000000 in
theorem kX0_init {G : bpG} {b a n : Nat} {w : cwT} {f : Nat → Value} (ha : a < n) (hn : n + 1 ≤ 75) (hw : w a = (.inl 0, 8, f)) : Cc G yX0_init cX0_init 1 rmX0_init b a n (n + 1) w (ww (ww w a (.inl 0, 8, flF b n f)) n (.inr 0, 8, fun _ => defaultValue .int)) := by
  refine cc_of [some (.ref (b + a))] (by decide +kernel) rfl rfl (by decide) ?_
  intro κ X hin hr hlk hz
  refine k_al X dX0_init_0 rfl ?_
  refine k_obj X wml_X0_3 dX0_init_1 rfl (Nat.le_of_ble_eq_true rfl) (Nat.le_of_ble_eq_true rfl) (Nat.le_of_ble_eq_true rfl) ?_
  refine k_al X dX0_init_4 rfl ?_
  refine k_bipush (8) X dX0_init_5 (by decide) ?_
  refine k_newa 0 8 (atype := .int) (ty := .int) X rfl wac_int rfl (fun _ _ h => h) dX0_init_7 (by decide) (by decide) (by decide) (Nat.le_of_ble_eq_true rfl) (Nat.le_of_ble_eq_true rfl) ?_
  refine k_putF a 0 0 (ty := (.array .int)) X hin rfl wla_X0 tyX0_ok nmX0 (by decide) wfl_X0_9 rfl rfl (by decide +kernel) rfl rfl dX0_init_9 (by omega) (by omega) ((ww_ne _ _ (by omega)).trans (hw)) ?_
  refine k_al X dX0_init_12 rfl ?_
  refine k_iconst (0) X dX0_init_13 (by decide) ?_
  refine k_put a 0 1 (ty := .int) X rfl wla_X0 tyX0_ok nmX0 (by decide) wfl_X0_15 rfl (by decide +kernel) rfl rfl dX0_init_14 (by omega) (by omega) (ww_at _ _ _) ?_
  refine k_al X dX0_init_17 rfl ?_
  refine k_iconst (-1) X dX0_init_18 (by decide) ?_
  refine k_put a 0 2 (ty := .int) X rfl wla_X0 tyX0_ok nmX0 (by decide) wfl_X0_19 rfl (by decide +kernel) rfl rfl dX0_init_19 (by omega) (by omega) (ww_at _ _ _) ?_
  refine k_al X dX0_init_22 rfl ?_
  refine k_iconst (0) X dX0_init_23 (by decide) ?_
  refine k_put a 0 3 (ty := .boolean) X rfl wla_X0 tyX0_ok nmX0 (by decide) wfl_X0_22 rfl (by decide +kernel) rfl rfl dX0_init_24 (by omega) (by omega) (ww_at _ _ _) ?_
  refine k_al X dX0_init_27 rfl ?_
  refine k_iconst (0) X dX0_init_28 (by decide) ?_
  refine k_put a 0 4 (ty := .int) X rfl wla_X0 tyX0_ok nmX0 (by decide) wfl_X0_26 rfl (by decide +kernel) rfl rfl dX0_init_29 (by omega) (by omega) (ww_at _ _ _) ?_
  refine k_al X dX0_init_32 rfl ?_
  refine k_iconst (0) X dX0_init_33 (by decide) ?_
  refine k_put a 0 5 (ty := .int) X rfl wla_X0 tyX0_ok nmX0 (by decide) wfl_X0_29 rfl (by decide +kernel) rfl rfl dX0_init_34 (by omega) (by omega) (ww_at _ _ _) ?_
  refine k_al X dX0_init_37 rfl ?_
  refine k_iconst (0) X dX0_init_38 (by decide) ?_
  refine k_put a 0 6 (ty := .int) X rfl wla_X0 tyX0_ok nmX0 (by decide) wfl_X0_32 rfl (by decide +kernel) rfl rfl dX0_init_39 (by omega) (by omega) (ww_at _ _ _) ?_
  refine k_al X dX0_init_42 rfl ?_
  refine k_iconst (0) X dX0_init_43 (by decide) ?_
  refine k_put a 0 7 (ty := .int) X rfl wla_X0 tyX0_ok nmX0 (by decide) wfl_X0_35 rfl (by decide +kernel) rfl rfl dX0_init_44 (by omega) (by omega) (ww_at _ _ _) ?_
  refine Rc.eqw (w' := (ww (ww w a (.inl 0, 8, flF b n f)) n (.inr 0, 8, fun _ => defaultValue .int))) ?_ ?_
  · funext q
    simp only [ww]
    repeat' split
    all_goals first | rfl | (exfalso; omega)
  exact k_end X hr hlk hz dX0_init_47 rfl rfl
def poF (b n : Nat) (f : Nat → Value) : Nat → Value := updV (updV (updV (updV (updV (updV (updV (updV (updV (updV (updV f 0 (.ref (b + n))) 1 (.int 0)) 2 (.int 0)) 3 (.int 0)) 4 (.int 0)) 5 (.int 0)) 6 (.int 0)) 7 (.int 0)) 8 (.int 0)) 9 (.int 0)) 10 (.int 0)
set_option maxRecDepth 100000 in
set_option maxHeartbeats 4000000 in
theorem kX2_init {G : bpG} {b a n : Nat} {w : cwT} {f : Nat → Value} (ha : a < n) (hn : n + 3 ≤ 75) (hw : w a = (.inl 2, 11, f)) : Cc G yX2_init cX2_init 1 rmX2_init b a n (n + 3) w (ww (ww (ww (ww w a (.inl 2, 11, poF b n f)) n (.inl 3, 3, quF b (n + 1) (fun j => defaultValue (tyX3 j)))) (n + 1) (.inr 0, 20, fun _ => defaultValue .int)) (n + 1 + 1) (.inr 0, 20, fun _ => defaultValue .int)) := by
  refine cc_of [some (.ref (b + a))] (by decide +kernel) rfl rfl (by decide) ?_
  intro κ X hin hr hlk hz
  refine k_al X dX2_init_0 rfl ?_
  refine k_obj X wml_X2_3 dX2_init_1 rfl (Nat.le_of_ble_eq_true rfl) (Nat.le_of_ble_eq_true rfl) (Nat.le_of_ble_eq_true rfl) ?_
  refine k_al X dX2_init_4 rfl ?_
  refine k_new 3 (ty0 := tyX3) X rfl wla_X3 tyX3_ok wcl_X2_9 wis_X3 win_X3 dX2_init_5 (Nat.le_of_ble_eq_true rfl) (Nat.le_of_ble_eq_true rfl) ?_
  refine k_dup X dX2_init_8 rfl ?_
  refine k_cn (n) X mdX3_init (fun h => h.2.2.1) dX2_init_9 (Nat.le_of_ble_eq_true rfl) (Nat.le_of_ble_eq_true rfl) (Nat.le_of_ble_eq_true rfl) rfl (Nat.le_of_ble_eq_true rfl) (Nat.le_of_ble_eq_true rfl) (kX3_init (f := fun j => defaultValue (tyX3 j)) (by omega) (by omega) (ww_at _ _ _)) ?_
  refine k_putF a 2 0 (ty := (.object "BoundPorts$Queue")) X hin rfl wla_X2 tyX2_ok nmX2 (by decide) wfl_X2_12 rfl rfl (by decide +kernel) rfl rfl dX2_init_12 (by omega) (by omega) ((ww_ne _ _ (by omega)).trans ((ww_ne _ _ (by omega)).trans ((ww_ne _ _ (by omega)).trans ((ww_ne _ _ (by omega)).trans (hw))))) ?_
  refine k_al X dX2_init_15 rfl ?_
  refine k_iconst (0) X dX2_init_16 (by decide) ?_
  refine k_put a 2 1 (ty := .int) X rfl wla_X2 tyX2_ok nmX2 (by decide) wfl_X2_18 rfl (by decide +kernel) rfl rfl dX2_init_17 (by omega) (by omega) (ww_at _ _ _) ?_
  refine k_al X dX2_init_20 rfl ?_
  refine k_iconst (0) X dX2_init_21 (by decide) ?_
  refine k_put a 2 2 (ty := .int) X rfl wla_X2 tyX2_ok nmX2 (by decide) wfl_X2_22 rfl (by decide +kernel) rfl rfl dX2_init_22 (by omega) (by omega) (ww_at _ _ _) ?_
  refine k_al X dX2_init_25 rfl ?_
  refine k_iconst (0) X dX2_init_26 (by decide) ?_
  refine k_put a 2 3 (ty := .boolean) X rfl wla_X2 tyX2_ok nmX2 (by decide) wfl_X2_25 rfl (by decide +kernel) rfl rfl dX2_init_27 (by omega) (by omega) (ww_at _ _ _) ?_
  refine k_al X dX2_init_30 rfl ?_
  refine k_iconst (0) X dX2_init_31 (by decide) ?_
  refine k_put a 2 4 (ty := .boolean) X rfl wla_X2 tyX2_ok nmX2 (by decide) wfl_X2_29 rfl (by decide +kernel) rfl rfl dX2_init_32 (by omega) (by omega) (ww_at _ _ _) ?_
  refine k_al X dX2_init_35 rfl ?_
  refine k_iconst (0) X dX2_init_36 (by decide) ?_
  refine k_put a 2 5 (ty := .int) X rfl wla_X2 tyX2_ok nmX2 (by decide) wfl_X2_32 rfl (by decide +kernel) rfl rfl dX2_init_37 (by omega) (by omega) (ww_at _ _ _) ?_
  refine k_al X dX2_init_40 rfl ?_
  refine k_iconst (0) X dX2_init_41 (by decide) ?_
  refine k_put a 2 6 (ty := .int) X rfl wla_X2 tyX2_ok nmX2 (by decide) wfl_X2_35 rfl (by decide +kernel) rfl rfl dX2_init_42 (by omega) (by omega) (ww_at _ _ _) ?_
  refine k_al X dX2_init_45 rfl ?_
  refine k_iconst (0) X dX2_init_46 (by decide) ?_
  refine k_put a 2 7 (ty := .boolean) X rfl wla_X2 tyX2_ok nmX2 (by decide) wfl_X2_38 rfl (by decide +kernel) rfl rfl dX2_init_47 (by omega) (by omega) (ww_at _ _ _) ?_
  refine k_al X dX2_init_50 rfl ?_
  refine k_iconst (0) X dX2_init_51 (by decide) ?_
  refine k_put a 2 8 (ty := .int) X rfl wla_X2 tyX2_ok nmX2 (by decide) wfl_X2_41 rfl (by decide +kernel) rfl rfl dX2_init_52 (by omega) (by omega) (ww_at _ _ _) ?_
  refine k_al X dX2_init_55 rfl ?_
  refine k_iconst (0) X dX2_init_56 (by decide) ?_
  refine k_put a 2 9 (ty := .int) X rfl wla_X2 tyX2_ok nmX2 (by decide) wfl_X2_44 rfl (by decide +kernel) rfl rfl dX2_init_57 (by omega) (by omega) (ww_at _ _ _) ?_
  refine k_al X dX2_init_60 rfl ?_
  refine k_iconst (0) X dX2_init_61 (by decide) ?_
  refine k_put a 2 10 (ty := .int) X rfl wla_X2 tyX2_ok nmX2 (by decide) wfl_X2_47 rfl (by decide +kernel) rfl rfl dX2_init_62 (by omega) (by omega) (ww_at _ _ _) ?_
  refine Rc.eqw (w' := (ww (ww (ww (ww w a (.inl 2, 11, poF b n f)) n (.inl 3, 3, quF b (n + 1) (fun j => defaultValue (tyX3 j)))) (n + 1) (.inr 0, 20, fun _ => defaultValue .int)) (n + 1 + 1) (.inr 0, 20, fun _ => defaultValue .int))) ?_ ?_
  · funext q
    simp only [ww]
    repeat' split
    all_goals first | rfl | (exfalso; omega)
  exact k_end X hr hlk hz dX2_init_65 rfl rfl
