def ze_X5 (n0 : Nat) (σ : sg_T) : sg_T :=
  upr (upr (σ) (n0 + 1) zz) (n0 + 2) zz
theorem okX5_init : yX5_init.cls ≠ "java/lang/invoke/MethodHandle" ∧ yX5_init.cls ≠ "java/lang/invoke/VarHandle" ∧ (parseMethodDescriptor yX5_init.desc).map (fun d => d.parameters.length) = some 0 := by decide +kernel
abbrev rm_X5_init : Room := { frames := 1, cells := 2, slots := 163, locals := 100 }
set_option maxHeartbeats 4000000 in
set_option maxRecDepth 100000 in
theorem n_X5 {l : Launch} {B : zb_T} {L0 : List sh_K} {σ : sg_T} : Cn l yX5_init cX5_init 1 rm_X5_init B [.ref (zba B + L0.length)] (L0 ++ [.inr (.inr (5, [1, 1, 0]))]) σ (L0 ++ [.inr (.inr (5, [(L0.length + 1) + 3, (L0.length + 2) + 3, 0])), .inl (.int, 160), .inl (.int, 3)]) (ze_X5 L0.length σ) 2 163 := by
  refine Cn.start (by decide) rfl (Nat.le_of_ble_eq_true rfl) ?_
  intro p e s m below meth c X hin hw ls hl
  have X : Cz B p s m _ meth c cX5_init 1 RX5 none := X
  have hl : lv_has ls 1 [(0, .ref (zba B + L0.length))] := hl
  refine lv_aload_n X.1 X.2.1 dX5_init_0 rfl (lv_at hl 0 rfl) ?_
  refine z_obj X hl.1 qw135 qw89 qw90 (Nat.le_of_ble_eq_true rfl) (Nat.le_of_ble_eq_true rfl) dX5_init_1 ?_
  refine lv_aload_n X.1 X.2.1 dX5_init_4 rfl (lv_at hl 0 rfl) ?_
  refine lv_sipush (v := 160) X.1 X.2.1 dX5_init_5 (by decide) ?_
  refine y_newa X hw (atype := .int) (ty := .int) rfl qw122 (y_fc (k := 0) X.2.2.2.2.2.1 rfl (Or.inl rfl)) rfl (k := 160) (by decide) (by decide) (by decide) (Nat.le_of_ble_eq_true rfl) (Nat.le_of_ble_eq_true rfl) (L' := (L0 ++ [.inr (.inr (5, [1, 1, 0])), .inl (.int, 160)])) (q := (L0.length + 1)) (app_n.trans rfl) (by simp) dX5_init_8 (fun H hw => ?_)
  obtain ⟨σ1, e2⟩ : ∃ x, x = upr σ (L0.length + 1) zz := ⟨_, rfl⟩
  rw [← e2] at hw
  refine y_putR X hin hw lg_app0 (C := RX5) (T := TX5) (N := 3) rfl iwX5 tyX5 tyX5_ok nmX5 0 (by decide) (Nat.le_of_ble_eq_true rfl) qw136 rfl rfl (q := (L0.length + 1)) rfl rfl (L' := (L0 ++ [.inr (.inr (5, [(L0.length + 1) + 3, 1, 0])), .inl (.int, 160)])) (set_n0.trans rfl) dX5_init_10 (fun H locs hw => ?_)
  refine lv_aload_n X.1 X.2.1 dX5_init_13 rfl (lv_at hl 0 rfl) ?_
  refine lv_iconst (v := 3) X.1 X.2.1 dX5_init_14 (by decide) ?_
  refine y_newa X hw (atype := .int) (ty := .int) rfl qw122 (y_fc (k := 0) X.2.2.2.2.2.1 rfl (Or.inl rfl)) rfl (k := 3) (by decide) (by decide) (by decide) (Nat.le_of_ble_eq_true rfl) (Nat.le_of_ble_eq_true rfl) (L' := (L0 ++ [.inr (.inr (5, [(L0.length + 1) + 3, 1, 0])), .inl (.int, 160), .inl (.int, 3)])) (q := (L0.length + 2)) (app_n.trans rfl) (by simp) dX5_init_15 (fun H hw => ?_)
  obtain ⟨σ3, e4⟩ : ∃ x, x = upr σ1 (L0.length + 2) zz := ⟨_, rfl⟩
  rw [← e4] at hw
  refine y_putR X hin hw lg_app0 (C := RX5) (T := TX5) (N := 3) rfl iwX5 tyX5 tyX5_ok nmX5 1 (by decide) (Nat.le_of_ble_eq_true rfl) qw137 rfl rfl (q := (L0.length + 2)) rfl rfl (L' := (L0 ++ [.inr (.inr (5, [(L0.length + 1) + 3, (L0.length + 2) + 3, 0])), .inl (.int, 160), .inl (.int, 3)])) (set_n0.trans rfl) dX5_init_17 (fun H locs hw => ?_)
  exact z_vret X hw rfl (by rw [e4, e2]; rfl) (Nat.le_of_ble_eq_true rfl) (Nat.le_of_ble_eq_true rfl) dX5_init_20

def ze_X1 (n0 : Nat) (σ : sg_T) : sg_T :=
  upr (upr (upr (upr (upr (upr (upr (σ) (n0 + 1) zz) (n0 + 2) zz) (n0 + 3) zz) (n0 + 4) zz) (n0 + 5) zz) (n0 + 6) zz) (n0 + 7) zz
theorem okX1_init : yX1_init.cls ≠ "java/lang/invoke/MethodHandle" ∧ yX1_init.cls ≠ "java/lang/invoke/VarHandle" ∧ (parseMethodDescriptor yX1_init.desc).map (fun d => d.parameters.length) = some 0 := by decide +kernel
abbrev rm_X1_init : Room := { frames := 1, cells := 7, slots := 55, locals := 100 }
set_option maxHeartbeats 4000000 in
set_option maxRecDepth 100000 in
theorem n_X1 {l : Launch} {B : zb_T} {L0 : List sh_K} {σ : sg_T} : Cn l yX1_init cX1_init 1 rm_X1_init B [.ref (zba B + L0.length)] (L0 ++ [.inr (.inr (1, [1, 1, 1, 1, 1, 1, 1, 0, 0, 0]))]) σ (L0 ++ [.inr (.inr (1, [(L0.length + 1) + 3, (L0.length + 2) + 3, (L0.length + 3) + 3, (L0.length + 4) + 3, (L0.length + 5) + 3, (L0.length + 6) + 3, (L0.length + 7) + 3, 0, 0, 0])), .inl (.int, 5), .inl (.int, 5), .inl (.int, 5), .inl (.int, 5), .inl (.int, 5), .inl (.int, 5), .inl (.int, 25)]) (ze_X1 L0.length σ) 7 55 := by
  refine Cn.start (by decide) rfl (Nat.le_of_ble_eq_true rfl) ?_
  intro p e s m below meth c X hin hw ls hl
  have X : Cz B p s m _ meth c cX1_init 1 RX1 none := X
  have hl : lv_has ls 1 [(0, .ref (zba B + L0.length))] := hl
  refine lv_aload_n X.1 X.2.1 dX1_init_0 rfl (lv_at hl 0 rfl) ?_
  refine z_obj X hl.1 qw350 qw89 qw90 (Nat.le_of_ble_eq_true rfl) (Nat.le_of_ble_eq_true rfl) dX1_init_1 ?_
  refine lv_aload_n X.1 X.2.1 dX1_init_4 rfl (lv_at hl 0 rfl) ?_
  refine lv_iconst (v := 5) X.1 X.2.1 dX1_init_5 (by decide) ?_
  refine y_newa X hw (atype := .int) (ty := .int) rfl qw122 (y_fc (k := 0) X.2.2.2.2.2.1 rfl (Or.inl rfl)) rfl (k := 5) (by decide) (by decide) (by decide) (Nat.le_of_ble_eq_true rfl) (Nat.le_of_ble_eq_true rfl) (L' := (L0 ++ [.inr (.inr (1, [1, 1, 1, 1, 1, 1, 1, 0, 0, 0])), .inl (.int, 5)])) (q := (L0.length + 1)) (app_n.trans rfl) (by simp) dX1_init_6 (fun H hw => ?_)
  obtain ⟨σ1, e2⟩ : ∃ x, x = upr σ (L0.length + 1) zz := ⟨_, rfl⟩
  rw [← e2] at hw
  refine y_putR X hin hw lg_app0 (C := RX1) (T := TX1) (N := 10) rfl iwX1 tyX1 tyX1_ok nmX1 0 (by decide) (Nat.le_of_ble_eq_true rfl) qw351 rfl rfl (q := (L0.length + 1)) rfl rfl (L' := (L0 ++ [.inr (.inr (1, [(L0.length + 1) + 3, 1, 1, 1, 1, 1, 1, 0, 0, 0])), .inl (.int, 5)])) (set_n0.trans rfl) dX1_init_8 (fun H locs hw => ?_)
  refine lv_aload_n X.1 X.2.1 dX1_init_11 rfl (lv_at hl 0 rfl) ?_
  refine lv_iconst (v := 5) X.1 X.2.1 dX1_init_12 (by decide) ?_
  refine y_newa X hw (atype := .int) (ty := .int) rfl qw122 (y_fc (k := 0) X.2.2.2.2.2.1 rfl (Or.inl rfl)) rfl (k := 5) (by decide) (by decide) (by decide) (Nat.le_of_ble_eq_true rfl) (Nat.le_of_ble_eq_true rfl) (L' := (L0 ++ [.inr (.inr (1, [(L0.length + 1) + 3, 1, 1, 1, 1, 1, 1, 0, 0, 0])), .inl (.int, 5), .inl (.int, 5)])) (q := (L0.length + 2)) (app_n.trans rfl) (by simp) dX1_init_13 (fun H hw => ?_)
  obtain ⟨σ3, e4⟩ : ∃ x, x = upr σ1 (L0.length + 2) zz := ⟨_, rfl⟩
  rw [← e4] at hw
  refine y_putR X hin hw lg_app0 (C := RX1) (T := TX1) (N := 10) rfl iwX1 tyX1 tyX1_ok nmX1 1 (by decide) (Nat.le_of_ble_eq_true rfl) qw352 rfl rfl (q := (L0.length + 2)) rfl rfl (L' := (L0 ++ [.inr (.inr (1, [(L0.length + 1) + 3, (L0.length + 2) + 3, 1, 1, 1, 1, 1, 0, 0, 0])), .inl (.int, 5), .inl (.int, 5)])) (set_n0.trans rfl) dX1_init_15 (fun H locs hw => ?_)
  refine lv_aload_n X.1 X.2.1 dX1_init_18 rfl (lv_at hl 0 rfl) ?_
  refine lv_iconst (v := 5) X.1 X.2.1 dX1_init_19 (by decide) ?_
  refine y_newa X hw (atype := .int) (ty := .int) rfl qw122 (y_fc (k := 0) X.2.2.2.2.2.1 rfl (Or.inl rfl)) rfl (k := 5) (by decide) (by decide) (by decide) (Nat.le_of_ble_eq_true rfl) (Nat.le_of_ble_eq_true rfl) (L' := (L0 ++ [.inr (.inr (1, [(L0.length + 1) + 3, (L0.length + 2) + 3, 1, 1, 1, 1, 1, 0, 0, 0])), .inl (.int, 5), .inl (.int, 5), .inl (.int, 5)])) (q := (L0.length + 3)) (app_n.trans rfl) (by simp) dX1_init_20 (fun H hw => ?_)
  obtain ⟨σ5, e6⟩ : ∃ x, x = upr σ3 (L0.length + 3) zz := ⟨_, rfl⟩
  rw [← e6] at hw
  refine y_putR X hin hw lg_app0 (C := RX1) (T := TX1) (N := 10) rfl iwX1 tyX1 tyX1_ok nmX1 2 (by decide) (Nat.le_of_ble_eq_true rfl) qw353 rfl rfl (q := (L0.length + 3)) rfl rfl (L' := (L0 ++ [.inr (.inr (1, [(L0.length + 1) + 3, (L0.length + 2) + 3, (L0.length + 3) + 3, 1, 1, 1, 1, 0, 0, 0])), .inl (.int, 5), .inl (.int, 5), .inl (.int, 5)])) (set_n0.trans rfl) dX1_init_22 (fun H locs hw => ?_)
  refine lv_aload_n X.1 X.2.1 dX1_init_25 rfl (lv_at hl 0 rfl) ?_
  refine lv_iconst (v := 5) X.1 X.2.1 dX1_init_26 (by decide) ?_
  refine y_newa X hw (atype := .int) (ty := .int) rfl qw122 (y_fc (k := 0) X.2.2.2.2.2.1 rfl (Or.inl rfl)) rfl (k := 5) (by decide) (by decide) (by decide) (Nat.le_of_ble_eq_true rfl) (Nat.le_of_ble_eq_true rfl) (L' := (L0 ++ [.inr (.inr (1, [(L0.length + 1) + 3, (L0.length + 2) + 3, (L0.length + 3) + 3, 1, 1, 1, 1, 0, 0, 0])), .inl (.int, 5), .inl (.int, 5), .inl (.int, 5), .inl (.int, 5)])) (q := (L0.length + 4)) (app_n.trans rfl) (by simp) dX1_init_27 (fun H hw => ?_)
  obtain ⟨σ7, e8⟩ : ∃ x, x = upr σ5 (L0.length + 4) zz := ⟨_, rfl⟩
  rw [← e8] at hw
  refine y_putR X hin hw lg_app0 (C := RX1) (T := TX1) (N := 10) rfl iwX1 tyX1 tyX1_ok nmX1 3 (by decide) (Nat.le_of_ble_eq_true rfl) qw354 rfl rfl (q := (L0.length + 4)) rfl rfl (L' := (L0 ++ [.inr (.inr (1, [(L0.length + 1) + 3, (L0.length + 2) + 3, (L0.length + 3) + 3, (L0.length + 4) + 3, 1, 1, 1, 0, 0, 0])), .inl (.int, 5), .inl (.int, 5), .inl (.int, 5), .inl (.int, 5)])) (set_n0.trans rfl) dX1_init_29 (fun H locs hw => ?_)
  refine lv_aload_n X.1 X.2.1 dX1_init_32 rfl (lv_at hl 0 rfl) ?_
  refine lv_iconst (v := 5) X.1 X.2.1 dX1_init_33 (by decide) ?_
  refine y_newa X hw (atype := .int) (ty := .int) rfl qw122 (y_fc (k := 0) X.2.2.2.2.2.1 rfl (Or.inl rfl)) rfl (k := 5) (by decide) (by decide) (by decide) (Nat.le_of_ble_eq_true rfl) (Nat.le_of_ble_eq_true rfl) (L' := (L0 ++ [.inr (.inr (1, [(L0.length + 1) + 3, (L0.length + 2) + 3, (L0.length + 3) + 3, (L0.length + 4) + 3, 1, 1, 1, 0, 0, 0])), .inl (.int, 5), .inl (.int, 5), .inl (.int, 5), .inl (.int, 5), .inl (.int, 5)])) (q := (L0.length + 5)) (app_n.trans rfl) (by simp) dX1_init_34 (fun H hw => ?_)
  obtain ⟨σ9, e10⟩ : ∃ x, x = upr σ7 (L0.length + 5) zz := ⟨_, rfl⟩
  rw [← e10] at hw
  refine y_putR X hin hw lg_app0 (C := RX1) (T := TX1) (N := 10) rfl iwX1 tyX1 tyX1_ok nmX1 4 (by decide) (Nat.le_of_ble_eq_true rfl) qw355 rfl rfl (q := (L0.length + 5)) rfl rfl (L' := (L0 ++ [.inr (.inr (1, [(L0.length + 1) + 3, (L0.length + 2) + 3, (L0.length + 3) + 3, (L0.length + 4) + 3, (L0.length + 5) + 3, 1, 1, 0, 0, 0])), .inl (.int, 5), .inl (.int, 5), .inl (.int, 5), .inl (.int, 5), .inl (.int, 5)])) (set_n0.trans rfl) dX1_init_36 (fun H locs hw => ?_)
  refine lv_aload_n X.1 X.2.1 dX1_init_39 rfl (lv_at hl 0 rfl) ?_
  refine lv_iconst (v := 5) X.1 X.2.1 dX1_init_40 (by decide) ?_
  refine y_newa X hw (atype := .int) (ty := .int) rfl qw122 (y_fc (k := 0) X.2.2.2.2.2.1 rfl (Or.inl rfl)) rfl (k := 5) (by decide) (by decide) (by decide) (Nat.le_of_ble_eq_true rfl) (Nat.le_of_ble_eq_true rfl) (L' := (L0 ++ [.inr (.inr (1, [(L0.length + 1) + 3, (L0.length + 2) + 3, (L0.length + 3) + 3, (L0.length + 4) + 3, (L0.length + 5) + 3, 1, 1, 0, 0, 0])), .inl (.int, 5), .inl (.int, 5), .inl (.int, 5), .inl (.int, 5), .inl (.int, 5), .inl (.int, 5)])) (q := (L0.length + 6)) (app_n.trans rfl) (by simp) dX1_init_41 (fun H hw => ?_)
  obtain ⟨σ11, e12⟩ : ∃ x, x = upr σ9 (L0.length + 6) zz := ⟨_, rfl⟩
  rw [← e12] at hw
  refine y_putR X hin hw lg_app0 (C := RX1) (T := TX1) (N := 10) rfl iwX1 tyX1 tyX1_ok nmX1 5 (by decide) (Nat.le_of_ble_eq_true rfl) qw356 rfl rfl (q := (L0.length + 6)) rfl rfl (L' := (L0 ++ [.inr (.inr (1, [(L0.length + 1) + 3, (L0.length + 2) + 3, (L0.length + 3) + 3, (L0.length + 4) + 3, (L0.length + 5) + 3, (L0.length + 6) + 3, 1, 0, 0, 0])), .inl (.int, 5), .inl (.int, 5), .inl (.int, 5), .inl (.int, 5), .inl (.int, 5), .inl (.int, 5)])) (set_n0.trans rfl) dX1_init_43 (fun H locs hw => ?_)
  refine lv_aload_n X.1 X.2.1 dX1_init_46 rfl (lv_at hl 0 rfl) ?_
  refine lv_bipush (v := 25) X.1 X.2.1 dX1_init_47 (by decide) ?_
  refine y_newa X hw (atype := .int) (ty := .int) rfl qw122 (y_fc (k := 0) X.2.2.2.2.2.1 rfl (Or.inl rfl)) rfl (k := 25) (by decide) (by decide) (by decide) (Nat.le_of_ble_eq_true rfl) (Nat.le_of_ble_eq_true rfl) (L' := (L0 ++ [.inr (.inr (1, [(L0.length + 1) + 3, (L0.length + 2) + 3, (L0.length + 3) + 3, (L0.length + 4) + 3, (L0.length + 5) + 3, (L0.length + 6) + 3, 1, 0, 0, 0])), .inl (.int, 5), .inl (.int, 5), .inl (.int, 5), .inl (.int, 5), .inl (.int, 5), .inl (.int, 5), .inl (.int, 25)])) (q := (L0.length + 7)) (app_n.trans rfl) (by simp) dX1_init_49 (fun H hw => ?_)
  obtain ⟨σ13, e14⟩ : ∃ x, x = upr σ11 (L0.length + 7) zz := ⟨_, rfl⟩
  rw [← e14] at hw
  refine y_putR X hin hw lg_app0 (C := RX1) (T := TX1) (N := 10) rfl iwX1 tyX1 tyX1_ok nmX1 6 (by decide) (Nat.le_of_ble_eq_true rfl) qw357 rfl rfl (q := (L0.length + 7)) rfl rfl (L' := (L0 ++ [.inr (.inr (1, [(L0.length + 1) + 3, (L0.length + 2) + 3, (L0.length + 3) + 3, (L0.length + 4) + 3, (L0.length + 5) + 3, (L0.length + 6) + 3, (L0.length + 7) + 3, 0, 0, 0])), .inl (.int, 5), .inl (.int, 5), .inl (.int, 5), .inl (.int, 5), .inl (.int, 5), .inl (.int, 5), .inl (.int, 25)])) (set_n0.trans rfl) dX1_init_51 (fun H locs hw => ?_)
  exact z_vret X hw rfl (by rw [e14, e12, e10, e8, e6, e4, e2]; rfl) (Nat.le_of_ble_eq_true rfl) (Nat.le_of_ble_eq_true rfl) dX1_init_54

def ze_X4 (n0 : Nat) (σ : sg_T) : sg_T :=
  up (upr (σ) (n0 + 1) zz) n0 1 (-1)
theorem okX4_init : yX4_init.cls ≠ "java/lang/invoke/MethodHandle" ∧ yX4_init.cls ≠ "java/lang/invoke/VarHandle" ∧ (parseMethodDescriptor yX4_init.desc).map (fun d => d.parameters.length) = some 0 := by decide +kernel
abbrev rm_X4_init : Room := { frames := 1, cells := 1, slots := 40, locals := 100 }
set_option maxHeartbeats 4000000 in
set_option maxRecDepth 100000 in
theorem n_X4 {l : Launch} {B : zb_T} {L0 : List sh_K} {σ : sg_T} : Cn l yX4_init cX4_init 1 rm_X4_init B [.ref (zba B + L0.length)] (L0 ++ [.inr (.inr (4, [1, 0, 0]))]) σ (L0 ++ [.inr (.inr (4, [(L0.length + 1) + 3, 0, 0])), .inl (.int, 40)]) (ze_X4 L0.length σ) 1 40 := by
  refine Cn.start (by decide) rfl (Nat.le_of_ble_eq_true rfl) ?_
  intro p e s m below meth c X hin hw ls hl
  have X : Cz B p s m _ meth c cX4_init 1 RX4 none := X
  have hl : lv_has ls 1 [(0, .ref (zba B + L0.length))] := hl
  refine lv_aload_n X.1 X.2.1 dX4_init_0 rfl (lv_at hl 0 rfl) ?_
  refine z_obj X hl.1 qw407 qw89 qw90 (Nat.le_of_ble_eq_true rfl) (Nat.le_of_ble_eq_true rfl) dX4_init_1 ?_
  refine lv_aload_n X.1 X.2.1 dX4_init_4 rfl (lv_at hl 0 rfl) ?_
  refine lv_bipush (v := 40) X.1 X.2.1 dX4_init_5 (by decide) ?_
  refine y_newa X hw (atype := .int) (ty := .int) rfl qw122 (y_fc (k := 0) X.2.2.2.2.2.1 rfl (Or.inl rfl)) rfl (k := 40) (by decide) (by decide) (by decide) (Nat.le_of_ble_eq_true rfl) (Nat.le_of_ble_eq_true rfl) (L' := (L0 ++ [.inr (.inr (4, [1, 0, 0])), .inl (.int, 40)])) (q := (L0.length + 1)) (app_n.trans rfl) (by simp) dX4_init_7 (fun H hw => ?_)
  obtain ⟨σ1, e2⟩ : ∃ x, x = upr σ (L0.length + 1) zz := ⟨_, rfl⟩
  rw [← e2] at hw
  refine y_putR X hin hw lg_app0 (C := RX4) (T := TX4) (N := 3) rfl iwX4 tyX4 tyX4_ok nmX4 0 (by decide) (Nat.le_of_ble_eq_true rfl) qw408 rfl rfl (q := (L0.length + 1)) rfl rfl (L' := (L0 ++ [.inr (.inr (4, [(L0.length + 1) + 3, 0, 0])), .inl (.int, 40)])) (set_n0.trans rfl) dX4_init_9 (fun H locs hw => ?_)
  refine lv_aload_n X.1 X.2.1 dX4_init_12 rfl (lv_at hl 0 rfl) ?_
  refine lv_iconst (v := (-1)) X.1 X.2.1 dX4_init_13 (by decide) ?_
  refine z_put X hw (pl := L0.length) (ci := 4) (ks := [(L0.length + 1) + 3, 0, 0]) lg_app0 (C := RX4) (T := TX4) (N := 3) rfl iwX4 tyX4 tyX4_ok nmX4 1 (by decide) (Nat.le_of_ble_eq_true rfl) qw409 rfl (v := .int (-1)) rfl rfl (x := (-1)) rfl dX4_init_14 (fun H locs hw => ?_)
  obtain ⟨σ3, e4⟩ : ∃ x, x = up σ1 L0.length 1 (-1) := ⟨_, rfl⟩
  rw [← e4] at hw
  exact z_vret X hw rfl (by rw [e4, e2]; rfl) (Nat.le_of_ble_eq_true rfl) (Nat.le_of_ble_eq_true rfl) dX4_init_17

def ze_X2 (n0 : Nat) (σ : sg_T) : sg_T :=
  upr (upr (upr (upr (σ) (n0 + 1) zz) (n0 + 2) zz) (n0 + 3) zz) (n0 + 4) zz
theorem okX2_init : yX2_init.cls ≠ "java/lang/invoke/MethodHandle" ∧ yX2_init.cls ≠ "java/lang/invoke/VarHandle" ∧ (parseMethodDescriptor yX2_init.desc).map (fun d => d.parameters.length) = some 0 := by decide +kernel
abbrev rm_X2_init : Room := { frames := 1, cells := 4, slots := 643, locals := 100 }
set_option maxHeartbeats 4000000 in
set_option maxRecDepth 100000 in
theorem n_X2 {l : Launch} {B : zb_T} {L0 : List sh_K} {σ : sg_T} : Cn l yX2_init cX2_init 1 rm_X2_init B [.ref (zba B + L0.length)] (L0 ++ [.inr (.inr (2, [1, 0, 1, 1, 1, 0, 0, 2]))]) σ (L0 ++ [.inr (.inr (2, [(L0.length + 1) + 3, 0, (L0.length + 2) + 3, (L0.length + 3) + 3, (L0.length + 4) + 3, 0, 0, 2])), .inl (.int, 160), .inl (.int, 161), .inl (.int, 161), .inl (.int, 161)]) (ze_X2 L0.length σ) 4 643 := by
  refine Cn.start (by decide) rfl (Nat.le_of_ble_eq_true rfl) ?_
  intro p e s m below meth c X hin hw ls hl
  have X : Cz B p s m _ meth c cX2_init 1 RX2 none := X
  have hl : lv_has ls 1 [(0, .ref (zba B + L0.length))] := hl
  refine lv_aload_n X.1 X.2.1 dX2_init_0 rfl (lv_at hl 0 rfl) ?_
  refine z_obj X hl.1 qw96 qw89 qw90 (Nat.le_of_ble_eq_true rfl) (Nat.le_of_ble_eq_true rfl) dX2_init_1 ?_
  refine lv_aload_n X.1 X.2.1 dX2_init_4 rfl (lv_at hl 0 rfl) ?_
  refine lv_sipush (v := 160) X.1 X.2.1 dX2_init_5 (by decide) ?_
  refine y_newa X hw (atype := .int) (ty := .int) rfl qw122 (y_fc (k := 0) X.2.2.2.2.2.1 rfl (Or.inl rfl)) rfl (k := 160) (by decide) (by decide) (by decide) (Nat.le_of_ble_eq_true rfl) (Nat.le_of_ble_eq_true rfl) (L' := (L0 ++ [.inr (.inr (2, [1, 0, 1, 1, 1, 0, 0, 2])), .inl (.int, 160)])) (q := (L0.length + 1)) (app_n.trans rfl) (by simp) dX2_init_8 (fun H hw => ?_)
  obtain ⟨σ1, e2⟩ : ∃ x, x = upr σ (L0.length + 1) zz := ⟨_, rfl⟩
  rw [← e2] at hw
  refine y_putR X hin hw lg_app0 (C := RX2) (T := TX2) (N := 8) rfl iwX2 tyX2 tyX2_ok nmX2 0 (by decide) (Nat.le_of_ble_eq_true rfl) qw97 rfl rfl (q := (L0.length + 1)) rfl rfl (L' := (L0 ++ [.inr (.inr (2, [(L0.length + 1) + 3, 0, 1, 1, 1, 0, 0, 2])), .inl (.int, 160)])) (set_n0.trans rfl) dX2_init_10 (fun H locs hw => ?_)
  refine lv_aload_n X.1 X.2.1 dX2_init_13 rfl (lv_at hl 0 rfl) ?_
  refine lv_sipush (v := 161) X.1 X.2.1 dX2_init_14 (by decide) ?_
  refine y_newa X hw (atype := .int) (ty := .int) rfl qw122 (y_fc (k := 0) X.2.2.2.2.2.1 rfl (Or.inl rfl)) rfl (k := 161) (by decide) (by decide) (by decide) (Nat.le_of_ble_eq_true rfl) (Nat.le_of_ble_eq_true rfl) (L' := (L0 ++ [.inr (.inr (2, [(L0.length + 1) + 3, 0, 1, 1, 1, 0, 0, 2])), .inl (.int, 160), .inl (.int, 161)])) (q := (L0.length + 2)) (app_n.trans rfl) (by simp) dX2_init_17 (fun H hw => ?_)
  obtain ⟨σ3, e4⟩ : ∃ x, x = upr σ1 (L0.length + 2) zz := ⟨_, rfl⟩
  rw [← e4] at hw
  refine y_putR X hin hw lg_app0 (C := RX2) (T := TX2) (N := 8) rfl iwX2 tyX2 tyX2_ok nmX2 2 (by decide) (Nat.le_of_ble_eq_true rfl) qw99 rfl rfl (q := (L0.length + 2)) rfl rfl (L' := (L0 ++ [.inr (.inr (2, [(L0.length + 1) + 3, 0, (L0.length + 2) + 3, 1, 1, 0, 0, 2])), .inl (.int, 160), .inl (.int, 161)])) (set_n0.trans rfl) dX2_init_19 (fun H locs hw => ?_)
  refine lv_aload_n X.1 X.2.1 dX2_init_22 rfl (lv_at hl 0 rfl) ?_
  refine lv_sipush (v := 161) X.1 X.2.1 dX2_init_23 (by decide) ?_
  refine y_newa X hw (atype := .int) (ty := .int) rfl qw122 (y_fc (k := 0) X.2.2.2.2.2.1 rfl (Or.inl rfl)) rfl (k := 161) (by decide) (by decide) (by decide) (Nat.le_of_ble_eq_true rfl) (Nat.le_of_ble_eq_true rfl) (L' := (L0 ++ [.inr (.inr (2, [(L0.length + 1) + 3, 0, (L0.length + 2) + 3, 1, 1, 0, 0, 2])), .inl (.int, 160), .inl (.int, 161), .inl (.int, 161)])) (q := (L0.length + 3)) (app_n.trans rfl) (by simp) dX2_init_26 (fun H hw => ?_)
  obtain ⟨σ5, e6⟩ : ∃ x, x = upr σ3 (L0.length + 3) zz := ⟨_, rfl⟩
  rw [← e6] at hw
  refine y_putR X hin hw lg_app0 (C := RX2) (T := TX2) (N := 8) rfl iwX2 tyX2 tyX2_ok nmX2 3 (by decide) (Nat.le_of_ble_eq_true rfl) qw100 rfl rfl (q := (L0.length + 3)) rfl rfl (L' := (L0 ++ [.inr (.inr (2, [(L0.length + 1) + 3, 0, (L0.length + 2) + 3, (L0.length + 3) + 3, 1, 0, 0, 2])), .inl (.int, 160), .inl (.int, 161), .inl (.int, 161)])) (set_n0.trans rfl) dX2_init_28 (fun H locs hw => ?_)
  refine lv_aload_n X.1 X.2.1 dX2_init_31 rfl (lv_at hl 0 rfl) ?_
  refine lv_sipush (v := 161) X.1 X.2.1 dX2_init_32 (by decide) ?_
  refine y_newa X hw (atype := .int) (ty := .int) rfl qw122 (y_fc (k := 0) X.2.2.2.2.2.1 rfl (Or.inl rfl)) rfl (k := 161) (by decide) (by decide) (by decide) (Nat.le_of_ble_eq_true rfl) (Nat.le_of_ble_eq_true rfl) (L' := (L0 ++ [.inr (.inr (2, [(L0.length + 1) + 3, 0, (L0.length + 2) + 3, (L0.length + 3) + 3, 1, 0, 0, 2])), .inl (.int, 160), .inl (.int, 161), .inl (.int, 161), .inl (.int, 161)])) (q := (L0.length + 4)) (app_n.trans rfl) (by simp) dX2_init_35 (fun H hw => ?_)
  obtain ⟨σ7, e8⟩ : ∃ x, x = upr σ5 (L0.length + 4) zz := ⟨_, rfl⟩
  rw [← e8] at hw
  refine y_putR X hin hw lg_app0 (C := RX2) (T := TX2) (N := 8) rfl iwX2 tyX2 tyX2_ok nmX2 4 (by decide) (Nat.le_of_ble_eq_true rfl) qw101 rfl rfl (q := (L0.length + 4)) rfl rfl (L' := (L0 ++ [.inr (.inr (2, [(L0.length + 1) + 3, 0, (L0.length + 2) + 3, (L0.length + 3) + 3, (L0.length + 4) + 3, 0, 0, 2])), .inl (.int, 160), .inl (.int, 161), .inl (.int, 161), .inl (.int, 161)])) (set_n0.trans rfl) dX2_init_37 (fun H locs hw => ?_)
  exact z_vret X hw rfl (by rw [e8, e6, e4, e2]; rfl) (Nat.le_of_ble_eq_true rfl) (Nat.le_of_ble_eq_true rfl) dX2_init_40

def ze_X6 (n0 : Nat) (σ : sg_T) : sg_T :=
  upr (σ) (n0 + 1) zz
theorem okX6_init : yX6_init.cls ≠ "java/lang/invoke/MethodHandle" ∧ yX6_init.cls ≠ "java/lang/invoke/VarHandle" ∧ (parseMethodDescriptor yX6_init.desc).map (fun d => d.parameters.length) = some 0 := by decide +kernel
abbrev rm_X6_init : Room := { frames := 1, cells := 1, slots := 25, locals := 100 }
set_option maxHeartbeats 4000000 in
set_option maxRecDepth 100000 in
theorem n_X6 {l : Launch} {B : zb_T} {L0 : List sh_K} {σ : sg_T} : Cn l yX6_init cX6_init 1 rm_X6_init B [.ref (zba B + L0.length)] (L0 ++ [.inr (.inr (6, [1, 0, 0, 0]))]) σ (L0 ++ [.inr (.inr (6, [(L0.length + 1) + 3, 0, 0, 0])), .inl (.int, 25)]) (ze_X6 L0.length σ) 1 25 := by
  refine Cn.start (by decide) rfl (Nat.le_of_ble_eq_true rfl) ?_
  intro p e s m below meth c X hin hw ls hl
  have X : Cz B p s m _ meth c cX6_init 1 RX6 none := X
  have hl : lv_has ls 1 [(0, .ref (zba B + L0.length))] := hl
  refine lv_aload_n X.1 X.2.1 dX6_init_0 rfl (lv_at hl 0 rfl) ?_
  refine z_obj X hl.1 qw387 qw89 qw90 (Nat.le_of_ble_eq_true rfl) (Nat.le_of_ble_eq_true rfl) dX6_init_1 ?_
  refine lv_aload_n X.1 X.2.1 dX6_init_4 rfl (lv_at hl 0 rfl) ?_
  refine lv_bipush (v := 25) X.1 X.2.1 dX6_init_5 (by decide) ?_
  refine y_newa X hw (atype := .int) (ty := .int) rfl qw122 (y_fc (k := 0) X.2.2.2.2.2.1 rfl (Or.inl rfl)) rfl (k := 25) (by decide) (by decide) (by decide) (Nat.le_of_ble_eq_true rfl) (Nat.le_of_ble_eq_true rfl) (L' := (L0 ++ [.inr (.inr (6, [1, 0, 0, 0])), .inl (.int, 25)])) (q := (L0.length + 1)) (app_n.trans rfl) (by simp) dX6_init_7 (fun H hw => ?_)
  obtain ⟨σ1, e2⟩ : ∃ x, x = upr σ (L0.length + 1) zz := ⟨_, rfl⟩
  rw [← e2] at hw
  refine y_putR X hin hw lg_app0 (C := RX6) (T := TX6) (N := 4) rfl iwX6 tyX6 tyX6_ok nmX6 0 (by decide) (Nat.le_of_ble_eq_true rfl) qw388 rfl rfl (q := (L0.length + 1)) rfl rfl (L' := (L0 ++ [.inr (.inr (6, [(L0.length + 1) + 3, 0, 0, 0])), .inl (.int, 25)])) (set_n0.trans rfl) dX6_init_9 (fun H locs hw => ?_)
  exact z_vret X hw rfl (by rw [e2]; rfl) (Nat.le_of_ble_eq_true rfl) (Nat.le_of_ble_eq_true rfl) dX6_init_12

def ze_X0 (n0 : Nat) (σ : sg_T) : sg_T :=
  upr (upr (upr (upr (upr (σ) (n0 + 1) zz) (n0 + 2) zz) (n0 + 3) zz) (n0 + 4) zz) (n0 + 5) zz
theorem okX0_init : yX0_init.cls ≠ "java/lang/invoke/MethodHandle" ∧ yX0_init.cls ≠ "java/lang/invoke/VarHandle" ∧ (parseMethodDescriptor yX0_init.desc).map (fun d => d.parameters.length) = some 1 := by decide +kernel
abbrev rm_X0_init : Room := { frames := 1, cells := 5, slots := 25, locals := 100 }
set_option maxHeartbeats 4000000 in
set_option maxRecDepth 100000 in
theorem n_X0 {l : Launch} {B : zb_T} {L0 : List sh_K} {σ : sg_T} {r0 : Nat} : Cn l yX0_init cX0_init 2 rm_X0_init B [.ref (zba B + L0.length), .ref (zba B + r0)] (L0 ++ [.inr (.inr (0, [1, 1, 1, 1, 1, 1]))]) σ (L0 ++ [.inr (.inr (0, [r0 + 3, (L0.length + 1) + 3, (L0.length + 2) + 3, (L0.length + 3) + 3, (L0.length + 4) + 3, (L0.length + 5) + 3])), .inl (.int, 5), .inl (.int, 5), .inl (.int, 5), .inl (.int, 5), .inl (.int, 5)]) (ze_X0 L0.length σ) 5 25 := by
  refine Cn.start (by decide) rfl (Nat.le_of_ble_eq_true rfl) ?_
  intro p e s m below meth c X hin hw ls hl
  have X : Cz B p s m _ meth c cX0_init 2 RX0 none := X
  have hl : lv_has ls 2 [(0, .ref (zba B + L0.length)), (1, .ref (zba B + r0))] := hl
  refine lv_aload_n X.1 X.2.1 dX0_init_0 rfl (lv_at hl 0 rfl) ?_
  refine z_obj X hl.1 qw324 qw89 qw90 (Nat.le_of_ble_eq_true rfl) (Nat.le_of_ble_eq_true rfl) dX0_init_1 ?_
  refine lv_aload_n X.1 X.2.1 dX0_init_4 rfl (lv_at hl 0 rfl) ?_
  refine lv_iconst (v := 5) X.1 X.2.1 dX0_init_5 (by decide) ?_
  refine y_newa X hw (atype := .int) (ty := .int) rfl qw122 (y_fc (k := 0) X.2.2.2.2.2.1 rfl (Or.inl rfl)) rfl (k := 5) (by decide) (by decide) (by decide) (Nat.le_of_ble_eq_true rfl) (Nat.le_of_ble_eq_true rfl) (L' := (L0 ++ [.inr (.inr (0, [1, 1, 1, 1, 1, 1])), .inl (.int, 5)])) (q := (L0.length + 1)) (app_n.trans rfl) (by simp) dX0_init_6 (fun H hw => ?_)
  obtain ⟨σ1, e2⟩ : ∃ x, x = upr σ (L0.length + 1) zz := ⟨_, rfl⟩
  rw [← e2] at hw
  refine y_putR X hin hw lg_app0 (C := RX0) (T := TX0) (N := 6) rfl iwX0 tyX0 tyX0_ok nmX0 1 (by decide) (Nat.le_of_ble_eq_true rfl) qw326 rfl rfl (q := (L0.length + 1)) rfl rfl (L' := (L0 ++ [.inr (.inr (0, [1, (L0.length + 1) + 3, 1, 1, 1, 1])), .inl (.int, 5)])) (set_n0.trans rfl) dX0_init_8 (fun H locs hw => ?_)
  refine lv_aload_n X.1 X.2.1 dX0_init_11 rfl (lv_at hl 0 rfl) ?_
  refine lv_iconst (v := 5) X.1 X.2.1 dX0_init_12 (by decide) ?_
  refine y_newa X hw (atype := .int) (ty := .int) rfl qw122 (y_fc (k := 0) X.2.2.2.2.2.1 rfl (Or.inl rfl)) rfl (k := 5) (by decide) (by decide) (by decide) (Nat.le_of_ble_eq_true rfl) (Nat.le_of_ble_eq_true rfl) (L' := (L0 ++ [.inr (.inr (0, [1, (L0.length + 1) + 3, 1, 1, 1, 1])), .inl (.int, 5), .inl (.int, 5)])) (q := (L0.length + 2)) (app_n.trans rfl) (by simp) dX0_init_13 (fun H hw => ?_)
  obtain ⟨σ3, e4⟩ : ∃ x, x = upr σ1 (L0.length + 2) zz := ⟨_, rfl⟩
  rw [← e4] at hw
  refine y_putR X hin hw lg_app0 (C := RX0) (T := TX0) (N := 6) rfl iwX0 tyX0 tyX0_ok nmX0 2 (by decide) (Nat.le_of_ble_eq_true rfl) qw327 rfl rfl (q := (L0.length + 2)) rfl rfl (L' := (L0 ++ [.inr (.inr (0, [1, (L0.length + 1) + 3, (L0.length + 2) + 3, 1, 1, 1])), .inl (.int, 5), .inl (.int, 5)])) (set_n0.trans rfl) dX0_init_15 (fun H locs hw => ?_)
  refine lv_aload_n X.1 X.2.1 dX0_init_18 rfl (lv_at hl 0 rfl) ?_
  refine lv_iconst (v := 5) X.1 X.2.1 dX0_init_19 (by decide) ?_
  refine y_newa X hw (atype := .int) (ty := .int) rfl qw122 (y_fc (k := 0) X.2.2.2.2.2.1 rfl (Or.inl rfl)) rfl (k := 5) (by decide) (by decide) (by decide) (Nat.le_of_ble_eq_true rfl) (Nat.le_of_ble_eq_true rfl) (L' := (L0 ++ [.inr (.inr (0, [1, (L0.length + 1) + 3, (L0.length + 2) + 3, 1, 1, 1])), .inl (.int, 5), .inl (.int, 5), .inl (.int, 5)])) (q := (L0.length + 3)) (app_n.trans rfl) (by simp) dX0_init_20 (fun H hw => ?_)
  obtain ⟨σ5, e6⟩ : ∃ x, x = upr σ3 (L0.length + 3) zz := ⟨_, rfl⟩
  rw [← e6] at hw
  refine y_putR X hin hw lg_app0 (C := RX0) (T := TX0) (N := 6) rfl iwX0 tyX0 tyX0_ok nmX0 3 (by decide) (Nat.le_of_ble_eq_true rfl) qw328 rfl rfl (q := (L0.length + 3)) rfl rfl (L' := (L0 ++ [.inr (.inr (0, [1, (L0.length + 1) + 3, (L0.length + 2) + 3, (L0.length + 3) + 3, 1, 1])), .inl (.int, 5), .inl (.int, 5), .inl (.int, 5)])) (set_n0.trans rfl) dX0_init_22 (fun H locs hw => ?_)
  refine lv_aload_n X.1 X.2.1 dX0_init_25 rfl (lv_at hl 0 rfl) ?_
  refine lv_iconst (v := 5) X.1 X.2.1 dX0_init_26 (by decide) ?_
  refine y_newa X hw (atype := .int) (ty := .int) rfl qw122 (y_fc (k := 0) X.2.2.2.2.2.1 rfl (Or.inl rfl)) rfl (k := 5) (by decide) (by decide) (by decide) (Nat.le_of_ble_eq_true rfl) (Nat.le_of_ble_eq_true rfl) (L' := (L0 ++ [.inr (.inr (0, [1, (L0.length + 1) + 3, (L0.length + 2) + 3, (L0.length + 3) + 3, 1, 1])), .inl (.int, 5), .inl (.int, 5), .inl (.int, 5), .inl (.int, 5)])) (q := (L0.length + 4)) (app_n.trans rfl) (by simp) dX0_init_27 (fun H hw => ?_)
  obtain ⟨σ7, e8⟩ : ∃ x, x = upr σ5 (L0.length + 4) zz := ⟨_, rfl⟩
  rw [← e8] at hw
  refine y_putR X hin hw lg_app0 (C := RX0) (T := TX0) (N := 6) rfl iwX0 tyX0 tyX0_ok nmX0 4 (by decide) (Nat.le_of_ble_eq_true rfl) qw329 rfl rfl (q := (L0.length + 4)) rfl rfl (L' := (L0 ++ [.inr (.inr (0, [1, (L0.length + 1) + 3, (L0.length + 2) + 3, (L0.length + 3) + 3, (L0.length + 4) + 3, 1])), .inl (.int, 5), .inl (.int, 5), .inl (.int, 5), .inl (.int, 5)])) (set_n0.trans rfl) dX0_init_29 (fun H locs hw => ?_)
  refine lv_aload_n X.1 X.2.1 dX0_init_32 rfl (lv_at hl 0 rfl) ?_
  refine lv_iconst (v := 5) X.1 X.2.1 dX0_init_33 (by decide) ?_
  refine y_newa X hw (atype := .int) (ty := .int) rfl qw122 (y_fc (k := 0) X.2.2.2.2.2.1 rfl (Or.inl rfl)) rfl (k := 5) (by decide) (by decide) (by decide) (Nat.le_of_ble_eq_true rfl) (Nat.le_of_ble_eq_true rfl) (L' := (L0 ++ [.inr (.inr (0, [1, (L0.length + 1) + 3, (L0.length + 2) + 3, (L0.length + 3) + 3, (L0.length + 4) + 3, 1])), .inl (.int, 5), .inl (.int, 5), .inl (.int, 5), .inl (.int, 5), .inl (.int, 5)])) (q := (L0.length + 5)) (app_n.trans rfl) (by simp) dX0_init_34 (fun H hw => ?_)
  obtain ⟨σ9, e10⟩ : ∃ x, x = upr σ7 (L0.length + 5) zz := ⟨_, rfl⟩
  rw [← e10] at hw
  refine y_putR X hin hw lg_app0 (C := RX0) (T := TX0) (N := 6) rfl iwX0 tyX0 tyX0_ok nmX0 5 (by decide) (Nat.le_of_ble_eq_true rfl) qw330 rfl rfl (q := (L0.length + 5)) rfl rfl (L' := (L0 ++ [.inr (.inr (0, [1, (L0.length + 1) + 3, (L0.length + 2) + 3, (L0.length + 3) + 3, (L0.length + 4) + 3, (L0.length + 5) + 3])), .inl (.int, 5), .inl (.int, 5), .inl (.int, 5), .inl (.int, 5), .inl (.int, 5)])) (set_n0.trans rfl) dX0_init_36 (fun H locs hw => ?_)
  refine lv_aload_n X.1 X.2.1 dX0_init_39 rfl (lv_at hl 0 rfl) ?_
  refine lv_aload_n X.1 X.2.1 dX0_init_40 rfl (lv_at hl 1 rfl) ?_
  refine y_putR X hin hw lg_app0 (C := RX0) (T := TX0) (N := 6) rfl iwX0 tyX0 tyX0_ok nmX0 0 (by decide) (Nat.le_of_ble_eq_true rfl) qw325 rfl rfl (q := r0) rfl rfl (L' := (L0 ++ [.inr (.inr (0, [r0 + 3, (L0.length + 1) + 3, (L0.length + 2) + 3, (L0.length + 3) + 3, (L0.length + 4) + 3, (L0.length + 5) + 3])), .inl (.int, 5), .inl (.int, 5), .inl (.int, 5), .inl (.int, 5), .inl (.int, 5)])) (set_n0.trans rfl) dX0_init_41 (fun H locs hw => ?_)
  exact z_vret X hw rfl (by rw [e10, e8, e6, e4, e2]; rfl) (Nat.le_of_ble_eq_true rfl) (Nat.le_of_ble_eq_true rfl) dX0_init_44

