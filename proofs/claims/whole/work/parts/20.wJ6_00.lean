abbrev rm_J6_bitCount : Room := { frames := 0, cells := 0, slots := 0, locals := 0 }
set_option maxHeartbeats 4000000 in
set_option maxRecDepth 100000 in
theorem k_J6_bitCount {l : Launch} {E : en_T} (hR : ShR E) {x1 : Int32} {σ : sg_T} {r : Int32} (hf : f_J6_bitCount x1 σ = some r) : Ct l yJ6_bitCount_0f7a4 cJ6_bitCount_0f7a4 1 (some .int) rm_J6_bitCount E [.int x1] σ (some (.int r)) σ := by
  refine Ct.start (by decide) hR.1 (Nat.le_of_ble_eq_true rfl) ?_
  intro p e s m below meth c X hw ls hl
  have X : Cx E p s m _ meth c cJ6_bitCount_0f7a4 1 RJ6 (some .int) := X
  have hl : lv_has ls 1 [(0, .int x1)] := hl
  unfold f_J6_bitCount at hf
  refine lv_iload_n X.1 X.2.1 dJ6_bitCount_0f7a4_0 rfl (lv_at hl 0 rfl) ?_
  refine lv_iload_n X.1 X.2.1 dJ6_bitCount_0f7a4_1 rfl (lv_at hl 0 rfl) ?_
  refine lv_iconst (v := 1) X.1 X.2.1 dJ6_bitCount_0f7a4_2 (by decide) ?_
  refine r_iushr X dJ6_bitCount_0f7a4_3 ?_
  refine lv_ldcw (v := 1431655765) X.1 X.2.1 X.2.2.2.1 (X.2.2.2.2.1 _ qw661) dJ6_bitCount_0f7a4_4 ?_
  refine lv_iand X.1 X.2.1 dJ6_bitCount_0f7a4_7 ?_
  refine lv_isub X.1 X.2.1 dJ6_bitCount_0f7a4_8 ?_
  refine r_bnd hf (fun v1 hf => ?_)
  refine lv_istore_n (lv' := [(0, .int v1)]) X.1 X.2.1 dJ6_bitCount_0f7a4_9 rfl hl (by decide) rfl (fun ls hl => ?_)
  refine lv_iload_n X.1 X.2.1 dJ6_bitCount_0f7a4_10 rfl (lv_at hl 0 rfl) ?_
  refine lv_ldcw (v := 858993459) X.1 X.2.1 X.2.2.2.1 (X.2.2.2.2.1 _ qw662) dJ6_bitCount_0f7a4_11 ?_
  refine lv_iand X.1 X.2.1 dJ6_bitCount_0f7a4_14 ?_
  refine lv_iload_n X.1 X.2.1 dJ6_bitCount_0f7a4_15 rfl (lv_at hl 0 rfl) ?_
  refine lv_iconst (v := 2) X.1 X.2.1 dJ6_bitCount_0f7a4_16 (by decide) ?_
  refine r_iushr X dJ6_bitCount_0f7a4_17 ?_
  refine lv_ldcw (v := 858993459) X.1 X.2.1 X.2.2.2.1 (X.2.2.2.2.1 _ qw662) dJ6_bitCount_0f7a4_18 ?_
  refine lv_iand X.1 X.2.1 dJ6_bitCount_0f7a4_21 ?_
  refine lv_iadd X.1 X.2.1 dJ6_bitCount_0f7a4_22 ?_
  refine r_bnd hf (fun v2 hf => ?_)
  refine lv_istore_n (lv' := [(0, .int v2)]) X.1 X.2.1 dJ6_bitCount_0f7a4_23 rfl hl (by decide) rfl (fun ls hl => ?_)
  refine lv_iload_n X.1 X.2.1 dJ6_bitCount_0f7a4_24 rfl (lv_at hl 0 rfl) ?_
  refine lv_iload_n X.1 X.2.1 dJ6_bitCount_0f7a4_25 rfl (lv_at hl 0 rfl) ?_
  refine lv_iconst (v := 4) X.1 X.2.1 dJ6_bitCount_0f7a4_26 (by decide) ?_
  refine r_iushr X dJ6_bitCount_0f7a4_27 ?_
  refine lv_iadd X.1 X.2.1 dJ6_bitCount_0f7a4_28 ?_
  refine lv_ldcw (v := 252645135) X.1 X.2.1 X.2.2.2.1 (X.2.2.2.2.1 _ qw663) dJ6_bitCount_0f7a4_29 ?_
  refine lv_iand X.1 X.2.1 dJ6_bitCount_0f7a4_32 ?_
  refine r_bnd hf (fun v3 hf => ?_)
  refine lv_istore_n (lv' := [(0, .int v3)]) X.1 X.2.1 dJ6_bitCount_0f7a4_33 rfl hl (by decide) rfl (fun ls hl => ?_)
  refine lv_iload_n X.1 X.2.1 dJ6_bitCount_0f7a4_34 rfl (lv_at hl 0 rfl) ?_
  refine lv_iload_n X.1 X.2.1 dJ6_bitCount_0f7a4_35 rfl (lv_at hl 0 rfl) ?_
  refine lv_bipush (v := 8) X.1 X.2.1 dJ6_bitCount_0f7a4_36 (by decide) ?_
  refine r_iushr X dJ6_bitCount_0f7a4_38 ?_
  refine lv_iadd X.1 X.2.1 dJ6_bitCount_0f7a4_39 ?_
  refine r_bnd hf (fun v4 hf => ?_)
  refine lv_istore_n (lv' := [(0, .int v4)]) X.1 X.2.1 dJ6_bitCount_0f7a4_40 rfl hl (by decide) rfl (fun ls hl => ?_)
  refine lv_iload_n X.1 X.2.1 dJ6_bitCount_0f7a4_41 rfl (lv_at hl 0 rfl) ?_
  refine lv_iload_n X.1 X.2.1 dJ6_bitCount_0f7a4_42 rfl (lv_at hl 0 rfl) ?_
  refine lv_bipush (v := 16) X.1 X.2.1 dJ6_bitCount_0f7a4_43 (by decide) ?_
  refine r_iushr X dJ6_bitCount_0f7a4_45 ?_
  refine lv_iadd X.1 X.2.1 dJ6_bitCount_0f7a4_46 ?_
  refine r_bnd hf (fun v5 hf => ?_)
  refine lv_istore_n (lv' := [(0, .int v5)]) X.1 X.2.1 dJ6_bitCount_0f7a4_47 rfl hl (by decide) rfl (fun ls hl => ?_)
  refine lv_iload_n X.1 X.2.1 dJ6_bitCount_0f7a4_48 rfl (lv_at hl 0 rfl) ?_
  refine lv_bipush (v := 63) X.1 X.2.1 dJ6_bitCount_0f7a4_49 (by decide) ?_
  refine lv_iand X.1 X.2.1 dJ6_bitCount_0f7a4_51 ?_
  obtain rfl := Option.some.inj hf
  exact r_iret X hw dJ6_bitCount_0f7a4_52
abbrev rm_X7_bound : Room := { frames := 2, cells := 0, slots := 0, locals := 100 }
set_option maxHeartbeats 4000000 in
set_option maxRecDepth 100000 in
theorem k_X7_bound {l : Launch} {E : en_T} (hE : ShF E) {x1 : Int32} {x2 : Int32} {x3 : Int32} {σ : sg_T} {r : Int32} (hf : f_X7_bound x1 x2 x3 σ = some r) : Ct l yX7_bound cX7_bound 3 (some .int) rm_X7_bound E [.int x1, .int x2, .int x3] σ (some (.int r)) σ := by
  refine Ct.start (by decide) hE.1 (Nat.le_of_ble_eq_true rfl) ?_
  intro p e s m below meth c X hw ls hl
  have X : Cx E p s m _ meth c cX7_bound 3 RX7 (some .int) := X
  have hR : ShR E := hE.r
  have hl : lv_has ls 3 [(0, .int x1), (1, .int x2), (2, .int x3)] := hl
  unfold f_X7_bound at hf
  refine lv_iload_n X.1 X.2.1 dX7_bound_0 rfl (lv_at hl 1 rfl) ?_
  refine lv_iload_n X.1 X.2.1 dX7_bound_1 rfl (lv_at hl 2 rfl) ?_
  refine lv_iload_n X.1 X.2.1 dX7_bound_2 rfl (lv_at hl 0 rfl) ?_
  refine r_min X hl.1 qw533 qw534 qw80 qw535 (Nat.le_of_ble_eq_true rfl) (Nat.le_of_ble_eq_true rfl) (Nat.zero_le _) (Nat.zero_le _) dX7_bound_3 ?_
  refine r_max X hl.1 qw536 qw537 qw80 qw538 (Nat.le_of_ble_eq_true rfl) (Nat.le_of_ble_eq_true rfl) (Nat.zero_le _) (Nat.zero_le _) dX7_bound_6 ?_
  obtain rfl := Option.some.inj hf
  exact r_iret X hw dX7_bound_9
