abbrev rm_X3_take : Room := { frames := 107, cells := 0, slots := 0, locals := 7906 }
set_option maxHeartbeats 4000000 in
set_option maxRecDepth 100000 in
theorem k_X3_take {l : Launch} {E : en_T} (hR : ShR E)  {σ : sg_T} {r : Int32} {σ' : sg_T} (hf : f_X3_take  σ = some (r, σ')) : Ct l yX3_take cX3_take 4 (some .int) rm_X3_take E [.ref (eP E 6), .ref (eP E 1)] σ (some (.int r)) σ' := by
  refine Ct.start (by decide) hR.1 (Nat.le_of_ble_eq_true rfl) ?_
  intro p e s m below meth c X hw ls hl
  have X : Cx E p s m _ meth c cX3_take 4 RX3 (some .int) := X
  have hl : lv_has ls 4 [(0, .ref (eP E 6)), (1, .ref (eP E 1))] := hl
  unfold f_X3_take at hf
  refine lv_aload_n X.1 X.2.1 dX3_take_0 rfl (lv_at hl 0 rfl) ?_
  refine r_get X hw (sp6 hR) (C := RX3) (T := TX3) (N := 4) rfl iwX3 3 (by decide) (Nat.le_of_ble_eq_true rfl) qw149 (v := .int (σ 6 3)) rfl dX3_take_1 ?_
  refine lv_bipush (v := 6) X.1 X.2.1 dX3_take_4 (by decide) ?_
  refine lv_icmp_lt (tgt := 12) X.1 X.2.1 dX3_take_6 (by decide) (fun c1 => ?_) (fun c1 => ?_)
  · have hf := if_t hf c1
    refine lv_aload_n X.1 X.2.1 dX3_take_12 rfl (lv_at hl 1 rfl) ?_
    refine lv_aload_n X.1 X.2.1 dX3_take_13 rfl (lv_at hl 0 rfl) ?_
    refine r_get X hw (sp6 hR) (C := RX3) (T := TX3) (N := 4) rfl iwX3 0 (by decide) (Nat.le_of_ble_eq_true rfl) qw146 (v := .ref (eP E 7)) rfl dX3_take_14 ?_
    refine lv_aload_n X.1 X.2.1 dX3_take_17 rfl (lv_at hl 0 rfl) ?_
    refine r_get X hw (sp6 hR) (C := RX3) (T := TX3) (N := 4) rfl iwX3 3 (by decide) (Nat.le_of_ble_eq_true rfl) qw149 (v := .int (σ 6 3)) rfl dX3_take_18 ?_
    obtain ⟨h2, hf⟩ := b_ck hf
    refine r_aaldT X hw (sp7 hR) (q := (10 + 3 * (σ 6 3).toNatClampNeg)) h2 (tqt h2) dX3_take_21 ?_
    obtain ⟨r4, σ5, h3, hf⟩ := b_bd2 hf
    refine r_callV X hw (k_X2_read hR (isT_of h2) h3) (sp1 hR) (C := RX2) (T := TX2) (N := 8) rfl qw220 qw221 qw222 qw68 qw223 okX2_read ⟨rfl, rfl⟩ ⟨(Nat.le_of_ble_eq_true rfl), (Nat.le_of_ble_eq_true rfl)⟩ ⟨Nat.zero_le _, Nat.zero_le _⟩ rfl hl.1 (rest := []) rfl (Nat.le_of_ble_eq_true rfl) dX3_take_22 (st1 := [.int r4]) rfl (fun H locs hw => ?_)
    refine lv_istore_n (lv' := [(2, .int r4), (0, .ref (eP E 6)), (1, .ref (eP E 1))]) X.1 X.2.1 dX3_take_25 rfl hl (by decide) rfl (fun ls hl => ?_)
    refine lv_aload_n X.1 X.2.1 dX3_take_26 rfl (lv_at hl 2 rfl) ?_
    obtain ⟨σ7, h6, hf⟩ := b_bd1 hf
    refine r_callV X hw (k_X2_clear hR  h6) (sp1 hR) (C := RX2) (T := TX2) (N := 8) rfl qw315 qw316 qw317 qw68 qw318 okX2_clear ⟨rfl, rfl⟩ ⟨(Nat.le_of_ble_eq_true rfl), (Nat.le_of_ble_eq_true rfl)⟩ ⟨Nat.zero_le _, Nat.zero_le _⟩ rfl hl.1 (rest := []) rfl (Nat.le_of_ble_eq_true rfl) dX3_take_27 (st1 := []) rfl (fun H locs hw => ?_)
    refine lv_iload_n X.1 X.2.1 dX3_take_30 rfl (lv_at hl 0 rfl) ?_
    refine lv_iconst (v := (-1)) X.1 X.2.1 dX3_take_31 (by decide) ?_
    refine lv_icmp_eq (tgt := 40) X.1 X.2.1 dX3_take_32 (by decide) (fun c8 => ?_) (fun c8 => ?_)
    · have hf := if_t hf c8
      refine lv_aload_n X.1 X.2.1 dX3_take_40 rfl (lv_at hl 1 rfl) ?_
      refine r_get X hw (sp6 hR) (C := RX3) (T := TX3) (N := 4) rfl iwX3 3 (by decide) (Nat.le_of_ble_eq_true rfl) qw149 (v := .int (σ7 6 3)) rfl dX3_take_41 ?_
      refine r_bnd hf (fun v9 hf => ?_)
      refine lv_istore_n (lv' := [(3, .int v9), (2, .int r4), (0, .ref (eP E 6)), (1, .ref (eP E 1))]) X.1 X.2.1 dX3_take_44 rfl hl (by decide) rfl (fun ls hl => ?_)
      refine lv_aload_n X.1 X.2.1 dX3_take_45 rfl (lv_at hl 2 rfl) ?_
      refine lv_dup X.1 X.2.1 dX3_take_46 rfl ?_
      refine r_get X hw (sp6 hR) (C := RX3) (T := TX3) (N := 4) rfl iwX3 3 (by decide) (Nat.le_of_ble_eq_true rfl) qw149 (v := .int (σ7 6 3)) rfl dX3_take_47 ?_
      refine lv_iconst (v := 1) X.1 X.2.1 dX3_take_50 (by decide) ?_
      refine lv_iadd X.1 X.2.1 dX3_take_51 ?_
      refine r_put X hw (sp6 hR) (C := RX3) (T := TX3) (N := 4) rfl iwX3 tyX3 tyX3_ok nmX3 3 (by decide) (Nat.le_of_ble_eq_true rfl) qw149 rfl (v := .int ((σ7 6 3) + 1)) rfl rfl (x := ((σ7 6 3) + 1)) rfl dX3_take_52 (fun H locs hw => ?_)
      obtain ⟨σ10, e11, hf⟩ := b_bnd hf
      rw [← e11] at hw
      refine lv_iload_n X.1 X.2.1 dX3_take_55 rfl (lv_at hl 0 rfl) ?_
      obtain ⟨rfl, rfl⟩ := Prod.mk.inj (Option.some.inj hf)
      exact r_iret X hw dX3_take_56
    · have hf := if_e hf c8
      refine lv_bipush (v := (-100)) X.1 X.2.1 dX3_take_35 (by decide) ?_
      refine lv_iload_n X.1 X.2.1 dX3_take_37 rfl (lv_at hl 0 rfl) ?_
      refine lv_isub X.1 X.2.1 dX3_take_38 ?_
      obtain ⟨rfl, rfl⟩ := Prod.mk.inj (Option.some.inj hf)
      exact r_iret X hw dX3_take_39
  · have hf := if_e hf c1
    refine lv_bipush (v := (-4)) X.1 X.2.1 dX3_take_9 (by decide) ?_
    obtain ⟨rfl, rfl⟩ := Prod.mk.inj (Option.some.inj hf)
    exact r_iret X hw dX3_take_11
abbrev rm_X3_tell : Room := { frames := 3, cells := 0, slots := 0, locals := 127 }
set_option maxHeartbeats 4000000 in
set_option maxRecDepth 100000 in
theorem k_X3_tell {l : Launch} {E : en_T} (hE : ShF E) {x1 : Int32} {o2 : Nat} (ho2 : isP o2) {x3 : Int32} {x4 : Int32} {σ : sg_T} {r : Int32} {σ' : sg_T} (hf : f_X3_tell x1 o2 x3 x4 σ = some (r, σ')) : Ct l yX3_tell cX3_tell 6 (some .int) rm_X3_tell E [.ref (eP E 6), .int x1, .ref (eP E o2), .int x3, .int x4] σ (some (.int r)) σ' := by
  refine Ct.start (by decide) hE.1 (Nat.le_of_ble_eq_true rfl) ?_
  intro p e s m below meth c X hw ls hl
  have X : Cx E p s m _ meth c cX3_tell 6 RX3 (some .int) := X
  have hR : ShR E := hE.r
  have hl : lv_has ls 6 [(0, .ref (eP E 6)), (1, .int x1), (2, .ref (eP E o2)), (3, .int x3), (4, .int x4)] := hl
  unfold f_X3_tell at hf
  refine lv_aload_n X.1 X.2.1 dX3_tell_0 rfl (lv_at hl 2 rfl) ?_
  obtain ⟨r2, h1, hf⟩ := b_bd1 hf
  refine r_callV X hw (k_X1_rule hE ho2 h1) (spP0 hE ho2) (C := RX1) (T := TX1) (N := 10) rfl qw507 qw508 qw509 qw76 qw510 okX1_rule ⟨rfl, rfl⟩ ⟨(Nat.le_of_ble_eq_true rfl), (Nat.le_of_ble_eq_true rfl)⟩ ⟨Nat.zero_le _, Nat.zero_le _⟩ rfl hl.1 (rest := []) rfl (Nat.le_of_ble_eq_true rfl) dX3_tell_1 (st1 := [.int r2]) rfl (fun H locs hw => ?_)
  refine lv_istore (lv' := [(5, .int r2), (0, .ref (eP E 6)), (1, .int x1), (2, .ref (eP E o2)), (3, .int x3), (4, .int x4)]) X.1 X.2.1 dX3_tell_4 hl (by decide) rfl (fun ls hl => ?_)
  refine lv_iload X.1 X.2.1 dX3_tell_6 (lv_at hl 0 rfl) ?_
  refine lv_if_lt (tgt := 20) X.1 X.2.1 dX3_tell_8 (by decide) (fun c3 => ?_) (fun c3 => ?_)
  · have hf := if_t hf c3
    refine lv_iconst (v := 0) X.1 X.2.1 dX3_tell_20 (by decide) ?_
    obtain ⟨rfl, rfl⟩ := Prod.mk.inj (Option.some.inj hf)
    exact r_iret X hw dX3_tell_21
  · have hf := if_e hf c3
    refine lv_iload X.1 X.2.1 dX3_tell_11 (lv_at hl 0 rfl) ?_
    refine lv_aload_n X.1 X.2.1 dX3_tell_13 rfl (lv_at hl 1 rfl) ?_
    refine r_get X hw (sp6 hR) (C := RX3) (T := TX3) (N := 4) rfl iwX3 3 (by decide) (Nat.le_of_ble_eq_true rfl) qw149 (v := .int (σ 6 3)) rfl dX3_tell_14 ?_
    refine lv_icmp_lt (tgt := 22) X.1 X.2.1 dX3_tell_17 (by decide) (fun c4 => ?_) (fun c4 => ?_)
    · have hf := if_t hf c4
      refine lv_aload_n X.1 X.2.1 dX3_tell_22 rfl (lv_at hl 3 rfl) ?_
      refine lv_iload_n X.1 X.2.1 dX3_tell_23 rfl (lv_at hl 4 rfl) ?_
      refine lv_iload X.1 X.2.1 dX3_tell_24 (lv_at hl 5 rfl) ?_
      refine lv_aload_n X.1 X.2.1 dX3_tell_26 rfl (lv_at hl 1 rfl) ?_
      refine r_get X hw (sp6 hR) (C := RX3) (T := TX3) (N := 4) rfl iwX3 1 (by decide) (Nat.le_of_ble_eq_true rfl) qw147 (v := .ref (eP E 8)) rfl dX3_tell_27 ?_
      obtain ⟨σ6, h5, hf⟩ := b_bd1 hf
      refine r_callV X hw (k_X1_tellNames hE ho2 h5) (spP0 hE ho2) (C := RX1) (T := TX1) (N := 10) rfl qw511 qw512 qw513 qw76 qw514 okX1_tellNames ⟨rfl, rfl⟩ ⟨(Nat.le_of_ble_eq_true rfl), (Nat.le_of_ble_eq_true rfl)⟩ ⟨Nat.zero_le _, Nat.zero_le _⟩ rfl hl.1 (rest := []) rfl (Nat.le_of_ble_eq_true rfl) dX3_tell_30 (st1 := []) rfl (fun H locs hw => ?_)
      refine lv_aload_n X.1 X.2.1 dX3_tell_33 rfl (lv_at hl 1 rfl) ?_
      refine r_get X hw (sp6 hR) (C := RX3) (T := TX3) (N := 4) rfl iwX3 0 (by decide) (Nat.le_of_ble_eq_true rfl) qw146 (v := .ref (eP E 7)) rfl dX3_tell_34 ?_
      refine lv_iload X.1 X.2.1 dX3_tell_37 (lv_at hl 0 rfl) ?_
      obtain ⟨h7, hf⟩ := b_ck hf
      refine r_aaldT X hw (sp7 hR) (q := (10 + 3 * r2.toNatClampNeg)) h7 (tqt h7) dX3_tell_39 ?_
      refine lv_iload_n X.1 X.2.1 dX3_tell_40 rfl (lv_at hl 2 rfl) ?_
      refine lv_aload_n X.1 X.2.1 dX3_tell_41 rfl (lv_at hl 1 rfl) ?_
      refine r_get X hw (sp6 hR) (C := RX3) (T := TX3) (N := 4) rfl iwX3 1 (by decide) (Nat.le_of_ble_eq_true rfl) qw147 (v := .ref (eP E 8)) rfl dX3_tell_42 ?_
      refine lv_aload_n X.1 X.2.1 dX3_tell_45 rfl (lv_at hl 1 rfl) ?_
      refine r_get X hw (sp6 hR) (C := RX3) (T := TX3) (N := 4) rfl iwX3 2 (by decide) (Nat.le_of_ble_eq_true rfl) qw148 (v := .ref (eP E 9)) rfl dX3_tell_46 ?_
      obtain ⟨r9, σ10, h8, hf⟩ := b_bd2 hf
      refine r_callV X hw (k_X5_value hR (isT_of h7) h8) (spT0 hR (isT_of h7)) (C := RX5) (T := TX5) (N := 3) rfl qw515 qw516 qw517 qw70 qw518 okX5_value ⟨rfl, rfl⟩ ⟨(Nat.le_of_ble_eq_true rfl), (Nat.le_of_ble_eq_true rfl)⟩ ⟨Nat.zero_le _, Nat.zero_le _⟩ rfl hl.1 (rest := []) rfl (Nat.le_of_ble_eq_true rfl) dX3_tell_49 (st1 := [.int r9]) rfl (fun H locs hw => ?_)
      refine lv_iload_n X.1 X.2.1 dX3_tell_52 rfl (lv_at hl 2 rfl) ?_
      obtain ⟨v12, e13, hf⟩ := b_bnd hf
      refine r_join (g2 := F0 m 62 ls [.int v12, .int r9]) ?_ (fun hj => ?_)
      · refine lv_bipush (v := 99) X.1 X.2.1 dX3_tell_62 (by decide) ?_
        obtain ⟨r15, h14, hf⟩ := b_bd1 hf
        refine r_callSN X hw (k_X7_bound hE  h14) (host := RX7) (by simp [lw_nest]) qw531 qw67 qw532 okX7_bound ⟨rfl, rfl⟩ ⟨(Nat.le_of_ble_eq_true rfl), (Nat.le_of_ble_eq_true rfl)⟩ ⟨Nat.zero_le _, Nat.zero_le _⟩ rfl hl.1 (rest := []) rfl (Nat.le_of_ble_eq_true rfl) dX3_tell_64 (st1 := [.int r15]) rfl (fun H locs hw => ?_)
        obtain ⟨rfl, rfl⟩ := Prod.mk.inj (Option.some.inj hf)
        exact r_iret X hw dX3_tell_67
      · refine lv_if_ne (tgt := 60) X.1 X.2.1 dX3_tell_53 (by decide) (fun c11 => ?_) (fun c11 => ?_)
        · rw [e13, if_neg c11] at hj
          refine lv_bipush (v := (-99)) X.1 X.2.1 dX3_tell_60 (by decide) ?_
          exact hj
        · rw [e13, if_pos c11] at hj
          refine lv_iconst (v := 0) X.1 X.2.1 dX3_tell_56 (by decide) ?_
          refine lv_goto (tgt := 62) X.1 X.2.1 dX3_tell_57 (by decide) ?_
          exact hj
    · have hf := if_e hf c4
      refine lv_iconst (v := 0) X.1 X.2.1 dX3_tell_20 (by decide) ?_
      obtain ⟨rfl, rfl⟩ := Prod.mk.inj (Option.some.inj hf)
      exact r_iret X hw dX3_tell_21
abbrev rm_X3_hourSet : Room := { frames := 4, cells := 0, slots := 0, locals := 152 }
set_option maxHeartbeats 4000000 in
set_option maxRecDepth 100000 in
theorem k_X3_hourSet {l : Launch} {E : en_T} (hE : ShF E) {o1 : Nat} (ho1 : isP o1) {x2 : Int32} {x3 : Int32} {σ : sg_T} {r : Int32} {σ' : sg_T} (hf : f_X3_hourSet o1 x2 x3 σ = some (r, σ')) : Ct l yX3_hourSet cX3_hourSet 6 (some .int) rm_X3_hourSet E [.ref (eP E 6), .ref (eP E o1), .int x2, .int x3] σ (some (.int r)) σ' := by
  refine Ct.start (by decide) hE.1 (Nat.le_of_ble_eq_true rfl) ?_
  intro p e s m below meth c X hw ls hl
  have X : Cx E p s m _ meth c cX3_hourSet 6 RX3 (some .int) := X
  have hR : ShR E := hE.r
  have hl : lv_has ls 6 [(0, .ref (eP E 6)), (1, .ref (eP E o1)), (2, .int x2), (3, .int x3)] := hl
  unfold f_X3_hourSet at hf
  refine lv_aload_n X.1 X.2.1 dX3_hourSet_0 rfl (lv_at hl 0 rfl) ?_
  refine lv_iconst (v := 0) X.1 X.2.1 dX3_hourSet_1 (by decide) ?_
  refine lv_aload_n X.1 X.2.1 dX3_hourSet_2 rfl (lv_at hl 1 rfl) ?_
  refine lv_iload_n X.1 X.2.1 dX3_hourSet_3 rfl (lv_at hl 2 rfl) ?_
  refine lv_iload_n X.1 X.2.1 dX3_hourSet_4 rfl (lv_at hl 3 rfl) ?_
  obtain ⟨r2, σ3, h1, hf⟩ := b_bd2 hf
  refine r_callV X hw (k_X3_tell hE ho1 h1) (sp6 hR) (C := RX3) (T := TX3) (N := 4) rfl qw503 qw505 qw17 qw69 qw506 okX3_tell ⟨rfl, rfl⟩ ⟨(Nat.le_of_ble_eq_true rfl), (Nat.le_of_ble_eq_true rfl)⟩ ⟨Nat.zero_le _, Nat.zero_le _⟩ rfl hl.1 (rest := []) rfl (Nat.le_of_ble_eq_true rfl) dX3_hourSet_5 (st1 := [.int r2]) rfl (fun H locs hw => ?_)
  refine lv_istore (lv' := [(4, .int r2), (0, .ref (eP E 6)), (1, .ref (eP E o1)), (2, .int x2), (3, .int x3)]) X.1 X.2.1 dX3_hourSet_8 hl (by decide) rfl (fun ls hl => ?_)
  refine lv_iload X.1 X.2.1 dX3_hourSet_10 (lv_at hl 0 rfl) ?_
  refine lv_istore (lv' := [(5, .int r2), (4, .int r2), (0, .ref (eP E 6)), (1, .ref (eP E o1)), (2, .int x2), (3, .int x3)]) X.1 X.2.1 dX3_hourSet_12 hl (by decide) rfl (fun ls hl => ?_)
  refine lv_aload_n X.1 X.2.1 dX3_hourSet_14 rfl (lv_at hl 3 rfl) ?_
  refine lv_bipush (v := 7) X.1 X.2.1 dX3_hourSet_15 (by decide) ?_
  refine lv_iload_n X.1 X.2.1 dX3_hourSet_17 rfl (lv_at hl 4 rfl) ?_
  obtain ⟨r5, h4, hf⟩ := b_bd1 hf
  refine r_callV X hw (k_X1_get hE ho1 h4) (spP0 hE ho1) (C := RX1) (T := TX1) (N := 10) rfl qw539 qw461 qw462 qw76 qw463 okX1_get ⟨rfl, rfl⟩ ⟨(Nat.le_of_ble_eq_true rfl), (Nat.le_of_ble_eq_true rfl)⟩ ⟨Nat.zero_le _, Nat.zero_le _⟩ rfl hl.1 (rest := []) rfl (Nat.le_of_ble_eq_true rfl) dX3_hourSet_18 (st1 := [.int r5]) rfl (fun H locs hw => ?_)
  by_cases c6 : r5 = 1
  · have hf := if_t hf c6
    refine lv_tableIn (x := r5) (tgt := 56) (off := 35) X.1 X.2.1 dX3_hourSet_21 (by rw [c6]; decide) (by rw [c6]; decide) (by rw [c6]; decide) (by decide) ?_
    refine lv_iload X.1 X.2.1 dX3_hourSet_56 (lv_at hl 1 rfl) ?_
    refine lv_iconst (v := 2) X.1 X.2.1 dX3_hourSet_58 (by decide) ?_
    refine lv_iadd X.1 X.2.1 dX3_hourSet_59 ?_
    refine r_bnd hf (fun v7 hf => ?_)
    refine lv_istore (lv' := [(5, .int v7), (4, .int r2), (0, .ref (eP E 6)), (1, .ref (eP E o1)), (2, .int x2), (3, .int x3)]) X.1 X.2.1 dX3_hourSet_60 hl (by decide) rfl (fun ls hl => ?_)
    refine lv_goto (tgt := 126) X.1 X.2.1 dX3_hourSet_62 (by decide) ?_
    refine lv_iload X.1 X.2.1 dX3_hourSet_126 (lv_at hl 0 rfl) ?_
    refine lv_iconst (v := 0) X.1 X.2.1 dX3_hourSet_128 (by decide) ?_
    refine lv_bipush (v := 23) X.1 X.2.1 dX3_hourSet_129 (by decide) ?_
    obtain ⟨r9, h8, hf⟩ := b_bd1 hf
    refine r_callSN X hw (k_X7_bound hE  h8) (host := RX7) (by simp [lw_nest]) qw531 qw67 qw532 okX7_bound ⟨rfl, rfl⟩ ⟨(Nat.le_of_ble_eq_true rfl), (Nat.le_of_ble_eq_true rfl)⟩ ⟨Nat.zero_le _, Nat.zero_le _⟩ rfl hl.1 (rest := []) rfl (Nat.le_of_ble_eq_true rfl) dX3_hourSet_131 (st1 := [.int r9]) rfl (fun H locs hw => ?_)
    obtain ⟨rfl, rfl⟩ := Prod.mk.inj (Option.some.inj hf)
    exact r_iret X hw dX3_hourSet_134
  have hf := if_e hf c6
  by_cases c10 : r5 = 2
  · have hf := if_t hf c10
    refine lv_tableIn (x := r5) (tgt := 65) (off := 44) X.1 X.2.1 dX3_hourSet_21 (by rw [c10]; decide) (by rw [c10]; decide) (by rw [c10]; decide) (by decide) ?_
    refine lv_iload X.1 X.2.1 dX3_hourSet_65 (lv_at hl 1 rfl) ?_
    refine lv_iconst (v := 2) X.1 X.2.1 dX3_hourSet_67 (by decide) ?_
    refine lv_idiv X.1 X.2.1 dX3_hourSet_68 (by decide) ?_
    refine r_bnd hf (fun v11 hf => ?_)
    refine lv_istore (lv' := [(5, .int v11), (4, .int r2), (0, .ref (eP E 6)), (1, .ref (eP E o1)), (2, .int x2), (3, .int x3)]) X.1 X.2.1 dX3_hourSet_69 hl (by decide) rfl (fun ls hl => ?_)
    refine lv_goto (tgt := 126) X.1 X.2.1 dX3_hourSet_71 (by decide) ?_
    refine lv_iload X.1 X.2.1 dX3_hourSet_126 (lv_at hl 0 rfl) ?_
    refine lv_iconst (v := 0) X.1 X.2.1 dX3_hourSet_128 (by decide) ?_
    refine lv_bipush (v := 23) X.1 X.2.1 dX3_hourSet_129 (by decide) ?_
    obtain ⟨r13, h12, hf⟩ := b_bd1 hf
    refine r_callSN X hw (k_X7_bound hE  h12) (host := RX7) (by simp [lw_nest]) qw531 qw67 qw532 okX7_bound ⟨rfl, rfl⟩ ⟨(Nat.le_of_ble_eq_true rfl), (Nat.le_of_ble_eq_true rfl)⟩ ⟨Nat.zero_le _, Nat.zero_le _⟩ rfl hl.1 (rest := []) rfl (Nat.le_of_ble_eq_true rfl) dX3_hourSet_131 (st1 := [.int r13]) rfl (fun H locs hw => ?_)
    obtain ⟨rfl, rfl⟩ := Prod.mk.inj (Option.some.inj hf)
    exact r_iret X hw dX3_hourSet_134
  have hf := if_e hf c10
  by_cases c14 : r5 = 3
  · have hf := if_t hf c14
    refine lv_tableIn (x := r5) (tgt := 74) (off := 53) X.1 X.2.1 dX3_hourSet_21 (by rw [c14]; decide) (by rw [c14]; decide) (by rw [c14]; decide) (by decide) ?_
    refine lv_bipush (v := 9) X.1 X.2.1 dX3_hourSet_74 (by decide) ?_
    refine lv_iload X.1 X.2.1 dX3_hourSet_76 (lv_at hl 1 rfl) ?_
    refine lv_iconst (v := 2) X.1 X.2.1 dX3_hourSet_78 (by decide) ?_
    refine lv_iadd X.1 X.2.1 dX3_hourSet_79 ?_
    refine r_max X hl.1 qw540 qw537 qw80 qw538 (Nat.le_of_ble_eq_true rfl) (Nat.le_of_ble_eq_true rfl) (Nat.zero_le _) (Nat.zero_le _) dX3_hourSet_80 ?_
    refine r_bnd hf (fun v15 hf => ?_)
    refine lv_istore (lv' := [(5, .int v15), (4, .int r2), (0, .ref (eP E 6)), (1, .ref (eP E o1)), (2, .int x2), (3, .int x3)]) X.1 X.2.1 dX3_hourSet_83 hl (by decide) rfl (fun ls hl => ?_)
    refine lv_goto (tgt := 126) X.1 X.2.1 dX3_hourSet_85 (by decide) ?_
    refine lv_iload X.1 X.2.1 dX3_hourSet_126 (lv_at hl 0 rfl) ?_
    refine lv_iconst (v := 0) X.1 X.2.1 dX3_hourSet_128 (by decide) ?_
    refine lv_bipush (v := 23) X.1 X.2.1 dX3_hourSet_129 (by decide) ?_
    obtain ⟨r17, h16, hf⟩ := b_bd1 hf
    refine r_callSN X hw (k_X7_bound hE  h16) (host := RX7) (by simp [lw_nest]) qw531 qw67 qw532 okX7_bound ⟨rfl, rfl⟩ ⟨(Nat.le_of_ble_eq_true rfl), (Nat.le_of_ble_eq_true rfl)⟩ ⟨Nat.zero_le _, Nat.zero_le _⟩ rfl hl.1 (rest := []) rfl (Nat.le_of_ble_eq_true rfl) dX3_hourSet_131 (st1 := [.int r17]) rfl (fun H locs hw => ?_)
    obtain ⟨rfl, rfl⟩ := Prod.mk.inj (Option.some.inj hf)
    exact r_iret X hw dX3_hourSet_134
  have hf := if_e hf c14
  by_cases c18 : r5 = 4
  · have hf := if_t hf c18
    refine lv_tableIn (x := r5) (tgt := 88) (off := 67) X.1 X.2.1 dX3_hourSet_21 (by rw [c18]; decide) (by rw [c18]; decide) (by rw [c18]; decide) (by decide) ?_
    refine lv_aload_n X.1 X.2.1 dX3_hourSet_88 rfl (lv_at hl 3 rfl) ?_
    obtain ⟨r20, h19, hf⟩ := b_bd1 hf
    refine r_callV X hw (k_X1_today hE ho1 h19) (spP0 hE ho1) (C := RX1) (T := TX1) (N := 10) rfl qw541 qw542 qw543 qw76 qw544 okX1_today ⟨rfl, rfl⟩ ⟨(Nat.le_of_ble_eq_true rfl), (Nat.le_of_ble_eq_true rfl)⟩ ⟨Nat.zero_le _, Nat.zero_le _⟩ rfl hl.1 (rest := []) rfl (Nat.le_of_ble_eq_true rfl) dX3_hourSet_89 (st1 := [.int r20]) rfl (fun H locs hw => ?_)
    refine lv_iconst (v := 3) X.1 X.2.1 dX3_hourSet_92 (by decide) ?_
    refine r_irem X dX3_hourSet_93 (by decide) ?_
    refine lv_if_ne (tgt := 106) X.1 X.2.1 dX3_hourSet_94 (by decide) (fun c21 => ?_) (fun c21 => ?_)
    · have hf := if_e hf c21
      refine lv_iload X.1 X.2.1 dX3_hourSet_106 (lv_at hl 1 rfl) ?_
      refine lv_iconst (v := 2) X.1 X.2.1 dX3_hourSet_108 (by decide) ?_
      refine lv_idiv X.1 X.2.1 dX3_hourSet_109 (by decide) ?_
      refine r_bnd hf (fun v22 hf => ?_)
      refine lv_istore (lv' := [(5, .int v22), (4, .int r2), (0, .ref (eP E 6)), (1, .ref (eP E o1)), (2, .int x2), (3, .int x3)]) X.1 X.2.1 dX3_hourSet_110 hl (by decide) rfl (fun ls hl => ?_)
      refine lv_goto (tgt := 126) X.1 X.2.1 dX3_hourSet_112 (by decide) ?_
      refine lv_iload X.1 X.2.1 dX3_hourSet_126 (lv_at hl 0 rfl) ?_
      refine lv_iconst (v := 0) X.1 X.2.1 dX3_hourSet_128 (by decide) ?_
      refine lv_bipush (v := 23) X.1 X.2.1 dX3_hourSet_129 (by decide) ?_
      obtain ⟨r24, h23, hf⟩ := b_bd1 hf
      refine r_callSN X hw (k_X7_bound hE  h23) (host := RX7) (by simp [lw_nest]) qw531 qw67 qw532 okX7_bound ⟨rfl, rfl⟩ ⟨(Nat.le_of_ble_eq_true rfl), (Nat.le_of_ble_eq_true rfl)⟩ ⟨Nat.zero_le _, Nat.zero_le _⟩ rfl hl.1 (rest := []) rfl (Nat.le_of_ble_eq_true rfl) dX3_hourSet_131 (st1 := [.int r24]) rfl (fun H locs hw => ?_)
      obtain ⟨rfl, rfl⟩ := Prod.mk.inj (Option.some.inj hf)
      exact r_iret X hw dX3_hourSet_134
    · have hf := if_t hf c21
      refine lv_aload_n X.1 X.2.1 dX3_hourSet_97 rfl (lv_at hl 3 rfl) ?_
      refine lv_iconst (v := 2) X.1 X.2.1 dX3_hourSet_98 (by decide) ?_
      refine lv_iload_n X.1 X.2.1 dX3_hourSet_99 rfl (lv_at hl 5 rfl) ?_
      obtain ⟨r26, h25, hf⟩ := b_bd1 hf
      refine r_callV X hw (k_X1_get hE ho1 h25) (spP0 hE ho1) (C := RX1) (T := TX1) (N := 10) rfl qw539 qw461 qw462 qw76 qw463 okX1_get ⟨rfl, rfl⟩ ⟨(Nat.le_of_ble_eq_true rfl), (Nat.le_of_ble_eq_true rfl)⟩ ⟨Nat.zero_le _, Nat.zero_le _⟩ rfl hl.1 (rest := []) rfl (Nat.le_of_ble_eq_true rfl) dX3_hourSet_100 (st1 := [.int r26]) rfl (fun H locs hw => ?_)
      refine lv_goto (tgt := 110) X.1 X.2.1 dX3_hourSet_103 (by decide) ?_
      refine lv_istore (lv' := [(5, .int r26), (4, .int r2), (0, .ref (eP E 6)), (1, .ref (eP E o1)), (2, .int x2), (3, .int x3)]) X.1 X.2.1 dX3_hourSet_110 hl (by decide) rfl (fun ls hl => ?_)
      refine lv_goto (tgt := 126) X.1 X.2.1 dX3_hourSet_112 (by decide) ?_
      refine lv_iload X.1 X.2.1 dX3_hourSet_126 (lv_at hl 0 rfl) ?_
      refine lv_iconst (v := 0) X.1 X.2.1 dX3_hourSet_128 (by decide) ?_
      refine lv_bipush (v := 23) X.1 X.2.1 dX3_hourSet_129 (by decide) ?_
      obtain ⟨r28, h27, hf⟩ := b_bd1 hf
      refine r_callSN X hw (k_X7_bound hE  h27) (host := RX7) (by simp [lw_nest]) qw531 qw67 qw532 okX7_bound ⟨rfl, rfl⟩ ⟨(Nat.le_of_ble_eq_true rfl), (Nat.le_of_ble_eq_true rfl)⟩ ⟨Nat.zero_le _, Nat.zero_le _⟩ rfl hl.1 (rest := []) rfl (Nat.le_of_ble_eq_true rfl) dX3_hourSet_131 (st1 := [.int r28]) rfl (fun H locs hw => ?_)
      obtain ⟨rfl, rfl⟩ := Prod.mk.inj (Option.some.inj hf)
      exact r_iret X hw dX3_hourSet_134
  have hf := if_e hf c18
  by_cases c29 : r5 = 5
  · have hf := if_t hf c29
    refine lv_tableIn (x := r5) (tgt := 115) (off := 94) X.1 X.2.1 dX3_hourSet_21 (by rw [c29]; decide) (by rw [c29]; decide) (by rw [c29]; decide) (by decide) ?_
    refine lv_aload_n X.1 X.2.1 dX3_hourSet_115 rfl (lv_at hl 3 rfl) ?_
    refine lv_iconst (v := 1) X.1 X.2.1 dX3_hourSet_116 (by decide) ?_
    refine lv_iload_n X.1 X.2.1 dX3_hourSet_117 rfl (lv_at hl 4 rfl) ?_
    obtain ⟨r31, h30, hf⟩ := b_bd1 hf
    refine r_callV X hw (k_X1_get hE ho1 h30) (spP0 hE ho1) (C := RX1) (T := TX1) (N := 10) rfl qw539 qw461 qw462 qw76 qw463 okX1_get ⟨rfl, rfl⟩ ⟨(Nat.le_of_ble_eq_true rfl), (Nat.le_of_ble_eq_true rfl)⟩ ⟨Nat.zero_le _, Nat.zero_le _⟩ rfl hl.1 (rest := []) rfl (Nat.le_of_ble_eq_true rfl) dX3_hourSet_118 (st1 := [.int r31]) rfl (fun H locs hw => ?_)
    refine lv_istore (lv' := [(5, .int r31), (4, .int r2), (0, .ref (eP E 6)), (1, .ref (eP E o1)), (2, .int x2), (3, .int x3)]) X.1 X.2.1 dX3_hourSet_121 hl (by decide) rfl (fun ls hl => ?_)
    refine lv_goto (tgt := 126) X.1 X.2.1 dX3_hourSet_123 (by decide) ?_
    refine lv_iload X.1 X.2.1 dX3_hourSet_126 (lv_at hl 0 rfl) ?_
    refine lv_iconst (v := 0) X.1 X.2.1 dX3_hourSet_128 (by decide) ?_
    refine lv_bipush (v := 23) X.1 X.2.1 dX3_hourSet_129 (by decide) ?_
    obtain ⟨r33, h32, hf⟩ := b_bd1 hf
    refine r_callSN X hw (k_X7_bound hE  h32) (host := RX7) (by simp [lw_nest]) qw531 qw67 qw532 okX7_bound ⟨rfl, rfl⟩ ⟨(Nat.le_of_ble_eq_true rfl), (Nat.le_of_ble_eq_true rfl)⟩ ⟨Nat.zero_le _, Nat.zero_le _⟩ rfl hl.1 (rest := []) rfl (Nat.le_of_ble_eq_true rfl) dX3_hourSet_131 (st1 := [.int r33]) rfl (fun H locs hw => ?_)
    obtain ⟨rfl, rfl⟩ := Prod.mk.inj (Option.some.inj hf)
    exact r_iret X hw dX3_hourSet_134
  have hf := if_e hf c29
  have c6t := lv_neT (a := 1) c6 (by decide)
  have c10t := lv_neT (a := 2) c10 (by decide)
  have c14t := lv_neT (a := 3) c14 (by decide)
  have c18t := lv_neT (a := 4) c18 (by decide)
  have c29t := lv_neT (a := 5) c29 (by decide)
  refine lv_tableOut (x := r5) (tgt := 126) X.1 X.2.1 dX3_hourSet_21 (by omega) (by decide) ?_
  refine lv_iload X.1 X.2.1 dX3_hourSet_126 (lv_at hl 0 rfl) ?_
  refine lv_iconst (v := 0) X.1 X.2.1 dX3_hourSet_128 (by decide) ?_
  refine lv_bipush (v := 23) X.1 X.2.1 dX3_hourSet_129 (by decide) ?_
  obtain ⟨r35, h34, hf⟩ := b_bd1 hf
  refine r_callSN X hw (k_X7_bound hE  h34) (host := RX7) (by simp [lw_nest]) qw531 qw67 qw532 okX7_bound ⟨rfl, rfl⟩ ⟨(Nat.le_of_ble_eq_true rfl), (Nat.le_of_ble_eq_true rfl)⟩ ⟨Nat.zero_le _, Nat.zero_le _⟩ rfl hl.1 (rest := []) rfl (Nat.le_of_ble_eq_true rfl) dX3_hourSet_131 (st1 := [.int r35]) rfl (fun H locs hw => ?_)
  obtain ⟨rfl, rfl⟩ := Prod.mk.inj (Option.some.inj hf)
  exact r_iret X hw dX3_hourSet_134
abbrev rm_X3_fonderBy : Room := { frames := 4, cells := 0, slots := 0, locals := 152 }
set_option maxHeartbeats 4000000 in
set_option maxRecDepth 100000 in
theorem k_X3_fonderBy {l : Launch} {E : en_T} (hE : ShF E) {o1 : Nat} (ho1 : isP o1) {x2 : Int32} {x3 : Int32} {x4 : Int32} {σ : sg_T} {r : Int32} {σ' : sg_T} (hf : f_X3_fonderBy o1 x2 x3 x4 σ = some (r, σ')) : Ct l yX3_fonderBy cX3_fonderBy 7 (some .int) rm_X3_fonderBy E [.ref (eP E 6), .ref (eP E o1), .int x2, .int x3, .int x4] σ (some (.int r)) σ' := by
  refine Ct.start (by decide) hE.1 (Nat.le_of_ble_eq_true rfl) ?_
  intro p e s m below meth c X hw ls hl
  have X : Cx E p s m _ meth c cX3_fonderBy 7 RX3 (some .int) := X
  have hR : ShR E := hE.r
  have hl : lv_has ls 7 [(0, .ref (eP E 6)), (1, .ref (eP E o1)), (2, .int x2), (3, .int x3), (4, .int x4)] := hl
  unfold f_X3_fonderBy at hf
  refine lv_aload_n X.1 X.2.1 dX3_fonderBy_0 rfl (lv_at hl 0 rfl) ?_
  refine lv_iconst (v := 2) X.1 X.2.1 dX3_fonderBy_1 (by decide) ?_
  refine lv_aload_n X.1 X.2.1 dX3_fonderBy_2 rfl (lv_at hl 1 rfl) ?_
  refine lv_iload_n X.1 X.2.1 dX3_fonderBy_3 rfl (lv_at hl 2 rfl) ?_
  refine lv_iload_n X.1 X.2.1 dX3_fonderBy_4 rfl (lv_at hl 3 rfl) ?_
  obtain ⟨r2, σ3, h1, hf⟩ := b_bd2 hf
  refine r_callV X hw (k_X3_tell hE ho1 h1) (sp6 hR) (C := RX3) (T := TX3) (N := 4) rfl qw503 qw505 qw17 qw69 qw506 okX3_tell ⟨rfl, rfl⟩ ⟨(Nat.le_of_ble_eq_true rfl), (Nat.le_of_ble_eq_true rfl)⟩ ⟨Nat.zero_le _, Nat.zero_le _⟩ rfl hl.1 (rest := []) rfl (Nat.le_of_ble_eq_true rfl) dX3_fonderBy_5 (st1 := [.int r2]) rfl (fun H locs hw => ?_)
  refine lv_istore (lv' := [(5, .int r2), (0, .ref (eP E 6)), (1, .ref (eP E o1)), (2, .int x2), (3, .int x3), (4, .int x4)]) X.1 X.2.1 dX3_fonderBy_8 hl (by decide) rfl (fun ls hl => ?_)
  refine lv_iload X.1 X.2.1 dX3_fonderBy_10 (lv_at hl 5 rfl) ?_
  obtain ⟨v5, e6, hf⟩ := b_bnd hf
  refine r_join (g2 := F0 m 21 ls [.int v5]) ?_ (fun hj => ?_)
  · refine lv_istore (lv' := [(6, .int v5), (5, .int r2), (0, .ref (eP E 6)), (1, .ref (eP E o1)), (2, .int x2), (3, .int x3), (4, .int x4)]) X.1 X.2.1 dX3_fonderBy_21 hl (by decide) rfl (fun ls hl => ?_)
    refine lv_aload_n X.1 X.2.1 dX3_fonderBy_23 rfl (lv_at hl 3 rfl) ?_
    refine lv_bipush (v := 7) X.1 X.2.1 dX3_fonderBy_24 (by decide) ?_
    refine lv_iload_n X.1 X.2.1 dX3_fonderBy_26 rfl (lv_at hl 4 rfl) ?_
    obtain ⟨r8, h7, hf⟩ := b_bd1 hf
    refine r_callV X hw (k_X1_get hE ho1 h7) (spP0 hE ho1) (C := RX1) (T := TX1) (N := 10) rfl qw539 qw461 qw462 qw76 qw463 okX1_get ⟨rfl, rfl⟩ ⟨(Nat.le_of_ble_eq_true rfl), (Nat.le_of_ble_eq_true rfl)⟩ ⟨Nat.zero_le _, Nat.zero_le _⟩ rfl hl.1 (rest := []) rfl (Nat.le_of_ble_eq_true rfl) dX3_fonderBy_27 (st1 := [.int r8]) rfl (fun H locs hw => ?_)
    by_cases c9 : r8 = 1
    · have hf := if_t hf c9
      refine lv_tableIn (x := r8) (tgt := 64) (off := 34) X.1 X.2.1 dX3_fonderBy_30 (by rw [c9]; decide) (by rw [c9]; decide) (by rw [c9]; decide) (by decide) ?_
      refine lv_iload X.1 X.2.1 dX3_fonderBy_64 (lv_at hl 0 rfl) ?_
      obtain ⟨rfl, rfl⟩ := Prod.mk.inj (Option.some.inj hf)
      exact r_iret X hw dX3_fonderBy_66
    have hf := if_e hf c9
    by_cases c10 : r8 = 2
    · have hf := if_t hf c10
      refine lv_tableIn (x := r8) (tgt := 67) (off := 37) X.1 X.2.1 dX3_fonderBy_30 (by rw [c10]; decide) (by rw [c10]; decide) (by rw [c10]; decide) (by decide) ?_
      refine lv_iload X.1 X.2.1 dX3_fonderBy_67 (lv_at hl 1 rfl) ?_
      refine lv_ineg X.1 X.2.1 dX3_fonderBy_69 ?_
      obtain ⟨rfl, rfl⟩ := Prod.mk.inj (Option.some.inj hf)
      exact r_iret X hw dX3_fonderBy_70
    have hf := if_e hf c10
    by_cases c11 : r8 = 3
    · have hf := if_t hf c11
      refine lv_tableIn (x := r8) (tgt := 71) (off := 41) X.1 X.2.1 dX3_fonderBy_30 (by rw [c11]; decide) (by rw [c11]; decide) (by rw [c11]; decide) (by decide) ?_
      refine lv_iload X.1 X.2.1 dX3_fonderBy_71 (lv_at hl 0 rfl) ?_
      refine lv_iconst (v := 1) X.1 X.2.1 dX3_fonderBy_73 (by decide) ?_
      refine lv_iadd X.1 X.2.1 dX3_fonderBy_74 ?_
      obtain ⟨rfl, rfl⟩ := Prod.mk.inj (Option.some.inj hf)
      exact r_iret X hw dX3_fonderBy_75
    have hf := if_e hf c11
    by_cases c12 : r8 = 4
    · have hf := if_t hf c12
      refine lv_tableIn (x := r8) (tgt := 76) (off := 46) X.1 X.2.1 dX3_fonderBy_30 (by rw [c12]; decide) (by rw [c12]; decide) (by rw [c12]; decide) (by decide) ?_
      refine lv_aload_n X.1 X.2.1 dX3_fonderBy_76 rfl (lv_at hl 3 rfl) ?_
      obtain ⟨r14, h13, hf⟩ := b_bd1 hf
      refine r_callV X hw (k_X1_today hE ho1 h13) (spP0 hE ho1) (C := RX1) (T := TX1) (N := 10) rfl qw541 qw542 qw543 qw76 qw544 okX1_today ⟨rfl, rfl⟩ ⟨(Nat.le_of_ble_eq_true rfl), (Nat.le_of_ble_eq_true rfl)⟩ ⟨Nat.zero_le _, Nat.zero_le _⟩ rfl hl.1 (rest := []) rfl (Nat.le_of_ble_eq_true rfl) dX3_fonderBy_77 (st1 := [.int r14]) rfl (fun H locs hw => ?_)
      refine lv_iconst (v := 2) X.1 X.2.1 dX3_fonderBy_80 (by decide) ?_
      refine r_irem X dX3_fonderBy_81 (by decide) ?_
      refine lv_iconst (v := 1) X.1 X.2.1 dX3_fonderBy_82 (by decide) ?_
      obtain ⟨v16, e17, hf⟩ := b_bnd hf
      refine r_join (g2 := F0 m 93 ls [.int v16]) ?_ (fun hj => ?_)
      · obtain ⟨rfl, rfl⟩ := Prod.mk.inj (Option.some.inj hf)
        exact r_iret X hw dX3_fonderBy_93
      · refine lv_icmp_ne (tgt := 92) X.1 X.2.1 dX3_fonderBy_83 (by decide) (fun c15 => ?_) (fun c15 => ?_)
        · rw [e17, if_neg c15] at hj
          refine lv_iconst (v := 0) X.1 X.2.1 dX3_fonderBy_92 (by decide) ?_
          exact hj
        · rw [e17, if_pos c15] at hj
          refine lv_iload X.1 X.2.1 dX3_fonderBy_86 (lv_at hl 1 rfl) ?_
          refine lv_ineg X.1 X.2.1 dX3_fonderBy_88 ?_
          refine lv_goto (tgt := 93) X.1 X.2.1 dX3_fonderBy_89 (by decide) ?_
          exact hj
    have hf := if_e hf c12
    by_cases c18 : r8 = 5
    · have hf := if_t hf c18
      refine lv_tableIn (x := r8) (tgt := 94) (off := 64) X.1 X.2.1 dX3_fonderBy_30 (by rw [c18]; decide) (by rw [c18]; decide) (by rw [c18]; decide) (by decide) ?_
      refine lv_iconst (v := 0) X.1 X.2.1 dX3_fonderBy_94 (by decide) ?_
      obtain ⟨rfl, rfl⟩ := Prod.mk.inj (Option.some.inj hf)
      exact r_iret X hw dX3_fonderBy_95
    have hf := if_e hf c18
    have c9t := lv_neT (a := 1) c9 (by decide)
    have c10t := lv_neT (a := 2) c10 (by decide)
    have c11t := lv_neT (a := 3) c11 (by decide)
    have c12t := lv_neT (a := 4) c12 (by decide)
    have c18t := lv_neT (a := 5) c18 (by decide)
    refine lv_tableOut (x := r8) (tgt := 96) X.1 X.2.1 dX3_fonderBy_30 (by omega) (by decide) ?_
    refine lv_iload X.1 X.2.1 dX3_fonderBy_96 (lv_at hl 1 rfl) ?_
    obtain ⟨rfl, rfl⟩ := Prod.mk.inj (Option.some.inj hf)
    exact r_iret X hw dX3_fonderBy_98
  · refine lv_if_eq (tgt := 19) X.1 X.2.1 dX3_fonderBy_12 (by decide) (fun c4 => ?_) (fun c4 => ?_)
    · rw [e6, if_pos c4] at hj
      refine lv_iload X.1 X.2.1 dX3_fonderBy_19 (lv_at hl 0 rfl) ?_
      exact hj
    · rw [e6, if_neg c4] at hj
      refine lv_iconst (v := 0) X.1 X.2.1 dX3_fonderBy_15 (by decide) ?_
      refine lv_goto (tgt := 21) X.1 X.2.1 dX3_fonderBy_16 (by decide) ?_
      exact hj
abbrev rm_X3_tiredBy : Room := { frames := 4, cells := 0, slots := 0, locals := 152 }
set_option maxHeartbeats 4000000 in
set_option maxRecDepth 100000 in
theorem k_X3_tiredBy {l : Launch} {E : en_T} (hE : ShF E) {o1 : Nat} (ho1 : isP o1) {x2 : Int32} {x3 : Int32} {σ : sg_T} {r : Int32} {σ' : sg_T} (hf : f_X3_tiredBy o1 x2 x3 σ = some (r, σ')) : Ct l yX3_tiredBy cX3_tiredBy 7 (some .int) rm_X3_tiredBy E [.ref (eP E 6), .ref (eP E o1), .int x2, .int x3] σ (some (.int r)) σ' := by
  refine Ct.start (by decide) hE.1 (Nat.le_of_ble_eq_true rfl) ?_
  intro p e s m below meth c X hw ls hl
  have X : Cx E p s m _ meth c cX3_tiredBy 7 RX3 (some .int) := X
  have hR : ShR E := hE.r
  have hl : lv_has ls 7 [(0, .ref (eP E 6)), (1, .ref (eP E o1)), (2, .int x2), (3, .int x3)] := hl
  unfold f_X3_tiredBy at hf
  refine lv_aload_n X.1 X.2.1 dX3_tiredBy_0 rfl (lv_at hl 0 rfl) ?_
  refine lv_iconst (v := 1) X.1 X.2.1 dX3_tiredBy_1 (by decide) ?_
  refine lv_aload_n X.1 X.2.1 dX3_tiredBy_2 rfl (lv_at hl 1 rfl) ?_
  refine lv_iload_n X.1 X.2.1 dX3_tiredBy_3 rfl (lv_at hl 2 rfl) ?_
  refine lv_iload_n X.1 X.2.1 dX3_tiredBy_4 rfl (lv_at hl 2 rfl) ?_
  obtain ⟨r2, σ3, h1, hf⟩ := b_bd2 hf
  refine r_callV X hw (k_X3_tell hE ho1 h1) (sp6 hR) (C := RX3) (T := TX3) (N := 4) rfl qw503 qw505 qw17 qw69 qw506 okX3_tell ⟨rfl, rfl⟩ ⟨(Nat.le_of_ble_eq_true rfl), (Nat.le_of_ble_eq_true rfl)⟩ ⟨Nat.zero_le _, Nat.zero_le _⟩ rfl hl.1 (rest := []) rfl (Nat.le_of_ble_eq_true rfl) dX3_tiredBy_5 (st1 := [.int r2]) rfl (fun H locs hw => ?_)
  refine lv_istore (lv' := [(4, .int r2), (0, .ref (eP E 6)), (1, .ref (eP E o1)), (2, .int x2), (3, .int x3)]) X.1 X.2.1 dX3_tiredBy_8 hl (by decide) rfl (fun ls hl => ?_)
  refine lv_iload_n X.1 X.2.1 dX3_tiredBy_10 rfl (lv_at hl 4 rfl) ?_
  refine lv_bipush (v := 6) X.1 X.2.1 dX3_tiredBy_11 (by decide) ?_
  refine lv_icmp_ge (tgt := 28) X.1 X.2.1 dX3_tiredBy_13 (by decide) (fun c4 => ?_) (fun c4 => ?_)
  · have hf := if_t hf c4
    refine lv_iload X.1 X.2.1 dX3_tiredBy_28 (lv_at hl 0 rfl) ?_
    refine lv_istore (lv' := [(5, .int r2), (4, .int r2), (0, .ref (eP E 6)), (1, .ref (eP E o1)), (2, .int x2), (3, .int x3)]) X.1 X.2.1 dX3_tiredBy_30 hl (by decide) rfl (fun ls hl => ?_)
    refine lv_iload X.1 X.2.1 dX3_tiredBy_32 (lv_at hl 1 rfl) ?_
    refine lv_istore (lv' := [(6, .int r2), (5, .int r2), (4, .int r2), (0, .ref (eP E 6)), (1, .ref (eP E o1)), (2, .int x2), (3, .int x3)]) X.1 X.2.1 dX3_tiredBy_34 hl (by decide) rfl (fun ls hl => ?_)
    refine lv_aload_n X.1 X.2.1 dX3_tiredBy_36 rfl (lv_at hl 4 rfl) ?_
    refine lv_bipush (v := 7) X.1 X.2.1 dX3_tiredBy_37 (by decide) ?_
    refine lv_iload_n X.1 X.2.1 dX3_tiredBy_39 rfl (lv_at hl 5 rfl) ?_
    obtain ⟨r6, h5, hf⟩ := b_bd1 hf
    refine r_callV X hw (k_X1_get hE ho1 h5) (spP0 hE ho1) (C := RX1) (T := TX1) (N := 10) rfl qw539 qw461 qw462 qw76 qw463 okX1_get ⟨rfl, rfl⟩ ⟨(Nat.le_of_ble_eq_true rfl), (Nat.le_of_ble_eq_true rfl)⟩ ⟨Nat.zero_le _, Nat.zero_le _⟩ rfl hl.1 (rest := []) rfl (Nat.le_of_ble_eq_true rfl) dX3_tiredBy_40 (st1 := [.int r6]) rfl (fun H locs hw => ?_)
    by_cases c7 : r6 = 1
    · have hf := if_t hf c7
      refine lv_tableIn (x := r6) (tgt := 76) (off := 33) X.1 X.2.1 dX3_tiredBy_43 (by rw [c7]; decide) (by rw [c7]; decide) (by rw [c7]; decide) (by decide) ?_
      refine lv_iload X.1 X.2.1 dX3_tiredBy_76 (lv_at hl 2 rfl) ?_
      refine lv_iconst (v := 2) X.1 X.2.1 dX3_tiredBy_78 (by decide) ?_
      refine lv_idiv X.1 X.2.1 dX3_tiredBy_79 (by decide) ?_
      refine r_bnd hf (fun v8 hf => ?_)
      refine lv_istore (lv' := [(6, .int v8), (5, .int r2), (4, .int r2), (0, .ref (eP E 6)), (1, .ref (eP E o1)), (2, .int x2), (3, .int x3)]) X.1 X.2.1 dX3_tiredBy_80 hl (by decide) rfl (fun ls hl => ?_)
      refine lv_goto (tgt := 129) X.1 X.2.1 dX3_tiredBy_82 (by decide) ?_
      refine lv_iload X.1 X.2.1 dX3_tiredBy_129 (lv_at hl 0 rfl) ?_
      refine lv_bipush (v := (-99)) X.1 X.2.1 dX3_tiredBy_131 (by decide) ?_
      refine lv_bipush (v := 99) X.1 X.2.1 dX3_tiredBy_133 (by decide) ?_
      obtain ⟨r10, h9, hf⟩ := b_bd1 hf
      refine r_callSN X hw (k_X7_bound hE  h9) (host := RX7) (by simp [lw_nest]) qw531 qw67 qw532 okX7_bound ⟨rfl, rfl⟩ ⟨(Nat.le_of_ble_eq_true rfl), (Nat.le_of_ble_eq_true rfl)⟩ ⟨Nat.zero_le _, Nat.zero_le _⟩ rfl hl.1 (rest := []) rfl (Nat.le_of_ble_eq_true rfl) dX3_tiredBy_135 (st1 := [.int r10]) rfl (fun H locs hw => ?_)
      obtain ⟨rfl, rfl⟩ := Prod.mk.inj (Option.some.inj hf)
      exact r_iret X hw dX3_tiredBy_138
    have hf := if_e hf c7
    by_cases c11 : r6 = 2
    · have hf := if_t hf c11
      refine lv_tableIn (x := r6) (tgt := 85) (off := 42) X.1 X.2.1 dX3_tiredBy_43 (by rw [c11]; decide) (by rw [c11]; decide) (by rw [c11]; decide) (by decide) ?_
      refine lv_iload X.1 X.2.1 dX3_tiredBy_85 (lv_at hl 1 rfl) ?_
      refine lv_istore (lv' := [(6, .int r2), (5, .int r2), (4, .int r2), (0, .ref (eP E 6)), (1, .ref (eP E o1)), (2, .int x2), (3, .int x3)]) X.1 X.2.1 dX3_tiredBy_87 hl (by decide) rfl (fun ls hl => ?_)
      refine lv_goto (tgt := 129) X.1 X.2.1 dX3_tiredBy_89 (by decide) ?_
      refine lv_iload X.1 X.2.1 dX3_tiredBy_129 (lv_at hl 0 rfl) ?_
      refine lv_bipush (v := (-99)) X.1 X.2.1 dX3_tiredBy_131 (by decide) ?_
      refine lv_bipush (v := 99) X.1 X.2.1 dX3_tiredBy_133 (by decide) ?_
      obtain ⟨r13, h12, hf⟩ := b_bd1 hf
      refine r_callSN X hw (k_X7_bound hE  h12) (host := RX7) (by simp [lw_nest]) qw531 qw67 qw532 okX7_bound ⟨rfl, rfl⟩ ⟨(Nat.le_of_ble_eq_true rfl), (Nat.le_of_ble_eq_true rfl)⟩ ⟨Nat.zero_le _, Nat.zero_le _⟩ rfl hl.1 (rest := []) rfl (Nat.le_of_ble_eq_true rfl) dX3_tiredBy_135 (st1 := [.int r13]) rfl (fun H locs hw => ?_)
      obtain ⟨rfl, rfl⟩ := Prod.mk.inj (Option.some.inj hf)
      exact r_iret X hw dX3_tiredBy_138
    have hf := if_e hf c11
    by_cases c14 : r6 = 3
    · have hf := if_t hf c14
      refine lv_tableIn (x := r6) (tgt := 92) (off := 49) X.1 X.2.1 dX3_tiredBy_43 (by rw [c14]; decide) (by rw [c14]; decide) (by rw [c14]; decide) (by decide) ?_
      refine lv_iconst (v := 0) X.1 X.2.1 dX3_tiredBy_92 (by decide) ?_
      refine lv_istore (lv' := [(6, .int 0), (5, .int r2), (4, .int r2), (0, .ref (eP E 6)), (1, .ref (eP E o1)), (2, .int x2), (3, .int x3)]) X.1 X.2.1 dX3_tiredBy_93 hl (by decide) rfl (fun ls hl => ?_)
      refine lv_goto (tgt := 129) X.1 X.2.1 dX3_tiredBy_95 (by decide) ?_
      refine lv_iload X.1 X.2.1 dX3_tiredBy_129 (lv_at hl 0 rfl) ?_
      refine lv_bipush (v := (-99)) X.1 X.2.1 dX3_tiredBy_131 (by decide) ?_
      refine lv_bipush (v := 99) X.1 X.2.1 dX3_tiredBy_133 (by decide) ?_
      obtain ⟨r16, h15, hf⟩ := b_bd1 hf
      refine r_callSN X hw (k_X7_bound hE  h15) (host := RX7) (by simp [lw_nest]) qw531 qw67 qw532 okX7_bound ⟨rfl, rfl⟩ ⟨(Nat.le_of_ble_eq_true rfl), (Nat.le_of_ble_eq_true rfl)⟩ ⟨Nat.zero_le _, Nat.zero_le _⟩ rfl hl.1 (rest := []) rfl (Nat.le_of_ble_eq_true rfl) dX3_tiredBy_135 (st1 := [.int r16]) rfl (fun H locs hw => ?_)
      obtain ⟨rfl, rfl⟩ := Prod.mk.inj (Option.some.inj hf)
      exact r_iret X hw dX3_tiredBy_138
    have hf := if_e hf c14
    by_cases c17 : r6 = 4
    · have hf := if_t hf c17
      refine lv_tableIn (x := r6) (tgt := 98) (off := 55) X.1 X.2.1 dX3_tiredBy_43 (by rw [c17]; decide) (by rw [c17]; decide) (by rw [c17]; decide) (by decide) ?_
      refine lv_iconst (v := 2) X.1 X.2.1 dX3_tiredBy_98 (by decide) ?_
      refine lv_iload X.1 X.2.1 dX3_tiredBy_99 (lv_at hl 1 rfl) ?_
      refine lv_imul X.1 X.2.1 dX3_tiredBy_101 ?_
      refine r_bnd hf (fun v18 hf => ?_)
      refine lv_istore (lv' := [(6, .int v18), (5, .int r2), (4, .int r2), (0, .ref (eP E 6)), (1, .ref (eP E o1)), (2, .int x2), (3, .int x3)]) X.1 X.2.1 dX3_tiredBy_102 hl (by decide) rfl (fun ls hl => ?_)
      refine lv_goto (tgt := 129) X.1 X.2.1 dX3_tiredBy_104 (by decide) ?_
      refine lv_iload X.1 X.2.1 dX3_tiredBy_129 (lv_at hl 0 rfl) ?_
      refine lv_bipush (v := (-99)) X.1 X.2.1 dX3_tiredBy_131 (by decide) ?_
      refine lv_bipush (v := 99) X.1 X.2.1 dX3_tiredBy_133 (by decide) ?_
      obtain ⟨r20, h19, hf⟩ := b_bd1 hf
      refine r_callSN X hw (k_X7_bound hE  h19) (host := RX7) (by simp [lw_nest]) qw531 qw67 qw532 okX7_bound ⟨rfl, rfl⟩ ⟨(Nat.le_of_ble_eq_true rfl), (Nat.le_of_ble_eq_true rfl)⟩ ⟨Nat.zero_le _, Nat.zero_le _⟩ rfl hl.1 (rest := []) rfl (Nat.le_of_ble_eq_true rfl) dX3_tiredBy_135 (st1 := [.int r20]) rfl (fun H locs hw => ?_)
      obtain ⟨rfl, rfl⟩ := Prod.mk.inj (Option.some.inj hf)
      exact r_iret X hw dX3_tiredBy_138
    have hf := if_e hf c17
    by_cases c21 : r6 = 5
    · have hf := if_t hf c21
      refine lv_tableIn (x := r6) (tgt := 107) (off := 64) X.1 X.2.1 dX3_tiredBy_43 (by rw [c21]; decide) (by rw [c21]; decide) (by rw [c21]; decide) (by decide) ?_
      refine lv_aload_n X.1 X.2.1 dX3_tiredBy_107 rfl (lv_at hl 4 rfl) ?_
      refine lv_iconst (v := 3) X.1 X.2.1 dX3_tiredBy_108 (by decide) ?_
      refine lv_iload_n X.1 X.2.1 dX3_tiredBy_109 rfl (lv_at hl 5 rfl) ?_
      obtain ⟨r23, h22, hf⟩ := b_bd1 hf
      refine r_callV X hw (k_X1_get hE ho1 h22) (spP0 hE ho1) (C := RX1) (T := TX1) (N := 10) rfl qw539 qw461 qw462 qw76 qw463 okX1_get ⟨rfl, rfl⟩ ⟨(Nat.le_of_ble_eq_true rfl), (Nat.le_of_ble_eq_true rfl)⟩ ⟨Nat.zero_le _, Nat.zero_le _⟩ rfl hl.1 (rest := []) rfl (Nat.le_of_ble_eq_true rfl) dX3_tiredBy_110 (st1 := [.int r23]) rfl (fun H locs hw => ?_)
      refine lv_bipush (v := 50) X.1 X.2.1 dX3_tiredBy_113 (by decide) ?_
      obtain ⟨v25, e26, hf⟩ := b_bnd hf
      refine r_join (g2 := F0 m 124 ls [.int v25]) ?_ (fun hj => ?_)
      · refine lv_istore (lv' := [(6, .int v25), (5, .int r2), (4, .int r2), (0, .ref (eP E 6)), (1, .ref (eP E o1)), (2, .int x2), (3, .int x3)]) X.1 X.2.1 dX3_tiredBy_124 hl (by decide) rfl (fun ls hl => ?_)
        refine lv_goto (tgt := 129) X.1 X.2.1 dX3_tiredBy_126 (by decide) ?_
        refine lv_iload X.1 X.2.1 dX3_tiredBy_129 (lv_at hl 0 rfl) ?_
        refine lv_bipush (v := (-99)) X.1 X.2.1 dX3_tiredBy_131 (by decide) ?_
        refine lv_bipush (v := 99) X.1 X.2.1 dX3_tiredBy_133 (by decide) ?_
        obtain ⟨r28, h27, hf⟩ := b_bd1 hf
        refine r_callSN X hw (k_X7_bound hE  h27) (host := RX7) (by simp [lw_nest]) qw531 qw67 qw532 okX7_bound ⟨rfl, rfl⟩ ⟨(Nat.le_of_ble_eq_true rfl), (Nat.le_of_ble_eq_true rfl)⟩ ⟨Nat.zero_le _, Nat.zero_le _⟩ rfl hl.1 (rest := []) rfl (Nat.le_of_ble_eq_true rfl) dX3_tiredBy_135 (st1 := [.int r28]) rfl (fun H locs hw => ?_)
        obtain ⟨rfl, rfl⟩ := Prod.mk.inj (Option.some.inj hf)
        exact r_iret X hw dX3_tiredBy_138
      · refine lv_icmp_ge (tgt := 123) X.1 X.2.1 dX3_tiredBy_115 (by decide) (fun c24 => ?_) (fun c24 => ?_)
        · rw [e26, if_pos c24] at hj
          refine lv_iconst (v := 0) X.1 X.2.1 dX3_tiredBy_123 (by decide) ?_
          exact hj
        · rw [e26, if_neg c24] at hj
          refine lv_iload X.1 X.2.1 dX3_tiredBy_118 (lv_at hl 2 rfl) ?_
          refine lv_goto (tgt := 124) X.1 X.2.1 dX3_tiredBy_120 (by decide) ?_
          exact hj
    have hf := if_e hf c21
    have c7t := lv_neT (a := 1) c7 (by decide)
    have c11t := lv_neT (a := 2) c11 (by decide)
    have c14t := lv_neT (a := 3) c14 (by decide)
    have c17t := lv_neT (a := 4) c17 (by decide)
    have c21t := lv_neT (a := 5) c21 (by decide)
    refine lv_tableOut (x := r6) (tgt := 129) X.1 X.2.1 dX3_tiredBy_43 (by omega) (by decide) ?_
    refine lv_iload X.1 X.2.1 dX3_tiredBy_129 (lv_at hl 0 rfl) ?_
    refine lv_bipush (v := (-99)) X.1 X.2.1 dX3_tiredBy_131 (by decide) ?_
    refine lv_bipush (v := 99) X.1 X.2.1 dX3_tiredBy_133 (by decide) ?_
    obtain ⟨r30, h29, hf⟩ := b_bd1 hf
    refine r_callSN X hw (k_X7_bound hE  h29) (host := RX7) (by simp [lw_nest]) qw531 qw67 qw532 okX7_bound ⟨rfl, rfl⟩ ⟨(Nat.le_of_ble_eq_true rfl), (Nat.le_of_ble_eq_true rfl)⟩ ⟨Nat.zero_le _, Nat.zero_le _⟩ rfl hl.1 (rest := []) rfl (Nat.le_of_ble_eq_true rfl) dX3_tiredBy_135 (st1 := [.int r30]) rfl (fun H locs hw => ?_)
    obtain ⟨rfl, rfl⟩ := Prod.mk.inj (Option.some.inj hf)
    exact r_iret X hw dX3_tiredBy_138
  · have hf := if_e hf c4
    refine lv_iload X.1 X.2.1 dX3_tiredBy_16 (lv_at hl 0 rfl) ?_
    refine lv_aload_n X.1 X.2.1 dX3_tiredBy_18 rfl (lv_at hl 2 rfl) ?_
    refine lv_iconst (v := 1) X.1 X.2.1 dX3_tiredBy_19 (by decide) ?_
    refine lv_iload_n X.1 X.2.1 dX3_tiredBy_20 rfl (lv_at hl 3 rfl) ?_
    obtain ⟨r32, h31, hf⟩ := b_bd1 hf
    refine r_callV X hw (k_X1_get hE ho1 h31) (spP0 hE ho1) (C := RX1) (T := TX1) (N := 10) rfl qw539 qw461 qw462 qw76 qw463 okX1_get ⟨rfl, rfl⟩ ⟨(Nat.le_of_ble_eq_true rfl), (Nat.le_of_ble_eq_true rfl)⟩ ⟨Nat.zero_le _, Nat.zero_le _⟩ rfl hl.1 (rest := [.int r2]) rfl (Nat.le_of_ble_eq_true rfl) dX3_tiredBy_21 (st1 := [.int r32, .int r2]) rfl (fun H locs hw => ?_)
    refine lv_iadd X.1 X.2.1 dX3_tiredBy_24 ?_
    refine lv_goto (tgt := 30) X.1 X.2.1 dX3_tiredBy_25 (by decide) ?_
    refine r_bnd hf (fun v33 hf => ?_)
    refine lv_istore (lv' := [(5, .int v33), (4, .int r2), (0, .ref (eP E 6)), (1, .ref (eP E o1)), (2, .int x2), (3, .int x3)]) X.1 X.2.1 dX3_tiredBy_30 hl (by decide) rfl (fun ls hl => ?_)
    refine lv_iload X.1 X.2.1 dX3_tiredBy_32 (lv_at hl 1 rfl) ?_
    refine lv_istore (lv' := [(6, .int r2), (5, .int v33), (4, .int r2), (0, .ref (eP E 6)), (1, .ref (eP E o1)), (2, .int x2), (3, .int x3)]) X.1 X.2.1 dX3_tiredBy_34 hl (by decide) rfl (fun ls hl => ?_)
    refine lv_aload_n X.1 X.2.1 dX3_tiredBy_36 rfl (lv_at hl 4 rfl) ?_
    refine lv_bipush (v := 7) X.1 X.2.1 dX3_tiredBy_37 (by decide) ?_
    refine lv_iload_n X.1 X.2.1 dX3_tiredBy_39 rfl (lv_at hl 5 rfl) ?_
    obtain ⟨r35, h34, hf⟩ := b_bd1 hf
    refine r_callV X hw (k_X1_get hE ho1 h34) (spP0 hE ho1) (C := RX1) (T := TX1) (N := 10) rfl qw539 qw461 qw462 qw76 qw463 okX1_get ⟨rfl, rfl⟩ ⟨(Nat.le_of_ble_eq_true rfl), (Nat.le_of_ble_eq_true rfl)⟩ ⟨Nat.zero_le _, Nat.zero_le _⟩ rfl hl.1 (rest := []) rfl (Nat.le_of_ble_eq_true rfl) dX3_tiredBy_40 (st1 := [.int r35]) rfl (fun H locs hw => ?_)
    by_cases c36 : r35 = 1
    · have hf := if_t hf c36
      refine lv_tableIn (x := r35) (tgt := 76) (off := 33) X.1 X.2.1 dX3_tiredBy_43 (by rw [c36]; decide) (by rw [c36]; decide) (by rw [c36]; decide) (by decide) ?_
      refine lv_iload X.1 X.2.1 dX3_tiredBy_76 (lv_at hl 2 rfl) ?_
      refine lv_iconst (v := 2) X.1 X.2.1 dX3_tiredBy_78 (by decide) ?_
      refine lv_idiv X.1 X.2.1 dX3_tiredBy_79 (by decide) ?_
      refine r_bnd hf (fun v37 hf => ?_)
      refine lv_istore (lv' := [(6, .int v37), (5, .int v33), (4, .int r2), (0, .ref (eP E 6)), (1, .ref (eP E o1)), (2, .int x2), (3, .int x3)]) X.1 X.2.1 dX3_tiredBy_80 hl (by decide) rfl (fun ls hl => ?_)
      refine lv_goto (tgt := 129) X.1 X.2.1 dX3_tiredBy_82 (by decide) ?_
      refine lv_iload X.1 X.2.1 dX3_tiredBy_129 (lv_at hl 0 rfl) ?_
      refine lv_bipush (v := (-99)) X.1 X.2.1 dX3_tiredBy_131 (by decide) ?_
      refine lv_bipush (v := 99) X.1 X.2.1 dX3_tiredBy_133 (by decide) ?_
      obtain ⟨r39, h38, hf⟩ := b_bd1 hf
      refine r_callSN X hw (k_X7_bound hE  h38) (host := RX7) (by simp [lw_nest]) qw531 qw67 qw532 okX7_bound ⟨rfl, rfl⟩ ⟨(Nat.le_of_ble_eq_true rfl), (Nat.le_of_ble_eq_true rfl)⟩ ⟨Nat.zero_le _, Nat.zero_le _⟩ rfl hl.1 (rest := []) rfl (Nat.le_of_ble_eq_true rfl) dX3_tiredBy_135 (st1 := [.int r39]) rfl (fun H locs hw => ?_)
      obtain ⟨rfl, rfl⟩ := Prod.mk.inj (Option.some.inj hf)
      exact r_iret X hw dX3_tiredBy_138
    have hf := if_e hf c36
    by_cases c40 : r35 = 2
    · have hf := if_t hf c40
      refine lv_tableIn (x := r35) (tgt := 85) (off := 42) X.1 X.2.1 dX3_tiredBy_43 (by rw [c40]; decide) (by rw [c40]; decide) (by rw [c40]; decide) (by decide) ?_
      refine lv_iload X.1 X.2.1 dX3_tiredBy_85 (lv_at hl 1 rfl) ?_
      refine lv_istore (lv' := [(6, .int v33), (5, .int v33), (4, .int r2), (0, .ref (eP E 6)), (1, .ref (eP E o1)), (2, .int x2), (3, .int x3)]) X.1 X.2.1 dX3_tiredBy_87 hl (by decide) rfl (fun ls hl => ?_)
      refine lv_goto (tgt := 129) X.1 X.2.1 dX3_tiredBy_89 (by decide) ?_
      refine lv_iload X.1 X.2.1 dX3_tiredBy_129 (lv_at hl 0 rfl) ?_
      refine lv_bipush (v := (-99)) X.1 X.2.1 dX3_tiredBy_131 (by decide) ?_
      refine lv_bipush (v := 99) X.1 X.2.1 dX3_tiredBy_133 (by decide) ?_
      obtain ⟨r42, h41, hf⟩ := b_bd1 hf
      refine r_callSN X hw (k_X7_bound hE  h41) (host := RX7) (by simp [lw_nest]) qw531 qw67 qw532 okX7_bound ⟨rfl, rfl⟩ ⟨(Nat.le_of_ble_eq_true rfl), (Nat.le_of_ble_eq_true rfl)⟩ ⟨Nat.zero_le _, Nat.zero_le _⟩ rfl hl.1 (rest := []) rfl (Nat.le_of_ble_eq_true rfl) dX3_tiredBy_135 (st1 := [.int r42]) rfl (fun H locs hw => ?_)
      obtain ⟨rfl, rfl⟩ := Prod.mk.inj (Option.some.inj hf)
      exact r_iret X hw dX3_tiredBy_138
    have hf := if_e hf c40
    by_cases c43 : r35 = 3
    · have hf := if_t hf c43
      refine lv_tableIn (x := r35) (tgt := 92) (off := 49) X.1 X.2.1 dX3_tiredBy_43 (by rw [c43]; decide) (by rw [c43]; decide) (by rw [c43]; decide) (by decide) ?_
      refine lv_iconst (v := 0) X.1 X.2.1 dX3_tiredBy_92 (by decide) ?_
      refine lv_istore (lv' := [(6, .int 0), (5, .int v33), (4, .int r2), (0, .ref (eP E 6)), (1, .ref (eP E o1)), (2, .int x2), (3, .int x3)]) X.1 X.2.1 dX3_tiredBy_93 hl (by decide) rfl (fun ls hl => ?_)
      refine lv_goto (tgt := 129) X.1 X.2.1 dX3_tiredBy_95 (by decide) ?_
      refine lv_iload X.1 X.2.1 dX3_tiredBy_129 (lv_at hl 0 rfl) ?_
      refine lv_bipush (v := (-99)) X.1 X.2.1 dX3_tiredBy_131 (by decide) ?_
      refine lv_bipush (v := 99) X.1 X.2.1 dX3_tiredBy_133 (by decide) ?_
      obtain ⟨r45, h44, hf⟩ := b_bd1 hf
      refine r_callSN X hw (k_X7_bound hE  h44) (host := RX7) (by simp [lw_nest]) qw531 qw67 qw532 okX7_bound ⟨rfl, rfl⟩ ⟨(Nat.le_of_ble_eq_true rfl), (Nat.le_of_ble_eq_true rfl)⟩ ⟨Nat.zero_le _, Nat.zero_le _⟩ rfl hl.1 (rest := []) rfl (Nat.le_of_ble_eq_true rfl) dX3_tiredBy_135 (st1 := [.int r45]) rfl (fun H locs hw => ?_)
      obtain ⟨rfl, rfl⟩ := Prod.mk.inj (Option.some.inj hf)
      exact r_iret X hw dX3_tiredBy_138
    have hf := if_e hf c43
    by_cases c46 : r35 = 4
    · have hf := if_t hf c46
      refine lv_tableIn (x := r35) (tgt := 98) (off := 55) X.1 X.2.1 dX3_tiredBy_43 (by rw [c46]; decide) (by rw [c46]; decide) (by rw [c46]; decide) (by decide) ?_
      refine lv_iconst (v := 2) X.1 X.2.1 dX3_tiredBy_98 (by decide) ?_
      refine lv_iload X.1 X.2.1 dX3_tiredBy_99 (lv_at hl 1 rfl) ?_
      refine lv_imul X.1 X.2.1 dX3_tiredBy_101 ?_
      refine r_bnd hf (fun v47 hf => ?_)
      refine lv_istore (lv' := [(6, .int v47), (5, .int v33), (4, .int r2), (0, .ref (eP E 6)), (1, .ref (eP E o1)), (2, .int x2), (3, .int x3)]) X.1 X.2.1 dX3_tiredBy_102 hl (by decide) rfl (fun ls hl => ?_)
      refine lv_goto (tgt := 129) X.1 X.2.1 dX3_tiredBy_104 (by decide) ?_
      refine lv_iload X.1 X.2.1 dX3_tiredBy_129 (lv_at hl 0 rfl) ?_
      refine lv_bipush (v := (-99)) X.1 X.2.1 dX3_tiredBy_131 (by decide) ?_
      refine lv_bipush (v := 99) X.1 X.2.1 dX3_tiredBy_133 (by decide) ?_
      obtain ⟨r49, h48, hf⟩ := b_bd1 hf
      refine r_callSN X hw (k_X7_bound hE  h48) (host := RX7) (by simp [lw_nest]) qw531 qw67 qw532 okX7_bound ⟨rfl, rfl⟩ ⟨(Nat.le_of_ble_eq_true rfl), (Nat.le_of_ble_eq_true rfl)⟩ ⟨Nat.zero_le _, Nat.zero_le _⟩ rfl hl.1 (rest := []) rfl (Nat.le_of_ble_eq_true rfl) dX3_tiredBy_135 (st1 := [.int r49]) rfl (fun H locs hw => ?_)
      obtain ⟨rfl, rfl⟩ := Prod.mk.inj (Option.some.inj hf)
      exact r_iret X hw dX3_tiredBy_138
    have hf := if_e hf c46
    by_cases c50 : r35 = 5
    · have hf := if_t hf c50
      refine lv_tableIn (x := r35) (tgt := 107) (off := 64) X.1 X.2.1 dX3_tiredBy_43 (by rw [c50]; decide) (by rw [c50]; decide) (by rw [c50]; decide) (by decide) ?_
      refine lv_aload_n X.1 X.2.1 dX3_tiredBy_107 rfl (lv_at hl 4 rfl) ?_
      refine lv_iconst (v := 3) X.1 X.2.1 dX3_tiredBy_108 (by decide) ?_
      refine lv_iload_n X.1 X.2.1 dX3_tiredBy_109 rfl (lv_at hl 5 rfl) ?_
      obtain ⟨r52, h51, hf⟩ := b_bd1 hf
      refine r_callV X hw (k_X1_get hE ho1 h51) (spP0 hE ho1) (C := RX1) (T := TX1) (N := 10) rfl qw539 qw461 qw462 qw76 qw463 okX1_get ⟨rfl, rfl⟩ ⟨(Nat.le_of_ble_eq_true rfl), (Nat.le_of_ble_eq_true rfl)⟩ ⟨Nat.zero_le _, Nat.zero_le _⟩ rfl hl.1 (rest := []) rfl (Nat.le_of_ble_eq_true rfl) dX3_tiredBy_110 (st1 := [.int r52]) rfl (fun H locs hw => ?_)
      refine lv_bipush (v := 50) X.1 X.2.1 dX3_tiredBy_113 (by decide) ?_
      obtain ⟨v54, e55, hf⟩ := b_bnd hf
      refine r_join (g2 := F0 m 124 ls [.int v54]) ?_ (fun hj => ?_)
      · refine lv_istore (lv' := [(6, .int v54), (5, .int v33), (4, .int r2), (0, .ref (eP E 6)), (1, .ref (eP E o1)), (2, .int x2), (3, .int x3)]) X.1 X.2.1 dX3_tiredBy_124 hl (by decide) rfl (fun ls hl => ?_)
        refine lv_goto (tgt := 129) X.1 X.2.1 dX3_tiredBy_126 (by decide) ?_
        refine lv_iload X.1 X.2.1 dX3_tiredBy_129 (lv_at hl 0 rfl) ?_
        refine lv_bipush (v := (-99)) X.1 X.2.1 dX3_tiredBy_131 (by decide) ?_
        refine lv_bipush (v := 99) X.1 X.2.1 dX3_tiredBy_133 (by decide) ?_
        obtain ⟨r57, h56, hf⟩ := b_bd1 hf
        refine r_callSN X hw (k_X7_bound hE  h56) (host := RX7) (by simp [lw_nest]) qw531 qw67 qw532 okX7_bound ⟨rfl, rfl⟩ ⟨(Nat.le_of_ble_eq_true rfl), (Nat.le_of_ble_eq_true rfl)⟩ ⟨Nat.zero_le _, Nat.zero_le _⟩ rfl hl.1 (rest := []) rfl (Nat.le_of_ble_eq_true rfl) dX3_tiredBy_135 (st1 := [.int r57]) rfl (fun H locs hw => ?_)
        obtain ⟨rfl, rfl⟩ := Prod.mk.inj (Option.some.inj hf)
        exact r_iret X hw dX3_tiredBy_138
      · refine lv_icmp_ge (tgt := 123) X.1 X.2.1 dX3_tiredBy_115 (by decide) (fun c53 => ?_) (fun c53 => ?_)
        · rw [e55, if_pos c53] at hj
          refine lv_iconst (v := 0) X.1 X.2.1 dX3_tiredBy_123 (by decide) ?_
          exact hj
        · rw [e55, if_neg c53] at hj
          refine lv_iload X.1 X.2.1 dX3_tiredBy_118 (lv_at hl 2 rfl) ?_
          refine lv_goto (tgt := 124) X.1 X.2.1 dX3_tiredBy_120 (by decide) ?_
          exact hj
    have hf := if_e hf c50
    have c36t := lv_neT (a := 1) c36 (by decide)
    have c40t := lv_neT (a := 2) c40 (by decide)
    have c43t := lv_neT (a := 3) c43 (by decide)
    have c46t := lv_neT (a := 4) c46 (by decide)
    have c50t := lv_neT (a := 5) c50 (by decide)
    refine lv_tableOut (x := r35) (tgt := 129) X.1 X.2.1 dX3_tiredBy_43 (by omega) (by decide) ?_
    refine lv_iload X.1 X.2.1 dX3_tiredBy_129 (lv_at hl 0 rfl) ?_
    refine lv_bipush (v := (-99)) X.1 X.2.1 dX3_tiredBy_131 (by decide) ?_
    refine lv_bipush (v := 99) X.1 X.2.1 dX3_tiredBy_133 (by decide) ?_
    obtain ⟨r59, h58, hf⟩ := b_bd1 hf
    refine r_callSN X hw (k_X7_bound hE  h58) (host := RX7) (by simp [lw_nest]) qw531 qw67 qw532 okX7_bound ⟨rfl, rfl⟩ ⟨(Nat.le_of_ble_eq_true rfl), (Nat.le_of_ble_eq_true rfl)⟩ ⟨Nat.zero_le _, Nat.zero_le _⟩ rfl hl.1 (rest := []) rfl (Nat.le_of_ble_eq_true rfl) dX3_tiredBy_135 (st1 := [.int r59]) rfl (fun H locs hw => ?_)
    obtain ⟨rfl, rfl⟩ := Prod.mk.inj (Option.some.inj hf)
    exact r_iret X hw dX3_tiredBy_138
abbrev rm_X3_many : Room := { frames := 0, cells := 0, slots := 0, locals := 0 }
set_option maxHeartbeats 4000000 in
set_option maxRecDepth 100000 in
theorem k_X3_many {l : Launch} {E : en_T} (hR : ShR E)  {σ : sg_T} {r : Int32} (hf : f_X3_many  σ = some r) : Ct l yX3_many cX3_many 1 (some .int) rm_X3_many E [.ref (eP E 6)] σ (some (.int r)) σ := by
  refine Ct.start (by decide) hR.1 (Nat.le_of_ble_eq_true rfl) ?_
  intro p e s m below meth c X hw ls hl
  have X : Cx E p s m _ meth c cX3_many 1 RX3 (some .int) := X
  have hl : lv_has ls 1 [(0, .ref (eP E 6))] := hl
  unfold f_X3_many at hf
  refine lv_aload_n X.1 X.2.1 dX3_many_0 rfl (lv_at hl 0 rfl) ?_
  refine r_get X hw (sp6 hR) (C := RX3) (T := TX3) (N := 4) rfl iwX3 3 (by decide) (Nat.le_of_ble_eq_true rfl) qw149 (v := .int (σ 6 3)) rfl dX3_many_1 ?_
  obtain rfl := Option.some.inj hf
  exact r_iret X hw dX3_many_4
abbrev rm_X3_mindsTired : Room := { frames := 2, cells := 0, slots := 0, locals := 122 }
set_option maxHeartbeats 4000000 in
set_option maxRecDepth 100000 in
theorem k_X3_mindsTired {l : Launch} {E : en_T} (hE : ShF E) {o1 : Nat} (ho1 : isP o1) {σ : sg_T} {r : Int32} (hf : f_X3_mindsTired o1 σ = some r) : Ct l yX3_mindsTired cX3_mindsTired 3 (some .boolean) rm_X3_mindsTired E [.ref (eP E 6), .ref (eP E o1)] σ (some (.int r)) σ := by
  refine Ct.start (by decide) hE.1 (Nat.le_of_ble_eq_true rfl) ?_
  intro p e s m below meth c X hw ls hl
  have X : Cx E p s m _ meth c cX3_mindsTired 3 RX3 (some .boolean) := X
  have hR : ShR E := hE.r
  have hl : lv_has ls 3 [(0, .ref (eP E 6)), (1, .ref (eP E o1))] := hl
  unfold f_X3_mindsTired at hf
  refine lv_aload_n X.1 X.2.1 dX3_mindsTired_0 rfl (lv_at hl 1 rfl) ?_
  obtain ⟨r2, h1, hf⟩ := b_bd1 hf
  refine r_callV X hw (k_X1_rule hE ho1 h1) (spP0 hE ho1) (C := RX1) (T := TX1) (N := 10) rfl qw507 qw508 qw509 qw76 qw510 okX1_rule ⟨rfl, rfl⟩ ⟨(Nat.le_of_ble_eq_true rfl), (Nat.le_of_ble_eq_true rfl)⟩ ⟨Nat.zero_le _, Nat.zero_le _⟩ rfl hl.1 (rest := []) rfl (Nat.le_of_ble_eq_true rfl) dX3_mindsTired_1 (st1 := [.int r2]) rfl (fun H locs hw => ?_)
  refine lv_istore_n (lv' := [(2, .int r2), (0, .ref (eP E 6)), (1, .ref (eP E o1))]) X.1 X.2.1 dX3_mindsTired_4 rfl hl (by decide) rfl (fun ls hl => ?_)
  refine lv_iload_n X.1 X.2.1 dX3_mindsTired_5 rfl (lv_at hl 0 rfl) ?_
  refine lv_if_lt (tgt := 47) X.1 X.2.1 dX3_mindsTired_6 (by decide) (fun c3 => ?_) (fun c3 => ?_)
  · have hf := if_t hf c3
    refine lv_iconst (v := 0) X.1 X.2.1 dX3_mindsTired_47 (by decide) ?_
    obtain rfl := Option.some.inj hf
    exact r_zret X hw (by decide) dX3_mindsTired_48
  · have hf := if_e hf c3
    refine lv_iload_n X.1 X.2.1 dX3_mindsTired_9 rfl (lv_at hl 0 rfl) ?_
    refine lv_aload_n X.1 X.2.1 dX3_mindsTired_10 rfl (lv_at hl 1 rfl) ?_
    refine r_get X hw (sp6 hR) (C := RX3) (T := TX3) (N := 4) rfl iwX3 3 (by decide) (Nat.le_of_ble_eq_true rfl) qw149 (v := .int (σ 6 3)) rfl dX3_mindsTired_11 ?_
    refine lv_icmp_ge (tgt := 47) X.1 X.2.1 dX3_mindsTired_14 (by decide) (fun c4 => ?_) (fun c4 => ?_)
    · have hf := if_t hf c4
      refine lv_iconst (v := 0) X.1 X.2.1 dX3_mindsTired_47 (by decide) ?_
      obtain rfl := Option.some.inj hf
      exact r_zret X hw (by decide) dX3_mindsTired_48
    · have hf := if_e hf c4
      refine lv_aload_n X.1 X.2.1 dX3_mindsTired_17 rfl (lv_at hl 1 rfl) ?_
      refine r_get X hw (sp6 hR) (C := RX3) (T := TX3) (N := 4) rfl iwX3 0 (by decide) (Nat.le_of_ble_eq_true rfl) qw146 (v := .ref (eP E 7)) rfl dX3_mindsTired_18 ?_
      refine lv_iload_n X.1 X.2.1 dX3_mindsTired_21 rfl (lv_at hl 0 rfl) ?_
      obtain ⟨h5, hf⟩ := b_ck hf
      refine r_aaldT X hw (sp7 hR) (q := (10 + 3 * r2.toNatClampNeg)) h5 (tqt h5) dX3_mindsTired_22 ?_
      refine lv_iconst (v := 0) X.1 X.2.1 dX3_mindsTired_23 (by decide) ?_
      obtain ⟨r7, h6, hf⟩ := b_bd1 hf
      refine r_callV X hw (k_X5_hasTired hR (isT_of h5) h6) (spT0 hR (isT_of h5)) (C := RX5) (T := TX5) (N := 3) rfl qw758 qw759 qw760 qw70 qw761 okX5_hasTired ⟨rfl, rfl⟩ ⟨(Nat.le_of_ble_eq_true rfl), (Nat.le_of_ble_eq_true rfl)⟩ ⟨Nat.zero_le _, Nat.zero_le _⟩ rfl hl.1 (rest := []) rfl (Nat.le_of_ble_eq_true rfl) dX3_mindsTired_24 (st1 := [.int r7]) rfl (fun H locs hw => ?_)
      refine lv_if_ne (tgt := 43) X.1 X.2.1 dX3_mindsTired_27 (by decide) (fun c8 => ?_) (fun c8 => ?_)
      · have hf := if_e hf c8
        refine lv_iconst (v := 1) X.1 X.2.1 dX3_mindsTired_43 (by decide) ?_
        refine lv_goto (tgt := 48) X.1 X.2.1 dX3_mindsTired_44 (by decide) ?_
        obtain rfl := Option.some.inj hf
        exact r_zret X hw (by decide) dX3_mindsTired_48
      · have hf := if_t hf c8
        refine lv_aload_n X.1 X.2.1 dX3_mindsTired_30 rfl (lv_at hl 1 rfl) ?_
        refine r_get X hw (sp6 hR) (C := RX3) (T := TX3) (N := 4) rfl iwX3 0 (by decide) (Nat.le_of_ble_eq_true rfl) qw146 (v := .ref (eP E 7)) rfl dX3_mindsTired_31 ?_
        refine lv_iload_n X.1 X.2.1 dX3_mindsTired_34 rfl (lv_at hl 0 rfl) ?_
        obtain ⟨h9, hf⟩ := b_ck hf
        refine r_aaldT X hw (sp7 hR) (q := (10 + 3 * r2.toNatClampNeg)) h9 (tqt h9) dX3_mindsTired_35 ?_
        refine lv_iconst (v := 2) X.1 X.2.1 dX3_mindsTired_36 (by decide) ?_
        obtain ⟨r11, h10, hf⟩ := b_bd1 hf
        refine r_callV X hw (k_X5_hasTired hR (isT_of h9) h10) (spT0 hR (isT_of h9)) (C := RX5) (T := TX5) (N := 3) rfl qw758 qw759 qw760 qw70 qw761 okX5_hasTired ⟨rfl, rfl⟩ ⟨(Nat.le_of_ble_eq_true rfl), (Nat.le_of_ble_eq_true rfl)⟩ ⟨Nat.zero_le _, Nat.zero_le _⟩ rfl hl.1 (rest := []) rfl (Nat.le_of_ble_eq_true rfl) dX3_mindsTired_37 (st1 := [.int r11]) rfl (fun H locs hw => ?_)
        obtain ⟨v13, e14, hf⟩ := b_bnd hf
        refine r_join (g2 := F0 m 48 ls [.int v13]) ?_ (fun hj => ?_)
        · obtain ⟨h15, hf⟩ := b_cz hf
          obtain rfl := Option.some.inj hf
          exact r_zret X hw (cz_and h15) dX3_mindsTired_48
        · refine lv_if_eq (tgt := 47) X.1 X.2.1 dX3_mindsTired_40 (by decide) (fun c12 => ?_) (fun c12 => ?_)
          · rw [e14, if_pos c12] at hj
            refine lv_iconst (v := 0) X.1 X.2.1 dX3_mindsTired_47 (by decide) ?_
            exact hj
          · rw [e14, if_neg c12] at hj
            refine lv_iconst (v := 1) X.1 X.2.1 dX3_mindsTired_43 (by decide) ?_
            refine lv_goto (tgt := 48) X.1 X.2.1 dX3_mindsTired_44 (by decide) ?_
            exact hj
