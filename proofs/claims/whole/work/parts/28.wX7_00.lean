abbrev rm_X7_set : Room := { frames := 3, cells := 0, slots := 0, locals := 145 }
set_option maxHeartbeats 4000000 in
set_option maxRecDepth 100000 in
theorem k_X7_set {l : Launch} {E : en_T} (hE : ShF E) {x1 : Int32} {x2 : Int32} {x3 : Int32} {σ : sg_T} {r : Int32} {σ' : sg_T} (hf : f_X7_set x1 x2 x3 σ = some (r, σ')) : Ct l yX7_set cX7_set 5 (some .int) rm_X7_set E [.ref (eP E 0), .int x1, .int x2, .int x3] σ (some (.int r)) σ' := by
  refine Ct.start (by decide) hE.1 (Nat.le_of_ble_eq_true rfl) ?_
  intro p e s m below meth c X hw ls hl
  have X : Cx E p s m _ meth c cX7_set 5 RX7 (some .int) := X
  have hR : ShR E := hE.r
  have hl : lv_has ls 5 [(0, .ref (eP E 0)), (1, .int x1), (2, .int x2), (3, .int x3)] := hl
  unfold f_X7_set at hf
  refine lv_iload_n X.1 X.2.1 dX7_set_0 rfl (lv_at hl 1 rfl) ?_
  refine lv_if_lt (tgt := 35) X.1 X.2.1 dX7_set_1 (by decide) (fun c1 => ?_) (fun c1 => ?_)
  · have hf := if_t hf c1
    refine lv_bipush (v := (-2)) X.1 X.2.1 dX7_set_35 (by decide) ?_
    obtain ⟨rfl, rfl⟩ := Prod.mk.inj (Option.some.inj hf)
    exact r_iret X hw dX7_set_37
  · have hf := if_e hf c1
    refine lv_iload_n X.1 X.2.1 dX7_set_4 rfl (lv_at hl 1 rfl) ?_
    refine lv_bipush (v := 6) X.1 X.2.1 dX7_set_5 (by decide) ?_
    refine lv_icmp_gt (tgt := 35) X.1 X.2.1 dX7_set_7 (by decide) (fun c2 => ?_) (fun c2 => ?_)
    · have hf := if_t hf c2
      refine lv_bipush (v := (-2)) X.1 X.2.1 dX7_set_35 (by decide) ?_
      obtain ⟨rfl, rfl⟩ := Prod.mk.inj (Option.some.inj hf)
      exact r_iret X hw dX7_set_37
    · have hf := if_e hf c2
      refine lv_aload_n X.1 X.2.1 dX7_set_10 rfl (lv_at hl 0 rfl) ?_
      refine r_get X hw (sp0 hE) (C := RX7) (T := TX7) (N := 9) rfl iwX7 3 (by decide) (Nat.le_of_ble_eq_true rfl) qw421 (v := .ref (eP E 34)) rfl dX7_set_11 ?_
      refine lv_iload_n X.1 X.2.1 dX7_set_14 rfl (lv_at hl 1 rfl) ?_
      refine lv_iload_n X.1 X.2.1 dX7_set_15 rfl (lv_at hl 2 rfl) ?_
      obtain ⟨r4, h3, hf⟩ := b_bd1 hf
      refine r_callV X hw (k_X1_hasPlace hE (Or.inl rfl) h3) (spP0 hE (Or.inl rfl)) (C := RX1) (T := TX1) (N := 10) rfl qw450 qw451 qw452 qw76 qw453 okX1_hasPlace ⟨rfl, rfl⟩ ⟨(Nat.le_of_ble_eq_true rfl), (Nat.le_of_ble_eq_true rfl)⟩ ⟨Nat.zero_le _, Nat.zero_le _⟩ rfl hl.1 (rest := []) rfl (Nat.le_of_ble_eq_true rfl) dX7_set_16 (st1 := [.int r4]) rfl (fun H locs hw => ?_)
      refine lv_if_eq (tgt := 35) X.1 X.2.1 dX7_set_19 (by decide) (fun c5 => ?_) (fun c5 => ?_)
      · have hf := if_t hf c5
        refine lv_bipush (v := (-2)) X.1 X.2.1 dX7_set_35 (by decide) ?_
        obtain ⟨rfl, rfl⟩ := Prod.mk.inj (Option.some.inj hf)
        exact r_iret X hw dX7_set_37
      · have hf := if_e hf c5
        refine lv_iload_n X.1 X.2.1 dX7_set_22 rfl (lv_at hl 3 rfl) ?_
        refine lv_if_lt (tgt := 35) X.1 X.2.1 dX7_set_23 (by decide) (fun c6 => ?_) (fun c6 => ?_)
        · have hf := if_t hf c6
          refine lv_bipush (v := (-2)) X.1 X.2.1 dX7_set_35 (by decide) ?_
          obtain ⟨rfl, rfl⟩ := Prod.mk.inj (Option.some.inj hf)
          exact r_iret X hw dX7_set_37
        · have hf := if_e hf c6
          refine lv_iload_n X.1 X.2.1 dX7_set_26 rfl (lv_at hl 3 rfl) ?_
          refine r_hi X hw qw458 dX7_set_27 ?_
          refine lv_iload_n X.1 X.2.1 dX7_set_30 rfl (lv_at hl 1 rfl) ?_
          obtain ⟨h7, hf⟩ := b_ck hf
          refine r_hild X hw h7 dX7_set_31 ?_
          refine lv_icmp_le (tgt := 38) X.1 X.2.1 dX7_set_32 (by decide) (fun c8 => ?_) (fun c8 => ?_)
          · have hf := if_t hf c8
            refine lv_aload_n X.1 X.2.1 dX7_set_38 rfl (lv_at hl 0 rfl) ?_
            refine r_get X hw (sp0 hE) (C := RX7) (T := TX7) (N := 9) rfl iwX7 3 (by decide) (Nat.le_of_ble_eq_true rfl) qw421 (v := .ref (eP E 34)) rfl dX7_set_39 ?_
            refine lv_iload_n X.1 X.2.1 dX7_set_42 rfl (lv_at hl 1 rfl) ?_
            refine lv_iload_n X.1 X.2.1 dX7_set_43 rfl (lv_at hl 2 rfl) ?_
            obtain ⟨r10, h9, hf⟩ := b_bd1 hf
            refine r_callV X hw (k_X1_get hE (Or.inl rfl) h9) (spP0 hE (Or.inl rfl)) (C := RX1) (T := TX1) (N := 10) rfl qw460 qw461 qw462 qw76 qw463 okX1_get ⟨rfl, rfl⟩ ⟨(Nat.le_of_ble_eq_true rfl), (Nat.le_of_ble_eq_true rfl)⟩ ⟨Nat.zero_le _, Nat.zero_le _⟩ rfl hl.1 (rest := []) rfl (Nat.le_of_ble_eq_true rfl) dX7_set_44 (st1 := [.int r10]) rfl (fun H locs hw => ?_)
            refine lv_istore (lv' := [(4, .int r10), (0, .ref (eP E 0)), (1, .int x1), (2, .int x2), (3, .int x3)]) X.1 X.2.1 dX7_set_47 hl (by decide) rfl (fun ls hl => ?_)
            refine lv_aload_n X.1 X.2.1 dX7_set_49 rfl (lv_at hl 1 rfl) ?_
            refine r_get X hw (sp0 hE) (C := RX7) (T := TX7) (N := 9) rfl iwX7 3 (by decide) (Nat.le_of_ble_eq_true rfl) qw421 (v := .ref (eP E 34)) rfl dX7_set_50 ?_
            refine lv_iload_n X.1 X.2.1 dX7_set_53 rfl (lv_at hl 2 rfl) ?_
            refine lv_iload_n X.1 X.2.1 dX7_set_54 rfl (lv_at hl 3 rfl) ?_
            refine lv_iload_n X.1 X.2.1 dX7_set_55 rfl (lv_at hl 4 rfl) ?_
            obtain ⟨σ12, h11, hf⟩ := b_bd1 hf
            refine r_callV X hw (k_X1_put hE (Or.inl rfl) h11) (spP0 hE (Or.inl rfl)) (C := RX1) (T := TX1) (N := 10) rfl qw472 qw473 qw474 qw76 qw475 okX1_put ⟨rfl, rfl⟩ ⟨(Nat.le_of_ble_eq_true rfl), (Nat.le_of_ble_eq_true rfl)⟩ ⟨Nat.zero_le _, Nat.zero_le _⟩ rfl hl.1 (rest := []) rfl (Nat.le_of_ble_eq_true rfl) dX7_set_56 (st1 := []) rfl (fun H locs hw => ?_)
            refine lv_iload X.1 X.2.1 dX7_set_59 (lv_at hl 0 rfl) ?_
            obtain ⟨rfl, rfl⟩ := Prod.mk.inj (Option.some.inj hf)
            exact r_iret X hw dX7_set_61
          · have hf := if_e hf c8
            refine lv_bipush (v := (-2)) X.1 X.2.1 dX7_set_35 (by decide) ?_
            obtain ⟨rfl, rfl⟩ := Prod.mk.inj (Option.some.inj hf)
            exact r_iret X hw dX7_set_37
abbrev rm_X7_person : Room := { frames := 1, cells := 0, slots := 0, locals := 100 }
set_option maxHeartbeats 4000000 in
set_option maxRecDepth 100000 in
theorem k_X7_person {l : Launch} {E : en_T} (hE : ShF E) {x1 : Int32} {x2 : Int32} {x3 : Int32} {σ : sg_T} {r : Int32} {σ' : sg_T} (hf : f_X7_person x1 x2 x3 σ = some (r, σ')) : Ct l yX7_person cX7_person 4 (some .int) rm_X7_person E [.ref (eP E 0), .int x1, .int x2, .int x3] σ (some (.int r)) σ' := by
  refine Ct.start (by decide) hE.1 (Nat.le_of_ble_eq_true rfl) ?_
  intro p e s m below meth c X hw ls hl
  have X : Cx E p s m _ meth c cX7_person 4 RX7 (some .int) := X
  have hR : ShR E := hE.r
  have hl : lv_has ls 4 [(0, .ref (eP E 0)), (1, .int x1), (2, .int x2), (3, .int x3)] := hl
  unfold f_X7_person at hf
  refine lv_aload_n X.1 X.2.1 dX7_person_0 rfl (lv_at hl 0 rfl) ?_
  refine r_get X hw (sp0 hE) (C := RX7) (T := TX7) (N := 9) rfl iwX7 3 (by decide) (Nat.le_of_ble_eq_true rfl) qw421 (v := .ref (eP E 34)) rfl dX7_person_1 ?_
  refine lv_iload_n X.1 X.2.1 dX7_person_4 rfl (lv_at hl 1 rfl) ?_
  refine lv_iload_n X.1 X.2.1 dX7_person_5 rfl (lv_at hl 2 rfl) ?_
  refine lv_iload_n X.1 X.2.1 dX7_person_6 rfl (lv_at hl 3 rfl) ?_
  obtain ⟨r2, σ3, h1, hf⟩ := b_bd2 hf
  refine r_callV X hw (k_X1_come hE (Or.inl rfl) h1) (spP0 hE (Or.inl rfl)) (C := RX1) (T := TX1) (N := 10) rfl qw480 qw481 qw482 qw76 qw483 okX1_come ⟨rfl, rfl⟩ ⟨(Nat.le_of_ble_eq_true rfl), (Nat.le_of_ble_eq_true rfl)⟩ ⟨Nat.zero_le _, Nat.zero_le _⟩ rfl hl.1 (rest := []) rfl (Nat.le_of_ble_eq_true rfl) dX7_person_7 (st1 := [.int r2]) rfl (fun H locs hw => ?_)
  obtain ⟨rfl, rfl⟩ := Prod.mk.inj (Option.some.inj hf)
  exact r_iret X hw dX7_person_10
abbrev rm_X7_told : Room := { frames := 7, cells := 0, slots := 0, locals := 222 }
set_option maxHeartbeats 4000000 in
set_option maxRecDepth 100000 in
theorem k_X7_told {l : Launch} {E : en_T} (hE : ShF E) {x1 : Int32} {x2 : Int32} {σ : sg_T} {r : Int32} {σ' : sg_T} (hf : f_X7_told x1 x2 σ = some (r, σ')) : Ct l yX7_told cX7_told 3 (some .int) rm_X7_told E [.ref (eP E 0), .int x1, .int x2] σ (some (.int r)) σ' := by
  refine Ct.start (by decide) hE.1 (Nat.le_of_ble_eq_true rfl) ?_
  intro p e s m below meth c X hw ls hl
  have X : Cx E p s m _ meth c cX7_told 3 RX7 (some .int) := X
  have hR : ShR E := hE.r
  have hl : lv_has ls 3 [(0, .ref (eP E 0)), (1, .int x1), (2, .int x2)] := hl
  unfold f_X7_told at hf
  refine lv_iload_n X.1 X.2.1 dX7_told_0 rfl (lv_at hl 2 rfl) ?_
  refine lv_if_lt (tgt := 38) X.1 X.2.1 dX7_told_1 (by decide) (fun c1 => ?_) (fun c1 => ?_)
  · have hf := if_t hf c1
    refine lv_aload_n X.1 X.2.1 dX7_told_38 rfl (lv_at hl 0 rfl) ?_
    refine r_get X hw (sp0 hE) (C := RX7) (T := TX7) (N := 9) rfl iwX7 3 (by decide) (Nat.le_of_ble_eq_true rfl) qw421 (v := .ref (eP E 34)) rfl dX7_told_39 ?_
    refine lv_iload_n X.1 X.2.1 dX7_told_42 rfl (lv_at hl 1 rfl) ?_
    obtain ⟨r3, h2, hf⟩ := b_bd1 hf
    refine r_callV X hw (k_X1_has hE (Or.inl rfl) h2) (spP0 hE (Or.inl rfl)) (C := RX1) (T := TX1) (N := 10) rfl qw489 qw455 qw456 qw76 qw457 okX1_has ⟨rfl, rfl⟩ ⟨(Nat.le_of_ble_eq_true rfl), (Nat.le_of_ble_eq_true rfl)⟩ ⟨Nat.zero_le _, Nat.zero_le _⟩ rfl hl.1 (rest := []) rfl (Nat.le_of_ble_eq_true rfl) dX7_told_43 (st1 := [.int r3]) rfl (fun H locs hw => ?_)
    refine lv_if_ne (tgt := 53) X.1 X.2.1 dX7_told_46 (by decide) (fun c4 => ?_) (fun c4 => ?_)
    · have hf := if_e hf c4
      refine lv_iload_n X.1 X.2.1 dX7_told_53 rfl (lv_at hl 2 rfl) ?_
      by_cases c5 : x2 = 8
      · have hf := if_t hf c5
        refine lv_tableIn (x := x2) (tgt := 84) (off := 30) X.1 X.2.1 dX7_told_54 (by rw [c5]; decide) (by rw [c5]; decide) (by rw [c5]; decide) (by decide) ?_
        refine lv_aload_n X.1 X.2.1 dX7_told_84 rfl (lv_at hl 0 rfl) ?_
        refine r_get X hw (sp0 hE) (C := RX7) (T := TX7) (N := 9) rfl iwX7 3 (by decide) (Nat.le_of_ble_eq_true rfl) qw421 (v := .ref (eP E 34)) rfl dX7_told_85 ?_
        refine lv_iload_n X.1 X.2.1 dX7_told_88 rfl (lv_at hl 1 rfl) ?_
        obtain ⟨r7, h6, hf⟩ := b_bd1 hf
        refine r_callV X hw (k_X1_setterOf hE (Or.inl rfl) h6) (spP0 hE (Or.inl rfl)) (C := RX1) (T := TX1) (N := 10) rfl qw490 qw491 qw492 qw76 qw493 okX1_setterOf ⟨rfl, rfl⟩ ⟨(Nat.le_of_ble_eq_true rfl), (Nat.le_of_ble_eq_true rfl)⟩ ⟨Nat.zero_le _, Nat.zero_le _⟩ rfl hl.1 (rest := []) rfl (Nat.le_of_ble_eq_true rfl) dX7_told_89 (st1 := [.int r7]) rfl (fun H locs hw => ?_)
        obtain ⟨rfl, rfl⟩ := Prod.mk.inj (Option.some.inj hf)
        exact r_iret X hw dX7_told_92
      have hf := if_e hf c5
      by_cases c8 : x2 = 9
      · have hf := if_t hf c8
        refine lv_tableIn (x := x2) (tgt := 93) (off := 39) X.1 X.2.1 dX7_told_54 (by rw [c8]; decide) (by rw [c8]; decide) (by rw [c8]; decide) (by decide) ?_
        refine lv_aload_n X.1 X.2.1 dX7_told_93 rfl (lv_at hl 0 rfl) ?_
        refine r_get X hw (sp0 hE) (C := RX7) (T := TX7) (N := 9) rfl iwX7 2 (by decide) (Nat.le_of_ble_eq_true rfl) qw420 (v := .ref (eP E 28)) rfl dX7_told_94 ?_
        refine lv_aload_n X.1 X.2.1 dX7_told_97 rfl (lv_at hl 0 rfl) ?_
        refine r_get X hw (sp0 hE) (C := RX7) (T := TX7) (N := 9) rfl iwX7 3 (by decide) (Nat.le_of_ble_eq_true rfl) qw421 (v := .ref (eP E 34)) rfl dX7_told_98 ?_
        refine lv_iload_n X.1 X.2.1 dX7_told_101 rfl (lv_at hl 1 rfl) ?_
        obtain ⟨r10, σ11, h9, hf⟩ := b_bd2 hf
        refine r_callV X hw (k_X0_wakes hE (Or.inl rfl) h9) (sp28 hE) (C := RX0) (T := TX0) (N := 6) rfl qw494 qw495 qw496 qw75 qw497 okX0_wakes ⟨rfl, rfl⟩ ⟨(Nat.le_of_ble_eq_true rfl), (Nat.le_of_ble_eq_true rfl)⟩ ⟨Nat.zero_le _, Nat.zero_le _⟩ rfl hl.1 (rest := []) rfl (Nat.le_of_ble_eq_true rfl) dX7_told_102 (st1 := [.int r10]) rfl (fun H locs hw => ?_)
        obtain ⟨rfl, rfl⟩ := Prod.mk.inj (Option.some.inj hf)
        exact r_iret X hw dX7_told_105
      have hf := if_e hf c8
      by_cases c12 : x2 = 10
      · have hf := if_t hf c12
        refine lv_tableIn (x := x2) (tgt := 106) (off := 52) X.1 X.2.1 dX7_told_54 (by rw [c12]; decide) (by rw [c12]; decide) (by rw [c12]; decide) (by decide) ?_
        refine lv_aload_n X.1 X.2.1 dX7_told_106 rfl (lv_at hl 0 rfl) ?_
        refine r_get X hw (sp0 hE) (C := RX7) (T := TX7) (N := 9) rfl iwX7 2 (by decide) (Nat.le_of_ble_eq_true rfl) qw420 (v := .ref (eP E 28)) rfl dX7_told_107 ?_
        refine lv_aload_n X.1 X.2.1 dX7_told_110 rfl (lv_at hl 0 rfl) ?_
        refine r_get X hw (sp0 hE) (C := RX7) (T := TX7) (N := 9) rfl iwX7 3 (by decide) (Nat.le_of_ble_eq_true rfl) qw421 (v := .ref (eP E 34)) rfl dX7_told_111 ?_
        refine lv_iload_n X.1 X.2.1 dX7_told_114 rfl (lv_at hl 1 rfl) ?_
        obtain ⟨r14, σ15, h13, hf⟩ := b_bd2 hf
        refine r_callV X hw (k_X0_lateBy hE (Or.inl rfl) h13) (sp28 hE) (C := RX0) (T := TX0) (N := 6) rfl qw545 qw546 qw547 qw75 qw548 okX0_lateBy ⟨rfl, rfl⟩ ⟨(Nat.le_of_ble_eq_true rfl), (Nat.le_of_ble_eq_true rfl)⟩ ⟨Nat.zero_le _, Nat.zero_le _⟩ rfl hl.1 (rest := []) rfl (Nat.le_of_ble_eq_true rfl) dX7_told_115 (st1 := [.int r14]) rfl (fun H locs hw => ?_)
        obtain ⟨rfl, rfl⟩ := Prod.mk.inj (Option.some.inj hf)
        exact r_iret X hw dX7_told_118
      have hf := if_e hf c12
      by_cases c16 : x2 = 11
      · have hf := if_t hf c16
        refine lv_tableIn (x := x2) (tgt := 119) (off := 65) X.1 X.2.1 dX7_told_54 (by rw [c16]; decide) (by rw [c16]; decide) (by rw [c16]; decide) (by decide) ?_
        refine lv_aload_n X.1 X.2.1 dX7_told_119 rfl (lv_at hl 0 rfl) ?_
        refine r_get X hw (sp0 hE) (C := RX7) (T := TX7) (N := 9) rfl iwX7 3 (by decide) (Nat.le_of_ble_eq_true rfl) qw421 (v := .ref (eP E 34)) rfl dX7_told_120 ?_
        refine lv_iload_n X.1 X.2.1 dX7_told_123 rfl (lv_at hl 1 rfl) ?_
        obtain ⟨r18, h17, hf⟩ := b_bd1 hf
        refine r_callV X hw (k_X1_whoseClocks hE (Or.inl rfl) h17) (spP0 hE (Or.inl rfl)) (C := RX1) (T := TX1) (N := 10) rfl qw552 qw553 qw554 qw76 qw555 okX1_whoseClocks ⟨rfl, rfl⟩ ⟨(Nat.le_of_ble_eq_true rfl), (Nat.le_of_ble_eq_true rfl)⟩ ⟨Nat.zero_le _, Nat.zero_le _⟩ rfl hl.1 (rest := []) rfl (Nat.le_of_ble_eq_true rfl) dX7_told_124 (st1 := [.int r18]) rfl (fun H locs hw => ?_)
        obtain ⟨rfl, rfl⟩ := Prod.mk.inj (Option.some.inj hf)
        exact r_iret X hw dX7_told_127
      have hf := if_e hf c16
      have c5t := lv_neT (a := 8) c5 (by decide)
      have c8t := lv_neT (a := 9) c8 (by decide)
      have c12t := lv_neT (a := 10) c12 (by decide)
      have c16t := lv_neT (a := 11) c16 (by decide)
      refine lv_tableOut (x := x2) (tgt := 128) X.1 X.2.1 dX7_told_54 (by omega) (by decide) ?_
      refine lv_sipush (v := (-1000)) X.1 X.2.1 dX7_told_128 (by decide) ?_
      obtain ⟨rfl, rfl⟩ := Prod.mk.inj (Option.some.inj hf)
      exact r_iret X hw dX7_told_131
    · have hf := if_t hf c4
      refine lv_sipush (v := (-1000)) X.1 X.2.1 dX7_told_49 (by decide) ?_
      obtain ⟨rfl, rfl⟩ := Prod.mk.inj (Option.some.inj hf)
      exact r_iret X hw dX7_told_52
  · have hf := if_e hf c1
    refine lv_iload_n X.1 X.2.1 dX7_told_4 rfl (lv_at hl 2 rfl) ?_
    refine lv_bipush (v := 7) X.1 X.2.1 dX7_told_5 (by decide) ?_
    refine lv_icmp_gt (tgt := 38) X.1 X.2.1 dX7_told_7 (by decide) (fun c19 => ?_) (fun c19 => ?_)
    · have hf := if_t hf c19
      refine lv_aload_n X.1 X.2.1 dX7_told_38 rfl (lv_at hl 0 rfl) ?_
      refine r_get X hw (sp0 hE) (C := RX7) (T := TX7) (N := 9) rfl iwX7 3 (by decide) (Nat.le_of_ble_eq_true rfl) qw421 (v := .ref (eP E 34)) rfl dX7_told_39 ?_
      refine lv_iload_n X.1 X.2.1 dX7_told_42 rfl (lv_at hl 1 rfl) ?_
      obtain ⟨r21, h20, hf⟩ := b_bd1 hf
      refine r_callV X hw (k_X1_has hE (Or.inl rfl) h20) (spP0 hE (Or.inl rfl)) (C := RX1) (T := TX1) (N := 10) rfl qw489 qw455 qw456 qw76 qw457 okX1_has ⟨rfl, rfl⟩ ⟨(Nat.le_of_ble_eq_true rfl), (Nat.le_of_ble_eq_true rfl)⟩ ⟨Nat.zero_le _, Nat.zero_le _⟩ rfl hl.1 (rest := []) rfl (Nat.le_of_ble_eq_true rfl) dX7_told_43 (st1 := [.int r21]) rfl (fun H locs hw => ?_)
      refine lv_if_ne (tgt := 53) X.1 X.2.1 dX7_told_46 (by decide) (fun c22 => ?_) (fun c22 => ?_)
      · have hf := if_e hf c22
        refine lv_iload_n X.1 X.2.1 dX7_told_53 rfl (lv_at hl 2 rfl) ?_
        by_cases c23 : x2 = 8
        · have hf := if_t hf c23
          refine lv_tableIn (x := x2) (tgt := 84) (off := 30) X.1 X.2.1 dX7_told_54 (by rw [c23]; decide) (by rw [c23]; decide) (by rw [c23]; decide) (by decide) ?_
          refine lv_aload_n X.1 X.2.1 dX7_told_84 rfl (lv_at hl 0 rfl) ?_
          refine r_get X hw (sp0 hE) (C := RX7) (T := TX7) (N := 9) rfl iwX7 3 (by decide) (Nat.le_of_ble_eq_true rfl) qw421 (v := .ref (eP E 34)) rfl dX7_told_85 ?_
          refine lv_iload_n X.1 X.2.1 dX7_told_88 rfl (lv_at hl 1 rfl) ?_
          obtain ⟨r25, h24, hf⟩ := b_bd1 hf
          refine r_callV X hw (k_X1_setterOf hE (Or.inl rfl) h24) (spP0 hE (Or.inl rfl)) (C := RX1) (T := TX1) (N := 10) rfl qw490 qw491 qw492 qw76 qw493 okX1_setterOf ⟨rfl, rfl⟩ ⟨(Nat.le_of_ble_eq_true rfl), (Nat.le_of_ble_eq_true rfl)⟩ ⟨Nat.zero_le _, Nat.zero_le _⟩ rfl hl.1 (rest := []) rfl (Nat.le_of_ble_eq_true rfl) dX7_told_89 (st1 := [.int r25]) rfl (fun H locs hw => ?_)
          obtain ⟨rfl, rfl⟩ := Prod.mk.inj (Option.some.inj hf)
          exact r_iret X hw dX7_told_92
        have hf := if_e hf c23
        by_cases c26 : x2 = 9
        · have hf := if_t hf c26
          refine lv_tableIn (x := x2) (tgt := 93) (off := 39) X.1 X.2.1 dX7_told_54 (by rw [c26]; decide) (by rw [c26]; decide) (by rw [c26]; decide) (by decide) ?_
          refine lv_aload_n X.1 X.2.1 dX7_told_93 rfl (lv_at hl 0 rfl) ?_
          refine r_get X hw (sp0 hE) (C := RX7) (T := TX7) (N := 9) rfl iwX7 2 (by decide) (Nat.le_of_ble_eq_true rfl) qw420 (v := .ref (eP E 28)) rfl dX7_told_94 ?_
          refine lv_aload_n X.1 X.2.1 dX7_told_97 rfl (lv_at hl 0 rfl) ?_
          refine r_get X hw (sp0 hE) (C := RX7) (T := TX7) (N := 9) rfl iwX7 3 (by decide) (Nat.le_of_ble_eq_true rfl) qw421 (v := .ref (eP E 34)) rfl dX7_told_98 ?_
          refine lv_iload_n X.1 X.2.1 dX7_told_101 rfl (lv_at hl 1 rfl) ?_
          obtain ⟨r28, σ29, h27, hf⟩ := b_bd2 hf
          refine r_callV X hw (k_X0_wakes hE (Or.inl rfl) h27) (sp28 hE) (C := RX0) (T := TX0) (N := 6) rfl qw494 qw495 qw496 qw75 qw497 okX0_wakes ⟨rfl, rfl⟩ ⟨(Nat.le_of_ble_eq_true rfl), (Nat.le_of_ble_eq_true rfl)⟩ ⟨Nat.zero_le _, Nat.zero_le _⟩ rfl hl.1 (rest := []) rfl (Nat.le_of_ble_eq_true rfl) dX7_told_102 (st1 := [.int r28]) rfl (fun H locs hw => ?_)
          obtain ⟨rfl, rfl⟩ := Prod.mk.inj (Option.some.inj hf)
          exact r_iret X hw dX7_told_105
        have hf := if_e hf c26
        by_cases c30 : x2 = 10
        · have hf := if_t hf c30
          refine lv_tableIn (x := x2) (tgt := 106) (off := 52) X.1 X.2.1 dX7_told_54 (by rw [c30]; decide) (by rw [c30]; decide) (by rw [c30]; decide) (by decide) ?_
          refine lv_aload_n X.1 X.2.1 dX7_told_106 rfl (lv_at hl 0 rfl) ?_
          refine r_get X hw (sp0 hE) (C := RX7) (T := TX7) (N := 9) rfl iwX7 2 (by decide) (Nat.le_of_ble_eq_true rfl) qw420 (v := .ref (eP E 28)) rfl dX7_told_107 ?_
          refine lv_aload_n X.1 X.2.1 dX7_told_110 rfl (lv_at hl 0 rfl) ?_
          refine r_get X hw (sp0 hE) (C := RX7) (T := TX7) (N := 9) rfl iwX7 3 (by decide) (Nat.le_of_ble_eq_true rfl) qw421 (v := .ref (eP E 34)) rfl dX7_told_111 ?_
          refine lv_iload_n X.1 X.2.1 dX7_told_114 rfl (lv_at hl 1 rfl) ?_
          obtain ⟨r32, σ33, h31, hf⟩ := b_bd2 hf
          refine r_callV X hw (k_X0_lateBy hE (Or.inl rfl) h31) (sp28 hE) (C := RX0) (T := TX0) (N := 6) rfl qw545 qw546 qw547 qw75 qw548 okX0_lateBy ⟨rfl, rfl⟩ ⟨(Nat.le_of_ble_eq_true rfl), (Nat.le_of_ble_eq_true rfl)⟩ ⟨Nat.zero_le _, Nat.zero_le _⟩ rfl hl.1 (rest := []) rfl (Nat.le_of_ble_eq_true rfl) dX7_told_115 (st1 := [.int r32]) rfl (fun H locs hw => ?_)
          obtain ⟨rfl, rfl⟩ := Prod.mk.inj (Option.some.inj hf)
          exact r_iret X hw dX7_told_118
        have hf := if_e hf c30
        by_cases c34 : x2 = 11
        · have hf := if_t hf c34
          refine lv_tableIn (x := x2) (tgt := 119) (off := 65) X.1 X.2.1 dX7_told_54 (by rw [c34]; decide) (by rw [c34]; decide) (by rw [c34]; decide) (by decide) ?_
          refine lv_aload_n X.1 X.2.1 dX7_told_119 rfl (lv_at hl 0 rfl) ?_
          refine r_get X hw (sp0 hE) (C := RX7) (T := TX7) (N := 9) rfl iwX7 3 (by decide) (Nat.le_of_ble_eq_true rfl) qw421 (v := .ref (eP E 34)) rfl dX7_told_120 ?_
          refine lv_iload_n X.1 X.2.1 dX7_told_123 rfl (lv_at hl 1 rfl) ?_
          obtain ⟨r36, h35, hf⟩ := b_bd1 hf
          refine r_callV X hw (k_X1_whoseClocks hE (Or.inl rfl) h35) (spP0 hE (Or.inl rfl)) (C := RX1) (T := TX1) (N := 10) rfl qw552 qw553 qw554 qw76 qw555 okX1_whoseClocks ⟨rfl, rfl⟩ ⟨(Nat.le_of_ble_eq_true rfl), (Nat.le_of_ble_eq_true rfl)⟩ ⟨Nat.zero_le _, Nat.zero_le _⟩ rfl hl.1 (rest := []) rfl (Nat.le_of_ble_eq_true rfl) dX7_told_124 (st1 := [.int r36]) rfl (fun H locs hw => ?_)
          obtain ⟨rfl, rfl⟩ := Prod.mk.inj (Option.some.inj hf)
          exact r_iret X hw dX7_told_127
        have hf := if_e hf c34
        have c23t := lv_neT (a := 8) c23 (by decide)
        have c26t := lv_neT (a := 9) c26 (by decide)
        have c30t := lv_neT (a := 10) c30 (by decide)
        have c34t := lv_neT (a := 11) c34 (by decide)
        refine lv_tableOut (x := x2) (tgt := 128) X.1 X.2.1 dX7_told_54 (by omega) (by decide) ?_
        refine lv_sipush (v := (-1000)) X.1 X.2.1 dX7_told_128 (by decide) ?_
        obtain ⟨rfl, rfl⟩ := Prod.mk.inj (Option.some.inj hf)
        exact r_iret X hw dX7_told_131
      · have hf := if_t hf c22
        refine lv_sipush (v := (-1000)) X.1 X.2.1 dX7_told_49 (by decide) ?_
        obtain ⟨rfl, rfl⟩ := Prod.mk.inj (Option.some.inj hf)
        exact r_iret X hw dX7_told_52
    · have hf := if_e hf c19
      refine lv_aload_n X.1 X.2.1 dX7_told_10 rfl (lv_at hl 0 rfl) ?_
      refine r_get X hw (sp0 hE) (C := RX7) (T := TX7) (N := 9) rfl iwX7 3 (by decide) (Nat.le_of_ble_eq_true rfl) qw421 (v := .ref (eP E 34)) rfl dX7_told_11 ?_
      refine lv_iload_n X.1 X.2.1 dX7_told_14 rfl (lv_at hl 2 rfl) ?_
      refine lv_iload_n X.1 X.2.1 dX7_told_15 rfl (lv_at hl 1 rfl) ?_
      obtain ⟨r38, h37, hf⟩ := b_bd1 hf
      refine r_callV X hw (k_X1_hasPlace hE (Or.inl rfl) h37) (spP0 hE (Or.inl rfl)) (C := RX1) (T := TX1) (N := 10) rfl qw450 qw451 qw452 qw76 qw453 okX1_hasPlace ⟨rfl, rfl⟩ ⟨(Nat.le_of_ble_eq_true rfl), (Nat.le_of_ble_eq_true rfl)⟩ ⟨Nat.zero_le _, Nat.zero_le _⟩ rfl hl.1 (rest := []) rfl (Nat.le_of_ble_eq_true rfl) dX7_told_16 (st1 := [.int r38]) rfl (fun H locs hw => ?_)
      refine lv_if_eq (tgt := 34) X.1 X.2.1 dX7_told_19 (by decide) (fun c39 => ?_) (fun c39 => ?_)
      · have hf := if_t hf c39
        refine lv_sipush (v := (-1000)) X.1 X.2.1 dX7_told_34 (by decide) ?_
        obtain ⟨rfl, rfl⟩ := Prod.mk.inj (Option.some.inj hf)
        exact r_iret X hw dX7_told_37
      · have hf := if_e hf c39
        refine lv_aload_n X.1 X.2.1 dX7_told_22 rfl (lv_at hl 0 rfl) ?_
        refine r_get X hw (sp0 hE) (C := RX7) (T := TX7) (N := 9) rfl iwX7 3 (by decide) (Nat.le_of_ble_eq_true rfl) qw421 (v := .ref (eP E 34)) rfl dX7_told_23 ?_
        refine lv_iload_n X.1 X.2.1 dX7_told_26 rfl (lv_at hl 2 rfl) ?_
        refine lv_iload_n X.1 X.2.1 dX7_told_27 rfl (lv_at hl 1 rfl) ?_
        obtain ⟨r41, h40, hf⟩ := b_bd1 hf
        refine r_callV X hw (k_X1_get hE (Or.inl rfl) h40) (spP0 hE (Or.inl rfl)) (C := RX1) (T := TX1) (N := 10) rfl qw460 qw461 qw462 qw76 qw463 okX1_get ⟨rfl, rfl⟩ ⟨(Nat.le_of_ble_eq_true rfl), (Nat.le_of_ble_eq_true rfl)⟩ ⟨Nat.zero_le _, Nat.zero_le _⟩ rfl hl.1 (rest := []) rfl (Nat.le_of_ble_eq_true rfl) dX7_told_28 (st1 := [.int r41]) rfl (fun H locs hw => ?_)
        refine lv_goto (tgt := 37) X.1 X.2.1 dX7_told_31 (by decide) ?_
        obtain ⟨rfl, rfl⟩ := Prod.mk.inj (Option.some.inj hf)
        exact r_iret X hw dX7_told_37
abbrev rm_X7_asks : Room := { frames := 5, cells := 0, slots := 0, locals := 178 }
set_option maxHeartbeats 4000000 in
set_option maxRecDepth 100000 in
theorem k_X7_asks {l : Launch} {E : en_T} (hE : ShF E) {x1 : Int32} {x2 : Int32} {x3 : Int32} {σ : sg_T} {r : Int32} {σ' : sg_T} (hf : f_X7_asks x1 x2 x3 σ = some (r, σ')) : Ct l yX7_asks cX7_asks 4 (some .int) rm_X7_asks E [.ref (eP E 0), .int x1, .int x2, .int x3] σ (some (.int r)) σ' := by
  refine Ct.start (by decide) hE.1 (Nat.le_of_ble_eq_true rfl) ?_
  intro p e s m below meth c X hw ls hl
  have X : Cx E p s m _ meth c cX7_asks 4 RX7 (some .int) := X
  have hR : ShR E := hE.r
  have hl : lv_has ls 4 [(0, .ref (eP E 0)), (1, .int x1), (2, .int x2), (3, .int x3)] := hl
  unfold f_X7_asks at hf
  refine lv_aload_n X.1 X.2.1 dX7_asks_0 rfl (lv_at hl 0 rfl) ?_
  refine r_get X hw (sp0 hE) (C := RX7) (T := TX7) (N := 9) rfl iwX7 3 (by decide) (Nat.le_of_ble_eq_true rfl) qw421 (v := .ref (eP E 34)) rfl dX7_asks_1 ?_
  refine lv_iload_n X.1 X.2.1 dX7_asks_4 rfl (lv_at hl 1 rfl) ?_
  refine lv_iload_n X.1 X.2.1 dX7_asks_5 rfl (lv_at hl 2 rfl) ?_
  obtain ⟨r2, h1, hf⟩ := b_bd1 hf
  refine r_callV X hw (k_X1_hasTwo hE (Or.inl rfl) h1) (spP0 hE (Or.inl rfl)) (C := RX1) (T := TX1) (N := 10) rfl qw561 qw562 qw563 qw76 qw564 okX1_hasTwo ⟨rfl, rfl⟩ ⟨(Nat.le_of_ble_eq_true rfl), (Nat.le_of_ble_eq_true rfl)⟩ ⟨Nat.zero_le _, Nat.zero_le _⟩ rfl hl.1 (rest := []) rfl (Nat.le_of_ble_eq_true rfl) dX7_asks_6 (st1 := [.int r2]) rfl (fun H locs hw => ?_)
  refine lv_if_ne (tgt := 16) X.1 X.2.1 dX7_asks_9 (by decide) (fun c3 => ?_) (fun c3 => ?_)
  · have hf := if_e hf c3
    refine lv_iload_n X.1 X.2.1 dX7_asks_16 rfl (lv_at hl 3 rfl) ?_
    by_cases c4 : x3 = 0
    · have hf := if_t hf c4
      refine lv_tableIn (x := x3) (tgt := 44) (off := 27) X.1 X.2.1 dX7_asks_17 (by rw [c4]; decide) (by rw [c4]; decide) (by rw [c4]; decide) (by decide) ?_
      refine lv_aload_n X.1 X.2.1 dX7_asks_44 rfl (lv_at hl 0 rfl) ?_
      refine r_get X hw (sp0 hE) (C := RX7) (T := TX7) (N := 9) rfl iwX7 0 (by decide) (Nat.le_of_ble_eq_true rfl) qw418 (v := .ref (eP E 6)) rfl dX7_asks_45 ?_
      refine lv_aload_n X.1 X.2.1 dX7_asks_48 rfl (lv_at hl 0 rfl) ?_
      refine r_get X hw (sp0 hE) (C := RX7) (T := TX7) (N := 9) rfl iwX7 3 (by decide) (Nat.le_of_ble_eq_true rfl) qw421 (v := .ref (eP E 34)) rfl dX7_asks_49 ?_
      refine lv_iload_n X.1 X.2.1 dX7_asks_52 rfl (lv_at hl 1 rfl) ?_
      refine lv_iload_n X.1 X.2.1 dX7_asks_53 rfl (lv_at hl 2 rfl) ?_
      obtain ⟨r6, σ7, h5, hf⟩ := b_bd2 hf
      refine r_callV X hw (k_X3_hourSet hE (Or.inl rfl) h5) (sp6 hR) (C := RX3) (T := TX3) (N := 4) rfl qw565 qw500 qw501 qw69 qw502 okX3_hourSet ⟨rfl, rfl⟩ ⟨(Nat.le_of_ble_eq_true rfl), (Nat.le_of_ble_eq_true rfl)⟩ ⟨Nat.zero_le _, Nat.zero_le _⟩ rfl hl.1 (rest := []) rfl (Nat.le_of_ble_eq_true rfl) dX7_asks_54 (st1 := [.int r6]) rfl (fun H locs hw => ?_)
      obtain ⟨rfl, rfl⟩ := Prod.mk.inj (Option.some.inj hf)
      exact r_iret X hw dX7_asks_57
    have hf := if_e hf c4
    by_cases c8 : x3 = 1
    · have hf := if_t hf c8
      refine lv_tableIn (x := x3) (tgt := 58) (off := 41) X.1 X.2.1 dX7_asks_17 (by rw [c8]; decide) (by rw [c8]; decide) (by rw [c8]; decide) (by decide) ?_
      refine lv_aload_n X.1 X.2.1 dX7_asks_58 rfl (lv_at hl 0 rfl) ?_
      refine r_get X hw (sp0 hE) (C := RX7) (T := TX7) (N := 9) rfl iwX7 0 (by decide) (Nat.le_of_ble_eq_true rfl) qw418 (v := .ref (eP E 6)) rfl dX7_asks_59 ?_
      refine lv_aload_n X.1 X.2.1 dX7_asks_62 rfl (lv_at hl 0 rfl) ?_
      refine r_get X hw (sp0 hE) (C := RX7) (T := TX7) (N := 9) rfl iwX7 3 (by decide) (Nat.le_of_ble_eq_true rfl) qw421 (v := .ref (eP E 34)) rfl dX7_asks_63 ?_
      refine lv_iload_n X.1 X.2.1 dX7_asks_66 rfl (lv_at hl 1 rfl) ?_
      refine lv_iload_n X.1 X.2.1 dX7_asks_67 rfl (lv_at hl 2 rfl) ?_
      refine lv_iconst (v := 1) X.1 X.2.1 dX7_asks_68 (by decide) ?_
      obtain ⟨r10, σ11, h9, hf⟩ := b_bd2 hf
      refine r_callV X hw (k_X3_fonderBy hE (Or.inl rfl) h9) (sp6 hR) (C := RX3) (T := TX3) (N := 4) rfl qw566 qw567 qw568 qw69 qw569 okX3_fonderBy ⟨rfl, rfl⟩ ⟨(Nat.le_of_ble_eq_true rfl), (Nat.le_of_ble_eq_true rfl)⟩ ⟨Nat.zero_le _, Nat.zero_le _⟩ rfl hl.1 (rest := []) rfl (Nat.le_of_ble_eq_true rfl) dX7_asks_69 (st1 := [.int r10]) rfl (fun H locs hw => ?_)
      obtain ⟨rfl, rfl⟩ := Prod.mk.inj (Option.some.inj hf)
      exact r_iret X hw dX7_asks_72
    have hf := if_e hf c8
    by_cases c12 : x3 = 2
    · have hf := if_t hf c12
      refine lv_tableIn (x := x3) (tgt := 73) (off := 56) X.1 X.2.1 dX7_asks_17 (by rw [c12]; decide) (by rw [c12]; decide) (by rw [c12]; decide) (by decide) ?_
      refine lv_aload_n X.1 X.2.1 dX7_asks_73 rfl (lv_at hl 0 rfl) ?_
      refine r_get X hw (sp0 hE) (C := RX7) (T := TX7) (N := 9) rfl iwX7 0 (by decide) (Nat.le_of_ble_eq_true rfl) qw418 (v := .ref (eP E 6)) rfl dX7_asks_74 ?_
      refine lv_aload_n X.1 X.2.1 dX7_asks_77 rfl (lv_at hl 0 rfl) ?_
      refine r_get X hw (sp0 hE) (C := RX7) (T := TX7) (N := 9) rfl iwX7 3 (by decide) (Nat.le_of_ble_eq_true rfl) qw421 (v := .ref (eP E 34)) rfl dX7_asks_78 ?_
      refine lv_iload_n X.1 X.2.1 dX7_asks_81 rfl (lv_at hl 1 rfl) ?_
      refine lv_iload_n X.1 X.2.1 dX7_asks_82 rfl (lv_at hl 2 rfl) ?_
      refine lv_iconst (v := 0) X.1 X.2.1 dX7_asks_83 (by decide) ?_
      obtain ⟨r14, σ15, h13, hf⟩ := b_bd2 hf
      refine r_callV X hw (k_X3_fonderBy hE (Or.inl rfl) h13) (sp6 hR) (C := RX3) (T := TX3) (N := 4) rfl qw566 qw567 qw568 qw69 qw569 okX3_fonderBy ⟨rfl, rfl⟩ ⟨(Nat.le_of_ble_eq_true rfl), (Nat.le_of_ble_eq_true rfl)⟩ ⟨Nat.zero_le _, Nat.zero_le _⟩ rfl hl.1 (rest := []) rfl (Nat.le_of_ble_eq_true rfl) dX7_asks_84 (st1 := [.int r14]) rfl (fun H locs hw => ?_)
      obtain ⟨rfl, rfl⟩ := Prod.mk.inj (Option.some.inj hf)
      exact r_iret X hw dX7_asks_87
    have hf := if_e hf c12
    have c4t := lv_neT (a := 0) c4 (by decide)
    have c8t := lv_neT (a := 1) c8 (by decide)
    have c12t := lv_neT (a := 2) c12 (by decide)
    refine lv_tableOut (x := x3) (tgt := 88) X.1 X.2.1 dX7_asks_17 (by omega) (by decide) ?_
    refine lv_sipush (v := (-1000)) X.1 X.2.1 dX7_asks_88 (by decide) ?_
    obtain ⟨rfl, rfl⟩ := Prod.mk.inj (Option.some.inj hf)
    exact r_iret X hw dX7_asks_91
  · have hf := if_t hf c3
    refine lv_sipush (v := (-1000)) X.1 X.2.1 dX7_asks_12 (by decide) ?_
    obtain ⟨rfl, rfl⟩ := Prod.mk.inj (Option.some.inj hf)
    exact r_iret X hw dX7_asks_15
abbrev rm_X7_woken : Room := { frames := 5, cells := 0, slots := 0, locals := 178 }
set_option maxHeartbeats 4000000 in
set_option maxRecDepth 100000 in
theorem k_X7_woken {l : Launch} {E : en_T} (hE : ShF E) {x1 : Int32} {x2 : Int32} {σ : sg_T} {r : Int32} {σ' : sg_T} (hf : f_X7_woken x1 x2 σ = some (r, σ')) : Ct l yX7_woken cX7_woken 3 (some .int) rm_X7_woken E [.ref (eP E 0), .int x1, .int x2] σ (some (.int r)) σ' := by
  refine Ct.start (by decide) hE.1 (Nat.le_of_ble_eq_true rfl) ?_
  intro p e s m below meth c X hw ls hl
  have X : Cx E p s m _ meth c cX7_woken 3 RX7 (some .int) := X
  have hR : ShR E := hE.r
  have hl : lv_has ls 3 [(0, .ref (eP E 0)), (1, .int x1), (2, .int x2)] := hl
  unfold f_X7_woken at hf
  refine lv_aload_n X.1 X.2.1 dX7_woken_0 rfl (lv_at hl 0 rfl) ?_
  refine r_get X hw (sp0 hE) (C := RX7) (T := TX7) (N := 9) rfl iwX7 3 (by decide) (Nat.le_of_ble_eq_true rfl) qw421 (v := .ref (eP E 34)) rfl dX7_woken_1 ?_
  refine lv_iload_n X.1 X.2.1 dX7_woken_4 rfl (lv_at hl 1 rfl) ?_
  obtain ⟨r2, h1, hf⟩ := b_bd1 hf
  refine r_callV X hw (k_X1_has hE (Or.inl rfl) h1) (spP0 hE (Or.inl rfl)) (C := RX1) (T := TX1) (N := 10) rfl qw489 qw455 qw456 qw76 qw457 okX1_has ⟨rfl, rfl⟩ ⟨(Nat.le_of_ble_eq_true rfl), (Nat.le_of_ble_eq_true rfl)⟩ ⟨Nat.zero_le _, Nat.zero_le _⟩ rfl hl.1 (rest := []) rfl (Nat.le_of_ble_eq_true rfl) dX7_woken_5 (st1 := [.int r2]) rfl (fun H locs hw => ?_)
  refine lv_if_eq (tgt := 21) X.1 X.2.1 dX7_woken_8 (by decide) (fun c3 => ?_) (fun c3 => ?_)
  · have hf := if_t hf c3
    refine lv_sipush (v := (-1000)) X.1 X.2.1 dX7_woken_21 (by decide) ?_
    obtain ⟨rfl, rfl⟩ := Prod.mk.inj (Option.some.inj hf)
    exact r_iret X hw dX7_woken_24
  · have hf := if_e hf c3
    refine lv_iload_n X.1 X.2.1 dX7_woken_11 rfl (lv_at hl 2 rfl) ?_
    refine lv_if_lt (tgt := 21) X.1 X.2.1 dX7_woken_12 (by decide) (fun c4 => ?_) (fun c4 => ?_)
    · have hf := if_t hf c4
      refine lv_sipush (v := (-1000)) X.1 X.2.1 dX7_woken_21 (by decide) ?_
      obtain ⟨rfl, rfl⟩ := Prod.mk.inj (Option.some.inj hf)
      exact r_iret X hw dX7_woken_24
    · have hf := if_e hf c4
      refine lv_iload_n X.1 X.2.1 dX7_woken_15 rfl (lv_at hl 2 rfl) ?_
      refine lv_bipush (v := 24) X.1 X.2.1 dX7_woken_16 (by decide) ?_
      refine lv_icmp_lt (tgt := 25) X.1 X.2.1 dX7_woken_18 (by decide) (fun c5 => ?_) (fun c5 => ?_)
      · have hf := if_t hf c5
        refine lv_aload_n X.1 X.2.1 dX7_woken_25 rfl (lv_at hl 0 rfl) ?_
        refine r_get X hw (sp0 hE) (C := RX7) (T := TX7) (N := 9) rfl iwX7 0 (by decide) (Nat.le_of_ble_eq_true rfl) qw418 (v := .ref (eP E 6)) rfl dX7_woken_26 ?_
        refine lv_aload_n X.1 X.2.1 dX7_woken_29 rfl (lv_at hl 0 rfl) ?_
        refine r_get X hw (sp0 hE) (C := RX7) (T := TX7) (N := 9) rfl iwX7 3 (by decide) (Nat.le_of_ble_eq_true rfl) qw421 (v := .ref (eP E 34)) rfl dX7_woken_30 ?_
        refine lv_iload_n X.1 X.2.1 dX7_woken_33 rfl (lv_at hl 1 rfl) ?_
        refine lv_iload_n X.1 X.2.1 dX7_woken_34 rfl (lv_at hl 2 rfl) ?_
        obtain ⟨r7, σ8, h6, hf⟩ := b_bd2 hf
        refine r_callV X hw (k_X3_tiredBy hE (Or.inl rfl) h6) (sp6 hR) (C := RX3) (T := TX3) (N := 4) rfl qw574 qw575 qw576 qw69 qw577 okX3_tiredBy ⟨rfl, rfl⟩ ⟨(Nat.le_of_ble_eq_true rfl), (Nat.le_of_ble_eq_true rfl)⟩ ⟨Nat.zero_le _, Nat.zero_le _⟩ rfl hl.1 (rest := []) rfl (Nat.le_of_ble_eq_true rfl) dX7_woken_35 (st1 := [.int r7]) rfl (fun H locs hw => ?_)
        obtain ⟨rfl, rfl⟩ := Prod.mk.inj (Option.some.inj hf)
        exact r_iret X hw dX7_woken_38
      · have hf := if_e hf c5
        refine lv_sipush (v := (-1000)) X.1 X.2.1 dX7_woken_21 (by decide) ?_
        obtain ⟨rfl, rfl⟩ := Prod.mk.inj (Option.some.inj hf)
        exact r_iret X hw dX7_woken_24
abbrev rm_X7_feed : Room := { frames := 1, cells := 0, slots := 0, locals := 100 }
set_option maxHeartbeats 4000000 in
set_option maxRecDepth 100000 in
theorem k_X7_feed {l : Launch} {E : en_T} (hE : ShF E) {x1 : Int32} {σ : sg_T} {r : Int32} {σ' : sg_T} (hf : f_X7_feed x1 σ = some (r, σ')) : Ct l yX7_feed cX7_feed 2 (some .int) rm_X7_feed E [.ref (eP E 0), .int x1] σ (some (.int r)) σ' := by
  refine Ct.start (by decide) hE.1 (Nat.le_of_ble_eq_true rfl) ?_
  intro p e s m below meth c X hw ls hl
  have X : Cx E p s m _ meth c cX7_feed 2 RX7 (some .int) := X
  have hR : ShR E := hE.r
  have hl : lv_has ls 2 [(0, .ref (eP E 0)), (1, .int x1)] := hl
  unfold f_X7_feed at hf
  refine lv_iload_n X.1 X.2.1 dX7_feed_0 rfl (lv_at hl 1 rfl) ?_
  refine lv_if_lt (tgt := 11) X.1 X.2.1 dX7_feed_1 (by decide) (fun c1 => ?_) (fun c1 => ?_)
  · have hf := if_t hf c1
    refine lv_bipush (v := (-2)) X.1 X.2.1 dX7_feed_11 (by decide) ?_
    obtain ⟨rfl, rfl⟩ := Prod.mk.inj (Option.some.inj hf)
    exact r_iret X hw dX7_feed_13
  · have hf := if_e hf c1
    refine lv_iload_n X.1 X.2.1 dX7_feed_4 rfl (lv_at hl 1 rfl) ?_
    refine lv_sipush (v := 255) X.1 X.2.1 dX7_feed_5 (by decide) ?_
    refine lv_icmp_le (tgt := 14) X.1 X.2.1 dX7_feed_8 (by decide) (fun c2 => ?_) (fun c2 => ?_)
    · have hf := if_t hf c2
      refine lv_aload_n X.1 X.2.1 dX7_feed_14 rfl (lv_at hl 0 rfl) ?_
      refine r_get X hw (sp0 hE) (C := RX7) (T := TX7) (N := 9) rfl iwX7 1 (by decide) (Nat.le_of_ble_eq_true rfl) qw419 (v := .ref (eP E 1)) rfl dX7_feed_15 ?_
      refine lv_iload_n X.1 X.2.1 dX7_feed_18 rfl (lv_at hl 1 rfl) ?_
      obtain ⟨r4, σ5, h3, hf⟩ := b_bd2 hf
      refine r_callV X hw (k_X2_add hR  h3) (sp1 hR) (C := RX2) (T := TX2) (N := 8) rfl qw582 qw213 qw214 qw68 qw215 okX2_add ⟨rfl, rfl⟩ ⟨(Nat.le_of_ble_eq_true rfl), (Nat.le_of_ble_eq_true rfl)⟩ ⟨Nat.zero_le _, Nat.zero_le _⟩ rfl hl.1 (rest := []) rfl (Nat.le_of_ble_eq_true rfl) dX7_feed_19 (st1 := [.int r4]) rfl (fun H locs hw => ?_)
      refine lv_if_eq (tgt := 35) X.1 X.2.1 dX7_feed_22 (by decide) (fun c6 => ?_) (fun c6 => ?_)
      · have hf := if_t hf c6
        refine lv_bipush (v := (-4)) X.1 X.2.1 dX7_feed_35 (by decide) ?_
        obtain ⟨rfl, rfl⟩ := Prod.mk.inj (Option.some.inj hf)
        exact r_iret X hw dX7_feed_37
      · have hf := if_e hf c6
        refine lv_aload_n X.1 X.2.1 dX7_feed_25 rfl (lv_at hl 0 rfl) ?_
        refine r_get X hw (sp0 hE) (C := RX7) (T := TX7) (N := 9) rfl iwX7 1 (by decide) (Nat.le_of_ble_eq_true rfl) qw419 (v := .ref (eP E 1)) rfl dX7_feed_26 ?_
        obtain ⟨r8, h7, hf⟩ := b_bd1 hf
        refine r_callV X hw (k_X2_size hR  h7) (sp1 hR) (C := RX2) (T := TX2) (N := 8) rfl qw583 qw584 qw585 qw68 qw586 okX2_size ⟨rfl, rfl⟩ ⟨(Nat.le_of_ble_eq_true rfl), (Nat.le_of_ble_eq_true rfl)⟩ ⟨Nat.zero_le _, Nat.zero_le _⟩ rfl hl.1 (rest := []) rfl (Nat.le_of_ble_eq_true rfl) dX7_feed_29 (st1 := [.int r8]) rfl (fun H locs hw => ?_)
        refine lv_goto (tgt := 37) X.1 X.2.1 dX7_feed_32 (by decide) ?_
        obtain ⟨rfl, rfl⟩ := Prod.mk.inj (Option.some.inj hf)
        exact r_iret X hw dX7_feed_37
    · have hf := if_e hf c2
      refine lv_bipush (v := (-2)) X.1 X.2.1 dX7_feed_11 (by decide) ?_
      obtain ⟨rfl, rfl⟩ := Prod.mk.inj (Option.some.inj hf)
      exact r_iret X hw dX7_feed_13
abbrev rm_X7_text : Room := { frames := 108, cells := 0, slots := 0, locals := 7929 }
set_option maxHeartbeats 4000000 in
set_option maxRecDepth 100000 in
theorem k_X7_text {l : Launch} {E : en_T} (hE : ShF E)  {σ : sg_T} {r : Int32} {σ' : sg_T} (hf : f_X7_text  σ = some (r, σ')) : Ct l yX7_text cX7_text 1 (some .int) rm_X7_text E [.ref (eP E 0)] σ (some (.int r)) σ' := by
  refine Ct.start (by decide) hE.1 (Nat.le_of_ble_eq_true rfl) ?_
  intro p e s m below meth c X hw ls hl
  have X : Cx E p s m _ meth c cX7_text 1 RX7 (some .int) := X
  have hR : ShR E := hE.r
  have hl : lv_has ls 1 [(0, .ref (eP E 0))] := hl
  unfold f_X7_text at hf
  refine lv_aload_n X.1 X.2.1 dX7_text_0 rfl (lv_at hl 0 rfl) ?_
  refine r_get X hw (sp0 hE) (C := RX7) (T := TX7) (N := 9) rfl iwX7 0 (by decide) (Nat.le_of_ble_eq_true rfl) qw418 (v := .ref (eP E 6)) rfl dX7_text_1 ?_
  refine lv_aload_n X.1 X.2.1 dX7_text_4 rfl (lv_at hl 0 rfl) ?_
  refine r_get X hw (sp0 hE) (C := RX7) (T := TX7) (N := 9) rfl iwX7 1 (by decide) (Nat.le_of_ble_eq_true rfl) qw419 (v := .ref (eP E 1)) rfl dX7_text_5 ?_
  obtain ⟨r2, σ3, h1, hf⟩ := b_bd2 hf
  refine r_callV X hw (k_X3_take hR  h1) (sp6 hR) (C := RX3) (T := TX3) (N := 4) rfl qw216 qw217 qw218 qw69 qw219 okX3_take ⟨rfl, rfl⟩ ⟨(Nat.le_of_ble_eq_true rfl), (Nat.le_of_ble_eq_true rfl)⟩ ⟨Nat.zero_le _, Nat.zero_le _⟩ rfl hl.1 (rest := []) rfl (Nat.le_of_ble_eq_true rfl) dX7_text_8 (st1 := [.int r2]) rfl (fun H locs hw => ?_)
  obtain ⟨rfl, rfl⟩ := Prod.mk.inj (Option.some.inj hf)
  exact r_iret X hw dX7_text_11
abbrev rm_X7_force : Room := { frames := 3, cells := 0, slots := 0, locals := 145 }
set_option maxHeartbeats 4000000 in
set_option maxRecDepth 100000 in
theorem k_X7_force {l : Launch} {E : en_T} (hE : ShF E) {x1 : Int32} {σ : sg_T} {r : Int32} {σ' : sg_T} (hf : f_X7_force x1 σ = some (r, σ')) : Ct l yX7_force cX7_force 3 (some .int) rm_X7_force E [.ref (eP E 0), .int x1] σ (some (.int r)) σ' := by
  refine Ct.start (by decide) hE.1 (Nat.le_of_ble_eq_true rfl) ?_
  intro p e s m below meth c X hw ls hl
  have X : Cx E p s m _ meth c cX7_force 3 RX7 (some .int) := X
  have hR : ShR E := hE.r
  have hl : lv_has ls 3 [(0, .ref (eP E 0)), (1, .int x1)] := hl
  unfold f_X7_force at hf
  refine lv_iload_n X.1 X.2.1 dX7_force_0 rfl (lv_at hl 1 rfl) ?_
  refine lv_if_lt (tgt := 15) X.1 X.2.1 dX7_force_1 (by decide) (fun c1 => ?_) (fun c1 => ?_)
  · have hf := if_t hf c1
    refine lv_bipush (v := (-2)) X.1 X.2.1 dX7_force_15 (by decide) ?_
    obtain ⟨rfl, rfl⟩ := Prod.mk.inj (Option.some.inj hf)
    exact r_iret X hw dX7_force_17
  · have hf := if_e hf c1
    refine lv_iload_n X.1 X.2.1 dX7_force_4 rfl (lv_at hl 1 rfl) ?_
    refine lv_aload_n X.1 X.2.1 dX7_force_5 rfl (lv_at hl 0 rfl) ?_
    refine r_get X hw (sp0 hE) (C := RX7) (T := TX7) (N := 9) rfl iwX7 0 (by decide) (Nat.le_of_ble_eq_true rfl) qw418 (v := .ref (eP E 6)) rfl dX7_force_6 ?_
    obtain ⟨r3, h2, hf⟩ := b_bd1 hf
    refine r_callV X hw (k_X3_many hR  h2) (sp6 hR) (C := RX3) (T := TX3) (N := 4) rfl qw595 qw596 qw597 qw69 qw598 okX3_many ⟨rfl, rfl⟩ ⟨(Nat.le_of_ble_eq_true rfl), (Nat.le_of_ble_eq_true rfl)⟩ ⟨Nat.zero_le _, Nat.zero_le _⟩ rfl hl.1 (rest := [.int x1]) rfl (Nat.le_of_ble_eq_true rfl) dX7_force_9 (st1 := [.int r3, .int x1]) rfl (fun H locs hw => ?_)
    refine lv_icmp_lt (tgt := 18) X.1 X.2.1 dX7_force_12 (by decide) (fun c4 => ?_) (fun c4 => ?_)
    · have hf := if_t hf c4
      refine lv_aload_n X.1 X.2.1 dX7_force_18 rfl (lv_at hl 0 rfl) ?_
      refine r_get X hw (sp0 hE) (C := RX7) (T := TX7) (N := 9) rfl iwX7 3 (by decide) (Nat.le_of_ble_eq_true rfl) qw421 (v := .ref (eP E 34)) rfl dX7_force_19 ?_
      obtain ⟨r6, h5, hf⟩ := b_bd1 hf
      refine r_callV X hw (k_X1_rule hE (Or.inl rfl) h5) (spP0 hE (Or.inl rfl)) (C := RX1) (T := TX1) (N := 10) rfl qw599 qw508 qw509 qw76 qw510 okX1_rule ⟨rfl, rfl⟩ ⟨(Nat.le_of_ble_eq_true rfl), (Nat.le_of_ble_eq_true rfl)⟩ ⟨Nat.zero_le _, Nat.zero_le _⟩ rfl hl.1 (rest := []) rfl (Nat.le_of_ble_eq_true rfl) dX7_force_22 (st1 := [.int r6]) rfl (fun H locs hw => ?_)
      refine lv_istore_n (lv' := [(2, .int r6), (0, .ref (eP E 0)), (1, .int x1)]) X.1 X.2.1 dX7_force_25 rfl hl (by decide) rfl (fun ls hl => ?_)
      refine lv_aload_n X.1 X.2.1 dX7_force_26 rfl (lv_at hl 1 rfl) ?_
      refine r_get X hw (sp0 hE) (C := RX7) (T := TX7) (N := 9) rfl iwX7 3 (by decide) (Nat.le_of_ble_eq_true rfl) qw421 (v := .ref (eP E 34)) rfl dX7_force_27 ?_
      refine lv_bipush (v := 8) X.1 X.2.1 dX7_force_30 (by decide) ?_
      refine lv_iconst (v := (-1)) X.1 X.2.1 dX7_force_32 (by decide) ?_
      refine lv_iload_n X.1 X.2.1 dX7_force_33 rfl (lv_at hl 2 rfl) ?_
      obtain ⟨σ8, h7, hf⟩ := b_bd1 hf
      refine r_callV X hw (k_X1_put hE (Or.inl rfl) h7) (spP0 hE (Or.inl rfl)) (C := RX1) (T := TX1) (N := 10) rfl qw472 qw473 qw474 qw76 qw475 okX1_put ⟨rfl, rfl⟩ ⟨(Nat.le_of_ble_eq_true rfl), (Nat.le_of_ble_eq_true rfl)⟩ ⟨Nat.zero_le _, Nat.zero_le _⟩ rfl hl.1 (rest := []) rfl (Nat.le_of_ble_eq_true rfl) dX7_force_34 (st1 := []) rfl (fun H locs hw => ?_)
      refine lv_iload_n X.1 X.2.1 dX7_force_37 rfl (lv_at hl 0 rfl) ?_
      obtain ⟨rfl, rfl⟩ := Prod.mk.inj (Option.some.inj hf)
      exact r_iret X hw dX7_force_38
    · have hf := if_e hf c4
      refine lv_bipush (v := (-2)) X.1 X.2.1 dX7_force_15 (by decide) ?_
      obtain ⟨rfl, rfl⟩ := Prod.mk.inj (Option.some.inj hf)
      exact r_iret X hw dX7_force_17
abbrev rm_X7_day : Room := { frames := 6, cells := 0, slots := 0, locals := 201 }
set_option maxHeartbeats 4000000 in
set_option maxRecDepth 100000 in
theorem k_X7_day {l : Launch} {E : en_T} (hE : ShF E)  {σ : sg_T} {r : Int32} {σ' : sg_T} (hf : f_X7_day  σ = some (r, σ')) : Ct l yX7_day cX7_day 1 (some .int) rm_X7_day E [.ref (eP E 0)] σ (some (.int r)) σ' := by
  refine Ct.start (by decide) hE.1 (Nat.le_of_ble_eq_true rfl) ?_
  intro p e s m below meth c X hw ls hl
  have X : Cx E p s m _ meth c cX7_day 1 RX7 (some .int) := X
  have hR : ShR E := hE.r
  have hl : lv_has ls 1 [(0, .ref (eP E 0))] := hl
  unfold f_X7_day at hf
  refine lv_aload_n X.1 X.2.1 dX7_day_0 rfl (lv_at hl 0 rfl) ?_
  refine r_get X hw (sp0 hE) (C := RX7) (T := TX7) (N := 9) rfl iwX7 3 (by decide) (Nat.le_of_ble_eq_true rfl) qw421 (v := .ref (eP E 34)) rfl dX7_day_1 ?_
  obtain ⟨r2, h1, hf⟩ := b_bd1 hf
  refine r_callV X hw (k_X1_today hE (Or.inl rfl) h1) (spP0 hE (Or.inl rfl)) (C := RX1) (T := TX1) (N := 10) rfl qw604 qw542 qw543 qw76 qw544 okX1_today ⟨rfl, rfl⟩ ⟨(Nat.le_of_ble_eq_true rfl), (Nat.le_of_ble_eq_true rfl)⟩ ⟨Nat.zero_le _, Nat.zero_le _⟩ rfl hl.1 (rest := []) rfl (Nat.le_of_ble_eq_true rfl) dX7_day_4 (st1 := [.int r2]) rfl (fun H locs hw => ?_)
  refine lv_sipush (v := 999) X.1 X.2.1 dX7_day_7 (by decide) ?_
  refine lv_icmp_lt (tgt := 16) X.1 X.2.1 dX7_day_10 (by decide) (fun c3 => ?_) (fun c3 => ?_)
  · have hf := if_t hf c3
    refine lv_aload_n X.1 X.2.1 dX7_day_16 rfl (lv_at hl 0 rfl) ?_
    refine r_get X hw (sp0 hE) (C := RX7) (T := TX7) (N := 9) rfl iwX7 2 (by decide) (Nat.le_of_ble_eq_true rfl) qw420 (v := .ref (eP E 28)) rfl dX7_day_17 ?_
    refine lv_aload_n X.1 X.2.1 dX7_day_20 rfl (lv_at hl 0 rfl) ?_
    refine r_get X hw (sp0 hE) (C := RX7) (T := TX7) (N := 9) rfl iwX7 3 (by decide) (Nat.le_of_ble_eq_true rfl) qw421 (v := .ref (eP E 34)) rfl dX7_day_21 ?_
    obtain ⟨σ5, h4, hf⟩ := b_bd1 hf
    refine r_callV X hw (k_X0_dawn hE (Or.inl rfl) h4) (sp28 hE) (C := RX0) (T := TX0) (N := 6) rfl qw605 qw606 qw607 qw75 qw608 okX0_dawn ⟨rfl, rfl⟩ ⟨(Nat.le_of_ble_eq_true rfl), (Nat.le_of_ble_eq_true rfl)⟩ ⟨Nat.zero_le _, Nat.zero_le _⟩ rfl hl.1 (rest := []) rfl (Nat.le_of_ble_eq_true rfl) dX7_day_24 (st1 := []) rfl (fun H locs hw => ?_)
    refine lv_aload_n X.1 X.2.1 dX7_day_27 rfl (lv_at hl 0 rfl) ?_
    refine r_get X hw (sp0 hE) (C := RX7) (T := TX7) (N := 9) rfl iwX7 2 (by decide) (Nat.le_of_ble_eq_true rfl) qw420 (v := .ref (eP E 28)) rfl dX7_day_28 ?_
    refine lv_aload_n X.1 X.2.1 dX7_day_31 rfl (lv_at hl 0 rfl) ?_
    refine r_get X hw (sp0 hE) (C := RX7) (T := TX7) (N := 9) rfl iwX7 3 (by decide) (Nat.le_of_ble_eq_true rfl) qw421 (v := .ref (eP E 34)) rfl dX7_day_32 ?_
    obtain ⟨σ7, h6, hf⟩ := b_bd1 hf
    refine r_callV X hw (k_X0_settle hE (Or.inl rfl) h6) (sp28 hE) (C := RX0) (T := TX0) (N := 6) rfl qw615 qw616 qw617 qw75 qw618 okX0_settle ⟨rfl, rfl⟩ ⟨(Nat.le_of_ble_eq_true rfl), (Nat.le_of_ble_eq_true rfl)⟩ ⟨Nat.zero_le _, Nat.zero_le _⟩ rfl hl.1 (rest := []) rfl (Nat.le_of_ble_eq_true rfl) dX7_day_35 (st1 := []) rfl (fun H locs hw => ?_)
    refine lv_aload_n X.1 X.2.1 dX7_day_38 rfl (lv_at hl 0 rfl) ?_
    refine r_get X hw (sp0 hE) (C := RX7) (T := TX7) (N := 9) rfl iwX7 2 (by decide) (Nat.le_of_ble_eq_true rfl) qw420 (v := .ref (eP E 28)) rfl dX7_day_39 ?_
    refine lv_aload_n X.1 X.2.1 dX7_day_42 rfl (lv_at hl 0 rfl) ?_
    refine r_get X hw (sp0 hE) (C := RX7) (T := TX7) (N := 9) rfl iwX7 3 (by decide) (Nat.le_of_ble_eq_true rfl) qw421 (v := .ref (eP E 34)) rfl dX7_day_43 ?_
    obtain ⟨r9, h8, hf⟩ := b_bd1 hf
    refine r_callV X hw (k_X0_whoIsLate hE (Or.inl rfl) h8) (sp28 hE) (C := RX0) (T := TX0) (N := 6) rfl qw639 qw640 qw641 qw75 qw642 okX0_whoIsLate ⟨rfl, rfl⟩ ⟨(Nat.le_of_ble_eq_true rfl), (Nat.le_of_ble_eq_true rfl)⟩ ⟨Nat.zero_le _, Nat.zero_le _⟩ rfl hl.1 (rest := []) rfl (Nat.le_of_ble_eq_true rfl) dX7_day_46 (st1 := [.int r9]) rfl (fun H locs hw => ?_)
    obtain ⟨rfl, rfl⟩ := Prod.mk.inj (Option.some.inj hf)
    exact r_iret X hw dX7_day_49
  · have hf := if_e hf c3
    refine lv_bipush (v := (-3)) X.1 X.2.1 dX7_day_13 (by decide) ?_
    obtain ⟨rfl, rfl⟩ := Prod.mk.inj (Option.some.inj hf)
    exact r_iret X hw dX7_day_15
abbrev rm_X7_passDays : Room := { frames := 6, cells := 0, slots := 0, locals := 201 }
set_option maxHeartbeats 4000000 in
set_option maxRecDepth 100000 in
theorem w_X7_passDays_2 {p : Program} {l : Launch} {e : Env} {s : State} {m : MethodId} {args : Array Value} {below : List Frame} {meth : Method} {c : Code} {Q : State → Prop} {E : en_T} (X : Cx E p s m args meth c cX7_passDays 3 RX7 none) (hE : ShF E) {u1 : Int32}  {res : Int32 × sg_T} :
    ∀ (n : Nat) (w2 : Int32) (σ : sg_T), itr (fun q => b_X7_passDays_2 u1 q.1 q.2) n (w2, σ) = some res → ∀ (H : Heap) (locs : List Loc) (ls : Array Slot), Hw E σ s H locs → lv_has ls 3 [(0, .ref (eP E 0)), (1, .int u1), (2, .int w2)] →
    (∀ (y2 : Int32) (τ : sg_T), res = (y2, τ) → ∀ (H : Heap) (locs : List Loc) (ls : Array Slot), Hw E τ s H locs → lv_has ls 3 [(0, .ref (eP E 0)), (1, .int u1), (2, .int y2)] → W p l e rm_X7_passDays s m args below meth c H locs 0 0 Q (F0 m 35 ls [])) →
    W p l e rm_X7_passDays s m args below meth c H locs 0 0 Q (F0 m 2 ls []) := by
  have hR : ShR E := hE.r
  intro n
  induction n with
  | zero =>
    intro w2 σ hf0
    exact (itr_0 hf0).elim
  | succ n ih =>
    intro w2 σ hf0 H locs ls hw hl K1
    obtain ⟨r0, hf, hr1, hr2⟩ := itr_s hf0
    have hf : b_X7_passDays_2 u1 w2 σ = some r0 := hf
    unfold b_X7_passDays_2 at hf
    refine lv_iload_n X.1 X.2.1 dX7_passDays_2 rfl (lv_at hl 2 rfl) ?_
    refine lv_iload_n X.1 X.2.1 dX7_passDays_3 rfl (lv_at hl 1 rfl) ?_
    refine lv_icmp_ge (tgt := 35) X.1 X.2.1 dX7_passDays_4 (by decide) (fun c1 => ?_) (fun c1 => ?_)
    · have hf := if_t hf c1
      obtain rfl := Option.some.inj hf
      obtain rfl := hr2 _ rfl
      exact K1 _ _ rfl _ _ _ hw (lv_sub hl [0, 1, 2] rfl)
    · have hf := if_e hf c1
      refine lv_aload_n X.1 X.2.1 dX7_passDays_7 rfl (lv_at hl 0 rfl) ?_
      refine r_get X hw (sp0 hE) (C := RX7) (T := TX7) (N := 9) rfl iwX7 2 (by decide) (Nat.le_of_ble_eq_true rfl) qw420 (v := .ref (eP E 28)) rfl dX7_passDays_8 ?_
      refine lv_aload_n X.1 X.2.1 dX7_passDays_11 rfl (lv_at hl 0 rfl) ?_
      refine r_get X hw (sp0 hE) (C := RX7) (T := TX7) (N := 9) rfl iwX7 4 (by decide) (Nat.le_of_ble_eq_true rfl) qw422 (v := .ref (eP E 42)) rfl dX7_passDays_12 ?_
      obtain ⟨σ3, h2, hf⟩ := b_bd1 hf
      refine r_callV X hw (k_X0_dawn hE (Or.inr (Or.inl rfl)) h2) (sp28 hE) (C := RX0) (T := TX0) (N := 6) rfl qw605 qw606 qw607 qw75 qw608 okX0_dawn ⟨rfl, rfl⟩ ⟨(Nat.le_of_ble_eq_true rfl), (Nat.le_of_ble_eq_true rfl)⟩ ⟨Nat.zero_le _, Nat.zero_le _⟩ rfl hl.1 (rest := []) rfl (Nat.le_of_ble_eq_true rfl) dX7_passDays_15 (st1 := []) rfl (fun H locs hw => ?_)
      refine lv_aload_n X.1 X.2.1 dX7_passDays_18 rfl (lv_at hl 0 rfl) ?_
      refine r_get X hw (sp0 hE) (C := RX7) (T := TX7) (N := 9) rfl iwX7 2 (by decide) (Nat.le_of_ble_eq_true rfl) qw420 (v := .ref (eP E 28)) rfl dX7_passDays_19 ?_
      refine lv_aload_n X.1 X.2.1 dX7_passDays_22 rfl (lv_at hl 0 rfl) ?_
      refine r_get X hw (sp0 hE) (C := RX7) (T := TX7) (N := 9) rfl iwX7 4 (by decide) (Nat.le_of_ble_eq_true rfl) qw422 (v := .ref (eP E 42)) rfl dX7_passDays_23 ?_
      obtain ⟨σ5, h4, hf⟩ := b_bd1 hf
      refine r_callV X hw (k_X0_settle hE (Or.inr (Or.inl rfl)) h4) (sp28 hE) (C := RX0) (T := TX0) (N := 6) rfl qw615 qw616 qw617 qw75 qw618 okX0_settle ⟨rfl, rfl⟩ ⟨(Nat.le_of_ble_eq_true rfl), (Nat.le_of_ble_eq_true rfl)⟩ ⟨Nat.zero_le _, Nat.zero_le _⟩ rfl hl.1 (rest := []) rfl (Nat.le_of_ble_eq_true rfl) dX7_passDays_26 (st1 := []) rfl (fun H locs hw => ?_)
      obtain ⟨v6, e7, hf⟩ := b_bnd hf
      refine lv_iinc (v := v6) (k := 2) (lv' := [(2, .int v6), (0, .ref (eP E 0)), (1, .int u1)]) X.1 X.2.1 dX7_passDays_29 hl rfl (by rw [e7]; exact congrArg _ (by decide)) (by decide) rfl (fun ls hl => ?_)
      refine lv_goto (tgt := 2) X.1 X.2.1 dX7_passDays_32 (by decide) ?_
      obtain rfl := Option.some.inj hf
      exact ih _ _ (hr1 _ rfl) _ _ _ hw (lv_sub hl [1, 2, 0] rfl) K1
set_option maxHeartbeats 4000000 in
set_option maxRecDepth 100000 in
theorem k_X7_passDays {l : Launch} {E : en_T} (hE : ShF E) {x1 : Int32} {σ : sg_T}  {σ' : sg_T} (hf : f_X7_passDays x1 σ = some σ') : Ct l yX7_passDays cX7_passDays 3 none rm_X7_passDays E [.ref (eP E 0), .int x1] σ none σ' := by
  refine Ct.start (by decide) hE.1 (Nat.le_of_ble_eq_true rfl) ?_
  intro p e s m below meth c X hw ls hl
  have X : Cx E p s m _ meth c cX7_passDays 3 RX7 none := X
  have hR : ShR E := hE.r
  have hl : lv_has ls 3 [(0, .ref (eP E 0)), (1, .int x1)] := hl
  unfold f_X7_passDays at hf
  refine lv_iconst (v := 0) X.1 X.2.1 dX7_passDays_0 (by decide) ?_
  refine lv_istore_n (lv' := [(2, .int 0), (0, .ref (eP E 0)), (1, .int x1)]) X.1 X.2.1 dX7_passDays_1 rfl hl (by decide) rfl (fun ls hl => ?_)
  obtain ⟨v9, σ10, h8, hf⟩ := b_bd2 hf
  refine w_X7_passDays_2 X hE  lfu _ _ h8 _ _ _ hw (lv_sub hl [1, 2, 0] rfl) (fun yv9 yσ10 hq H locs ls hw hl => ?_)
  cases hq
  obtain rfl := Option.some.inj hf
  exact r_vret X hw dX7_passDays_35
abbrev rm_X7_run : Room := { frames := 7, cells := 0, slots := 0, locals := 223 }
set_option maxHeartbeats 4000000 in
set_option maxRecDepth 100000 in
theorem k_X7_run {l : Launch} {E : en_T} (hE : ShF E) {x1 : Int32} {x2 : Int32} {x3 : Int32} {σ : sg_T} {r : Int32} {σ' : sg_T} (hf : f_X7_run x1 x2 x3 σ = some (r, σ')) : Ct l yX7_run cX7_run 4 (some .int) rm_X7_run E [.ref (eP E 0), .int x1, .int x2, .int x3] σ (some (.int r)) σ' := by
  refine Ct.start (by decide) hE.1 (Nat.le_of_ble_eq_true rfl) ?_
  intro p e s m below meth c X hw ls hl
  have X : Cx E p s m _ meth c cX7_run 4 RX7 (some .int) := X
  have hR : ShR E := hE.r
  have hl : lv_has ls 4 [(0, .ref (eP E 0)), (1, .int x1), (2, .int x2), (3, .int x3)] := hl
  unfold f_X7_run at hf
  refine lv_aload_n X.1 X.2.1 dX7_run_0 rfl (lv_at hl 0 rfl) ?_
  refine r_get X hw (sp0 hE) (C := RX7) (T := TX7) (N := 9) rfl iwX7 3 (by decide) (Nat.le_of_ble_eq_true rfl) qw421 (v := .ref (eP E 34)) rfl dX7_run_1 ?_
  refine lv_iload_n X.1 X.2.1 dX7_run_4 rfl (lv_at hl 1 rfl) ?_
  obtain ⟨r2, h1, hf⟩ := b_bd1 hf
  refine r_callV X hw (k_X1_has hE (Or.inl rfl) h1) (spP0 hE (Or.inl rfl)) (C := RX1) (T := TX1) (N := 10) rfl qw489 qw455 qw456 qw76 qw457 okX1_has ⟨rfl, rfl⟩ ⟨(Nat.le_of_ble_eq_true rfl), (Nat.le_of_ble_eq_true rfl)⟩ ⟨Nat.zero_le _, Nat.zero_le _⟩ rfl hl.1 (rest := []) rfl (Nat.le_of_ble_eq_true rfl) dX7_run_5 (st1 := [.int r2]) rfl (fun H locs hw => ?_)
  refine lv_if_eq (tgt := 30) X.1 X.2.1 dX7_run_8 (by decide) (fun c3 => ?_) (fun c3 => ?_)
  · have hf := if_t hf c3
    refine lv_bipush (v := (-2)) X.1 X.2.1 dX7_run_30 (by decide) ?_
    obtain ⟨rfl, rfl⟩ := Prod.mk.inj (Option.some.inj hf)
    exact r_iret X hw dX7_run_32
  · have hf := if_e hf c3
    refine lv_iload_n X.1 X.2.1 dX7_run_11 rfl (lv_at hl 2 rfl) ?_
    refine lv_if_lt (tgt := 30) X.1 X.2.1 dX7_run_12 (by decide) (fun c4 => ?_) (fun c4 => ?_)
    · have hf := if_t hf c4
      refine lv_bipush (v := (-2)) X.1 X.2.1 dX7_run_30 (by decide) ?_
      obtain ⟨rfl, rfl⟩ := Prod.mk.inj (Option.some.inj hf)
      exact r_iret X hw dX7_run_32
    · have hf := if_e hf c4
      refine lv_iload_n X.1 X.2.1 dX7_run_15 rfl (lv_at hl 2 rfl) ?_
      refine lv_bipush (v := 40) X.1 X.2.1 dX7_run_16 (by decide) ?_
      refine lv_icmp_gt (tgt := 30) X.1 X.2.1 dX7_run_18 (by decide) (fun c5 => ?_) (fun c5 => ?_)
      · have hf := if_t hf c5
        refine lv_bipush (v := (-2)) X.1 X.2.1 dX7_run_30 (by decide) ?_
        obtain ⟨rfl, rfl⟩ := Prod.mk.inj (Option.some.inj hf)
        exact r_iret X hw dX7_run_32
      · have hf := if_e hf c5
        refine lv_iload_n X.1 X.2.1 dX7_run_21 rfl (lv_at hl 3 rfl) ?_
        refine lv_if_lt (tgt := 30) X.1 X.2.1 dX7_run_22 (by decide) (fun c6 => ?_) (fun c6 => ?_)
        · have hf := if_t hf c6
          refine lv_bipush (v := (-2)) X.1 X.2.1 dX7_run_30 (by decide) ?_
          obtain ⟨rfl, rfl⟩ := Prod.mk.inj (Option.some.inj hf)
          exact r_iret X hw dX7_run_32
        · have hf := if_e hf c6
          refine lv_iload_n X.1 X.2.1 dX7_run_25 rfl (lv_at hl 3 rfl) ?_
          refine lv_iconst (v := 4) X.1 X.2.1 dX7_run_26 (by decide) ?_
          refine lv_icmp_le (tgt := 33) X.1 X.2.1 dX7_run_27 (by decide) (fun c7 => ?_) (fun c7 => ?_)
          · have hf := if_t hf c7
            refine lv_aload_n X.1 X.2.1 dX7_run_33 rfl (lv_at hl 0 rfl) ?_
            refine r_get X hw (sp0 hE) (C := RX7) (T := TX7) (N := 9) rfl iwX7 4 (by decide) (Nat.le_of_ble_eq_true rfl) qw422 (v := .ref (eP E 42)) rfl dX7_run_34 ?_
            refine lv_aload_n X.1 X.2.1 dX7_run_37 rfl (lv_at hl 0 rfl) ?_
            refine r_get X hw (sp0 hE) (C := RX7) (T := TX7) (N := 9) rfl iwX7 3 (by decide) (Nat.le_of_ble_eq_true rfl) qw421 (v := .ref (eP E 34)) rfl dX7_run_38 ?_
            obtain ⟨σ9, h8, hf⟩ := b_bd1 hf
            refine r_callV X hw (k_X1_copyFrom hE (Or.inr (Or.inl rfl)) (Or.inl rfl) h8) (spP0 hE (Or.inr (Or.inl rfl))) (C := RX1) (T := TX1) (N := 10) rfl qw647 qw648 qw649 qw76 qw650 okX1_copyFrom ⟨rfl, rfl⟩ ⟨(Nat.le_of_ble_eq_true rfl), (Nat.le_of_ble_eq_true rfl)⟩ ⟨Nat.zero_le _, Nat.zero_le _⟩ rfl hl.1 (rest := []) rfl (Nat.le_of_ble_eq_true rfl) dX7_run_41 (st1 := []) rfl (fun H locs hw => ?_)
            refine lv_aload_n X.1 X.2.1 dX7_run_44 rfl (lv_at hl 0 rfl) ?_
            refine lv_iload_n X.1 X.2.1 dX7_run_45 rfl (lv_at hl 2 rfl) ?_
            obtain ⟨σ11, h10, hf⟩ := b_bd1 hf
            refine r_callV X hw (k_X7_passDays hE  h10) (sp0 hE) (C := RX7) (T := TX7) (N := 9) rfl qw654 qw656 qw20 qw67 qw657 okX7_passDays ⟨rfl, rfl⟩ ⟨(Nat.le_of_ble_eq_true rfl), (Nat.le_of_ble_eq_true rfl)⟩ ⟨Nat.zero_le _, Nat.zero_le _⟩ rfl hl.1 (rest := []) rfl (Nat.le_of_ble_eq_true rfl) dX7_run_46 (st1 := []) rfl (fun H locs hw => ?_)
            refine lv_iload_n X.1 X.2.1 dX7_run_49 rfl (lv_at hl 3 rfl) ?_
            by_cases c12 : x3 = 0
            · have hf := if_t hf c12
              refine lv_tableIn (x := x3) (tgt := 80) (off := 30) X.1 X.2.1 dX7_run_50 (by rw [c12]; decide) (by rw [c12]; decide) (by rw [c12]; decide) (by decide) ?_
              refine lv_aload_n X.1 X.2.1 dX7_run_80 rfl (lv_at hl 0 rfl) ?_
              refine r_get X hw (sp0 hE) (C := RX7) (T := TX7) (N := 9) rfl iwX7 2 (by decide) (Nat.le_of_ble_eq_true rfl) qw420 (v := .ref (eP E 28)) rfl dX7_run_81 ?_
              refine lv_aload_n X.1 X.2.1 dX7_run_84 rfl (lv_at hl 0 rfl) ?_
              refine r_get X hw (sp0 hE) (C := RX7) (T := TX7) (N := 9) rfl iwX7 4 (by decide) (Nat.le_of_ble_eq_true rfl) qw422 (v := .ref (eP E 42)) rfl dX7_run_85 ?_
              refine lv_iload_n X.1 X.2.1 dX7_run_88 rfl (lv_at hl 1 rfl) ?_
              obtain ⟨r14, σ15, h13, hf⟩ := b_bd2 hf
              refine r_callV X hw (k_X0_wakes hE (Or.inr (Or.inl rfl)) h13) (sp28 hE) (C := RX0) (T := TX0) (N := 6) rfl qw494 qw495 qw496 qw75 qw497 okX0_wakes ⟨rfl, rfl⟩ ⟨(Nat.le_of_ble_eq_true rfl), (Nat.le_of_ble_eq_true rfl)⟩ ⟨Nat.zero_le _, Nat.zero_le _⟩ rfl hl.1 (rest := []) rfl (Nat.le_of_ble_eq_true rfl) dX7_run_89 (st1 := [.int r14]) rfl (fun H locs hw => ?_)
              obtain ⟨rfl, rfl⟩ := Prod.mk.inj (Option.some.inj hf)
              exact r_iret X hw dX7_run_92
            have hf := if_e hf c12
            by_cases c16 : x3 = 1
            · have hf := if_t hf c16
              refine lv_tableIn (x := x3) (tgt := 93) (off := 43) X.1 X.2.1 dX7_run_50 (by rw [c16]; decide) (by rw [c16]; decide) (by rw [c16]; decide) (by decide) ?_
              refine lv_aload_n X.1 X.2.1 dX7_run_93 rfl (lv_at hl 0 rfl) ?_
              refine r_get X hw (sp0 hE) (C := RX7) (T := TX7) (N := 9) rfl iwX7 4 (by decide) (Nat.le_of_ble_eq_true rfl) qw422 (v := .ref (eP E 42)) rfl dX7_run_94 ?_
              refine lv_iconst (v := 3) X.1 X.2.1 dX7_run_97 (by decide) ?_
              refine lv_iload_n X.1 X.2.1 dX7_run_98 rfl (lv_at hl 1 rfl) ?_
              obtain ⟨r18, h17, hf⟩ := b_bd1 hf
              refine r_callV X hw (k_X1_get hE (Or.inr (Or.inl rfl)) h17) (spP0 hE (Or.inr (Or.inl rfl))) (C := RX1) (T := TX1) (N := 10) rfl qw460 qw461 qw462 qw76 qw463 okX1_get ⟨rfl, rfl⟩ ⟨(Nat.le_of_ble_eq_true rfl), (Nat.le_of_ble_eq_true rfl)⟩ ⟨Nat.zero_le _, Nat.zero_le _⟩ rfl hl.1 (rest := []) rfl (Nat.le_of_ble_eq_true rfl) dX7_run_99 (st1 := [.int r18]) rfl (fun H locs hw => ?_)
              obtain ⟨rfl, rfl⟩ := Prod.mk.inj (Option.some.inj hf)
              exact r_iret X hw dX7_run_102
            have hf := if_e hf c16
            by_cases c19 : x3 = 2
            · have hf := if_t hf c19
              refine lv_tableIn (x := x3) (tgt := 103) (off := 53) X.1 X.2.1 dX7_run_50 (by rw [c19]; decide) (by rw [c19]; decide) (by rw [c19]; decide) (by decide) ?_
              refine lv_aload_n X.1 X.2.1 dX7_run_103 rfl (lv_at hl 0 rfl) ?_
              refine r_get X hw (sp0 hE) (C := RX7) (T := TX7) (N := 9) rfl iwX7 4 (by decide) (Nat.le_of_ble_eq_true rfl) qw422 (v := .ref (eP E 42)) rfl dX7_run_104 ?_
              refine lv_iconst (v := 5) X.1 X.2.1 dX7_run_107 (by decide) ?_
              refine lv_iload_n X.1 X.2.1 dX7_run_108 rfl (lv_at hl 1 rfl) ?_
              obtain ⟨r21, h20, hf⟩ := b_bd1 hf
              refine r_callV X hw (k_X1_get hE (Or.inr (Or.inl rfl)) h20) (spP0 hE (Or.inr (Or.inl rfl))) (C := RX1) (T := TX1) (N := 10) rfl qw460 qw461 qw462 qw76 qw463 okX1_get ⟨rfl, rfl⟩ ⟨(Nat.le_of_ble_eq_true rfl), (Nat.le_of_ble_eq_true rfl)⟩ ⟨Nat.zero_le _, Nat.zero_le _⟩ rfl hl.1 (rest := []) rfl (Nat.le_of_ble_eq_true rfl) dX7_run_109 (st1 := [.int r21]) rfl (fun H locs hw => ?_)
              obtain ⟨rfl, rfl⟩ := Prod.mk.inj (Option.some.inj hf)
              exact r_iret X hw dX7_run_112
            have hf := if_e hf c19
            by_cases c22 : x3 = 3
            · have hf := if_t hf c22
              refine lv_tableIn (x := x3) (tgt := 113) (off := 63) X.1 X.2.1 dX7_run_50 (by rw [c22]; decide) (by rw [c22]; decide) (by rw [c22]; decide) (by decide) ?_
              refine lv_aload_n X.1 X.2.1 dX7_run_113 rfl (lv_at hl 0 rfl) ?_
              refine r_get X hw (sp0 hE) (C := RX7) (T := TX7) (N := 9) rfl iwX7 2 (by decide) (Nat.le_of_ble_eq_true rfl) qw420 (v := .ref (eP E 28)) rfl dX7_run_114 ?_
              refine lv_aload_n X.1 X.2.1 dX7_run_117 rfl (lv_at hl 0 rfl) ?_
              refine r_get X hw (sp0 hE) (C := RX7) (T := TX7) (N := 9) rfl iwX7 4 (by decide) (Nat.le_of_ble_eq_true rfl) qw422 (v := .ref (eP E 42)) rfl dX7_run_118 ?_
              obtain ⟨σ24, h23, hf⟩ := b_bd1 hf
              refine r_callV X hw (k_X0_dawn hE (Or.inr (Or.inl rfl)) h23) (sp28 hE) (C := RX0) (T := TX0) (N := 6) rfl qw605 qw606 qw607 qw75 qw608 okX0_dawn ⟨rfl, rfl⟩ ⟨(Nat.le_of_ble_eq_true rfl), (Nat.le_of_ble_eq_true rfl)⟩ ⟨Nat.zero_le _, Nat.zero_le _⟩ rfl hl.1 (rest := []) rfl (Nat.le_of_ble_eq_true rfl) dX7_run_121 (st1 := []) rfl (fun H locs hw => ?_)
              refine lv_aload_n X.1 X.2.1 dX7_run_124 rfl (lv_at hl 0 rfl) ?_
              refine r_get X hw (sp0 hE) (C := RX7) (T := TX7) (N := 9) rfl iwX7 2 (by decide) (Nat.le_of_ble_eq_true rfl) qw420 (v := .ref (eP E 28)) rfl dX7_run_125 ?_
              refine lv_aload_n X.1 X.2.1 dX7_run_128 rfl (lv_at hl 0 rfl) ?_
              refine r_get X hw (sp0 hE) (C := RX7) (T := TX7) (N := 9) rfl iwX7 4 (by decide) (Nat.le_of_ble_eq_true rfl) qw422 (v := .ref (eP E 42)) rfl dX7_run_129 ?_
              obtain ⟨r26, h25, hf⟩ := b_bd1 hf
              refine r_callV X hw (k_X0_whoIsLate hE (Or.inr (Or.inl rfl)) h25) (sp28 hE) (C := RX0) (T := TX0) (N := 6) rfl qw639 qw640 qw641 qw75 qw642 okX0_whoIsLate ⟨rfl, rfl⟩ ⟨(Nat.le_of_ble_eq_true rfl), (Nat.le_of_ble_eq_true rfl)⟩ ⟨Nat.zero_le _, Nat.zero_le _⟩ rfl hl.1 (rest := []) rfl (Nat.le_of_ble_eq_true rfl) dX7_run_132 (st1 := [.int r26]) rfl (fun H locs hw => ?_)
              obtain ⟨r27, h28, hf⟩ := b_bd1 hf
              refine r_callS X hw (k_J6_bitCount hR h28) qw658 qw659 qw82 qw660 okJ6_bitCount ⟨rfl, rfl⟩ ⟨(Nat.le_of_ble_eq_true rfl), (Nat.le_of_ble_eq_true rfl)⟩ ⟨Nat.zero_le _, Nat.zero_le _⟩ rfl hl.1 (rest := []) rfl (Nat.le_of_ble_eq_true rfl) dX7_run_135 (st1 := [.int r27]) rfl (fun H locs hw => ?_)
              obtain ⟨rfl, rfl⟩ := Prod.mk.inj (Option.some.inj hf)
              exact r_iret X hw dX7_run_138
            have hf := if_e hf c22
            have c12t := lv_neT (a := 0) c12 (by decide)
            have c16t := lv_neT (a := 1) c16 (by decide)
            have c19t := lv_neT (a := 2) c19 (by decide)
            have c22t := lv_neT (a := 3) c22 (by decide)
            refine lv_tableOut (x := x3) (tgt := 139) X.1 X.2.1 dX7_run_50 (by omega) (by decide) ?_
            refine lv_aload_n X.1 X.2.1 dX7_run_139 rfl (lv_at hl 0 rfl) ?_
            refine r_get X hw (sp0 hE) (C := RX7) (T := TX7) (N := 9) rfl iwX7 4 (by decide) (Nat.le_of_ble_eq_true rfl) qw422 (v := .ref (eP E 42)) rfl dX7_run_140 ?_
            refine lv_iconst (v := 4) X.1 X.2.1 dX7_run_143 (by decide) ?_
            obtain ⟨r30, h29, hf⟩ := b_bd1 hf
            refine r_callV X hw (k_X1_sum hE (Or.inr (Or.inl rfl)) h29) (spP0 hE (Or.inr (Or.inl rfl))) (C := RX1) (T := TX1) (N := 10) rfl qw664 qw665 qw666 qw76 qw667 okX1_sum ⟨rfl, rfl⟩ ⟨(Nat.le_of_ble_eq_true rfl), (Nat.le_of_ble_eq_true rfl)⟩ ⟨Nat.zero_le _, Nat.zero_le _⟩ rfl hl.1 (rest := []) rfl (Nat.le_of_ble_eq_true rfl) dX7_run_144 (st1 := [.int r30]) rfl (fun H locs hw => ?_)
            obtain ⟨rfl, rfl⟩ := Prod.mk.inj (Option.some.inj hf)
            exact r_iret X hw dX7_run_147
          · have hf := if_e hf c7
            refine lv_bipush (v := (-2)) X.1 X.2.1 dX7_run_30 (by decide) ?_
            obtain ⟨rfl, rfl⟩ := Prod.mk.inj (Option.some.inj hf)
            exact r_iret X hw dX7_run_32
abbrev rm_X7_round : Room := { frames := 2, cells := 0, slots := 0, locals := 125 }
set_option maxHeartbeats 4000000 in
set_option maxRecDepth 100000 in
theorem w_X7_round_23 {p : Program} {l : Launch} {e : Env} {s : State} {m : MethodId} {args : Array Value} {below : List Frame} {meth : Method} {c : Code} {Q : State → Prop} {E : en_T} (X : Cx E p s m args meth c cX7_round 5 RX7 (some .int)) (hE : ShF E) {u1 : Int32} {σ : sg_T} {res : (Int32 × Int32 × Int32) ⊕ (Int32)} :
    ∀ (n : Nat) (w2 : Int32) (w3 : Int32) (w4 : Int32), itr (fun q => b_X7_round_23 u1 q.1 q.2.1 q.2.2 σ) n (w2, w3, w4) = some res → ∀ (H : Heap) (locs : List Loc) (ls : Array Slot), Hw E σ s H locs → lv_has ls 5 [(0, .ref (eP E 0)), (1, .int u1), (2, .int w2), (3, .int w3), (4, .int w4)] →
    (∀ (y2 : Int32) (y3 : Int32) (y4 : Int32), res = .inl (y2, y3, y4) → ∀ (H : Heap) (locs : List Loc) (ls : Array Slot), Hw E σ s H locs → lv_has ls 5 [(0, .ref (eP E 0)), (1, .int u1), (2, .int y2), (3, .int y3), (4, .int y4)] → W p l e rm_X7_round s m args below meth c H locs 0 0 Q (F0 m 68 ls [])) →
    (∀ (r : Int32), res = .inr r → Q = MQ below (Qf E (some (.int r)) σ) args s 0 0 (en_A E)) →
    W p l e rm_X7_round s m args below meth c H locs 0 0 Q (F0 m 23 ls []) := by
  have hR : ShR E := hE.r
  intro n
  induction n with
  | zero =>
    intro w2 w3 w4 hf0
    exact (itr_0 hf0).elim
  | succ n ih =>
    intro w2 w3 w4 hf0 H locs ls hw hl K1 K2
    obtain ⟨r0, hf, hr1, hr2⟩ := itr_s hf0
    have hf : b_X7_round_23 u1 w2 w3 w4 σ = some r0 := hf
    unfold b_X7_round_23 at hf
    refine lv_iload X.1 X.2.1 dX7_round_23 (lv_at hl 4 rfl) ?_
    refine lv_iconst (v := 5) X.1 X.2.1 dX7_round_25 (by decide) ?_
    refine lv_icmp_gt (tgt := 68) X.1 X.2.1 dX7_round_26 (by decide) (fun c5 => ?_) (fun c5 => ?_)
    · have hf := if_t hf c5
      obtain rfl := Option.some.inj hf
      obtain rfl := hr2 _ rfl
      exact K1 _ _ _ rfl _ _ _ hw (lv_sub hl [0, 1, 2, 3, 4] rfl)
    · have hf := if_e hf c5
      refine lv_aload_n X.1 X.2.1 dX7_round_29 rfl (lv_at hl 0 rfl) ?_
      refine r_get X hw (sp0 hE) (C := RX7) (T := TX7) (N := 9) rfl iwX7 3 (by decide) (Nat.le_of_ble_eq_true rfl) qw421 (v := .ref (eP E 34)) rfl dX7_round_30 ?_
      refine lv_iload_n X.1 X.2.1 dX7_round_33 rfl (lv_at hl 3 rfl) ?_
      obtain ⟨r7, h6, hf⟩ := b_bd1 hf
      refine r_callV X hw (k_X1_setterOf hE (Or.inl rfl) h6) (spP0 hE (Or.inl rfl)) (C := RX1) (T := TX1) (N := 10) rfl qw490 qw491 qw492 qw76 qw493 okX1_setterOf ⟨rfl, rfl⟩ ⟨(Nat.le_of_ble_eq_true rfl), (Nat.le_of_ble_eq_true rfl)⟩ ⟨Nat.zero_le _, Nat.zero_le _⟩ rfl hl.1 (rest := []) rfl (Nat.le_of_ble_eq_true rfl) dX7_round_34 (st1 := [.int r7]) rfl (fun H locs hw => ?_)
      refine lv_istore_n (lv' := [(3, .int r7), (0, .ref (eP E 0)), (1, .int u1), (2, .int w2), (4, .int w4)]) X.1 X.2.1 dX7_round_37 rfl hl (by decide) rfl (fun ls hl => ?_)
      refine lv_iload_n X.1 X.2.1 dX7_round_38 rfl (lv_at hl 0 rfl) ?_
      refine lv_iconst (v := (-1)) X.1 X.2.1 dX7_round_39 (by decide) ?_
      refine lv_icmp_ne (tgt := 45) X.1 X.2.1 dX7_round_40 (by decide) (fun c8 => ?_) (fun c8 => ?_)
      · have hf := if_e hf c8
        refine lv_iload_n X.1 X.2.1 dX7_round_45 rfl (lv_at hl 3 rfl) ?_
        refine lv_iload_n X.1 X.2.1 dX7_round_46 rfl (lv_at hl 0 rfl) ?_
        refine lv_ishr X.1 X.2.1 dX7_round_47 ?_
        refine lv_iconst (v := 1) X.1 X.2.1 dX7_round_48 (by decide) ?_
        refine lv_iand X.1 X.2.1 dX7_round_49 ?_
        refine lv_if_eq (tgt := 56) X.1 X.2.1 dX7_round_50 (by decide) (fun c9 => ?_) (fun c9 => ?_)
        · have hf := if_t hf c9
          refine lv_iload_n X.1 X.2.1 dX7_round_56 rfl (lv_at hl 3 rfl) ?_
          refine lv_iconst (v := 1) X.1 X.2.1 dX7_round_57 (by decide) ?_
          refine lv_iload_n X.1 X.2.1 dX7_round_58 rfl (lv_at hl 0 rfl) ?_
          refine lv_ishl X.1 X.2.1 dX7_round_59 ?_
          refine lv_ior X.1 X.2.1 dX7_round_60 ?_
          refine r_bnd hf (fun v10 hf => ?_)
          refine lv_istore_n (lv' := [(2, .int v10), (3, .int r7), (0, .ref (eP E 0)), (1, .int u1), (4, .int w4)]) X.1 X.2.1 dX7_round_61 rfl hl (by decide) rfl (fun ls hl => ?_)
          obtain ⟨v11, e12, hf⟩ := b_bnd hf
          refine lv_iinc (v := v11) (k := 4) (lv' := [(4, .int v11), (2, .int v10), (3, .int r7), (0, .ref (eP E 0)), (1, .int u1)]) X.1 X.2.1 dX7_round_62 hl rfl (by rw [e12]; exact congrArg _ (by decide)) (by decide) rfl (fun ls hl => ?_)
          refine lv_goto (tgt := 23) X.1 X.2.1 dX7_round_65 (by decide) ?_
          obtain rfl := Option.some.inj hf
          exact ih _ _ _ (hr1 _ rfl) _ _ _ hw (lv_sub hl [3, 4, 1, 2, 0] rfl) K1 K2
        · have hf := if_e hf c9
          refine lv_iload X.1 X.2.1 dX7_round_53 (lv_at hl 4 rfl) ?_
          obtain rfl := Option.some.inj hf
          obtain rfl := hr2 _ rfl
          rw [K2 _ rfl]
          exact r_iret X hw dX7_round_55
      · have hf := if_t hf c8
        refine lv_iconst (v := (-1)) X.1 X.2.1 dX7_round_43 (by decide) ?_
        obtain rfl := Option.some.inj hf
        obtain rfl := hr2 _ rfl
        rw [K2 _ rfl]
        exact r_iret X hw dX7_round_44
set_option maxHeartbeats 4000000 in
set_option maxRecDepth 100000 in
theorem k_X7_round {l : Launch} {E : en_T} (hE : ShF E) {x1 : Int32} {σ : sg_T} {r : Int32} (hf : f_X7_round x1 σ = some r) : Ct l yX7_round cX7_round 5 (some .int) rm_X7_round E [.ref (eP E 0), .int x1] σ (some (.int r)) σ := by
  refine Ct.start (by decide) hE.1 (Nat.le_of_ble_eq_true rfl) ?_
  intro p e s m below meth c X hw ls hl
  have X : Cx E p s m _ meth c cX7_round 5 RX7 (some .int) := X
  have hR : ShR E := hE.r
  have hl : lv_has ls 5 [(0, .ref (eP E 0)), (1, .int x1)] := hl
  unfold f_X7_round at hf
  refine lv_aload_n X.1 X.2.1 dX7_round_0 rfl (lv_at hl 0 rfl) ?_
  refine r_get X hw (sp0 hE) (C := RX7) (T := TX7) (N := 9) rfl iwX7 3 (by decide) (Nat.le_of_ble_eq_true rfl) qw421 (v := .ref (eP E 34)) rfl dX7_round_1 ?_
  refine lv_iload_n X.1 X.2.1 dX7_round_4 rfl (lv_at hl 1 rfl) ?_
  obtain ⟨r2, h1, hf⟩ := b_bd1 hf
  refine r_callV X hw (k_X1_has hE (Or.inl rfl) h1) (spP0 hE (Or.inl rfl)) (C := RX1) (T := TX1) (N := 10) rfl qw489 qw455 qw456 qw76 qw457 okX1_has ⟨rfl, rfl⟩ ⟨(Nat.le_of_ble_eq_true rfl), (Nat.le_of_ble_eq_true rfl)⟩ ⟨Nat.zero_le _, Nat.zero_le _⟩ rfl hl.1 (rest := []) rfl (Nat.le_of_ble_eq_true rfl) dX7_round_5 (st1 := [.int r2]) rfl (fun H locs hw => ?_)
  refine lv_if_ne (tgt := 14) X.1 X.2.1 dX7_round_8 (by decide) (fun c3 => ?_) (fun c3 => ?_)
  · have hf := if_e hf c3
    refine lv_iconst (v := 1) X.1 X.2.1 dX7_round_14 (by decide) ?_
    refine lv_iload_n X.1 X.2.1 dX7_round_15 rfl (lv_at hl 1 rfl) ?_
    refine lv_ishl X.1 X.2.1 dX7_round_16 ?_
    refine r_bnd hf (fun v4 hf => ?_)
    refine lv_istore_n (lv' := [(2, .int v4), (0, .ref (eP E 0)), (1, .int x1)]) X.1 X.2.1 dX7_round_17 rfl hl (by decide) rfl (fun ls hl => ?_)
    refine lv_iload_n X.1 X.2.1 dX7_round_18 rfl (lv_at hl 2 rfl) ?_
    refine lv_istore_n (lv' := [(3, .int x1), (2, .int v4), (0, .ref (eP E 0)), (1, .int x1)]) X.1 X.2.1 dX7_round_19 rfl hl (by decide) rfl (fun ls hl => ?_)
    refine lv_iconst (v := 1) X.1 X.2.1 dX7_round_20 (by decide) ?_
    refine lv_istore (lv' := [(4, .int 1), (3, .int x1), (2, .int v4), (0, .ref (eP E 0)), (1, .int x1)]) X.1 X.2.1 dX7_round_21 hl (by decide) rfl (fun ls hl => ?_)
    obtain ⟨r17, h13, hf⟩ := b_bs hf
    rcases hf with ⟨⟨v14, v15, v16⟩, rfl, hf⟩ | ⟨r18, rfl, hf⟩
    · refine w_X7_round_23 X hE  lfu _ _ _ h13 _ _ _ hw (lv_sub hl [3, 4, 2, 1, 0] rfl) (fun yv14 yv15 yv16 hq H locs ls hw hl => ?_) (fun _ hq => by cases hq)
      cases hq
      dsimp only at hf
      refine lv_iconst (v := (-1)) X.1 X.2.1 dX7_round_68 (by decide) ?_
      obtain rfl := Option.some.inj hf
      exact r_iret X hw dX7_round_69
    · refine w_X7_round_23 X hE  lfu _ _ _ h13 _ _ _ hw (lv_sub hl [3, 4, 2, 1, 0] rfl) (fun _ _ _ hq => by cases hq) (fun _ hq => ?_)
      cases hq
      cases hf
      rfl
  · have hf := if_t hf c3
    refine lv_bipush (v := (-2)) X.1 X.2.1 dX7_round_11 (by decide) ?_
    obtain rfl := Option.some.inj hf
    exact r_iret X hw dX7_round_13
abbrev rm_X7_others : Room := { frames := 106, cells := 0, slots := 0, locals := 7889 }
set_option maxHeartbeats 4000000 in
set_option maxRecDepth 100000 in
theorem k_X7_others {l : Launch} {E : en_T} (hE : ShF E) {x1 : Int32} {σ : sg_T} {r : Int32} {σ' : sg_T} (hf : f_X7_others x1 σ = some (r, σ')) : Ct l yX7_others cX7_others 2 (some .int) rm_X7_others E [.ref (eP E 0), .int x1] σ (some (.int r)) σ' := by
  refine Ct.start (by decide) hE.1 (Nat.le_of_ble_eq_true rfl) ?_
  intro p e s m below meth c X hw ls hl
  have X : Cx E p s m _ meth c cX7_others 2 RX7 (some .int) := X
  have hR : ShR E := hE.r
  have hl : lv_has ls 2 [(0, .ref (eP E 0)), (1, .int x1)] := hl
  unfold f_X7_others at hf
  refine lv_iload_n X.1 X.2.1 dX7_others_0 rfl (lv_at hl 1 rfl) ?_
  refine lv_if_lt (tgt := 9) X.1 X.2.1 dX7_others_1 (by decide) (fun c1 => ?_) (fun c1 => ?_)
  · have hf := if_t hf c1
    refine lv_bipush (v := (-2)) X.1 X.2.1 dX7_others_9 (by decide) ?_
    obtain ⟨rfl, rfl⟩ := Prod.mk.inj (Option.some.inj hf)
    exact r_iret X hw dX7_others_11
  · have hf := if_e hf c1
    refine lv_iload_n X.1 X.2.1 dX7_others_4 rfl (lv_at hl 1 rfl) ?_
    refine lv_iconst (v := 1) X.1 X.2.1 dX7_others_5 (by decide) ?_
    refine lv_icmp_le (tgt := 12) X.1 X.2.1 dX7_others_6 (by decide) (fun c2 => ?_) (fun c2 => ?_)
    · have hf := if_t hf c2
      refine lv_aload_n X.1 X.2.1 dX7_others_12 rfl (lv_at hl 0 rfl) ?_
      refine r_get X hw (sp0 hE) (C := RX7) (T := TX7) (N := 9) rfl iwX7 3 (by decide) (Nat.le_of_ble_eq_true rfl) qw421 (v := .ref (eP E 34)) rfl dX7_others_13 ?_
      obtain ⟨r4, h3, hf⟩ := b_bd1 hf
      refine r_callV X hw (k_X1_many hE (Or.inl rfl) h3) (spP0 hE (Or.inl rfl)) (C := RX1) (T := TX1) (N := 10) rfl qw677 qw610 qw611 qw76 qw612 okX1_many ⟨rfl, rfl⟩ ⟨(Nat.le_of_ble_eq_true rfl), (Nat.le_of_ble_eq_true rfl)⟩ ⟨Nat.zero_le _, Nat.zero_le _⟩ rfl hl.1 (rest := []) rfl (Nat.le_of_ble_eq_true rfl) dX7_others_16 (st1 := [.int r4]) rfl (fun H locs hw => ?_)
      refine lv_iconst (v := 2) X.1 X.2.1 dX7_others_19 (by decide) ?_
      refine lv_icmp_ge (tgt := 25) X.1 X.2.1 dX7_others_20 (by decide) (fun c5 => ?_) (fun c5 => ?_)
      · have hf := if_t hf c5
        refine lv_aload_n X.1 X.2.1 dX7_others_25 rfl (lv_at hl 0 rfl) ?_
        refine r_get X hw (sp0 hE) (C := RX7) (T := TX7) (N := 9) rfl iwX7 6 (by decide) (Nat.le_of_ble_eq_true rfl) qw424 (v := .ref (eP E 58)) rfl dX7_others_26 ?_
        refine lv_aload_n X.1 X.2.1 dX7_others_29 rfl (lv_at hl 0 rfl) ?_
        refine r_get X hw (sp0 hE) (C := RX7) (T := TX7) (N := 9) rfl iwX7 3 (by decide) (Nat.le_of_ble_eq_true rfl) qw421 (v := .ref (eP E 34)) rfl dX7_others_30 ?_
        refine lv_aload_n X.1 X.2.1 dX7_others_33 rfl (lv_at hl 0 rfl) ?_
        refine r_get X hw (sp0 hE) (C := RX7) (T := TX7) (N := 9) rfl iwX7 0 (by decide) (Nat.le_of_ble_eq_true rfl) qw418 (v := .ref (eP E 6)) rfl dX7_others_34 ?_
        obtain ⟨σ7, h6, hf⟩ := b_bd1 hf
        refine r_callV X hw (k_X6_find hE (Or.inl rfl) h6) (sp58 hE) (C := RX6) (T := TX6) (N := 4) rfl qw678 qw679 qw680 qw77 qw681 okX6_find ⟨rfl, rfl⟩ ⟨(Nat.le_of_ble_eq_true rfl), (Nat.le_of_ble_eq_true rfl)⟩ ⟨Nat.zero_le _, Nat.zero_le _⟩ rfl hl.1 (rest := []) rfl (Nat.le_of_ble_eq_true rfl) dX7_others_37 (st1 := []) rfl (fun H locs hw => ?_)
        refine lv_iload_n X.1 X.2.1 dX7_others_40 rfl (lv_at hl 1 rfl) ?_
        refine lv_if_ne (tgt := 54) X.1 X.2.1 dX7_others_41 (by decide) (fun c8 => ?_) (fun c8 => ?_)
        · have hf := if_e hf c8
          refine lv_aload_n X.1 X.2.1 dX7_others_54 rfl (lv_at hl 0 rfl) ?_
          refine r_get X hw (sp0 hE) (C := RX7) (T := TX7) (N := 9) rfl iwX7 6 (by decide) (Nat.le_of_ble_eq_true rfl) qw424 (v := .ref (eP E 58)) rfl dX7_others_55 ?_
          obtain ⟨r10, h9, hf⟩ := b_bd1 hf
          refine r_callV X hw (k_X6_late hE  h9) (sp58 hE) (C := RX6) (T := TX6) (N := 4) rfl qw694 qw695 qw696 qw77 qw697 okX6_late ⟨rfl, rfl⟩ ⟨(Nat.le_of_ble_eq_true rfl), (Nat.le_of_ble_eq_true rfl)⟩ ⟨Nat.zero_le _, Nat.zero_le _⟩ rfl hl.1 (rest := []) rfl (Nat.le_of_ble_eq_true rfl) dX7_others_58 (st1 := [.int r10]) rfl (fun H locs hw => ?_)
          obtain ⟨rfl, rfl⟩ := Prod.mk.inj (Option.some.inj hf)
          exact r_iret X hw dX7_others_61
        · have hf := if_t hf c8
          refine lv_aload_n X.1 X.2.1 dX7_others_44 rfl (lv_at hl 0 rfl) ?_
          refine r_get X hw (sp0 hE) (C := RX7) (T := TX7) (N := 9) rfl iwX7 6 (by decide) (Nat.le_of_ble_eq_true rfl) qw424 (v := .ref (eP E 58)) rfl dX7_others_45 ?_
          obtain ⟨r12, h11, hf⟩ := b_bd1 hf
          refine r_callV X hw (k_X6_digits hE  h11) (sp58 hE) (C := RX6) (T := TX6) (N := 4) rfl qw690 qw691 qw692 qw77 qw693 okX6_digits ⟨rfl, rfl⟩ ⟨(Nat.le_of_ble_eq_true rfl), (Nat.le_of_ble_eq_true rfl)⟩ ⟨Nat.zero_le _, Nat.zero_le _⟩ rfl hl.1 (rest := []) rfl (Nat.le_of_ble_eq_true rfl) dX7_others_48 (st1 := [.int r12]) rfl (fun H locs hw => ?_)
          refine lv_goto (tgt := 61) X.1 X.2.1 dX7_others_51 (by decide) ?_
          obtain ⟨rfl, rfl⟩ := Prod.mk.inj (Option.some.inj hf)
          exact r_iret X hw dX7_others_61
      · have hf := if_e hf c5
        refine lv_iconst (v := (-1)) X.1 X.2.1 dX7_others_23 (by decide) ?_
        obtain ⟨rfl, rfl⟩ := Prod.mk.inj (Option.some.inj hf)
        exact r_iret X hw dX7_others_24
    · have hf := if_e hf c2
      refine lv_bipush (v := (-2)) X.1 X.2.1 dX7_others_9 (by decide) ?_
      obtain ⟨rfl, rfl⟩ := Prod.mk.inj (Option.some.inj hf)
      exact r_iret X hw dX7_others_11
abbrev rm_X7_lateBehind : Room := { frames := 7, cells := 0, slots := 0, locals := 223 }
set_option maxHeartbeats 4000000 in
set_option maxRecDepth 100000 in
theorem k_X7_lateBehind {l : Launch} {E : en_T} (hE : ShF E) {x1 : Int32} {x2 : Int32} {x3 : Int32} {x4 : Int32} {σ : sg_T} {r : Int32} {σ' : sg_T} (hf : f_X7_lateBehind x1 x2 x3 x4 σ = some (r, σ')) : Ct l yX7_lateBehind cX7_lateBehind 5 (some .int) rm_X7_lateBehind E [.ref (eP E 0), .int x1, .int x2, .int x3, .int x4] σ (some (.int r)) σ' := by
  refine Ct.start (by decide) hE.1 (Nat.le_of_ble_eq_true rfl) ?_
  intro p e s m below meth c X hw ls hl
  have X : Cx E p s m _ meth c cX7_lateBehind 5 RX7 (some .int) := X
  have hR : ShR E := hE.r
  have hl : lv_has ls 5 [(0, .ref (eP E 0)), (1, .int x1), (2, .int x2), (3, .int x3), (4, .int x4)] := hl
  unfold f_X7_lateBehind at hf
  refine lv_aload_n X.1 X.2.1 dX7_lateBehind_0 rfl (lv_at hl 0 rfl) ?_
  refine r_get X hw (sp0 hE) (C := RX7) (T := TX7) (N := 9) rfl iwX7 4 (by decide) (Nat.le_of_ble_eq_true rfl) qw422 (v := .ref (eP E 42)) rfl dX7_lateBehind_1 ?_
  refine lv_aload_n X.1 X.2.1 dX7_lateBehind_4 rfl (lv_at hl 0 rfl) ?_
  refine r_get X hw (sp0 hE) (C := RX7) (T := TX7) (N := 9) rfl iwX7 3 (by decide) (Nat.le_of_ble_eq_true rfl) qw421 (v := .ref (eP E 34)) rfl dX7_lateBehind_5 ?_
  obtain ⟨σ2, h1, hf⟩ := b_bd1 hf
  refine r_callV X hw (k_X1_copyFrom hE (Or.inr (Or.inl rfl)) (Or.inl rfl) h1) (spP0 hE (Or.inr (Or.inl rfl))) (C := RX1) (T := TX1) (N := 10) rfl qw647 qw648 qw649 qw76 qw650 okX1_copyFrom ⟨rfl, rfl⟩ ⟨(Nat.le_of_ble_eq_true rfl), (Nat.le_of_ble_eq_true rfl)⟩ ⟨Nat.zero_le _, Nat.zero_le _⟩ rfl hl.1 (rest := []) rfl (Nat.le_of_ble_eq_true rfl) dX7_lateBehind_8 (st1 := []) rfl (fun H locs hw => ?_)
  refine lv_aload_n X.1 X.2.1 dX7_lateBehind_11 rfl (lv_at hl 0 rfl) ?_
  refine r_get X hw (sp0 hE) (C := RX7) (T := TX7) (N := 9) rfl iwX7 4 (by decide) (Nat.le_of_ble_eq_true rfl) qw422 (v := .ref (eP E 42)) rfl dX7_lateBehind_12 ?_
  refine lv_iload_n X.1 X.2.1 dX7_lateBehind_15 rfl (lv_at hl 2 rfl) ?_
  refine lv_iload_n X.1 X.2.1 dX7_lateBehind_16 rfl (lv_at hl 3 rfl) ?_
  refine lv_iload X.1 X.2.1 dX7_lateBehind_17 (lv_at hl 4 rfl) ?_
  obtain ⟨σ4, h3, hf⟩ := b_bd1 hf
  refine r_callV X hw (k_X1_put hE (Or.inr (Or.inl rfl)) h3) (spP0 hE (Or.inr (Or.inl rfl))) (C := RX1) (T := TX1) (N := 10) rfl qw472 qw473 qw474 qw76 qw475 okX1_put ⟨rfl, rfl⟩ ⟨(Nat.le_of_ble_eq_true rfl), (Nat.le_of_ble_eq_true rfl)⟩ ⟨Nat.zero_le _, Nat.zero_le _⟩ rfl hl.1 (rest := []) rfl (Nat.le_of_ble_eq_true rfl) dX7_lateBehind_19 (st1 := []) rfl (fun H locs hw => ?_)
  refine lv_aload_n X.1 X.2.1 dX7_lateBehind_22 rfl (lv_at hl 0 rfl) ?_
  refine lv_iload_n X.1 X.2.1 dX7_lateBehind_23 rfl (lv_at hl 1 rfl) ?_
  obtain ⟨σ6, h5, hf⟩ := b_bd1 hf
  refine r_callV X hw (k_X7_passDays hE  h5) (sp0 hE) (C := RX7) (T := TX7) (N := 9) rfl qw654 qw656 qw20 qw67 qw657 okX7_passDays ⟨rfl, rfl⟩ ⟨(Nat.le_of_ble_eq_true rfl), (Nat.le_of_ble_eq_true rfl)⟩ ⟨Nat.zero_le _, Nat.zero_le _⟩ rfl hl.1 (rest := []) rfl (Nat.le_of_ble_eq_true rfl) dX7_lateBehind_24 (st1 := []) rfl (fun H locs hw => ?_)
  refine lv_aload_n X.1 X.2.1 dX7_lateBehind_27 rfl (lv_at hl 0 rfl) ?_
  refine r_get X hw (sp0 hE) (C := RX7) (T := TX7) (N := 9) rfl iwX7 4 (by decide) (Nat.le_of_ble_eq_true rfl) qw422 (v := .ref (eP E 42)) rfl dX7_lateBehind_28 ?_
  refine lv_iconst (v := 5) X.1 X.2.1 dX7_lateBehind_31 (by decide) ?_
  obtain ⟨r8, h7, hf⟩ := b_bd1 hf
  refine r_callV X hw (k_X1_sum hE (Or.inr (Or.inl rfl)) h7) (spP0 hE (Or.inr (Or.inl rfl))) (C := RX1) (T := TX1) (N := 10) rfl qw664 qw665 qw666 qw76 qw667 okX1_sum ⟨rfl, rfl⟩ ⟨(Nat.le_of_ble_eq_true rfl), (Nat.le_of_ble_eq_true rfl)⟩ ⟨Nat.zero_le _, Nat.zero_le _⟩ rfl hl.1 (rest := []) rfl (Nat.le_of_ble_eq_true rfl) dX7_lateBehind_32 (st1 := [.int r8]) rfl (fun H locs hw => ?_)
  obtain ⟨rfl, rfl⟩ := Prod.mk.inj (Option.some.inj hf)
  exact r_iret X hw dX7_lateBehind_35
abbrev rm_X7_duty : Room := { frames := 8, cells := 0, slots := 0, locals := 247 }
set_option maxHeartbeats 4000000 in
set_option maxRecDepth 100000 in
theorem w_X7_duty_43 {p : Program} {l : Launch} {e : Env} {s : State} {m : MethodId} {args : Array Value} {below : List Frame} {meth : Method} {c : Code} {Q : State → Prop} {E : en_T} (X : Cx E p s m args meth c cX7_duty 8 RX7 (some .int)) (hE : ShF E) {u1 : Int32} {u2 : Int32} {u3 : Int32}  {res : Int32 × Int32 × Int32 × sg_T} :
    ∀ (n : Nat) (w4 : Int32) (w5 : Int32) (w6 : Int32) (σ : sg_T), itr (fun q => b_X7_duty_43 u1 u2 u3 q.1 q.2.1 q.2.2.1 q.2.2.2) n (w4, w5, w6, σ) = some res → ∀ (H : Heap) (locs : List Loc) (ls : Array Slot), Hw E σ s H locs → lv_has ls 8 [(0, .ref (eP E 0)), (1, .int u1), (2, .int u2), (3, .int u3), (4, .int w4), (5, .int w5), (6, .int w6)] →
    (∀ (y4 : Int32) (y5 : Int32) (y6 : Int32) (τ : sg_T), res = (y4, y5, y6, τ) → ∀ (H : Heap) (locs : List Loc) (ls : Array Slot), Hw E τ s H locs → lv_has ls 8 [(0, .ref (eP E 0)), (1, .int u1), (2, .int u2), (3, .int u3), (4, .int y4), (5, .int y5), (6, .int y6)] → W p l e rm_X7_duty s m args below meth c H locs 0 0 Q (F0 m 82 ls [])) →
    W p l e rm_X7_duty s m args below meth c H locs 0 0 Q (F0 m 43 ls []) := by
  have hR : ShR E := hE.r
  intro n
  induction n with
  | zero =>
    intro w4 w5 w6 σ hf0
    exact (itr_0 hf0).elim
  | succ n ih =>
    intro w4 w5 w6 σ hf0 H locs ls hw hl K1
    obtain ⟨r0, hf, hr1, hr2⟩ := itr_s hf0
    have hf : b_X7_duty_43 u1 u2 u3 w4 w5 w6 σ = some r0 := hf
    unfold b_X7_duty_43 at hf
    refine lv_iload X.1 X.2.1 dX7_duty_43 (lv_at hl 6 rfl) ?_
    refine lv_bipush (v := 24) X.1 X.2.1 dX7_duty_45 (by decide) ?_
    refine lv_icmp_ge (tgt := 82) X.1 X.2.1 dX7_duty_47 (by decide) (fun c8 => ?_) (fun c8 => ?_)
    · have hf := if_t hf c8
      obtain rfl := Option.some.inj hf
      obtain rfl := hr2 _ rfl
      exact K1 _ _ _ _ rfl _ _ _ hw (lv_sub hl [0, 1, 2, 3, 4, 5, 6] rfl)
    · have hf := if_e hf c8
      refine lv_aload_n X.1 X.2.1 dX7_duty_50 rfl (lv_at hl 0 rfl) ?_
      refine lv_iload_n X.1 X.2.1 dX7_duty_51 rfl (lv_at hl 2 rfl) ?_
      refine lv_iconst (v := 2) X.1 X.2.1 dX7_duty_52 (by decide) ?_
      refine lv_iload_n X.1 X.2.1 dX7_duty_53 rfl (lv_at hl 1 rfl) ?_
      refine lv_iload X.1 X.2.1 dX7_duty_54 (lv_at hl 6 rfl) ?_
      obtain ⟨r10, σ11, h9, hf⟩ := b_bd2 hf
      refine r_callV X hw (k_X7_lateBehind hE  h9) (sp0 hE) (C := RX7) (T := TX7) (N := 9) rfl qw703 qw705 qw21 qw67 qw706 okX7_lateBehind ⟨rfl, rfl⟩ ⟨(Nat.le_of_ble_eq_true rfl), (Nat.le_of_ble_eq_true rfl)⟩ ⟨Nat.zero_le _, Nat.zero_le _⟩ rfl hl.1 (rest := []) rfl (Nat.le_of_ble_eq_true rfl) dX7_duty_56 (st1 := [.int r10]) rfl (fun H locs hw => ?_)
      refine lv_istore (lv' := [(7, .int r10), (0, .ref (eP E 0)), (1, .int u1), (2, .int u2), (3, .int u3), (4, .int w4), (5, .int w5), (6, .int w6)]) X.1 X.2.1 dX7_duty_59 hl (by decide) rfl (fun ls hl => ?_)
      refine lv_iload X.1 X.2.1 dX7_duty_61 (lv_at hl 0 rfl) ?_
      refine lv_iload X.1 X.2.1 dX7_duty_63 (lv_at hl 6 rfl) ?_
      refine lv_icmp_ge (tgt := 76) X.1 X.2.1 dX7_duty_65 (by decide) (fun c12 => ?_) (fun c12 => ?_)
      · have hf := if_t hf c12
        obtain ⟨v13, e14, hf⟩ := b_bnd hf
        refine lv_iinc (v := v13) (k := 7) (lv' := [(6, .int v13), (7, .int r10), (0, .ref (eP E 0)), (1, .int u1), (2, .int u2), (3, .int u3), (4, .int w4), (5, .int w5)]) X.1 X.2.1 dX7_duty_76 hl rfl (by rw [e14]; exact congrArg _ (by decide)) (by decide) rfl (fun ls hl => ?_)
        refine lv_goto (tgt := 43) X.1 X.2.1 dX7_duty_79 (by decide) ?_
        obtain rfl := Option.some.inj hf
        exact ih _ _ _ _ (hr1 _ rfl) _ _ _ hw (lv_sub hl [2, 3, 4, 5, 6, 7, 0] rfl) K1
      · have hf := if_e hf c12
        refine lv_iload X.1 X.2.1 dX7_duty_68 (lv_at hl 0 rfl) ?_
        refine lv_istore (lv' := [(5, .int r10), (7, .int r10), (0, .ref (eP E 0)), (1, .int u1), (2, .int u2), (3, .int u3), (4, .int w4), (6, .int w6)]) X.1 X.2.1 dX7_duty_70 hl (by decide) rfl (fun ls hl => ?_)
        refine lv_iload X.1 X.2.1 dX7_duty_72 (lv_at hl 7 rfl) ?_
        refine lv_istore (lv' := [(4, .int w6), (5, .int r10), (7, .int r10), (0, .ref (eP E 0)), (1, .int u1), (2, .int u2), (3, .int u3), (6, .int w6)]) X.1 X.2.1 dX7_duty_74 hl (by decide) rfl (fun ls hl => ?_)
        obtain ⟨v15, e16, hf⟩ := b_bnd hf
        refine lv_iinc (v := v15) (k := 7) (lv' := [(6, .int v15), (4, .int w6), (5, .int r10), (7, .int r10), (0, .ref (eP E 0)), (1, .int u1), (2, .int u2), (3, .int u3)]) X.1 X.2.1 dX7_duty_76 hl rfl (by rw [e16]; exact congrArg _ (by decide)) (by decide) rfl (fun ls hl => ?_)
        refine lv_goto (tgt := 43) X.1 X.2.1 dX7_duty_79 (by decide) ?_
        obtain rfl := Option.some.inj hf
        exact ih _ _ _ _ (hr1 _ rfl) _ _ _ hw (lv_sub hl [4, 5, 6, 7, 1, 2, 0] rfl) K1
set_option maxHeartbeats 4000000 in
set_option maxRecDepth 100000 in
theorem k_X7_duty {l : Launch} {E : en_T} (hE : ShF E) {x1 : Int32} {x2 : Int32} {x3 : Int32} {σ : sg_T} {r : Int32} {σ' : sg_T} (hf : f_X7_duty x1 x2 x3 σ = some (r, σ')) : Ct l yX7_duty cX7_duty 8 (some .int) rm_X7_duty E [.ref (eP E 0), .int x1, .int x2, .int x3] σ (some (.int r)) σ' := by
  refine Ct.start (by decide) hE.1 (Nat.le_of_ble_eq_true rfl) ?_
  intro p e s m below meth c X hw ls hl
  have X : Cx E p s m _ meth c cX7_duty 8 RX7 (some .int) := X
  have hR : ShR E := hE.r
  have hl : lv_has ls 8 [(0, .ref (eP E 0)), (1, .int x1), (2, .int x2), (3, .int x3)] := hl
  unfold f_X7_duty at hf
  refine lv_aload_n X.1 X.2.1 dX7_duty_0 rfl (lv_at hl 0 rfl) ?_
  refine r_get X hw (sp0 hE) (C := RX7) (T := TX7) (N := 9) rfl iwX7 3 (by decide) (Nat.le_of_ble_eq_true rfl) qw421 (v := .ref (eP E 34)) rfl dX7_duty_1 ?_
  refine lv_iload_n X.1 X.2.1 dX7_duty_4 rfl (lv_at hl 1 rfl) ?_
  obtain ⟨r2, h1, hf⟩ := b_bd1 hf
  refine r_callV X hw (k_X1_has hE (Or.inl rfl) h1) (spP0 hE (Or.inl rfl)) (C := RX1) (T := TX1) (N := 10) rfl qw489 qw455 qw456 qw76 qw457 okX1_has ⟨rfl, rfl⟩ ⟨(Nat.le_of_ble_eq_true rfl), (Nat.le_of_ble_eq_true rfl)⟩ ⟨Nat.zero_le _, Nat.zero_le _⟩ rfl hl.1 (rest := []) rfl (Nat.le_of_ble_eq_true rfl) dX7_duty_5 (st1 := [.int r2]) rfl (fun H locs hw => ?_)
  refine lv_if_eq (tgt := 30) X.1 X.2.1 dX7_duty_8 (by decide) (fun c3 => ?_) (fun c3 => ?_)
  · have hf := if_t hf c3
    refine lv_bipush (v := (-2)) X.1 X.2.1 dX7_duty_30 (by decide) ?_
    obtain ⟨rfl, rfl⟩ := Prod.mk.inj (Option.some.inj hf)
    exact r_iret X hw dX7_duty_32
  · have hf := if_e hf c3
    refine lv_iload_n X.1 X.2.1 dX7_duty_11 rfl (lv_at hl 2 rfl) ?_
    refine lv_if_lt (tgt := 30) X.1 X.2.1 dX7_duty_12 (by decide) (fun c4 => ?_) (fun c4 => ?_)
    · have hf := if_t hf c4
      refine lv_bipush (v := (-2)) X.1 X.2.1 dX7_duty_30 (by decide) ?_
      obtain ⟨rfl, rfl⟩ := Prod.mk.inj (Option.some.inj hf)
      exact r_iret X hw dX7_duty_32
    · have hf := if_e hf c4
      refine lv_iload_n X.1 X.2.1 dX7_duty_15 rfl (lv_at hl 2 rfl) ?_
      refine lv_bipush (v := 20) X.1 X.2.1 dX7_duty_16 (by decide) ?_
      refine lv_icmp_gt (tgt := 30) X.1 X.2.1 dX7_duty_18 (by decide) (fun c5 => ?_) (fun c5 => ?_)
      · have hf := if_t hf c5
        refine lv_bipush (v := (-2)) X.1 X.2.1 dX7_duty_30 (by decide) ?_
        obtain ⟨rfl, rfl⟩ := Prod.mk.inj (Option.some.inj hf)
        exact r_iret X hw dX7_duty_32
      · have hf := if_e hf c5
        refine lv_iload_n X.1 X.2.1 dX7_duty_21 rfl (lv_at hl 3 rfl) ?_
        refine lv_if_lt (tgt := 30) X.1 X.2.1 dX7_duty_22 (by decide) (fun c6 => ?_) (fun c6 => ?_)
        · have hf := if_t hf c6
          refine lv_bipush (v := (-2)) X.1 X.2.1 dX7_duty_30 (by decide) ?_
          obtain ⟨rfl, rfl⟩ := Prod.mk.inj (Option.some.inj hf)
          exact r_iret X hw dX7_duty_32
        · have hf := if_e hf c6
          refine lv_iload_n X.1 X.2.1 dX7_duty_25 rfl (lv_at hl 3 rfl) ?_
          refine lv_iconst (v := 1) X.1 X.2.1 dX7_duty_26 (by decide) ?_
          refine lv_icmp_le (tgt := 33) X.1 X.2.1 dX7_duty_27 (by decide) (fun c7 => ?_) (fun c7 => ?_)
          · have hf := if_t hf c7
            refine lv_iconst (v := 0) X.1 X.2.1 dX7_duty_33 (by decide) ?_
            refine lv_istore (lv' := [(4, .int 0), (0, .ref (eP E 0)), (1, .int x1), (2, .int x2), (3, .int x3)]) X.1 X.2.1 dX7_duty_34 hl (by decide) rfl (fun ls hl => ?_)
            refine lv_ldc (v := 1000000) X.1 X.2.1 X.2.2.2.1 (X.2.2.2.2.1 _ qw702) dX7_duty_36 ?_
            refine lv_istore (lv' := [(5, .int 1000000), (4, .int 0), (0, .ref (eP E 0)), (1, .int x1), (2, .int x2), (3, .int x3)]) X.1 X.2.1 dX7_duty_38 hl (by decide) rfl (fun ls hl => ?_)
            refine lv_iconst (v := 0) X.1 X.2.1 dX7_duty_40 (by decide) ?_
            refine lv_istore (lv' := [(6, .int 0), (5, .int 1000000), (4, .int 0), (0, .ref (eP E 0)), (1, .int x1), (2, .int x2), (3, .int x3)]) X.1 X.2.1 dX7_duty_41 hl (by decide) rfl (fun ls hl => ?_)
            obtain ⟨v18, v19, v20, σ21, h17, hf⟩ := b_bd4 hf
            refine w_X7_duty_43 X hE  lfu _ _ _ _ h17 _ _ _ hw (lv_sub hl [3, 4, 5, 6, 2, 1, 0] rfl) (fun yv18 yv19 yv20 yσ21 hq H locs ls hw hl => ?_)
            cases hq
            refine lv_iload_n X.1 X.2.1 dX7_duty_82 rfl (lv_at hl 3 rfl) ?_
            obtain ⟨v23, e24, hf⟩ := b_bnd hf
            refine r_join (g2 := F0 m 93 ls [.int v23]) ?_ (fun hj => ?_)
            · obtain ⟨rfl, rfl⟩ := Prod.mk.inj (Option.some.inj hf)
              exact r_iret X hw dX7_duty_93
            · refine lv_if_ne (tgt := 91) X.1 X.2.1 dX7_duty_83 (by decide) (fun c22 => ?_) (fun c22 => ?_)
              · rw [e24, if_neg c22] at hj
                refine lv_iload X.1 X.2.1 dX7_duty_91 (lv_at hl 5 rfl) ?_
                exact hj
              · rw [e24, if_pos c22] at hj
                refine lv_iload X.1 X.2.1 dX7_duty_86 (lv_at hl 4 rfl) ?_
                refine lv_goto (tgt := 93) X.1 X.2.1 dX7_duty_88 (by decide) ?_
                exact hj
          · have hf := if_e hf c7
            refine lv_bipush (v := (-2)) X.1 X.2.1 dX7_duty_30 (by decide) ?_
            obtain ⟨rfl, rfl⟩ := Prod.mk.inj (Option.some.inj hf)
            exact r_iret X hw dX7_duty_32
abbrev rm_X7_fonder : Room := { frames := 8, cells := 0, slots := 0, locals := 247 }
set_option maxHeartbeats 4000000 in
set_option maxRecDepth 100000 in
theorem w_X7_fonder_50 {p : Program} {l : Launch} {e : Env} {s : State} {m : MethodId} {args : Array Value} {below : List Frame} {meth : Method} {c : Code} {Q : State → Prop} {E : en_T} (X : Cx E p s m args meth c cX7_fonder 8 RX7 (some .int)) (hE : ShF E) {u1 : Int32} {u2 : Int32} {u3 : Int32}  {res : Int32 × Int32 × Int32 × sg_T} :
    ∀ (n : Nat) (w4 : Int32) (w5 : Int32) (w6 : Int32) (σ : sg_T), itr (fun q => b_X7_fonder_50 u1 u2 u3 q.1 q.2.1 q.2.2.1 q.2.2.2) n (w4, w5, w6, σ) = some res → ∀ (H : Heap) (locs : List Loc) (ls : Array Slot), Hw E σ s H locs → lv_has ls 8 [(0, .ref (eP E 0)), (1, .int u1), (2, .int u2), (3, .int u3), (4, .int w4), (5, .int w5), (6, .int w6)] →
    (∀ (y4 : Int32) (y5 : Int32) (y6 : Int32) (τ : sg_T), res = (y4, y5, y6, τ) → ∀ (H : Heap) (locs : List Loc) (ls : Array Slot), Hw E τ s H locs → lv_has ls 8 [(0, .ref (eP E 0)), (1, .int u1), (2, .int u2), (3, .int u3), (4, .int y4), (5, .int y5), (6, .int y6)] → W p l e rm_X7_fonder s m args below meth c H locs 0 0 Q (F0 m 111 ls [])) →
    W p l e rm_X7_fonder s m args below meth c H locs 0 0 Q (F0 m 50 ls []) := by
  have hR : ShR E := hE.r
  intro n
  induction n with
  | zero =>
    intro w4 w5 w6 σ hf0
    exact (itr_0 hf0).elim
  | succ n ih =>
    intro w4 w5 w6 σ hf0 H locs ls hw hl K1
    obtain ⟨r0, hf, hr1, hr2⟩ := itr_s hf0
    have hf : b_X7_fonder_50 u1 u2 u3 w4 w5 w6 σ = some r0 := hf
    unfold b_X7_fonder_50 at hf
    refine lv_iload X.1 X.2.1 dX7_fonder_50 (lv_at hl 6 rfl) ?_
    refine lv_aload_n X.1 X.2.1 dX7_fonder_52 rfl (lv_at hl 0 rfl) ?_
    refine r_get X hw (sp0 hE) (C := RX7) (T := TX7) (N := 9) rfl iwX7 3 (by decide) (Nat.le_of_ble_eq_true rfl) qw421 (v := .ref (eP E 34)) rfl dX7_fonder_53 ?_
    obtain ⟨r12, h11, hf⟩ := b_bd1 hf
    refine r_callV X hw (k_X1_many hE (Or.inl rfl) h11) (spP0 hE (Or.inl rfl)) (C := RX1) (T := TX1) (N := 10) rfl qw677 qw610 qw611 qw76 qw612 okX1_many ⟨rfl, rfl⟩ ⟨(Nat.le_of_ble_eq_true rfl), (Nat.le_of_ble_eq_true rfl)⟩ ⟨Nat.zero_le _, Nat.zero_le _⟩ rfl hl.1 (rest := [.int w6]) rfl (Nat.le_of_ble_eq_true rfl) dX7_fonder_56 (st1 := [.int r12, .int w6]) rfl (fun H locs hw => ?_)
    refine lv_icmp_ge (tgt := 111) X.1 X.2.1 dX7_fonder_59 (by decide) (fun c13 => ?_) (fun c13 => ?_)
    · have hf := if_t hf c13
      obtain rfl := Option.some.inj hf
      obtain rfl := hr2 _ rfl
      exact K1 _ _ _ _ rfl _ _ _ hw (lv_sub hl [0, 1, 2, 3, 4, 5, 6] rfl)
    · have hf := if_e hf c13
      refine lv_iload X.1 X.2.1 dX7_fonder_62 (lv_at hl 6 rfl) ?_
      refine lv_iload_n X.1 X.2.1 dX7_fonder_64 rfl (lv_at hl 1 rfl) ?_
      refine lv_icmp_eq (tgt := 105) X.1 X.2.1 dX7_fonder_65 (by decide) (fun c14 => ?_) (fun c14 => ?_)
      · have hf := if_t hf c14
        obtain ⟨v15, e16, hf⟩ := b_bnd hf
        refine lv_iinc (v := v15) (k := 6) (lv' := [(6, .int v15), (0, .ref (eP E 0)), (1, .int u1), (2, .int u2), (3, .int u3), (4, .int w4), (5, .int w5)]) X.1 X.2.1 dX7_fonder_105 hl rfl (by rw [e16]; exact congrArg _ (by decide)) (by decide) rfl (fun ls hl => ?_)
        refine lv_goto (tgt := 50) X.1 X.2.1 dX7_fonder_108 (by decide) ?_
        obtain rfl := Option.some.inj hf
        exact ih _ _ _ _ (hr1 _ rfl) _ _ _ hw (lv_sub hl [1, 2, 3, 4, 5, 6, 0] rfl) K1
      · have hf := if_e hf c14
        refine lv_aload_n X.1 X.2.1 dX7_fonder_68 rfl (lv_at hl 0 rfl) ?_
        refine lv_iload_n X.1 X.2.1 dX7_fonder_69 rfl (lv_at hl 2 rfl) ?_
        refine lv_bipush (v := 6) X.1 X.2.1 dX7_fonder_70 (by decide) ?_
        refine lv_bipush (v := 10) X.1 X.2.1 dX7_fonder_72 (by decide) ?_
        refine lv_iload_n X.1 X.2.1 dX7_fonder_74 rfl (lv_at hl 1 rfl) ?_
        refine lv_imul X.1 X.2.1 dX7_fonder_75 ?_
        refine lv_iload X.1 X.2.1 dX7_fonder_76 (lv_at hl 6 rfl) ?_
        refine lv_iadd X.1 X.2.1 dX7_fonder_78 ?_
        refine r_hi X hw qw458 dX7_fonder_79 ?_
        refine lv_bipush (v := 6) X.1 X.2.1 dX7_fonder_82 (by decide) ?_
        obtain ⟨h17, hf⟩ := b_ck hf
        refine r_hild X hw h17 dX7_fonder_84 ?_
        obtain ⟨r19, σ20, h18, hf⟩ := b_bd2 hf
        refine r_callV X hw (k_X7_lateBehind hE  h18) (sp0 hE) (C := RX7) (T := TX7) (N := 9) rfl qw703 qw705 qw21 qw67 qw706 okX7_lateBehind ⟨rfl, rfl⟩ ⟨(Nat.le_of_ble_eq_true rfl), (Nat.le_of_ble_eq_true rfl)⟩ ⟨Nat.zero_le _, Nat.zero_le _⟩ rfl hl.1 (rest := []) rfl (Nat.le_of_ble_eq_true rfl) dX7_fonder_85 (st1 := [.int r19]) rfl (fun H locs hw => ?_)
        refine lv_istore (lv' := [(7, .int r19), (0, .ref (eP E 0)), (1, .int u1), (2, .int u2), (3, .int u3), (4, .int w4), (5, .int w5), (6, .int w6)]) X.1 X.2.1 dX7_fonder_88 hl (by decide) rfl (fun ls hl => ?_)
        refine lv_iload X.1 X.2.1 dX7_fonder_90 (lv_at hl 0 rfl) ?_
        refine lv_iload X.1 X.2.1 dX7_fonder_92 (lv_at hl 6 rfl) ?_
        refine lv_icmp_ge (tgt := 105) X.1 X.2.1 dX7_fonder_94 (by decide) (fun c21 => ?_) (fun c21 => ?_)
        · have hf := if_t hf c21
          obtain ⟨v22, e23, hf⟩ := b_bnd hf
          refine lv_iinc (v := v22) (k := 7) (lv' := [(6, .int v22), (7, .int r19), (0, .ref (eP E 0)), (1, .int u1), (2, .int u2), (3, .int u3), (4, .int w4), (5, .int w5)]) X.1 X.2.1 dX7_fonder_105 hl rfl (by rw [e23]; exact congrArg _ (by decide)) (by decide) rfl (fun ls hl => ?_)
          refine lv_goto (tgt := 50) X.1 X.2.1 dX7_fonder_108 (by decide) ?_
          obtain rfl := Option.some.inj hf
          exact ih _ _ _ _ (hr1 _ rfl) _ _ _ hw (lv_sub hl [2, 3, 4, 5, 6, 7, 0] rfl) K1
        · have hf := if_e hf c21
          refine lv_iload X.1 X.2.1 dX7_fonder_97 (lv_at hl 0 rfl) ?_
          refine lv_istore (lv' := [(5, .int r19), (7, .int r19), (0, .ref (eP E 0)), (1, .int u1), (2, .int u2), (3, .int u3), (4, .int w4), (6, .int w6)]) X.1 X.2.1 dX7_fonder_99 hl (by decide) rfl (fun ls hl => ?_)
          refine lv_iload X.1 X.2.1 dX7_fonder_101 (lv_at hl 7 rfl) ?_
          refine lv_istore (lv' := [(4, .int w6), (5, .int r19), (7, .int r19), (0, .ref (eP E 0)), (1, .int u1), (2, .int u2), (3, .int u3), (6, .int w6)]) X.1 X.2.1 dX7_fonder_103 hl (by decide) rfl (fun ls hl => ?_)
          obtain ⟨v24, e25, hf⟩ := b_bnd hf
          refine lv_iinc (v := v24) (k := 7) (lv' := [(6, .int v24), (4, .int w6), (5, .int r19), (7, .int r19), (0, .ref (eP E 0)), (1, .int u1), (2, .int u2), (3, .int u3)]) X.1 X.2.1 dX7_fonder_105 hl rfl (by rw [e25]; exact congrArg _ (by decide)) (by decide) rfl (fun ls hl => ?_)
          refine lv_goto (tgt := 50) X.1 X.2.1 dX7_fonder_108 (by decide) ?_
          obtain rfl := Option.some.inj hf
          exact ih _ _ _ _ (hr1 _ rfl) _ _ _ hw (lv_sub hl [4, 5, 6, 7, 1, 2, 0] rfl) K1
set_option maxHeartbeats 4000000 in
set_option maxRecDepth 100000 in
theorem k_X7_fonder {l : Launch} {E : en_T} (hE : ShF E) {x1 : Int32} {x2 : Int32} {x3 : Int32} {σ : sg_T} {r : Int32} {σ' : sg_T} (hf : f_X7_fonder x1 x2 x3 σ = some (r, σ')) : Ct l yX7_fonder cX7_fonder 8 (some .int) rm_X7_fonder E [.ref (eP E 0), .int x1, .int x2, .int x3] σ (some (.int r)) σ' := by
  refine Ct.start (by decide) hE.1 (Nat.le_of_ble_eq_true rfl) ?_
  intro p e s m below meth c X hw ls hl
  have X : Cx E p s m _ meth c cX7_fonder 8 RX7 (some .int) := X
  have hR : ShR E := hE.r
  have hl : lv_has ls 8 [(0, .ref (eP E 0)), (1, .int x1), (2, .int x2), (3, .int x3)] := hl
  unfold f_X7_fonder at hf
  refine lv_aload_n X.1 X.2.1 dX7_fonder_0 rfl (lv_at hl 0 rfl) ?_
  refine r_get X hw (sp0 hE) (C := RX7) (T := TX7) (N := 9) rfl iwX7 3 (by decide) (Nat.le_of_ble_eq_true rfl) qw421 (v := .ref (eP E 34)) rfl dX7_fonder_1 ?_
  refine lv_iload_n X.1 X.2.1 dX7_fonder_4 rfl (lv_at hl 1 rfl) ?_
  obtain ⟨r2, h1, hf⟩ := b_bd1 hf
  refine r_callV X hw (k_X1_has hE (Or.inl rfl) h1) (spP0 hE (Or.inl rfl)) (C := RX1) (T := TX1) (N := 10) rfl qw489 qw455 qw456 qw76 qw457 okX1_has ⟨rfl, rfl⟩ ⟨(Nat.le_of_ble_eq_true rfl), (Nat.le_of_ble_eq_true rfl)⟩ ⟨Nat.zero_le _, Nat.zero_le _⟩ rfl hl.1 (rest := []) rfl (Nat.le_of_ble_eq_true rfl) dX7_fonder_5 (st1 := [.int r2]) rfl (fun H locs hw => ?_)
  refine lv_if_eq (tgt := 30) X.1 X.2.1 dX7_fonder_8 (by decide) (fun c3 => ?_) (fun c3 => ?_)
  · have hf := if_t hf c3
    refine lv_bipush (v := (-2)) X.1 X.2.1 dX7_fonder_30 (by decide) ?_
    obtain ⟨rfl, rfl⟩ := Prod.mk.inj (Option.some.inj hf)
    exact r_iret X hw dX7_fonder_32
  · have hf := if_e hf c3
    refine lv_iload_n X.1 X.2.1 dX7_fonder_11 rfl (lv_at hl 2 rfl) ?_
    refine lv_if_lt (tgt := 30) X.1 X.2.1 dX7_fonder_12 (by decide) (fun c4 => ?_) (fun c4 => ?_)
    · have hf := if_t hf c4
      refine lv_bipush (v := (-2)) X.1 X.2.1 dX7_fonder_30 (by decide) ?_
      obtain ⟨rfl, rfl⟩ := Prod.mk.inj (Option.some.inj hf)
      exact r_iret X hw dX7_fonder_32
    · have hf := if_e hf c4
      refine lv_iload_n X.1 X.2.1 dX7_fonder_15 rfl (lv_at hl 2 rfl) ?_
      refine lv_bipush (v := 20) X.1 X.2.1 dX7_fonder_16 (by decide) ?_
      refine lv_icmp_gt (tgt := 30) X.1 X.2.1 dX7_fonder_18 (by decide) (fun c5 => ?_) (fun c5 => ?_)
      · have hf := if_t hf c5
        refine lv_bipush (v := (-2)) X.1 X.2.1 dX7_fonder_30 (by decide) ?_
        obtain ⟨rfl, rfl⟩ := Prod.mk.inj (Option.some.inj hf)
        exact r_iret X hw dX7_fonder_32
      · have hf := if_e hf c5
        refine lv_iload_n X.1 X.2.1 dX7_fonder_21 rfl (lv_at hl 3 rfl) ?_
        refine lv_if_lt (tgt := 30) X.1 X.2.1 dX7_fonder_22 (by decide) (fun c6 => ?_) (fun c6 => ?_)
        · have hf := if_t hf c6
          refine lv_bipush (v := (-2)) X.1 X.2.1 dX7_fonder_30 (by decide) ?_
          obtain ⟨rfl, rfl⟩ := Prod.mk.inj (Option.some.inj hf)
          exact r_iret X hw dX7_fonder_32
        · have hf := if_e hf c6
          refine lv_iload_n X.1 X.2.1 dX7_fonder_25 rfl (lv_at hl 3 rfl) ?_
          refine lv_iconst (v := 1) X.1 X.2.1 dX7_fonder_26 (by decide) ?_
          refine lv_icmp_le (tgt := 33) X.1 X.2.1 dX7_fonder_27 (by decide) (fun c7 => ?_) (fun c7 => ?_)
          · have hf := if_t hf c7
            refine lv_iconst (v := (-1)) X.1 X.2.1 dX7_fonder_33 (by decide) ?_
            refine lv_istore (lv' := [(4, .int (-1)), (0, .ref (eP E 0)), (1, .int x1), (2, .int x2), (3, .int x3)]) X.1 X.2.1 dX7_fonder_34 hl (by decide) rfl (fun ls hl => ?_)
            refine lv_aload_n X.1 X.2.1 dX7_fonder_36 rfl (lv_at hl 1 rfl) ?_
            refine lv_iload_n X.1 X.2.1 dX7_fonder_37 rfl (lv_at hl 3 rfl) ?_
            refine lv_bipush (v := 9) X.1 X.2.1 dX7_fonder_38 (by decide) ?_
            refine lv_iconst (v := (-1)) X.1 X.2.1 dX7_fonder_40 (by decide) ?_
            refine lv_iconst (v := (-1)) X.1 X.2.1 dX7_fonder_41 (by decide) ?_
            obtain ⟨r9, σ10, h8, hf⟩ := b_bd2 hf
            refine r_callV X hw (k_X7_lateBehind hE  h8) (sp0 hE) (C := RX7) (T := TX7) (N := 9) rfl qw703 qw705 qw21 qw67 qw706 okX7_lateBehind ⟨rfl, rfl⟩ ⟨(Nat.le_of_ble_eq_true rfl), (Nat.le_of_ble_eq_true rfl)⟩ ⟨Nat.zero_le _, Nat.zero_le _⟩ rfl hl.1 (rest := []) rfl (Nat.le_of_ble_eq_true rfl) dX7_fonder_42 (st1 := [.int r9]) rfl (fun H locs hw => ?_)
            refine lv_istore (lv' := [(5, .int r9), (4, .int (-1)), (0, .ref (eP E 0)), (1, .int x1), (2, .int x2), (3, .int x3)]) X.1 X.2.1 dX7_fonder_45 hl (by decide) rfl (fun ls hl => ?_)
            refine lv_iconst (v := 0) X.1 X.2.1 dX7_fonder_47 (by decide) ?_
            refine lv_istore (lv' := [(6, .int 0), (5, .int r9), (4, .int (-1)), (0, .ref (eP E 0)), (1, .int x1), (2, .int x2), (3, .int x3)]) X.1 X.2.1 dX7_fonder_48 hl (by decide) rfl (fun ls hl => ?_)
            obtain ⟨v27, v28, v29, σ30, h26, hf⟩ := b_bd4 hf
            refine w_X7_fonder_50 X hE  lfu _ _ _ _ h26 _ _ _ hw (lv_sub hl [3, 4, 5, 6, 2, 1, 0] rfl) (fun yv27 yv28 yv29 yσ30 hq H locs ls hw hl => ?_)
            cases hq
            refine lv_iload_n X.1 X.2.1 dX7_fonder_111 rfl (lv_at hl 3 rfl) ?_
            obtain ⟨v32, e33, hf⟩ := b_bnd hf
            refine r_join (g2 := F0 m 122 ls [.int v32]) ?_ (fun hj => ?_)
            · obtain ⟨rfl, rfl⟩ := Prod.mk.inj (Option.some.inj hf)
              exact r_iret X hw dX7_fonder_122
            · refine lv_if_ne (tgt := 120) X.1 X.2.1 dX7_fonder_112 (by decide) (fun c31 => ?_) (fun c31 => ?_)
              · rw [e33, if_neg c31] at hj
                refine lv_iload X.1 X.2.1 dX7_fonder_120 (lv_at hl 5 rfl) ?_
                exact hj
              · rw [e33, if_pos c31] at hj
                refine lv_iload X.1 X.2.1 dX7_fonder_115 (lv_at hl 4 rfl) ?_
                refine lv_goto (tgt := 122) X.1 X.2.1 dX7_fonder_117 (by decide) ?_
                exact hj
          · have hf := if_e hf c7
            refine lv_bipush (v := (-2)) X.1 X.2.1 dX7_fonder_30 (by decide) ?_
            obtain ⟨rfl, rfl⟩ := Prod.mk.inj (Option.some.inj hf)
            exact r_iret X hw dX7_fonder_32
abbrev rm_X7_partOf : Room := { frames := 0, cells := 0, slots := 0, locals := 0 }
set_option maxHeartbeats 4000000 in
set_option maxRecDepth 100000 in
theorem w_X7_partOf_2 {p : Program} {l : Launch} {e : Env} {s : State} {m : MethodId} {args : Array Value} {below : List Frame} {meth : Method} {c : Code} {Q : State → Prop} {E : en_T} (X : Cx E p s m args meth c cX7_partOf 4 RX7 (some .long)) (hE : ShF E) {u0 : Int32} {u1 : Int32} {u2 : Int32} {σ : sg_T} {res : (Int32) ⊕ (Int64)} :
    ∀ (n : Nat) (w3 : Int32), itr (fun q => b_X7_partOf_2 u0 u1 u2 q σ) n w3 = some res → ∀ (H : Heap) (locs : List Loc) (ls : Array Slot), Hw E σ s H locs → lv_has ls 4 [(0, .int u0), (1, .int u1), (2, .int u2), (3, .int w3)] →
    (∀ (y3 : Int32), res = .inl y3 → ∀ (H : Heap) (locs : List Loc) (ls : Array Slot), Hw E σ s H locs → lv_has ls 4 [(0, .int u0), (1, .int u1), (2, .int u2), (3, .int y3)] → W p l e rm_X7_partOf s m args below meth c H locs 0 0 Q (F0 m 41 ls [])) →
    (∀ (r : Int64), res = .inr r → Q = MQ below (Qf E (some (.long r)) σ) args s 0 0 (en_A E)) →
    W p l e rm_X7_partOf s m args below meth c H locs 0 0 Q (F0 m 2 ls []) := by
  have hR : ShR E := hE.r
  intro n
  induction n with
  | zero =>
    intro w3 hf0
    exact (itr_0 hf0).elim
  | succ n ih =>
    intro w3 hf0 H locs ls hw hl K1 K2
    obtain ⟨r0, hf, hr1, hr2⟩ := itr_s hf0
    have hf : b_X7_partOf_2 u0 u1 u2 w3 σ = some r0 := hf
    unfold b_X7_partOf_2 at hf
    refine lv_iload_n X.1 X.2.1 dX7_partOf_2 rfl (lv_at hl 3 rfl) ?_
    refine lv_iconst (v := 1) X.1 X.2.1 dX7_partOf_3 (by decide) ?_
    refine lv_icmp_le (tgt := 41) X.1 X.2.1 dX7_partOf_4 (by decide) (fun c1 => ?_) (fun c1 => ?_)
    · have hf := if_t hf c1
      obtain rfl := Option.some.inj hf
      obtain rfl := hr2 _ rfl
      exact K1 _ rfl _ _ _ hw (lv_sub hl [0, 1, 2, 3] rfl)
    · have hf := if_e hf c1
      refine lv_iload_n X.1 X.2.1 dX7_partOf_7 rfl (lv_at hl 0 rfl) ?_
      refine lv_iload_n X.1 X.2.1 dX7_partOf_8 rfl (lv_at hl 3 rfl) ?_
      obtain ⟨h2, hf⟩ := b_dz hf
      refine r_irem X dX7_partOf_9 h2 ?_
      refine lv_if_ne (tgt := 35) X.1 X.2.1 dX7_partOf_10 (by decide) (fun c3 => ?_) (fun c3 => ?_)
      · have hf := if_e hf c3
        obtain ⟨v4, e5, hf⟩ := b_bnd hf
        refine lv_iinc (v := v4) (k := 3) (lv' := [(3, .int v4), (0, .int u0), (1, .int u1), (2, .int u2)]) X.1 X.2.1 dX7_partOf_35 hl rfl (by rw [e5]; exact congrArg _ (by decide)) (by decide) rfl (fun ls hl => ?_)
        refine lv_goto (tgt := 2) X.1 X.2.1 dX7_partOf_38 (by decide) ?_
        obtain rfl := Option.some.inj hf
        exact ih _ (hr1 _ rfl) _ _ _ hw (lv_sub hl [1, 2, 3, 0] rfl) K1 K2
      · have hf := if_t hf c3
        refine lv_iload_n X.1 X.2.1 dX7_partOf_13 rfl (lv_at hl 1 rfl) ?_
        refine lv_iload_n X.1 X.2.1 dX7_partOf_14 rfl (lv_at hl 3 rfl) ?_
        obtain ⟨h6, hf⟩ := b_dz hf
        refine r_irem X dX7_partOf_15 h6 ?_
        refine lv_if_ne (tgt := 35) X.1 X.2.1 dX7_partOf_16 (by decide) (fun c7 => ?_) (fun c7 => ?_)
        · have hf := if_e hf c7
          obtain ⟨v8, e9, hf⟩ := b_bnd hf
          refine lv_iinc (v := v8) (k := 3) (lv' := [(3, .int v8), (0, .int u0), (1, .int u1), (2, .int u2)]) X.1 X.2.1 dX7_partOf_35 hl rfl (by rw [e9]; exact congrArg _ (by decide)) (by decide) rfl (fun ls hl => ?_)
          refine lv_goto (tgt := 2) X.1 X.2.1 dX7_partOf_38 (by decide) ?_
          obtain rfl := Option.some.inj hf
          exact ih _ (hr1 _ rfl) _ _ _ hw (lv_sub hl [1, 2, 3, 0] rfl) K1 K2
        · have hf := if_t hf c7
          refine lv_iload_n X.1 X.2.1 dX7_partOf_19 rfl (lv_at hl 2 rfl) ?_
          refine lv_if_ne (tgt := 30) X.1 X.2.1 dX7_partOf_20 (by decide) (fun c10 => ?_) (fun c10 => ?_)
          · have hf := if_e hf c10
            refine lv_iload_n X.1 X.2.1 dX7_partOf_30 rfl (lv_at hl 1 rfl) ?_
            refine lv_iload_n X.1 X.2.1 dX7_partOf_31 rfl (lv_at hl 3 rfl) ?_
            obtain ⟨h11, hf⟩ := b_dz hf
            refine lv_idiv X.1 X.2.1 dX7_partOf_32 h11 ?_
            refine lv_i2l (v := ((u1 / w3)).toInt64) X.1 X.2.1 dX7_partOf_33 rfl ?_
            obtain rfl := Option.some.inj hf
            obtain rfl := hr2 _ rfl
            rw [K2 _ rfl]
            exact r_lret X hw dX7_partOf_34
          · have hf := if_t hf c10
            refine lv_iload_n X.1 X.2.1 dX7_partOf_23 rfl (lv_at hl 0 rfl) ?_
            refine lv_iload_n X.1 X.2.1 dX7_partOf_24 rfl (lv_at hl 3 rfl) ?_
            obtain ⟨h12, hf⟩ := b_dz hf
            refine lv_idiv X.1 X.2.1 dX7_partOf_25 h12 ?_
            refine lv_i2l (v := ((u0 / w3)).toInt64) X.1 X.2.1 dX7_partOf_26 rfl ?_
            refine lv_goto (tgt := 34) X.1 X.2.1 dX7_partOf_27 (by decide) ?_
            obtain rfl := Option.some.inj hf
            obtain rfl := hr2 _ rfl
            rw [K2 _ rfl]
            exact r_lret X hw dX7_partOf_34
set_option maxHeartbeats 4000000 in
set_option maxRecDepth 100000 in
theorem k_X7_partOf {l : Launch} {E : en_T} (hE : ShF E) {x1 : Int32} {x2 : Int32} {x3 : Int32} {σ : sg_T} {r : Int64} (hf : f_X7_partOf x1 x2 x3 σ = some r) : Ct l yX7_partOf cX7_partOf 4 (some .long) rm_X7_partOf E [.int x1, .int x2, .int x3] σ (some (.long r)) σ := by
  refine Ct.start (by decide) hE.1 (Nat.le_of_ble_eq_true rfl) ?_
  intro p e s m below meth c X hw ls hl
  have X : Cx E p s m _ meth c cX7_partOf 4 RX7 (some .long) := X
  have hR : ShR E := hE.r
  have hl : lv_has ls 4 [(0, .int x1), (1, .int x2), (2, .int x3)] := hl
  unfold f_X7_partOf at hf
  refine lv_iload_n X.1 X.2.1 dX7_partOf_0 rfl (lv_at hl 1 rfl) ?_
  refine lv_istore_n (lv' := [(3, .int x2), (0, .int x1), (1, .int x2), (2, .int x3)]) X.1 X.2.1 dX7_partOf_1 rfl hl (by decide) rfl (fun ls hl => ?_)
  obtain ⟨r15, h13, hf⟩ := b_bs hf
  rcases hf with ⟨v14, rfl, hf⟩ | ⟨r16, rfl, hf⟩
  · refine w_X7_partOf_2 X hE  lfu _ h13 _ _ _ hw (lv_sub hl [1, 2, 3, 0] rfl) (fun yv14 hq H locs ls hw hl => ?_) (fun _ hq => by cases hq)
    cases hq
    refine lv_iload_n X.1 X.2.1 dX7_partOf_41 rfl (lv_at hl 2 rfl) ?_
    refine lv_if_ne (tgt := 50) X.1 X.2.1 dX7_partOf_42 (by decide) (fun c17 => ?_) (fun c17 => ?_)
    · have hf := if_e hf c17
      refine lv_iload_n X.1 X.2.1 dX7_partOf_50 rfl (lv_at hl 1 rfl) ?_
      refine lv_i2l (v := (x2).toInt64) X.1 X.2.1 dX7_partOf_51 rfl ?_
      obtain rfl := Option.some.inj hf
      exact r_lret X hw dX7_partOf_52
    · have hf := if_t hf c17
      refine lv_iload_n X.1 X.2.1 dX7_partOf_45 rfl (lv_at hl 0 rfl) ?_
      refine lv_i2l (v := (x1).toInt64) X.1 X.2.1 dX7_partOf_46 rfl ?_
      refine lv_goto (tgt := 52) X.1 X.2.1 dX7_partOf_47 (by decide) ?_
      obtain rfl := Option.some.inj hf
      exact r_lret X hw dX7_partOf_52
  · refine w_X7_partOf_2 X hE  lfu _ h13 _ _ _ hw (lv_sub hl [1, 2, 3, 0] rfl) (fun _ hq => by cases hq) (fun _ hq => ?_)
    cases hq
    cases hf
    rfl
abbrev rm_X7_mean : Room := { frames := 4, cells := 0, slots := 0, locals := 167 }
set_option maxHeartbeats 4000000 in
set_option maxRecDepth 100000 in
theorem k_X7_mean {l : Launch} {E : en_T} (hE : ShF E) {x1 : Int32} {σ : sg_T} {r : Int64} (hf : f_X7_mean x1 σ = some r) : Ct l yX7_mean cX7_mean 2 (some .long) rm_X7_mean E [.ref (eP E 0), .int x1] σ (some (.long r)) σ := by
  refine Ct.start (by decide) hE.1 (Nat.le_of_ble_eq_true rfl) ?_
  intro p e s m below meth c X hw ls hl
  have X : Cx E p s m _ meth c cX7_mean 2 RX7 (some .long) := X
  have hR : ShR E := hE.r
  have hl : lv_has ls 2 [(0, .ref (eP E 0)), (1, .int x1)] := hl
  unfold f_X7_mean at hf
  refine lv_iload_n X.1 X.2.1 dX7_mean_0 rfl (lv_at hl 1 rfl) ?_
  refine lv_if_lt (tgt := 19) X.1 X.2.1 dX7_mean_1 (by decide) (fun c1 => ?_) (fun c1 => ?_)
  · have hf := if_t hf c1
    refine lv_ldc2 (v := (-4611686018427387904)) X.1 X.2.1 X.2.2.2.1 (X.2.2.2.2.1 _ qw715) dX7_mean_19 ?_
    obtain rfl := Option.some.inj hf
    exact r_lret X hw dX7_mean_22
  · have hf := if_e hf c1
    refine lv_iload_n X.1 X.2.1 dX7_mean_4 rfl (lv_at hl 1 rfl) ?_
    refine lv_iconst (v := 1) X.1 X.2.1 dX7_mean_5 (by decide) ?_
    refine lv_icmp_gt (tgt := 19) X.1 X.2.1 dX7_mean_6 (by decide) (fun c2 => ?_) (fun c2 => ?_)
    · have hf := if_t hf c2
      refine lv_ldc2 (v := (-4611686018427387904)) X.1 X.2.1 X.2.2.2.1 (X.2.2.2.2.1 _ qw715) dX7_mean_19 ?_
      obtain rfl := Option.some.inj hf
      exact r_lret X hw dX7_mean_22
    · have hf := if_e hf c2
      refine lv_aload_n X.1 X.2.1 dX7_mean_9 rfl (lv_at hl 0 rfl) ?_
      refine r_get X hw (sp0 hE) (C := RX7) (T := TX7) (N := 9) rfl iwX7 3 (by decide) (Nat.le_of_ble_eq_true rfl) qw421 (v := .ref (eP E 34)) rfl dX7_mean_10 ?_
      obtain ⟨r4, h3, hf⟩ := b_bd1 hf
      refine r_callV X hw (k_X1_many hE (Or.inl rfl) h3) (spP0 hE (Or.inl rfl)) (C := RX1) (T := TX1) (N := 10) rfl qw677 qw610 qw611 qw76 qw612 okX1_many ⟨rfl, rfl⟩ ⟨(Nat.le_of_ble_eq_true rfl), (Nat.le_of_ble_eq_true rfl)⟩ ⟨Nat.zero_le _, Nat.zero_le _⟩ rfl hl.1 (rest := []) rfl (Nat.le_of_ble_eq_true rfl) dX7_mean_13 (st1 := [.int r4]) rfl (fun H locs hw => ?_)
      refine lv_if_ne (tgt := 23) X.1 X.2.1 dX7_mean_16 (by decide) (fun c5 => ?_) (fun c5 => ?_)
      · have hf := if_e hf c5
        refine lv_aload_n X.1 X.2.1 dX7_mean_23 rfl (lv_at hl 0 rfl) ?_
        refine r_get X hw (sp0 hE) (C := RX7) (T := TX7) (N := 9) rfl iwX7 3 (by decide) (Nat.le_of_ble_eq_true rfl) qw421 (v := .ref (eP E 34)) rfl dX7_mean_24 ?_
        refine lv_iconst (v := 5) X.1 X.2.1 dX7_mean_27 (by decide) ?_
        obtain ⟨r7, h6, hf⟩ := b_bd1 hf
        refine r_callV X hw (k_X1_sum hE (Or.inl rfl) h6) (spP0 hE (Or.inl rfl)) (C := RX1) (T := TX1) (N := 10) rfl qw664 qw665 qw666 qw76 qw667 okX1_sum ⟨rfl, rfl⟩ ⟨(Nat.le_of_ble_eq_true rfl), (Nat.le_of_ble_eq_true rfl)⟩ ⟨Nat.zero_le _, Nat.zero_le _⟩ rfl hl.1 (rest := []) rfl (Nat.le_of_ble_eq_true rfl) dX7_mean_28 (st1 := [.int r7]) rfl (fun H locs hw => ?_)
        refine lv_aload_n X.1 X.2.1 dX7_mean_31 rfl (lv_at hl 0 rfl) ?_
        refine r_get X hw (sp0 hE) (C := RX7) (T := TX7) (N := 9) rfl iwX7 3 (by decide) (Nat.le_of_ble_eq_true rfl) qw421 (v := .ref (eP E 34)) rfl dX7_mean_32 ?_
        obtain ⟨r9, h8, hf⟩ := b_bd1 hf
        refine r_callV X hw (k_X1_many hE (Or.inl rfl) h8) (spP0 hE (Or.inl rfl)) (C := RX1) (T := TX1) (N := 10) rfl qw677 qw610 qw611 qw76 qw612 okX1_many ⟨rfl, rfl⟩ ⟨(Nat.le_of_ble_eq_true rfl), (Nat.le_of_ble_eq_true rfl)⟩ ⟨Nat.zero_le _, Nat.zero_le _⟩ rfl hl.1 (rest := [.int r7]) rfl (Nat.le_of_ble_eq_true rfl) dX7_mean_35 (st1 := [.int r9, .int r7]) rfl (fun H locs hw => ?_)
        refine lv_iload_n X.1 X.2.1 dX7_mean_38 rfl (lv_at hl 1 rfl) ?_
        obtain ⟨r11, h10, hf⟩ := b_bd1 hf
        refine r_callS X hw (k_X7_partOf hE  h10) qw716 qw717 qw67 qw718 okX7_partOf ⟨rfl, rfl⟩ ⟨(Nat.le_of_ble_eq_true rfl), (Nat.le_of_ble_eq_true rfl)⟩ ⟨Nat.zero_le _, Nat.zero_le _⟩ rfl hl.1 (rest := []) rfl (Nat.le_of_ble_eq_true rfl) dX7_mean_39 (st1 := [.long r11]) rfl (fun H locs hw => ?_)
        obtain rfl := Option.some.inj hf
        exact r_lret X hw dX7_mean_42
      · have hf := if_t hf c5
        refine lv_ldc2 (v := (-4611686018427387904)) X.1 X.2.1 X.2.2.2.1 (X.2.2.2.2.1 _ qw715) dX7_mean_19 ?_
        obtain rfl := Option.some.inj hf
        exact r_lret X hw dX7_mean_22
abbrev rm_X7_isSheet : Room := { frames := 0, cells := 0, slots := 0, locals := 0 }
set_option maxHeartbeats 4000000 in
set_option maxRecDepth 100000 in
theorem k_X7_isSheet {l : Launch} {E : en_T} (hE : ShF E) {x1 : Int32} {σ : sg_T} {r : Int32} (hf : f_X7_isSheet x1 σ = some r) : Ct l yX7_isSheet cX7_isSheet 1 (some .boolean) rm_X7_isSheet E [.int x1] σ (some (.int r)) σ := by
  refine Ct.start (by decide) hE.1 (Nat.le_of_ble_eq_true rfl) ?_
  intro p e s m below meth c X hw ls hl
  have X : Cx E p s m _ meth c cX7_isSheet 1 RX7 (some .boolean) := X
  have hR : ShR E := hE.r
  have hl : lv_has ls 1 [(0, .int x1)] := hl
  unfold f_X7_isSheet at hf
  refine lv_iload_n X.1 X.2.1 dX7_isSheet_0 rfl (lv_at hl 0 rfl) ?_
  refine lv_if_lt (tgt := 13) X.1 X.2.1 dX7_isSheet_1 (by decide) (fun c1 => ?_) (fun c1 => ?_)
  · have hf := if_t hf c1
    refine lv_iconst (v := 0) X.1 X.2.1 dX7_isSheet_13 (by decide) ?_
    obtain rfl := Option.some.inj hf
    exact r_zret X hw (by decide) dX7_isSheet_14
  · have hf := if_e hf c1
    refine lv_iload_n X.1 X.2.1 dX7_isSheet_4 rfl (lv_at hl 0 rfl) ?_
    refine lv_iconst (v := 4) X.1 X.2.1 dX7_isSheet_5 (by decide) ?_
    obtain ⟨v3, e4, hf⟩ := b_bnd hf
    refine r_join (g2 := F0 m 14 ls [.int v3]) ?_ (fun hj => ?_)
    · obtain ⟨h5, hf⟩ := b_cz hf
      obtain rfl := Option.some.inj hf
      exact r_zret X hw (cz_and h5) dX7_isSheet_14
    · refine lv_icmp_ge (tgt := 13) X.1 X.2.1 dX7_isSheet_6 (by decide) (fun c2 => ?_) (fun c2 => ?_)
      · rw [e4, if_pos c2] at hj
        refine lv_iconst (v := 0) X.1 X.2.1 dX7_isSheet_13 (by decide) ?_
        exact hj
      · rw [e4, if_neg c2] at hj
        refine lv_iconst (v := 1) X.1 X.2.1 dX7_isSheet_9 (by decide) ?_
        refine lv_goto (tgt := 14) X.1 X.2.1 dX7_isSheet_10 (by decide) ?_
        exact hj
abbrev rm_X7_firstOtherwise : Room := { frames := 6, cells := 0, slots := 0, locals := 201 }
set_option maxHeartbeats 4000000 in
set_option maxRecDepth 100000 in
theorem w_X7_firstOtherwise_26 {p : Program} {l : Launch} {e : Env} {s : State} {m : MethodId} {args : Array Value} {below : List Frame} {meth : Method} {c : Code} {Q : State → Prop} {E : en_T} (X : Cx E p s m args meth c cX7_firstOtherwise 7 RX7 (some .int)) (hE : ShF E) {o51 : Nat} (ho51 : isS o51) {u2 : Int32} {u3 : Int32} {u4 : Int32} {u5 : Int32}  {res : (Int32 × sg_T) ⊕ (Int32 × sg_T)} :
    ∀ (n : Nat) (w6 : Int32) (σ : sg_T), itr (fun q => b_X7_firstOtherwise_26 o51 u2 u3 u4 u5 q.1 q.2) n (w6, σ) = some res → ∀ (H : Heap) (locs : List Loc) (ls : Array Slot), Hw E σ s H locs → lv_has ls 7 [(0, .ref (eP E 0)), (1, .ref (eP E o51)), (2, .int u2), (3, .int u3), (4, .int u4), (5, .int u5), (6, .int w6)] →
    (∀ (y6 : Int32) (τ : sg_T), res = .inl (y6, τ) → ∀ (H : Heap) (locs : List Loc) (ls : Array Slot), Hw E τ s H locs → lv_has ls 7 [(0, .ref (eP E 0)), (1, .ref (eP E o51)), (2, .int u2), (3, .int u3), (4, .int u4), (5, .int u5), (6, .int y6)] → W p l e rm_X7_firstOtherwise s m args below meth c H locs 0 0 Q (F0 m 83 ls [])) →
    (∀ (r : Int32) (σ' : sg_T), res = .inr (r, σ') → Q = MQ below (Qf E (some (.int r)) σ') args s 0 0 (en_A E)) →
    W p l e rm_X7_firstOtherwise s m args below meth c H locs 0 0 Q (F0 m 26 ls []) := by
  have hR : ShR E := hE.r
  intro n
  induction n with
  | zero =>
    intro w6 σ hf0
    exact (itr_0 hf0).elim
  | succ n ih =>
    intro w6 σ hf0 H locs ls hw hl K1 K2
    obtain ⟨r0, hf, hr1, hr2⟩ := itr_s hf0
    have hf : b_X7_firstOtherwise_26 o51 u2 u3 u4 u5 w6 σ = some r0 := hf
    unfold b_X7_firstOtherwise_26 at hf
    refine lv_iload X.1 X.2.1 dX7_firstOtherwise_26 (lv_at hl 6 rfl) ?_
    refine lv_aload_n X.1 X.2.1 dX7_firstOtherwise_28 rfl (lv_at hl 1 rfl) ?_
    obtain ⟨r6, h5, hf⟩ := b_bd1 hf
    refine r_callV X hw (k_X4_size hE ho51 h5) (spS0 hE ho51) (C := RX4) (T := TX4) (N := 3) rfl qw730 qw731 qw732 qw78 qw733 okX4_size ⟨rfl, rfl⟩ ⟨(Nat.le_of_ble_eq_true rfl), (Nat.le_of_ble_eq_true rfl)⟩ ⟨Nat.zero_le _, Nat.zero_le _⟩ rfl hl.1 (rest := [.int w6]) rfl (Nat.le_of_ble_eq_true rfl) dX7_firstOtherwise_29 (st1 := [.int r6, .int w6]) rfl (fun H locs hw => ?_)
    refine lv_icmp_ge (tgt := 83) X.1 X.2.1 dX7_firstOtherwise_32 (by decide) (fun c7 => ?_) (fun c7 => ?_)
    · have hf := if_t hf c7
      obtain rfl := Option.some.inj hf
      obtain rfl := hr2 _ rfl
      exact K1 _ _ rfl _ _ _ hw (lv_sub hl [0, 1, 2, 3, 4, 5, 6] rfl)
    · have hf := if_e hf c7
      refine lv_aload_n X.1 X.2.1 dX7_firstOtherwise_35 rfl (lv_at hl 0 rfl) ?_
      refine r_get X hw (sp0 hE) (C := RX7) (T := TX7) (N := 9) rfl iwX7 2 (by decide) (Nat.le_of_ble_eq_true rfl) qw420 (v := .ref (eP E 28)) rfl dX7_firstOtherwise_36 ?_
      refine lv_aload_n X.1 X.2.1 dX7_firstOtherwise_39 rfl (lv_at hl 0 rfl) ?_
      refine r_get X hw (sp0 hE) (C := RX7) (T := TX7) (N := 9) rfl iwX7 4 (by decide) (Nat.le_of_ble_eq_true rfl) qw422 (v := .ref (eP E 42)) rfl dX7_firstOtherwise_40 ?_
      obtain ⟨σ9, h8, hf⟩ := b_bd1 hf
      refine r_callV X hw (k_X0_dawn hE (Or.inr (Or.inl rfl)) h8) (sp28 hE) (C := RX0) (T := TX0) (N := 6) rfl qw605 qw606 qw607 qw75 qw608 okX0_dawn ⟨rfl, rfl⟩ ⟨(Nat.le_of_ble_eq_true rfl), (Nat.le_of_ble_eq_true rfl)⟩ ⟨Nat.zero_le _, Nat.zero_le _⟩ rfl hl.1 (rest := []) rfl (Nat.le_of_ble_eq_true rfl) dX7_firstOtherwise_43 (st1 := []) rfl (fun H locs hw => ?_)
      refine lv_aload_n X.1 X.2.1 dX7_firstOtherwise_46 rfl (lv_at hl 0 rfl) ?_
      refine r_get X hw (sp0 hE) (C := RX7) (T := TX7) (N := 9) rfl iwX7 2 (by decide) (Nat.le_of_ble_eq_true rfl) qw420 (v := .ref (eP E 28)) rfl dX7_firstOtherwise_47 ?_
      refine lv_iload_n X.1 X.2.1 dX7_firstOtherwise_50 rfl (lv_at hl 2 rfl) ?_
      obtain ⟨r11, h10, hf⟩ := b_bd1 hf
      refine r_callV X hw (k_X0_hour hE  h10) (sp28 hE) (C := RX0) (T := TX0) (N := 6) rfl qw738 qw739 qw740 qw75 qw741 okX0_hour ⟨rfl, rfl⟩ ⟨(Nat.le_of_ble_eq_true rfl), (Nat.le_of_ble_eq_true rfl)⟩ ⟨Nat.zero_le _, Nat.zero_le _⟩ rfl hl.1 (rest := []) rfl (Nat.le_of_ble_eq_true rfl) dX7_firstOtherwise_51 (st1 := [.int r11]) rfl (fun H locs hw => ?_)
      refine lv_aload_n X.1 X.2.1 dX7_firstOtherwise_54 rfl (lv_at hl 1 rfl) ?_
      refine lv_iload X.1 X.2.1 dX7_firstOtherwise_55 (lv_at hl 6 rfl) ?_
      obtain ⟨r13, h12, hf⟩ := b_bd1 hf
      refine r_callV X hw (k_X4_get hE ho51 h12) (spS0 hE ho51) (C := RX4) (T := TX4) (N := 3) rfl qw742 qw743 qw744 qw78 qw745 okX4_get ⟨rfl, rfl⟩ ⟨(Nat.le_of_ble_eq_true rfl), (Nat.le_of_ble_eq_true rfl)⟩ ⟨Nat.zero_le _, Nat.zero_le _⟩ rfl hl.1 (rest := [.int r11]) rfl (Nat.le_of_ble_eq_true rfl) dX7_firstOtherwise_57 (st1 := [.int r13, .int r11]) rfl (fun H locs hw => ?_)
      refine lv_icmp_eq (tgt := 66) X.1 X.2.1 dX7_firstOtherwise_60 (by decide) (fun c14 => ?_) (fun c14 => ?_)
      · have hf := if_t hf c14
        refine lv_aload_n X.1 X.2.1 dX7_firstOtherwise_66 rfl (lv_at hl 0 rfl) ?_
        refine r_get X hw (sp0 hE) (C := RX7) (T := TX7) (N := 9) rfl iwX7 2 (by decide) (Nat.le_of_ble_eq_true rfl) qw420 (v := .ref (eP E 28)) rfl dX7_firstOtherwise_67 ?_
        refine lv_aload_n X.1 X.2.1 dX7_firstOtherwise_70 rfl (lv_at hl 0 rfl) ?_
        refine r_get X hw (sp0 hE) (C := RX7) (T := TX7) (N := 9) rfl iwX7 4 (by decide) (Nat.le_of_ble_eq_true rfl) qw422 (v := .ref (eP E 42)) rfl dX7_firstOtherwise_71 ?_
        obtain ⟨σ16, h15, hf⟩ := b_bd1 hf
        refine r_callV X hw (k_X0_settle hE (Or.inr (Or.inl rfl)) h15) (sp28 hE) (C := RX0) (T := TX0) (N := 6) rfl qw615 qw616 qw617 qw75 qw618 okX0_settle ⟨rfl, rfl⟩ ⟨(Nat.le_of_ble_eq_true rfl), (Nat.le_of_ble_eq_true rfl)⟩ ⟨Nat.zero_le _, Nat.zero_le _⟩ rfl hl.1 (rest := []) rfl (Nat.le_of_ble_eq_true rfl) dX7_firstOtherwise_74 (st1 := []) rfl (fun H locs hw => ?_)
        obtain ⟨v17, e18, hf⟩ := b_bnd hf
        refine lv_iinc (v := v17) (k := 6) (lv' := [(6, .int v17), (0, .ref (eP E 0)), (1, .ref (eP E o51)), (2, .int u2), (3, .int u3), (4, .int u4), (5, .int u5)]) X.1 X.2.1 dX7_firstOtherwise_77 hl rfl (by rw [e18]; exact congrArg _ (by decide)) (by decide) rfl (fun ls hl => ?_)
        refine lv_goto (tgt := 26) X.1 X.2.1 dX7_firstOtherwise_80 (by decide) ?_
        obtain rfl := Option.some.inj hf
        exact ih _ _ (hr1 _ rfl) _ _ _ hw (lv_sub hl [1, 2, 3, 4, 5, 6, 0] rfl) K1 K2
      · have hf := if_e hf c14
        refine lv_iload X.1 X.2.1 dX7_firstOtherwise_63 (lv_at hl 6 rfl) ?_
        obtain rfl := Option.some.inj hf
        obtain rfl := hr2 _ rfl
        rw [K2 _ _ rfl]
        exact r_iret X hw dX7_firstOtherwise_65
set_option maxHeartbeats 4000000 in
set_option maxRecDepth 100000 in
theorem k_X7_firstOtherwise {l : Launch} {E : en_T} (hE : ShF E) {o1 : Nat} (ho1 : isS o1) {x2 : Int32} {x3 : Int32} {x4 : Int32} {x5 : Int32} {σ : sg_T} {r : Int32} {σ' : sg_T} (hf : f_X7_firstOtherwise o1 x2 x3 x4 x5 σ = some (r, σ')) : Ct l yX7_firstOtherwise cX7_firstOtherwise 7 (some .int) rm_X7_firstOtherwise E [.ref (eP E 0), .ref (eP E o1), .int x2, .int x3, .int x4, .int x5] σ (some (.int r)) σ' := by
  refine Ct.start (by decide) hE.1 (Nat.le_of_ble_eq_true rfl) ?_
  intro p e s m below meth c X hw ls hl
  have X : Cx E p s m _ meth c cX7_firstOtherwise 7 RX7 (some .int) := X
  have hR : ShR E := hE.r
  have hl : lv_has ls 7 [(0, .ref (eP E 0)), (1, .ref (eP E o1)), (2, .int x2), (3, .int x3), (4, .int x4), (5, .int x5)] := hl
  unfold f_X7_firstOtherwise at hf
  refine lv_aload_n X.1 X.2.1 dX7_firstOtherwise_0 rfl (lv_at hl 0 rfl) ?_
  refine r_get X hw (sp0 hE) (C := RX7) (T := TX7) (N := 9) rfl iwX7 4 (by decide) (Nat.le_of_ble_eq_true rfl) qw422 (v := .ref (eP E 42)) rfl dX7_firstOtherwise_1 ?_
  refine lv_aload_n X.1 X.2.1 dX7_firstOtherwise_4 rfl (lv_at hl 0 rfl) ?_
  refine r_get X hw (sp0 hE) (C := RX7) (T := TX7) (N := 9) rfl iwX7 3 (by decide) (Nat.le_of_ble_eq_true rfl) qw421 (v := .ref (eP E 34)) rfl dX7_firstOtherwise_5 ?_
  obtain ⟨σ2, h1, hf⟩ := b_bd1 hf
  refine r_callV X hw (k_X1_copyFrom hE (Or.inr (Or.inl rfl)) (Or.inl rfl) h1) (spP0 hE (Or.inr (Or.inl rfl))) (C := RX1) (T := TX1) (N := 10) rfl qw647 qw648 qw649 qw76 qw650 okX1_copyFrom ⟨rfl, rfl⟩ ⟨(Nat.le_of_ble_eq_true rfl), (Nat.le_of_ble_eq_true rfl)⟩ ⟨Nat.zero_le _, Nat.zero_le _⟩ rfl hl.1 (rest := []) rfl (Nat.le_of_ble_eq_true rfl) dX7_firstOtherwise_8 (st1 := []) rfl (fun H locs hw => ?_)
  refine lv_aload_n X.1 X.2.1 dX7_firstOtherwise_11 rfl (lv_at hl 0 rfl) ?_
  refine r_get X hw (sp0 hE) (C := RX7) (T := TX7) (N := 9) rfl iwX7 4 (by decide) (Nat.le_of_ble_eq_true rfl) qw422 (v := .ref (eP E 42)) rfl dX7_firstOtherwise_12 ?_
  refine lv_iload_n X.1 X.2.1 dX7_firstOtherwise_15 rfl (lv_at hl 3 rfl) ?_
  refine lv_iload X.1 X.2.1 dX7_firstOtherwise_16 (lv_at hl 4 rfl) ?_
  refine lv_iload X.1 X.2.1 dX7_firstOtherwise_18 (lv_at hl 5 rfl) ?_
  obtain ⟨σ4, h3, hf⟩ := b_bd1 hf
  refine r_callV X hw (k_X1_put hE (Or.inr (Or.inl rfl)) h3) (spP0 hE (Or.inr (Or.inl rfl))) (C := RX1) (T := TX1) (N := 10) rfl qw472 qw473 qw474 qw76 qw475 okX1_put ⟨rfl, rfl⟩ ⟨(Nat.le_of_ble_eq_true rfl), (Nat.le_of_ble_eq_true rfl)⟩ ⟨Nat.zero_le _, Nat.zero_le _⟩ rfl hl.1 (rest := []) rfl (Nat.le_of_ble_eq_true rfl) dX7_firstOtherwise_20 (st1 := []) rfl (fun H locs hw => ?_)
  refine lv_iconst (v := 0) X.1 X.2.1 dX7_firstOtherwise_23 (by decide) ?_
  refine lv_istore (lv' := [(6, .int 0), (0, .ref (eP E 0)), (1, .ref (eP E o1)), (2, .int x2), (3, .int x3), (4, .int x4), (5, .int x5)]) X.1 X.2.1 dX7_firstOtherwise_24 hl (by decide) rfl (fun ls hl => ?_)
  obtain ⟨r22, h19, hf⟩ := b_bs hf
  rcases hf with ⟨⟨v20, σ21⟩, rfl, hf⟩ | ⟨⟨r23, σ24⟩, rfl, hf⟩
  · refine w_X7_firstOtherwise_26 X hE ho1 lfu _ _ h19 _ _ _ hw (lv_sub hl [1, 2, 3, 4, 5, 6, 0] rfl) (fun yv20 yσ21 hq H locs ls hw hl => ?_) (fun _ _ hq => by cases hq)
    cases hq
    dsimp only at hf
    refine lv_iconst (v := (-1)) X.1 X.2.1 dX7_firstOtherwise_83 (by decide) ?_
    obtain ⟨rfl, rfl⟩ := Prod.mk.inj (Option.some.inj hf)
    exact r_iret X hw dX7_firstOtherwise_84
  · refine w_X7_firstOtherwise_26 X hE ho1 lfu _ _ h19 _ _ _ hw (lv_sub hl [1, 2, 3, 4, 5, 6, 0] rfl) (fun _ _ hq => by cases hq) (fun _ _ hq => ?_)
    cases hq
    cases hf
    rfl
abbrev rm_X7_bitsThatFit : Room := { frames := 7, cells := 0, slots := 0, locals := 227 }
set_option maxHeartbeats 4000000 in
set_option maxRecDepth 100000 in
theorem w_X7_bitsThatFit_6 {p : Program} {l : Launch} {e : Env} {s : State} {m : MethodId} {args : Array Value} {below : List Frame} {meth : Method} {c : Code} {Q : State → Prop} {E : en_T} (X : Cx E p s m args meth c cX7_bitsThatFit 8 RX7 (some .int)) (hE : ShF E) {o51 : Nat} (ho51 : isS o51) {u2 : Int32} {u3 : Int32} {u4 : Int32} {u5 : Int32}  {res : Int32 × Int32 × sg_T} :
    ∀ (n : Nat) (w6 : Int32) (w7 : Int32) (σ : sg_T), itr (fun q => b_X7_bitsThatFit_6 o51 u2 u3 u4 u5 q.1 q.2.1 q.2.2) n (w6, w7, σ) = some res → ∀ (H : Heap) (locs : List Loc) (ls : Array Slot), Hw E σ s H locs → lv_has ls 8 [(0, .ref (eP E 0)), (1, .ref (eP E o51)), (2, .int u2), (3, .int u3), (4, .int u4), (5, .int u5), (6, .int w6), (7, .int w7)] →
    (∀ (y6 : Int32) (y7 : Int32) (τ : sg_T), res = (y6, y7, τ) → ∀ (H : Heap) (locs : List Loc) (ls : Array Slot), Hw E τ s H locs → lv_has ls 8 [(0, .ref (eP E 0)), (1, .ref (eP E o51)), (2, .int u2), (3, .int u3), (4, .int u4), (5, .int u5), (6, .int y6), (7, .int y7)] → W p l e rm_X7_bitsThatFit s m args below meth c H locs 0 0 Q (F0 m 43 ls [])) →
    W p l e rm_X7_bitsThatFit s m args below meth c H locs 0 0 Q (F0 m 6 ls []) := by
  have hR : ShR E := hE.r
  intro n
  induction n with
  | zero =>
    intro w6 w7 σ hf0
    exact (itr_0 hf0).elim
  | succ n ih =>
    intro w6 w7 σ hf0 H locs ls hw hl K1
    obtain ⟨r0, hf, hr1, hr2⟩ := itr_s hf0
    have hf : b_X7_bitsThatFit_6 o51 u2 u3 u4 u5 w6 w7 σ = some r0 := hf
    unfold b_X7_bitsThatFit_6 at hf
    refine lv_iload X.1 X.2.1 dX7_bitsThatFit_6 (lv_at hl 7 rfl) ?_
    refine lv_iload X.1 X.2.1 dX7_bitsThatFit_8 (lv_at hl 5 rfl) ?_
    refine lv_icmp_ge (tgt := 43) X.1 X.2.1 dX7_bitsThatFit_10 (by decide) (fun c1 => ?_) (fun c1 => ?_)
    · have hf := if_t hf c1
      obtain rfl := Option.some.inj hf
      obtain rfl := hr2 _ rfl
      exact K1 _ _ _ rfl _ _ _ hw (lv_sub hl [0, 1, 2, 3, 4, 5, 6, 7] rfl)
    · have hf := if_e hf c1
      refine lv_aload_n X.1 X.2.1 dX7_bitsThatFit_13 rfl (lv_at hl 0 rfl) ?_
      refine lv_aload_n X.1 X.2.1 dX7_bitsThatFit_14 rfl (lv_at hl 1 rfl) ?_
      refine lv_iload_n X.1 X.2.1 dX7_bitsThatFit_15 rfl (lv_at hl 2 rfl) ?_
      refine lv_iload_n X.1 X.2.1 dX7_bitsThatFit_16 rfl (lv_at hl 3 rfl) ?_
      refine lv_iload X.1 X.2.1 dX7_bitsThatFit_17 (lv_at hl 4 rfl) ?_
      refine lv_iload X.1 X.2.1 dX7_bitsThatFit_19 (lv_at hl 7 rfl) ?_
      obtain ⟨r3, σ4, h2, hf⟩ := b_bd2 hf
      refine r_callV X hw (k_X7_firstOtherwise hE ho51 h2) (sp0 hE) (C := RX7) (T := TX7) (N := 9) rfl qw734 qw736 qw22 qw67 qw737 okX7_firstOtherwise ⟨rfl, rfl⟩ ⟨(Nat.le_of_ble_eq_true rfl), (Nat.le_of_ble_eq_true rfl)⟩ ⟨Nat.zero_le _, Nat.zero_le _⟩ rfl hl.1 (rest := []) rfl (Nat.le_of_ble_eq_true rfl) dX7_bitsThatFit_21 (st1 := [.int r3]) rfl (fun H locs hw => ?_)
      refine lv_iconst (v := (-1)) X.1 X.2.1 dX7_bitsThatFit_24 (by decide) ?_
      refine lv_icmp_ne (tgt := 37) X.1 X.2.1 dX7_bitsThatFit_25 (by decide) (fun c5 => ?_) (fun c5 => ?_)
      · have hf := if_e hf c5
        obtain ⟨v6, e7, hf⟩ := b_bnd hf
        refine lv_iinc (v := v6) (k := 7) (lv' := [(7, .int v6), (0, .ref (eP E 0)), (1, .ref (eP E o51)), (2, .int u2), (3, .int u3), (4, .int u4), (5, .int u5), (6, .int w6)]) X.1 X.2.1 dX7_bitsThatFit_37 hl rfl (by rw [e7]; exact congrArg _ (by decide)) (by decide) rfl (fun ls hl => ?_)
        refine lv_goto (tgt := 6) X.1 X.2.1 dX7_bitsThatFit_40 (by decide) ?_
        obtain rfl := Option.some.inj hf
        exact ih _ _ _ (hr1 _ rfl) _ _ _ hw (lv_sub hl [1, 2, 3, 4, 5, 6, 7, 0] rfl) K1
      · have hf := if_t hf c5
        refine lv_iload X.1 X.2.1 dX7_bitsThatFit_28 (lv_at hl 6 rfl) ?_
        refine lv_iconst (v := 1) X.1 X.2.1 dX7_bitsThatFit_30 (by decide) ?_
        refine lv_iload X.1 X.2.1 dX7_bitsThatFit_31 (lv_at hl 7 rfl) ?_
        refine lv_ishl X.1 X.2.1 dX7_bitsThatFit_33 ?_
        refine lv_ior X.1 X.2.1 dX7_bitsThatFit_34 ?_
        refine r_bnd hf (fun v8 hf => ?_)
        refine lv_istore (lv' := [(6, .int v8), (0, .ref (eP E 0)), (1, .ref (eP E o51)), (2, .int u2), (3, .int u3), (4, .int u4), (5, .int u5), (7, .int w7)]) X.1 X.2.1 dX7_bitsThatFit_35 hl (by decide) rfl (fun ls hl => ?_)
        obtain ⟨v9, e10, hf⟩ := b_bnd hf
        refine lv_iinc (v := v9) (k := 7) (lv' := [(7, .int v9), (6, .int v8), (0, .ref (eP E 0)), (1, .ref (eP E o51)), (2, .int u2), (3, .int u3), (4, .int u4), (5, .int u5)]) X.1 X.2.1 dX7_bitsThatFit_37 hl rfl (by rw [e10]; exact congrArg _ (by decide)) (by decide) rfl (fun ls hl => ?_)
        refine lv_goto (tgt := 6) X.1 X.2.1 dX7_bitsThatFit_40 (by decide) ?_
        obtain rfl := Option.some.inj hf
        exact ih _ _ _ (hr1 _ rfl) _ _ _ hw (lv_sub hl [2, 3, 4, 5, 6, 7, 1, 0] rfl) K1
set_option maxHeartbeats 4000000 in
set_option maxRecDepth 100000 in
theorem k_X7_bitsThatFit {l : Launch} {E : en_T} (hE : ShF E) {o1 : Nat} (ho1 : isS o1) {x2 : Int32} {x3 : Int32} {x4 : Int32} {x5 : Int32} {σ : sg_T} {r : Int32} {σ' : sg_T} (hf : f_X7_bitsThatFit o1 x2 x3 x4 x5 σ = some (r, σ')) : Ct l yX7_bitsThatFit cX7_bitsThatFit 8 (some .int) rm_X7_bitsThatFit E [.ref (eP E 0), .ref (eP E o1), .int x2, .int x3, .int x4, .int x5] σ (some (.int r)) σ' := by
  refine Ct.start (by decide) hE.1 (Nat.le_of_ble_eq_true rfl) ?_
  intro p e s m below meth c X hw ls hl
  have X : Cx E p s m _ meth c cX7_bitsThatFit 8 RX7 (some .int) := X
  have hR : ShR E := hE.r
  have hl : lv_has ls 8 [(0, .ref (eP E 0)), (1, .ref (eP E o1)), (2, .int x2), (3, .int x3), (4, .int x4), (5, .int x5)] := hl
  unfold f_X7_bitsThatFit at hf
  refine lv_iconst (v := 0) X.1 X.2.1 dX7_bitsThatFit_0 (by decide) ?_
  refine lv_istore (lv' := [(6, .int 0), (0, .ref (eP E 0)), (1, .ref (eP E o1)), (2, .int x2), (3, .int x3), (4, .int x4), (5, .int x5)]) X.1 X.2.1 dX7_bitsThatFit_1 hl (by decide) rfl (fun ls hl => ?_)
  refine lv_iconst (v := 0) X.1 X.2.1 dX7_bitsThatFit_3 (by decide) ?_
  refine lv_istore (lv' := [(7, .int 0), (6, .int 0), (0, .ref (eP E 0)), (1, .ref (eP E o1)), (2, .int x2), (3, .int x3), (4, .int x4), (5, .int x5)]) X.1 X.2.1 dX7_bitsThatFit_4 hl (by decide) rfl (fun ls hl => ?_)
  obtain ⟨v12, v13, σ14, h11, hf⟩ := b_bd3 hf
  refine w_X7_bitsThatFit_6 X hE ho1 lfu _ _ _ h11 _ _ _ hw (lv_sub hl [2, 3, 4, 5, 6, 7, 1, 0] rfl) (fun yv12 yv13 yσ14 hq H locs ls hw hl => ?_)
  cases hq
  refine lv_iload X.1 X.2.1 dX7_bitsThatFit_43 (lv_at hl 6 rfl) ?_
  obtain ⟨rfl, rfl⟩ := Prod.mk.inj (Option.some.inj hf)
  exact r_iret X hw dX7_bitsThatFit_45
