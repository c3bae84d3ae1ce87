set_option maxHeartbeats 4000000 in
set_option maxRecDepth 100000 in
theorem k_X8_tell {l : Launch} {E : en_T} (hE : ShF E) {x1 : Int32} {x2 : Int32} {x3 : Int32} {σ : sg_T} {r : Int32} {σ' : sg_T} (hf : f_X8_tell x1 x2 x3 σ = some (r, σ')) : Ct l yX8_tell cX8_tell 10 (some .int) rm_X8_tell E [.ref (eP E 69), .int x1, .int x2, .int x3] σ (some (.int r)) σ' := by
  refine Ct.start (by decide) hE.1 (Nat.le_of_ble_eq_true rfl) ?_
  intro p e s m below meth c X hw ls hl
  have X : Cx E p s m _ meth c cX8_tell 10 RX8 (some .int) := X
  have hR : ShR E := hE.r
  have hl : lv_has ls 10 [(0, .ref (eP E 69)), (1, .int x1), (2, .int x2), (3, .int x3)] := hl
  unfold f_X8_tell at hf
  refine lv_aload_n X.1 X.2.1 dX8_tell_0 rfl (lv_at hl 0 rfl) ?_
  refine r_get X hw (sp69 hE) (C := RX8) (T := TX8) (N := 31) rfl iwX8 0 (by decide) (Nat.le_of_ble_eq_true rfl) qw866 (v := .ref (eP E 70)) rfl dX8_tell_1 ?_
  refine lv_bipush (v := 57) X.1 X.2.1 dX8_tell_4 (by decide) ?_
  obtain ⟨h1, hf⟩ := b_ck hf
  refine r_iald X hw (sp70 hE) h1 dX8_tell_6 ?_
  refine r_bnd hf (fun v2 hf => ?_)
  refine lv_istore (lv' := [(4, .int v2), (0, .ref (eP E 69)), (1, .int x1), (2, .int x2), (3, .int x3)]) X.1 X.2.1 dX8_tell_7 hl (by decide) rfl (fun ls hl => ?_)
  refine lv_iload_n X.1 X.2.1 dX8_tell_9 rfl (lv_at hl 2 rfl) ?_
  refine lv_if_ne (tgt := 17) X.1 X.2.1 dX8_tell_10 (by decide) (fun c3 => ?_) (fun c3 => ?_)
  · have hf := if_e hf c3
    refine lv_aload_n X.1 X.2.1 dX8_tell_17 rfl (lv_at hl 1 rfl) ?_
    refine r_get X hw (sp69 hE) (C := RX8) (T := TX8) (N := 31) rfl iwX8 12 (by decide) (Nat.le_of_ble_eq_true rfl) qw878 (v := .ref (eP E 76)) rfl dX8_tell_18 ?_
    refine lv_iconst (v := 3) X.1 X.2.1 dX8_tell_21 (by decide) ?_
    refine lv_iload X.1 X.2.1 dX8_tell_22 (lv_at hl 0 rfl) ?_
    refine lv_imul X.1 X.2.1 dX8_tell_24 ?_
    refine lv_iload_n X.1 X.2.1 dX8_tell_25 rfl (lv_at hl 2 rfl) ?_
    refine lv_iadd X.1 X.2.1 dX8_tell_26 ?_
    refine lv_iconst (v := 1) X.1 X.2.1 dX8_tell_27 (by decide) ?_
    refine lv_isub X.1 X.2.1 dX8_tell_28 ?_
    obtain ⟨h4, hf⟩ := b_ck hf
    refine r_iald X hw (sp76 hE) h4 dX8_tell_29 ?_
    refine r_bnd hf (fun v5 hf => ?_)
    refine lv_istore (lv' := [(5, .int v5), (4, .int v2), (0, .ref (eP E 69)), (1, .int x1), (2, .int x2), (3, .int x3)]) X.1 X.2.1 dX8_tell_30 hl (by decide) rfl (fun ls hl => ?_)
    refine lv_iconst (v := 0) X.1 X.2.1 dX8_tell_32 (by decide) ?_
    refine lv_istore (lv' := [(6, .int 0), (5, .int v5), (4, .int v2), (0, .ref (eP E 69)), (1, .int x1), (2, .int x2), (3, .int x3)]) X.1 X.2.1 dX8_tell_33 hl (by decide) rfl (fun ls hl => ?_)
    refine lv_iload X.1 X.2.1 dX8_tell_35 (lv_at hl 1 rfl) ?_
    refine lv_istore (lv' := [(7, .int v5), (6, .int 0), (5, .int v5), (4, .int v2), (0, .ref (eP E 69)), (1, .int x1), (2, .int x2), (3, .int x3)]) X.1 X.2.1 dX8_tell_37 hl (by decide) rfl (fun ls hl => ?_)
    obtain ⟨v117, v118, σ119, h116, hf⟩ := b_bd3 hf
    refine w_X8_tell_39 X hE  lfu _ _ _ h116 _ _ _ hw (lv_sub hl [4, 5, 6, 7, 3, 2, 1, 0] rfl) (fun yv117 yv118 yσ119 hq H locs ls hw hl => ?_)
    cases hq
    refine lv_aload_n X.1 X.2.1 dX8_tell_318 rfl (lv_at hl 0 rfl) ?_
    refine r_get X hw (sp69 hE) (C := RX8) (T := TX8) (N := 31) rfl iwX8 18 (by decide) (Nat.le_of_ble_eq_true rfl) qw884 (v := .ref (eP E 79)) rfl dX8_tell_319 ?_
    refine lv_iconst (v := 0) X.1 X.2.1 dX8_tell_322 (by decide) ?_
    obtain ⟨h120, hf⟩ := b_ck hf
    refine r_iald X hw (sp79 hE) h120 dX8_tell_323 ?_
    obtain ⟨rfl, rfl⟩ := Prod.mk.inj (Option.some.inj hf)
    exact r_iret X hw dX8_tell_324
  · have hf := if_t hf c3
    refine lv_iconst (v := 0) X.1 X.2.1 dX8_tell_13 (by decide) ?_
    refine lv_goto (tgt := 30) X.1 X.2.1 dX8_tell_14 (by decide) ?_
    refine lv_istore (lv' := [(5, .int 0), (4, .int v2), (0, .ref (eP E 69)), (1, .int x1), (2, .int x2), (3, .int x3)]) X.1 X.2.1 dX8_tell_30 hl (by decide) rfl (fun ls hl => ?_)
    refine lv_iconst (v := 0) X.1 X.2.1 dX8_tell_32 (by decide) ?_
    refine lv_istore (lv' := [(6, .int 0), (5, .int 0), (4, .int v2), (0, .ref (eP E 69)), (1, .int x1), (2, .int x2), (3, .int x3)]) X.1 X.2.1 dX8_tell_33 hl (by decide) rfl (fun ls hl => ?_)
    refine lv_iload X.1 X.2.1 dX8_tell_35 (lv_at hl 1 rfl) ?_
    refine lv_istore (lv' := [(7, .int 0), (6, .int 0), (5, .int 0), (4, .int v2), (0, .ref (eP E 69)), (1, .int x1), (2, .int x2), (3, .int x3)]) X.1 X.2.1 dX8_tell_37 hl (by decide) rfl (fun ls hl => ?_)
    obtain ⟨v232, v233, σ234, h231, hf⟩ := b_bd3 hf
    refine w_X8_tell_39q2 X hE  lfu _ _ _ h231 _ _ _ hw (lv_sub hl [4, 5, 6, 7, 3, 2, 1, 0] rfl) (fun yv232 yv233 yσ234 hq H locs ls hw hl => ?_)
    cases hq
    refine lv_aload_n X.1 X.2.1 dX8_tell_318 rfl (lv_at hl 0 rfl) ?_
    refine r_get X hw (sp69 hE) (C := RX8) (T := TX8) (N := 31) rfl iwX8 18 (by decide) (Nat.le_of_ble_eq_true rfl) qw884 (v := .ref (eP E 79)) rfl dX8_tell_319 ?_
    refine lv_iconst (v := 0) X.1 X.2.1 dX8_tell_322 (by decide) ?_
    obtain ⟨h235, hf⟩ := b_ck hf
    refine r_iald X hw (sp79 hE) h235 dX8_tell_323 ?_
    obtain ⟨rfl, rfl⟩ := Prod.mk.inj (Option.some.inj hf)
    exact r_iret X hw dX8_tell_324
abbrev rm_X8_sets : Room := { frames := 3, cells := 0, slots := 0, locals := 151 }
set_option maxHeartbeats 4000000 in
set_option maxRecDepth 100000 in
theorem k_X8_sets {l : Launch} {E : en_T} (hE : ShF E) {x1 : Int32} {x2 : Int32} {σ : sg_T} {r : Int32} {σ' : sg_T} (hf : f_X8_sets x1 x2 σ = some (r, σ')) : Ct l yX8_sets cX8_sets 5 (some .int) rm_X8_sets E [.ref (eP E 69), .int x1, .int x2] σ (some (.int r)) σ' := by
  refine Ct.start (by decide) hE.1 (Nat.le_of_ble_eq_true rfl) ?_
  intro p e s m below meth c X hw ls hl
  have X : Cx E p s m _ meth c cX8_sets 5 RX8 (some .int) := X
  have hR : ShR E := hE.r
  have hl : lv_has ls 5 [(0, .ref (eP E 69)), (1, .int x1), (2, .int x2)] := hl
  unfold f_X8_sets at hf
  refine lv_aload_n X.1 X.2.1 dX8_sets_0 rfl (lv_at hl 0 rfl) ?_
  refine lv_iconst (v := 0) X.1 X.2.1 dX8_sets_1 (by decide) ?_
  refine lv_iload_n X.1 X.2.1 dX8_sets_2 rfl (lv_at hl 1 rfl) ?_
  refine lv_iload_n X.1 X.2.1 dX8_sets_3 rfl (lv_at hl 2 rfl) ?_
  obtain ⟨r2, σ3, h1, hf⟩ := b_bd2 hf
  refine r_callV X hw (k_X8_tell hE  h1) (sp69 hE) (C := RX8) (T := TX8) (N := 31) rfl qw1013 qw1015 qw37 qw79 qw1016 okX8_tell ⟨rfl, rfl⟩ ⟨(Nat.le_of_ble_eq_true rfl), (Nat.le_of_ble_eq_true rfl)⟩ ⟨Nat.zero_le _, Nat.zero_le _⟩ rfl hl.1 (rest := []) rfl (Nat.le_of_ble_eq_true rfl) dX8_sets_4 (st1 := [.int r2]) rfl (fun H locs hw => ?_)
  refine lv_iconst (v := 0) X.1 X.2.1 dX8_sets_7 (by decide) ?_
  refine lv_bipush (v := 99) X.1 X.2.1 dX8_sets_8 (by decide) ?_
  obtain ⟨r5, h4, hf⟩ := b_bd1 hf
  refine r_callS X hw (k_X8_bound hE  h4) qw1023 qw1024 qw79 qw1025 okX8_bound ⟨rfl, rfl⟩ ⟨(Nat.le_of_ble_eq_true rfl), (Nat.le_of_ble_eq_true rfl)⟩ ⟨Nat.zero_le _, Nat.zero_le _⟩ rfl hl.1 (rest := []) rfl (Nat.le_of_ble_eq_true rfl) dX8_sets_10 (st1 := [.int r5]) rfl (fun H locs hw => ?_)
  refine lv_istore_n (lv' := [(3, .int r5), (0, .ref (eP E 69)), (1, .int x1), (2, .int x2)]) X.1 X.2.1 dX8_sets_13 rfl hl (by decide) rfl (fun ls hl => ?_)
  refine lv_iload_n X.1 X.2.1 dX8_sets_14 rfl (lv_at hl 0 rfl) ?_
  refine lv_istore (lv' := [(4, .int r5), (3, .int r5), (0, .ref (eP E 69)), (1, .int x1), (2, .int x2)]) X.1 X.2.1 dX8_sets_15 hl (by decide) rfl (fun ls hl => ?_)
  refine lv_aload_n X.1 X.2.1 dX8_sets_17 rfl (lv_at hl 2 rfl) ?_
  refine lv_iload_n X.1 X.2.1 dX8_sets_18 rfl (lv_at hl 3 rfl) ?_
  refine lv_iconst (v := 0) X.1 X.2.1 dX8_sets_19 (by decide) ?_
  obtain ⟨r7, h6, hf⟩ := b_bd1 hf
  refine r_callV X hw (k_X8_of hE  h6) (sp69 hE) (C := RX8) (T := TX8) (N := 31) rfl qw997 qw999 qw33 qw79 qw1000 okX8_of ⟨rfl, rfl⟩ ⟨(Nat.le_of_ble_eq_true rfl), (Nat.le_of_ble_eq_true rfl)⟩ ⟨Nat.zero_le _, Nat.zero_le _⟩ rfl hl.1 (rest := []) rfl (Nat.le_of_ble_eq_true rfl) dX8_sets_20 (st1 := [.int r7]) rfl (fun H locs hw => ?_)
  by_cases c8 : r7 = 1
  · have hf := if_t hf c8
    refine lv_tableIn (x := r7) (tgt := 56) (off := 33) X.1 X.2.1 dX8_sets_23 (by rw [c8]; decide) (by rw [c8]; decide) (by rw [c8]; decide) (by decide) ?_
    refine lv_iload_n X.1 X.2.1 dX8_sets_56 rfl (lv_at hl 1 rfl) ?_
    refine lv_iconst (v := 2) X.1 X.2.1 dX8_sets_57 (by decide) ?_
    refine lv_iadd X.1 X.2.1 dX8_sets_58 ?_
    refine r_bnd hf (fun v9 hf => ?_)
    refine lv_istore (lv' := [(4, .int v9), (3, .int r5), (0, .ref (eP E 69)), (1, .int x1), (2, .int x2)]) X.1 X.2.1 dX8_sets_59 hl (by decide) rfl (fun ls hl => ?_)
    refine lv_goto (tgt := 125) X.1 X.2.1 dX8_sets_61 (by decide) ?_
    refine lv_iload X.1 X.2.1 dX8_sets_125 (lv_at hl 0 rfl) ?_
    refine lv_iconst (v := 0) X.1 X.2.1 dX8_sets_127 (by decide) ?_
    refine lv_bipush (v := 23) X.1 X.2.1 dX8_sets_128 (by decide) ?_
    obtain ⟨r11, h10, hf⟩ := b_bd1 hf
    refine r_callS X hw (k_X8_bound hE  h10) qw1023 qw1024 qw79 qw1025 okX8_bound ⟨rfl, rfl⟩ ⟨(Nat.le_of_ble_eq_true rfl), (Nat.le_of_ble_eq_true rfl)⟩ ⟨Nat.zero_le _, Nat.zero_le _⟩ rfl hl.1 (rest := []) rfl (Nat.le_of_ble_eq_true rfl) dX8_sets_130 (st1 := [.int r11]) rfl (fun H locs hw => ?_)
    obtain ⟨rfl, rfl⟩ := Prod.mk.inj (Option.some.inj hf)
    exact r_iret X hw dX8_sets_133
  have hf := if_e hf c8
  by_cases c12 : r7 = 2
  · have hf := if_t hf c12
    refine lv_tableIn (x := r7) (tgt := 64) (off := 41) X.1 X.2.1 dX8_sets_23 (by rw [c12]; decide) (by rw [c12]; decide) (by rw [c12]; decide) (by decide) ?_
    refine lv_iload_n X.1 X.2.1 dX8_sets_64 rfl (lv_at hl 1 rfl) ?_
    refine lv_iconst (v := 2) X.1 X.2.1 dX8_sets_65 (by decide) ?_
    refine lv_idiv X.1 X.2.1 dX8_sets_66 (by decide) ?_
    refine r_bnd hf (fun v13 hf => ?_)
    refine lv_istore (lv' := [(4, .int v13), (3, .int r5), (0, .ref (eP E 69)), (1, .int x1), (2, .int x2)]) X.1 X.2.1 dX8_sets_67 hl (by decide) rfl (fun ls hl => ?_)
    refine lv_goto (tgt := 125) X.1 X.2.1 dX8_sets_69 (by decide) ?_
    refine lv_iload X.1 X.2.1 dX8_sets_125 (lv_at hl 0 rfl) ?_
    refine lv_iconst (v := 0) X.1 X.2.1 dX8_sets_127 (by decide) ?_
    refine lv_bipush (v := 23) X.1 X.2.1 dX8_sets_128 (by decide) ?_
    obtain ⟨r15, h14, hf⟩ := b_bd1 hf
    refine r_callS X hw (k_X8_bound hE  h14) qw1023 qw1024 qw79 qw1025 okX8_bound ⟨rfl, rfl⟩ ⟨(Nat.le_of_ble_eq_true rfl), (Nat.le_of_ble_eq_true rfl)⟩ ⟨Nat.zero_le _, Nat.zero_le _⟩ rfl hl.1 (rest := []) rfl (Nat.le_of_ble_eq_true rfl) dX8_sets_130 (st1 := [.int r15]) rfl (fun H locs hw => ?_)
    obtain ⟨rfl, rfl⟩ := Prod.mk.inj (Option.some.inj hf)
    exact r_iret X hw dX8_sets_133
  have hf := if_e hf c12
  by_cases c16 : r7 = 3
  · have hf := if_t hf c16
    refine lv_tableIn (x := r7) (tgt := 72) (off := 49) X.1 X.2.1 dX8_sets_23 (by rw [c16]; decide) (by rw [c16]; decide) (by rw [c16]; decide) (by decide) ?_
    refine lv_bipush (v := 9) X.1 X.2.1 dX8_sets_72 (by decide) ?_
    refine lv_iload_n X.1 X.2.1 dX8_sets_74 rfl (lv_at hl 1 rfl) ?_
    refine lv_iconst (v := 2) X.1 X.2.1 dX8_sets_75 (by decide) ?_
    refine lv_iadd X.1 X.2.1 dX8_sets_76 ?_
    refine r_max X hl.1 qw1027 qw537 qw80 qw538 (Nat.le_of_ble_eq_true rfl) (Nat.le_of_ble_eq_true rfl) (Nat.zero_le _) (Nat.zero_le _) dX8_sets_77 ?_
    refine r_bnd hf (fun v17 hf => ?_)
    refine lv_istore (lv' := [(4, .int v17), (3, .int r5), (0, .ref (eP E 69)), (1, .int x1), (2, .int x2)]) X.1 X.2.1 dX8_sets_80 hl (by decide) rfl (fun ls hl => ?_)
    refine lv_goto (tgt := 125) X.1 X.2.1 dX8_sets_82 (by decide) ?_
    refine lv_iload X.1 X.2.1 dX8_sets_125 (lv_at hl 0 rfl) ?_
    refine lv_iconst (v := 0) X.1 X.2.1 dX8_sets_127 (by decide) ?_
    refine lv_bipush (v := 23) X.1 X.2.1 dX8_sets_128 (by decide) ?_
    obtain ⟨r19, h18, hf⟩ := b_bd1 hf
    refine r_callS X hw (k_X8_bound hE  h18) qw1023 qw1024 qw79 qw1025 okX8_bound ⟨rfl, rfl⟩ ⟨(Nat.le_of_ble_eq_true rfl), (Nat.le_of_ble_eq_true rfl)⟩ ⟨Nat.zero_le _, Nat.zero_le _⟩ rfl hl.1 (rest := []) rfl (Nat.le_of_ble_eq_true rfl) dX8_sets_130 (st1 := [.int r19]) rfl (fun H locs hw => ?_)
    obtain ⟨rfl, rfl⟩ := Prod.mk.inj (Option.some.inj hf)
    exact r_iret X hw dX8_sets_133
  have hf := if_e hf c16
  by_cases c20 : r7 = 4
  · have hf := if_t hf c20
    refine lv_tableIn (x := r7) (tgt := 85) (off := 62) X.1 X.2.1 dX8_sets_23 (by rw [c20]; decide) (by rw [c20]; decide) (by rw [c20]; decide) (by decide) ?_
    refine lv_aload_n X.1 X.2.1 dX8_sets_85 rfl (lv_at hl 2 rfl) ?_
    refine r_get X hw (sp69 hE) (C := RX8) (T := TX8) (N := 31) rfl iwX8 0 (by decide) (Nat.le_of_ble_eq_true rfl) qw866 (v := .ref (eP E 70)) rfl dX8_sets_86 ?_
    refine lv_bipush (v := 56) X.1 X.2.1 dX8_sets_89 (by decide) ?_
    obtain ⟨h21, hf⟩ := b_ck hf
    refine r_iald X hw (sp70 hE) h21 dX8_sets_91 ?_
    refine lv_iconst (v := 3) X.1 X.2.1 dX8_sets_92 (by decide) ?_
    refine r_irem X dX8_sets_93 (by decide) ?_
    refine lv_if_ne (tgt := 106) X.1 X.2.1 dX8_sets_94 (by decide) (fun c22 => ?_) (fun c22 => ?_)
    · have hf := if_e hf c22
      refine lv_iload_n X.1 X.2.1 dX8_sets_106 rfl (lv_at hl 1 rfl) ?_
      refine lv_iconst (v := 2) X.1 X.2.1 dX8_sets_107 (by decide) ?_
      refine lv_idiv X.1 X.2.1 dX8_sets_108 (by decide) ?_
      refine r_bnd hf (fun v23 hf => ?_)
      refine lv_istore (lv' := [(4, .int v23), (3, .int r5), (0, .ref (eP E 69)), (1, .int x1), (2, .int x2)]) X.1 X.2.1 dX8_sets_109 hl (by decide) rfl (fun ls hl => ?_)
      refine lv_goto (tgt := 125) X.1 X.2.1 dX8_sets_111 (by decide) ?_
      refine lv_iload X.1 X.2.1 dX8_sets_125 (lv_at hl 0 rfl) ?_
      refine lv_iconst (v := 0) X.1 X.2.1 dX8_sets_127 (by decide) ?_
      refine lv_bipush (v := 23) X.1 X.2.1 dX8_sets_128 (by decide) ?_
      obtain ⟨r25, h24, hf⟩ := b_bd1 hf
      refine r_callS X hw (k_X8_bound hE  h24) qw1023 qw1024 qw79 qw1025 okX8_bound ⟨rfl, rfl⟩ ⟨(Nat.le_of_ble_eq_true rfl), (Nat.le_of_ble_eq_true rfl)⟩ ⟨Nat.zero_le _, Nat.zero_le _⟩ rfl hl.1 (rest := []) rfl (Nat.le_of_ble_eq_true rfl) dX8_sets_130 (st1 := [.int r25]) rfl (fun H locs hw => ?_)
      obtain ⟨rfl, rfl⟩ := Prod.mk.inj (Option.some.inj hf)
      exact r_iret X hw dX8_sets_133
    · have hf := if_t hf c22
      refine lv_aload_n X.1 X.2.1 dX8_sets_97 rfl (lv_at hl 2 rfl) ?_
      refine lv_iload_n X.1 X.2.1 dX8_sets_98 rfl (lv_at hl 4 rfl) ?_
      refine lv_iconst (v := 2) X.1 X.2.1 dX8_sets_99 (by decide) ?_
      obtain ⟨r27, h26, hf⟩ := b_bd1 hf
      refine r_callV X hw (k_X8_of hE  h26) (sp69 hE) (C := RX8) (T := TX8) (N := 31) rfl qw997 qw999 qw33 qw79 qw1000 okX8_of ⟨rfl, rfl⟩ ⟨(Nat.le_of_ble_eq_true rfl), (Nat.le_of_ble_eq_true rfl)⟩ ⟨Nat.zero_le _, Nat.zero_le _⟩ rfl hl.1 (rest := []) rfl (Nat.le_of_ble_eq_true rfl) dX8_sets_100 (st1 := [.int r27]) rfl (fun H locs hw => ?_)
      refine lv_goto (tgt := 109) X.1 X.2.1 dX8_sets_103 (by decide) ?_
      refine lv_istore (lv' := [(4, .int r27), (3, .int r5), (0, .ref (eP E 69)), (1, .int x1), (2, .int x2)]) X.1 X.2.1 dX8_sets_109 hl (by decide) rfl (fun ls hl => ?_)
      refine lv_goto (tgt := 125) X.1 X.2.1 dX8_sets_111 (by decide) ?_
      refine lv_iload X.1 X.2.1 dX8_sets_125 (lv_at hl 0 rfl) ?_
      refine lv_iconst (v := 0) X.1 X.2.1 dX8_sets_127 (by decide) ?_
      refine lv_bipush (v := 23) X.1 X.2.1 dX8_sets_128 (by decide) ?_
      obtain ⟨r29, h28, hf⟩ := b_bd1 hf
      refine r_callS X hw (k_X8_bound hE  h28) qw1023 qw1024 qw79 qw1025 okX8_bound ⟨rfl, rfl⟩ ⟨(Nat.le_of_ble_eq_true rfl), (Nat.le_of_ble_eq_true rfl)⟩ ⟨Nat.zero_le _, Nat.zero_le _⟩ rfl hl.1 (rest := []) rfl (Nat.le_of_ble_eq_true rfl) dX8_sets_130 (st1 := [.int r29]) rfl (fun H locs hw => ?_)
      obtain ⟨rfl, rfl⟩ := Prod.mk.inj (Option.some.inj hf)
      exact r_iret X hw dX8_sets_133
  have hf := if_e hf c20
  by_cases c30 : r7 = 5
  · have hf := if_t hf c30
    refine lv_tableIn (x := r7) (tgt := 114) (off := 91) X.1 X.2.1 dX8_sets_23 (by rw [c30]; decide) (by rw [c30]; decide) (by rw [c30]; decide) (by decide) ?_
    refine lv_aload_n X.1 X.2.1 dX8_sets_114 rfl (lv_at hl 2 rfl) ?_
    refine lv_iload_n X.1 X.2.1 dX8_sets_115 rfl (lv_at hl 3 rfl) ?_
    refine lv_iconst (v := 1) X.1 X.2.1 dX8_sets_116 (by decide) ?_
    obtain ⟨r32, h31, hf⟩ := b_bd1 hf
    refine r_callV X hw (k_X8_of hE  h31) (sp69 hE) (C := RX8) (T := TX8) (N := 31) rfl qw997 qw999 qw33 qw79 qw1000 okX8_of ⟨rfl, rfl⟩ ⟨(Nat.le_of_ble_eq_true rfl), (Nat.le_of_ble_eq_true rfl)⟩ ⟨Nat.zero_le _, Nat.zero_le _⟩ rfl hl.1 (rest := []) rfl (Nat.le_of_ble_eq_true rfl) dX8_sets_117 (st1 := [.int r32]) rfl (fun H locs hw => ?_)
    refine lv_istore (lv' := [(4, .int r32), (3, .int r5), (0, .ref (eP E 69)), (1, .int x1), (2, .int x2)]) X.1 X.2.1 dX8_sets_120 hl (by decide) rfl (fun ls hl => ?_)
    refine lv_goto (tgt := 125) X.1 X.2.1 dX8_sets_122 (by decide) ?_
    refine lv_iload X.1 X.2.1 dX8_sets_125 (lv_at hl 0 rfl) ?_
    refine lv_iconst (v := 0) X.1 X.2.1 dX8_sets_127 (by decide) ?_
    refine lv_bipush (v := 23) X.1 X.2.1 dX8_sets_128 (by decide) ?_
    obtain ⟨r34, h33, hf⟩ := b_bd1 hf
    refine r_callS X hw (k_X8_bound hE  h33) qw1023 qw1024 qw79 qw1025 okX8_bound ⟨rfl, rfl⟩ ⟨(Nat.le_of_ble_eq_true rfl), (Nat.le_of_ble_eq_true rfl)⟩ ⟨Nat.zero_le _, Nat.zero_le _⟩ rfl hl.1 (rest := []) rfl (Nat.le_of_ble_eq_true rfl) dX8_sets_130 (st1 := [.int r34]) rfl (fun H locs hw => ?_)
    obtain ⟨rfl, rfl⟩ := Prod.mk.inj (Option.some.inj hf)
    exact r_iret X hw dX8_sets_133
  have hf := if_e hf c30
  have c8t := lv_neT (a := 1) c8 (by decide)
  have c12t := lv_neT (a := 2) c12 (by decide)
  have c16t := lv_neT (a := 3) c16 (by decide)
  have c20t := lv_neT (a := 4) c20 (by decide)
  have c30t := lv_neT (a := 5) c30 (by decide)
  refine lv_tableOut (x := r7) (tgt := 125) X.1 X.2.1 dX8_sets_23 (by omega) (by decide) ?_
  refine lv_iload X.1 X.2.1 dX8_sets_125 (lv_at hl 0 rfl) ?_
  refine lv_iconst (v := 0) X.1 X.2.1 dX8_sets_127 (by decide) ?_
  refine lv_bipush (v := 23) X.1 X.2.1 dX8_sets_128 (by decide) ?_
  obtain ⟨r36, h35, hf⟩ := b_bd1 hf
  refine r_callS X hw (k_X8_bound hE  h35) qw1023 qw1024 qw79 qw1025 okX8_bound ⟨rfl, rfl⟩ ⟨(Nat.le_of_ble_eq_true rfl), (Nat.le_of_ble_eq_true rfl)⟩ ⟨Nat.zero_le _, Nat.zero_le _⟩ rfl hl.1 (rest := []) rfl (Nat.le_of_ble_eq_true rfl) dX8_sets_130 (st1 := [.int r36]) rfl (fun H locs hw => ?_)
  obtain ⟨rfl, rfl⟩ := Prod.mk.inj (Option.some.inj hf)
  exact r_iret X hw dX8_sets_133
abbrev rm_X8_wakes : Room := { frames := 4, cells := 0, slots := 0, locals := 175 }
set_option maxHeartbeats 4000000 in
set_option maxRecDepth 100000 in
theorem k_X8_wakes {l : Launch} {E : en_T} (hE : ShF E) {x1 : Int32} {σ : sg_T} {r : Int32} {σ' : sg_T} (hf : f_X8_wakes x1 σ = some (r, σ')) : Ct l yX8_wakes cX8_wakes 3 (some .int) rm_X8_wakes E [.ref (eP E 69), .int x1] σ (some (.int r)) σ' := by
  refine Ct.start (by decide) hE.1 (Nat.le_of_ble_eq_true rfl) ?_
  intro p e s m below meth c X hw ls hl
  have X : Cx E p s m _ meth c cX8_wakes 3 RX8 (some .int) := X
  have hR : ShR E := hE.r
  have hl : lv_has ls 3 [(0, .ref (eP E 69)), (1, .int x1)] := hl
  unfold f_X8_wakes at hf
  refine lv_aload_n X.1 X.2.1 dX8_wakes_0 rfl (lv_at hl 0 rfl) ?_
  refine lv_iload_n X.1 X.2.1 dX8_wakes_1 rfl (lv_at hl 1 rfl) ?_
  obtain ⟨r2, h1, hf⟩ := b_bd1 hf
  refine r_callV X hw (k_X8_setter hE  h1) (sp69 hE) (C := RX8) (T := TX8) (N := 31) rfl qw1001 qw1003 qw34 qw79 qw1004 okX8_setter ⟨rfl, rfl⟩ ⟨(Nat.le_of_ble_eq_true rfl), (Nat.le_of_ble_eq_true rfl)⟩ ⟨Nat.zero_le _, Nat.zero_le _⟩ rfl hl.1 (rest := []) rfl (Nat.le_of_ble_eq_true rfl) dX8_wakes_2 (st1 := [.int r2]) rfl (fun H locs hw => ?_)
  refine lv_istore_n (lv' := [(2, .int r2), (0, .ref (eP E 69)), (1, .int x1)]) X.1 X.2.1 dX8_wakes_5 rfl hl (by decide) rfl (fun ls hl => ?_)
  refine lv_iload_n X.1 X.2.1 dX8_wakes_6 rfl (lv_at hl 0 rfl) ?_
  refine lv_iconst (v := (-1)) X.1 X.2.1 dX8_wakes_7 (by decide) ?_
  refine lv_icmp_ne (tgt := 15) X.1 X.2.1 dX8_wakes_8 (by decide) (fun c3 => ?_) (fun c3 => ?_)
  · have hf := if_e hf c3
    refine lv_aload_n X.1 X.2.1 dX8_wakes_15 rfl (lv_at hl 1 rfl) ?_
    refine lv_iload_n X.1 X.2.1 dX8_wakes_16 rfl (lv_at hl 0 rfl) ?_
    refine lv_iload_n X.1 X.2.1 dX8_wakes_17 rfl (lv_at hl 2 rfl) ?_
    obtain ⟨r5, σ6, h4, hf⟩ := b_bd2 hf
    refine r_callV X hw (k_X8_sets hE  h4) (sp69 hE) (C := RX8) (T := TX8) (N := 31) rfl qw1009 qw1011 qw36 qw79 qw1012 okX8_sets ⟨rfl, rfl⟩ ⟨(Nat.le_of_ble_eq_true rfl), (Nat.le_of_ble_eq_true rfl)⟩ ⟨Nat.zero_le _, Nat.zero_le _⟩ rfl hl.1 (rest := []) rfl (Nat.le_of_ble_eq_true rfl) dX8_wakes_18 (st1 := [.int r5]) rfl (fun H locs hw => ?_)
    obtain ⟨rfl, rfl⟩ := Prod.mk.inj (Option.some.inj hf)
    exact r_iret X hw dX8_wakes_21
  · have hf := if_t hf c3
    refine lv_iconst (v := (-1)) X.1 X.2.1 dX8_wakes_11 (by decide) ?_
    refine lv_goto (tgt := 21) X.1 X.2.1 dX8_wakes_12 (by decide) ?_
    obtain ⟨rfl, rfl⟩ := Prod.mk.inj (Option.some.inj hf)
    exact r_iret X hw dX8_wakes_21
abbrev rm_X8_lateBy : Room := { frames := 5, cells := 0, slots := 0, locals := 197 }
set_option maxHeartbeats 4000000 in
set_option maxRecDepth 100000 in
theorem k_X8_lateBy {l : Launch} {E : en_T} (hE : ShF E) {x1 : Int32} {σ : sg_T} {r : Int32} {σ' : sg_T} (hf : f_X8_lateBy x1 σ = some (r, σ')) : Ct l yX8_lateBy cX8_lateBy 2 (some .int) rm_X8_lateBy E [.ref (eP E 69), .int x1] σ (some (.int r)) σ' := by
  refine Ct.start (by decide) hE.1 (Nat.le_of_ble_eq_true rfl) ?_
  intro p e s m below meth c X hw ls hl
  have X : Cx E p s m _ meth c cX8_lateBy 2 RX8 (some .int) := X
  have hR : ShR E := hE.r
  have hl : lv_has ls 2 [(0, .ref (eP E 69)), (1, .int x1)] := hl
  unfold f_X8_lateBy at hf
  refine lv_iconst (v := 0) X.1 X.2.1 dX8_lateBy_0 (by decide) ?_
  refine lv_aload_n X.1 X.2.1 dX8_lateBy_1 rfl (lv_at hl 0 rfl) ?_
  refine lv_iload_n X.1 X.2.1 dX8_lateBy_2 rfl (lv_at hl 1 rfl) ?_
  obtain ⟨r2, σ3, h1, hf⟩ := b_bd2 hf
  refine r_callV X hw (k_X8_wakes hE  h1) (sp69 hE) (C := RX8) (T := TX8) (N := 31) rfl qw1005 qw1007 qw35 qw79 qw1008 okX8_wakes ⟨rfl, rfl⟩ ⟨(Nat.le_of_ble_eq_true rfl), (Nat.le_of_ble_eq_true rfl)⟩ ⟨Nat.zero_le _, Nat.zero_le _⟩ rfl hl.1 (rest := [.int 0]) rfl (Nat.le_of_ble_eq_true rfl) dX8_lateBy_3 (st1 := [.int r2, .int 0]) rfl (fun H locs hw => ?_)
  refine lv_iconst (v := (-1)) X.1 X.2.1 dX8_lateBy_6 (by decide) ?_
  refine lv_icmp_ne (tgt := 14) X.1 X.2.1 dX8_lateBy_7 (by decide) (fun c4 => ?_) (fun c4 => ?_)
  · have hf := if_e hf c4
    refine lv_aload_n X.1 X.2.1 dX8_lateBy_14 rfl (lv_at hl 0 rfl) ?_
    refine lv_iload_n X.1 X.2.1 dX8_lateBy_15 rfl (lv_at hl 1 rfl) ?_
    obtain ⟨r6, σ7, h5, hf⟩ := b_bd2 hf
    refine r_callV X hw (k_X8_wakes hE  h5) (sp69 hE) (C := RX8) (T := TX8) (N := 31) rfl qw1005 qw1007 qw35 qw79 qw1008 okX8_wakes ⟨rfl, rfl⟩ ⟨(Nat.le_of_ble_eq_true rfl), (Nat.le_of_ble_eq_true rfl)⟩ ⟨Nat.zero_le _, Nat.zero_le _⟩ rfl hl.1 (rest := [.int 0]) rfl (Nat.le_of_ble_eq_true rfl) dX8_lateBy_16 (st1 := [.int r6, .int 0]) rfl (fun H locs hw => ?_)
    refine lv_aload_n X.1 X.2.1 dX8_lateBy_19 rfl (lv_at hl 0 rfl) ?_
    refine lv_iload_n X.1 X.2.1 dX8_lateBy_20 rfl (lv_at hl 1 rfl) ?_
    refine lv_iconst (v := 2) X.1 X.2.1 dX8_lateBy_21 (by decide) ?_
    obtain ⟨r9, h8, hf⟩ := b_bd1 hf
    refine r_callV X hw (k_X8_of hE  h8) (sp69 hE) (C := RX8) (T := TX8) (N := 31) rfl qw997 qw999 qw33 qw79 qw1000 okX8_of ⟨rfl, rfl⟩ ⟨(Nat.le_of_ble_eq_true rfl), (Nat.le_of_ble_eq_true rfl)⟩ ⟨Nat.zero_le _, Nat.zero_le _⟩ rfl hl.1 (rest := [.int r6, .int 0]) rfl (Nat.le_of_ble_eq_true rfl) dX8_lateBy_22 (st1 := [.int r9, .int r6, .int 0]) rfl (fun H locs hw => ?_)
    refine lv_isub X.1 X.2.1 dX8_lateBy_25 ?_
    refine r_max X hl.1 qw1027 qw537 qw80 qw538 (Nat.le_of_ble_eq_true rfl) (Nat.le_of_ble_eq_true rfl) (Nat.zero_le _) (Nat.zero_le _) dX8_lateBy_26 ?_
    obtain ⟨rfl, rfl⟩ := Prod.mk.inj (Option.some.inj hf)
    exact r_iret X hw dX8_lateBy_29
  · have hf := if_t hf c4
    refine lv_iconst (v := 0) X.1 X.2.1 dX8_lateBy_10 (by decide) ?_
    refine lv_goto (tgt := 26) X.1 X.2.1 dX8_lateBy_11 (by decide) ?_
    refine r_max X hl.1 qw1027 qw537 qw80 qw538 (Nat.le_of_ble_eq_true rfl) (Nat.le_of_ble_eq_true rfl) (Nat.zero_le _) (Nat.zero_le _) dX8_lateBy_26 ?_
    obtain ⟨rfl, rfl⟩ := Prod.mk.inj (Option.some.inj hf)
    exact r_iret X hw dX8_lateBy_29
abbrev rm_X8_told : Room := { frames := 6, cells := 0, slots := 0, locals := 218 }
set_option maxHeartbeats 4000000 in
set_option maxRecDepth 100000 in
theorem w_X8_told_120 {p : Program} {l : Launch} {e : Env} {s : State} {m : MethodId} {args : Array Value} {below : List Frame} {meth : Method} {c : Code} {Q : State → Prop} {E : en_T} (X : Cx E p s m args meth c cX8_told 5 RX8 (some .int)) (hE : ShF E) {u1 : Int32} {u2 : Int32} {σ : sg_T} {res : Int32 × Int32} :
    ∀ (n : Nat) (w3 : Int32) (w4 : Int32), itr (fun q => b_X8_told_120 u1 u2 q.1 q.2 σ) n (w3, w4) = some res → ∀ (H : Heap) (locs : List Loc) (ls : Array Slot), Hw E σ s H locs → lv_has ls 5 [(0, .ref (eP E 69)), (1, .int u1), (2, .int u2), (3, .int w3), (4, .int w4)] →
    (∀ (y3 : Int32) (y4 : Int32), res = (y3, y4) → ∀ (H : Heap) (locs : List Loc) (ls : Array Slot), Hw E σ s H locs → lv_has ls 5 [(0, .ref (eP E 69)), (1, .int u1), (2, .int u2), (3, .int y3), (4, .int y4)] → W p l e rm_X8_told s m args below meth c H locs 0 0 Q (F0 m 156 ls [])) →
    W p l e rm_X8_told s m args below meth c H locs 0 0 Q (F0 m 120 ls []) := by
  have hR : ShR E := hE.r
  intro n
  induction n with
  | zero =>
    intro w3 w4 hf0
    exact (itr_0 hf0).elim
  | succ n ih =>
    intro w3 w4 hf0 H locs ls hw hl K1
    obtain ⟨r0, hf, hr1, hr2⟩ := itr_s hf0
    have hf : b_X8_told_120 u1 u2 w3 w4 σ = some r0 := hf
    unfold b_X8_told_120 at hf
    refine lv_iload X.1 X.2.1 dX8_told_120 (lv_at hl 4 rfl) ?_
    refine lv_aload_n X.1 X.2.1 dX8_told_122 rfl (lv_at hl 0 rfl) ?_
    obtain ⟨r23, h22, hf⟩ := b_bd1 hf
    refine r_callV X hw (k_X8_many hE  h22) (sp69 hE) (C := RX8) (T := TX8) (N := 31) rfl qw985 qw987 qw31 qw79 qw988 okX8_many ⟨rfl, rfl⟩ ⟨(Nat.le_of_ble_eq_true rfl), (Nat.le_of_ble_eq_true rfl)⟩ ⟨Nat.zero_le _, Nat.zero_le _⟩ rfl hl.1 (rest := [.int w4]) rfl (Nat.le_of_ble_eq_true rfl) dX8_told_123 (st1 := [.int r23, .int w4]) rfl (fun H locs hw => ?_)
    refine lv_icmp_ge (tgt := 156) X.1 X.2.1 dX8_told_126 (by decide) (fun c24 => ?_) (fun c24 => ?_)
    · have hf := if_t hf c24
      obtain rfl := Option.some.inj hf
      obtain rfl := hr2 _ rfl
      exact K1 _ _ rfl _ _ _ hw (lv_sub hl [0, 1, 2, 3, 4] rfl)
    · have hf := if_e hf c24
      refine lv_iload_n X.1 X.2.1 dX8_told_129 rfl (lv_at hl 3 rfl) ?_
      refine lv_aload_n X.1 X.2.1 dX8_told_130 rfl (lv_at hl 0 rfl) ?_
      refine lv_iload X.1 X.2.1 dX8_told_131 (lv_at hl 4 rfl) ?_
      obtain ⟨r26, h25, hf⟩ := b_bd1 hf
      refine r_callV X hw (k_X8_setter hE  h25) (sp69 hE) (C := RX8) (T := TX8) (N := 31) rfl qw1001 qw1003 qw34 qw79 qw1004 okX8_setter ⟨rfl, rfl⟩ ⟨(Nat.le_of_ble_eq_true rfl), (Nat.le_of_ble_eq_true rfl)⟩ ⟨Nat.zero_le _, Nat.zero_le _⟩ rfl hl.1 (rest := [.int w3]) rfl (Nat.le_of_ble_eq_true rfl) dX8_told_133 (st1 := [.int r26, .int w3]) rfl (fun H locs hw => ?_)
      refine lv_iload_n X.1 X.2.1 dX8_told_136 rfl (lv_at hl 1 rfl) ?_
      obtain ⟨v28, e29, hf⟩ := b_bnd hf
      refine r_join (g2 := F0 m 148 ls [.int v28, .int w3]) ?_ (fun hj => ?_)
      · refine lv_ior X.1 X.2.1 dX8_told_148 ?_
        refine r_bnd hf (fun v30 hf => ?_)
        refine lv_istore_n (lv' := [(3, .int v30), (0, .ref (eP E 69)), (1, .int u1), (2, .int u2), (4, .int w4)]) X.1 X.2.1 dX8_told_149 rfl hl (by decide) rfl (fun ls hl => ?_)
        obtain ⟨v31, e32, hf⟩ := b_bnd hf
        refine lv_iinc (v := v31) (k := 4) (lv' := [(4, .int v31), (3, .int v30), (0, .ref (eP E 69)), (1, .int u1), (2, .int u2)]) X.1 X.2.1 dX8_told_150 hl rfl (by rw [e32]; exact congrArg _ (by decide)) (by decide) rfl (fun ls hl => ?_)
        refine lv_goto (tgt := 120) X.1 X.2.1 dX8_told_153 (by decide) ?_
        obtain rfl := Option.some.inj hf
        exact ih _ _ (hr1 _ rfl) _ _ _ hw (lv_sub hl [2, 3, 4, 1, 0] rfl) K1
      · refine lv_icmp_ne (tgt := 147) X.1 X.2.1 dX8_told_137 (by decide) (fun c27 => ?_) (fun c27 => ?_)
        · rw [e29, if_neg c27] at hj
          refine lv_iconst (v := 0) X.1 X.2.1 dX8_told_147 (by decide) ?_
          exact hj
        · rw [e29, if_pos c27] at hj
          refine lv_iconst (v := 1) X.1 X.2.1 dX8_told_140 (by decide) ?_
          refine lv_iload X.1 X.2.1 dX8_told_141 (lv_at hl 4 rfl) ?_
          refine lv_ishl X.1 X.2.1 dX8_told_143 ?_
          refine lv_goto (tgt := 148) X.1 X.2.1 dX8_told_144 (by decide) ?_
          exact hj
set_option maxHeartbeats 4000000 in
set_option maxRecDepth 100000 in
theorem k_X8_told {l : Launch} {E : en_T} (hE : ShF E) {x1 : Int32} {x2 : Int32} {σ : sg_T} {r : Int32} {σ' : sg_T} (hf : f_X8_told x1 x2 σ = some (r, σ')) : Ct l yX8_told cX8_told 5 (some .int) rm_X8_told E [.ref (eP E 69), .int x1, .int x2] σ (some (.int r)) σ' := by
  refine Ct.start (by decide) hE.1 (Nat.le_of_ble_eq_true rfl) ?_
  intro p e s m below meth c X hw ls hl
  have X : Cx E p s m _ meth c cX8_told 5 RX8 (some .int) := X
  have hR : ShR E := hE.r
  have hl : lv_has ls 5 [(0, .ref (eP E 69)), (1, .int x1), (2, .int x2)] := hl
  unfold f_X8_told at hf
  refine lv_iload_n X.1 X.2.1 dX8_told_0 rfl (lv_at hl 2 rfl) ?_
  refine lv_iconst (v := 0) X.1 X.2.1 dX8_told_1 (by decide) ?_
  refine lv_bipush (v := 11) X.1 X.2.1 dX8_told_2 (by decide) ?_
  obtain ⟨r2, h1, hf⟩ := b_bd1 hf
  refine r_callS X hw (k_X8_isIn hE  h1) qw966 qw967 qw79 qw968 okX8_isIn ⟨rfl, rfl⟩ ⟨(Nat.le_of_ble_eq_true rfl), (Nat.le_of_ble_eq_true rfl)⟩ ⟨Nat.zero_le _, Nat.zero_le _⟩ rfl hl.1 (rest := []) rfl (Nat.le_of_ble_eq_true rfl) dX8_told_4 (st1 := [.int r2]) rfl (fun H locs hw => ?_)
  refine lv_if_ne (tgt := 14) X.1 X.2.1 dX8_told_7 (by decide) (fun c3 => ?_) (fun c3 => ?_)
  · have hf := if_e hf c3
    refine lv_iload_n X.1 X.2.1 dX8_told_14 rfl (lv_at hl 2 rfl) ?_
    refine lv_bipush (v := 7) X.1 X.2.1 dX8_told_15 (by decide) ?_
    refine lv_icmp_ge (tgt := 48) X.1 X.2.1 dX8_told_17 (by decide) (fun c4 => ?_) (fun c4 => ?_)
    · have hf := if_t hf c4
      refine lv_aload_n X.1 X.2.1 dX8_told_48 rfl (lv_at hl 0 rfl) ?_
      refine lv_iload_n X.1 X.2.1 dX8_told_49 rfl (lv_at hl 1 rfl) ?_
      obtain ⟨r6, h5, hf⟩ := b_bd1 hf
      refine r_callV X hw (k_X8_isOne hE  h5) (sp69 hE) (C := RX8) (T := TX8) (N := 31) rfl qw977 qw979 qw30 qw79 qw980 okX8_isOne ⟨rfl, rfl⟩ ⟨(Nat.le_of_ble_eq_true rfl), (Nat.le_of_ble_eq_true rfl)⟩ ⟨Nat.zero_le _, Nat.zero_le _⟩ rfl hl.1 (rest := []) rfl (Nat.le_of_ble_eq_true rfl) dX8_told_50 (st1 := [.int r6]) rfl (fun H locs hw => ?_)
      refine lv_if_ne (tgt := 60) X.1 X.2.1 dX8_told_53 (by decide) (fun c7 => ?_) (fun c7 => ?_)
      · have hf := if_e hf c7
        refine lv_iconst (v := 0) X.1 X.2.1 dX8_told_60 (by decide) ?_
        refine lv_istore_n (lv' := [(3, .int 0), (0, .ref (eP E 69)), (1, .int x1), (2, .int x2)]) X.1 X.2.1 dX8_told_61 rfl hl (by decide) rfl (fun ls hl => ?_)
        refine lv_iload_n X.1 X.2.1 dX8_told_62 rfl (lv_at hl 3 rfl) ?_
        by_cases c8 : x2 = 7
        · have hf := if_t hf c8
          refine lv_tableIn (x := x2) (tgt := 92) (off := 29) X.1 X.2.1 dX8_told_63 (by rw [c8]; decide) (by rw [c8]; decide) (by rw [c8]; decide) (by decide) ?_
          refine lv_aload_n X.1 X.2.1 dX8_told_92 rfl (lv_at hl 1 rfl) ?_
          refine lv_iload_n X.1 X.2.1 dX8_told_93 rfl (lv_at hl 2 rfl) ?_
          refine lv_iconst (v := 0) X.1 X.2.1 dX8_told_94 (by decide) ?_
          obtain ⟨r10, h9, hf⟩ := b_bd1 hf
          refine r_callV X hw (k_X8_of hE  h9) (sp69 hE) (C := RX8) (T := TX8) (N := 31) rfl qw997 qw999 qw33 qw79 qw1000 okX8_of ⟨rfl, rfl⟩ ⟨(Nat.le_of_ble_eq_true rfl), (Nat.le_of_ble_eq_true rfl)⟩ ⟨Nat.zero_le _, Nat.zero_le _⟩ rfl hl.1 (rest := []) rfl (Nat.le_of_ble_eq_true rfl) dX8_told_95 (st1 := [.int r10]) rfl (fun H locs hw => ?_)
          obtain ⟨rfl, rfl⟩ := Prod.mk.inj (Option.some.inj hf)
          exact r_iret X hw dX8_told_98
        have hf := if_e hf c8
        by_cases c11 : x2 = 8
        · have hf := if_t hf c11
          refine lv_tableIn (x := x2) (tgt := 99) (off := 36) X.1 X.2.1 dX8_told_63 (by rw [c11]; decide) (by rw [c11]; decide) (by rw [c11]; decide) (by decide) ?_
          refine lv_aload_n X.1 X.2.1 dX8_told_99 rfl (lv_at hl 1 rfl) ?_
          refine lv_iload_n X.1 X.2.1 dX8_told_100 rfl (lv_at hl 2 rfl) ?_
          obtain ⟨r13, h12, hf⟩ := b_bd1 hf
          refine r_callV X hw (k_X8_setter hE  h12) (sp69 hE) (C := RX8) (T := TX8) (N := 31) rfl qw1001 qw1003 qw34 qw79 qw1004 okX8_setter ⟨rfl, rfl⟩ ⟨(Nat.le_of_ble_eq_true rfl), (Nat.le_of_ble_eq_true rfl)⟩ ⟨Nat.zero_le _, Nat.zero_le _⟩ rfl hl.1 (rest := []) rfl (Nat.le_of_ble_eq_true rfl) dX8_told_101 (st1 := [.int r13]) rfl (fun H locs hw => ?_)
          obtain ⟨rfl, rfl⟩ := Prod.mk.inj (Option.some.inj hf)
          exact r_iret X hw dX8_told_104
        have hf := if_e hf c11
        by_cases c14 : x2 = 9
        · have hf := if_t hf c14
          refine lv_tableIn (x := x2) (tgt := 105) (off := 42) X.1 X.2.1 dX8_told_63 (by rw [c14]; decide) (by rw [c14]; decide) (by rw [c14]; decide) (by decide) ?_
          refine lv_aload_n X.1 X.2.1 dX8_told_105 rfl (lv_at hl 1 rfl) ?_
          refine lv_iload_n X.1 X.2.1 dX8_told_106 rfl (lv_at hl 2 rfl) ?_
          obtain ⟨r16, σ17, h15, hf⟩ := b_bd2 hf
          refine r_callV X hw (k_X8_wakes hE  h15) (sp69 hE) (C := RX8) (T := TX8) (N := 31) rfl qw1005 qw1007 qw35 qw79 qw1008 okX8_wakes ⟨rfl, rfl⟩ ⟨(Nat.le_of_ble_eq_true rfl), (Nat.le_of_ble_eq_true rfl)⟩ ⟨Nat.zero_le _, Nat.zero_le _⟩ rfl hl.1 (rest := []) rfl (Nat.le_of_ble_eq_true rfl) dX8_told_107 (st1 := [.int r16]) rfl (fun H locs hw => ?_)
          obtain ⟨rfl, rfl⟩ := Prod.mk.inj (Option.some.inj hf)
          exact r_iret X hw dX8_told_110
        have hf := if_e hf c14
        by_cases c18 : x2 = 10
        · have hf := if_t hf c18
          refine lv_tableIn (x := x2) (tgt := 111) (off := 48) X.1 X.2.1 dX8_told_63 (by rw [c18]; decide) (by rw [c18]; decide) (by rw [c18]; decide) (by decide) ?_
          refine lv_aload_n X.1 X.2.1 dX8_told_111 rfl (lv_at hl 1 rfl) ?_
          refine lv_iload_n X.1 X.2.1 dX8_told_112 rfl (lv_at hl 2 rfl) ?_
          obtain ⟨r20, σ21, h19, hf⟩ := b_bd2 hf
          refine r_callV X hw (k_X8_lateBy hE  h19) (sp69 hE) (C := RX8) (T := TX8) (N := 31) rfl qw1028 qw1030 qw38 qw79 qw1031 okX8_lateBy ⟨rfl, rfl⟩ ⟨(Nat.le_of_ble_eq_true rfl), (Nat.le_of_ble_eq_true rfl)⟩ ⟨Nat.zero_le _, Nat.zero_le _⟩ rfl hl.1 (rest := []) rfl (Nat.le_of_ble_eq_true rfl) dX8_told_113 (st1 := [.int r20]) rfl (fun H locs hw => ?_)
          obtain ⟨rfl, rfl⟩ := Prod.mk.inj (Option.some.inj hf)
          exact r_iret X hw dX8_told_116
        have hf := if_e hf c18
        have c8t := lv_neT (a := 7) c8 (by decide)
        have c11t := lv_neT (a := 8) c11 (by decide)
        have c14t := lv_neT (a := 9) c14 (by decide)
        have c18t := lv_neT (a := 10) c18 (by decide)
        refine lv_tableOut (x := x2) (tgt := 117) X.1 X.2.1 dX8_told_63 (by omega) (by decide) ?_
        refine lv_iconst (v := 0) X.1 X.2.1 dX8_told_117 (by decide) ?_
        refine lv_istore (lv' := [(4, .int 0), (3, .int 0), (0, .ref (eP E 69)), (1, .int x1), (2, .int x2)]) X.1 X.2.1 dX8_told_118 hl (by decide) rfl (fun ls hl => ?_)
        obtain ⟨v34, v35, h33, hf⟩ := b_bd2 hf
        refine w_X8_told_120 X hE  lfu _ _ h33 _ _ _ hw (lv_sub hl [2, 3, 4, 1, 0] rfl) (fun yv34 yv35 hq H locs ls hw hl => ?_)
        cases hq
        refine lv_iload_n X.1 X.2.1 dX8_told_156 rfl (lv_at hl 3 rfl) ?_
        obtain ⟨rfl, rfl⟩ := Prod.mk.inj (Option.some.inj hf)
        exact r_iret X hw dX8_told_157
      · have hf := if_t hf c7
        refine lv_sipush (v := (-1000)) X.1 X.2.1 dX8_told_56 (by decide) ?_
        obtain ⟨rfl, rfl⟩ := Prod.mk.inj (Option.some.inj hf)
        exact r_iret X hw dX8_told_59
    · have hf := if_e hf c4
      refine lv_aload_n X.1 X.2.1 dX8_told_20 rfl (lv_at hl 0 rfl) ?_
      refine lv_iload_n X.1 X.2.1 dX8_told_21 rfl (lv_at hl 2 rfl) ?_
      refine lv_iload_n X.1 X.2.1 dX8_told_22 rfl (lv_at hl 1 rfl) ?_
      obtain ⟨r37, h36, hf⟩ := b_bd1 hf
      refine r_callV X hw (k_X8_place hE  h36) (sp69 hE) (C := RX8) (T := TX8) (N := 31) rfl qw969 qw971 qw28 qw79 qw972 okX8_place ⟨rfl, rfl⟩ ⟨(Nat.le_of_ble_eq_true rfl), (Nat.le_of_ble_eq_true rfl)⟩ ⟨Nat.zero_le _, Nat.zero_le _⟩ rfl hl.1 (rest := []) rfl (Nat.le_of_ble_eq_true rfl) dX8_told_23 (st1 := [.int r37]) rfl (fun H locs hw => ?_)
      refine lv_iconst (v := (-1)) X.1 X.2.1 dX8_told_26 (by decide) ?_
      refine lv_icmp_ne (tgt := 36) X.1 X.2.1 dX8_told_27 (by decide) (fun c38 => ?_) (fun c38 => ?_)
      · have hf := if_e hf c38
        refine lv_aload_n X.1 X.2.1 dX8_told_36 rfl (lv_at hl 0 rfl) ?_
        refine r_get X hw (sp69 hE) (C := RX8) (T := TX8) (N := 31) rfl iwX8 0 (by decide) (Nat.le_of_ble_eq_true rfl) qw866 (v := .ref (eP E 70)) rfl dX8_told_37 ?_
        refine lv_aload_n X.1 X.2.1 dX8_told_40 rfl (lv_at hl 0 rfl) ?_
        refine lv_iload_n X.1 X.2.1 dX8_told_41 rfl (lv_at hl 2 rfl) ?_
        refine lv_iload_n X.1 X.2.1 dX8_told_42 rfl (lv_at hl 1 rfl) ?_
        obtain ⟨r40, h39, hf⟩ := b_bd1 hf
        refine r_callV X hw (k_X8_place hE  h39) (sp69 hE) (C := RX8) (T := TX8) (N := 31) rfl qw969 qw971 qw28 qw79 qw972 okX8_place ⟨rfl, rfl⟩ ⟨(Nat.le_of_ble_eq_true rfl), (Nat.le_of_ble_eq_true rfl)⟩ ⟨Nat.zero_le _, Nat.zero_le _⟩ rfl hl.1 (rest := [.ref (eP E 70)]) rfl (Nat.le_of_ble_eq_true rfl) dX8_told_43 (st1 := [.int r40, .ref (eP E 70)]) rfl (fun H locs hw => ?_)
        obtain ⟨h41, hf⟩ := b_ck hf
        refine r_iald X hw (sp70 hE) h41 dX8_told_46 ?_
        obtain ⟨rfl, rfl⟩ := Prod.mk.inj (Option.some.inj hf)
        exact r_iret X hw dX8_told_47
      · have hf := if_t hf c38
        refine lv_sipush (v := (-1000)) X.1 X.2.1 dX8_told_30 (by decide) ?_
        refine lv_goto (tgt := 47) X.1 X.2.1 dX8_told_33 (by decide) ?_
        obtain ⟨rfl, rfl⟩ := Prod.mk.inj (Option.some.inj hf)
        exact r_iret X hw dX8_told_47
  · have hf := if_t hf c3
    refine lv_sipush (v := (-1000)) X.1 X.2.1 dX8_told_10 (by decide) ?_
    obtain ⟨rfl, rfl⟩ := Prod.mk.inj (Option.some.inj hf)
    exact r_iret X hw dX8_told_13
abbrev rm_X8_grows : Room := { frames := 3, cells := 0, slots := 0, locals := 151 }
set_option maxHeartbeats 4000000 in
set_option maxRecDepth 100000 in
theorem k_X8_grows {l : Launch} {E : en_T} (hE : ShF E) {x1 : Int32} {x2 : Int32} {x3 : Int32} {σ : sg_T} {r : Int32} {σ' : sg_T} (hf : f_X8_grows x1 x2 x3 σ = some (r, σ')) : Ct l yX8_grows cX8_grows 5 (some .int) rm_X8_grows E [.ref (eP E 69), .int x1, .int x2, .int x3] σ (some (.int r)) σ' := by
  refine Ct.start (by decide) hE.1 (Nat.le_of_ble_eq_true rfl) ?_
  intro p e s m below meth c X hw ls hl
  have X : Cx E p s m _ meth c cX8_grows 5 RX8 (some .int) := X
  have hR : ShR E := hE.r
  have hl : lv_has ls 5 [(0, .ref (eP E 69)), (1, .int x1), (2, .int x2), (3, .int x3)] := hl
  unfold f_X8_grows at hf
  refine lv_aload_n X.1 X.2.1 dX8_grows_0 rfl (lv_at hl 0 rfl) ?_
  refine lv_iconst (v := 2) X.1 X.2.1 dX8_grows_1 (by decide) ?_
  refine lv_iload_n X.1 X.2.1 dX8_grows_2 rfl (lv_at hl 1 rfl) ?_
  refine lv_iload_n X.1 X.2.1 dX8_grows_3 rfl (lv_at hl 2 rfl) ?_
  obtain ⟨r2, σ3, h1, hf⟩ := b_bd2 hf
  refine r_callV X hw (k_X8_tell hE  h1) (sp69 hE) (C := RX8) (T := TX8) (N := 31) rfl qw1013 qw1015 qw37 qw79 qw1016 okX8_tell ⟨rfl, rfl⟩ ⟨(Nat.le_of_ble_eq_true rfl), (Nat.le_of_ble_eq_true rfl)⟩ ⟨Nat.zero_le _, Nat.zero_le _⟩ rfl hl.1 (rest := []) rfl (Nat.le_of_ble_eq_true rfl) dX8_grows_4 (st1 := [.int r2]) rfl (fun H locs hw => ?_)
  refine lv_bipush (v := (-99)) X.1 X.2.1 dX8_grows_7 (by decide) ?_
  refine lv_bipush (v := 99) X.1 X.2.1 dX8_grows_9 (by decide) ?_
  obtain ⟨r5, h4, hf⟩ := b_bd1 hf
  refine r_callS X hw (k_X8_bound hE  h4) qw1023 qw1024 qw79 qw1025 okX8_bound ⟨rfl, rfl⟩ ⟨(Nat.le_of_ble_eq_true rfl), (Nat.le_of_ble_eq_true rfl)⟩ ⟨Nat.zero_le _, Nat.zero_le _⟩ rfl hl.1 (rest := []) rfl (Nat.le_of_ble_eq_true rfl) dX8_grows_11 (st1 := [.int r5]) rfl (fun H locs hw => ?_)
  refine lv_istore (lv' := [(4, .int r5), (0, .ref (eP E 69)), (1, .int x1), (2, .int x2), (3, .int x3)]) X.1 X.2.1 dX8_grows_14 hl (by decide) rfl (fun ls hl => ?_)
  refine lv_aload_n X.1 X.2.1 dX8_grows_16 rfl (lv_at hl 1 rfl) ?_
  refine lv_iload_n X.1 X.2.1 dX8_grows_17 rfl (lv_at hl 2 rfl) ?_
  refine lv_iconst (v := 0) X.1 X.2.1 dX8_grows_18 (by decide) ?_
  obtain ⟨r7, h6, hf⟩ := b_bd1 hf
  refine r_callV X hw (k_X8_of hE  h6) (sp69 hE) (C := RX8) (T := TX8) (N := 31) rfl qw997 qw999 qw33 qw79 qw1000 okX8_of ⟨rfl, rfl⟩ ⟨(Nat.le_of_ble_eq_true rfl), (Nat.le_of_ble_eq_true rfl)⟩ ⟨Nat.zero_le _, Nat.zero_le _⟩ rfl hl.1 (rest := []) rfl (Nat.le_of_ble_eq_true rfl) dX8_grows_19 (st1 := [.int r7]) rfl (fun H locs hw => ?_)
  by_cases c8 : r7 = 1
  · have hf := if_t hf c8
    refine lv_tableIn (x := r7) (tgt := 56) (off := 34) X.1 X.2.1 dX8_grows_22 (by rw [c8]; decide) (by rw [c8]; decide) (by rw [c8]; decide) (by decide) ?_
    refine lv_iload_n X.1 X.2.1 dX8_grows_56 rfl (lv_at hl 4 rfl) ?_
    obtain ⟨v10, e11, hf⟩ := b_bnd hf
    refine r_join (g2 := F0 m 66 ls [.int v10]) ?_ (fun hj => ?_)
    · obtain ⟨rfl, rfl⟩ := Prod.mk.inj (Option.some.inj hf)
      exact r_iret X hw dX8_grows_66
    · refine lv_if_eq (tgt := 64) X.1 X.2.1 dX8_grows_57 (by decide) (fun c9 => ?_) (fun c9 => ?_)
      · rw [e11, if_pos c9] at hj
        refine lv_iload X.1 X.2.1 dX8_grows_64 (lv_at hl 0 rfl) ?_
        exact hj
      · rw [e11, if_neg c9] at hj
        refine lv_iconst (v := 0) X.1 X.2.1 dX8_grows_60 (by decide) ?_
        refine lv_goto (tgt := 66) X.1 X.2.1 dX8_grows_61 (by decide) ?_
        exact hj
  have hf := if_e hf c8
  by_cases c12 : r7 = 2
  · have hf := if_t hf c12
    refine lv_tableIn (x := r7) (tgt := 67) (off := 45) X.1 X.2.1 dX8_grows_22 (by rw [c12]; decide) (by rw [c12]; decide) (by rw [c12]; decide) (by decide) ?_
    refine lv_iload X.1 X.2.1 dX8_grows_67 (lv_at hl 0 rfl) ?_
    refine lv_ineg X.1 X.2.1 dX8_grows_69 ?_
    obtain ⟨rfl, rfl⟩ := Prod.mk.inj (Option.some.inj hf)
    exact r_iret X hw dX8_grows_70
  have hf := if_e hf c12
  by_cases c13 : r7 = 3
  · have hf := if_t hf c13
    refine lv_tableIn (x := r7) (tgt := 71) (off := 49) X.1 X.2.1 dX8_grows_22 (by rw [c13]; decide) (by rw [c13]; decide) (by rw [c13]; decide) (by decide) ?_
    refine lv_iconst (v := 1) X.1 X.2.1 dX8_grows_71 (by decide) ?_
    refine lv_iload_n X.1 X.2.1 dX8_grows_72 rfl (lv_at hl 4 rfl) ?_
    obtain ⟨v15, e16, hf⟩ := b_bnd hf
    refine r_join (g2 := F0 m 82 ls [.int v15, .int 1]) ?_ (fun hj => ?_)
    · refine lv_iadd X.1 X.2.1 dX8_grows_82 ?_
      obtain ⟨rfl, rfl⟩ := Prod.mk.inj (Option.some.inj hf)
      exact r_iret X hw dX8_grows_83
    · refine lv_if_eq (tgt := 80) X.1 X.2.1 dX8_grows_73 (by decide) (fun c14 => ?_) (fun c14 => ?_)
      · rw [e16, if_pos c14] at hj
        refine lv_iload X.1 X.2.1 dX8_grows_80 (lv_at hl 0 rfl) ?_
        exact hj
      · rw [e16, if_neg c14] at hj
        refine lv_iconst (v := 0) X.1 X.2.1 dX8_grows_76 (by decide) ?_
        refine lv_goto (tgt := 82) X.1 X.2.1 dX8_grows_77 (by decide) ?_
        exact hj
  have hf := if_e hf c13
  by_cases c17 : r7 = 4
  · have hf := if_t hf c17
    refine lv_tableIn (x := r7) (tgt := 84) (off := 62) X.1 X.2.1 dX8_grows_22 (by rw [c17]; decide) (by rw [c17]; decide) (by rw [c17]; decide) (by decide) ?_
    refine lv_aload_n X.1 X.2.1 dX8_grows_84 rfl (lv_at hl 1 rfl) ?_
    refine r_get X hw (sp69 hE) (C := RX8) (T := TX8) (N := 31) rfl iwX8 0 (by decide) (Nat.le_of_ble_eq_true rfl) qw866 (v := .ref (eP E 70)) rfl dX8_grows_85 ?_
    refine lv_bipush (v := 56) X.1 X.2.1 dX8_grows_88 (by decide) ?_
    obtain ⟨h18, hf⟩ := b_ck hf
    refine r_iald X hw (sp70 hE) h18 dX8_grows_90 ?_
    refine lv_iconst (v := 2) X.1 X.2.1 dX8_grows_91 (by decide) ?_
    refine r_irem X dX8_grows_92 (by decide) ?_
    refine lv_iconst (v := 1) X.1 X.2.1 dX8_grows_93 (by decide) ?_
    obtain ⟨v20, e21, hf⟩ := b_bnd hf
    refine r_join (g2 := F0 m 104 ls [.int v20]) ?_ (fun hj => ?_)
    · obtain ⟨rfl, rfl⟩ := Prod.mk.inj (Option.some.inj hf)
      exact r_iret X hw dX8_grows_104
    · refine lv_icmp_ne (tgt := 103) X.1 X.2.1 dX8_grows_94 (by decide) (fun c19 => ?_) (fun c19 => ?_)
      · rw [e21, if_neg c19] at hj
        refine lv_iconst (v := 0) X.1 X.2.1 dX8_grows_103 (by decide) ?_
        exact hj
      · rw [e21, if_pos c19] at hj
        refine lv_iload X.1 X.2.1 dX8_grows_97 (lv_at hl 0 rfl) ?_
        refine lv_ineg X.1 X.2.1 dX8_grows_99 ?_
        refine lv_goto (tgt := 104) X.1 X.2.1 dX8_grows_100 (by decide) ?_
        exact hj
  have hf := if_e hf c17
  by_cases c22 : r7 = 5
  · have hf := if_t hf c22
    refine lv_tableIn (x := r7) (tgt := 105) (off := 83) X.1 X.2.1 dX8_grows_22 (by rw [c22]; decide) (by rw [c22]; decide) (by rw [c22]; decide) (by decide) ?_
    refine lv_iconst (v := 0) X.1 X.2.1 dX8_grows_105 (by decide) ?_
    obtain ⟨rfl, rfl⟩ := Prod.mk.inj (Option.some.inj hf)
    exact r_iret X hw dX8_grows_106
  have hf := if_e hf c22
  have c8t := lv_neT (a := 1) c8 (by decide)
  have c12t := lv_neT (a := 2) c12 (by decide)
  have c13t := lv_neT (a := 3) c13 (by decide)
  have c17t := lv_neT (a := 4) c17 (by decide)
  have c22t := lv_neT (a := 5) c22 (by decide)
  refine lv_tableOut (x := r7) (tgt := 107) X.1 X.2.1 dX8_grows_22 (by omega) (by decide) ?_
  refine lv_iload X.1 X.2.1 dX8_grows_107 (lv_at hl 0 rfl) ?_
  obtain ⟨rfl, rfl⟩ := Prod.mk.inj (Option.some.inj hf)
  exact r_iret X hw dX8_grows_109
abbrev rm_X8_asks : Room := { frames := 4, cells := 0, slots := 0, locals := 175 }
set_option maxHeartbeats 4000000 in
set_option maxRecDepth 100000 in
theorem k_X8_asks {l : Launch} {E : en_T} (hE : ShF E) {x1 : Int32} {x2 : Int32} {x3 : Int32} {σ : sg_T} {r : Int32} {σ' : sg_T} (hf : f_X8_asks x1 x2 x3 σ = some (r, σ')) : Ct l yX8_asks cX8_asks 4 (some .int) rm_X8_asks E [.ref (eP E 69), .int x1, .int x2, .int x3] σ (some (.int r)) σ' := by
  refine Ct.start (by decide) hE.1 (Nat.le_of_ble_eq_true rfl) ?_
  intro p e s m below meth c X hw ls hl
  have X : Cx E p s m _ meth c cX8_asks 4 RX8 (some .int) := X
  have hR : ShR E := hE.r
  have hl : lv_has ls 4 [(0, .ref (eP E 69)), (1, .int x1), (2, .int x2), (3, .int x3)] := hl
  unfold f_X8_asks at hf
  refine lv_aload_n X.1 X.2.1 dX8_asks_0 rfl (lv_at hl 0 rfl) ?_
  refine lv_iload_n X.1 X.2.1 dX8_asks_1 rfl (lv_at hl 1 rfl) ?_
  refine lv_iload_n X.1 X.2.1 dX8_asks_2 rfl (lv_at hl 2 rfl) ?_
  obtain ⟨r2, h1, hf⟩ := b_bd1 hf
  refine r_callV X hw (k_X8_isTwo hE  h1) (sp69 hE) (C := RX8) (T := TX8) (N := 31) rfl qw973 qw975 qw29 qw79 qw976 okX8_isTwo ⟨rfl, rfl⟩ ⟨(Nat.le_of_ble_eq_true rfl), (Nat.le_of_ble_eq_true rfl)⟩ ⟨Nat.zero_le _, Nat.zero_le _⟩ rfl hl.1 (rest := []) rfl (Nat.le_of_ble_eq_true rfl) dX8_asks_3 (st1 := [.int r2]) rfl (fun H locs hw => ?_)
  refine lv_if_eq (tgt := 18) X.1 X.2.1 dX8_asks_6 (by decide) (fun c3 => ?_) (fun c3 => ?_)
  · have hf := if_t hf c3
    refine lv_sipush (v := (-1000)) X.1 X.2.1 dX8_asks_18 (by decide) ?_
    obtain ⟨rfl, rfl⟩ := Prod.mk.inj (Option.some.inj hf)
    exact r_iret X hw dX8_asks_21
  · have hf := if_e hf c3
    refine lv_iload_n X.1 X.2.1 dX8_asks_9 rfl (lv_at hl 3 rfl) ?_
    refine lv_iconst (v := 0) X.1 X.2.1 dX8_asks_10 (by decide) ?_
    refine lv_iconst (v := 2) X.1 X.2.1 dX8_asks_11 (by decide) ?_
    obtain ⟨r5, h4, hf⟩ := b_bd1 hf
    refine r_callS X hw (k_X8_isIn hE  h4) qw966 qw967 qw79 qw968 okX8_isIn ⟨rfl, rfl⟩ ⟨(Nat.le_of_ble_eq_true rfl), (Nat.le_of_ble_eq_true rfl)⟩ ⟨Nat.zero_le _, Nat.zero_le _⟩ rfl hl.1 (rest := []) rfl (Nat.le_of_ble_eq_true rfl) dX8_asks_12 (st1 := [.int r5]) rfl (fun H locs hw => ?_)
    refine lv_if_ne (tgt := 22) X.1 X.2.1 dX8_asks_15 (by decide) (fun c6 => ?_) (fun c6 => ?_)
    · have hf := if_e hf c6
      refine lv_iload_n X.1 X.2.1 dX8_asks_22 rfl (lv_at hl 3 rfl) ?_
      refine lv_if_ne (tgt := 35) X.1 X.2.1 dX8_asks_23 (by decide) (fun c7 => ?_) (fun c7 => ?_)
      · have hf := if_e hf c7
        refine lv_aload_n X.1 X.2.1 dX8_asks_35 rfl (lv_at hl 0 rfl) ?_
        refine lv_iload_n X.1 X.2.1 dX8_asks_36 rfl (lv_at hl 1 rfl) ?_
        refine lv_iload_n X.1 X.2.1 dX8_asks_37 rfl (lv_at hl 2 rfl) ?_
        refine lv_iload_n X.1 X.2.1 dX8_asks_38 rfl (lv_at hl 3 rfl) ?_
        refine lv_iconst (v := 1) X.1 X.2.1 dX8_asks_39 (by decide) ?_
        obtain ⟨v9, e10, hf⟩ := b_bnd hf
        refine r_join (g2 := F0 m 48 ls [.int v9, .int x2, .int x1, .ref (eP E 69)]) ?_ (fun hj => ?_)
        · obtain ⟨r12, σ13, h11, hf⟩ := b_bd2 hf
          refine r_callV X hw (k_X8_grows hE  h11) (sp69 hE) (C := RX8) (T := TX8) (N := 31) rfl qw1036 qw1038 qw39 qw79 qw1039 okX8_grows ⟨rfl, rfl⟩ ⟨(Nat.le_of_ble_eq_true rfl), (Nat.le_of_ble_eq_true rfl)⟩ ⟨Nat.zero_le _, Nat.zero_le _⟩ rfl hl.1 (rest := []) rfl (Nat.le_of_ble_eq_true rfl) dX8_asks_48 (st1 := [.int r12]) rfl (fun H locs hw => ?_)
          obtain ⟨rfl, rfl⟩ := Prod.mk.inj (Option.some.inj hf)
          exact r_iret X hw dX8_asks_51
        · refine lv_icmp_ne (tgt := 47) X.1 X.2.1 dX8_asks_40 (by decide) (fun c8 => ?_) (fun c8 => ?_)
          · rw [e10, if_neg c8] at hj
            refine lv_iconst (v := 0) X.1 X.2.1 dX8_asks_47 (by decide) ?_
            exact hj
          · rw [e10, if_pos c8] at hj
            refine lv_iconst (v := 1) X.1 X.2.1 dX8_asks_43 (by decide) ?_
            refine lv_goto (tgt := 48) X.1 X.2.1 dX8_asks_44 (by decide) ?_
            exact hj
      · have hf := if_t hf c7
        refine lv_aload_n X.1 X.2.1 dX8_asks_26 rfl (lv_at hl 0 rfl) ?_
        refine lv_iload_n X.1 X.2.1 dX8_asks_27 rfl (lv_at hl 1 rfl) ?_
        refine lv_iload_n X.1 X.2.1 dX8_asks_28 rfl (lv_at hl 2 rfl) ?_
        obtain ⟨r15, σ16, h14, hf⟩ := b_bd2 hf
        refine r_callV X hw (k_X8_sets hE  h14) (sp69 hE) (C := RX8) (T := TX8) (N := 31) rfl qw1009 qw1011 qw36 qw79 qw1012 okX8_sets ⟨rfl, rfl⟩ ⟨(Nat.le_of_ble_eq_true rfl), (Nat.le_of_ble_eq_true rfl)⟩ ⟨Nat.zero_le _, Nat.zero_le _⟩ rfl hl.1 (rest := []) rfl (Nat.le_of_ble_eq_true rfl) dX8_asks_29 (st1 := [.int r15]) rfl (fun H locs hw => ?_)
        refine lv_goto (tgt := 51) X.1 X.2.1 dX8_asks_32 (by decide) ?_
        obtain ⟨rfl, rfl⟩ := Prod.mk.inj (Option.some.inj hf)
        exact r_iret X hw dX8_asks_51
    · have hf := if_t hf c6
      refine lv_sipush (v := (-1000)) X.1 X.2.1 dX8_asks_18 (by decide) ?_
      obtain ⟨rfl, rfl⟩ := Prod.mk.inj (Option.some.inj hf)
      exact r_iret X hw dX8_asks_21
abbrev rm_X8_tires : Room := { frames := 3, cells := 0, slots := 0, locals := 151 }
set_option maxHeartbeats 4000000 in
set_option maxRecDepth 100000 in
theorem k_X8_tires {l : Launch} {E : en_T} (hE : ShF E) {x1 : Int32} {x2 : Int32} {σ : sg_T} {r : Int32} {σ' : sg_T} (hf : f_X8_tires x1 x2 σ = some (r, σ')) : Ct l yX8_tires cX8_tires 6 (some .int) rm_X8_tires E [.ref (eP E 69), .int x1, .int x2] σ (some (.int r)) σ' := by
  refine Ct.start (by decide) hE.1 (Nat.le_of_ble_eq_true rfl) ?_
  intro p e s m below meth c X hw ls hl
  have X : Cx E p s m _ meth c cX8_tires 6 RX8 (some .int) := X
  have hR : ShR E := hE.r
  have hl : lv_has ls 6 [(0, .ref (eP E 69)), (1, .int x1), (2, .int x2)] := hl
  unfold f_X8_tires at hf
  refine lv_aload_n X.1 X.2.1 dX8_tires_0 rfl (lv_at hl 0 rfl) ?_
  refine lv_iconst (v := 1) X.1 X.2.1 dX8_tires_1 (by decide) ?_
  refine lv_iload_n X.1 X.2.1 dX8_tires_2 rfl (lv_at hl 1 rfl) ?_
  refine lv_iload_n X.1 X.2.1 dX8_tires_3 rfl (lv_at hl 1 rfl) ?_
  obtain ⟨r2, σ3, h1, hf⟩ := b_bd2 hf
  refine r_callV X hw (k_X8_tell hE  h1) (sp69 hE) (C := RX8) (T := TX8) (N := 31) rfl qw1013 qw1015 qw37 qw79 qw1016 okX8_tell ⟨rfl, rfl⟩ ⟨(Nat.le_of_ble_eq_true rfl), (Nat.le_of_ble_eq_true rfl)⟩ ⟨Nat.zero_le _, Nat.zero_le _⟩ rfl hl.1 (rest := []) rfl (Nat.le_of_ble_eq_true rfl) dX8_tires_4 (st1 := [.int r2]) rfl (fun H locs hw => ?_)
  refine lv_bipush (v := (-99)) X.1 X.2.1 dX8_tires_7 (by decide) ?_
  refine lv_bipush (v := 99) X.1 X.2.1 dX8_tires_9 (by decide) ?_
  obtain ⟨r5, h4, hf⟩ := b_bd1 hf
  refine r_callS X hw (k_X8_bound hE  h4) qw1023 qw1024 qw79 qw1025 okX8_bound ⟨rfl, rfl⟩ ⟨(Nat.le_of_ble_eq_true rfl), (Nat.le_of_ble_eq_true rfl)⟩ ⟨Nat.zero_le _, Nat.zero_le _⟩ rfl hl.1 (rest := []) rfl (Nat.le_of_ble_eq_true rfl) dX8_tires_11 (st1 := [.int r5]) rfl (fun H locs hw => ?_)
  refine lv_istore_n (lv' := [(3, .int r5), (0, .ref (eP E 69)), (1, .int x1), (2, .int x2)]) X.1 X.2.1 dX8_tires_14 rfl hl (by decide) rfl (fun ls hl => ?_)
  refine lv_iload_n X.1 X.2.1 dX8_tires_15 rfl (lv_at hl 0 rfl) ?_
  refine lv_iload_n X.1 X.2.1 dX8_tires_16 rfl (lv_at hl 3 rfl) ?_
  refine lv_bipush (v := 6) X.1 X.2.1 dX8_tires_17 (by decide) ?_
  refine lv_icmp_ge (tgt := 31) X.1 X.2.1 dX8_tires_19 (by decide) (fun c6 => ?_) (fun c6 => ?_)
  · have hf := if_t hf c6
    refine lv_iconst (v := 0) X.1 X.2.1 dX8_tires_31 (by decide) ?_
    refine lv_iadd X.1 X.2.1 dX8_tires_32 ?_
    refine r_bnd hf (fun v7 hf => ?_)
    refine lv_istore (lv' := [(4, .int v7), (3, .int r5), (0, .ref (eP E 69)), (1, .int x1), (2, .int x2)]) X.1 X.2.1 dX8_tires_33 hl (by decide) rfl (fun ls hl => ?_)
    refine lv_iload_n X.1 X.2.1 dX8_tires_35 rfl (lv_at hl 1 rfl) ?_
    refine lv_istore (lv' := [(5, .int r5), (4, .int v7), (3, .int r5), (0, .ref (eP E 69)), (1, .int x1), (2, .int x2)]) X.1 X.2.1 dX8_tires_36 hl (by decide) rfl (fun ls hl => ?_)
    refine lv_aload_n X.1 X.2.1 dX8_tires_38 rfl (lv_at hl 3 rfl) ?_
    refine lv_iload_n X.1 X.2.1 dX8_tires_39 rfl (lv_at hl 4 rfl) ?_
    refine lv_iconst (v := 0) X.1 X.2.1 dX8_tires_40 (by decide) ?_
    obtain ⟨r9, h8, hf⟩ := b_bd1 hf
    refine r_callV X hw (k_X8_of hE  h8) (sp69 hE) (C := RX8) (T := TX8) (N := 31) rfl qw997 qw999 qw33 qw79 qw1000 okX8_of ⟨rfl, rfl⟩ ⟨(Nat.le_of_ble_eq_true rfl), (Nat.le_of_ble_eq_true rfl)⟩ ⟨Nat.zero_le _, Nat.zero_le _⟩ rfl hl.1 (rest := []) rfl (Nat.le_of_ble_eq_true rfl) dX8_tires_41 (st1 := [.int r9]) rfl (fun H locs hw => ?_)
    by_cases c10 : r9 = 1
    · have hf := if_t hf c10
      refine lv_tableIn (x := r9) (tgt := 80) (off := 36) X.1 X.2.1 dX8_tires_44 (by rw [c10]; decide) (by rw [c10]; decide) (by rw [c10]; decide) (by decide) ?_
      refine lv_iload_n X.1 X.2.1 dX8_tires_80 rfl (lv_at hl 2 rfl) ?_
      refine lv_iconst (v := 2) X.1 X.2.1 dX8_tires_81 (by decide) ?_
      refine lv_idiv X.1 X.2.1 dX8_tires_82 (by decide) ?_
      refine r_bnd hf (fun v11 hf => ?_)
      refine lv_istore (lv' := [(5, .int v11), (4, .int v7), (3, .int r5), (0, .ref (eP E 69)), (1, .int x1), (2, .int x2)]) X.1 X.2.1 dX8_tires_83 hl (by decide) rfl (fun ls hl => ?_)
      refine lv_goto (tgt := 138) X.1 X.2.1 dX8_tires_85 (by decide) ?_
      refine lv_iload X.1 X.2.1 dX8_tires_138 (lv_at hl 0 rfl) ?_
      refine lv_bipush (v := (-99)) X.1 X.2.1 dX8_tires_140 (by decide) ?_
      refine lv_bipush (v := 99) X.1 X.2.1 dX8_tires_142 (by decide) ?_
      obtain ⟨r13, h12, hf⟩ := b_bd1 hf
      refine r_callS X hw (k_X8_bound hE  h12) qw1023 qw1024 qw79 qw1025 okX8_bound ⟨rfl, rfl⟩ ⟨(Nat.le_of_ble_eq_true rfl), (Nat.le_of_ble_eq_true rfl)⟩ ⟨Nat.zero_le _, Nat.zero_le _⟩ rfl hl.1 (rest := []) rfl (Nat.le_of_ble_eq_true rfl) dX8_tires_144 (st1 := [.int r13]) rfl (fun H locs hw => ?_)
      obtain ⟨rfl, rfl⟩ := Prod.mk.inj (Option.some.inj hf)
      exact r_iret X hw dX8_tires_147
    have hf := if_e hf c10
    by_cases c14 : r9 = 2
    · have hf := if_t hf c14
      refine lv_tableIn (x := r9) (tgt := 88) (off := 44) X.1 X.2.1 dX8_tires_44 (by rw [c14]; decide) (by rw [c14]; decide) (by rw [c14]; decide) (by decide) ?_
      refine lv_iload X.1 X.2.1 dX8_tires_88 (lv_at hl 1 rfl) ?_
      refine lv_istore (lv' := [(5, .int v7), (4, .int v7), (3, .int r5), (0, .ref (eP E 69)), (1, .int x1), (2, .int x2)]) X.1 X.2.1 dX8_tires_90 hl (by decide) rfl (fun ls hl => ?_)
      refine lv_goto (tgt := 138) X.1 X.2.1 dX8_tires_92 (by decide) ?_
      refine lv_iload X.1 X.2.1 dX8_tires_138 (lv_at hl 0 rfl) ?_
      refine lv_bipush (v := (-99)) X.1 X.2.1 dX8_tires_140 (by decide) ?_
      refine lv_bipush (v := 99) X.1 X.2.1 dX8_tires_142 (by decide) ?_
      obtain ⟨r16, h15, hf⟩ := b_bd1 hf
      refine r_callS X hw (k_X8_bound hE  h15) qw1023 qw1024 qw79 qw1025 okX8_bound ⟨rfl, rfl⟩ ⟨(Nat.le_of_ble_eq_true rfl), (Nat.le_of_ble_eq_true rfl)⟩ ⟨Nat.zero_le _, Nat.zero_le _⟩ rfl hl.1 (rest := []) rfl (Nat.le_of_ble_eq_true rfl) dX8_tires_144 (st1 := [.int r16]) rfl (fun H locs hw => ?_)
      obtain ⟨rfl, rfl⟩ := Prod.mk.inj (Option.some.inj hf)
      exact r_iret X hw dX8_tires_147
    have hf := if_e hf c14
    by_cases c17 : r9 = 3
    · have hf := if_t hf c17
      refine lv_tableIn (x := r9) (tgt := 95) (off := 51) X.1 X.2.1 dX8_tires_44 (by rw [c17]; decide) (by rw [c17]; decide) (by rw [c17]; decide) (by decide) ?_
      refine lv_iconst (v := 0) X.1 X.2.1 dX8_tires_95 (by decide) ?_
      refine lv_istore (lv' := [(5, .int 0), (4, .int v7), (3, .int r5), (0, .ref (eP E 69)), (1, .int x1), (2, .int x2)]) X.1 X.2.1 dX8_tires_96 hl (by decide) rfl (fun ls hl => ?_)
      refine lv_goto (tgt := 138) X.1 X.2.1 dX8_tires_98 (by decide) ?_
      refine lv_iload X.1 X.2.1 dX8_tires_138 (lv_at hl 0 rfl) ?_
      refine lv_bipush (v := (-99)) X.1 X.2.1 dX8_tires_140 (by decide) ?_
      refine lv_bipush (v := 99) X.1 X.2.1 dX8_tires_142 (by decide) ?_
      obtain ⟨r19, h18, hf⟩ := b_bd1 hf
      refine r_callS X hw (k_X8_bound hE  h18) qw1023 qw1024 qw79 qw1025 okX8_bound ⟨rfl, rfl⟩ ⟨(Nat.le_of_ble_eq_true rfl), (Nat.le_of_ble_eq_true rfl)⟩ ⟨Nat.zero_le _, Nat.zero_le _⟩ rfl hl.1 (rest := []) rfl (Nat.le_of_ble_eq_true rfl) dX8_tires_144 (st1 := [.int r19]) rfl (fun H locs hw => ?_)
      obtain ⟨rfl, rfl⟩ := Prod.mk.inj (Option.some.inj hf)
      exact r_iret X hw dX8_tires_147
    have hf := if_e hf c17
    by_cases c20 : r9 = 4
    · have hf := if_t hf c20
      refine lv_tableIn (x := r9) (tgt := 101) (off := 57) X.1 X.2.1 dX8_tires_44 (by rw [c20]; decide) (by rw [c20]; decide) (by rw [c20]; decide) (by decide) ?_
      refine lv_iconst (v := 2) X.1 X.2.1 dX8_tires_101 (by decide) ?_
      refine lv_iload X.1 X.2.1 dX8_tires_102 (lv_at hl 1 rfl) ?_
      refine lv_bipush (v := (-99)) X.1 X.2.1 dX8_tires_104 (by decide) ?_
      refine lv_bipush (v := 99) X.1 X.2.1 dX8_tires_106 (by decide) ?_
      obtain ⟨r22, h21, hf⟩ := b_bd1 hf
      refine r_callS X hw (k_X8_bound hE  h21) qw1023 qw1024 qw79 qw1025 okX8_bound ⟨rfl, rfl⟩ ⟨(Nat.le_of_ble_eq_true rfl), (Nat.le_of_ble_eq_true rfl)⟩ ⟨Nat.zero_le _, Nat.zero_le _⟩ rfl hl.1 (rest := [.int 2]) rfl (Nat.le_of_ble_eq_true rfl) dX8_tires_108 (st1 := [.int r22, .int 2]) rfl (fun H locs hw => ?_)
      refine lv_imul X.1 X.2.1 dX8_tires_111 ?_
      refine r_bnd hf (fun v23 hf => ?_)
      refine lv_istore (lv' := [(5, .int v23), (4, .int v7), (3, .int r5), (0, .ref (eP E 69)), (1, .int x1), (2, .int x2)]) X.1 X.2.1 dX8_tires_112 hl (by decide) rfl (fun ls hl => ?_)
      refine lv_goto (tgt := 138) X.1 X.2.1 dX8_tires_114 (by decide) ?_
      refine lv_iload X.1 X.2.1 dX8_tires_138 (lv_at hl 0 rfl) ?_
      refine lv_bipush (v := (-99)) X.1 X.2.1 dX8_tires_140 (by decide) ?_
      refine lv_bipush (v := 99) X.1 X.2.1 dX8_tires_142 (by decide) ?_
      obtain ⟨r25, h24, hf⟩ := b_bd1 hf
      refine r_callS X hw (k_X8_bound hE  h24) qw1023 qw1024 qw79 qw1025 okX8_bound ⟨rfl, rfl⟩ ⟨(Nat.le_of_ble_eq_true rfl), (Nat.le_of_ble_eq_true rfl)⟩ ⟨Nat.zero_le _, Nat.zero_le _⟩ rfl hl.1 (rest := []) rfl (Nat.le_of_ble_eq_true rfl) dX8_tires_144 (st1 := [.int r25]) rfl (fun H locs hw => ?_)
      obtain ⟨rfl, rfl⟩ := Prod.mk.inj (Option.some.inj hf)
      exact r_iret X hw dX8_tires_147
    have hf := if_e hf c20
    by_cases c26 : r9 = 5
    · have hf := if_t hf c26
      refine lv_tableIn (x := r9) (tgt := 117) (off := 73) X.1 X.2.1 dX8_tires_44 (by rw [c26]; decide) (by rw [c26]; decide) (by rw [c26]; decide) (by decide) ?_
      refine lv_aload_n X.1 X.2.1 dX8_tires_117 rfl (lv_at hl 3 rfl) ?_
      refine lv_iload_n X.1 X.2.1 dX8_tires_118 rfl (lv_at hl 4 rfl) ?_
      refine lv_iconst (v := 3) X.1 X.2.1 dX8_tires_119 (by decide) ?_
      obtain ⟨r28, h27, hf⟩ := b_bd1 hf
      refine r_callV X hw (k_X8_of hE  h27) (sp69 hE) (C := RX8) (T := TX8) (N := 31) rfl qw997 qw999 qw33 qw79 qw1000 okX8_of ⟨rfl, rfl⟩ ⟨(Nat.le_of_ble_eq_true rfl), (Nat.le_of_ble_eq_true rfl)⟩ ⟨Nat.zero_le _, Nat.zero_le _⟩ rfl hl.1 (rest := []) rfl (Nat.le_of_ble_eq_true rfl) dX8_tires_120 (st1 := [.int r28]) rfl (fun H locs hw => ?_)
      refine lv_bipush (v := 50) X.1 X.2.1 dX8_tires_123 (by decide) ?_
      obtain ⟨v30, e31, hf⟩ := b_bnd hf
      refine r_join (g2 := F0 m 133 ls [.int v30]) ?_ (fun hj => ?_)
      · refine lv_istore (lv' := [(5, .int v30), (4, .int v7), (3, .int r5), (0, .ref (eP E 69)), (1, .int x1), (2, .int x2)]) X.1 X.2.1 dX8_tires_133 hl (by decide) rfl (fun ls hl => ?_)
        refine lv_goto (tgt := 138) X.1 X.2.1 dX8_tires_135 (by decide) ?_
        refine lv_iload X.1 X.2.1 dX8_tires_138 (lv_at hl 0 rfl) ?_
        refine lv_bipush (v := (-99)) X.1 X.2.1 dX8_tires_140 (by decide) ?_
        refine lv_bipush (v := 99) X.1 X.2.1 dX8_tires_142 (by decide) ?_
        obtain ⟨r33, h32, hf⟩ := b_bd1 hf
        refine r_callS X hw (k_X8_bound hE  h32) qw1023 qw1024 qw79 qw1025 okX8_bound ⟨rfl, rfl⟩ ⟨(Nat.le_of_ble_eq_true rfl), (Nat.le_of_ble_eq_true rfl)⟩ ⟨Nat.zero_le _, Nat.zero_le _⟩ rfl hl.1 (rest := []) rfl (Nat.le_of_ble_eq_true rfl) dX8_tires_144 (st1 := [.int r33]) rfl (fun H locs hw => ?_)
        obtain ⟨rfl, rfl⟩ := Prod.mk.inj (Option.some.inj hf)
        exact r_iret X hw dX8_tires_147
      · refine lv_icmp_ge (tgt := 132) X.1 X.2.1 dX8_tires_125 (by decide) (fun c29 => ?_) (fun c29 => ?_)
        · rw [e31, if_pos c29] at hj
          refine lv_iconst (v := 0) X.1 X.2.1 dX8_tires_132 (by decide) ?_
          exact hj
        · rw [e31, if_neg c29] at hj
          refine lv_iload_n X.1 X.2.1 dX8_tires_128 rfl (lv_at hl 2 rfl) ?_
          refine lv_goto (tgt := 133) X.1 X.2.1 dX8_tires_129 (by decide) ?_
          exact hj
    have hf := if_e hf c26
    have c10t := lv_neT (a := 1) c10 (by decide)
    have c14t := lv_neT (a := 2) c14 (by decide)
    have c17t := lv_neT (a := 3) c17 (by decide)
    have c20t := lv_neT (a := 4) c20 (by decide)
    have c26t := lv_neT (a := 5) c26 (by decide)
    refine lv_tableOut (x := r9) (tgt := 138) X.1 X.2.1 dX8_tires_44 (by omega) (by decide) ?_
    refine lv_iload X.1 X.2.1 dX8_tires_138 (lv_at hl 0 rfl) ?_
    refine lv_bipush (v := (-99)) X.1 X.2.1 dX8_tires_140 (by decide) ?_
    refine lv_bipush (v := 99) X.1 X.2.1 dX8_tires_142 (by decide) ?_
    obtain ⟨r35, h34, hf⟩ := b_bd1 hf
    refine r_callS X hw (k_X8_bound hE  h34) qw1023 qw1024 qw79 qw1025 okX8_bound ⟨rfl, rfl⟩ ⟨(Nat.le_of_ble_eq_true rfl), (Nat.le_of_ble_eq_true rfl)⟩ ⟨Nat.zero_le _, Nat.zero_le _⟩ rfl hl.1 (rest := []) rfl (Nat.le_of_ble_eq_true rfl) dX8_tires_144 (st1 := [.int r35]) rfl (fun H locs hw => ?_)
    obtain ⟨rfl, rfl⟩ := Prod.mk.inj (Option.some.inj hf)
    exact r_iret X hw dX8_tires_147
  · have hf := if_e hf c6
    refine lv_aload_n X.1 X.2.1 dX8_tires_22 rfl (lv_at hl 1 rfl) ?_
    refine lv_iload_n X.1 X.2.1 dX8_tires_23 rfl (lv_at hl 2 rfl) ?_
    refine lv_iconst (v := 1) X.1 X.2.1 dX8_tires_24 (by decide) ?_
    obtain ⟨r37, h36, hf⟩ := b_bd1 hf
    refine r_callV X hw (k_X8_of hE  h36) (sp69 hE) (C := RX8) (T := TX8) (N := 31) rfl qw997 qw999 qw33 qw79 qw1000 okX8_of ⟨rfl, rfl⟩ ⟨(Nat.le_of_ble_eq_true rfl), (Nat.le_of_ble_eq_true rfl)⟩ ⟨Nat.zero_le _, Nat.zero_le _⟩ rfl hl.1 (rest := [.int r5]) rfl (Nat.le_of_ble_eq_true rfl) dX8_tires_25 (st1 := [.int r37, .int r5]) rfl (fun H locs hw => ?_)
    refine lv_goto (tgt := 32) X.1 X.2.1 dX8_tires_28 (by decide) ?_
    refine lv_iadd X.1 X.2.1 dX8_tires_32 ?_
    refine r_bnd hf (fun v38 hf => ?_)
    refine lv_istore (lv' := [(4, .int v38), (3, .int r5), (0, .ref (eP E 69)), (1, .int x1), (2, .int x2)]) X.1 X.2.1 dX8_tires_33 hl (by decide) rfl (fun ls hl => ?_)
    refine lv_iload_n X.1 X.2.1 dX8_tires_35 rfl (lv_at hl 1 rfl) ?_
    refine lv_istore (lv' := [(5, .int r5), (4, .int v38), (3, .int r5), (0, .ref (eP E 69)), (1, .int x1), (2, .int x2)]) X.1 X.2.1 dX8_tires_36 hl (by decide) rfl (fun ls hl => ?_)
    refine lv_aload_n X.1 X.2.1 dX8_tires_38 rfl (lv_at hl 3 rfl) ?_
    refine lv_iload_n X.1 X.2.1 dX8_tires_39 rfl (lv_at hl 4 rfl) ?_
    refine lv_iconst (v := 0) X.1 X.2.1 dX8_tires_40 (by decide) ?_
    obtain ⟨r40, h39, hf⟩ := b_bd1 hf
    refine r_callV X hw (k_X8_of hE  h39) (sp69 hE) (C := RX8) (T := TX8) (N := 31) rfl qw997 qw999 qw33 qw79 qw1000 okX8_of ⟨rfl, rfl⟩ ⟨(Nat.le_of_ble_eq_true rfl), (Nat.le_of_ble_eq_true rfl)⟩ ⟨Nat.zero_le _, Nat.zero_le _⟩ rfl hl.1 (rest := []) rfl (Nat.le_of_ble_eq_true rfl) dX8_tires_41 (st1 := [.int r40]) rfl (fun H locs hw => ?_)
    by_cases c41 : r40 = 1
    · have hf := if_t hf c41
      refine lv_tableIn (x := r40) (tgt := 80) (off := 36) X.1 X.2.1 dX8_tires_44 (by rw [c41]; decide) (by rw [c41]; decide) (by rw [c41]; decide) (by decide) ?_
      refine lv_iload_n X.1 X.2.1 dX8_tires_80 rfl (lv_at hl 2 rfl) ?_
      refine lv_iconst (v := 2) X.1 X.2.1 dX8_tires_81 (by decide) ?_
      refine lv_idiv X.1 X.2.1 dX8_tires_82 (by decide) ?_
      refine r_bnd hf (fun v42 hf => ?_)
      refine lv_istore (lv' := [(5, .int v42), (4, .int v38), (3, .int r5), (0, .ref (eP E 69)), (1, .int x1), (2, .int x2)]) X.1 X.2.1 dX8_tires_83 hl (by decide) rfl (fun ls hl => ?_)
      refine lv_goto (tgt := 138) X.1 X.2.1 dX8_tires_85 (by decide) ?_
      refine lv_iload X.1 X.2.1 dX8_tires_138 (lv_at hl 0 rfl) ?_
      refine lv_bipush (v := (-99)) X.1 X.2.1 dX8_tires_140 (by decide) ?_
      refine lv_bipush (v := 99) X.1 X.2.1 dX8_tires_142 (by decide) ?_
      obtain ⟨r44, h43, hf⟩ := b_bd1 hf
      refine r_callS X hw (k_X8_bound hE  h43) qw1023 qw1024 qw79 qw1025 okX8_bound ⟨rfl, rfl⟩ ⟨(Nat.le_of_ble_eq_true rfl), (Nat.le_of_ble_eq_true rfl)⟩ ⟨Nat.zero_le _, Nat.zero_le _⟩ rfl hl.1 (rest := []) rfl (Nat.le_of_ble_eq_true rfl) dX8_tires_144 (st1 := [.int r44]) rfl (fun H locs hw => ?_)
      obtain ⟨rfl, rfl⟩ := Prod.mk.inj (Option.some.inj hf)
      exact r_iret X hw dX8_tires_147
    have hf := if_e hf c41
    by_cases c45 : r40 = 2
    · have hf := if_t hf c45
      refine lv_tableIn (x := r40) (tgt := 88) (off := 44) X.1 X.2.1 dX8_tires_44 (by rw [c45]; decide) (by rw [c45]; decide) (by rw [c45]; decide) (by decide) ?_
      refine lv_iload X.1 X.2.1 dX8_tires_88 (lv_at hl 1 rfl) ?_
      refine lv_istore (lv' := [(5, .int v38), (4, .int v38), (3, .int r5), (0, .ref (eP E 69)), (1, .int x1), (2, .int x2)]) X.1 X.2.1 dX8_tires_90 hl (by decide) rfl (fun ls hl => ?_)
      refine lv_goto (tgt := 138) X.1 X.2.1 dX8_tires_92 (by decide) ?_
      refine lv_iload X.1 X.2.1 dX8_tires_138 (lv_at hl 0 rfl) ?_
      refine lv_bipush (v := (-99)) X.1 X.2.1 dX8_tires_140 (by decide) ?_
      refine lv_bipush (v := 99) X.1 X.2.1 dX8_tires_142 (by decide) ?_
      obtain ⟨r47, h46, hf⟩ := b_bd1 hf
      refine r_callS X hw (k_X8_bound hE  h46) qw1023 qw1024 qw79 qw1025 okX8_bound ⟨rfl, rfl⟩ ⟨(Nat.le_of_ble_eq_true rfl), (Nat.le_of_ble_eq_true rfl)⟩ ⟨Nat.zero_le _, Nat.zero_le _⟩ rfl hl.1 (rest := []) rfl (Nat.le_of_ble_eq_true rfl) dX8_tires_144 (st1 := [.int r47]) rfl (fun H locs hw => ?_)
      obtain ⟨rfl, rfl⟩ := Prod.mk.inj (Option.some.inj hf)
      exact r_iret X hw dX8_tires_147
    have hf := if_e hf c45
    by_cases c48 : r40 = 3
    · have hf := if_t hf c48
      refine lv_tableIn (x := r40) (tgt := 95) (off := 51) X.1 X.2.1 dX8_tires_44 (by rw [c48]; decide) (by rw [c48]; decide) (by rw [c48]; decide) (by decide) ?_
      refine lv_iconst (v := 0) X.1 X.2.1 dX8_tires_95 (by decide) ?_
      refine lv_istore (lv' := [(5, .int 0), (4, .int v38), (3, .int r5), (0, .ref (eP E 69)), (1, .int x1), (2, .int x2)]) X.1 X.2.1 dX8_tires_96 hl (by decide) rfl (fun ls hl => ?_)
      refine lv_goto (tgt := 138) X.1 X.2.1 dX8_tires_98 (by decide) ?_
      refine lv_iload X.1 X.2.1 dX8_tires_138 (lv_at hl 0 rfl) ?_
      refine lv_bipush (v := (-99)) X.1 X.2.1 dX8_tires_140 (by decide) ?_
      refine lv_bipush (v := 99) X.1 X.2.1 dX8_tires_142 (by decide) ?_
      obtain ⟨r50, h49, hf⟩ := b_bd1 hf
      refine r_callS X hw (k_X8_bound hE  h49) qw1023 qw1024 qw79 qw1025 okX8_bound ⟨rfl, rfl⟩ ⟨(Nat.le_of_ble_eq_true rfl), (Nat.le_of_ble_eq_true rfl)⟩ ⟨Nat.zero_le _, Nat.zero_le _⟩ rfl hl.1 (rest := []) rfl (Nat.le_of_ble_eq_true rfl) dX8_tires_144 (st1 := [.int r50]) rfl (fun H locs hw => ?_)
      obtain ⟨rfl, rfl⟩ := Prod.mk.inj (Option.some.inj hf)
      exact r_iret X hw dX8_tires_147
    have hf := if_e hf c48
    by_cases c51 : r40 = 4
    · have hf := if_t hf c51
      refine lv_tableIn (x := r40) (tgt := 101) (off := 57) X.1 X.2.1 dX8_tires_44 (by rw [c51]; decide) (by rw [c51]; decide) (by rw [c51]; decide) (by decide) ?_
      refine lv_iconst (v := 2) X.1 X.2.1 dX8_tires_101 (by decide) ?_
      refine lv_iload X.1 X.2.1 dX8_tires_102 (lv_at hl 1 rfl) ?_
      refine lv_bipush (v := (-99)) X.1 X.2.1 dX8_tires_104 (by decide) ?_
      refine lv_bipush (v := 99) X.1 X.2.1 dX8_tires_106 (by decide) ?_
      obtain ⟨r53, h52, hf⟩ := b_bd1 hf
      refine r_callS X hw (k_X8_bound hE  h52) qw1023 qw1024 qw79 qw1025 okX8_bound ⟨rfl, rfl⟩ ⟨(Nat.le_of_ble_eq_true rfl), (Nat.le_of_ble_eq_true rfl)⟩ ⟨Nat.zero_le _, Nat.zero_le _⟩ rfl hl.1 (rest := [.int 2]) rfl (Nat.le_of_ble_eq_true rfl) dX8_tires_108 (st1 := [.int r53, .int 2]) rfl (fun H locs hw => ?_)
      refine lv_imul X.1 X.2.1 dX8_tires_111 ?_
      refine r_bnd hf (fun v54 hf => ?_)
      refine lv_istore (lv' := [(5, .int v54), (4, .int v38), (3, .int r5), (0, .ref (eP E 69)), (1, .int x1), (2, .int x2)]) X.1 X.2.1 dX8_tires_112 hl (by decide) rfl (fun ls hl => ?_)
      refine lv_goto (tgt := 138) X.1 X.2.1 dX8_tires_114 (by decide) ?_
      refine lv_iload X.1 X.2.1 dX8_tires_138 (lv_at hl 0 rfl) ?_
      refine lv_bipush (v := (-99)) X.1 X.2.1 dX8_tires_140 (by decide) ?_
      refine lv_bipush (v := 99) X.1 X.2.1 dX8_tires_142 (by decide) ?_
      obtain ⟨r56, h55, hf⟩ := b_bd1 hf
      refine r_callS X hw (k_X8_bound hE  h55) qw1023 qw1024 qw79 qw1025 okX8_bound ⟨rfl, rfl⟩ ⟨(Nat.le_of_ble_eq_true rfl), (Nat.le_of_ble_eq_true rfl)⟩ ⟨Nat.zero_le _, Nat.zero_le _⟩ rfl hl.1 (rest := []) rfl (Nat.le_of_ble_eq_true rfl) dX8_tires_144 (st1 := [.int r56]) rfl (fun H locs hw => ?_)
      obtain ⟨rfl, rfl⟩ := Prod.mk.inj (Option.some.inj hf)
      exact r_iret X hw dX8_tires_147
    have hf := if_e hf c51
    by_cases c57 : r40 = 5
    · have hf := if_t hf c57
      refine lv_tableIn (x := r40) (tgt := 117) (off := 73) X.1 X.2.1 dX8_tires_44 (by rw [c57]; decide) (by rw [c57]; decide) (by rw [c57]; decide) (by decide) ?_
      refine lv_aload_n X.1 X.2.1 dX8_tires_117 rfl (lv_at hl 3 rfl) ?_
      refine lv_iload_n X.1 X.2.1 dX8_tires_118 rfl (lv_at hl 4 rfl) ?_
      refine lv_iconst (v := 3) X.1 X.2.1 dX8_tires_119 (by decide) ?_
      obtain ⟨r59, h58, hf⟩ := b_bd1 hf
      refine r_callV X hw (k_X8_of hE  h58) (sp69 hE) (C := RX8) (T := TX8) (N := 31) rfl qw997 qw999 qw33 qw79 qw1000 okX8_of ⟨rfl, rfl⟩ ⟨(Nat.le_of_ble_eq_true rfl), (Nat.le_of_ble_eq_true rfl)⟩ ⟨Nat.zero_le _, Nat.zero_le _⟩ rfl hl.1 (rest := []) rfl (Nat.le_of_ble_eq_true rfl) dX8_tires_120 (st1 := [.int r59]) rfl (fun H locs hw => ?_)
      refine lv_bipush (v := 50) X.1 X.2.1 dX8_tires_123 (by decide) ?_
      obtain ⟨v61, e62, hf⟩ := b_bnd hf
      refine r_join (g2 := F0 m 133 ls [.int v61]) ?_ (fun hj => ?_)
      · refine lv_istore (lv' := [(5, .int v61), (4, .int v38), (3, .int r5), (0, .ref (eP E 69)), (1, .int x1), (2, .int x2)]) X.1 X.2.1 dX8_tires_133 hl (by decide) rfl (fun ls hl => ?_)
        refine lv_goto (tgt := 138) X.1 X.2.1 dX8_tires_135 (by decide) ?_
        refine lv_iload X.1 X.2.1 dX8_tires_138 (lv_at hl 0 rfl) ?_
        refine lv_bipush (v := (-99)) X.1 X.2.1 dX8_tires_140 (by decide) ?_
        refine lv_bipush (v := 99) X.1 X.2.1 dX8_tires_142 (by decide) ?_
        obtain ⟨r64, h63, hf⟩ := b_bd1 hf
        refine r_callS X hw (k_X8_bound hE  h63) qw1023 qw1024 qw79 qw1025 okX8_bound ⟨rfl, rfl⟩ ⟨(Nat.le_of_ble_eq_true rfl), (Nat.le_of_ble_eq_true rfl)⟩ ⟨Nat.zero_le _, Nat.zero_le _⟩ rfl hl.1 (rest := []) rfl (Nat.le_of_ble_eq_true rfl) dX8_tires_144 (st1 := [.int r64]) rfl (fun H locs hw => ?_)
        obtain ⟨rfl, rfl⟩ := Prod.mk.inj (Option.some.inj hf)
        exact r_iret X hw dX8_tires_147
      · refine lv_icmp_ge (tgt := 132) X.1 X.2.1 dX8_tires_125 (by decide) (fun c60 => ?_) (fun c60 => ?_)
        · rw [e62, if_pos c60] at hj
          refine lv_iconst (v := 0) X.1 X.2.1 dX8_tires_132 (by decide) ?_
          exact hj
        · rw [e62, if_neg c60] at hj
          refine lv_iload_n X.1 X.2.1 dX8_tires_128 rfl (lv_at hl 2 rfl) ?_
          refine lv_goto (tgt := 133) X.1 X.2.1 dX8_tires_129 (by decide) ?_
          exact hj
    have hf := if_e hf c57
    have c41t := lv_neT (a := 1) c41 (by decide)
    have c45t := lv_neT (a := 2) c45 (by decide)
    have c48t := lv_neT (a := 3) c48 (by decide)
    have c51t := lv_neT (a := 4) c51 (by decide)
    have c57t := lv_neT (a := 5) c57 (by decide)
    refine lv_tableOut (x := r40) (tgt := 138) X.1 X.2.1 dX8_tires_44 (by omega) (by decide) ?_
    refine lv_iload X.1 X.2.1 dX8_tires_138 (lv_at hl 0 rfl) ?_
    refine lv_bipush (v := (-99)) X.1 X.2.1 dX8_tires_140 (by decide) ?_
    refine lv_bipush (v := 99) X.1 X.2.1 dX8_tires_142 (by decide) ?_
    obtain ⟨r66, h65, hf⟩ := b_bd1 hf
    refine r_callS X hw (k_X8_bound hE  h65) qw1023 qw1024 qw79 qw1025 okX8_bound ⟨rfl, rfl⟩ ⟨(Nat.le_of_ble_eq_true rfl), (Nat.le_of_ble_eq_true rfl)⟩ ⟨Nat.zero_le _, Nat.zero_le _⟩ rfl hl.1 (rest := []) rfl (Nat.le_of_ble_eq_true rfl) dX8_tires_144 (st1 := [.int r66]) rfl (fun H locs hw => ?_)
    obtain ⟨rfl, rfl⟩ := Prod.mk.inj (Option.some.inj hf)
    exact r_iret X hw dX8_tires_147
abbrev rm_X8_woken : Room := { frames := 4, cells := 0, slots := 0, locals := 176 }
set_option maxHeartbeats 4000000 in
set_option maxRecDepth 100000 in
theorem k_X8_woken {l : Launch} {E : en_T} (hE : ShF E) {x1 : Int32} {x2 : Int32} {σ : sg_T} {r : Int32} {σ' : sg_T} (hf : f_X8_woken x1 x2 σ = some (r, σ')) : Ct l yX8_woken cX8_woken 3 (some .int) rm_X8_woken E [.ref (eP E 69), .int x1, .int x2] σ (some (.int r)) σ' := by
  refine Ct.start (by decide) hE.1 (Nat.le_of_ble_eq_true rfl) ?_
  intro p e s m below meth c X hw ls hl
  have X : Cx E p s m _ meth c cX8_woken 3 RX8 (some .int) := X
  have hR : ShR E := hE.r
  have hl : lv_has ls 3 [(0, .ref (eP E 69)), (1, .int x1), (2, .int x2)] := hl
  unfold f_X8_woken at hf
  refine lv_aload_n X.1 X.2.1 dX8_woken_0 rfl (lv_at hl 0 rfl) ?_
  refine lv_iload_n X.1 X.2.1 dX8_woken_1 rfl (lv_at hl 1 rfl) ?_
  obtain ⟨r2, h1, hf⟩ := b_bd1 hf
  refine r_callV X hw (k_X8_isOne hE  h1) (sp69 hE) (C := RX8) (T := TX8) (N := 31) rfl qw977 qw979 qw30 qw79 qw980 okX8_isOne ⟨rfl, rfl⟩ ⟨(Nat.le_of_ble_eq_true rfl), (Nat.le_of_ble_eq_true rfl)⟩ ⟨Nat.zero_le _, Nat.zero_le _⟩ rfl hl.1 (rest := []) rfl (Nat.le_of_ble_eq_true rfl) dX8_woken_2 (st1 := [.int r2]) rfl (fun H locs hw => ?_)
  refine lv_if_eq (tgt := 27) X.1 X.2.1 dX8_woken_5 (by decide) (fun c3 => ?_) (fun c3 => ?_)
  · have hf := if_t hf c3
    refine lv_sipush (v := (-1000)) X.1 X.2.1 dX8_woken_27 (by decide) ?_
    obtain ⟨rfl, rfl⟩ := Prod.mk.inj (Option.some.inj hf)
    exact r_iret X hw dX8_woken_30
  · have hf := if_e hf c3
    refine lv_iload_n X.1 X.2.1 dX8_woken_8 rfl (lv_at hl 2 rfl) ?_
    refine lv_iconst (v := 0) X.1 X.2.1 dX8_woken_9 (by decide) ?_
    refine lv_bipush (v := 23) X.1 X.2.1 dX8_woken_10 (by decide) ?_
    obtain ⟨r5, h4, hf⟩ := b_bd1 hf
    refine r_callS X hw (k_X8_isIn hE  h4) qw966 qw967 qw79 qw968 okX8_isIn ⟨rfl, rfl⟩ ⟨(Nat.le_of_ble_eq_true rfl), (Nat.le_of_ble_eq_true rfl)⟩ ⟨Nat.zero_le _, Nat.zero_le _⟩ rfl hl.1 (rest := []) rfl (Nat.le_of_ble_eq_true rfl) dX8_woken_12 (st1 := [.int r5]) rfl (fun H locs hw => ?_)
    refine lv_if_eq (tgt := 27) X.1 X.2.1 dX8_woken_15 (by decide) (fun c6 => ?_) (fun c6 => ?_)
    · have hf := if_t hf c6
      refine lv_sipush (v := (-1000)) X.1 X.2.1 dX8_woken_27 (by decide) ?_
      obtain ⟨rfl, rfl⟩ := Prod.mk.inj (Option.some.inj hf)
      exact r_iret X hw dX8_woken_30
    · have hf := if_e hf c6
      refine lv_aload_n X.1 X.2.1 dX8_woken_18 rfl (lv_at hl 0 rfl) ?_
      refine lv_iload_n X.1 X.2.1 dX8_woken_19 rfl (lv_at hl 1 rfl) ?_
      refine lv_iload_n X.1 X.2.1 dX8_woken_20 rfl (lv_at hl 2 rfl) ?_
      obtain ⟨r8, σ9, h7, hf⟩ := b_bd2 hf
      refine r_callV X hw (k_X8_tires hE  h7) (sp69 hE) (C := RX8) (T := TX8) (N := 31) rfl qw1044 qw1046 qw40 qw79 qw1047 okX8_tires ⟨rfl, rfl⟩ ⟨(Nat.le_of_ble_eq_true rfl), (Nat.le_of_ble_eq_true rfl)⟩ ⟨Nat.zero_le _, Nat.zero_le _⟩ rfl hl.1 (rest := []) rfl (Nat.le_of_ble_eq_true rfl) dX8_woken_21 (st1 := [.int r8]) rfl (fun H locs hw => ?_)
      refine lv_goto (tgt := 30) X.1 X.2.1 dX8_woken_24 (by decide) ?_
      obtain ⟨rfl, rfl⟩ := Prod.mk.inj (Option.some.inj hf)
      exact r_iret X hw dX8_woken_30
abbrev rm_X8_feed : Room := { frames := 1, cells := 0, slots := 0, locals := 100 }
set_option maxHeartbeats 4000000 in
set_option maxRecDepth 100000 in
theorem k_X8_feed {l : Launch} {E : en_T} (hE : ShF E) {x1 : Int32} {σ : sg_T} {r : Int32} {σ' : sg_T} (hf : f_X8_feed x1 σ = some (r, σ')) : Ct l yX8_feed cX8_feed 2 (some .int) rm_X8_feed E [.ref (eP E 69), .int x1] σ (some (.int r)) σ' := by
  refine Ct.start (by decide) hE.1 (Nat.le_of_ble_eq_true rfl) ?_
  intro p e s m below meth c X hw ls hl
  have X : Cx E p s m _ meth c cX8_feed 2 RX8 (some .int) := X
  have hR : ShR E := hE.r
  have hl : lv_has ls 2 [(0, .ref (eP E 69)), (1, .int x1)] := hl
  unfold f_X8_feed at hf
  refine lv_iload_n X.1 X.2.1 dX8_feed_0 rfl (lv_at hl 1 rfl) ?_
  refine lv_iconst (v := 0) X.1 X.2.1 dX8_feed_1 (by decide) ?_
  refine lv_sipush (v := 255) X.1 X.2.1 dX8_feed_2 (by decide) ?_
  obtain ⟨r2, h1, hf⟩ := b_bd1 hf
  refine r_callS X hw (k_X8_isIn hE  h1) qw966 qw967 qw79 qw968 okX8_isIn ⟨rfl, rfl⟩ ⟨(Nat.le_of_ble_eq_true rfl), (Nat.le_of_ble_eq_true rfl)⟩ ⟨Nat.zero_le _, Nat.zero_le _⟩ rfl hl.1 (rest := []) rfl (Nat.le_of_ble_eq_true rfl) dX8_feed_5 (st1 := [.int r2]) rfl (fun H locs hw => ?_)
  refine lv_if_ne (tgt := 14) X.1 X.2.1 dX8_feed_8 (by decide) (fun c3 => ?_) (fun c3 => ?_)
  · have hf := if_e hf c3
    refine lv_aload_n X.1 X.2.1 dX8_feed_14 rfl (lv_at hl 0 rfl) ?_
    refine r_get X hw (sp69 hE) (C := RX8) (T := TX8) (N := 31) rfl iwX8 6 (by decide) (Nat.le_of_ble_eq_true rfl) qw872 (v := .int (σ 69 6)) rfl dX8_feed_15 ?_
    refine lv_sipush (v := 160) X.1 X.2.1 dX8_feed_18 (by decide) ?_
    refine lv_icmp_ne (tgt := 27) X.1 X.2.1 dX8_feed_21 (by decide) (fun c4 => ?_) (fun c4 => ?_)
    · have hf := if_e hf c4
      refine lv_aload_n X.1 X.2.1 dX8_feed_27 rfl (lv_at hl 0 rfl) ?_
      refine r_get X hw (sp69 hE) (C := RX8) (T := TX8) (N := 31) rfl iwX8 5 (by decide) (Nat.le_of_ble_eq_true rfl) qw871 (v := .ref (eP E 74)) rfl dX8_feed_28 ?_
      refine lv_aload_n X.1 X.2.1 dX8_feed_31 rfl (lv_at hl 0 rfl) ?_
      refine r_get X hw (sp69 hE) (C := RX8) (T := TX8) (N := 31) rfl iwX8 6 (by decide) (Nat.le_of_ble_eq_true rfl) qw872 (v := .int (σ 69 6)) rfl dX8_feed_32 ?_
      refine lv_iload_n X.1 X.2.1 dX8_feed_35 rfl (lv_at hl 1 rfl) ?_
      obtain ⟨h5, hf⟩ := b_ck hf
      refine r_iast X hw (sp74 hE) h5 dX8_feed_36 (fun H locs hw => ?_)
      obtain ⟨σ6, e7, hf⟩ := b_bnd hf
      rw [← e7] at hw
      refine lv_aload_n X.1 X.2.1 dX8_feed_37 rfl (lv_at hl 0 rfl) ?_
      refine lv_dup X.1 X.2.1 dX8_feed_38 rfl ?_
      refine r_get X hw (sp69 hE) (C := RX8) (T := TX8) (N := 31) rfl iwX8 6 (by decide) (Nat.le_of_ble_eq_true rfl) qw872 (v := .int (σ6 69 6)) rfl dX8_feed_39 ?_
      refine lv_iconst (v := 1) X.1 X.2.1 dX8_feed_42 (by decide) ?_
      refine lv_iadd X.1 X.2.1 dX8_feed_43 ?_
      refine r_put X hw (sp69 hE) (C := RX8) (T := TX8) (N := 31) rfl iwX8 tyX8 tyX8_ok nmX8 6 (by decide) (Nat.le_of_ble_eq_true rfl) qw872 rfl (v := .int ((σ6 69 6) + 1)) rfl rfl (x := ((σ6 69 6) + 1)) rfl dX8_feed_44 (fun H locs hw => ?_)
      obtain ⟨σ8, e9, hf⟩ := b_bnd hf
      rw [← e9] at hw
      refine lv_aload_n X.1 X.2.1 dX8_feed_47 rfl (lv_at hl 0 rfl) ?_
      refine r_get X hw (sp69 hE) (C := RX8) (T := TX8) (N := 31) rfl iwX8 6 (by decide) (Nat.le_of_ble_eq_true rfl) qw872 (v := .int (σ8 69 6)) rfl dX8_feed_48 ?_
      obtain ⟨rfl, rfl⟩ := Prod.mk.inj (Option.some.inj hf)
      exact r_iret X hw dX8_feed_51
    · have hf := if_t hf c4
      refine lv_bipush (v := (-4)) X.1 X.2.1 dX8_feed_24 (by decide) ?_
      obtain ⟨rfl, rfl⟩ := Prod.mk.inj (Option.some.inj hf)
      exact r_iret X hw dX8_feed_26
  · have hf := if_t hf c3
    refine lv_bipush (v := (-2)) X.1 X.2.1 dX8_feed_11 (by decide) ?_
    obtain ⟨rfl, rfl⟩ := Prod.mk.inj (Option.some.inj hf)
    exact r_iret X hw dX8_feed_13
abbrev rm_X8_sortAt : Room := { frames := 1, cells := 0, slots := 0, locals := 100 }
set_option maxHeartbeats 4000000 in
set_option maxRecDepth 100000 in
theorem k_X8_sortAt {l : Launch} {E : en_T} (hE : ShF E) {x1 : Int32} {σ : sg_T} {r : Int32} (hf : f_X8_sortAt x1 σ = some r) : Ct l yX8_sortAt cX8_sortAt 2 (some .int) rm_X8_sortAt E [.ref (eP E 69), .int x1] σ (some (.int r)) σ := by
  refine Ct.start (by decide) hE.1 (Nat.le_of_ble_eq_true rfl) ?_
  intro p e s m below meth c X hw ls hl
  have X : Cx E p s m _ meth c cX8_sortAt 2 RX8 (some .int) := X
  have hR : ShR E := hE.r
  have hl : lv_has ls 2 [(0, .ref (eP E 69)), (1, .int x1)] := hl
  unfold f_X8_sortAt at hf
  refine lv_iload_n X.1 X.2.1 dX8_sortAt_0 rfl (lv_at hl 1 rfl) ?_
  refine lv_aload_n X.1 X.2.1 dX8_sortAt_1 rfl (lv_at hl 0 rfl) ?_
  refine r_get X hw (sp69 hE) (C := RX8) (T := TX8) (N := 31) rfl iwX8 6 (by decide) (Nat.le_of_ble_eq_true rfl) qw872 (v := .int (σ 69 6)) rfl dX8_sortAt_2 ?_
  refine lv_icmp_lt (tgt := 12) X.1 X.2.1 dX8_sortAt_5 (by decide) (fun c1 => ?_) (fun c1 => ?_)
  · have hf := if_t hf c1
    refine lv_aload_n X.1 X.2.1 dX8_sortAt_12 rfl (lv_at hl 0 rfl) ?_
    refine r_get X hw (sp69 hE) (C := RX8) (T := TX8) (N := 31) rfl iwX8 5 (by decide) (Nat.le_of_ble_eq_true rfl) qw871 (v := .ref (eP E 74)) rfl dX8_sortAt_13 ?_
    refine lv_iload_n X.1 X.2.1 dX8_sortAt_16 rfl (lv_at hl 1 rfl) ?_
    obtain ⟨h2, hf⟩ := b_ck hf
    refine r_iald X hw (sp74 hE) h2 dX8_sortAt_17 ?_
    refine lv_bipush (v := 97) X.1 X.2.1 dX8_sortAt_18 (by decide) ?_
    refine lv_bipush (v := 122) X.1 X.2.1 dX8_sortAt_20 (by decide) ?_
    obtain ⟨r4, h3, hf⟩ := b_bd1 hf
    refine r_callS X hw (k_X8_isIn hE  h3) qw966 qw967 qw79 qw968 okX8_isIn ⟨rfl, rfl⟩ ⟨(Nat.le_of_ble_eq_true rfl), (Nat.le_of_ble_eq_true rfl)⟩ ⟨Nat.zero_le _, Nat.zero_le _⟩ rfl hl.1 (rest := []) rfl (Nat.le_of_ble_eq_true rfl) dX8_sortAt_22 (st1 := [.int r4]) rfl (fun H locs hw => ?_)
    refine lv_if_eq (tgt := 32) X.1 X.2.1 dX8_sortAt_25 (by decide) (fun c5 => ?_) (fun c5 => ?_)
    · have hf := if_t hf c5
      refine lv_aload_n X.1 X.2.1 dX8_sortAt_32 rfl (lv_at hl 0 rfl) ?_
      refine r_get X hw (sp69 hE) (C := RX8) (T := TX8) (N := 31) rfl iwX8 5 (by decide) (Nat.le_of_ble_eq_true rfl) qw871 (v := .ref (eP E 74)) rfl dX8_sortAt_33 ?_
      refine lv_iload_n X.1 X.2.1 dX8_sortAt_36 rfl (lv_at hl 1 rfl) ?_
      obtain ⟨h6, hf⟩ := b_ck hf
      refine r_iald X hw (sp74 hE) h6 dX8_sortAt_37 ?_
      refine lv_bipush (v := 48) X.1 X.2.1 dX8_sortAt_38 (by decide) ?_
      refine lv_bipush (v := 57) X.1 X.2.1 dX8_sortAt_40 (by decide) ?_
      obtain ⟨r8, h7, hf⟩ := b_bd1 hf
      refine r_callS X hw (k_X8_isIn hE  h7) qw966 qw967 qw79 qw968 okX8_isIn ⟨rfl, rfl⟩ ⟨(Nat.le_of_ble_eq_true rfl), (Nat.le_of_ble_eq_true rfl)⟩ ⟨Nat.zero_le _, Nat.zero_le _⟩ rfl hl.1 (rest := []) rfl (Nat.le_of_ble_eq_true rfl) dX8_sortAt_42 (st1 := [.int r8]) rfl (fun H locs hw => ?_)
      obtain ⟨v10, e11, hf⟩ := b_bnd hf
      refine r_join (g2 := F0 m 53 ls [.int v10]) ?_ (fun hj => ?_)
      · obtain rfl := Option.some.inj hf
        exact r_iret X hw dX8_sortAt_53
      · refine lv_if_eq (tgt := 52) X.1 X.2.1 dX8_sortAt_45 (by decide) (fun c9 => ?_) (fun c9 => ?_)
        · rw [e11, if_pos c9] at hj
          refine lv_iconst (v := 3) X.1 X.2.1 dX8_sortAt_52 (by decide) ?_
          exact hj
        · rw [e11, if_neg c9] at hj
          refine lv_iconst (v := 2) X.1 X.2.1 dX8_sortAt_48 (by decide) ?_
          refine lv_goto (tgt := 53) X.1 X.2.1 dX8_sortAt_49 (by decide) ?_
          exact hj
    · have hf := if_e hf c5
      refine lv_iconst (v := 1) X.1 X.2.1 dX8_sortAt_28 (by decide) ?_
      refine lv_goto (tgt := 53) X.1 X.2.1 dX8_sortAt_29 (by decide) ?_
      obtain rfl := Option.some.inj hf
      exact r_iret X hw dX8_sortAt_53
  · have hf := if_e hf c1
    refine lv_iconst (v := 0) X.1 X.2.1 dX8_sortAt_8 (by decide) ?_
    refine lv_goto (tgt := 53) X.1 X.2.1 dX8_sortAt_9 (by decide) ?_
    obtain rfl := Option.some.inj hf
    exact r_iret X hw dX8_sortAt_53
abbrev rm_X8_next : Room := { frames := 2, cells := 0, slots := 0, locals := 121 }
set_option maxHeartbeats 4000000 in
set_option maxRecDepth 100000 in
theorem w_X8_next_0 {p : Program} {l : Launch} {e : Env} {s : State} {m : MethodId} {args : Array Value} {below : List Frame} {meth : Method} {c : Code} {Q : State → Prop} {E : en_T} (X : Cx E p s m args meth c cX8_next 1 RX8 none) (hE : ShF E)   {res : sg_T} :
    ∀ (n : Nat) (σ : sg_T), itr (fun q => b_X8_next_0  q) n σ = some res → ∀ (H : Heap) (locs : List Loc) (ls : Array Slot), Hw E σ s H locs → lv_has ls 1 [(0, .ref (eP E 69))] →
    (∀ (τ : sg_T), res = τ → ∀ (H : Heap) (locs : List Loc) (ls : Array Slot), Hw E τ s H locs → lv_has ls 1 [(0, .ref (eP E 69))] → W p l e rm_X8_next s m args below meth c H locs 0 0 Q (F0 m 52 ls [])) →
    W p l e rm_X8_next s m args below meth c H locs 0 0 Q (F0 m 0 ls []) := by
  have hR : ShR E := hE.r
  intro n
  induction n with
  | zero =>
    intro σ hf0
    exact (itr_0 hf0).elim
  | succ n ih =>
    intro σ hf0 H locs ls hw hl K1
    obtain ⟨r0, hf, hr1, hr2⟩ := itr_s hf0
    have hf : b_X8_next_0  σ = some r0 := hf
    unfold b_X8_next_0 at hf
    refine lv_aload_n X.1 X.2.1 dX8_next_0 rfl (lv_at hl 0 rfl) ?_
    refine r_get X hw (sp69 hE) (C := RX8) (T := TX8) (N := 31) rfl iwX8 7 (by decide) (Nat.le_of_ble_eq_true rfl) qw873 (v := .int (σ 69 7)) rfl dX8_next_1 ?_
    refine lv_aload_n X.1 X.2.1 dX8_next_4 rfl (lv_at hl 0 rfl) ?_
    refine r_get X hw (sp69 hE) (C := RX8) (T := TX8) (N := 31) rfl iwX8 6 (by decide) (Nat.le_of_ble_eq_true rfl) qw872 (v := .int (σ 69 6)) rfl dX8_next_5 ?_
    refine lv_icmp_ge (tgt := 52) X.1 X.2.1 dX8_next_8 (by decide) (fun c1 => ?_) (fun c1 => ?_)
    · have hf := if_t hf c1
      obtain rfl := Option.some.inj hf
      obtain rfl := hr2 _ rfl
      exact K1 _ rfl _ _ _ hw (lv_sub hl [0] rfl)
    · have hf := if_e hf c1
      refine lv_aload_n X.1 X.2.1 dX8_next_11 rfl (lv_at hl 0 rfl) ?_
      refine r_get X hw (sp69 hE) (C := RX8) (T := TX8) (N := 31) rfl iwX8 5 (by decide) (Nat.le_of_ble_eq_true rfl) qw871 (v := .ref (eP E 74)) rfl dX8_next_12 ?_
      refine lv_aload_n X.1 X.2.1 dX8_next_15 rfl (lv_at hl 0 rfl) ?_
      refine r_get X hw (sp69 hE) (C := RX8) (T := TX8) (N := 31) rfl iwX8 7 (by decide) (Nat.le_of_ble_eq_true rfl) qw873 (v := .int (σ 69 7)) rfl dX8_next_16 ?_
      obtain ⟨h2, hf⟩ := b_ck hf
      refine r_iald X hw (sp74 hE) h2 dX8_next_19 ?_
      refine lv_bipush (v := 32) X.1 X.2.1 dX8_next_20 (by decide) ?_
      refine lv_icmp_eq (tgt := 39) X.1 X.2.1 dX8_next_22 (by decide) (fun c3 => ?_) (fun c3 => ?_)
      · have hf := if_t hf c3
        refine lv_aload_n X.1 X.2.1 dX8_next_39 rfl (lv_at hl 0 rfl) ?_
        refine lv_dup X.1 X.2.1 dX8_next_40 rfl ?_
        refine r_get X hw (sp69 hE) (C := RX8) (T := TX8) (N := 31) rfl iwX8 7 (by decide) (Nat.le_of_ble_eq_true rfl) qw873 (v := .int (σ 69 7)) rfl dX8_next_41 ?_
        refine lv_iconst (v := 1) X.1 X.2.1 dX8_next_44 (by decide) ?_
        refine lv_iadd X.1 X.2.1 dX8_next_45 ?_
        refine r_put X hw (sp69 hE) (C := RX8) (T := TX8) (N := 31) rfl iwX8 tyX8 tyX8_ok nmX8 7 (by decide) (Nat.le_of_ble_eq_true rfl) qw873 rfl (v := .int ((σ 69 7) + 1)) rfl rfl (x := ((σ 69 7) + 1)) rfl dX8_next_46 (fun H locs hw => ?_)
        obtain ⟨σ4, e5, hf⟩ := b_bnd hf
        rw [← e5] at hw
        refine lv_goto (tgt := 0) X.1 X.2.1 dX8_next_49 (by decide) ?_
        obtain rfl := Option.some.inj hf
        exact ih _ (hr1 _ rfl) _ _ _ hw (lv_sub hl [0] rfl) K1
      · have hf := if_e hf c3
        refine lv_aload_n X.1 X.2.1 dX8_next_25 rfl (lv_at hl 0 rfl) ?_
        refine r_get X hw (sp69 hE) (C := RX8) (T := TX8) (N := 31) rfl iwX8 5 (by decide) (Nat.le_of_ble_eq_true rfl) qw871 (v := .ref (eP E 74)) rfl dX8_next_26 ?_
        refine lv_aload_n X.1 X.2.1 dX8_next_29 rfl (lv_at hl 0 rfl) ?_
        refine r_get X hw (sp69 hE) (C := RX8) (T := TX8) (N := 31) rfl iwX8 7 (by decide) (Nat.le_of_ble_eq_true rfl) qw873 (v := .int (σ 69 7)) rfl dX8_next_30 ?_
        obtain ⟨h6, hf⟩ := b_ck hf
        refine r_iald X hw (sp74 hE) h6 dX8_next_33 ?_
        refine lv_bipush (v := 10) X.1 X.2.1 dX8_next_34 (by decide) ?_
        refine lv_icmp_ne (tgt := 52) X.1 X.2.1 dX8_next_36 (by decide) (fun c7 => ?_) (fun c7 => ?_)
        · have hf := if_e hf c7
          obtain rfl := Option.some.inj hf
          obtain rfl := hr2 _ rfl
          exact K1 _ rfl _ _ _ hw (lv_sub hl [0] rfl)
        · have hf := if_t hf c7
          refine lv_aload_n X.1 X.2.1 dX8_next_39 rfl (lv_at hl 0 rfl) ?_
          refine lv_dup X.1 X.2.1 dX8_next_40 rfl ?_
          refine r_get X hw (sp69 hE) (C := RX8) (T := TX8) (N := 31) rfl iwX8 7 (by decide) (Nat.le_of_ble_eq_true rfl) qw873 (v := .int (σ 69 7)) rfl dX8_next_41 ?_
          refine lv_iconst (v := 1) X.1 X.2.1 dX8_next_44 (by decide) ?_
          refine lv_iadd X.1 X.2.1 dX8_next_45 ?_
          refine r_put X hw (sp69 hE) (C := RX8) (T := TX8) (N := 31) rfl iwX8 tyX8 tyX8_ok nmX8 7 (by decide) (Nat.le_of_ble_eq_true rfl) qw873 rfl (v := .int ((σ 69 7) + 1)) rfl rfl (x := ((σ 69 7) + 1)) rfl dX8_next_46 (fun H locs hw => ?_)
          obtain ⟨σ8, e9, hf⟩ := b_bnd hf
          rw [← e9] at hw
          refine lv_goto (tgt := 0) X.1 X.2.1 dX8_next_49 (by decide) ?_
          obtain rfl := Option.some.inj hf
          exact ih _ (hr1 _ rfl) _ _ _ hw (lv_sub hl [0] rfl) K1
set_option maxHeartbeats 4000000 in
set_option maxRecDepth 100000 in
theorem w_X8_next_89 {p : Program} {l : Launch} {e : Env} {s : State} {m : MethodId} {args : Array Value} {below : List Frame} {meth : Method} {c : Code} {Q : State → Prop} {E : en_T} (X : Cx E p s m args meth c cX8_next 1 RX8 none) (hE : ShF E)   {res : sg_T} :
    ∀ (n : Nat) (σ : sg_T), itr (fun q => b_X8_next_89  q) n σ = some res → ∀ (H : Heap) (locs : List Loc) (ls : Array Slot), Hw E σ s H locs → lv_has ls 1 [(0, .ref (eP E 69))] →
    (∀ (τ : sg_T), res = τ → ∀ (H : Heap) (locs : List Loc) (ls : Array Slot), Hw E τ s H locs → lv_has ls 1 [(0, .ref (eP E 69))] → W p l e rm_X8_next s m args below meth c H locs 0 0 Q (F0 m 125 ls [])) →
    W p l e rm_X8_next s m args below meth c H locs 0 0 Q (F0 m 89 ls []) := by
  have hR : ShR E := hE.r
  intro n
  induction n with
  | zero =>
    intro σ hf0
    exact (itr_0 hf0).elim
  | succ n ih =>
    intro σ hf0 H locs ls hw hl K1
    obtain ⟨r0, hf, hr1, hr2⟩ := itr_s hf0
    have hf : b_X8_next_89  σ = some r0 := hf
    unfold b_X8_next_89 at hf
    refine lv_aload_n X.1 X.2.1 dX8_next_89 rfl (lv_at hl 0 rfl) ?_
    refine r_get X hw (sp69 hE) (C := RX8) (T := TX8) (N := 31) rfl iwX8 9 (by decide) (Nat.le_of_ble_eq_true rfl) qw875 (v := .int (σ 69 9)) rfl dX8_next_90 ?_
    refine lv_iconst (v := 3) X.1 X.2.1 dX8_next_93 (by decide) ?_
    refine lv_icmp_ge (tgt := 125) X.1 X.2.1 dX8_next_94 (by decide) (fun c21 => ?_) (fun c21 => ?_)
    · have hf := if_t hf c21
      obtain rfl := Option.some.inj hf
      obtain rfl := hr2 _ rfl
      exact K1 _ rfl _ _ _ hw (lv_sub hl [0] rfl)
    · have hf := if_e hf c21
      refine lv_aload_n X.1 X.2.1 dX8_next_97 rfl (lv_at hl 0 rfl) ?_
      refine lv_aload_n X.1 X.2.1 dX8_next_98 rfl (lv_at hl 0 rfl) ?_
      refine r_get X hw (sp69 hE) (C := RX8) (T := TX8) (N := 31) rfl iwX8 7 (by decide) (Nat.le_of_ble_eq_true rfl) qw873 (v := .int (σ 69 7)) rfl dX8_next_99 ?_
      obtain ⟨r23, h22, hf⟩ := b_bd1 hf
      refine r_callV X hw (k_X8_sortAt hE  h22) (sp69 hE) (C := RX8) (T := TX8) (N := 31) rfl qw1064 qw1066 qw43 qw79 qw1067 okX8_sortAt ⟨rfl, rfl⟩ ⟨(Nat.le_of_ble_eq_true rfl), (Nat.le_of_ble_eq_true rfl)⟩ ⟨Nat.zero_le _, Nat.zero_le _⟩ rfl hl.1 (rest := []) rfl (Nat.le_of_ble_eq_true rfl) dX8_next_102 (st1 := [.int r23]) rfl (fun H locs hw => ?_)
      refine lv_aload_n X.1 X.2.1 dX8_next_105 rfl (lv_at hl 0 rfl) ?_
      refine r_get X hw (sp69 hE) (C := RX8) (T := TX8) (N := 31) rfl iwX8 9 (by decide) (Nat.le_of_ble_eq_true rfl) qw875 (v := .int (σ 69 9)) rfl dX8_next_106 ?_
      refine lv_icmp_ne (tgt := 125) X.1 X.2.1 dX8_next_109 (by decide) (fun c24 => ?_) (fun c24 => ?_)
      · have hf := if_e hf c24
        obtain rfl := Option.some.inj hf
        obtain rfl := hr2 _ rfl
        exact K1 _ rfl _ _ _ hw (lv_sub hl [0] rfl)
      · have hf := if_t hf c24
        refine lv_aload_n X.1 X.2.1 dX8_next_112 rfl (lv_at hl 0 rfl) ?_
        refine lv_dup X.1 X.2.1 dX8_next_113 rfl ?_
        refine r_get X hw (sp69 hE) (C := RX8) (T := TX8) (N := 31) rfl iwX8 7 (by decide) (Nat.le_of_ble_eq_true rfl) qw873 (v := .int (σ 69 7)) rfl dX8_next_114 ?_
        refine lv_iconst (v := 1) X.1 X.2.1 dX8_next_117 (by decide) ?_
        refine lv_iadd X.1 X.2.1 dX8_next_118 ?_
        refine r_put X hw (sp69 hE) (C := RX8) (T := TX8) (N := 31) rfl iwX8 tyX8 tyX8_ok nmX8 7 (by decide) (Nat.le_of_ble_eq_true rfl) qw873 rfl (v := .int ((σ 69 7) + 1)) rfl rfl (x := ((σ 69 7) + 1)) rfl dX8_next_119 (fun H locs hw => ?_)
        obtain ⟨σ25, e26, hf⟩ := b_bnd hf
        rw [← e26] at hw
        refine lv_goto (tgt := 89) X.1 X.2.1 dX8_next_122 (by decide) ?_
        obtain rfl := Option.some.inj hf
        exact ih _ (hr1 _ rfl) _ _ _ hw (lv_sub hl [0] rfl) K1
set_option maxHeartbeats 4000000 in
set_option maxRecDepth 100000 in
theorem k_X8_next {l : Launch} {E : en_T} (hE : ShF E)  {σ : sg_T}  {σ' : sg_T} (hf : f_X8_next  σ = some σ') : Ct l yX8_next cX8_next 1 none rm_X8_next E [.ref (eP E 69)] σ none σ' := by
  refine Ct.start (by decide) hE.1 (Nat.le_of_ble_eq_true rfl) ?_
  intro p e s m below meth c X hw ls hl
  have X : Cx E p s m _ meth c cX8_next 1 RX8 none := X
  have hR : ShR E := hE.r
  have hl : lv_has ls 1 [(0, .ref (eP E 69))] := hl
  unfold f_X8_next at hf
  obtain ⟨σ11, h10, hf⟩ := b_bd1 hf
  refine w_X8_next_0 X hE  lfu _ h10 _ _ _ hw (lv_sub hl [0] rfl) (fun yσ11 hq H locs ls hw hl => ?_)
  cases hq
  refine lv_aload_n X.1 X.2.1 dX8_next_52 rfl (lv_at hl 0 rfl) ?_
  refine lv_aload_n X.1 X.2.1 dX8_next_53 rfl (lv_at hl 0 rfl) ?_
  refine r_get X hw (sp69 hE) (C := RX8) (T := TX8) (N := 31) rfl iwX8 7 (by decide) (Nat.le_of_ble_eq_true rfl) qw873 (v := .int (σ11 69 7)) rfl dX8_next_54 ?_
  refine r_put X hw (sp69 hE) (C := RX8) (T := TX8) (N := 31) rfl iwX8 tyX8 tyX8_ok nmX8 8 (by decide) (Nat.le_of_ble_eq_true rfl) qw874 rfl (v := .int (σ11 69 7)) rfl rfl (x := (σ11 69 7)) rfl dX8_next_57 (fun H locs hw => ?_)
  obtain ⟨σ12, e13, hf⟩ := b_bnd hf
  rw [← e13] at hw
  refine lv_aload_n X.1 X.2.1 dX8_next_60 rfl (lv_at hl 0 rfl) ?_
  refine lv_aload_n X.1 X.2.1 dX8_next_61 rfl (lv_at hl 0 rfl) ?_
  refine lv_aload_n X.1 X.2.1 dX8_next_62 rfl (lv_at hl 0 rfl) ?_
  refine r_get X hw (sp69 hE) (C := RX8) (T := TX8) (N := 31) rfl iwX8 7 (by decide) (Nat.le_of_ble_eq_true rfl) qw873 (v := .int (σ12 69 7)) rfl dX8_next_63 ?_
  obtain ⟨r15, h14, hf⟩ := b_bd1 hf
  refine r_callV X hw (k_X8_sortAt hE  h14) (sp69 hE) (C := RX8) (T := TX8) (N := 31) rfl qw1064 qw1066 qw43 qw79 qw1067 okX8_sortAt ⟨rfl, rfl⟩ ⟨(Nat.le_of_ble_eq_true rfl), (Nat.le_of_ble_eq_true rfl)⟩ ⟨Nat.zero_le _, Nat.zero_le _⟩ rfl hl.1 (rest := [.ref (eP E 69)]) rfl (Nat.le_of_ble_eq_true rfl) dX8_next_66 (st1 := [.int r15, .ref (eP E 69)]) rfl (fun H locs hw => ?_)
  refine r_put X hw (sp69 hE) (C := RX8) (T := TX8) (N := 31) rfl iwX8 tyX8 tyX8_ok nmX8 9 (by decide) (Nat.le_of_ble_eq_true rfl) qw875 rfl (v := .int r15) rfl rfl (x := r15) rfl dX8_next_69 (fun H locs hw => ?_)
  obtain ⟨σ16, e17, hf⟩ := b_bnd hf
  rw [← e17] at hw
  refine lv_aload_n X.1 X.2.1 dX8_next_72 rfl (lv_at hl 0 rfl) ?_
  refine r_get X hw (sp69 hE) (C := RX8) (T := TX8) (N := 31) rfl iwX8 9 (by decide) (Nat.le_of_ble_eq_true rfl) qw875 (v := .int (σ16 69 9)) rfl dX8_next_73 ?_
  refine lv_if_le (tgt := 125) X.1 X.2.1 dX8_next_76 (by decide) (fun c18 => ?_) (fun c18 => ?_)
  · have hf := if_t hf c18
    obtain rfl := Option.some.inj hf
    exact r_vret X hw dX8_next_125
  · have hf := if_e hf c18
    refine lv_aload_n X.1 X.2.1 dX8_next_79 rfl (lv_at hl 0 rfl) ?_
    refine lv_dup X.1 X.2.1 dX8_next_80 rfl ?_
    refine r_get X hw (sp69 hE) (C := RX8) (T := TX8) (N := 31) rfl iwX8 7 (by decide) (Nat.le_of_ble_eq_true rfl) qw873 (v := .int (σ16 69 7)) rfl dX8_next_81 ?_
    refine lv_iconst (v := 1) X.1 X.2.1 dX8_next_84 (by decide) ?_
    refine lv_iadd X.1 X.2.1 dX8_next_85 ?_
    refine r_put X hw (sp69 hE) (C := RX8) (T := TX8) (N := 31) rfl iwX8 tyX8 tyX8_ok nmX8 7 (by decide) (Nat.le_of_ble_eq_true rfl) qw873 rfl (v := .int ((σ16 69 7) + 1)) rfl rfl (x := ((σ16 69 7) + 1)) rfl dX8_next_86 (fun H locs hw => ?_)
    obtain ⟨σ19, e20, hf⟩ := b_bnd hf
    rw [← e20] at hw
    obtain ⟨σ28, h27, hf⟩ := b_bd1 hf
    refine w_X8_next_89 X hE  lfu _ h27 _ _ _ hw (lv_sub hl [0] rfl) (fun yσ28 hq H locs ls hw hl => ?_)
    cases hq
    obtain rfl := Option.some.inj hf
    exact r_vret X hw dX8_next_125
abbrev rm_X8_word : Room := { frames := 0, cells := 0, slots := 0, locals := 0 }
set_option maxHeartbeats 4000000 in
set_option maxRecDepth 100000 in
theorem w_X8_word_41 {p : Program} {l : Launch} {e : Env} {s : State} {m : MethodId} {args : Array Value} {below : List Frame} {meth : Method} {c : Code} {Q : State → Prop} {E : en_T} (X : Cx E p s m args meth c cX8_word 5 RX8 (some .int)) (hE : ShF E) {u1 : Int32} {u2 : Int32} {σ : sg_T} {res : Int32 × Int32} :
    ∀ (n : Nat) (w3 : Int32) (w4 : Int32), itr (fun q => b_X8_word_41 u1 u2 q.1 q.2 σ) n (w3, w4) = some res → ∀ (H : Heap) (locs : List Loc) (ls : Array Slot), Hw E σ s H locs → lv_has ls 5 [(0, .ref (eP E 69)), (1, .int u1), (2, .int u2), (3, .int w3), (4, .int w4)] →
    (∀ (y3 : Int32) (y4 : Int32), res = (y3, y4) → ∀ (H : Heap) (locs : List Loc) (ls : Array Slot), Hw E σ s H locs → lv_has ls 5 [(0, .ref (eP E 69)), (1, .int u1), (2, .int u2), (3, .int y3), (4, .int y4)] → W p l e rm_X8_word s m args below meth c H locs 0 0 Q (F0 m 109 ls [])) →
    W p l e rm_X8_word s m args below meth c H locs 0 0 Q (F0 m 41 ls []) := by
  have hR : ShR E := hE.r
  intro n
  induction n with
  | zero =>
    intro w3 w4 hf0
    exact (itr_0 hf0).elim
  | succ n ih =>
    intro w3 w4 hf0 H locs ls hw hl K1
    obtain ⟨r0, hf, hr1, hr2⟩ := itr_s hf0
    have hf : b_X8_word_41 u1 u2 w3 w4 σ = some r0 := hf
    unfold b_X8_word_41 at hf
    refine lv_iload_n X.1 X.2.1 dX8_word_41 rfl (lv_at hl 3 rfl) ?_
    refine lv_if_eq (tgt := 109) X.1 X.2.1 dX8_word_42 (by decide) (fun c3 => ?_) (fun c3 => ?_)
    · have hf := if_t hf c3
      obtain rfl := Option.some.inj hf
      obtain rfl := hr2 _ rfl
      exact K1 _ _ rfl _ _ _ hw (lv_sub hl [0, 1, 2, 3, 4] rfl)
    · have hf := if_e hf c3
      refine lv_iload X.1 X.2.1 dX8_word_45 (lv_at hl 4 rfl) ?_
      refine lv_bipush (v := 6) X.1 X.2.1 dX8_word_47 (by decide) ?_
      refine lv_icmp_ge (tgt := 109) X.1 X.2.1 dX8_word_49 (by decide) (fun c4 => ?_) (fun c4 => ?_)
      · have hf := if_t hf c4
        obtain rfl := Option.some.inj hf
        obtain rfl := hr2 _ rfl
        exact K1 _ _ rfl _ _ _ hw (lv_sub hl [0, 1, 2, 3, 4] rfl)
      · have hf := if_e hf c4
        refine lv_aload_n X.1 X.2.1 dX8_word_52 rfl (lv_at hl 0 rfl) ?_
        refine r_get X hw (sp69 hE) (C := RX8) (T := TX8) (N := 31) rfl iwX8 15 (by decide) (Nat.le_of_ble_eq_true rfl) qw881 (v := .ref (eP E 77)) rfl dX8_word_53 ?_
        refine lv_bipush (v := 6) X.1 X.2.1 dX8_word_56 (by decide) ?_
        refine lv_iload_n X.1 X.2.1 dX8_word_58 rfl (lv_at hl 2 rfl) ?_
        refine lv_imul X.1 X.2.1 dX8_word_59 ?_
        refine lv_iload X.1 X.2.1 dX8_word_60 (lv_at hl 4 rfl) ?_
        refine lv_iadd X.1 X.2.1 dX8_word_62 ?_
        obtain ⟨h5, hf⟩ := b_ck hf
        refine r_cald X hw (sp77 hE) h5 dX8_word_63 ?_
        refine lv_aload_n X.1 X.2.1 dX8_word_64 rfl (lv_at hl 0 rfl) ?_
        refine r_get X hw (sp69 hE) (C := RX8) (T := TX8) (N := 31) rfl iwX8 8 (by decide) (Nat.le_of_ble_eq_true rfl) qw874 (v := .int (σ 69 8)) rfl dX8_word_65 ?_
        refine lv_iload X.1 X.2.1 dX8_word_68 (lv_at hl 4 rfl) ?_
        refine lv_iadd X.1 X.2.1 dX8_word_70 ?_
        refine lv_aload_n X.1 X.2.1 dX8_word_71 rfl (lv_at hl 0 rfl) ?_
        refine r_get X hw (sp69 hE) (C := RX8) (T := TX8) (N := 31) rfl iwX8 7 (by decide) (Nat.le_of_ble_eq_true rfl) qw873 (v := .int (σ 69 7)) rfl dX8_word_72 ?_
        refine lv_icmp_ge (tgt := 93) X.1 X.2.1 dX8_word_75 (by decide) (fun c6 => ?_) (fun c6 => ?_)
        · have hf := if_t hf c6
          refine lv_iconst (v := 0) X.1 X.2.1 dX8_word_93 (by decide) ?_
          obtain ⟨v8, e9, hf⟩ := b_bnd hf
          refine r_join (g2 := F0 m 102 ls [.int v8]) ?_ (fun hj => ?_)
          · refine lv_istore_n (lv' := [(3, .int v8), (0, .ref (eP E 69)), (1, .int u1), (2, .int u2), (4, .int w4)]) X.1 X.2.1 dX8_word_102 rfl hl (by decide) rfl (fun ls hl => ?_)
            obtain ⟨v10, e11, hf⟩ := b_bnd hf
            refine lv_iinc (v := v10) (k := 4) (lv' := [(4, .int v10), (3, .int v8), (0, .ref (eP E 69)), (1, .int u1), (2, .int u2)]) X.1 X.2.1 dX8_word_103 hl rfl (by rw [e11]; exact congrArg _ (by decide)) (by decide) rfl (fun ls hl => ?_)
            refine lv_goto (tgt := 41) X.1 X.2.1 dX8_word_106 (by decide) ?_
            obtain rfl := Option.some.inj hf
            exact ih _ _ (hr1 _ rfl) _ _ _ hw (lv_sub hl [2, 3, 4, 1, 0] rfl) K1
          · refine lv_icmp_ne (tgt := 101) X.1 X.2.1 dX8_word_94 (by decide) (fun c7 => ?_) (fun c7 => ?_)
            · rw [e9, if_neg c7] at hj
              refine lv_iconst (v := 0) X.1 X.2.1 dX8_word_101 (by decide) ?_
              exact hj
            · rw [e9, if_pos c7] at hj
              refine lv_iconst (v := 1) X.1 X.2.1 dX8_word_97 (by decide) ?_
              refine lv_goto (tgt := 102) X.1 X.2.1 dX8_word_98 (by decide) ?_
              exact hj
        · have hf := if_e hf c6
          refine lv_aload_n X.1 X.2.1 dX8_word_78 rfl (lv_at hl 0 rfl) ?_
          refine r_get X hw (sp69 hE) (C := RX8) (T := TX8) (N := 31) rfl iwX8 5 (by decide) (Nat.le_of_ble_eq_true rfl) qw871 (v := .ref (eP E 74)) rfl dX8_word_79 ?_
          refine lv_aload_n X.1 X.2.1 dX8_word_82 rfl (lv_at hl 0 rfl) ?_
          refine r_get X hw (sp69 hE) (C := RX8) (T := TX8) (N := 31) rfl iwX8 8 (by decide) (Nat.le_of_ble_eq_true rfl) qw874 (v := .int (σ 69 8)) rfl dX8_word_83 ?_
          refine lv_iload X.1 X.2.1 dX8_word_86 (lv_at hl 4 rfl) ?_
          refine lv_iadd X.1 X.2.1 dX8_word_88 ?_
          obtain ⟨h12, hf⟩ := b_ck hf
          refine r_iald X hw (sp74 hE) h12 dX8_word_89 ?_
          refine lv_goto (tgt := 94) X.1 X.2.1 dX8_word_90 (by decide) ?_
          obtain ⟨v14, e15, hf⟩ := b_bnd hf
          refine r_join (g2 := F0 m 102 ls [.int v14]) ?_ (fun hj => ?_)
          · refine lv_istore_n (lv' := [(3, .int v14), (0, .ref (eP E 69)), (1, .int u1), (2, .int u2), (4, .int w4)]) X.1 X.2.1 dX8_word_102 rfl hl (by decide) rfl (fun ls hl => ?_)
            obtain ⟨v16, e17, hf⟩ := b_bnd hf
            refine lv_iinc (v := v16) (k := 4) (lv' := [(4, .int v16), (3, .int v14), (0, .ref (eP E 69)), (1, .int u1), (2, .int u2)]) X.1 X.2.1 dX8_word_103 hl rfl (by rw [e17]; exact congrArg _ (by decide)) (by decide) rfl (fun ls hl => ?_)
            refine lv_goto (tgt := 41) X.1 X.2.1 dX8_word_106 (by decide) ?_
            obtain rfl := Option.some.inj hf
            exact ih _ _ (hr1 _ rfl) _ _ _ hw (lv_sub hl [2, 3, 4, 1, 0] rfl) K1
          · refine lv_icmp_ne (tgt := 101) X.1 X.2.1 dX8_word_94 (by decide) (fun c13 => ?_) (fun c13 => ?_)
            · rw [e15, if_neg c13] at hj
              refine lv_iconst (v := 0) X.1 X.2.1 dX8_word_101 (by decide) ?_
              exact hj
            · rw [e15, if_pos c13] at hj
              refine lv_iconst (v := 1) X.1 X.2.1 dX8_word_97 (by decide) ?_
              refine lv_goto (tgt := 102) X.1 X.2.1 dX8_word_98 (by decide) ?_
              exact hj
set_option maxHeartbeats 4000000 in
set_option maxRecDepth 100000 in
theorem w_X8_word_41q2 {p : Program} {l : Launch} {e : Env} {s : State} {m : MethodId} {args : Array Value} {below : List Frame} {meth : Method} {c : Code} {Q : State → Prop} {E : en_T} (X : Cx E p s m args meth c cX8_word 5 RX8 (some .int)) (hE : ShF E) {u1 : Int32} {u2 : Int32} {σ : sg_T} {res : Int32 × Int32} :
    ∀ (n : Nat) (w3 : Int32) (w4 : Int32), itr (fun q => b_X8_word_41q2 u1 u2 q.1 q.2 σ) n (w3, w4) = some res → ∀ (H : Heap) (locs : List Loc) (ls : Array Slot), Hw E σ s H locs → lv_has ls 5 [(0, .ref (eP E 69)), (1, .int u1), (2, .int u2), (3, .int w3), (4, .int w4)] →
    (∀ (y3 : Int32) (y4 : Int32), res = (y3, y4) → ∀ (H : Heap) (locs : List Loc) (ls : Array Slot), Hw E σ s H locs → lv_has ls 5 [(0, .ref (eP E 69)), (1, .int u1), (2, .int u2), (3, .int y3), (4, .int y4)] → W p l e rm_X8_word s m args below meth c H locs 0 0 Q (F0 m 109 ls [])) →
    W p l e rm_X8_word s m args below meth c H locs 0 0 Q (F0 m 41 ls []) := by
  have hR : ShR E := hE.r
  intro n
  induction n with
  | zero =>
    intro w3 w4 hf0
    exact (itr_0 hf0).elim
  | succ n ih =>
    intro w3 w4 hf0 H locs ls hw hl K1
    obtain ⟨r0, hf, hr1, hr2⟩ := itr_s hf0
    have hf : b_X8_word_41q2 u1 u2 w3 w4 σ = some r0 := hf
    unfold b_X8_word_41q2 at hf
    refine lv_iload_n X.1 X.2.1 dX8_word_41 rfl (lv_at hl 3 rfl) ?_
    refine lv_if_eq (tgt := 109) X.1 X.2.1 dX8_word_42 (by decide) (fun c29 => ?_) (fun c29 => ?_)
    · have hf := if_t hf c29
      obtain rfl := Option.some.inj hf
      obtain rfl := hr2 _ rfl
      exact K1 _ _ rfl _ _ _ hw (lv_sub hl [0, 1, 2, 3, 4] rfl)
    · have hf := if_e hf c29
      refine lv_iload X.1 X.2.1 dX8_word_45 (lv_at hl 4 rfl) ?_
      refine lv_bipush (v := 6) X.1 X.2.1 dX8_word_47 (by decide) ?_
      refine lv_icmp_ge (tgt := 109) X.1 X.2.1 dX8_word_49 (by decide) (fun c30 => ?_) (fun c30 => ?_)
      · have hf := if_t hf c30
        obtain rfl := Option.some.inj hf
        obtain rfl := hr2 _ rfl
        exact K1 _ _ rfl _ _ _ hw (lv_sub hl [0, 1, 2, 3, 4] rfl)
      · have hf := if_e hf c30
        refine lv_aload_n X.1 X.2.1 dX8_word_52 rfl (lv_at hl 0 rfl) ?_
        refine r_get X hw (sp69 hE) (C := RX8) (T := TX8) (N := 31) rfl iwX8 15 (by decide) (Nat.le_of_ble_eq_true rfl) qw881 (v := .ref (eP E 77)) rfl dX8_word_53 ?_
        refine lv_bipush (v := 6) X.1 X.2.1 dX8_word_56 (by decide) ?_
        refine lv_iload_n X.1 X.2.1 dX8_word_58 rfl (lv_at hl 2 rfl) ?_
        refine lv_imul X.1 X.2.1 dX8_word_59 ?_
        refine lv_iload X.1 X.2.1 dX8_word_60 (lv_at hl 4 rfl) ?_
        refine lv_iadd X.1 X.2.1 dX8_word_62 ?_
        obtain ⟨h31, hf⟩ := b_ck hf
        refine r_cald X hw (sp77 hE) h31 dX8_word_63 ?_
        refine lv_aload_n X.1 X.2.1 dX8_word_64 rfl (lv_at hl 0 rfl) ?_
        refine r_get X hw (sp69 hE) (C := RX8) (T := TX8) (N := 31) rfl iwX8 8 (by decide) (Nat.le_of_ble_eq_true rfl) qw874 (v := .int (σ 69 8)) rfl dX8_word_65 ?_
        refine lv_iload X.1 X.2.1 dX8_word_68 (lv_at hl 4 rfl) ?_
        refine lv_iadd X.1 X.2.1 dX8_word_70 ?_
        refine lv_aload_n X.1 X.2.1 dX8_word_71 rfl (lv_at hl 0 rfl) ?_
        refine r_get X hw (sp69 hE) (C := RX8) (T := TX8) (N := 31) rfl iwX8 7 (by decide) (Nat.le_of_ble_eq_true rfl) qw873 (v := .int (σ 69 7)) rfl dX8_word_72 ?_
        refine lv_icmp_ge (tgt := 93) X.1 X.2.1 dX8_word_75 (by decide) (fun c32 => ?_) (fun c32 => ?_)
        · have hf := if_t hf c32
          refine lv_iconst (v := 0) X.1 X.2.1 dX8_word_93 (by decide) ?_
          obtain ⟨v34, e35, hf⟩ := b_bnd hf
          refine r_join (g2 := F0 m 102 ls [.int v34]) ?_ (fun hj => ?_)
          · refine lv_istore_n (lv' := [(3, .int v34), (0, .ref (eP E 69)), (1, .int u1), (2, .int u2), (4, .int w4)]) X.1 X.2.1 dX8_word_102 rfl hl (by decide) rfl (fun ls hl => ?_)
            obtain ⟨v36, e37, hf⟩ := b_bnd hf
            refine lv_iinc (v := v36) (k := 4) (lv' := [(4, .int v36), (3, .int v34), (0, .ref (eP E 69)), (1, .int u1), (2, .int u2)]) X.1 X.2.1 dX8_word_103 hl rfl (by rw [e37]; exact congrArg _ (by decide)) (by decide) rfl (fun ls hl => ?_)
            refine lv_goto (tgt := 41) X.1 X.2.1 dX8_word_106 (by decide) ?_
            obtain rfl := Option.some.inj hf
            exact ih _ _ (hr1 _ rfl) _ _ _ hw (lv_sub hl [2, 3, 4, 1, 0] rfl) K1
          · refine lv_icmp_ne (tgt := 101) X.1 X.2.1 dX8_word_94 (by decide) (fun c33 => ?_) (fun c33 => ?_)
            · rw [e35, if_neg c33] at hj
              refine lv_iconst (v := 0) X.1 X.2.1 dX8_word_101 (by decide) ?_
              exact hj
            · rw [e35, if_pos c33] at hj
              refine lv_iconst (v := 1) X.1 X.2.1 dX8_word_97 (by decide) ?_
              refine lv_goto (tgt := 102) X.1 X.2.1 dX8_word_98 (by decide) ?_
              exact hj
        · have hf := if_e hf c32
          refine lv_aload_n X.1 X.2.1 dX8_word_78 rfl (lv_at hl 0 rfl) ?_
          refine r_get X hw (sp69 hE) (C := RX8) (T := TX8) (N := 31) rfl iwX8 5 (by decide) (Nat.le_of_ble_eq_true rfl) qw871 (v := .ref (eP E 74)) rfl dX8_word_79 ?_
          refine lv_aload_n X.1 X.2.1 dX8_word_82 rfl (lv_at hl 0 rfl) ?_
          refine r_get X hw (sp69 hE) (C := RX8) (T := TX8) (N := 31) rfl iwX8 8 (by decide) (Nat.le_of_ble_eq_true rfl) qw874 (v := .int (σ 69 8)) rfl dX8_word_83 ?_
          refine lv_iload X.1 X.2.1 dX8_word_86 (lv_at hl 4 rfl) ?_
          refine lv_iadd X.1 X.2.1 dX8_word_88 ?_
          obtain ⟨h38, hf⟩ := b_ck hf
          refine r_iald X hw (sp74 hE) h38 dX8_word_89 ?_
          refine lv_goto (tgt := 94) X.1 X.2.1 dX8_word_90 (by decide) ?_
          obtain ⟨v40, e41, hf⟩ := b_bnd hf
          refine r_join (g2 := F0 m 102 ls [.int v40]) ?_ (fun hj => ?_)
          · refine lv_istore_n (lv' := [(3, .int v40), (0, .ref (eP E 69)), (1, .int u1), (2, .int u2), (4, .int w4)]) X.1 X.2.1 dX8_word_102 rfl hl (by decide) rfl (fun ls hl => ?_)
            obtain ⟨v42, e43, hf⟩ := b_bnd hf
            refine lv_iinc (v := v42) (k := 4) (lv' := [(4, .int v42), (3, .int v40), (0, .ref (eP E 69)), (1, .int u1), (2, .int u2)]) X.1 X.2.1 dX8_word_103 hl rfl (by rw [e43]; exact congrArg _ (by decide)) (by decide) rfl (fun ls hl => ?_)
            refine lv_goto (tgt := 41) X.1 X.2.1 dX8_word_106 (by decide) ?_
            obtain rfl := Option.some.inj hf
            exact ih _ _ (hr1 _ rfl) _ _ _ hw (lv_sub hl [2, 3, 4, 1, 0] rfl) K1
          · refine lv_icmp_ne (tgt := 101) X.1 X.2.1 dX8_word_94 (by decide) (fun c39 => ?_) (fun c39 => ?_)
            · rw [e41, if_neg c39] at hj
              refine lv_iconst (v := 0) X.1 X.2.1 dX8_word_101 (by decide) ?_
              exact hj
            · rw [e41, if_pos c39] at hj
              refine lv_iconst (v := 1) X.1 X.2.1 dX8_word_97 (by decide) ?_
              refine lv_goto (tgt := 102) X.1 X.2.1 dX8_word_98 (by decide) ?_
              exact hj
set_option maxHeartbeats 4000000 in
set_option maxRecDepth 100000 in
theorem w_X8_word_4 {p : Program} {l : Launch} {e : Env} {s : State} {m : MethodId} {args : Array Value} {below : List Frame} {meth : Method} {c : Code} {Q : State → Prop} {E : en_T} (X : Cx E p s m args meth c cX8_word 5 RX8 (some .int)) (hE : ShF E)  {σ : sg_T} {res : Int32 × Int32} :
    ∀ (n : Nat) (w1 : Int32) (w2 : Int32), itr (fun q => b_X8_word_4  q.1 q.2 σ) n (w1, w2) = some res → ∀ (H : Heap) (locs : List Loc) (ls : Array Slot), Hw E σ s H locs → lv_has ls 5 [(0, .ref (eP E 69)), (1, .int w1), (2, .int w2)] →
    (∀ (y1 : Int32) (y2 : Int32), res = (y1, y2) → ∀ (H : Heap) (locs : List Loc) (ls : Array Slot), Hw E σ s H locs → lv_has ls 5 [(0, .ref (eP E 69)), (1, .int y1), (2, .int y2)] → W p l e rm_X8_word s m args below meth c H locs 0 0 Q (F0 m 125 ls [])) →
    W p l e rm_X8_word s m args below meth c H locs 0 0 Q (F0 m 4 ls []) := by
  have hR : ShR E := hE.r
  intro n
  induction n with
  | zero =>
    intro w1 w2 hf0
    exact (itr_0 hf0).elim
  | succ n ih =>
    intro w1 w2 hf0 H locs ls hw hl K1
    obtain ⟨r0, hf, hr1, hr2⟩ := itr_s hf0
    have hf : b_X8_word_4  w1 w2 σ = some r0 := hf
    unfold b_X8_word_4 at hf
    refine lv_iload_n X.1 X.2.1 dX8_word_4 rfl (lv_at hl 2 rfl) ?_
    refine lv_bipush (v := 12) X.1 X.2.1 dX8_word_5 (by decide) ?_
    refine lv_icmp_ge (tgt := 125) X.1 X.2.1 dX8_word_7 (by decide) (fun c1 => ?_) (fun c1 => ?_)
    · have hf := if_t hf c1
      obtain rfl := Option.some.inj hf
      obtain rfl := hr2 _ rfl
      exact K1 _ _ rfl _ _ _ hw (lv_sub hl [0, 1, 2] rfl)
    · have hf := if_e hf c1
      refine lv_aload_n X.1 X.2.1 dX8_word_10 rfl (lv_at hl 0 rfl) ?_
      refine r_get X hw (sp69 hE) (C := RX8) (T := TX8) (N := 31) rfl iwX8 9 (by decide) (Nat.le_of_ble_eq_true rfl) qw875 (v := .int (σ 69 9)) rfl dX8_word_11 ?_
      refine lv_iconst (v := 1) X.1 X.2.1 dX8_word_14 (by decide) ?_
      refine lv_icmp_ne (tgt := 36) X.1 X.2.1 dX8_word_15 (by decide) (fun c2 => ?_) (fun c2 => ?_)
      · have hf := if_e hf c2
        refine lv_iconst (v := 0) X.1 X.2.1 dX8_word_36 (by decide) ?_
        refine lv_istore_n (lv' := [(3, .int 0), (0, .ref (eP E 69)), (1, .int w1), (2, .int w2)]) X.1 X.2.1 dX8_word_37 rfl hl (by decide) rfl (fun ls hl => ?_)
        refine lv_iconst (v := 0) X.1 X.2.1 dX8_word_38 (by decide) ?_
        refine lv_istore (lv' := [(4, .int 0), (3, .int 0), (0, .ref (eP E 69)), (1, .int w1), (2, .int w2)]) X.1 X.2.1 dX8_word_39 hl (by decide) rfl (fun ls hl => ?_)
        obtain ⟨v19, v20, h18, hf⟩ := b_bd2 hf
        refine w_X8_word_41 X hE  lfu _ _ h18 _ _ _ hw (lv_sub hl [2, 3, 4, 1, 0] rfl) (fun yv19 yv20 hq H locs ls hw hl => ?_)
        cases hq
        refine lv_iload_n X.1 X.2.1 dX8_word_109 rfl (lv_at hl 3 rfl) ?_
        obtain ⟨v22, e23, hf⟩ := b_bnd hf
        refine r_join (g2 := F0 m 118 ls [.int v22]) ?_ (fun hj => ?_)
        · refine lv_istore_n (lv' := [(1, .int v22), (0, .ref (eP E 69)), (2, .int w2), (3, .int v19), (4, .int v20)]) X.1 X.2.1 dX8_word_118 rfl hl (by decide) rfl (fun ls hl => ?_)
          obtain ⟨v24, e25, hf⟩ := b_bnd hf
          refine lv_iinc (v := v24) (k := 2) (lv' := [(2, .int v24), (1, .int v22), (0, .ref (eP E 69)), (3, .int v19), (4, .int v20)]) X.1 X.2.1 dX8_word_119 hl rfl (by rw [e25]; exact congrArg _ (by decide)) (by decide) rfl (fun ls hl => ?_)
          refine lv_goto (tgt := 4) X.1 X.2.1 dX8_word_122 (by decide) ?_
          obtain rfl := Option.some.inj hf
          exact ih _ _ (hr1 _ rfl) _ _ _ hw (lv_sub hl [2, 1, 0] rfl) K1
        · refine lv_if_eq (tgt := 117) X.1 X.2.1 dX8_word_110 (by decide) (fun c21 => ?_) (fun c21 => ?_)
          · rw [e23, if_pos c21] at hj
            refine lv_iload_n X.1 X.2.1 dX8_word_117 rfl (lv_at hl 1 rfl) ?_
            exact hj
          · rw [e23, if_neg c21] at hj
            refine lv_iload_n X.1 X.2.1 dX8_word_113 rfl (lv_at hl 2 rfl) ?_
            refine lv_goto (tgt := 118) X.1 X.2.1 dX8_word_114 (by decide) ?_
            exact hj
      · have hf := if_t hf c2
        refine lv_aload_n X.1 X.2.1 dX8_word_18 rfl (lv_at hl 0 rfl) ?_
        refine r_get X hw (sp69 hE) (C := RX8) (T := TX8) (N := 31) rfl iwX8 7 (by decide) (Nat.le_of_ble_eq_true rfl) qw873 (v := .int (σ 69 7)) rfl dX8_word_19 ?_
        refine lv_aload_n X.1 X.2.1 dX8_word_22 rfl (lv_at hl 0 rfl) ?_
        refine r_get X hw (sp69 hE) (C := RX8) (T := TX8) (N := 31) rfl iwX8 8 (by decide) (Nat.le_of_ble_eq_true rfl) qw874 (v := .int (σ 69 8)) rfl dX8_word_23 ?_
        refine lv_isub X.1 X.2.1 dX8_word_26 ?_
        refine lv_bipush (v := 6) X.1 X.2.1 dX8_word_27 (by decide) ?_
        obtain ⟨v27, e28, hf⟩ := b_bnd hf
        refine r_join (g2 := F0 m 37 ls [.int v27]) ?_ (fun hj => ?_)
        · refine lv_istore_n (lv' := [(3, .int v27), (0, .ref (eP E 69)), (1, .int w1), (2, .int w2)]) X.1 X.2.1 dX8_word_37 rfl hl (by decide) rfl (fun ls hl => ?_)
          refine lv_iconst (v := 0) X.1 X.2.1 dX8_word_38 (by decide) ?_
          refine lv_istore (lv' := [(4, .int 0), (3, .int v27), (0, .ref (eP E 69)), (1, .int w1), (2, .int w2)]) X.1 X.2.1 dX8_word_39 hl (by decide) rfl (fun ls hl => ?_)
          obtain ⟨v45, v46, h44, hf⟩ := b_bd2 hf
          refine w_X8_word_41q2 X hE  lfu _ _ h44 _ _ _ hw (lv_sub hl [2, 3, 4, 1, 0] rfl) (fun yv45 yv46 hq H locs ls hw hl => ?_)
          cases hq
          refine lv_iload_n X.1 X.2.1 dX8_word_109 rfl (lv_at hl 3 rfl) ?_
          obtain ⟨v48, e49, hf⟩ := b_bnd hf
          refine r_join (g2 := F0 m 118 ls [.int v48]) ?_ (fun hj => ?_)
          · refine lv_istore_n (lv' := [(1, .int v48), (0, .ref (eP E 69)), (2, .int w2), (3, .int v45), (4, .int v46)]) X.1 X.2.1 dX8_word_118 rfl hl (by decide) rfl (fun ls hl => ?_)
            obtain ⟨v50, e51, hf⟩ := b_bnd hf
            refine lv_iinc (v := v50) (k := 2) (lv' := [(2, .int v50), (1, .int v48), (0, .ref (eP E 69)), (3, .int v45), (4, .int v46)]) X.1 X.2.1 dX8_word_119 hl rfl (by rw [e51]; exact congrArg _ (by decide)) (by decide) rfl (fun ls hl => ?_)
            refine lv_goto (tgt := 4) X.1 X.2.1 dX8_word_122 (by decide) ?_
            obtain rfl := Option.some.inj hf
            exact ih _ _ (hr1 _ rfl) _ _ _ hw (lv_sub hl [2, 1, 0] rfl) K1
          · refine lv_if_eq (tgt := 117) X.1 X.2.1 dX8_word_110 (by decide) (fun c47 => ?_) (fun c47 => ?_)
            · rw [e49, if_pos c47] at hj
              refine lv_iload_n X.1 X.2.1 dX8_word_117 rfl (lv_at hl 1 rfl) ?_
              exact hj
            · rw [e49, if_neg c47] at hj
              refine lv_iload_n X.1 X.2.1 dX8_word_113 rfl (lv_at hl 2 rfl) ?_
              refine lv_goto (tgt := 118) X.1 X.2.1 dX8_word_114 (by decide) ?_
              exact hj
        · refine lv_icmp_gt (tgt := 36) X.1 X.2.1 dX8_word_29 (by decide) (fun c26 => ?_) (fun c26 => ?_)
          · rw [e28, if_pos c26] at hj
            refine lv_iconst (v := 0) X.1 X.2.1 dX8_word_36 (by decide) ?_
            exact hj
          · rw [e28, if_neg c26] at hj
            refine lv_iconst (v := 1) X.1 X.2.1 dX8_word_32 (by decide) ?_
            refine lv_goto (tgt := 37) X.1 X.2.1 dX8_word_33 (by decide) ?_
            exact hj
set_option maxHeartbeats 4000000 in
set_option maxRecDepth 100000 in
theorem k_X8_word {l : Launch} {E : en_T} (hE : ShF E)  {σ : sg_T} {r : Int32} (hf : f_X8_word  σ = some r) : Ct l yX8_word cX8_word 5 (some .int) rm_X8_word E [.ref (eP E 69)] σ (some (.int r)) σ := by
  refine Ct.start (by decide) hE.1 (Nat.le_of_ble_eq_true rfl) ?_
  intro p e s m below meth c X hw ls hl
  have X : Cx E p s m _ meth c cX8_word 5 RX8 (some .int) := X
  have hR : ShR E := hE.r
  have hl : lv_has ls 5 [(0, .ref (eP E 69))] := hl
  unfold f_X8_word at hf
  refine lv_iconst (v := (-1)) X.1 X.2.1 dX8_word_0 (by decide) ?_
  refine lv_istore_n (lv' := [(1, .int (-1)), (0, .ref (eP E 69))]) X.1 X.2.1 dX8_word_1 rfl hl (by decide) rfl (fun ls hl => ?_)
  refine lv_iconst (v := 0) X.1 X.2.1 dX8_word_2 (by decide) ?_
  refine lv_istore_n (lv' := [(2, .int 0), (1, .int (-1)), (0, .ref (eP E 69))]) X.1 X.2.1 dX8_word_3 rfl hl (by decide) rfl (fun ls hl => ?_)
  obtain ⟨v53, v54, h52, hf⟩ := b_bd2 hf
  refine w_X8_word_4 X hE  lfu _ _ h52 _ _ _ hw (lv_sub hl [2, 1, 0] rfl) (fun yv53 yv54 hq H locs ls hw hl => ?_)
  cases hq
  refine lv_iload_n X.1 X.2.1 dX8_word_125 rfl (lv_at hl 1 rfl) ?_
  obtain rfl := Option.some.inj hf
  exact r_iret X hw dX8_word_126
abbrev rm_X8_isSign : Room := { frames := 0, cells := 0, slots := 0, locals := 0 }
set_option maxHeartbeats 4000000 in
set_option maxRecDepth 100000 in
theorem k_X8_isSign {l : Launch} {E : en_T} (hE : ShF E) {x1 : Int32} {σ : sg_T} {r : Int32} (hf : f_X8_isSign x1 σ = some r) : Ct l yX8_isSign cX8_isSign 2 (some .boolean) rm_X8_isSign E [.ref (eP E 69), .int x1] σ (some (.int r)) σ := by
  refine Ct.start (by decide) hE.1 (Nat.le_of_ble_eq_true rfl) ?_
  intro p e s m below meth c X hw ls hl
  have X : Cx E p s m _ meth c cX8_isSign 2 RX8 (some .boolean) := X
  have hR : ShR E := hE.r
  have hl : lv_has ls 2 [(0, .ref (eP E 69)), (1, .int x1)] := hl
  unfold f_X8_isSign at hf
  refine lv_aload_n X.1 X.2.1 dX8_isSign_0 rfl (lv_at hl 0 rfl) ?_
  refine r_get X hw (sp69 hE) (C := RX8) (T := TX8) (N := 31) rfl iwX8 9 (by decide) (Nat.le_of_ble_eq_true rfl) qw875 (v := .int (σ 69 9)) rfl dX8_isSign_1 ?_
  refine lv_iconst (v := 3) X.1 X.2.1 dX8_isSign_4 (by decide) ?_
  refine lv_icmp_ne (tgt := 25) X.1 X.2.1 dX8_isSign_5 (by decide) (fun c1 => ?_) (fun c1 => ?_)
  · have hf := if_e hf c1
    refine lv_iconst (v := 0) X.1 X.2.1 dX8_isSign_25 (by decide) ?_
    obtain rfl := Option.some.inj hf
    exact r_zret X hw (by decide) dX8_isSign_26
  · have hf := if_t hf c1
    refine lv_aload_n X.1 X.2.1 dX8_isSign_8 rfl (lv_at hl 0 rfl) ?_
    refine r_get X hw (sp69 hE) (C := RX8) (T := TX8) (N := 31) rfl iwX8 5 (by decide) (Nat.le_of_ble_eq_true rfl) qw871 (v := .ref (eP E 74)) rfl dX8_isSign_9 ?_
    refine lv_aload_n X.1 X.2.1 dX8_isSign_12 rfl (lv_at hl 0 rfl) ?_
    refine r_get X hw (sp69 hE) (C := RX8) (T := TX8) (N := 31) rfl iwX8 8 (by decide) (Nat.le_of_ble_eq_true rfl) qw874 (v := .int (σ 69 8)) rfl dX8_isSign_13 ?_
    obtain ⟨h2, hf⟩ := b_ck hf
    refine r_iald X hw (sp74 hE) h2 dX8_isSign_16 ?_
    refine lv_iload_n X.1 X.2.1 dX8_isSign_17 rfl (lv_at hl 1 rfl) ?_
    obtain ⟨v4, e5, hf⟩ := b_bnd hf
    refine r_join (g2 := F0 m 26 ls [.int v4]) ?_ (fun hj => ?_)
    · obtain ⟨h6, hf⟩ := b_cz hf
      obtain rfl := Option.some.inj hf
      exact r_zret X hw (cz_and h6) dX8_isSign_26
    · refine lv_icmp_ne (tgt := 25) X.1 X.2.1 dX8_isSign_18 (by decide) (fun c3 => ?_) (fun c3 => ?_)
      · rw [e5, if_neg c3] at hj
        refine lv_iconst (v := 0) X.1 X.2.1 dX8_isSign_25 (by decide) ?_
        exact hj
      · rw [e5, if_pos c3] at hj
        refine lv_iconst (v := 1) X.1 X.2.1 dX8_isSign_21 (by decide) ?_
        refine lv_goto (tgt := 26) X.1 X.2.1 dX8_isSign_22 (by decide) ?_
        exact hj
