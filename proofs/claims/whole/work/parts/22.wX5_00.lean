abbrev rm_X5_clear : Room := { frames := 0, cells := 0, slots := 0, locals := 0 }
set_option maxHeartbeats 4000000 in
set_option maxRecDepth 100000 in
theorem k_X5_clear {l : Launch} {E : en_T} (hR : ShR E) {o : Nat} (ho : isT o) {σ : sg_T}  {σ' : sg_T} (hf : f_X5_clear o σ = some σ') : Ct l yX5_clear cX5_clear 1 none rm_X5_clear E [.ref (eP E o)] σ none σ' := by
  refine Ct.start (by decide) hR.1 (Nat.le_of_ble_eq_true rfl) ?_
  intro p e s m below meth c X hw ls hl
  have X : Cx E p s m _ meth c cX5_clear 1 RX5 none := X
  have hl : lv_has ls 1 [(0, .ref (eP E o))] := hl
  unfold f_X5_clear at hf
  refine lv_aload_n X.1 X.2.1 dX5_clear_0 rfl (lv_at hl 0 rfl) ?_
  refine lv_iconst (v := 0) X.1 X.2.1 dX5_clear_1 (by decide) ?_
  refine r_put X hw (spT0 hR ho) (C := RX5) (T := TX5) (N := 3) rfl iwX5 tyX5 tyX5_ok nmX5 2 (by decide) (Nat.le_of_ble_eq_true rfl) qw138 rfl (v := .int 0) rfl rfl (x := 0) rfl dX5_clear_2 (fun H locs hw => ?_)
  obtain ⟨σ1, e2, hf⟩ := b_bnd hf
  rw [← e2] at hw
  obtain rfl := Option.some.inj hf
  exact r_vret X hw dX5_clear_5
abbrev rm_X5_addNumber : Room := { frames := 0, cells := 0, slots := 0, locals := 0 }
set_option maxHeartbeats 4000000 in
set_option maxRecDepth 100000 in
theorem k_X5_addNumber {l : Launch} {E : en_T} (hR : ShR E) {o : Nat} (ho : isT o) {x1 : Int32} {σ : sg_T}  {σ' : sg_T} (hf : f_X5_addNumber o x1 σ = some σ') : Ct l yX5_addNumber cX5_addNumber 2 none rm_X5_addNumber E [.ref (eP E o), .int x1] σ none σ' := by
  refine Ct.start (by decide) hR.1 (Nat.le_of_ble_eq_true rfl) ?_
  intro p e s m below meth c X hw ls hl
  have X : Cx E p s m _ meth c cX5_addNumber 2 RX5 none := X
  have hl : lv_has ls 2 [(0, .ref (eP E o)), (1, .int x1)] := hl
  unfold f_X5_addNumber at hf
  refine lv_aload_n X.1 X.2.1 dX5_addNumber_0 rfl (lv_at hl 0 rfl) ?_
  refine r_get X hw (spT0 hR ho) (C := RX5) (T := TX5) (N := 3) rfl iwX5 2 (by decide) (Nat.le_of_ble_eq_true rfl) qw138 (v := .int (σ o 2)) rfl dX5_addNumber_1 ?_
  refine lv_sipush (v := 160) X.1 X.2.1 dX5_addNumber_4 (by decide) ?_
  refine lv_icmp_ge (tgt := 30) X.1 X.2.1 dX5_addNumber_7 (by decide) (fun c1 => ?_) (fun c1 => ?_)
  · have hf := if_t hf c1
    obtain rfl := Option.some.inj hf
    exact r_vret X hw dX5_addNumber_30
  · have hf := if_e hf c1
    refine lv_aload_n X.1 X.2.1 dX5_addNumber_10 rfl (lv_at hl 0 rfl) ?_
    refine r_get X hw (spT0 hR ho) (C := RX5) (T := TX5) (N := 3) rfl iwX5 0 (by decide) (Nat.le_of_ble_eq_true rfl) qw136 (v := .ref (eP E (o + 1))) rfl dX5_addNumber_11 ?_
    refine lv_aload_n X.1 X.2.1 dX5_addNumber_14 rfl (lv_at hl 0 rfl) ?_
    refine r_get X hw (spT0 hR ho) (C := RX5) (T := TX5) (N := 3) rfl iwX5 2 (by decide) (Nat.le_of_ble_eq_true rfl) qw138 (v := .int (σ o 2)) rfl dX5_addNumber_15 ?_
    refine lv_iload_n X.1 X.2.1 dX5_addNumber_18 rfl (lv_at hl 1 rfl) ?_
    obtain ⟨h2, hf⟩ := b_ck hf
    refine r_iast X hw (spT1 hR ho) h2 dX5_addNumber_19 (fun H locs hw => ?_)
    obtain ⟨σ3, e4, hf⟩ := b_bnd hf
    rw [← e4] at hw
    refine lv_aload_n X.1 X.2.1 dX5_addNumber_20 rfl (lv_at hl 0 rfl) ?_
    refine lv_dup X.1 X.2.1 dX5_addNumber_21 rfl ?_
    refine r_get X hw (spT0 hR ho) (C := RX5) (T := TX5) (N := 3) rfl iwX5 2 (by decide) (Nat.le_of_ble_eq_true rfl) qw138 (v := .int (σ3 o 2)) rfl dX5_addNumber_22 ?_
    refine lv_iconst (v := 1) X.1 X.2.1 dX5_addNumber_25 (by decide) ?_
    refine lv_iadd X.1 X.2.1 dX5_addNumber_26 ?_
    refine r_put X hw (spT0 hR ho) (C := RX5) (T := TX5) (N := 3) rfl iwX5 tyX5 tyX5_ok nmX5 2 (by decide) (Nat.le_of_ble_eq_true rfl) qw138 rfl (v := .int ((σ3 o 2) + 1)) rfl rfl (x := ((σ3 o 2) + 1)) rfl dX5_addNumber_27 (fun H locs hw => ?_)
    obtain ⟨σ5, e6, hf⟩ := b_bnd hf
    rw [← e6] at hw
    obtain rfl := Option.some.inj hf
    exact r_vret X hw dX5_addNumber_30
abbrev rm_X5_addStep : Room := { frames := 1, cells := 0, slots := 0, locals := 100 }
set_option maxHeartbeats 4000000 in
set_option maxRecDepth 100000 in
theorem k_X5_addStep {l : Launch} {E : en_T} (hR : ShR E) {o : Nat} (ho : isT o) {x1 : Int32} {σ : sg_T}  {σ' : sg_T} (hf : f_X5_addStep o x1 σ = some σ') : Ct l yX5_addStep cX5_addStep 2 none rm_X5_addStep E [.ref (eP E o), .int x1] σ none σ' := by
  refine Ct.start (by decide) hR.1 (Nat.le_of_ble_eq_true rfl) ?_
  intro p e s m below meth c X hw ls hl
  have X : Cx E p s m _ meth c cX5_addStep 2 RX5 none := X
  have hl : lv_has ls 2 [(0, .ref (eP E o)), (1, .int x1)] := hl
  unfold f_X5_addStep at hf
  refine lv_aload_n X.1 X.2.1 dX5_addStep_0 rfl (lv_at hl 0 rfl) ?_
  refine lv_iload_n X.1 X.2.1 dX5_addStep_1 rfl (lv_at hl 1 rfl) ?_
  refine lv_iconst (v := (-1)) X.1 X.2.1 dX5_addStep_2 (by decide) ?_
  refine lv_ixor X.1 X.2.1 dX5_addStep_3 ?_
  obtain ⟨σ2, h1, hf⟩ := b_bd1 hf
  refine r_callV X hw (k_X5_addNumber hR ho h1) (spT0 hR ho) (C := RX5) (T := TX5) (N := 3) rfl qw290 qw291 qw292 qw70 qw293 okX5_addNumber ⟨rfl, rfl⟩ ⟨(Nat.le_of_ble_eq_true rfl), (Nat.le_of_ble_eq_true rfl)⟩ ⟨Nat.zero_le _, Nat.zero_le _⟩ rfl hl.1 (rest := []) rfl (Nat.le_of_ble_eq_true rfl) dX5_addStep_4 (st1 := []) rfl (fun H locs hw => ?_)
  obtain rfl := Option.some.inj hf
  exact r_vret X hw dX5_addStep_7
abbrev rm_X5_endPart : Room := { frames := 0, cells := 0, slots := 0, locals := 0 }
set_option maxHeartbeats 4000000 in
set_option maxRecDepth 100000 in
theorem k_X5_endPart {l : Launch} {E : en_T} (hR : ShR E) {o : Nat} (ho : isT o) {x1 : Int32} {σ : sg_T}  {σ' : sg_T} (hf : f_X5_endPart o x1 σ = some σ') : Ct l yX5_endPart cX5_endPart 2 none rm_X5_endPart E [.ref (eP E o), .int x1] σ none σ' := by
  refine Ct.start (by decide) hR.1 (Nat.le_of_ble_eq_true rfl) ?_
  intro p e s m below meth c X hw ls hl
  have X : Cx E p s m _ meth c cX5_endPart 2 RX5 none := X
  have hl : lv_has ls 2 [(0, .ref (eP E o)), (1, .int x1)] := hl
  unfold f_X5_endPart at hf
  refine lv_iload_n X.1 X.2.1 dX5_endPart_0 rfl (lv_at hl 1 rfl) ?_
  refine lv_if_lt (tgt := 19) X.1 X.2.1 dX5_endPart_1 (by decide) (fun c1 => ?_) (fun c1 => ?_)
  · have hf := if_t hf c1
    obtain rfl := Option.some.inj hf
    exact r_vret X hw dX5_endPart_19
  · have hf := if_e hf c1
    refine lv_iload_n X.1 X.2.1 dX5_endPart_4 rfl (lv_at hl 1 rfl) ?_
    refine lv_iconst (v := 3) X.1 X.2.1 dX5_endPart_5 (by decide) ?_
    refine lv_icmp_ge (tgt := 19) X.1 X.2.1 dX5_endPart_6 (by decide) (fun c2 => ?_) (fun c2 => ?_)
    · have hf := if_t hf c2
      obtain rfl := Option.some.inj hf
      exact r_vret X hw dX5_endPart_19
    · have hf := if_e hf c2
      refine lv_aload_n X.1 X.2.1 dX5_endPart_9 rfl (lv_at hl 0 rfl) ?_
      refine r_get X hw (spT0 hR ho) (C := RX5) (T := TX5) (N := 3) rfl iwX5 1 (by decide) (Nat.le_of_ble_eq_true rfl) qw137 (v := .ref (eP E (o + 2))) rfl dX5_endPart_10 ?_
      refine lv_iload_n X.1 X.2.1 dX5_endPart_13 rfl (lv_at hl 1 rfl) ?_
      refine lv_aload_n X.1 X.2.1 dX5_endPart_14 rfl (lv_at hl 0 rfl) ?_
      refine r_get X hw (spT0 hR ho) (C := RX5) (T := TX5) (N := 3) rfl iwX5 2 (by decide) (Nat.le_of_ble_eq_true rfl) qw138 (v := .int (σ o 2)) rfl dX5_endPart_15 ?_
      obtain ⟨h3, hf⟩ := b_ck hf
      refine r_iast X hw (spT2 hR ho) h3 dX5_endPart_18 (fun H locs hw => ?_)
      obtain ⟨σ4, e5, hf⟩ := b_bnd hf
      rw [← e5] at hw
      obtain rfl := Option.some.inj hf
      exact r_vret X hw dX5_endPart_19
abbrev rm_X5_end : Room := { frames := 0, cells := 0, slots := 0, locals := 0 }
set_option maxHeartbeats 4000000 in
set_option maxRecDepth 100000 in
theorem k_X5_end {l : Launch} {E : en_T} (hR : ShR E) {o : Nat} (ho : isT o) {x1 : Int32} {σ : sg_T} {r : Int32} (hf : f_X5_end o x1 σ = some r) : Ct l yX5_end cX5_end 2 (some .int) rm_X5_end E [.ref (eP E o), .int x1] σ (some (.int r)) σ := by
  refine Ct.start (by decide) hR.1 (Nat.le_of_ble_eq_true rfl) ?_
  intro p e s m below meth c X hw ls hl
  have X : Cx E p s m _ meth c cX5_end 2 RX5 (some .int) := X
  have hl : lv_has ls 2 [(0, .ref (eP E o)), (1, .int x1)] := hl
  unfold f_X5_end at hf
  refine lv_iload_n X.1 X.2.1 dX5_end_0 rfl (lv_at hl 1 rfl) ?_
  refine lv_if_lt (tgt := 18) X.1 X.2.1 dX5_end_1 (by decide) (fun c1 => ?_) (fun c1 => ?_)
  · have hf := if_t hf c1
    refine lv_iconst (v := 0) X.1 X.2.1 dX5_end_18 (by decide) ?_
    obtain rfl := Option.some.inj hf
    exact r_iret X hw dX5_end_19
  · have hf := if_e hf c1
    refine lv_iload_n X.1 X.2.1 dX5_end_4 rfl (lv_at hl 1 rfl) ?_
    refine lv_iconst (v := 3) X.1 X.2.1 dX5_end_5 (by decide) ?_
    refine lv_icmp_ge (tgt := 18) X.1 X.2.1 dX5_end_6 (by decide) (fun c2 => ?_) (fun c2 => ?_)
    · have hf := if_t hf c2
      refine lv_iconst (v := 0) X.1 X.2.1 dX5_end_18 (by decide) ?_
      obtain rfl := Option.some.inj hf
      exact r_iret X hw dX5_end_19
    · have hf := if_e hf c2
      refine lv_aload_n X.1 X.2.1 dX5_end_9 rfl (lv_at hl 0 rfl) ?_
      refine r_get X hw (spT0 hR ho) (C := RX5) (T := TX5) (N := 3) rfl iwX5 1 (by decide) (Nat.le_of_ble_eq_true rfl) qw137 (v := .ref (eP E (o + 2))) rfl dX5_end_10 ?_
      refine lv_iload_n X.1 X.2.1 dX5_end_13 rfl (lv_at hl 1 rfl) ?_
      obtain ⟨h3, hf⟩ := b_ck hf
      refine r_iald X hw (spT2 hR ho) h3 dX5_end_14 ?_
      refine lv_goto (tgt := 19) X.1 X.2.1 dX5_end_15 (by decide) ?_
      obtain rfl := Option.some.inj hf
      exact r_iret X hw dX5_end_19
abbrev rm_X5_begin : Room := { frames := 0, cells := 0, slots := 0, locals := 0 }
set_option maxHeartbeats 4000000 in
set_option maxRecDepth 100000 in
theorem k_X5_begin {l : Launch} {E : en_T} (hR : ShR E) {o : Nat} (ho : isT o) {x1 : Int32} {σ : sg_T} {r : Int32} (hf : f_X5_begin o x1 σ = some r) : Ct l yX5_begin cX5_begin 2 (some .int) rm_X5_begin E [.ref (eP E o), .int x1] σ (some (.int r)) σ := by
  refine Ct.start (by decide) hR.1 (Nat.le_of_ble_eq_true rfl) ?_
  intro p e s m below meth c X hw ls hl
  have X : Cx E p s m _ meth c cX5_begin 2 RX5 (some .int) := X
  have hl : lv_has ls 2 [(0, .ref (eP E o)), (1, .int x1)] := hl
  unfold f_X5_begin at hf
  refine lv_iload_n X.1 X.2.1 dX5_begin_0 rfl (lv_at hl 1 rfl) ?_
  refine lv_if_le (tgt := 20) X.1 X.2.1 dX5_begin_1 (by decide) (fun c1 => ?_) (fun c1 => ?_)
  · have hf := if_t hf c1
    refine lv_iconst (v := 0) X.1 X.2.1 dX5_begin_20 (by decide) ?_
    obtain rfl := Option.some.inj hf
    exact r_iret X hw dX5_begin_21
  · have hf := if_e hf c1
    refine lv_iload_n X.1 X.2.1 dX5_begin_4 rfl (lv_at hl 1 rfl) ?_
    refine lv_iconst (v := 3) X.1 X.2.1 dX5_begin_5 (by decide) ?_
    refine lv_icmp_ge (tgt := 20) X.1 X.2.1 dX5_begin_6 (by decide) (fun c2 => ?_) (fun c2 => ?_)
    · have hf := if_t hf c2
      refine lv_iconst (v := 0) X.1 X.2.1 dX5_begin_20 (by decide) ?_
      obtain rfl := Option.some.inj hf
      exact r_iret X hw dX5_begin_21
    · have hf := if_e hf c2
      refine lv_aload_n X.1 X.2.1 dX5_begin_9 rfl (lv_at hl 0 rfl) ?_
      refine r_get X hw (spT0 hR ho) (C := RX5) (T := TX5) (N := 3) rfl iwX5 1 (by decide) (Nat.le_of_ble_eq_true rfl) qw137 (v := .ref (eP E (o + 2))) rfl dX5_begin_10 ?_
      refine lv_iload_n X.1 X.2.1 dX5_begin_13 rfl (lv_at hl 1 rfl) ?_
      refine lv_iconst (v := 1) X.1 X.2.1 dX5_begin_14 (by decide) ?_
      refine lv_isub X.1 X.2.1 dX5_begin_15 ?_
      obtain ⟨h3, hf⟩ := b_ck hf
      refine r_iald X hw (spT2 hR ho) h3 dX5_begin_16 ?_
      refine lv_goto (tgt := 21) X.1 X.2.1 dX5_begin_17 (by decide) ?_
      obtain rfl := Option.some.inj hf
      exact r_iret X hw dX5_begin_21
abbrev rm_X5_join : Room := { frames := 0, cells := 0, slots := 0, locals := 0 }
set_option maxHeartbeats 4000000 in
set_option maxRecDepth 100000 in
theorem k_X5_join {l : Launch} {E : en_T} (hR : ShR E) {x1 : Int32} {x2 : Int32} {x3 : Int32} {σ : sg_T} {r : Int32} (hf : f_X5_join x1 x2 x3 σ = some r) : Ct l yX5_join cX5_join 3 (some .int) rm_X5_join E [.int x1, .int x2, .int x3] σ (some (.int r)) σ := by
  refine Ct.start (by decide) hR.1 (Nat.le_of_ble_eq_true rfl) ?_
  intro p e s m below meth c X hw ls hl
  have X : Cx E p s m _ meth c cX5_join 3 RX5 (some .int) := X
  have hl : lv_has ls 3 [(0, .int x1), (1, .int x2), (2, .int x3)] := hl
  unfold f_X5_join at hf
  refine lv_iload_n X.1 X.2.1 dX5_join_0 rfl (lv_at hl 0 rfl) ?_
  by_cases c1 : x1 = 9
  · have hf := if_t hf c1
    refine lv_lookup (x := x1) (tgt := 60) (off := 59) X.1 X.2.1 dX5_join_1 (by decide) (by rw [c1]; decide) (by decide) ?_
    refine lv_iload_n X.1 X.2.1 dX5_join_60 rfl (lv_at hl 1 rfl) ?_
    refine lv_if_ne (tgt := 68) X.1 X.2.1 dX5_join_61 (by decide) (fun c2 => ?_) (fun c2 => ?_)
    · have hf := if_e hf c2
      refine lv_iconst (v := 1) X.1 X.2.1 dX5_join_68 (by decide) ?_
      refine lv_goto (tgt := 73) X.1 X.2.1 dX5_join_69 (by decide) ?_
      obtain rfl := Option.some.inj hf
      exact r_iret X hw dX5_join_73
    · have hf := if_t hf c2
      refine lv_iload_n X.1 X.2.1 dX5_join_64 rfl (lv_at hl 2 rfl) ?_
      obtain ⟨v4, e5, hf⟩ := b_bnd hf
      refine r_join (g2 := F0 m 73 ls [.int v4]) ?_ (fun hj => ?_)
      · obtain rfl := Option.some.inj hf
        exact r_iret X hw dX5_join_73
      · refine lv_if_eq (tgt := 72) X.1 X.2.1 dX5_join_65 (by decide) (fun c3 => ?_) (fun c3 => ?_)
        · rw [e5, if_pos c3] at hj
          refine lv_iconst (v := 0) X.1 X.2.1 dX5_join_72 (by decide) ?_
          exact hj
        · rw [e5, if_neg c3] at hj
          refine lv_iconst (v := 1) X.1 X.2.1 dX5_join_68 (by decide) ?_
          refine lv_goto (tgt := 73) X.1 X.2.1 dX5_join_69 (by decide) ?_
          exact hj
  have hf := if_e hf c1
  by_cases c6 : x1 = 10
  · have hf := if_t hf c6
    refine lv_lookup (x := x1) (tgt := 74) (off := 73) X.1 X.2.1 dX5_join_1 (by decide) (by rw [c6]; decide) (by decide) ?_
    refine lv_iload_n X.1 X.2.1 dX5_join_74 rfl (lv_at hl 1 rfl) ?_
    refine lv_if_eq (tgt := 86) X.1 X.2.1 dX5_join_75 (by decide) (fun c7 => ?_) (fun c7 => ?_)
    · have hf := if_t hf c7
      refine lv_iconst (v := 0) X.1 X.2.1 dX5_join_86 (by decide) ?_
      obtain rfl := Option.some.inj hf
      exact r_iret X hw dX5_join_87
    · have hf := if_e hf c7
      refine lv_iload_n X.1 X.2.1 dX5_join_78 rfl (lv_at hl 2 rfl) ?_
      obtain ⟨v9, e10, hf⟩ := b_bnd hf
      refine r_join (g2 := F0 m 87 ls [.int v9]) ?_ (fun hj => ?_)
      · obtain rfl := Option.some.inj hf
        exact r_iret X hw dX5_join_87
      · refine lv_if_eq (tgt := 86) X.1 X.2.1 dX5_join_79 (by decide) (fun c8 => ?_) (fun c8 => ?_)
        · rw [e10, if_pos c8] at hj
          refine lv_iconst (v := 0) X.1 X.2.1 dX5_join_86 (by decide) ?_
          exact hj
        · rw [e10, if_neg c8] at hj
          refine lv_iconst (v := 1) X.1 X.2.1 dX5_join_82 (by decide) ?_
          refine lv_goto (tgt := 87) X.1 X.2.1 dX5_join_83 (by decide) ?_
          exact hj
  have hf := if_e hf c6
  by_cases c11 : x1 = 43
  · have hf := if_t hf c11
    refine lv_lookup (x := x1) (tgt := 110) (off := 109) X.1 X.2.1 dX5_join_1 (by decide) (by rw [c11]; decide) (by decide) ?_
    refine lv_iload_n X.1 X.2.1 dX5_join_110 rfl (lv_at hl 1 rfl) ?_
    refine lv_iload_n X.1 X.2.1 dX5_join_111 rfl (lv_at hl 2 rfl) ?_
    refine lv_iadd X.1 X.2.1 dX5_join_112 ?_
    obtain rfl := Option.some.inj hf
    exact r_iret X hw dX5_join_113
  have hf := if_e hf c11
  by_cases c12 : x1 = 45
  · have hf := if_t hf c12
    refine lv_lookup (x := x1) (tgt := 114) (off := 113) X.1 X.2.1 dX5_join_1 (by decide) (by rw [c12]; decide) (by decide) ?_
    refine lv_iload_n X.1 X.2.1 dX5_join_114 rfl (lv_at hl 1 rfl) ?_
    refine lv_iload_n X.1 X.2.1 dX5_join_115 rfl (lv_at hl 2 rfl) ?_
    refine lv_isub X.1 X.2.1 dX5_join_116 ?_
    obtain rfl := Option.some.inj hf
    exact r_iret X hw dX5_join_117
  have hf := if_e hf c12
  by_cases c13 : x1 = 60
  · have hf := if_t hf c13
    refine lv_lookup (x := x1) (tgt := 88) (off := 87) X.1 X.2.1 dX5_join_1 (by decide) (by rw [c13]; decide) (by decide) ?_
    refine lv_iload_n X.1 X.2.1 dX5_join_88 rfl (lv_at hl 1 rfl) ?_
    refine lv_iload_n X.1 X.2.1 dX5_join_89 rfl (lv_at hl 2 rfl) ?_
    obtain ⟨v15, e16, hf⟩ := b_bnd hf
    refine r_join (g2 := F0 m 98 ls [.int v15]) ?_ (fun hj => ?_)
    · obtain rfl := Option.some.inj hf
      exact r_iret X hw dX5_join_98
    · refine lv_icmp_ge (tgt := 97) X.1 X.2.1 dX5_join_90 (by decide) (fun c14 => ?_) (fun c14 => ?_)
      · rw [e16, if_pos c14] at hj
        refine lv_iconst (v := 0) X.1 X.2.1 dX5_join_97 (by decide) ?_
        exact hj
      · rw [e16, if_neg c14] at hj
        refine lv_iconst (v := 1) X.1 X.2.1 dX5_join_93 (by decide) ?_
        refine lv_goto (tgt := 98) X.1 X.2.1 dX5_join_94 (by decide) ?_
        exact hj
  have hf := if_e hf c13
  by_cases c17 : x1 = 61
  · have hf := if_t hf c17
    refine lv_lookup (x := x1) (tgt := 99) (off := 98) X.1 X.2.1 dX5_join_1 (by decide) (by rw [c17]; decide) (by decide) ?_
    refine lv_iload_n X.1 X.2.1 dX5_join_99 rfl (lv_at hl 1 rfl) ?_
    refine lv_iload_n X.1 X.2.1 dX5_join_100 rfl (lv_at hl 2 rfl) ?_
    obtain ⟨v19, e20, hf⟩ := b_bnd hf
    refine r_join (g2 := F0 m 109 ls [.int v19]) ?_ (fun hj => ?_)
    · obtain rfl := Option.some.inj hf
      exact r_iret X hw dX5_join_109
    · refine lv_icmp_ne (tgt := 108) X.1 X.2.1 dX5_join_101 (by decide) (fun c18 => ?_) (fun c18 => ?_)
      · rw [e20, if_neg c18] at hj
        refine lv_iconst (v := 0) X.1 X.2.1 dX5_join_108 (by decide) ?_
        exact hj
      · rw [e20, if_pos c18] at hj
        refine lv_iconst (v := 1) X.1 X.2.1 dX5_join_104 (by decide) ?_
        refine lv_goto (tgt := 109) X.1 X.2.1 dX5_join_105 (by decide) ?_
        exact hj
  have hf := if_e hf c17
  refine lv_lookup (x := x1) (tgt := 118) (off := 117) X.1 X.2.1 dX5_join_1 (by decide) ((lv_osw c1 (by decide)).trans ((lv_osw c6 (by decide)).trans ((lv_osw c11 (by decide)).trans ((lv_osw c12 (by decide)).trans ((lv_osw c13 (by decide)).trans ((lv_osw c17 (by decide)).trans (rfl))))))) (by decide) ?_
  refine lv_iload_n X.1 X.2.1 dX5_join_118 rfl (lv_at hl 1 rfl) ?_
  refine lv_iload_n X.1 X.2.1 dX5_join_119 rfl (lv_at hl 2 rfl) ?_
  refine lv_imul X.1 X.2.1 dX5_join_120 ?_
  obtain rfl := Option.some.inj hf
  exact r_iret X hw dX5_join_121
abbrev rm_X5_value : Room := { frames := 1, cells := 0, slots := 0, locals := 100 }
set_option maxHeartbeats 4000000 in
set_option maxRecDepth 100000 in
theorem w_X5_value_17 {p : Program} {l : Launch} {e : Env} {s : State} {m : MethodId} {args : Array Value} {below : List Frame} {meth : Method} {c : Code} {Q : State → Prop} {E : en_T} (X : Cx E p s m args meth c cX5_value 8 RX5 (some .int)) (hR : ShR E) {o50 : Nat} (ho50 : isT o50) {u1 : Int32} {u5 : Int32}  {res : Int32 × Int32 × sg_T} :
    ∀ (n : Nat) (w4 : Int32) (w6 : Int32) (σ : sg_T), itr (fun q => b_X5_value_17 o50 u1 u5 q.1 q.2.1 q.2.2) n (w4, w6, σ) = some res → ∀ (H : Heap) (locs : List Loc) (ls : Array Slot), Hw E σ s H locs → lv_has ls 8 [(0, .ref (eP E o50)), (1, .int u1), (2, .ref (eP E 8)), (3, .ref (eP E 9)), (4, .int w4), (5, .int u5), (6, .int w6)] →
    (∀ (y4 : Int32) (y6 : Int32) (τ : sg_T), res = (y4, y6, τ) → ∀ (H : Heap) (locs : List Loc) (ls : Array Slot), Hw E τ s H locs → lv_has ls 8 [(0, .ref (eP E o50)), (1, .int u1), (2, .ref (eP E 8)), (3, .ref (eP E 9)), (4, .int y4), (5, .int u5), (6, .int y6)] → W p l e rm_X5_value s m args below meth c H locs 0 0 Q (F0 m 176 ls [])) →
    W p l e rm_X5_value s m args below meth c H locs 0 0 Q (F0 m 17 ls []) := by
  intro n
  induction n with
  | zero =>
    intro w4 w6 σ hf0
    exact (itr_0 hf0).elim
  | succ n ih =>
    intro w4 w6 σ hf0 H locs ls hw hl K1
    obtain ⟨r0, hf, hr1, hr2⟩ := itr_s hf0
    have hf : b_X5_value_17 o50 u1 u5 w4 w6 σ = some r0 := hf
    unfold b_X5_value_17 at hf
    refine lv_iload X.1 X.2.1 dX5_value_17 (lv_at hl 6 rfl) ?_
    refine lv_iload X.1 X.2.1 dX5_value_19 (lv_at hl 5 rfl) ?_
    refine lv_icmp_ge (tgt := 176) X.1 X.2.1 dX5_value_21 (by decide) (fun c5 => ?_) (fun c5 => ?_)
    · have hf := if_t hf c5
      obtain rfl := Option.some.inj hf
      obtain rfl := hr2 _ rfl
      exact K1 _ _ _ rfl _ _ _ hw (lv_sub hl [0, 1, 2, 3, 4, 5, 6] rfl)
    · have hf := if_e hf c5
      refine lv_aload_n X.1 X.2.1 dX5_value_24 rfl (lv_at hl 0 rfl) ?_
      refine r_get X hw (spT0 hR ho50) (C := RX5) (T := TX5) (N := 3) rfl iwX5 0 (by decide) (Nat.le_of_ble_eq_true rfl) qw136 (v := .ref (eP E (o50 + 1))) rfl dX5_value_25 ?_
      refine lv_iload X.1 X.2.1 dX5_value_28 (lv_at hl 6 rfl) ?_
      obtain ⟨h6, hf⟩ := b_ck hf
      refine r_iald X hw (spT1 hR ho50) h6 dX5_value_30 ?_
      refine r_bnd hf (fun v7 hf => ?_)
      refine lv_istore (lv' := [(7, .int v7), (0, .ref (eP E o50)), (1, .int u1), (2, .ref (eP E 8)), (3, .ref (eP E 9)), (4, .int w4), (5, .int u5), (6, .int w6)]) X.1 X.2.1 dX5_value_31 hl (by decide) rfl (fun ls hl => ?_)
      refine lv_iload X.1 X.2.1 dX5_value_33 (lv_at hl 0 rfl) ?_
      refine lv_bipush (v := (-6)) X.1 X.2.1 dX5_value_35 (by decide) ?_
      refine lv_icmp_lt (tgt := 73) X.1 X.2.1 dX5_value_37 (by decide) (fun c8 => ?_) (fun c8 => ?_)
      · have hf := if_t hf c8
        refine lv_iload X.1 X.2.1 dX5_value_73 (lv_at hl 0 rfl) ?_
        refine lv_iconst (v := (-1)) X.1 X.2.1 dX5_value_75 (by decide) ?_
        refine lv_ixor X.1 X.2.1 dX5_value_76 ?_
        refine lv_bipush (v := 11) X.1 X.2.1 dX5_value_77 (by decide) ?_
        refine lv_icmp_eq (tgt := 91) X.1 X.2.1 dX5_value_79 (by decide) (fun c9 => ?_) (fun c9 => ?_)
        · have hf := if_t hf c9
          refine lv_iload X.1 X.2.1 dX5_value_91 (lv_at hl 5 rfl) ?_
          refine lv_if_le (tgt := 170) X.1 X.2.1 dX5_value_93 (by decide) (fun c10 => ?_) (fun c10 => ?_)
          · have hf := if_t hf c10
            obtain ⟨v11, e12, hf⟩ := b_bnd hf
            refine lv_iinc (v := v11) (k := 7) (lv' := [(6, .int v11), (7, .int v7), (0, .ref (eP E o50)), (1, .int u1), (2, .ref (eP E 8)), (3, .ref (eP E 9)), (4, .int w4), (5, .int u5)]) X.1 X.2.1 dX5_value_170 hl rfl (by rw [e12]; exact congrArg _ (by decide)) (by decide) rfl (fun ls hl => ?_)
            refine lv_goto (tgt := 17) X.1 X.2.1 dX5_value_173 (by decide) ?_
            obtain rfl := Option.some.inj hf
            exact ih _ _ _ (hr1 _ rfl) _ _ _ hw (lv_sub hl [2, 3, 4, 5, 6, 7, 0] rfl) K1
          · have hf := if_e hf c10
            refine lv_aload_n X.1 X.2.1 dX5_value_96 rfl (lv_at hl 4 rfl) ?_
            refine lv_iload X.1 X.2.1 dX5_value_97 (lv_at hl 5 rfl) ?_
            refine lv_iconst (v := 1) X.1 X.2.1 dX5_value_99 (by decide) ?_
            refine lv_isub X.1 X.2.1 dX5_value_100 ?_
            refine lv_iload X.1 X.2.1 dX5_value_101 (lv_at hl 0 rfl) ?_
            refine lv_iconst (v := (-1)) X.1 X.2.1 dX5_value_103 (by decide) ?_
            refine lv_ixor X.1 X.2.1 dX5_value_104 ?_
            refine lv_bipush (v := 20) X.1 X.2.1 dX5_value_105 (by decide) ?_
            refine lv_icmp_ne (tgt := 120) X.1 X.2.1 dX5_value_107 (by decide) (fun c13 => ?_) (fun c13 => ?_)
            · have hf := if_e hf c13
              refine lv_aload_n X.1 X.2.1 dX5_value_120 rfl (lv_at hl 4 rfl) ?_
              refine lv_iload X.1 X.2.1 dX5_value_121 (lv_at hl 5 rfl) ?_
              refine lv_iconst (v := 1) X.1 X.2.1 dX5_value_123 (by decide) ?_
              refine lv_isub X.1 X.2.1 dX5_value_124 ?_
              obtain ⟨h14, hf⟩ := b_ck hf
              refine r_iald X hw (sp9 hR) h14 dX5_value_125 ?_
              obtain ⟨v16, e17, hf⟩ := b_bnd hf
              refine r_join (g2 := F0 m 134 ls [.int v16, .int (w4 - 1), .ref (eP E 9)]) ?_ (fun hj => ?_)
              · obtain ⟨h18, hf⟩ := b_ck hf
                refine r_iast X hw (sp9 hR) h18 dX5_value_134 (fun H locs hw => ?_)
                obtain ⟨σ19, e20, hf⟩ := b_bnd hf
                rw [← e20] at hw
                refine lv_goto (tgt := 170) X.1 X.2.1 dX5_value_135 (by decide) ?_
                obtain ⟨v21, e22, hf⟩ := b_bnd hf
                refine lv_iinc (v := v21) (k := 7) (lv' := [(6, .int v21), (7, .int v7), (0, .ref (eP E o50)), (1, .int u1), (2, .ref (eP E 8)), (3, .ref (eP E 9)), (4, .int w4), (5, .int u5)]) X.1 X.2.1 dX5_value_170 hl rfl (by rw [e22]; exact congrArg _ (by decide)) (by decide) rfl (fun ls hl => ?_)
                refine lv_goto (tgt := 17) X.1 X.2.1 dX5_value_173 (by decide) ?_
                obtain rfl := Option.some.inj hf
                exact ih _ _ _ (hr1 _ rfl) _ _ _ hw (lv_sub hl [2, 3, 4, 5, 6, 7, 0] rfl) K1
              · refine lv_if_ne (tgt := 133) X.1 X.2.1 dX5_value_126 (by decide) (fun c15 => ?_) (fun c15 => ?_)
                · rw [e17, if_neg c15] at hj
                  refine lv_iconst (v := 0) X.1 X.2.1 dX5_value_133 (by decide) ?_
                  exact hj
                · rw [e17, if_pos c15] at hj
                  refine lv_iconst (v := 1) X.1 X.2.1 dX5_value_129 (by decide) ?_
                  refine lv_goto (tgt := 134) X.1 X.2.1 dX5_value_130 (by decide) ?_
                  exact hj
            · have hf := if_t hf c13
              refine lv_aload_n X.1 X.2.1 dX5_value_110 rfl (lv_at hl 4 rfl) ?_
              refine lv_iload X.1 X.2.1 dX5_value_111 (lv_at hl 5 rfl) ?_
              refine lv_iconst (v := 1) X.1 X.2.1 dX5_value_113 (by decide) ?_
              refine lv_isub X.1 X.2.1 dX5_value_114 ?_
              obtain ⟨h23, hf⟩ := b_ck hf
              refine r_iald X hw (sp9 hR) h23 dX5_value_115 ?_
              refine lv_ineg X.1 X.2.1 dX5_value_116 ?_
              refine lv_goto (tgt := 134) X.1 X.2.1 dX5_value_117 (by decide) ?_
              obtain ⟨h24, hf⟩ := b_ck hf
              refine r_iast X hw (sp9 hR) h24 dX5_value_134 (fun H locs hw => ?_)
              obtain ⟨σ25, e26, hf⟩ := b_bnd hf
              rw [← e26] at hw
              refine lv_goto (tgt := 170) X.1 X.2.1 dX5_value_135 (by decide) ?_
              obtain ⟨v27, e28, hf⟩ := b_bnd hf
              refine lv_iinc (v := v27) (k := 7) (lv' := [(6, .int v27), (7, .int v7), (0, .ref (eP E o50)), (1, .int u1), (2, .ref (eP E 8)), (3, .ref (eP E 9)), (4, .int w4), (5, .int u5)]) X.1 X.2.1 dX5_value_170 hl rfl (by rw [e28]; exact congrArg _ (by decide)) (by decide) rfl (fun ls hl => ?_)
              refine lv_goto (tgt := 17) X.1 X.2.1 dX5_value_173 (by decide) ?_
              obtain rfl := Option.some.inj hf
              exact ih _ _ _ (hr1 _ rfl) _ _ _ hw (lv_sub hl [2, 3, 4, 5, 6, 7, 0] rfl) K1
        · have hf := if_e hf c9
          refine lv_iload X.1 X.2.1 dX5_value_82 (lv_at hl 0 rfl) ?_
          refine lv_iconst (v := (-1)) X.1 X.2.1 dX5_value_84 (by decide) ?_
          refine lv_ixor X.1 X.2.1 dX5_value_85 ?_
          refine lv_bipush (v := 20) X.1 X.2.1 dX5_value_86 (by decide) ?_
          refine lv_icmp_ne (tgt := 138) X.1 X.2.1 dX5_value_88 (by decide) (fun c29 => ?_) (fun c29 => ?_)
          · have hf := if_e hf c29
            refine lv_iload X.1 X.2.1 dX5_value_138 (lv_at hl 5 rfl) ?_
            refine lv_iconst (v := 1) X.1 X.2.1 dX5_value_140 (by decide) ?_
            refine lv_icmp_le (tgt := 170) X.1 X.2.1 dX5_value_141 (by decide) (fun c30 => ?_) (fun c30 => ?_)
            · have hf := if_t hf c30
              obtain ⟨v31, e32, hf⟩ := b_bnd hf
              refine lv_iinc (v := v31) (k := 7) (lv' := [(6, .int v31), (7, .int v7), (0, .ref (eP E o50)), (1, .int u1), (2, .ref (eP E 8)), (3, .ref (eP E 9)), (4, .int w4), (5, .int u5)]) X.1 X.2.1 dX5_value_170 hl rfl (by rw [e32]; exact congrArg _ (by decide)) (by decide) rfl (fun ls hl => ?_)
              refine lv_goto (tgt := 17) X.1 X.2.1 dX5_value_173 (by decide) ?_
              obtain rfl := Option.some.inj hf
              exact ih _ _ _ (hr1 _ rfl) _ _ _ hw (lv_sub hl [2, 3, 4, 5, 6, 7, 0] rfl) K1
            · have hf := if_e hf c30
              obtain ⟨v33, e34, hf⟩ := b_bnd hf
              refine lv_iinc (v := v33) (k := 5) (lv' := [(4, .int v33), (7, .int v7), (0, .ref (eP E o50)), (1, .int u1), (2, .ref (eP E 8)), (3, .ref (eP E 9)), (5, .int u5), (6, .int w6)]) X.1 X.2.1 dX5_value_144 hl rfl (by rw [e34]; exact congrArg _ (by decide)) (by decide) rfl (fun ls hl => ?_)
              refine lv_aload_n X.1 X.2.1 dX5_value_147 rfl (lv_at hl 5 rfl) ?_
              refine lv_iload X.1 X.2.1 dX5_value_148 (lv_at hl 0 rfl) ?_
              refine lv_iconst (v := 1) X.1 X.2.1 dX5_value_150 (by decide) ?_
              refine lv_isub X.1 X.2.1 dX5_value_151 ?_
              refine lv_iload X.1 X.2.1 dX5_value_152 (lv_at hl 1 rfl) ?_
              refine lv_iconst (v := (-1)) X.1 X.2.1 dX5_value_154 (by decide) ?_
              refine lv_ixor X.1 X.2.1 dX5_value_155 ?_
              refine lv_aload_n X.1 X.2.1 dX5_value_156 rfl (lv_at hl 5 rfl) ?_
              refine lv_iload X.1 X.2.1 dX5_value_157 (lv_at hl 0 rfl) ?_
              refine lv_iconst (v := 1) X.1 X.2.1 dX5_value_159 (by decide) ?_
              refine lv_isub X.1 X.2.1 dX5_value_160 ?_
              obtain ⟨h35, hf⟩ := b_ck hf
              refine r_iald X hw (sp9 hR) h35 dX5_value_161 ?_
              refine lv_aload_n X.1 X.2.1 dX5_value_162 rfl (lv_at hl 5 rfl) ?_
              refine lv_iload X.1 X.2.1 dX5_value_163 (lv_at hl 0 rfl) ?_
              obtain ⟨h36, hf⟩ := b_ck hf
              refine r_iald X hw (sp9 hR) h36 dX5_value_165 ?_
              obtain ⟨r38, h37, hf⟩ := b_bd1 hf
              refine r_callS X hw (k_X5_join hR  h37) qw527 qw528 qw70 qw529 okX5_join ⟨rfl, rfl⟩ ⟨(Nat.le_of_ble_eq_true rfl), (Nat.le_of_ble_eq_true rfl)⟩ ⟨Nat.zero_le _, Nat.zero_le _⟩ rfl hl.1 (rest := [.int (v33 - 1), .ref (eP E 9)]) rfl (Nat.le_of_ble_eq_true rfl) dX5_value_166 (st1 := [.int r38, .int (v33 - 1), .ref (eP E 9)]) rfl (fun H locs hw => ?_)
              obtain ⟨h39, hf⟩ := b_ck hf
              refine r_iast X hw (sp9 hR) h39 dX5_value_169 (fun H locs hw => ?_)
              obtain ⟨σ40, e41, hf⟩ := b_bnd hf
              rw [← e41] at hw
              obtain ⟨v42, e43, hf⟩ := b_bnd hf
              refine lv_iinc (v := v42) (k := 7) (lv' := [(6, .int v42), (4, .int v33), (7, .int v7), (0, .ref (eP E o50)), (1, .int u1), (2, .ref (eP E 8)), (3, .ref (eP E 9)), (5, .int u5)]) X.1 X.2.1 dX5_value_170 hl rfl (by rw [e43]; exact congrArg _ (by decide)) (by decide) rfl (fun ls hl => ?_)
              refine lv_goto (tgt := 17) X.1 X.2.1 dX5_value_173 (by decide) ?_
              obtain rfl := Option.some.inj hf
              exact ih _ _ _ (hr1 _ rfl) _ _ _ hw (lv_sub hl [3, 4, 5, 6, 1, 7, 0] rfl) K1
          · have hf := if_t hf c29
            refine lv_iload X.1 X.2.1 dX5_value_91 (lv_at hl 5 rfl) ?_
            refine lv_if_le (tgt := 170) X.1 X.2.1 dX5_value_93 (by decide) (fun c44 => ?_) (fun c44 => ?_)
            · have hf := if_t hf c44
              obtain ⟨v45, e46, hf⟩ := b_bnd hf
              refine lv_iinc (v := v45) (k := 7) (lv' := [(6, .int v45), (7, .int v7), (0, .ref (eP E o50)), (1, .int u1), (2, .ref (eP E 8)), (3, .ref (eP E 9)), (4, .int w4), (5, .int u5)]) X.1 X.2.1 dX5_value_170 hl rfl (by rw [e46]; exact congrArg _ (by decide)) (by decide) rfl (fun ls hl => ?_)
              refine lv_goto (tgt := 17) X.1 X.2.1 dX5_value_173 (by decide) ?_
              obtain rfl := Option.some.inj hf
              exact ih _ _ _ (hr1 _ rfl) _ _ _ hw (lv_sub hl [2, 3, 4, 5, 6, 7, 0] rfl) K1
            · have hf := if_e hf c44
              refine lv_aload_n X.1 X.2.1 dX5_value_96 rfl (lv_at hl 4 rfl) ?_
              refine lv_iload X.1 X.2.1 dX5_value_97 (lv_at hl 5 rfl) ?_
              refine lv_iconst (v := 1) X.1 X.2.1 dX5_value_99 (by decide) ?_
              refine lv_isub X.1 X.2.1 dX5_value_100 ?_
              refine lv_iload X.1 X.2.1 dX5_value_101 (lv_at hl 0 rfl) ?_
              refine lv_iconst (v := (-1)) X.1 X.2.1 dX5_value_103 (by decide) ?_
              refine lv_ixor X.1 X.2.1 dX5_value_104 ?_
              refine lv_bipush (v := 20) X.1 X.2.1 dX5_value_105 (by decide) ?_
              refine lv_icmp_ne (tgt := 120) X.1 X.2.1 dX5_value_107 (by decide) (fun c47 => ?_) (fun c47 => ?_)
              · have hf := if_e hf c47
                refine lv_aload_n X.1 X.2.1 dX5_value_120 rfl (lv_at hl 4 rfl) ?_
                refine lv_iload X.1 X.2.1 dX5_value_121 (lv_at hl 5 rfl) ?_
                refine lv_iconst (v := 1) X.1 X.2.1 dX5_value_123 (by decide) ?_
                refine lv_isub X.1 X.2.1 dX5_value_124 ?_
                obtain ⟨h48, hf⟩ := b_ck hf
                refine r_iald X hw (sp9 hR) h48 dX5_value_125 ?_
                obtain ⟨v50, e51, hf⟩ := b_bnd hf
                refine r_join (g2 := F0 m 134 ls [.int v50, .int (w4 - 1), .ref (eP E 9)]) ?_ (fun hj => ?_)
                · obtain ⟨h52, hf⟩ := b_ck hf
                  refine r_iast X hw (sp9 hR) h52 dX5_value_134 (fun H locs hw => ?_)
                  obtain ⟨σ53, e54, hf⟩ := b_bnd hf
                  rw [← e54] at hw
                  refine lv_goto (tgt := 170) X.1 X.2.1 dX5_value_135 (by decide) ?_
                  obtain ⟨v55, e56, hf⟩ := b_bnd hf
                  refine lv_iinc (v := v55) (k := 7) (lv' := [(6, .int v55), (7, .int v7), (0, .ref (eP E o50)), (1, .int u1), (2, .ref (eP E 8)), (3, .ref (eP E 9)), (4, .int w4), (5, .int u5)]) X.1 X.2.1 dX5_value_170 hl rfl (by rw [e56]; exact congrArg _ (by decide)) (by decide) rfl (fun ls hl => ?_)
                  refine lv_goto (tgt := 17) X.1 X.2.1 dX5_value_173 (by decide) ?_
                  obtain rfl := Option.some.inj hf
                  exact ih _ _ _ (hr1 _ rfl) _ _ _ hw (lv_sub hl [2, 3, 4, 5, 6, 7, 0] rfl) K1
                · refine lv_if_ne (tgt := 133) X.1 X.2.1 dX5_value_126 (by decide) (fun c49 => ?_) (fun c49 => ?_)
                  · rw [e51, if_neg c49] at hj
                    refine lv_iconst (v := 0) X.1 X.2.1 dX5_value_133 (by decide) ?_
                    exact hj
                  · rw [e51, if_pos c49] at hj
                    refine lv_iconst (v := 1) X.1 X.2.1 dX5_value_129 (by decide) ?_
                    refine lv_goto (tgt := 134) X.1 X.2.1 dX5_value_130 (by decide) ?_
                    exact hj
              · have hf := if_t hf c47
                refine lv_aload_n X.1 X.2.1 dX5_value_110 rfl (lv_at hl 4 rfl) ?_
                refine lv_iload X.1 X.2.1 dX5_value_111 (lv_at hl 5 rfl) ?_
                refine lv_iconst (v := 1) X.1 X.2.1 dX5_value_113 (by decide) ?_
                refine lv_isub X.1 X.2.1 dX5_value_114 ?_
                obtain ⟨h57, hf⟩ := b_ck hf
                refine r_iald X hw (sp9 hR) h57 dX5_value_115 ?_
                refine lv_ineg X.1 X.2.1 dX5_value_116 ?_
                refine lv_goto (tgt := 134) X.1 X.2.1 dX5_value_117 (by decide) ?_
                obtain ⟨h58, hf⟩ := b_ck hf
                refine r_iast X hw (sp9 hR) h58 dX5_value_134 (fun H locs hw => ?_)
                obtain ⟨σ59, e60, hf⟩ := b_bnd hf
                rw [← e60] at hw
                refine lv_goto (tgt := 170) X.1 X.2.1 dX5_value_135 (by decide) ?_
                obtain ⟨v61, e62, hf⟩ := b_bnd hf
                refine lv_iinc (v := v61) (k := 7) (lv' := [(6, .int v61), (7, .int v7), (0, .ref (eP E o50)), (1, .int u1), (2, .ref (eP E 8)), (3, .ref (eP E 9)), (4, .int w4), (5, .int u5)]) X.1 X.2.1 dX5_value_170 hl rfl (by rw [e62]; exact congrArg _ (by decide)) (by decide) rfl (fun ls hl => ?_)
                refine lv_goto (tgt := 17) X.1 X.2.1 dX5_value_173 (by decide) ?_
                obtain rfl := Option.some.inj hf
                exact ih _ _ _ (hr1 _ rfl) _ _ _ hw (lv_sub hl [2, 3, 4, 5, 6, 7, 0] rfl) K1
      · have hf := if_e hf c8
        refine lv_iload X.1 X.2.1 dX5_value_40 (lv_at hl 5 rfl) ?_
        refine lv_aload_n X.1 X.2.1 dX5_value_42 rfl (lv_at hl 4 rfl) ?_
        refine r_alen X hw (sp9 hR) (v := 36) (by decide) dX5_value_43 ?_
        refine lv_icmp_ge (tgt := 170) X.1 X.2.1 dX5_value_44 (by decide) (fun c63 => ?_) (fun c63 => ?_)
        · have hf := if_t hf c63
          obtain ⟨v64, e65, hf⟩ := b_bnd hf
          refine lv_iinc (v := v64) (k := 7) (lv' := [(6, .int v64), (7, .int v7), (0, .ref (eP E o50)), (1, .int u1), (2, .ref (eP E 8)), (3, .ref (eP E 9)), (4, .int w4), (5, .int u5)]) X.1 X.2.1 dX5_value_170 hl rfl (by rw [e65]; exact congrArg _ (by decide)) (by decide) rfl (fun ls hl => ?_)
          refine lv_goto (tgt := 17) X.1 X.2.1 dX5_value_173 (by decide) ?_
          obtain rfl := Option.some.inj hf
          exact ih _ _ _ (hr1 _ rfl) _ _ _ hw (lv_sub hl [2, 3, 4, 5, 6, 7, 0] rfl) K1
        · have hf := if_e hf c63
          refine lv_aload_n X.1 X.2.1 dX5_value_47 rfl (lv_at hl 4 rfl) ?_
          refine lv_iload X.1 X.2.1 dX5_value_48 (lv_at hl 5 rfl) ?_
          refine lv_iload X.1 X.2.1 dX5_value_50 (lv_at hl 0 rfl) ?_
          refine lv_if_lt (tgt := 60) X.1 X.2.1 dX5_value_52 (by decide) (fun c66 => ?_) (fun c66 => ?_)
          · have hf := if_t hf c66
            refine lv_aload_n X.1 X.2.1 dX5_value_60 rfl (lv_at hl 3 rfl) ?_
            refine lv_iload X.1 X.2.1 dX5_value_61 (lv_at hl 0 rfl) ?_
            refine lv_iconst (v := (-1)) X.1 X.2.1 dX5_value_63 (by decide) ?_
            refine lv_ixor X.1 X.2.1 dX5_value_64 ?_
            obtain ⟨h67, hf⟩ := b_ck hf
            refine r_iald X hw (sp8 hR) h67 dX5_value_65 ?_
            obtain ⟨h68, hf⟩ := b_ck hf
            refine r_iast X hw (sp9 hR) h68 dX5_value_66 (fun H locs hw => ?_)
            obtain ⟨σ69, e70, hf⟩ := b_bnd hf
            rw [← e70] at hw
            obtain ⟨v71, e72, hf⟩ := b_bnd hf
            refine lv_iinc (v := v71) (k := 5) (lv' := [(4, .int v71), (7, .int v7), (0, .ref (eP E o50)), (1, .int u1), (2, .ref (eP E 8)), (3, .ref (eP E 9)), (5, .int u5), (6, .int w6)]) X.1 X.2.1 dX5_value_67 hl rfl (by rw [e72]; exact congrArg _ (by decide)) (by decide) rfl (fun ls hl => ?_)
            refine lv_goto (tgt := 170) X.1 X.2.1 dX5_value_70 (by decide) ?_
            obtain ⟨v73, e74, hf⟩ := b_bnd hf
            refine lv_iinc (v := v73) (k := 7) (lv' := [(6, .int v73), (4, .int v71), (7, .int v7), (0, .ref (eP E o50)), (1, .int u1), (2, .ref (eP E 8)), (3, .ref (eP E 9)), (5, .int u5)]) X.1 X.2.1 dX5_value_170 hl rfl (by rw [e74]; exact congrArg _ (by decide)) (by decide) rfl (fun ls hl => ?_)
            refine lv_goto (tgt := 17) X.1 X.2.1 dX5_value_173 (by decide) ?_
            obtain rfl := Option.some.inj hf
            exact ih _ _ _ (hr1 _ rfl) _ _ _ hw (lv_sub hl [3, 4, 5, 6, 1, 7, 0] rfl) K1
          · have hf := if_e hf c66
            refine lv_iload X.1 X.2.1 dX5_value_55 (lv_at hl 0 rfl) ?_
            refine lv_goto (tgt := 66) X.1 X.2.1 dX5_value_57 (by decide) ?_
            obtain ⟨h75, hf⟩ := b_ck hf
            refine r_iast X hw (sp9 hR) h75 dX5_value_66 (fun H locs hw => ?_)
            obtain ⟨σ76, e77, hf⟩ := b_bnd hf
            rw [← e77] at hw
            obtain ⟨v78, e79, hf⟩ := b_bnd hf
            refine lv_iinc (v := v78) (k := 5) (lv' := [(4, .int v78), (7, .int v7), (0, .ref (eP E o50)), (1, .int u1), (2, .ref (eP E 8)), (3, .ref (eP E 9)), (5, .int u5), (6, .int w6)]) X.1 X.2.1 dX5_value_67 hl rfl (by rw [e79]; exact congrArg _ (by decide)) (by decide) rfl (fun ls hl => ?_)
            refine lv_goto (tgt := 170) X.1 X.2.1 dX5_value_70 (by decide) ?_
            obtain ⟨v80, e81, hf⟩ := b_bnd hf
            refine lv_iinc (v := v80) (k := 7) (lv' := [(6, .int v80), (4, .int v78), (7, .int v7), (0, .ref (eP E o50)), (1, .int u1), (2, .ref (eP E 8)), (3, .ref (eP E 9)), (5, .int u5)]) X.1 X.2.1 dX5_value_170 hl rfl (by rw [e81]; exact congrArg _ (by decide)) (by decide) rfl (fun ls hl => ?_)
            refine lv_goto (tgt := 17) X.1 X.2.1 dX5_value_173 (by decide) ?_
            obtain rfl := Option.some.inj hf
            exact ih _ _ _ (hr1 _ rfl) _ _ _ hw (lv_sub hl [3, 4, 5, 6, 1, 7, 0] rfl) K1
set_option maxHeartbeats 4000000 in
set_option maxRecDepth 100000 in
theorem k_X5_value {l : Launch} {E : en_T} (hR : ShR E) {o : Nat} (ho : isT o) {x1 : Int32} {σ : sg_T} {r : Int32} {σ' : sg_T} (hf : f_X5_value o x1 σ = some (r, σ')) : Ct l yX5_value cX5_value 8 (some .int) rm_X5_value E [.ref (eP E o), .int x1, .ref (eP E 8), .ref (eP E 9)] σ (some (.int r)) σ' := by
  refine Ct.start (by decide) hR.1 (Nat.le_of_ble_eq_true rfl) ?_
  intro p e s m below meth c X hw ls hl
  have X : Cx E p s m _ meth c cX5_value 8 RX5 (some .int) := X
  have hl : lv_has ls 8 [(0, .ref (eP E o)), (1, .int x1), (2, .ref (eP E 8)), (3, .ref (eP E 9))] := hl
  unfold f_X5_value at hf
  refine lv_iconst (v := 0) X.1 X.2.1 dX5_value_0 (by decide) ?_
  refine lv_istore (lv' := [(4, .int 0), (0, .ref (eP E o)), (1, .int x1), (2, .ref (eP E 8)), (3, .ref (eP E 9))]) X.1 X.2.1 dX5_value_1 hl (by decide) rfl (fun ls hl => ?_)
  refine lv_aload_n X.1 X.2.1 dX5_value_3 rfl (lv_at hl 1 rfl) ?_
  refine lv_iload_n X.1 X.2.1 dX5_value_4 rfl (lv_at hl 2 rfl) ?_
  obtain ⟨r2, h1, hf⟩ := b_bd1 hf
  refine r_callV X hw (k_X5_end hR ho h1) (spT0 hR ho) (C := RX5) (T := TX5) (N := 3) rfl qw519 qw521 qw18 qw70 qw522 okX5_end ⟨rfl, rfl⟩ ⟨(Nat.le_of_ble_eq_true rfl), (Nat.le_of_ble_eq_true rfl)⟩ ⟨Nat.zero_le _, Nat.zero_le _⟩ rfl hl.1 (rest := []) rfl (Nat.le_of_ble_eq_true rfl) dX5_value_5 (st1 := [.int r2]) rfl (fun H locs hw => ?_)
  refine lv_istore (lv' := [(5, .int r2), (4, .int 0), (0, .ref (eP E o)), (1, .int x1), (2, .ref (eP E 8)), (3, .ref (eP E 9))]) X.1 X.2.1 dX5_value_8 hl (by decide) rfl (fun ls hl => ?_)
  refine lv_aload_n X.1 X.2.1 dX5_value_10 rfl (lv_at hl 2 rfl) ?_
  refine lv_iload_n X.1 X.2.1 dX5_value_11 rfl (lv_at hl 3 rfl) ?_
  obtain ⟨r4, h3, hf⟩ := b_bd1 hf
  refine r_callV X hw (k_X5_begin hR ho h3) (spT0 hR ho) (C := RX5) (T := TX5) (N := 3) rfl qw523 qw525 qw19 qw70 qw526 okX5_begin ⟨rfl, rfl⟩ ⟨(Nat.le_of_ble_eq_true rfl), (Nat.le_of_ble_eq_true rfl)⟩ ⟨Nat.zero_le _, Nat.zero_le _⟩ rfl hl.1 (rest := []) rfl (Nat.le_of_ble_eq_true rfl) dX5_value_12 (st1 := [.int r4]) rfl (fun H locs hw => ?_)
  refine lv_istore (lv' := [(6, .int r4), (5, .int r2), (4, .int 0), (0, .ref (eP E o)), (1, .int x1), (2, .ref (eP E 8)), (3, .ref (eP E 9))]) X.1 X.2.1 dX5_value_15 hl (by decide) rfl (fun ls hl => ?_)
  obtain ⟨v83, v84, σ85, h82, hf⟩ := b_bd3 hf
  refine w_X5_value_17 X hR ho lfu _ _ _ h82 _ _ _ hw (lv_sub hl [3, 4, 5, 6, 2, 1, 0] rfl) (fun yv83 yv84 yσ85 hq H locs ls hw hl => ?_)
  cases hq
  refine lv_iload X.1 X.2.1 dX5_value_176 (lv_at hl 4 rfl) ?_
  refine lv_if_le (tgt := 190) X.1 X.2.1 dX5_value_178 (by decide) (fun c86 => ?_) (fun c86 => ?_)
  · have hf := if_t hf c86
    refine lv_iconst (v := 0) X.1 X.2.1 dX5_value_190 (by decide) ?_
    obtain ⟨rfl, rfl⟩ := Prod.mk.inj (Option.some.inj hf)
    exact r_iret X hw dX5_value_191
  · have hf := if_e hf c86
    refine lv_aload_n X.1 X.2.1 dX5_value_181 rfl (lv_at hl 3 rfl) ?_
    refine lv_iload X.1 X.2.1 dX5_value_182 (lv_at hl 4 rfl) ?_
    refine lv_iconst (v := 1) X.1 X.2.1 dX5_value_184 (by decide) ?_
    refine lv_isub X.1 X.2.1 dX5_value_185 ?_
    obtain ⟨h87, hf⟩ := b_ck hf
    refine r_iald X hw (sp9 hR) h87 dX5_value_186 ?_
    refine lv_goto (tgt := 191) X.1 X.2.1 dX5_value_187 (by decide) ?_
    obtain ⟨rfl, rfl⟩ := Prod.mk.inj (Option.some.inj hf)
    exact r_iret X hw dX5_value_191
abbrev rm_X5_hasTired : Room := { frames := 1, cells := 0, slots := 0, locals := 100 }
set_option maxHeartbeats 4000000 in
set_option maxRecDepth 100000 in
theorem w_X5_hasTired_6 {p : Program} {l : Launch} {e : Env} {s : State} {m : MethodId} {args : Array Value} {below : List Frame} {meth : Method} {c : Code} {Q : State → Prop} {E : en_T} (X : Cx E p s m args meth c cX5_hasTired 3 RX5 (some .boolean)) (hR : ShR E) {o50 : Nat} (ho50 : isT o50) {u1 : Int32} {σ : sg_T} {res : (Int32) ⊕ (Int32)} :
    ∀ (n : Nat) (w2 : Int32), itr (fun q => b_X5_hasTired_6 o50 u1 q σ) n w2 = some res → ∀ (H : Heap) (locs : List Loc) (ls : Array Slot), Hw E σ s H locs → lv_has ls 3 [(0, .ref (eP E o50)), (1, .int u1), (2, .int w2)] →
    (∀ (y2 : Int32), res = .inl y2 → ∀ (H : Heap) (locs : List Loc) (ls : Array Slot), Hw E σ s H locs → lv_has ls 3 [(0, .ref (eP E o50)), (1, .int u1), (2, .int y2)] → W p l e rm_X5_hasTired s m args below meth c H locs 0 0 Q (F0 m 34 ls [])) →
    (∀ (r : Int32), res = .inr r → Q = MQ below (Qf E (some (.int r)) σ) args s 0 0 (en_A E)) →
    W p l e rm_X5_hasTired s m args below meth c H locs 0 0 Q (F0 m 6 ls []) := by
  intro n
  induction n with
  | zero =>
    intro w2 hf0
    exact (itr_0 hf0).elim
  | succ n ih =>
    intro w2 hf0 H locs ls hw hl K1 K2
    obtain ⟨r0, hf, hr1, hr2⟩ := itr_s hf0
    have hf : b_X5_hasTired_6 o50 u1 w2 σ = some r0 := hf
    unfold b_X5_hasTired_6 at hf
    refine lv_iload_n X.1 X.2.1 dX5_hasTired_6 rfl (lv_at hl 2 rfl) ?_
    refine lv_aload_n X.1 X.2.1 dX5_hasTired_7 rfl (lv_at hl 0 rfl) ?_
    refine lv_iload_n X.1 X.2.1 dX5_hasTired_8 rfl (lv_at hl 1 rfl) ?_
    obtain ⟨r4, h3, hf⟩ := b_bd1 hf
    refine r_callV X hw (k_X5_end hR ho50 h3) (spT0 hR ho50) (C := RX5) (T := TX5) (N := 3) rfl qw519 qw521 qw18 qw70 qw522 okX5_end ⟨rfl, rfl⟩ ⟨(Nat.le_of_ble_eq_true rfl), (Nat.le_of_ble_eq_true rfl)⟩ ⟨Nat.zero_le _, Nat.zero_le _⟩ rfl hl.1 (rest := [.int w2]) rfl (Nat.le_of_ble_eq_true rfl) dX5_hasTired_9 (st1 := [.int r4, .int w2]) rfl (fun H locs hw => ?_)
    refine lv_icmp_ge (tgt := 34) X.1 X.2.1 dX5_hasTired_12 (by decide) (fun c5 => ?_) (fun c5 => ?_)
    · have hf := if_t hf c5
      obtain rfl := Option.some.inj hf
      obtain rfl := hr2 _ rfl
      exact K1 _ rfl _ _ _ hw (lv_sub hl [0, 1, 2] rfl)
    · have hf := if_e hf c5
      refine lv_aload_n X.1 X.2.1 dX5_hasTired_15 rfl (lv_at hl 0 rfl) ?_
      refine r_get X hw (spT0 hR ho50) (C := RX5) (T := TX5) (N := 3) rfl iwX5 0 (by decide) (Nat.le_of_ble_eq_true rfl) qw136 (v := .ref (eP E (o50 + 1))) rfl dX5_hasTired_16 ?_
      refine lv_iload_n X.1 X.2.1 dX5_hasTired_19 rfl (lv_at hl 2 rfl) ?_
      obtain ⟨h6, hf⟩ := b_ck hf
      refine r_iald X hw (spT1 hR ho50) h6 dX5_hasTired_20 ?_
      refine lv_bipush (v := (-5)) X.1 X.2.1 dX5_hasTired_21 (by decide) ?_
      refine lv_icmp_ne (tgt := 28) X.1 X.2.1 dX5_hasTired_23 (by decide) (fun c7 => ?_) (fun c7 => ?_)
      · have hf := if_e hf c7
        obtain ⟨v8, e9, hf⟩ := b_bnd hf
        refine lv_iinc (v := v8) (k := 2) (lv' := [(2, .int v8), (0, .ref (eP E o50)), (1, .int u1)]) X.1 X.2.1 dX5_hasTired_28 hl rfl (by rw [e9]; exact congrArg _ (by decide)) (by decide) rfl (fun ls hl => ?_)
        refine lv_goto (tgt := 6) X.1 X.2.1 dX5_hasTired_31 (by decide) ?_
        obtain rfl := Option.some.inj hf
        exact ih _ (hr1 _ rfl) _ _ _ hw (lv_sub hl [1, 2, 0] rfl) K1 K2
      · have hf := if_t hf c7
        refine lv_iconst (v := 1) X.1 X.2.1 dX5_hasTired_26 (by decide) ?_
        obtain rfl := Option.some.inj hf
        obtain rfl := hr2 _ rfl
        rw [K2 _ rfl]
        exact r_zret X hw (by decide) dX5_hasTired_27
set_option maxHeartbeats 4000000 in
set_option maxRecDepth 100000 in
theorem k_X5_hasTired {l : Launch} {E : en_T} (hR : ShR E) {o : Nat} (ho : isT o) {x1 : Int32} {σ : sg_T} {r : Int32} (hf : f_X5_hasTired o x1 σ = some r) : Ct l yX5_hasTired cX5_hasTired 3 (some .boolean) rm_X5_hasTired E [.ref (eP E o), .int x1] σ (some (.int r)) σ := by
  refine Ct.start (by decide) hR.1 (Nat.le_of_ble_eq_true rfl) ?_
  intro p e s m below meth c X hw ls hl
  have X : Cx E p s m _ meth c cX5_hasTired 3 RX5 (some .boolean) := X
  have hl : lv_has ls 3 [(0, .ref (eP E o)), (1, .int x1)] := hl
  unfold f_X5_hasTired at hf
  refine lv_aload_n X.1 X.2.1 dX5_hasTired_0 rfl (lv_at hl 0 rfl) ?_
  refine lv_iload_n X.1 X.2.1 dX5_hasTired_1 rfl (lv_at hl 1 rfl) ?_
  obtain ⟨r2, h1, hf⟩ := b_bd1 hf
  refine r_callV X hw (k_X5_begin hR ho h1) (spT0 hR ho) (C := RX5) (T := TX5) (N := 3) rfl qw523 qw525 qw19 qw70 qw526 okX5_begin ⟨rfl, rfl⟩ ⟨(Nat.le_of_ble_eq_true rfl), (Nat.le_of_ble_eq_true rfl)⟩ ⟨Nat.zero_le _, Nat.zero_le _⟩ rfl hl.1 (rest := []) rfl (Nat.le_of_ble_eq_true rfl) dX5_hasTired_2 (st1 := [.int r2]) rfl (fun H locs hw => ?_)
  refine lv_istore_n (lv' := [(2, .int r2), (0, .ref (eP E o)), (1, .int x1)]) X.1 X.2.1 dX5_hasTired_5 rfl hl (by decide) rfl (fun ls hl => ?_)
  obtain ⟨r12, h10, hf⟩ := b_bs hf
  rcases hf with ⟨v11, rfl, hf⟩ | ⟨r13, rfl, hf⟩
  · refine w_X5_hasTired_6 X hR ho lfu _ h10 _ _ _ hw (lv_sub hl [1, 2, 0] rfl) (fun yv11 hq H locs ls hw hl => ?_) (fun _ hq => by cases hq)
    cases hq
    refine lv_iconst (v := 0) X.1 X.2.1 dX5_hasTired_34 (by decide) ?_
    obtain rfl := Option.some.inj hf
    exact r_zret X hw (by decide) dX5_hasTired_35
  · refine w_X5_hasTired_6 X hR ho lfu _ h10 _ _ _ hw (lv_sub hl [1, 2, 0] rfl) (fun _ hq => by cases hq) (fun _ hq => ?_)
    cases hq
    cases hf
    rfl
