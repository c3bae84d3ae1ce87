abbrev rm_X1_has : Room := { frames := 0, cells := 0, slots := 0, locals := 0 }
set_option maxHeartbeats 4000000 in
set_option maxRecDepth 100000 in
theorem k_X1_has {l : Launch} {E : en_T} (hE : ShF E) {o : Nat} (ho : isP o) {x1 : Int32} {σ : sg_T} {r : Int32} (hf : f_X1_has o x1 σ = some r) : Ct l yX1_has cX1_has 2 (some .boolean) rm_X1_has E [.ref (eP E o), .int x1] σ (some (.int r)) σ := by
  refine Ct.start (by decide) hE.1 (Nat.le_of_ble_eq_true rfl) ?_
  intro p e s m below meth c X hw ls hl
  have X : Cx E p s m _ meth c cX1_has 2 RX1 (some .boolean) := X
  have hR : ShR E := hE.r
  have hl : lv_has ls 2 [(0, .ref (eP E o)), (1, .int x1)] := hl
  unfold f_X1_has at hf
  refine lv_iload_n X.1 X.2.1 dX1_has_0 rfl (lv_at hl 1 rfl) ?_
  refine lv_if_lt (tgt := 16) X.1 X.2.1 dX1_has_1 (by decide) (fun c1 => ?_) (fun c1 => ?_)
  · have hf := if_t hf c1
    refine lv_iconst (v := 0) X.1 X.2.1 dX1_has_16 (by decide) ?_
    obtain rfl := Option.some.inj hf
    exact r_zret X hw (by decide) dX1_has_17
  · have hf := if_e hf c1
    refine lv_iload_n X.1 X.2.1 dX1_has_4 rfl (lv_at hl 1 rfl) ?_
    refine lv_aload_n X.1 X.2.1 dX1_has_5 rfl (lv_at hl 0 rfl) ?_
    refine r_get X hw (spP0 hE ho) (C := RX1) (T := TX1) (N := 10) rfl iwX1 7 (by decide) (Nat.le_of_ble_eq_true rfl) qw358 (v := .int (σ o 7)) rfl dX1_has_6 ?_
    obtain ⟨v3, e4, hf⟩ := b_bnd hf
    refine r_join (g2 := F0 m 17 ls [.int v3]) ?_ (fun hj => ?_)
    · obtain ⟨h5, hf⟩ := b_cz hf
      obtain rfl := Option.some.inj hf
      exact r_zret X hw (cz_and h5) dX1_has_17
    · refine lv_icmp_ge (tgt := 16) X.1 X.2.1 dX1_has_9 (by decide) (fun c2 => ?_) (fun c2 => ?_)
      · rw [e4, if_pos c2] at hj
        refine lv_iconst (v := 0) X.1 X.2.1 dX1_has_16 (by decide) ?_
        exact hj
      · rw [e4, if_neg c2] at hj
        refine lv_iconst (v := 1) X.1 X.2.1 dX1_has_12 (by decide) ?_
        refine lv_goto (tgt := 17) X.1 X.2.1 dX1_has_13 (by decide) ?_
        exact hj
abbrev rm_X1_hasPlace : Room := { frames := 1, cells := 0, slots := 0, locals := 100 }
set_option maxHeartbeats 4000000 in
set_option maxRecDepth 100000 in
theorem k_X1_hasPlace {l : Launch} {E : en_T} (hE : ShF E) {o : Nat} (ho : isP o) {x1 : Int32} {x2 : Int32} {σ : sg_T} {r : Int32} (hf : f_X1_hasPlace o x1 x2 σ = some r) : Ct l yX1_hasPlace cX1_hasPlace 3 (some .boolean) rm_X1_hasPlace E [.ref (eP E o), .int x1, .int x2] σ (some (.int r)) σ := by
  refine Ct.start (by decide) hE.1 (Nat.le_of_ble_eq_true rfl) ?_
  intro p e s m below meth c X hw ls hl
  have X : Cx E p s m _ meth c cX1_hasPlace 3 RX1 (some .boolean) := X
  have hR : ShR E := hE.r
  have hl : lv_has ls 3 [(0, .ref (eP E o)), (1, .int x1), (2, .int x2)] := hl
  unfold f_X1_hasPlace at hf
  refine lv_iload_n X.1 X.2.1 dX1_hasPlace_0 rfl (lv_at hl 1 rfl) ?_
  refine lv_if_ne (tgt := 6) X.1 X.2.1 dX1_hasPlace_1 (by decide) (fun c1 => ?_) (fun c1 => ?_)
  · have hf := if_e hf c1
    refine lv_iload_n X.1 X.2.1 dX1_hasPlace_6 rfl (lv_at hl 1 rfl) ?_
    refine lv_bipush (v := 6) X.1 X.2.1 dX1_hasPlace_7 (by decide) ?_
    refine lv_icmp_ne (tgt := 55) X.1 X.2.1 dX1_hasPlace_9 (by decide) (fun c2 => ?_) (fun c2 => ?_)
    · have hf := if_e hf c2
      refine lv_aload_n X.1 X.2.1 dX1_hasPlace_55 rfl (lv_at hl 0 rfl) ?_
      refine lv_iload_n X.1 X.2.1 dX1_hasPlace_56 rfl (lv_at hl 2 rfl) ?_
      obtain ⟨r4, h3, hf⟩ := b_bd1 hf
      refine r_callV X hw (k_X1_has hE ho h3) (spP0 hE ho) (C := RX1) (T := TX1) (N := 10) rfl qw454 qw455 qw456 qw76 qw457 okX1_has ⟨rfl, rfl⟩ ⟨(Nat.le_of_ble_eq_true rfl), (Nat.le_of_ble_eq_true rfl)⟩ ⟨Nat.zero_le _, Nat.zero_le _⟩ rfl hl.1 (rest := []) rfl (Nat.le_of_ble_eq_true rfl) dX1_hasPlace_57 (st1 := [.int r4]) rfl (fun H locs hw => ?_)
      obtain ⟨h5, hf⟩ := b_cz hf
      obtain rfl := Option.some.inj hf
      exact r_zret X hw (cz_and h5) dX1_hasPlace_60
    · have hf := if_t hf c2
      refine lv_iload_n X.1 X.2.1 dX1_hasPlace_12 rfl (lv_at hl 2 rfl) ?_
      refine lv_if_lt (tgt := 53) X.1 X.2.1 dX1_hasPlace_13 (by decide) (fun c6 => ?_) (fun c6 => ?_)
      · have hf := if_t hf c6
        refine lv_iconst (v := 0) X.1 X.2.1 dX1_hasPlace_53 (by decide) ?_
        obtain rfl := Option.some.inj hf
        exact r_zret X hw (by decide) dX1_hasPlace_54
      · have hf := if_e hf c6
        refine lv_iload_n X.1 X.2.1 dX1_hasPlace_16 rfl (lv_at hl 2 rfl) ?_
        refine lv_bipush (v := 10) X.1 X.2.1 dX1_hasPlace_17 (by decide) ?_
        refine lv_idiv X.1 X.2.1 dX1_hasPlace_19 (by decide) ?_
        refine lv_aload_n X.1 X.2.1 dX1_hasPlace_20 rfl (lv_at hl 0 rfl) ?_
        refine r_get X hw (spP0 hE ho) (C := RX1) (T := TX1) (N := 10) rfl iwX1 7 (by decide) (Nat.le_of_ble_eq_true rfl) qw358 (v := .int (σ o 7)) rfl dX1_hasPlace_21 ?_
        refine lv_icmp_ge (tgt := 53) X.1 X.2.1 dX1_hasPlace_24 (by decide) (fun c7 => ?_) (fun c7 => ?_)
        · have hf := if_t hf c7
          refine lv_iconst (v := 0) X.1 X.2.1 dX1_hasPlace_53 (by decide) ?_
          obtain rfl := Option.some.inj hf
          exact r_zret X hw (by decide) dX1_hasPlace_54
        · have hf := if_e hf c7
          refine lv_iload_n X.1 X.2.1 dX1_hasPlace_27 rfl (lv_at hl 2 rfl) ?_
          refine lv_bipush (v := 10) X.1 X.2.1 dX1_hasPlace_28 (by decide) ?_
          refine r_irem X dX1_hasPlace_30 (by decide) ?_
          refine lv_aload_n X.1 X.2.1 dX1_hasPlace_31 rfl (lv_at hl 0 rfl) ?_
          refine r_get X hw (spP0 hE ho) (C := RX1) (T := TX1) (N := 10) rfl iwX1 7 (by decide) (Nat.le_of_ble_eq_true rfl) qw358 (v := .int (σ o 7)) rfl dX1_hasPlace_32 ?_
          refine lv_icmp_ge (tgt := 53) X.1 X.2.1 dX1_hasPlace_35 (by decide) (fun c8 => ?_) (fun c8 => ?_)
          · have hf := if_t hf c8
            refine lv_iconst (v := 0) X.1 X.2.1 dX1_hasPlace_53 (by decide) ?_
            obtain rfl := Option.some.inj hf
            exact r_zret X hw (by decide) dX1_hasPlace_54
          · have hf := if_e hf c8
            refine lv_iload_n X.1 X.2.1 dX1_hasPlace_38 rfl (lv_at hl 2 rfl) ?_
            refine lv_bipush (v := 10) X.1 X.2.1 dX1_hasPlace_39 (by decide) ?_
            refine lv_idiv X.1 X.2.1 dX1_hasPlace_41 (by decide) ?_
            refine lv_iload_n X.1 X.2.1 dX1_hasPlace_42 rfl (lv_at hl 2 rfl) ?_
            refine lv_bipush (v := 10) X.1 X.2.1 dX1_hasPlace_43 (by decide) ?_
            refine r_irem X dX1_hasPlace_45 (by decide) ?_
            obtain ⟨v10, e11, hf⟩ := b_bnd hf
            refine r_join (g2 := F0 m 54 ls [.int v10]) ?_ (fun hj => ?_)
            · obtain ⟨h12, hf⟩ := b_cz hf
              obtain rfl := Option.some.inj hf
              exact r_zret X hw (cz_and h12) dX1_hasPlace_54
            · refine lv_icmp_eq (tgt := 53) X.1 X.2.1 dX1_hasPlace_46 (by decide) (fun c9 => ?_) (fun c9 => ?_)
              · rw [e11, if_pos c9] at hj
                refine lv_iconst (v := 0) X.1 X.2.1 dX1_hasPlace_53 (by decide) ?_
                exact hj
              · rw [e11, if_neg c9] at hj
                refine lv_iconst (v := 1) X.1 X.2.1 dX1_hasPlace_49 (by decide) ?_
                refine lv_goto (tgt := 54) X.1 X.2.1 dX1_hasPlace_50 (by decide) ?_
                exact hj
  · have hf := if_t hf c1
    refine lv_iconst (v := 1) X.1 X.2.1 dX1_hasPlace_4 (by decide) ?_
    obtain rfl := Option.some.inj hf
    exact r_zret X hw (by decide) dX1_hasPlace_5
abbrev rm_X1_rowOf : Room := { frames := 0, cells := 0, slots := 0, locals := 0 }
set_option maxHeartbeats 4000000 in
set_option maxRecDepth 100000 in
theorem k_X1_rowOf {l : Launch} {E : en_T} (hE : ShF E) {o : Nat} (ho : isP o) {x1 : Int32} {σ : sg_T} {r : Nat} (hf : f_X1_rowOf o x1 σ = some r) : Ct l yX1_rowOf cX1_rowOf 2 (some (.array .int)) rm_X1_rowOf E [.ref (eP E o), .int x1] σ (some (.ref (eP E r))) σ := by
  refine Ct.start (by decide) hE.1 (Nat.le_of_ble_eq_true rfl) ?_
  intro p e s m below meth c X hw ls hl
  have X : Cx E p s m _ meth c cX1_rowOf 2 RX1 (some (.array .int)) := X
  have hR : ShR E := hE.r
  have hl : lv_has ls 2 [(0, .ref (eP E o)), (1, .int x1)] := hl
  unfold f_X1_rowOf at hf
  refine lv_iload_n X.1 X.2.1 dX1_rowOf_0 rfl (lv_at hl 1 rfl) ?_
  by_cases c1 : x1 = 1
  · have hf := if_t hf c1
    refine lv_tableIn (x := x1) (tgt := 40) (off := 39) X.1 X.2.1 dX1_rowOf_1 (by rw [c1]; decide) (by rw [c1]; decide) (by rw [c1]; decide) (by decide) ?_
    refine lv_aload_n X.1 X.2.1 dX1_rowOf_40 rfl (lv_at hl 0 rfl) ?_
    refine r_get X hw (spP0 hE ho) (C := RX1) (T := TX1) (N := 10) rfl iwX1 1 (by decide) (Nat.le_of_ble_eq_true rfl) qw352 (v := .ref (eP E (o + 2))) rfl dX1_rowOf_41 ?_
    obtain rfl := Option.some.inj hf
    exact r_aret X hw dX1_rowOf_44
  have hf := if_e hf c1
  by_cases c2 : x1 = 2
  · have hf := if_t hf c2
    refine lv_tableIn (x := x1) (tgt := 45) (off := 44) X.1 X.2.1 dX1_rowOf_1 (by rw [c2]; decide) (by rw [c2]; decide) (by rw [c2]; decide) (by decide) ?_
    refine lv_aload_n X.1 X.2.1 dX1_rowOf_45 rfl (lv_at hl 0 rfl) ?_
    refine r_get X hw (spP0 hE ho) (C := RX1) (T := TX1) (N := 10) rfl iwX1 2 (by decide) (Nat.le_of_ble_eq_true rfl) qw353 (v := .ref (eP E (o + 3))) rfl dX1_rowOf_46 ?_
    obtain rfl := Option.some.inj hf
    exact r_aret X hw dX1_rowOf_49
  have hf := if_e hf c2
  by_cases c3 : x1 = 3
  · have hf := if_t hf c3
    refine lv_tableIn (x := x1) (tgt := 50) (off := 49) X.1 X.2.1 dX1_rowOf_1 (by rw [c3]; decide) (by rw [c3]; decide) (by rw [c3]; decide) (by decide) ?_
    refine lv_aload_n X.1 X.2.1 dX1_rowOf_50 rfl (lv_at hl 0 rfl) ?_
    refine r_get X hw (spP0 hE ho) (C := RX1) (T := TX1) (N := 10) rfl iwX1 3 (by decide) (Nat.le_of_ble_eq_true rfl) qw354 (v := .ref (eP E (o + 4))) rfl dX1_rowOf_51 ?_
    obtain rfl := Option.some.inj hf
    exact r_aret X hw dX1_rowOf_54
  have hf := if_e hf c3
  by_cases c4 : x1 = 4
  · have hf := if_t hf c4
    refine lv_tableIn (x := x1) (tgt := 55) (off := 54) X.1 X.2.1 dX1_rowOf_1 (by rw [c4]; decide) (by rw [c4]; decide) (by rw [c4]; decide) (by decide) ?_
    refine lv_aload_n X.1 X.2.1 dX1_rowOf_55 rfl (lv_at hl 0 rfl) ?_
    refine r_get X hw (spP0 hE ho) (C := RX1) (T := TX1) (N := 10) rfl iwX1 4 (by decide) (Nat.le_of_ble_eq_true rfl) qw355 (v := .ref (eP E (o + 5))) rfl dX1_rowOf_56 ?_
    obtain rfl := Option.some.inj hf
    exact r_aret X hw dX1_rowOf_59
  have hf := if_e hf c4
  by_cases c5 : x1 = 5
  · have hf := if_t hf c5
    refine lv_tableIn (x := x1) (tgt := 60) (off := 59) X.1 X.2.1 dX1_rowOf_1 (by rw [c5]; decide) (by rw [c5]; decide) (by rw [c5]; decide) (by decide) ?_
    refine lv_aload_n X.1 X.2.1 dX1_rowOf_60 rfl (lv_at hl 0 rfl) ?_
    refine r_get X hw (spP0 hE ho) (C := RX1) (T := TX1) (N := 10) rfl iwX1 5 (by decide) (Nat.le_of_ble_eq_true rfl) qw356 (v := .ref (eP E (o + 6))) rfl dX1_rowOf_61 ?_
    obtain rfl := Option.some.inj hf
    exact r_aret X hw dX1_rowOf_64
  have hf := if_e hf c5
  by_cases c6 : x1 = 6
  · have hf := if_t hf c6
    refine lv_tableIn (x := x1) (tgt := 65) (off := 64) X.1 X.2.1 dX1_rowOf_1 (by rw [c6]; decide) (by rw [c6]; decide) (by rw [c6]; decide) (by decide) ?_
    refine lv_aload_n X.1 X.2.1 dX1_rowOf_65 rfl (lv_at hl 0 rfl) ?_
    refine r_get X hw (spP0 hE ho) (C := RX1) (T := TX1) (N := 10) rfl iwX1 6 (by decide) (Nat.le_of_ble_eq_true rfl) qw357 (v := .ref (eP E (o + 7))) rfl dX1_rowOf_66 ?_
    obtain rfl := Option.some.inj hf
    exact r_aret X hw dX1_rowOf_69
  have hf := if_e hf c6
  have c1t := lv_neT (a := 1) c1 (by decide)
  have c2t := lv_neT (a := 2) c2 (by decide)
  have c3t := lv_neT (a := 3) c3 (by decide)
  have c4t := lv_neT (a := 4) c4 (by decide)
  have c5t := lv_neT (a := 5) c5 (by decide)
  have c6t := lv_neT (a := 6) c6 (by decide)
  refine lv_tableOut (x := x1) (tgt := 70) X.1 X.2.1 dX1_rowOf_1 (by omega) (by decide) ?_
  refine lv_aload_n X.1 X.2.1 dX1_rowOf_70 rfl (lv_at hl 0 rfl) ?_
  refine r_get X hw (spP0 hE ho) (C := RX1) (T := TX1) (N := 10) rfl iwX1 0 (by decide) (Nat.le_of_ble_eq_true rfl) qw351 (v := .ref (eP E (o + 1))) rfl dX1_rowOf_71 ?_
  obtain rfl := Option.some.inj hf
  exact r_aret X hw dX1_rowOf_74
theorem rowOf_sp {E : en_T} (hE : ShF E) {o q : Nat} {x1 : Int32} {σ : sg_T} (ho : isP o) (h : f_X1_rowOf o x1 σ = some q) : Sp E q (.inl (.int, plen o q)) := by
  have p5 : ∀ d, d < 7 → plen o (o + d) = 5 := fun d hd => by unfold plen; rw [if_neg (by omega)]
  have p7 : plen o (o + 7) = 25 := by unfold plen; rw [if_pos rfl]
  unfold f_X1_rowOf at h
  split at h
  · cases h; rw [p5 2 (by decide)]; exact spP2 hE ho
  split at h
  · cases h; rw [p5 3 (by decide)]; exact spP3 hE ho
  split at h
  · cases h; rw [p5 4 (by decide)]; exact spP4 hE ho
  split at h
  · cases h; rw [p5 5 (by decide)]; exact spP5 hE ho
  split at h
  · cases h; rw [p5 6 (by decide)]; exact spP6 hE ho
  split at h
  · cases h; rw [p7]; exact spP7 hE ho
  · cases h; rw [p5 1 (by decide)]; exact spP1 hE ho
abbrev rm_X1_placeIn : Room := { frames := 0, cells := 0, slots := 0, locals := 0 }
set_option maxHeartbeats 4000000 in
set_option maxRecDepth 100000 in
theorem k_X1_placeIn {l : Launch} {E : en_T} (hE : ShF E) {x1 : Int32} {x2 : Int32} {σ : sg_T} {r : Int32} (hf : f_X1_placeIn x1 x2 σ = some r) : Ct l yX1_placeIn cX1_placeIn 2 (some .int) rm_X1_placeIn E [.int x1, .int x2] σ (some (.int r)) σ := by
  refine Ct.start (by decide) hE.1 (Nat.le_of_ble_eq_true rfl) ?_
  intro p e s m below meth c X hw ls hl
  have X : Cx E p s m _ meth c cX1_placeIn 2 RX1 (some .int) := X
  have hR : ShR E := hE.r
  have hl : lv_has ls 2 [(0, .int x1), (1, .int x2)] := hl
  unfold f_X1_placeIn at hf
  refine lv_iload_n X.1 X.2.1 dX1_placeIn_0 rfl (lv_at hl 0 rfl) ?_
  refine lv_bipush (v := 6) X.1 X.2.1 dX1_placeIn_1 (by decide) ?_
  refine lv_icmp_ne (tgt := 20) X.1 X.2.1 dX1_placeIn_3 (by decide) (fun c1 => ?_) (fun c1 => ?_)
  · have hf := if_e hf c1
    refine lv_iload_n X.1 X.2.1 dX1_placeIn_20 rfl (lv_at hl 1 rfl) ?_
    obtain rfl := Option.some.inj hf
    exact r_iret X hw dX1_placeIn_21
  · have hf := if_t hf c1
    refine lv_iload_n X.1 X.2.1 dX1_placeIn_6 rfl (lv_at hl 1 rfl) ?_
    refine lv_bipush (v := 10) X.1 X.2.1 dX1_placeIn_7 (by decide) ?_
    refine lv_idiv X.1 X.2.1 dX1_placeIn_9 (by decide) ?_
    refine lv_iconst (v := 5) X.1 X.2.1 dX1_placeIn_10 (by decide) ?_
    refine lv_imul X.1 X.2.1 dX1_placeIn_11 ?_
    refine lv_iload_n X.1 X.2.1 dX1_placeIn_12 rfl (lv_at hl 1 rfl) ?_
    refine lv_bipush (v := 10) X.1 X.2.1 dX1_placeIn_13 (by decide) ?_
    refine r_irem X dX1_placeIn_15 (by decide) ?_
    refine lv_iadd X.1 X.2.1 dX1_placeIn_16 ?_
    refine lv_goto (tgt := 21) X.1 X.2.1 dX1_placeIn_17 (by decide) ?_
    obtain rfl := Option.some.inj hf
    exact r_iret X hw dX1_placeIn_21
abbrev rm_X1_get : Room := { frames := 2, cells := 0, slots := 0, locals := 122 }
set_option maxHeartbeats 4000000 in
set_option maxRecDepth 100000 in
theorem k_X1_get {l : Launch} {E : en_T} (hE : ShF E) {o : Nat} (ho : isP o) {x1 : Int32} {x2 : Int32} {σ : sg_T} {r : Int32} (hf : f_X1_get o x1 x2 σ = some r) : Ct l yX1_get cX1_get 3 (some .int) rm_X1_get E [.ref (eP E o), .int x1, .int x2] σ (some (.int r)) σ := by
  refine Ct.start (by decide) hE.1 (Nat.le_of_ble_eq_true rfl) ?_
  intro p e s m below meth c X hw ls hl
  have X : Cx E p s m _ meth c cX1_get 3 RX1 (some .int) := X
  have hR : ShR E := hE.r
  have hl : lv_has ls 3 [(0, .ref (eP E o)), (1, .int x1), (2, .int x2)] := hl
  unfold f_X1_get at hf
  refine lv_iload_n X.1 X.2.1 dX1_get_0 rfl (lv_at hl 1 rfl) ?_
  refine lv_if_ne (tgt := 9) X.1 X.2.1 dX1_get_1 (by decide) (fun c1 => ?_) (fun c1 => ?_)
  · have hf := if_e hf c1
    refine lv_aload_n X.1 X.2.1 dX1_get_9 rfl (lv_at hl 0 rfl) ?_
    refine lv_iload_n X.1 X.2.1 dX1_get_10 rfl (lv_at hl 1 rfl) ?_
    refine lv_iload_n X.1 X.2.1 dX1_get_11 rfl (lv_at hl 2 rfl) ?_
    obtain ⟨r3, h2, hf⟩ := b_bd1 hf
    refine r_callV X hw (k_X1_hasPlace hE ho h2) (spP0 hE ho) (C := RX1) (T := TX1) (N := 10) rfl qw464 qw451 qw452 qw76 qw453 okX1_hasPlace ⟨rfl, rfl⟩ ⟨(Nat.le_of_ble_eq_true rfl), (Nat.le_of_ble_eq_true rfl)⟩ ⟨Nat.zero_le _, Nat.zero_le _⟩ rfl hl.1 (rest := []) rfl (Nat.le_of_ble_eq_true rfl) dX1_get_12 (st1 := [.int r3]) rfl (fun H locs hw => ?_)
    refine lv_if_eq (tgt := 32) X.1 X.2.1 dX1_get_15 (by decide) (fun c4 => ?_) (fun c4 => ?_)
    · have hf := if_t hf c4
      refine lv_iconst (v := (-1)) X.1 X.2.1 dX1_get_32 (by decide) ?_
      obtain rfl := Option.some.inj hf
      exact r_iret X hw dX1_get_33
    · have hf := if_e hf c4
      refine lv_aload_n X.1 X.2.1 dX1_get_18 rfl (lv_at hl 0 rfl) ?_
      refine lv_iload_n X.1 X.2.1 dX1_get_19 rfl (lv_at hl 1 rfl) ?_
      obtain ⟨r6, h5, hf⟩ := b_bd1 hf
      refine r_callV X hw (k_X1_rowOf hE ho h5) (spP0 hE ho) (C := RX1) (T := TX1) (N := 10) rfl qw465 qw467 qw16 qw76 qw468 okX1_rowOf ⟨rfl, rfl⟩ ⟨(Nat.le_of_ble_eq_true rfl), (Nat.le_of_ble_eq_true rfl)⟩ ⟨Nat.zero_le _, Nat.zero_le _⟩ rfl hl.1 (rest := []) rfl (Nat.le_of_ble_eq_true rfl) dX1_get_20 (st1 := [.ref (eP E r6)]) rfl (fun H locs hw => ?_)
      refine lv_iload_n X.1 X.2.1 dX1_get_23 rfl (lv_at hl 1 rfl) ?_
      refine lv_iload_n X.1 X.2.1 dX1_get_24 rfl (lv_at hl 2 rfl) ?_
      obtain ⟨r8, h7, hf⟩ := b_bd1 hf
      refine r_callS X hw (k_X1_placeIn hE  h7) qw469 qw470 qw76 qw471 okX1_placeIn ⟨rfl, rfl⟩ ⟨(Nat.le_of_ble_eq_true rfl), (Nat.le_of_ble_eq_true rfl)⟩ ⟨Nat.zero_le _, Nat.zero_le _⟩ rfl hl.1 (rest := [.ref (eP E r6)]) rfl (Nat.le_of_ble_eq_true rfl) dX1_get_25 (st1 := [.int r8, .ref (eP E r6)]) rfl (fun H locs hw => ?_)
      obtain ⟨h9, hf⟩ := b_ck hf
      refine r_iald X hw (rowOf_sp hE ho h5) h9 dX1_get_28 ?_
      refine lv_goto (tgt := 33) X.1 X.2.1 dX1_get_29 (by decide) ?_
      obtain rfl := Option.some.inj hf
      exact r_iret X hw dX1_get_33
  · have hf := if_t hf c1
    refine lv_aload_n X.1 X.2.1 dX1_get_4 rfl (lv_at hl 0 rfl) ?_
    refine r_get X hw (spP0 hE ho) (C := RX1) (T := TX1) (N := 10) rfl iwX1 8 (by decide) (Nat.le_of_ble_eq_true rfl) qw359 (v := .int (σ o 8)) rfl dX1_get_5 ?_
    obtain rfl := Option.some.inj hf
    exact r_iret X hw dX1_get_8
abbrev rm_X1_put : Room := { frames := 2, cells := 0, slots := 0, locals := 122 }
set_option maxHeartbeats 4000000 in
set_option maxRecDepth 100000 in
theorem k_X1_put {l : Launch} {E : en_T} (hE : ShF E) {o : Nat} (ho : isP o) {x1 : Int32} {x2 : Int32} {x3 : Int32} {σ : sg_T}  {σ' : sg_T} (hf : f_X1_put o x1 x2 x3 σ = some σ') : Ct l yX1_put cX1_put 4 none rm_X1_put E [.ref (eP E o), .int x1, .int x2, .int x3] σ none σ' := by
  refine Ct.start (by decide) hE.1 (Nat.le_of_ble_eq_true rfl) ?_
  intro p e s m below meth c X hw ls hl
  have X : Cx E p s m _ meth c cX1_put 4 RX1 none := X
  have hR : ShR E := hE.r
  have hl : lv_has ls 4 [(0, .ref (eP E o)), (1, .int x1), (2, .int x2), (3, .int x3)] := hl
  unfold f_X1_put at hf
  refine lv_iload_n X.1 X.2.1 dX1_put_0 rfl (lv_at hl 1 rfl) ?_
  refine lv_if_ne (tgt := 12) X.1 X.2.1 dX1_put_1 (by decide) (fun c1 => ?_) (fun c1 => ?_)
  · have hf := if_e hf c1
    refine lv_iload_n X.1 X.2.1 dX1_put_12 rfl (lv_at hl 1 rfl) ?_
    refine lv_bipush (v := 8) X.1 X.2.1 dX1_put_13 (by decide) ?_
    refine lv_icmp_ne (tgt := 26) X.1 X.2.1 dX1_put_15 (by decide) (fun c2 => ?_) (fun c2 => ?_)
    · have hf := if_e hf c2
      refine lv_iload_n X.1 X.2.1 dX1_put_26 rfl (lv_at hl 1 rfl) ?_
      refine lv_bipush (v := 9) X.1 X.2.1 dX1_put_27 (by decide) ?_
      refine lv_icmp_eq (tgt := 53) X.1 X.2.1 dX1_put_29 (by decide) (fun c3 => ?_) (fun c3 => ?_)
      · have hf := if_t hf c3
        obtain rfl := Option.some.inj hf
        exact r_vret X hw dX1_put_53
      · have hf := if_e hf c3
        refine lv_aload_n X.1 X.2.1 dX1_put_32 rfl (lv_at hl 0 rfl) ?_
        refine lv_iload_n X.1 X.2.1 dX1_put_33 rfl (lv_at hl 1 rfl) ?_
        refine lv_iload_n X.1 X.2.1 dX1_put_34 rfl (lv_at hl 2 rfl) ?_
        obtain ⟨r5, h4, hf⟩ := b_bd1 hf
        refine r_callV X hw (k_X1_hasPlace hE ho h4) (spP0 hE ho) (C := RX1) (T := TX1) (N := 10) rfl qw464 qw451 qw452 qw76 qw453 okX1_hasPlace ⟨rfl, rfl⟩ ⟨(Nat.le_of_ble_eq_true rfl), (Nat.le_of_ble_eq_true rfl)⟩ ⟨Nat.zero_le _, Nat.zero_le _⟩ rfl hl.1 (rest := []) rfl (Nat.le_of_ble_eq_true rfl) dX1_put_35 (st1 := [.int r5]) rfl (fun H locs hw => ?_)
        refine lv_if_eq (tgt := 53) X.1 X.2.1 dX1_put_38 (by decide) (fun c6 => ?_) (fun c6 => ?_)
        · have hf := if_t hf c6
          obtain rfl := Option.some.inj hf
          exact r_vret X hw dX1_put_53
        · have hf := if_e hf c6
          refine lv_aload_n X.1 X.2.1 dX1_put_41 rfl (lv_at hl 0 rfl) ?_
          refine lv_iload_n X.1 X.2.1 dX1_put_42 rfl (lv_at hl 1 rfl) ?_
          obtain ⟨r8, h7, hf⟩ := b_bd1 hf
          refine r_callV X hw (k_X1_rowOf hE ho h7) (spP0 hE ho) (C := RX1) (T := TX1) (N := 10) rfl qw465 qw467 qw16 qw76 qw468 okX1_rowOf ⟨rfl, rfl⟩ ⟨(Nat.le_of_ble_eq_true rfl), (Nat.le_of_ble_eq_true rfl)⟩ ⟨Nat.zero_le _, Nat.zero_le _⟩ rfl hl.1 (rest := []) rfl (Nat.le_of_ble_eq_true rfl) dX1_put_43 (st1 := [.ref (eP E r8)]) rfl (fun H locs hw => ?_)
          refine lv_iload_n X.1 X.2.1 dX1_put_46 rfl (lv_at hl 1 rfl) ?_
          refine lv_iload_n X.1 X.2.1 dX1_put_47 rfl (lv_at hl 2 rfl) ?_
          obtain ⟨r10, h9, hf⟩ := b_bd1 hf
          refine r_callS X hw (k_X1_placeIn hE  h9) qw469 qw470 qw76 qw471 okX1_placeIn ⟨rfl, rfl⟩ ⟨(Nat.le_of_ble_eq_true rfl), (Nat.le_of_ble_eq_true rfl)⟩ ⟨Nat.zero_le _, Nat.zero_le _⟩ rfl hl.1 (rest := [.ref (eP E r8)]) rfl (Nat.le_of_ble_eq_true rfl) dX1_put_48 (st1 := [.int r10, .ref (eP E r8)]) rfl (fun H locs hw => ?_)
          refine lv_iload_n X.1 X.2.1 dX1_put_51 rfl (lv_at hl 3 rfl) ?_
          obtain ⟨h11, hf⟩ := b_ck hf
          refine r_iast X hw (rowOf_sp hE ho h7) h11 dX1_put_52 (fun H locs hw => ?_)
          obtain ⟨σ12, e13, hf⟩ := b_bnd hf
          rw [← e13] at hw
          obtain rfl := Option.some.inj hf
          exact r_vret X hw dX1_put_53
    · have hf := if_t hf c2
      refine lv_aload_n X.1 X.2.1 dX1_put_18 rfl (lv_at hl 0 rfl) ?_
      refine lv_iload_n X.1 X.2.1 dX1_put_19 rfl (lv_at hl 3 rfl) ?_
      refine r_put X hw (spP0 hE ho) (C := RX1) (T := TX1) (N := 10) rfl iwX1 tyX1 tyX1_ok nmX1 9 (by decide) (Nat.le_of_ble_eq_true rfl) qw360 rfl (v := .int x3) rfl rfl (x := x3) rfl dX1_put_20 (fun H locs hw => ?_)
      obtain ⟨σ14, e15, hf⟩ := b_bnd hf
      rw [← e15] at hw
      refine lv_goto (tgt := 53) X.1 X.2.1 dX1_put_23 (by decide) ?_
      obtain rfl := Option.some.inj hf
      exact r_vret X hw dX1_put_53
  · have hf := if_t hf c1
    refine lv_aload_n X.1 X.2.1 dX1_put_4 rfl (lv_at hl 0 rfl) ?_
    refine lv_iload_n X.1 X.2.1 dX1_put_5 rfl (lv_at hl 3 rfl) ?_
    refine r_put X hw (spP0 hE ho) (C := RX1) (T := TX1) (N := 10) rfl iwX1 tyX1 tyX1_ok nmX1 8 (by decide) (Nat.le_of_ble_eq_true rfl) qw359 rfl (v := .int x3) rfl rfl (x := x3) rfl dX1_put_6 (fun H locs hw => ?_)
    obtain ⟨σ16, e17, hf⟩ := b_bnd hf
    rw [← e17] at hw
    refine lv_goto (tgt := 53) X.1 X.2.1 dX1_put_9 (by decide) ?_
    obtain rfl := Option.some.inj hf
    exact r_vret X hw dX1_put_53
abbrev rm_X1_come : Room := { frames := 0, cells := 0, slots := 0, locals := 0 }
set_option maxHeartbeats 4000000 in
set_option maxRecDepth 100000 in
theorem w_X1_come_114 {p : Program} {l : Launch} {e : Env} {s : State} {m : MethodId} {args : Array Value} {below : List Frame} {meth : Method} {c : Code} {Q : State → Prop} {E : en_T} (X : Cx E p s m args meth c cX1_come 6 RX1 (some .int)) (hE : ShF E) {o50 : Nat} (ho50 : isP o50) {u1 : Int32} {u2 : Int32} {u3 : Int32} {u4 : Int32}  {res : Int32 × sg_T} :
    ∀ (n : Nat) (w5 : Int32) (σ : sg_T), itr (fun q => b_X1_come_114 o50 u1 u2 u3 u4 q.1 q.2) n (w5, σ) = some res → ∀ (H : Heap) (locs : List Loc) (ls : Array Slot), Hw E σ s H locs → lv_has ls 6 [(0, .ref (eP E o50)), (1, .int u1), (2, .int u2), (3, .int u3), (4, .int u4), (5, .int w5)] →
    (∀ (y5 : Int32) (τ : sg_T), res = (y5, τ) → ∀ (H : Heap) (locs : List Loc) (ls : Array Slot), Hw E τ s H locs → lv_has ls 6 [(0, .ref (eP E o50)), (1, .int u1), (2, .int u2), (3, .int u3), (4, .int u4), (5, .int y5)] → W p l e rm_X1_come s m args below meth c H locs 0 0 Q (F0 m 153 ls [])) →
    W p l e rm_X1_come s m args below meth c H locs 0 0 Q (F0 m 114 ls []) := by
  have hR : ShR E := hE.r
  intro n
  induction n with
  | zero =>
    intro w5 σ hf0
    exact (itr_0 hf0).elim
  | succ n ih =>
    intro w5 σ hf0 H locs ls hw hl K1
    obtain ⟨r0, hf, hr1, hr2⟩ := itr_s hf0
    have hf : b_X1_come_114 o50 u1 u2 u3 u4 w5 σ = some r0 := hf
    unfold b_X1_come_114 at hf
    refine lv_iload X.1 X.2.1 dX1_come_114 (lv_at hl 5 rfl) ?_
    refine lv_iload X.1 X.2.1 dX1_come_116 (lv_at hl 4 rfl) ?_
    refine lv_icmp_ge (tgt := 153) X.1 X.2.1 dX1_come_118 (by decide) (fun c30 => ?_) (fun c30 => ?_)
    · have hf := if_t hf c30
      obtain rfl := Option.some.inj hf
      obtain rfl := hr2 _ rfl
      exact K1 _ _ rfl _ _ _ hw (lv_sub hl [0, 1, 2, 3, 4, 5] rfl)
    · have hf := if_e hf c30
      refine lv_aload_n X.1 X.2.1 dX1_come_121 rfl (lv_at hl 0 rfl) ?_
      refine r_get X hw (spP0 hE ho50) (C := RX1) (T := TX1) (N := 10) rfl iwX1 6 (by decide) (Nat.le_of_ble_eq_true rfl) qw357 (v := .ref (eP E (o50 + 7))) rfl dX1_come_122 ?_
      refine lv_iload X.1 X.2.1 dX1_come_125 (lv_at hl 4 rfl) ?_
      refine lv_iconst (v := 5) X.1 X.2.1 dX1_come_127 (by decide) ?_
      refine lv_imul X.1 X.2.1 dX1_come_128 ?_
      refine lv_iload X.1 X.2.1 dX1_come_129 (lv_at hl 5 rfl) ?_
      refine lv_iadd X.1 X.2.1 dX1_come_131 ?_
      refine lv_iconst (v := 1) X.1 X.2.1 dX1_come_132 (by decide) ?_
      obtain ⟨h31, hf⟩ := b_ck hf
      refine r_iast X hw (spP7 hE ho50) h31 dX1_come_133 (fun H locs hw => ?_)
      obtain ⟨σ32, e33, hf⟩ := b_bnd hf
      rw [← e33] at hw
      refine lv_aload_n X.1 X.2.1 dX1_come_134 rfl (lv_at hl 0 rfl) ?_
      refine r_get X hw (spP0 hE ho50) (C := RX1) (T := TX1) (N := 10) rfl iwX1 6 (by decide) (Nat.le_of_ble_eq_true rfl) qw357 (v := .ref (eP E (o50 + 7))) rfl dX1_come_135 ?_
      refine lv_iload X.1 X.2.1 dX1_come_138 (lv_at hl 5 rfl) ?_
      refine lv_iconst (v := 5) X.1 X.2.1 dX1_come_140 (by decide) ?_
      refine lv_imul X.1 X.2.1 dX1_come_141 ?_
      refine lv_iload X.1 X.2.1 dX1_come_142 (lv_at hl 4 rfl) ?_
      refine lv_iadd X.1 X.2.1 dX1_come_144 ?_
      refine lv_iconst (v := 1) X.1 X.2.1 dX1_come_145 (by decide) ?_
      obtain ⟨h34, hf⟩ := b_ck hf
      refine r_iast X hw (spP7 hE ho50) h34 dX1_come_146 (fun H locs hw => ?_)
      obtain ⟨σ35, e36, hf⟩ := b_bnd hf
      rw [← e36] at hw
      obtain ⟨v37, e38, hf⟩ := b_bnd hf
      refine lv_iinc (v := v37) (k := 5) (lv' := [(5, .int v37), (0, .ref (eP E o50)), (1, .int u1), (2, .int u2), (3, .int u3), (4, .int u4)]) X.1 X.2.1 dX1_come_147 hl rfl (by rw [e38]; exact congrArg _ (by decide)) (by decide) rfl (fun ls hl => ?_)
      refine lv_goto (tgt := 114) X.1 X.2.1 dX1_come_150 (by decide) ?_
      obtain rfl := Option.some.inj hf
      exact ih _ _ (hr1 _ rfl) _ _ _ hw (lv_sub hl [1, 2, 3, 4, 5, 0] rfl) K1
set_option maxHeartbeats 4000000 in
set_option maxRecDepth 100000 in
theorem k_X1_come {l : Launch} {E : en_T} (hE : ShF E) {o : Nat} (ho : isP o) {x1 : Int32} {x2 : Int32} {x3 : Int32} {σ : sg_T} {r : Int32} {σ' : sg_T} (hf : f_X1_come o x1 x2 x3 σ = some (r, σ')) : Ct l yX1_come cX1_come 6 (some .int) rm_X1_come E [.ref (eP E o), .int x1, .int x2, .int x3] σ (some (.int r)) σ' := by
  refine Ct.start (by decide) hE.1 (Nat.le_of_ble_eq_true rfl) ?_
  intro p e s m below meth c X hw ls hl
  have X : Cx E p s m _ meth c cX1_come 6 RX1 (some .int) := X
  have hR : ShR E := hE.r
  have hl : lv_has ls 6 [(0, .ref (eP E o)), (1, .int x1), (2, .int x2), (3, .int x3)] := hl
  unfold f_X1_come at hf
  refine lv_iload_n X.1 X.2.1 dX1_come_0 rfl (lv_at hl 1 rfl) ?_
  refine lv_if_lt (tgt := 33) X.1 X.2.1 dX1_come_1 (by decide) (fun c1 => ?_) (fun c1 => ?_)
  · have hf := if_t hf c1
    refine lv_bipush (v := (-2)) X.1 X.2.1 dX1_come_33 (by decide) ?_
    obtain ⟨rfl, rfl⟩ := Prod.mk.inj (Option.some.inj hf)
    exact r_iret X hw dX1_come_35
  · have hf := if_e hf c1
    refine lv_iload_n X.1 X.2.1 dX1_come_4 rfl (lv_at hl 1 rfl) ?_
    refine lv_bipush (v := 6) X.1 X.2.1 dX1_come_5 (by decide) ?_
    refine lv_icmp_ge (tgt := 33) X.1 X.2.1 dX1_come_7 (by decide) (fun c2 => ?_) (fun c2 => ?_)
    · have hf := if_t hf c2
      refine lv_bipush (v := (-2)) X.1 X.2.1 dX1_come_33 (by decide) ?_
      obtain ⟨rfl, rfl⟩ := Prod.mk.inj (Option.some.inj hf)
      exact r_iret X hw dX1_come_35
    · have hf := if_e hf c2
      refine lv_iload_n X.1 X.2.1 dX1_come_10 rfl (lv_at hl 2 rfl) ?_
      refine lv_if_lt (tgt := 33) X.1 X.2.1 dX1_come_11 (by decide) (fun c3 => ?_) (fun c3 => ?_)
      · have hf := if_t hf c3
        refine lv_bipush (v := (-2)) X.1 X.2.1 dX1_come_33 (by decide) ?_
        obtain ⟨rfl, rfl⟩ := Prod.mk.inj (Option.some.inj hf)
        exact r_iret X hw dX1_come_35
      · have hf := if_e hf c3
        refine lv_iload_n X.1 X.2.1 dX1_come_14 rfl (lv_at hl 2 rfl) ?_
        refine r_hiN X hw (by simp [lw_nest]) dX1_come_15 ?_
        refine lv_iconst (v := 1) X.1 X.2.1 dX1_come_18 (by decide) ?_
        obtain ⟨h4, hf⟩ := b_ck hf
        refine r_hild X hw h4 dX1_come_19 ?_
        refine lv_icmp_gt (tgt := 33) X.1 X.2.1 dX1_come_20 (by decide) (fun c5 => ?_) (fun c5 => ?_)
        · have hf := if_t hf c5
          refine lv_bipush (v := (-2)) X.1 X.2.1 dX1_come_33 (by decide) ?_
          obtain ⟨rfl, rfl⟩ := Prod.mk.inj (Option.some.inj hf)
          exact r_iret X hw dX1_come_35
        · have hf := if_e hf c5
          refine lv_iload_n X.1 X.2.1 dX1_come_23 rfl (lv_at hl 3 rfl) ?_
          refine lv_if_lt (tgt := 33) X.1 X.2.1 dX1_come_24 (by decide) (fun c6 => ?_) (fun c6 => ?_)
          · have hf := if_t hf c6
            refine lv_bipush (v := (-2)) X.1 X.2.1 dX1_come_33 (by decide) ?_
            obtain ⟨rfl, rfl⟩ := Prod.mk.inj (Option.some.inj hf)
            exact r_iret X hw dX1_come_35
          · have hf := if_e hf c6
            refine lv_iload_n X.1 X.2.1 dX1_come_27 rfl (lv_at hl 3 rfl) ?_
            refine lv_bipush (v := 24) X.1 X.2.1 dX1_come_28 (by decide) ?_
            refine lv_icmp_lt (tgt := 36) X.1 X.2.1 dX1_come_30 (by decide) (fun c7 => ?_) (fun c7 => ?_)
            · have hf := if_t hf c7
              refine lv_aload_n X.1 X.2.1 dX1_come_36 rfl (lv_at hl 0 rfl) ?_
              refine r_get X hw (spP0 hE ho) (C := RX1) (T := TX1) (N := 10) rfl iwX1 7 (by decide) (Nat.le_of_ble_eq_true rfl) qw358 (v := .int (σ o 7)) rfl dX1_come_37 ?_
              refine lv_iconst (v := 5) X.1 X.2.1 dX1_come_40 (by decide) ?_
              refine lv_icmp_lt (tgt := 47) X.1 X.2.1 dX1_come_41 (by decide) (fun c8 => ?_) (fun c8 => ?_)
              · have hf := if_t hf c8
                refine lv_aload_n X.1 X.2.1 dX1_come_47 rfl (lv_at hl 0 rfl) ?_
                refine r_get X hw (spP0 hE ho) (C := RX1) (T := TX1) (N := 10) rfl iwX1 7 (by decide) (Nat.le_of_ble_eq_true rfl) qw358 (v := .int (σ o 7)) rfl dX1_come_48 ?_
                refine r_bnd hf (fun v9 hf => ?_)
                refine lv_istore (lv' := [(4, .int v9), (0, .ref (eP E o)), (1, .int x1), (2, .int x2), (3, .int x3)]) X.1 X.2.1 dX1_come_51 hl (by decide) rfl (fun ls hl => ?_)
                refine lv_aload_n X.1 X.2.1 dX1_come_53 rfl (lv_at hl 1 rfl) ?_
                refine lv_dup X.1 X.2.1 dX1_come_54 rfl ?_
                refine r_get X hw (spP0 hE ho) (C := RX1) (T := TX1) (N := 10) rfl iwX1 7 (by decide) (Nat.le_of_ble_eq_true rfl) qw358 (v := .int (σ o 7)) rfl dX1_come_55 ?_
                refine lv_iconst (v := 1) X.1 X.2.1 dX1_come_58 (by decide) ?_
                refine lv_iadd X.1 X.2.1 dX1_come_59 ?_
                refine r_put X hw (spP0 hE ho) (C := RX1) (T := TX1) (N := 10) rfl iwX1 tyX1 tyX1_ok nmX1 7 (by decide) (Nat.le_of_ble_eq_true rfl) qw358 rfl (v := .int ((σ o 7) + 1)) rfl rfl (x := ((σ o 7) + 1)) rfl dX1_come_60 (fun H locs hw => ?_)
                obtain ⟨σ10, e11, hf⟩ := b_bnd hf
                rw [← e11] at hw
                refine lv_aload_n X.1 X.2.1 dX1_come_63 rfl (lv_at hl 1 rfl) ?_
                refine r_get X hw (spP0 hE ho) (C := RX1) (T := TX1) (N := 10) rfl iwX1 0 (by decide) (Nat.le_of_ble_eq_true rfl) qw351 (v := .ref (eP E (o + 1))) rfl dX1_come_64 ?_
                refine lv_iload X.1 X.2.1 dX1_come_67 (lv_at hl 0 rfl) ?_
                refine lv_iload_n X.1 X.2.1 dX1_come_69 rfl (lv_at hl 2 rfl) ?_
                obtain ⟨h12, hf⟩ := b_ck hf
                refine r_iast X hw (spP1 hE ho) h12 dX1_come_70 (fun H locs hw => ?_)
                obtain ⟨σ13, e14, hf⟩ := b_bnd hf
                rw [← e14] at hw
                refine lv_aload_n X.1 X.2.1 dX1_come_71 rfl (lv_at hl 1 rfl) ?_
                refine r_get X hw (spP0 hE ho) (C := RX1) (T := TX1) (N := 10) rfl iwX1 1 (by decide) (Nat.le_of_ble_eq_true rfl) qw352 (v := .ref (eP E (o + 2))) rfl dX1_come_72 ?_
                refine lv_iload X.1 X.2.1 dX1_come_75 (lv_at hl 0 rfl) ?_
                refine lv_iload_n X.1 X.2.1 dX1_come_77 rfl (lv_at hl 3 rfl) ?_
                obtain ⟨h15, hf⟩ := b_ck hf
                refine r_iast X hw (spP2 hE ho) h15 dX1_come_78 (fun H locs hw => ?_)
                obtain ⟨σ16, e17, hf⟩ := b_bnd hf
                rw [← e17] at hw
                refine lv_aload_n X.1 X.2.1 dX1_come_79 rfl (lv_at hl 1 rfl) ?_
                refine r_get X hw (spP0 hE ho) (C := RX1) (T := TX1) (N := 10) rfl iwX1 2 (by decide) (Nat.le_of_ble_eq_true rfl) qw353 (v := .ref (eP E (o + 3))) rfl dX1_come_80 ?_
                refine lv_iload X.1 X.2.1 dX1_come_83 (lv_at hl 0 rfl) ?_
                refine lv_iload_n X.1 X.2.1 dX1_come_85 rfl (lv_at hl 4 rfl) ?_
                obtain ⟨h18, hf⟩ := b_ck hf
                refine r_iast X hw (spP3 hE ho) h18 dX1_come_86 (fun H locs hw => ?_)
                obtain ⟨σ19, e20, hf⟩ := b_bnd hf
                rw [← e20] at hw
                refine lv_aload_n X.1 X.2.1 dX1_come_87 rfl (lv_at hl 1 rfl) ?_
                refine r_get X hw (spP0 hE ho) (C := RX1) (T := TX1) (N := 10) rfl iwX1 3 (by decide) (Nat.le_of_ble_eq_true rfl) qw354 (v := .ref (eP E (o + 4))) rfl dX1_come_88 ?_
                refine lv_iload X.1 X.2.1 dX1_come_91 (lv_at hl 0 rfl) ?_
                refine lv_iconst (v := 0) X.1 X.2.1 dX1_come_93 (by decide) ?_
                obtain ⟨h21, hf⟩ := b_ck hf
                refine r_iast X hw (spP4 hE ho) h21 dX1_come_94 (fun H locs hw => ?_)
                obtain ⟨σ22, e23, hf⟩ := b_bnd hf
                rw [← e23] at hw
                refine lv_aload_n X.1 X.2.1 dX1_come_95 rfl (lv_at hl 1 rfl) ?_
                refine r_get X hw (spP0 hE ho) (C := RX1) (T := TX1) (N := 10) rfl iwX1 4 (by decide) (Nat.le_of_ble_eq_true rfl) qw355 (v := .ref (eP E (o + 5))) rfl dX1_come_96 ?_
                refine lv_iload X.1 X.2.1 dX1_come_99 (lv_at hl 0 rfl) ?_
                refine lv_iconst (v := 0) X.1 X.2.1 dX1_come_101 (by decide) ?_
                obtain ⟨h24, hf⟩ := b_ck hf
                refine r_iast X hw (spP5 hE ho) h24 dX1_come_102 (fun H locs hw => ?_)
                obtain ⟨σ25, e26, hf⟩ := b_bnd hf
                rw [← e26] at hw
                refine lv_aload_n X.1 X.2.1 dX1_come_103 rfl (lv_at hl 1 rfl) ?_
                refine r_get X hw (spP0 hE ho) (C := RX1) (T := TX1) (N := 10) rfl iwX1 5 (by decide) (Nat.le_of_ble_eq_true rfl) qw356 (v := .ref (eP E (o + 6))) rfl dX1_come_104 ?_
                refine lv_iload X.1 X.2.1 dX1_come_107 (lv_at hl 0 rfl) ?_
                refine lv_iconst (v := 0) X.1 X.2.1 dX1_come_109 (by decide) ?_
                obtain ⟨h27, hf⟩ := b_ck hf
                refine r_iast X hw (spP6 hE ho) h27 dX1_come_110 (fun H locs hw => ?_)
                obtain ⟨σ28, e29, hf⟩ := b_bnd hf
                rw [← e29] at hw
                refine lv_iconst (v := 0) X.1 X.2.1 dX1_come_111 (by decide) ?_
                refine lv_istore (lv' := [(5, .int 0), (4, .int v9), (0, .ref (eP E o)), (1, .int x1), (2, .int x2), (3, .int x3)]) X.1 X.2.1 dX1_come_112 hl (by decide) rfl (fun ls hl => ?_)
                obtain ⟨v40, σ41, h39, hf⟩ := b_bd2 hf
                refine w_X1_come_114 X hE ho lfu _ _ h39 _ _ _ hw (lv_sub hl [2, 3, 4, 5, 1, 0] rfl) (fun yv40 yσ41 hq H locs ls hw hl => ?_)
                cases hq
                refine lv_iload X.1 X.2.1 dX1_come_153 (lv_at hl 4 rfl) ?_
                obtain ⟨rfl, rfl⟩ := Prod.mk.inj (Option.some.inj hf)
                exact r_iret X hw dX1_come_155
              · have hf := if_e hf c8
                refine lv_bipush (v := (-4)) X.1 X.2.1 dX1_come_44 (by decide) ?_
                obtain ⟨rfl, rfl⟩ := Prod.mk.inj (Option.some.inj hf)
                exact r_iret X hw dX1_come_46
            · have hf := if_e hf c7
              refine lv_bipush (v := (-2)) X.1 X.2.1 dX1_come_33 (by decide) ?_
              obtain ⟨rfl, rfl⟩ := Prod.mk.inj (Option.some.inj hf)
              exact r_iret X hw dX1_come_35
abbrev rm_X1_setterOf : Room := { frames := 1, cells := 0, slots := 0, locals := 100 }
set_option maxHeartbeats 4000000 in
set_option maxRecDepth 100000 in
theorem w_X1_setterOf_17 {p : Program} {l : Launch} {e : Env} {s : State} {m : MethodId} {args : Array Value} {below : List Frame} {meth : Method} {c : Code} {Q : State → Prop} {E : en_T} (X : Cx E p s m args meth c cX1_setterOf 6 RX1 (some .int)) (hE : ShF E) {o50 : Nat} (ho50 : isP o50) {u1 : Int32} {σ : sg_T} {res : Int32 × Int32 × Int32} :
    ∀ (n : Nat) (w2 : Int32) (w3 : Int32) (w4 : Int32), itr (fun q => b_X1_setterOf_17 o50 u1 q.1 q.2.1 q.2.2 σ) n (w2, w3, w4) = some res → ∀ (H : Heap) (locs : List Loc) (ls : Array Slot), Hw E σ s H locs → lv_has ls 6 [(0, .ref (eP E o50)), (1, .int u1), (2, .int w2), (3, .int w3), (4, .int w4)] →
    (∀ (y2 : Int32) (y3 : Int32) (y4 : Int32), res = (y2, y3, y4) → ∀ (H : Heap) (locs : List Loc) (ls : Array Slot), Hw E σ s H locs → lv_has ls 6 [(0, .ref (eP E o50)), (1, .int u1), (2, .int y2), (3, .int y3), (4, .int y4)] → W p l e rm_X1_setterOf s m args below meth c H locs 0 0 Q (F0 m 57 ls [])) →
    W p l e rm_X1_setterOf s m args below meth c H locs 0 0 Q (F0 m 17 ls []) := by
  have hR : ShR E := hE.r
  intro n
  induction n with
  | zero =>
    intro w2 w3 w4 hf0
    exact (itr_0 hf0).elim
  | succ n ih =>
    intro w2 w3 w4 hf0 H locs ls hw hl K1
    obtain ⟨r0, hf, hr1, hr2⟩ := itr_s hf0
    have hf : b_X1_setterOf_17 o50 u1 w2 w3 w4 σ = some r0 := hf
    unfold b_X1_setterOf_17 at hf
    refine lv_iload X.1 X.2.1 dX1_setterOf_17 (lv_at hl 4 rfl) ?_
    refine lv_aload_n X.1 X.2.1 dX1_setterOf_19 rfl (lv_at hl 0 rfl) ?_
    refine r_get X hw (spP0 hE ho50) (C := RX1) (T := TX1) (N := 10) rfl iwX1 7 (by decide) (Nat.le_of_ble_eq_true rfl) qw358 (v := .int (σ o50 7)) rfl dX1_setterOf_20 ?_
    refine lv_icmp_ge (tgt := 57) X.1 X.2.1 dX1_setterOf_23 (by decide) (fun c4 => ?_) (fun c4 => ?_)
    · have hf := if_t hf c4
      obtain rfl := Option.some.inj hf
      obtain rfl := hr2 _ rfl
      exact K1 _ _ _ rfl _ _ _ hw (lv_sub hl [0, 1, 2, 3, 4] rfl)
    · have hf := if_e hf c4
      refine lv_aload_n X.1 X.2.1 dX1_setterOf_26 rfl (lv_at hl 0 rfl) ?_
      refine r_get X hw (spP0 hE ho50) (C := RX1) (T := TX1) (N := 10) rfl iwX1 6 (by decide) (Nat.le_of_ble_eq_true rfl) qw357 (v := .ref (eP E (o50 + 7))) rfl dX1_setterOf_27 ?_
      refine lv_iload X.1 X.2.1 dX1_setterOf_30 (lv_at hl 4 rfl) ?_
      refine lv_iconst (v := 5) X.1 X.2.1 dX1_setterOf_32 (by decide) ?_
      refine lv_imul X.1 X.2.1 dX1_setterOf_33 ?_
      refine lv_iload_n X.1 X.2.1 dX1_setterOf_34 rfl (lv_at hl 1 rfl) ?_
      refine lv_iadd X.1 X.2.1 dX1_setterOf_35 ?_
      obtain ⟨h5, hf⟩ := b_ck hf
      refine r_iald X hw (spP7 hE ho50) h5 dX1_setterOf_36 ?_
      refine r_bnd hf (fun v6 hf => ?_)
      refine lv_istore (lv' := [(5, .int v6), (0, .ref (eP E o50)), (1, .int u1), (2, .int w2), (3, .int w3), (4, .int w4)]) X.1 X.2.1 dX1_setterOf_37 hl (by decide) rfl (fun ls hl => ?_)
      refine lv_iload X.1 X.2.1 dX1_setterOf_39 (lv_at hl 0 rfl) ?_
      refine lv_iload_n X.1 X.2.1 dX1_setterOf_41 rfl (lv_at hl 4 rfl) ?_
      refine lv_icmp_le (tgt := 51) X.1 X.2.1 dX1_setterOf_42 (by decide) (fun c7 => ?_) (fun c7 => ?_)
      · have hf := if_t hf c7
        obtain ⟨v8, e9, hf⟩ := b_bnd hf
        refine lv_iinc (v := v8) (k := 5) (lv' := [(4, .int v8), (5, .int v6), (0, .ref (eP E o50)), (1, .int u1), (2, .int w2), (3, .int w3)]) X.1 X.2.1 dX1_setterOf_51 hl rfl (by rw [e9]; exact congrArg _ (by decide)) (by decide) rfl (fun ls hl => ?_)
        refine lv_goto (tgt := 17) X.1 X.2.1 dX1_setterOf_54 (by decide) ?_
        obtain rfl := Option.some.inj hf
        exact ih _ _ _ (hr1 _ rfl) _ _ _ hw (lv_sub hl [2, 3, 4, 5, 0] rfl) K1
      · have hf := if_e hf c7
        refine lv_iload X.1 X.2.1 dX1_setterOf_45 (lv_at hl 0 rfl) ?_
        refine lv_istore_n (lv' := [(3, .int v6), (5, .int v6), (0, .ref (eP E o50)), (1, .int u1), (2, .int w2), (4, .int w4)]) X.1 X.2.1 dX1_setterOf_47 rfl hl (by decide) rfl (fun ls hl => ?_)
        refine lv_iload X.1 X.2.1 dX1_setterOf_48 (lv_at hl 5 rfl) ?_
        refine lv_istore_n (lv' := [(2, .int w4), (3, .int v6), (5, .int v6), (0, .ref (eP E o50)), (1, .int u1), (4, .int w4)]) X.1 X.2.1 dX1_setterOf_50 rfl hl (by decide) rfl (fun ls hl => ?_)
        obtain ⟨v10, e11, hf⟩ := b_bnd hf
        refine lv_iinc (v := v10) (k := 5) (lv' := [(4, .int v10), (2, .int w4), (3, .int v6), (5, .int v6), (0, .ref (eP E o50)), (1, .int u1)]) X.1 X.2.1 dX1_setterOf_51 hl rfl (by rw [e11]; exact congrArg _ (by decide)) (by decide) rfl (fun ls hl => ?_)
        refine lv_goto (tgt := 17) X.1 X.2.1 dX1_setterOf_54 (by decide) ?_
        obtain rfl := Option.some.inj hf
        exact ih _ _ _ (hr1 _ rfl) _ _ _ hw (lv_sub hl [4, 5, 1, 2, 0] rfl) K1
set_option maxHeartbeats 4000000 in
set_option maxRecDepth 100000 in
theorem k_X1_setterOf {l : Launch} {E : en_T} (hE : ShF E) {o : Nat} (ho : isP o) {x1 : Int32} {σ : sg_T} {r : Int32} (hf : f_X1_setterOf o x1 σ = some r) : Ct l yX1_setterOf cX1_setterOf 6 (some .int) rm_X1_setterOf E [.ref (eP E o), .int x1] σ (some (.int r)) σ := by
  refine Ct.start (by decide) hE.1 (Nat.le_of_ble_eq_true rfl) ?_
  intro p e s m below meth c X hw ls hl
  have X : Cx E p s m _ meth c cX1_setterOf 6 RX1 (some .int) := X
  have hR : ShR E := hE.r
  have hl : lv_has ls 6 [(0, .ref (eP E o)), (1, .int x1)] := hl
  unfold f_X1_setterOf at hf
  refine lv_aload_n X.1 X.2.1 dX1_setterOf_0 rfl (lv_at hl 0 rfl) ?_
  refine lv_iload_n X.1 X.2.1 dX1_setterOf_1 rfl (lv_at hl 1 rfl) ?_
  obtain ⟨r2, h1, hf⟩ := b_bd1 hf
  refine r_callV X hw (k_X1_has hE ho h1) (spP0 hE ho) (C := RX1) (T := TX1) (N := 10) rfl qw454 qw455 qw456 qw76 qw457 okX1_has ⟨rfl, rfl⟩ ⟨(Nat.le_of_ble_eq_true rfl), (Nat.le_of_ble_eq_true rfl)⟩ ⟨Nat.zero_le _, Nat.zero_le _⟩ rfl hl.1 (rest := []) rfl (Nat.le_of_ble_eq_true rfl) dX1_setterOf_2 (st1 := [.int r2]) rfl (fun H locs hw => ?_)
  refine lv_if_ne (tgt := 10) X.1 X.2.1 dX1_setterOf_5 (by decide) (fun c3 => ?_) (fun c3 => ?_)
  · have hf := if_e hf c3
    refine lv_iconst (v := (-1)) X.1 X.2.1 dX1_setterOf_10 (by decide) ?_
    refine lv_istore_n (lv' := [(2, .int (-1)), (0, .ref (eP E o)), (1, .int x1)]) X.1 X.2.1 dX1_setterOf_11 rfl hl (by decide) rfl (fun ls hl => ?_)
    refine lv_iconst (v := 0) X.1 X.2.1 dX1_setterOf_12 (by decide) ?_
    refine lv_istore_n (lv' := [(3, .int 0), (2, .int (-1)), (0, .ref (eP E o)), (1, .int x1)]) X.1 X.2.1 dX1_setterOf_13 rfl hl (by decide) rfl (fun ls hl => ?_)
    refine lv_iconst (v := 0) X.1 X.2.1 dX1_setterOf_14 (by decide) ?_
    refine lv_istore (lv' := [(4, .int 0), (3, .int 0), (2, .int (-1)), (0, .ref (eP E o)), (1, .int x1)]) X.1 X.2.1 dX1_setterOf_15 hl (by decide) rfl (fun ls hl => ?_)
    obtain ⟨v13, v14, v15, h12, hf⟩ := b_bd3 hf
    refine w_X1_setterOf_17 X hE ho lfu _ _ _ h12 _ _ _ hw (lv_sub hl [3, 4, 2, 1, 0] rfl) (fun yv13 yv14 yv15 hq H locs ls hw hl => ?_)
    cases hq
    refine lv_iload_n X.1 X.2.1 dX1_setterOf_57 rfl (lv_at hl 2 rfl) ?_
    obtain rfl := Option.some.inj hf
    exact r_iret X hw dX1_setterOf_58
  · have hf := if_t hf c3
    refine lv_iconst (v := (-1)) X.1 X.2.1 dX1_setterOf_8 (by decide) ?_
    obtain rfl := Option.some.inj hf
    exact r_iret X hw dX1_setterOf_9
abbrev rm_X1_rule : Room := { frames := 0, cells := 0, slots := 0, locals := 0 }
set_option maxHeartbeats 4000000 in
set_option maxRecDepth 100000 in
theorem k_X1_rule {l : Launch} {E : en_T} (hE : ShF E) {o : Nat} (ho : isP o) {σ : sg_T} {r : Int32} (hf : f_X1_rule o σ = some r) : Ct l yX1_rule cX1_rule 1 (some .int) rm_X1_rule E [.ref (eP E o)] σ (some (.int r)) σ := by
  refine Ct.start (by decide) hE.1 (Nat.le_of_ble_eq_true rfl) ?_
  intro p e s m below meth c X hw ls hl
  have X : Cx E p s m _ meth c cX1_rule 1 RX1 (some .int) := X
  have hR : ShR E := hE.r
  have hl : lv_has ls 1 [(0, .ref (eP E o))] := hl
  unfold f_X1_rule at hf
  refine lv_aload_n X.1 X.2.1 dX1_rule_0 rfl (lv_at hl 0 rfl) ?_
  refine r_get X hw (spP0 hE ho) (C := RX1) (T := TX1) (N := 10) rfl iwX1 9 (by decide) (Nat.le_of_ble_eq_true rfl) qw360 (v := .int (σ o 9)) rfl dX1_rule_1 ?_
  obtain rfl := Option.some.inj hf
  exact r_iret X hw dX1_rule_4
abbrev rm_X1_tellNames : Room := { frames := 1, cells := 0, slots := 0, locals := 100 }
set_option maxHeartbeats 4000000 in
set_option maxRecDepth 100000 in
theorem k_X1_tellNames {l : Launch} {E : en_T} (hE : ShF E) {o : Nat} (ho : isP o) {x1 : Int32} {x2 : Int32} {σ : sg_T}  {σ' : sg_T} (hf : f_X1_tellNames o x1 x2 σ = some σ') : Ct l yX1_tellNames cX1_tellNames 4 none rm_X1_tellNames E [.ref (eP E o), .int x1, .int x2, .ref (eP E 8)] σ none σ' := by
  refine Ct.start (by decide) hE.1 (Nat.le_of_ble_eq_true rfl) ?_
  intro p e s m below meth c X hw ls hl
  have X : Cx E p s m _ meth c cX1_tellNames 4 RX1 none := X
  have hR : ShR E := hE.r
  have hl : lv_has ls 4 [(0, .ref (eP E o)), (1, .int x1), (2, .int x2), (3, .ref (eP E 8))] := hl
  unfold f_X1_tellNames at hf
  refine lv_aload_n X.1 X.2.1 dX1_tellNames_0 rfl (lv_at hl 0 rfl) ?_
  refine lv_iload_n X.1 X.2.1 dX1_tellNames_1 rfl (lv_at hl 1 rfl) ?_
  obtain ⟨r2, h1, hf⟩ := b_bd1 hf
  refine r_callV X hw (k_X1_has hE ho h1) (spP0 hE ho) (C := RX1) (T := TX1) (N := 10) rfl qw454 qw455 qw456 qw76 qw457 okX1_has ⟨rfl, rfl⟩ ⟨(Nat.le_of_ble_eq_true rfl), (Nat.le_of_ble_eq_true rfl)⟩ ⟨Nat.zero_le _, Nat.zero_le _⟩ rfl hl.1 (rest := []) rfl (Nat.le_of_ble_eq_true rfl) dX1_tellNames_2 (st1 := [.int r2]) rfl (fun H locs hw => ?_)
  refine lv_if_eq (tgt := 79) X.1 X.2.1 dX1_tellNames_5 (by decide) (fun c3 => ?_) (fun c3 => ?_)
  · have hf := if_t hf c3
    obtain rfl := Option.some.inj hf
    exact r_vret X hw dX1_tellNames_79
  · have hf := if_e hf c3
    refine lv_aload_n X.1 X.2.1 dX1_tellNames_8 rfl (lv_at hl 0 rfl) ?_
    refine lv_iload_n X.1 X.2.1 dX1_tellNames_9 rfl (lv_at hl 2 rfl) ?_
    obtain ⟨r5, h4, hf⟩ := b_bd1 hf
    refine r_callV X hw (k_X1_has hE ho h4) (spP0 hE ho) (C := RX1) (T := TX1) (N := 10) rfl qw454 qw455 qw456 qw76 qw457 okX1_has ⟨rfl, rfl⟩ ⟨(Nat.le_of_ble_eq_true rfl), (Nat.le_of_ble_eq_true rfl)⟩ ⟨Nat.zero_le _, Nat.zero_le _⟩ rfl hl.1 (rest := []) rfl (Nat.le_of_ble_eq_true rfl) dX1_tellNames_10 (st1 := [.int r5]) rfl (fun H locs hw => ?_)
    refine lv_if_eq (tgt := 79) X.1 X.2.1 dX1_tellNames_13 (by decide) (fun c6 => ?_) (fun c6 => ?_)
    · have hf := if_t hf c6
      obtain rfl := Option.some.inj hf
      exact r_vret X hw dX1_tellNames_79
    · have hf := if_e hf c6
      refine lv_aload_n X.1 X.2.1 dX1_tellNames_16 rfl (lv_at hl 3 rfl) ?_
      refine r_alen X hw (sp8 hR) (v := 6) (by decide) dX1_tellNames_17 ?_
      refine lv_bipush (v := 6) X.1 X.2.1 dX1_tellNames_18 (by decide) ?_
      refine lv_icmp_lt (tgt := 79) X.1 X.2.1 dX1_tellNames_20 (by decide) (fun c7 => ?_) (fun c7 => ?_)
      · have hf := if_t hf c7
        obtain rfl := Option.some.inj hf
        exact r_vret X hw dX1_tellNames_79
      · have hf := if_e hf c7
        refine lv_aload_n X.1 X.2.1 dX1_tellNames_23 rfl (lv_at hl 3 rfl) ?_
        refine lv_iconst (v := 0) X.1 X.2.1 dX1_tellNames_24 (by decide) ?_
        refine lv_aload_n X.1 X.2.1 dX1_tellNames_25 rfl (lv_at hl 0 rfl) ?_
        refine r_get X hw (spP0 hE ho) (C := RX1) (T := TX1) (N := 10) rfl iwX1 6 (by decide) (Nat.le_of_ble_eq_true rfl) qw357 (v := .ref (eP E (o + 7))) rfl dX1_tellNames_26 ?_
        refine lv_iload_n X.1 X.2.1 dX1_tellNames_29 rfl (lv_at hl 1 rfl) ?_
        refine lv_iconst (v := 5) X.1 X.2.1 dX1_tellNames_30 (by decide) ?_
        refine lv_imul X.1 X.2.1 dX1_tellNames_31 ?_
        refine lv_iload_n X.1 X.2.1 dX1_tellNames_32 rfl (lv_at hl 2 rfl) ?_
        refine lv_iadd X.1 X.2.1 dX1_tellNames_33 ?_
        obtain ⟨h8, hf⟩ := b_ck hf
        refine r_iald X hw (spP7 hE ho) h8 dX1_tellNames_34 ?_
        obtain ⟨h9, hf⟩ := b_ck hf
        refine r_iast X hw (sp8 hR) h9 dX1_tellNames_35 (fun H locs hw => ?_)
        obtain ⟨σ10, e11, hf⟩ := b_bnd hf
        rw [← e11] at hw
        refine lv_aload_n X.1 X.2.1 dX1_tellNames_36 rfl (lv_at hl 3 rfl) ?_
        refine lv_iconst (v := 1) X.1 X.2.1 dX1_tellNames_37 (by decide) ?_
        refine lv_aload_n X.1 X.2.1 dX1_tellNames_38 rfl (lv_at hl 0 rfl) ?_
        refine r_get X hw (spP0 hE ho) (C := RX1) (T := TX1) (N := 10) rfl iwX1 2 (by decide) (Nat.le_of_ble_eq_true rfl) qw353 (v := .ref (eP E (o + 3))) rfl dX1_tellNames_39 ?_
        refine lv_iload_n X.1 X.2.1 dX1_tellNames_42 rfl (lv_at hl 2 rfl) ?_
        obtain ⟨h12, hf⟩ := b_ck hf
        refine r_iald X hw (spP3 hE ho) h12 dX1_tellNames_43 ?_
        obtain ⟨h13, hf⟩ := b_ck hf
        refine r_iast X hw (sp8 hR) h13 dX1_tellNames_44 (fun H locs hw => ?_)
        obtain ⟨σ14, e15, hf⟩ := b_bnd hf
        rw [← e15] at hw
        refine lv_aload_n X.1 X.2.1 dX1_tellNames_45 rfl (lv_at hl 3 rfl) ?_
        refine lv_iconst (v := 2) X.1 X.2.1 dX1_tellNames_46 (by decide) ?_
        refine lv_aload_n X.1 X.2.1 dX1_tellNames_47 rfl (lv_at hl 0 rfl) ?_
        refine r_get X hw (spP0 hE ho) (C := RX1) (T := TX1) (N := 10) rfl iwX1 1 (by decide) (Nat.le_of_ble_eq_true rfl) qw352 (v := .ref (eP E (o + 2))) rfl dX1_tellNames_48 ?_
        refine lv_iload_n X.1 X.2.1 dX1_tellNames_51 rfl (lv_at hl 1 rfl) ?_
        obtain ⟨h16, hf⟩ := b_ck hf
        refine r_iald X hw (spP2 hE ho) h16 dX1_tellNames_52 ?_
        obtain ⟨h17, hf⟩ := b_ck hf
        refine r_iast X hw (sp8 hR) h17 dX1_tellNames_53 (fun H locs hw => ?_)
        obtain ⟨σ18, e19, hf⟩ := b_bnd hf
        rw [← e19] at hw
        refine lv_aload_n X.1 X.2.1 dX1_tellNames_54 rfl (lv_at hl 3 rfl) ?_
        refine lv_iconst (v := 3) X.1 X.2.1 dX1_tellNames_55 (by decide) ?_
        refine lv_aload_n X.1 X.2.1 dX1_tellNames_56 rfl (lv_at hl 0 rfl) ?_
        refine r_get X hw (spP0 hE ho) (C := RX1) (T := TX1) (N := 10) rfl iwX1 8 (by decide) (Nat.le_of_ble_eq_true rfl) qw359 (v := .int (σ18 o 8)) rfl dX1_tellNames_57 ?_
        obtain ⟨h20, hf⟩ := b_ck hf
        refine r_iast X hw (sp8 hR) h20 dX1_tellNames_60 (fun H locs hw => ?_)
        obtain ⟨σ21, e22, hf⟩ := b_bnd hf
        rw [← e22] at hw
        refine lv_aload_n X.1 X.2.1 dX1_tellNames_61 rfl (lv_at hl 3 rfl) ?_
        refine lv_iconst (v := 4) X.1 X.2.1 dX1_tellNames_62 (by decide) ?_
        refine lv_aload_n X.1 X.2.1 dX1_tellNames_63 rfl (lv_at hl 0 rfl) ?_
        refine r_get X hw (spP0 hE ho) (C := RX1) (T := TX1) (N := 10) rfl iwX1 3 (by decide) (Nat.le_of_ble_eq_true rfl) qw354 (v := .ref (eP E (o + 4))) rfl dX1_tellNames_64 ?_
        refine lv_iload_n X.1 X.2.1 dX1_tellNames_67 rfl (lv_at hl 1 rfl) ?_
        obtain ⟨h23, hf⟩ := b_ck hf
        refine r_iald X hw (spP4 hE ho) h23 dX1_tellNames_68 ?_
        obtain ⟨h24, hf⟩ := b_ck hf
        refine r_iast X hw (sp8 hR) h24 dX1_tellNames_69 (fun H locs hw => ?_)
        obtain ⟨σ25, e26, hf⟩ := b_bnd hf
        rw [← e26] at hw
        refine lv_aload_n X.1 X.2.1 dX1_tellNames_70 rfl (lv_at hl 3 rfl) ?_
        refine lv_iconst (v := 5) X.1 X.2.1 dX1_tellNames_71 (by decide) ?_
        refine lv_aload_n X.1 X.2.1 dX1_tellNames_72 rfl (lv_at hl 0 rfl) ?_
        refine r_get X hw (spP0 hE ho) (C := RX1) (T := TX1) (N := 10) rfl iwX1 4 (by decide) (Nat.le_of_ble_eq_true rfl) qw355 (v := .ref (eP E (o + 5))) rfl dX1_tellNames_73 ?_
        refine lv_iload_n X.1 X.2.1 dX1_tellNames_76 rfl (lv_at hl 2 rfl) ?_
        obtain ⟨h27, hf⟩ := b_ck hf
        refine r_iald X hw (spP5 hE ho) h27 dX1_tellNames_77 ?_
        obtain ⟨h28, hf⟩ := b_ck hf
        refine r_iast X hw (sp8 hR) h28 dX1_tellNames_78 (fun H locs hw => ?_)
        obtain ⟨σ29, e30, hf⟩ := b_bnd hf
        rw [← e30] at hw
        obtain rfl := Option.some.inj hf
        exact r_vret X hw dX1_tellNames_79
abbrev rm_X1_today : Room := { frames := 0, cells := 0, slots := 0, locals := 0 }
set_option maxHeartbeats 4000000 in
set_option maxRecDepth 100000 in
theorem k_X1_today {l : Launch} {E : en_T} (hE : ShF E) {o : Nat} (ho : isP o) {σ : sg_T} {r : Int32} (hf : f_X1_today o σ = some r) : Ct l yX1_today cX1_today 1 (some .int) rm_X1_today E [.ref (eP E o)] σ (some (.int r)) σ := by
  refine Ct.start (by decide) hE.1 (Nat.le_of_ble_eq_true rfl) ?_
  intro p e s m below meth c X hw ls hl
  have X : Cx E p s m _ meth c cX1_today 1 RX1 (some .int) := X
  have hR : ShR E := hE.r
  have hl : lv_has ls 1 [(0, .ref (eP E o))] := hl
  unfold f_X1_today at hf
  refine lv_aload_n X.1 X.2.1 dX1_today_0 rfl (lv_at hl 0 rfl) ?_
  refine r_get X hw (spP0 hE ho) (C := RX1) (T := TX1) (N := 10) rfl iwX1 8 (by decide) (Nat.le_of_ble_eq_true rfl) qw359 (v := .int (σ o 8)) rfl dX1_today_1 ?_
  obtain rfl := Option.some.inj hf
  exact r_iret X hw dX1_today_4
abbrev rm_X1_whoseClocks : Room := { frames := 2, cells := 0, slots := 0, locals := 125 }
set_option maxHeartbeats 4000000 in
set_option maxRecDepth 100000 in
theorem w_X1_whoseClocks_4 {p : Program} {l : Launch} {e : Env} {s : State} {m : MethodId} {args : Array Value} {below : List Frame} {meth : Method} {c : Code} {Q : State → Prop} {E : en_T} (X : Cx E p s m args meth c cX1_whoseClocks 4 RX1 (some .int)) (hE : ShF E) {o50 : Nat} (ho50 : isP o50) {u1 : Int32} {σ : sg_T} {res : Int32 × Int32} :
    ∀ (n : Nat) (w2 : Int32) (w3 : Int32), itr (fun q => b_X1_whoseClocks_4 o50 u1 q.1 q.2 σ) n (w2, w3) = some res → ∀ (H : Heap) (locs : List Loc) (ls : Array Slot), Hw E σ s H locs → lv_has ls 4 [(0, .ref (eP E o50)), (1, .int u1), (2, .int w2), (3, .int w3)] →
    (∀ (y2 : Int32) (y3 : Int32), res = (y2, y3) → ∀ (H : Heap) (locs : List Loc) (ls : Array Slot), Hw E σ s H locs → lv_has ls 4 [(0, .ref (eP E o50)), (1, .int u1), (2, .int y2), (3, .int y3)] → W p l e rm_X1_whoseClocks s m args below meth c H locs 0 0 Q (F0 m 33 ls [])) →
    W p l e rm_X1_whoseClocks s m args below meth c H locs 0 0 Q (F0 m 4 ls []) := by
  have hR : ShR E := hE.r
  intro n
  induction n with
  | zero =>
    intro w2 w3 hf0
    exact (itr_0 hf0).elim
  | succ n ih =>
    intro w2 w3 hf0 H locs ls hw hl K1
    obtain ⟨r0, hf, hr1, hr2⟩ := itr_s hf0
    have hf : b_X1_whoseClocks_4 o50 u1 w2 w3 σ = some r0 := hf
    unfold b_X1_whoseClocks_4 at hf
    refine lv_iload_n X.1 X.2.1 dX1_whoseClocks_4 rfl (lv_at hl 3 rfl) ?_
    refine lv_aload_n X.1 X.2.1 dX1_whoseClocks_5 rfl (lv_at hl 0 rfl) ?_
    refine r_get X hw (spP0 hE ho50) (C := RX1) (T := TX1) (N := 10) rfl iwX1 7 (by decide) (Nat.le_of_ble_eq_true rfl) qw358 (v := .int (σ o50 7)) rfl dX1_whoseClocks_6 ?_
    refine lv_icmp_ge (tgt := 33) X.1 X.2.1 dX1_whoseClocks_9 (by decide) (fun c1 => ?_) (fun c1 => ?_)
    · have hf := if_t hf c1
      obtain rfl := Option.some.inj hf
      obtain rfl := hr2 _ rfl
      exact K1 _ _ rfl _ _ _ hw (lv_sub hl [0, 1, 2, 3] rfl)
    · have hf := if_e hf c1
      refine lv_aload_n X.1 X.2.1 dX1_whoseClocks_12 rfl (lv_at hl 0 rfl) ?_
      refine lv_iload_n X.1 X.2.1 dX1_whoseClocks_13 rfl (lv_at hl 3 rfl) ?_
      obtain ⟨r3, h2, hf⟩ := b_bd1 hf
      refine r_callV X hw (k_X1_setterOf hE ho50 h2) (spP0 hE ho50) (C := RX1) (T := TX1) (N := 10) rfl qw556 qw491 qw492 qw76 qw493 okX1_setterOf ⟨rfl, rfl⟩ ⟨(Nat.le_of_ble_eq_true rfl), (Nat.le_of_ble_eq_true rfl)⟩ ⟨Nat.zero_le _, Nat.zero_le _⟩ rfl hl.1 (rest := []) rfl (Nat.le_of_ble_eq_true rfl) dX1_whoseClocks_14 (st1 := [.int r3]) rfl (fun H locs hw => ?_)
      refine lv_iload_n X.1 X.2.1 dX1_whoseClocks_17 rfl (lv_at hl 1 rfl) ?_
      refine lv_icmp_ne (tgt := 27) X.1 X.2.1 dX1_whoseClocks_18 (by decide) (fun c4 => ?_) (fun c4 => ?_)
      · have hf := if_e hf c4
        obtain ⟨v5, e6, hf⟩ := b_bnd hf
        refine lv_iinc (v := v5) (k := 3) (lv' := [(3, .int v5), (0, .ref (eP E o50)), (1, .int u1), (2, .int w2)]) X.1 X.2.1 dX1_whoseClocks_27 hl rfl (by rw [e6]; exact congrArg _ (by decide)) (by decide) rfl (fun ls hl => ?_)
        refine lv_goto (tgt := 4) X.1 X.2.1 dX1_whoseClocks_30 (by decide) ?_
        obtain rfl := Option.some.inj hf
        exact ih _ _ (hr1 _ rfl) _ _ _ hw (lv_sub hl [1, 2, 3, 0] rfl) K1
      · have hf := if_t hf c4
        refine lv_iload_n X.1 X.2.1 dX1_whoseClocks_21 rfl (lv_at hl 2 rfl) ?_
        refine lv_iconst (v := 1) X.1 X.2.1 dX1_whoseClocks_22 (by decide) ?_
        refine lv_iload_n X.1 X.2.1 dX1_whoseClocks_23 rfl (lv_at hl 3 rfl) ?_
        refine lv_ishl X.1 X.2.1 dX1_whoseClocks_24 ?_
        refine lv_ior X.1 X.2.1 dX1_whoseClocks_25 ?_
        refine r_bnd hf (fun v7 hf => ?_)
        refine lv_istore_n (lv' := [(2, .int v7), (0, .ref (eP E o50)), (1, .int u1), (3, .int w3)]) X.1 X.2.1 dX1_whoseClocks_26 rfl hl (by decide) rfl (fun ls hl => ?_)
        obtain ⟨v8, e9, hf⟩ := b_bnd hf
        refine lv_iinc (v := v8) (k := 3) (lv' := [(3, .int v8), (2, .int v7), (0, .ref (eP E o50)), (1, .int u1)]) X.1 X.2.1 dX1_whoseClocks_27 hl rfl (by rw [e9]; exact congrArg _ (by decide)) (by decide) rfl (fun ls hl => ?_)
        refine lv_goto (tgt := 4) X.1 X.2.1 dX1_whoseClocks_30 (by decide) ?_
        obtain rfl := Option.some.inj hf
        exact ih _ _ (hr1 _ rfl) _ _ _ hw (lv_sub hl [2, 3, 1, 0] rfl) K1
set_option maxHeartbeats 4000000 in
set_option maxRecDepth 100000 in
theorem k_X1_whoseClocks {l : Launch} {E : en_T} (hE : ShF E) {o : Nat} (ho : isP o) {x1 : Int32} {σ : sg_T} {r : Int32} (hf : f_X1_whoseClocks o x1 σ = some r) : Ct l yX1_whoseClocks cX1_whoseClocks 4 (some .int) rm_X1_whoseClocks E [.ref (eP E o), .int x1] σ (some (.int r)) σ := by
  refine Ct.start (by decide) hE.1 (Nat.le_of_ble_eq_true rfl) ?_
  intro p e s m below meth c X hw ls hl
  have X : Cx E p s m _ meth c cX1_whoseClocks 4 RX1 (some .int) := X
  have hR : ShR E := hE.r
  have hl : lv_has ls 4 [(0, .ref (eP E o)), (1, .int x1)] := hl
  unfold f_X1_whoseClocks at hf
  refine lv_iconst (v := 0) X.1 X.2.1 dX1_whoseClocks_0 (by decide) ?_
  refine lv_istore_n (lv' := [(2, .int 0), (0, .ref (eP E o)), (1, .int x1)]) X.1 X.2.1 dX1_whoseClocks_1 rfl hl (by decide) rfl (fun ls hl => ?_)
  refine lv_iconst (v := 0) X.1 X.2.1 dX1_whoseClocks_2 (by decide) ?_
  refine lv_istore_n (lv' := [(3, .int 0), (2, .int 0), (0, .ref (eP E o)), (1, .int x1)]) X.1 X.2.1 dX1_whoseClocks_3 rfl hl (by decide) rfl (fun ls hl => ?_)
  obtain ⟨v11, v12, h10, hf⟩ := b_bd2 hf
  refine w_X1_whoseClocks_4 X hE ho lfu _ _ h10 _ _ _ hw (lv_sub hl [2, 3, 1, 0] rfl) (fun yv11 yv12 hq H locs ls hw hl => ?_)
  cases hq
  refine lv_iload_n X.1 X.2.1 dX1_whoseClocks_33 rfl (lv_at hl 2 rfl) ?_
  obtain rfl := Option.some.inj hf
  exact r_iret X hw dX1_whoseClocks_34
abbrev rm_X1_hasTwo : Room := { frames := 1, cells := 0, slots := 0, locals := 100 }
set_option maxHeartbeats 4000000 in
set_option maxRecDepth 100000 in
theorem k_X1_hasTwo {l : Launch} {E : en_T} (hE : ShF E) {o : Nat} (ho : isP o) {x1 : Int32} {x2 : Int32} {σ : sg_T} {r : Int32} (hf : f_X1_hasTwo o x1 x2 σ = some r) : Ct l yX1_hasTwo cX1_hasTwo 3 (some .boolean) rm_X1_hasTwo E [.ref (eP E o), .int x1, .int x2] σ (some (.int r)) σ := by
  refine Ct.start (by decide) hE.1 (Nat.le_of_ble_eq_true rfl) ?_
  intro p e s m below meth c X hw ls hl
  have X : Cx E p s m _ meth c cX1_hasTwo 3 RX1 (some .boolean) := X
  have hR : ShR E := hE.r
  have hl : lv_has ls 3 [(0, .ref (eP E o)), (1, .int x1), (2, .int x2)] := hl
  unfold f_X1_hasTwo at hf
  refine lv_aload_n X.1 X.2.1 dX1_hasTwo_0 rfl (lv_at hl 0 rfl) ?_
  refine lv_iload_n X.1 X.2.1 dX1_hasTwo_1 rfl (lv_at hl 1 rfl) ?_
  obtain ⟨r2, h1, hf⟩ := b_bd1 hf
  refine r_callV X hw (k_X1_has hE ho h1) (spP0 hE ho) (C := RX1) (T := TX1) (N := 10) rfl qw454 qw455 qw456 qw76 qw457 okX1_has ⟨rfl, rfl⟩ ⟨(Nat.le_of_ble_eq_true rfl), (Nat.le_of_ble_eq_true rfl)⟩ ⟨Nat.zero_le _, Nat.zero_le _⟩ rfl hl.1 (rest := []) rfl (Nat.le_of_ble_eq_true rfl) dX1_hasTwo_2 (st1 := [.int r2]) rfl (fun H locs hw => ?_)
  refine lv_if_eq (tgt := 25) X.1 X.2.1 dX1_hasTwo_5 (by decide) (fun c3 => ?_) (fun c3 => ?_)
  · have hf := if_t hf c3
    refine lv_iconst (v := 0) X.1 X.2.1 dX1_hasTwo_25 (by decide) ?_
    obtain rfl := Option.some.inj hf
    exact r_zret X hw (by decide) dX1_hasTwo_26
  · have hf := if_e hf c3
    refine lv_aload_n X.1 X.2.1 dX1_hasTwo_8 rfl (lv_at hl 0 rfl) ?_
    refine lv_iload_n X.1 X.2.1 dX1_hasTwo_9 rfl (lv_at hl 2 rfl) ?_
    obtain ⟨r5, h4, hf⟩ := b_bd1 hf
    refine r_callV X hw (k_X1_has hE ho h4) (spP0 hE ho) (C := RX1) (T := TX1) (N := 10) rfl qw454 qw455 qw456 qw76 qw457 okX1_has ⟨rfl, rfl⟩ ⟨(Nat.le_of_ble_eq_true rfl), (Nat.le_of_ble_eq_true rfl)⟩ ⟨Nat.zero_le _, Nat.zero_le _⟩ rfl hl.1 (rest := []) rfl (Nat.le_of_ble_eq_true rfl) dX1_hasTwo_10 (st1 := [.int r5]) rfl (fun H locs hw => ?_)
    refine lv_if_eq (tgt := 25) X.1 X.2.1 dX1_hasTwo_13 (by decide) (fun c6 => ?_) (fun c6 => ?_)
    · have hf := if_t hf c6
      refine lv_iconst (v := 0) X.1 X.2.1 dX1_hasTwo_25 (by decide) ?_
      obtain rfl := Option.some.inj hf
      exact r_zret X hw (by decide) dX1_hasTwo_26
    · have hf := if_e hf c6
      refine lv_iload_n X.1 X.2.1 dX1_hasTwo_16 rfl (lv_at hl 1 rfl) ?_
      refine lv_iload_n X.1 X.2.1 dX1_hasTwo_17 rfl (lv_at hl 2 rfl) ?_
      obtain ⟨v8, e9, hf⟩ := b_bnd hf
      refine r_join (g2 := F0 m 26 ls [.int v8]) ?_ (fun hj => ?_)
      · obtain ⟨h10, hf⟩ := b_cz hf
        obtain rfl := Option.some.inj hf
        exact r_zret X hw (cz_and h10) dX1_hasTwo_26
      · refine lv_icmp_eq (tgt := 25) X.1 X.2.1 dX1_hasTwo_18 (by decide) (fun c7 => ?_) (fun c7 => ?_)
        · rw [e9, if_pos c7] at hj
          refine lv_iconst (v := 0) X.1 X.2.1 dX1_hasTwo_25 (by decide) ?_
          exact hj
        · rw [e9, if_neg c7] at hj
          refine lv_iconst (v := 1) X.1 X.2.1 dX1_hasTwo_21 (by decide) ?_
          refine lv_goto (tgt := 26) X.1 X.2.1 dX1_hasTwo_22 (by decide) ?_
          exact hj
abbrev rm_X1_many : Room := { frames := 0, cells := 0, slots := 0, locals := 0 }
set_option maxHeartbeats 4000000 in
set_option maxRecDepth 100000 in
theorem k_X1_many {l : Launch} {E : en_T} (hE : ShF E) {o : Nat} (ho : isP o) {σ : sg_T} {r : Int32} (hf : f_X1_many o σ = some r) : Ct l yX1_many cX1_many 1 (some .int) rm_X1_many E [.ref (eP E o)] σ (some (.int r)) σ := by
  refine Ct.start (by decide) hE.1 (Nat.le_of_ble_eq_true rfl) ?_
  intro p e s m below meth c X hw ls hl
  have X : Cx E p s m _ meth c cX1_many 1 RX1 (some .int) := X
  have hR : ShR E := hE.r
  have hl : lv_has ls 1 [(0, .ref (eP E o))] := hl
  unfold f_X1_many at hf
  refine lv_aload_n X.1 X.2.1 dX1_many_0 rfl (lv_at hl 0 rfl) ?_
  refine r_get X hw (spP0 hE ho) (C := RX1) (T := TX1) (N := 10) rfl iwX1 7 (by decide) (Nat.le_of_ble_eq_true rfl) qw358 (v := .int (σ o 7)) rfl dX1_many_1 ?_
  obtain rfl := Option.some.inj hf
  exact r_iret X hw dX1_many_4
abbrev rm_X1_miss : Room := { frames := 2, cells := 0, slots := 0, locals := 100 }
set_option maxHeartbeats 4000000 in
set_option maxRecDepth 100000 in
theorem k_X1_miss {l : Launch} {E : en_T} (hE : ShF E) {o : Nat} (ho : isP o) {x1 : Int32} {σ : sg_T}  {σ' : sg_T} (hf : f_X1_miss o x1 σ = some σ') : Ct l yX1_miss cX1_miss 2 none rm_X1_miss E [.ref (eP E o), .int x1] σ none σ' := by
  refine Ct.start (by decide) hE.1 (Nat.le_of_ble_eq_true rfl) ?_
  intro p e s m below meth c X hw ls hl
  have X : Cx E p s m _ meth c cX1_miss 2 RX1 none := X
  have hR : ShR E := hE.r
  have hl : lv_has ls 2 [(0, .ref (eP E o)), (1, .int x1)] := hl
  unfold f_X1_miss at hf
  refine lv_aload_n X.1 X.2.1 dX1_miss_0 rfl (lv_at hl 0 rfl) ?_
  refine lv_iload_n X.1 X.2.1 dX1_miss_1 rfl (lv_at hl 1 rfl) ?_
  obtain ⟨r2, h1, hf⟩ := b_bd1 hf
  refine r_callV X hw (k_X1_has hE ho h1) (spP0 hE ho) (C := RX1) (T := TX1) (N := 10) rfl qw454 qw455 qw456 qw76 qw457 okX1_has ⟨rfl, rfl⟩ ⟨(Nat.le_of_ble_eq_true rfl), (Nat.le_of_ble_eq_true rfl)⟩ ⟨Nat.zero_le _, Nat.zero_le _⟩ rfl hl.1 (rest := []) rfl (Nat.le_of_ble_eq_true rfl) dX1_miss_2 (st1 := [.int r2]) rfl (fun H locs hw => ?_)
  refine lv_if_eq (tgt := 49) X.1 X.2.1 dX1_miss_5 (by decide) (fun c3 => ?_) (fun c3 => ?_)
  · have hf := if_t hf c3
    obtain rfl := Option.some.inj hf
    exact r_vret X hw dX1_miss_49
  · have hf := if_e hf c3
    refine lv_aload_n X.1 X.2.1 dX1_miss_8 rfl (lv_at hl 0 rfl) ?_
    refine r_get X hw (spP0 hE ho) (C := RX1) (T := TX1) (N := 10) rfl iwX1 3 (by decide) (Nat.le_of_ble_eq_true rfl) qw354 (v := .ref (eP E (o + 4))) rfl dX1_miss_9 ?_
    refine lv_iload_n X.1 X.2.1 dX1_miss_12 rfl (lv_at hl 1 rfl) ?_
    refine lv_aload_n X.1 X.2.1 dX1_miss_13 rfl (lv_at hl 0 rfl) ?_
    refine r_get X hw (spP0 hE ho) (C := RX1) (T := TX1) (N := 10) rfl iwX1 3 (by decide) (Nat.le_of_ble_eq_true rfl) qw354 (v := .ref (eP E (o + 4))) rfl dX1_miss_14 ?_
    refine lv_iload_n X.1 X.2.1 dX1_miss_17 rfl (lv_at hl 1 rfl) ?_
    obtain ⟨h4, hf⟩ := b_ck hf
    refine r_iald X hw (spP4 hE ho) h4 dX1_miss_18 ?_
    refine lv_bipush (v := 10) X.1 X.2.1 dX1_miss_19 (by decide) ?_
    refine lv_isub X.1 X.2.1 dX1_miss_21 ?_
    refine lv_iconst (v := 0) X.1 X.2.1 dX1_miss_22 (by decide) ?_
    refine r_max X hl.1 qw623 qw537 qw80 qw538 (Nat.le_of_ble_eq_true rfl) (Nat.le_of_ble_eq_true rfl) (Nat.zero_le _) (Nat.zero_le _) dX1_miss_23 ?_
    obtain ⟨h5, hf⟩ := b_ck hf
    refine r_iast X hw (spP4 hE ho) h5 dX1_miss_26 (fun H locs hw => ?_)
    obtain ⟨σ6, e7, hf⟩ := b_bnd hf
    rw [← e7] at hw
    refine lv_aload_n X.1 X.2.1 dX1_miss_27 rfl (lv_at hl 0 rfl) ?_
    refine r_get X hw (spP0 hE ho) (C := RX1) (T := TX1) (N := 10) rfl iwX1 4 (by decide) (Nat.le_of_ble_eq_true rfl) qw355 (v := .ref (eP E (o + 5))) rfl dX1_miss_28 ?_
    refine lv_iload_n X.1 X.2.1 dX1_miss_31 rfl (lv_at hl 1 rfl) ?_
    refine lv_aload_n X.1 X.2.1 dX1_miss_32 rfl (lv_at hl 0 rfl) ?_
    refine r_get X hw (spP0 hE ho) (C := RX1) (T := TX1) (N := 10) rfl iwX1 4 (by decide) (Nat.le_of_ble_eq_true rfl) qw355 (v := .ref (eP E (o + 5))) rfl dX1_miss_33 ?_
    refine lv_iload_n X.1 X.2.1 dX1_miss_36 rfl (lv_at hl 1 rfl) ?_
    obtain ⟨h8, hf⟩ := b_ck hf
    refine r_iald X hw (spP5 hE ho) h8 dX1_miss_37 ?_
    refine lv_iconst (v := 1) X.1 X.2.1 dX1_miss_38 (by decide) ?_
    refine lv_iadd X.1 X.2.1 dX1_miss_39 ?_
    refine r_hiN X hw (by simp [lw_nest]) dX1_miss_40 ?_
    refine lv_iconst (v := 4) X.1 X.2.1 dX1_miss_43 (by decide) ?_
    obtain ⟨h9, hf⟩ := b_ck hf
    refine r_hild X hw h9 dX1_miss_44 ?_
    refine r_min X hl.1 qw624 qw534 qw80 qw535 (Nat.le_of_ble_eq_true rfl) (Nat.le_of_ble_eq_true rfl) (Nat.zero_le _) (Nat.zero_le _) dX1_miss_45 ?_
    obtain ⟨h10, hf⟩ := b_ck hf
    refine r_iast X hw (spP5 hE ho) h10 dX1_miss_48 (fun H locs hw => ?_)
    obtain ⟨σ11, e12, hf⟩ := b_bnd hf
    rw [← e12] at hw
    obtain rfl := Option.some.inj hf
    exact r_vret X hw dX1_miss_49
abbrev rm_X1_wake : Room := { frames := 3, cells := 0, slots := 0, locals := 122 }
set_option maxHeartbeats 4000000 in
set_option maxRecDepth 100000 in
theorem k_X1_wake {l : Launch} {E : en_T} (hE : ShF E) {o : Nat} (ho : isP o) {x1 : Int32} {x2 : Int32} {x3 : Int32} {σ : sg_T}  {σ' : sg_T} (hf : f_X1_wake o x1 x2 x3 σ = some σ') : Ct l yX1_wake cX1_wake 4 none rm_X1_wake E [.ref (eP E o), .int x1, .int x2, .int x3] σ none σ' := by
  refine Ct.start (by decide) hE.1 (Nat.le_of_ble_eq_true rfl) ?_
  intro p e s m below meth c X hw ls hl
  have X : Cx E p s m _ meth c cX1_wake 4 RX1 none := X
  have hR : ShR E := hE.r
  have hl : lv_has ls 4 [(0, .ref (eP E o)), (1, .int x1), (2, .int x2), (3, .int x3)] := hl
  unfold f_X1_wake at hf
  refine lv_aload_n X.1 X.2.1 dX1_wake_0 rfl (lv_at hl 0 rfl) ?_
  refine lv_iload_n X.1 X.2.1 dX1_wake_1 rfl (lv_at hl 1 rfl) ?_
  obtain ⟨r2, h1, hf⟩ := b_bd1 hf
  refine r_callV X hw (k_X1_has hE ho h1) (spP0 hE ho) (C := RX1) (T := TX1) (N := 10) rfl qw454 qw455 qw456 qw76 qw457 okX1_has ⟨rfl, rfl⟩ ⟨(Nat.le_of_ble_eq_true rfl), (Nat.le_of_ble_eq_true rfl)⟩ ⟨Nat.zero_le _, Nat.zero_le _⟩ rfl hl.1 (rest := []) rfl (Nat.le_of_ble_eq_true rfl) dX1_wake_2 (st1 := [.int r2]) rfl (fun H locs hw => ?_)
  refine lv_if_eq (tgt := 53) X.1 X.2.1 dX1_wake_5 (by decide) (fun c3 => ?_) (fun c3 => ?_)
  · have hf := if_t hf c3
    obtain rfl := Option.some.inj hf
    exact r_vret X hw dX1_wake_53
  · have hf := if_e hf c3
    refine lv_aload_n X.1 X.2.1 dX1_wake_8 rfl (lv_at hl 0 rfl) ?_
    refine r_get X hw (spP0 hE ho) (C := RX1) (T := TX1) (N := 10) rfl iwX1 3 (by decide) (Nat.le_of_ble_eq_true rfl) qw354 (v := .ref (eP E (o + 4))) rfl dX1_wake_9 ?_
    refine lv_iload_n X.1 X.2.1 dX1_wake_12 rfl (lv_at hl 1 rfl) ?_
    refine lv_aload_n X.1 X.2.1 dX1_wake_13 rfl (lv_at hl 0 rfl) ?_
    refine r_get X hw (spP0 hE ho) (C := RX1) (T := TX1) (N := 10) rfl iwX1 3 (by decide) (Nat.le_of_ble_eq_true rfl) qw354 (v := .ref (eP E (o + 4))) rfl dX1_wake_14 ?_
    refine lv_iload_n X.1 X.2.1 dX1_wake_17 rfl (lv_at hl 1 rfl) ?_
    obtain ⟨h4, hf⟩ := b_ck hf
    refine r_iald X hw (spP4 hE ho) h4 dX1_wake_18 ?_
    refine lv_iload_n X.1 X.2.1 dX1_wake_19 rfl (lv_at hl 2 rfl) ?_
    refine lv_iadd X.1 X.2.1 dX1_wake_20 ?_
    refine lv_iconst (v := 0) X.1 X.2.1 dX1_wake_21 (by decide) ?_
    refine r_hiN X hw (by simp [lw_nest]) dX1_wake_22 ?_
    refine lv_iconst (v := 3) X.1 X.2.1 dX1_wake_25 (by decide) ?_
    obtain ⟨h5, hf⟩ := b_ck hf
    refine r_hild X hw h5 dX1_wake_26 ?_
    obtain ⟨r7, h6, hf⟩ := b_bd1 hf
    refine r_callSN X hw (k_X7_bound hE  h6) (host := RX7) (by simp [lw_nest]) qw531 qw67 qw532 okX7_bound ⟨rfl, rfl⟩ ⟨(Nat.le_of_ble_eq_true rfl), (Nat.le_of_ble_eq_true rfl)⟩ ⟨Nat.zero_le _, Nat.zero_le _⟩ rfl hl.1 (rest := [.int x1, .ref (eP E (o + 4))]) rfl (Nat.le_of_ble_eq_true rfl) dX1_wake_27 (st1 := [.int r7, .int x1, .ref (eP E (o + 4))]) rfl (fun H locs hw => ?_)
    obtain ⟨h8, hf⟩ := b_ck hf
    refine r_iast X hw (spP4 hE ho) h8 dX1_wake_30 (fun H locs hw => ?_)
    obtain ⟨σ9, e10, hf⟩ := b_bnd hf
    rw [← e10] at hw
    refine lv_aload_n X.1 X.2.1 dX1_wake_31 rfl (lv_at hl 0 rfl) ?_
    refine r_get X hw (spP0 hE ho) (C := RX1) (T := TX1) (N := 10) rfl iwX1 5 (by decide) (Nat.le_of_ble_eq_true rfl) qw356 (v := .ref (eP E (o + 6))) rfl dX1_wake_32 ?_
    refine lv_iload_n X.1 X.2.1 dX1_wake_35 rfl (lv_at hl 1 rfl) ?_
    refine lv_aload_n X.1 X.2.1 dX1_wake_36 rfl (lv_at hl 0 rfl) ?_
    refine r_get X hw (spP0 hE ho) (C := RX1) (T := TX1) (N := 10) rfl iwX1 5 (by decide) (Nat.le_of_ble_eq_true rfl) qw356 (v := .ref (eP E (o + 6))) rfl dX1_wake_37 ?_
    refine lv_iload_n X.1 X.2.1 dX1_wake_40 rfl (lv_at hl 1 rfl) ?_
    obtain ⟨h11, hf⟩ := b_ck hf
    refine r_iald X hw (spP6 hE ho) h11 dX1_wake_41 ?_
    refine lv_iload_n X.1 X.2.1 dX1_wake_42 rfl (lv_at hl 3 rfl) ?_
    refine lv_iadd X.1 X.2.1 dX1_wake_43 ?_
    refine r_hiN X hw (by simp [lw_nest]) dX1_wake_44 ?_
    refine lv_iconst (v := 5) X.1 X.2.1 dX1_wake_47 (by decide) ?_
    obtain ⟨h12, hf⟩ := b_ck hf
    refine r_hild X hw h12 dX1_wake_48 ?_
    refine r_min X hl.1 qw624 qw534 qw80 qw535 (Nat.le_of_ble_eq_true rfl) (Nat.le_of_ble_eq_true rfl) (Nat.zero_le _) (Nat.zero_le _) dX1_wake_49 ?_
    obtain ⟨h13, hf⟩ := b_ck hf
    refine r_iast X hw (spP6 hE ho) h13 dX1_wake_52 (fun H locs hw => ?_)
    obtain ⟨σ14, e15, hf⟩ := b_bnd hf
    rw [← e15] at hw
    obtain rfl := Option.some.inj hf
    exact r_vret X hw dX1_wake_53
abbrev rm_X1_growFonder : Room := { frames := 3, cells := 0, slots := 0, locals := 122 }
set_option maxHeartbeats 4000000 in
set_option maxRecDepth 100000 in
theorem k_X1_growFonder {l : Launch} {E : en_T} (hE : ShF E) {o : Nat} (ho : isP o) {x1 : Int32} {x2 : Int32} {x3 : Int32} {σ : sg_T}  {σ' : sg_T} (hf : f_X1_growFonder o x1 x2 x3 σ = some σ') : Ct l yX1_growFonder cX1_growFonder 5 none rm_X1_growFonder E [.ref (eP E o), .int x1, .int x2, .int x3] σ none σ' := by
  refine Ct.start (by decide) hE.1 (Nat.le_of_ble_eq_true rfl) ?_
  intro p e s m below meth c X hw ls hl
  have X : Cx E p s m _ meth c cX1_growFonder 5 RX1 none := X
  have hR : ShR E := hE.r
  have hl : lv_has ls 5 [(0, .ref (eP E o)), (1, .int x1), (2, .int x2), (3, .int x3)] := hl
  unfold f_X1_growFonder at hf
  refine lv_aload_n X.1 X.2.1 dX1_growFonder_0 rfl (lv_at hl 0 rfl) ?_
  refine lv_iload_n X.1 X.2.1 dX1_growFonder_1 rfl (lv_at hl 1 rfl) ?_
  refine lv_iload_n X.1 X.2.1 dX1_growFonder_2 rfl (lv_at hl 2 rfl) ?_
  obtain ⟨r2, h1, hf⟩ := b_bd1 hf
  refine r_callV X hw (k_X1_hasTwo hE ho h1) (spP0 hE ho) (C := RX1) (T := TX1) (N := 10) rfl qw634 qw562 qw563 qw76 qw564 okX1_hasTwo ⟨rfl, rfl⟩ ⟨(Nat.le_of_ble_eq_true rfl), (Nat.le_of_ble_eq_true rfl)⟩ ⟨Nat.zero_le _, Nat.zero_le _⟩ rfl hl.1 (rest := []) rfl (Nat.le_of_ble_eq_true rfl) dX1_growFonder_3 (st1 := [.int r2]) rfl (fun H locs hw => ?_)
  refine lv_if_eq (tgt := 42) X.1 X.2.1 dX1_growFonder_6 (by decide) (fun c3 => ?_) (fun c3 => ?_)
  · have hf := if_t hf c3
    obtain rfl := Option.some.inj hf
    exact r_vret X hw dX1_growFonder_42
  · have hf := if_e hf c3
    refine lv_iload_n X.1 X.2.1 dX1_growFonder_9 rfl (lv_at hl 1 rfl) ?_
    refine lv_iconst (v := 5) X.1 X.2.1 dX1_growFonder_10 (by decide) ?_
    refine lv_imul X.1 X.2.1 dX1_growFonder_11 ?_
    refine lv_iload_n X.1 X.2.1 dX1_growFonder_12 rfl (lv_at hl 2 rfl) ?_
    refine lv_iadd X.1 X.2.1 dX1_growFonder_13 ?_
    refine r_bnd hf (fun v4 hf => ?_)
    refine lv_istore (lv' := [(4, .int v4), (0, .ref (eP E o)), (1, .int x1), (2, .int x2), (3, .int x3)]) X.1 X.2.1 dX1_growFonder_14 hl (by decide) rfl (fun ls hl => ?_)
    refine lv_aload_n X.1 X.2.1 dX1_growFonder_16 rfl (lv_at hl 1 rfl) ?_
    refine r_get X hw (spP0 hE ho) (C := RX1) (T := TX1) (N := 10) rfl iwX1 6 (by decide) (Nat.le_of_ble_eq_true rfl) qw357 (v := .ref (eP E (o + 7))) rfl dX1_growFonder_17 ?_
    refine lv_iload X.1 X.2.1 dX1_growFonder_20 (lv_at hl 0 rfl) ?_
    refine lv_aload_n X.1 X.2.1 dX1_growFonder_22 rfl (lv_at hl 1 rfl) ?_
    refine r_get X hw (spP0 hE ho) (C := RX1) (T := TX1) (N := 10) rfl iwX1 6 (by decide) (Nat.le_of_ble_eq_true rfl) qw357 (v := .ref (eP E (o + 7))) rfl dX1_growFonder_23 ?_
    refine lv_iload X.1 X.2.1 dX1_growFonder_26 (lv_at hl 0 rfl) ?_
    obtain ⟨h5, hf⟩ := b_ck hf
    refine r_iald X hw (spP7 hE ho) h5 dX1_growFonder_28 ?_
    refine lv_iload_n X.1 X.2.1 dX1_growFonder_29 rfl (lv_at hl 4 rfl) ?_
    refine lv_iadd X.1 X.2.1 dX1_growFonder_30 ?_
    refine lv_iconst (v := 0) X.1 X.2.1 dX1_growFonder_31 (by decide) ?_
    refine r_hiN X hw (by simp [lw_nest]) dX1_growFonder_32 ?_
    refine lv_bipush (v := 6) X.1 X.2.1 dX1_growFonder_35 (by decide) ?_
    obtain ⟨h6, hf⟩ := b_ck hf
    refine r_hild X hw h6 dX1_growFonder_37 ?_
    obtain ⟨r8, h7, hf⟩ := b_bd1 hf
    refine r_callSN X hw (k_X7_bound hE  h7) (host := RX7) (by simp [lw_nest]) qw531 qw67 qw532 okX7_bound ⟨rfl, rfl⟩ ⟨(Nat.le_of_ble_eq_true rfl), (Nat.le_of_ble_eq_true rfl)⟩ ⟨Nat.zero_le _, Nat.zero_le _⟩ rfl hl.1 (rest := [.int v4, .ref (eP E (o + 7))]) rfl (Nat.le_of_ble_eq_true rfl) dX1_growFonder_38 (st1 := [.int r8, .int v4, .ref (eP E (o + 7))]) rfl (fun H locs hw => ?_)
    obtain ⟨h9, hf⟩ := b_ck hf
    refine r_iast X hw (spP7 hE ho) h9 dX1_growFonder_41 (fun H locs hw => ?_)
    obtain ⟨σ10, e11, hf⟩ := b_bnd hf
    rw [← e11] at hw
    obtain rfl := Option.some.inj hf
    exact r_vret X hw dX1_growFonder_42
abbrev rm_X1_endDay : Room := { frames := 0, cells := 0, slots := 0, locals := 0 }
set_option maxHeartbeats 4000000 in
set_option maxRecDepth 100000 in
theorem k_X1_endDay {l : Launch} {E : en_T} (hE : ShF E) {o : Nat} (ho : isP o) {σ : sg_T}  {σ' : sg_T} (hf : f_X1_endDay o σ = some σ') : Ct l yX1_endDay cX1_endDay 1 none rm_X1_endDay E [.ref (eP E o)] σ none σ' := by
  refine Ct.start (by decide) hE.1 (Nat.le_of_ble_eq_true rfl) ?_
  intro p e s m below meth c X hw ls hl
  have X : Cx E p s m _ meth c cX1_endDay 1 RX1 none := X
  have hR : ShR E := hE.r
  have hl : lv_has ls 1 [(0, .ref (eP E o))] := hl
  unfold f_X1_endDay at hf
  refine lv_aload_n X.1 X.2.1 dX1_endDay_0 rfl (lv_at hl 0 rfl) ?_
  refine lv_dup X.1 X.2.1 dX1_endDay_1 rfl ?_
  refine r_get X hw (spP0 hE ho) (C := RX1) (T := TX1) (N := 10) rfl iwX1 8 (by decide) (Nat.le_of_ble_eq_true rfl) qw359 (v := .int (σ o 8)) rfl dX1_endDay_2 ?_
  refine lv_iconst (v := 1) X.1 X.2.1 dX1_endDay_5 (by decide) ?_
  refine lv_iadd X.1 X.2.1 dX1_endDay_6 ?_
  refine r_put X hw (spP0 hE ho) (C := RX1) (T := TX1) (N := 10) rfl iwX1 tyX1 tyX1_ok nmX1 8 (by decide) (Nat.le_of_ble_eq_true rfl) qw359 rfl (v := .int ((σ o 8) + 1)) rfl rfl (x := ((σ o 8) + 1)) rfl dX1_endDay_7 (fun H locs hw => ?_)
  obtain ⟨σ1, e2, hf⟩ := b_bnd hf
  rw [← e2] at hw
  obtain rfl := Option.some.inj hf
  exact r_vret X hw dX1_endDay_10
abbrev rm_X1_copyFrom : Room := { frames := 2, cells := 0, slots := 0, locals := 100 }
set_option maxHeartbeats 4000000 in
set_option maxRecDepth 100000 in
theorem k_X1_copyFrom {l : Launch} {E : en_T} (hE : ShF E) {o : Nat} (ho : isP o) {o1 : Nat} (ho1 : isP o1) {σ : sg_T}  {σ' : sg_T} (hf : f_X1_copyFrom o o1 σ = some σ') : Ct l yX1_copyFrom cX1_copyFrom 2 none rm_X1_copyFrom E [.ref (eP E o), .ref (eP E o1)] σ none σ' := by
  refine Ct.start (by decide) hE.1 (Nat.le_of_ble_eq_true rfl) ?_
  intro p e s m below meth c X hw ls hl
  have X : Cx E p s m _ meth c cX1_copyFrom 2 RX1 none := X
  have hR : ShR E := hE.r
  have hl : lv_has ls 2 [(0, .ref (eP E o)), (1, .ref (eP E o1))] := hl
  unfold f_X1_copyFrom at hf
  refine lv_aload_n X.1 X.2.1 dX1_copyFrom_0 rfl (lv_at hl 1 rfl) ?_
  refine r_get X hw (spP0 hE ho1) (C := RX1) (T := TX1) (N := 10) rfl iwX1 0 (by decide) (Nat.le_of_ble_eq_true rfl) qw351 (v := .ref (eP E (o1 + 1))) rfl dX1_copyFrom_1 ?_
  refine lv_iconst (v := 0) X.1 X.2.1 dX1_copyFrom_4 (by decide) ?_
  refine lv_aload_n X.1 X.2.1 dX1_copyFrom_5 rfl (lv_at hl 0 rfl) ?_
  refine r_get X hw (spP0 hE ho) (C := RX1) (T := TX1) (N := 10) rfl iwX1 0 (by decide) (Nat.le_of_ble_eq_true rfl) qw351 (v := .ref (eP E (o + 1))) rfl dX1_copyFrom_6 ?_
  refine lv_iconst (v := 0) X.1 X.2.1 dX1_copyFrom_9 (by decide) ?_
  refine lv_iconst (v := 5) X.1 X.2.1 dX1_copyFrom_10 (by decide) ?_
  obtain ⟨h1, hf⟩ := b_cy hf
  refine r_copy X hw hl.1 qw651 qw653 qw652 qw81 (spP1 hE ho1) (spP1 hE ho) h1 (Nat.le_of_ble_eq_true rfl) (Nat.le_of_ble_eq_true rfl) dX1_copyFrom_11 (fun H locs hw => ?_)
  obtain ⟨σ2, e3, hf⟩ := b_bnd hf
  rw [← e3] at hw
  refine lv_aload_n X.1 X.2.1 dX1_copyFrom_14 rfl (lv_at hl 1 rfl) ?_
  refine r_get X hw (spP0 hE ho1) (C := RX1) (T := TX1) (N := 10) rfl iwX1 1 (by decide) (Nat.le_of_ble_eq_true rfl) qw352 (v := .ref (eP E (o1 + 2))) rfl dX1_copyFrom_15 ?_
  refine lv_iconst (v := 0) X.1 X.2.1 dX1_copyFrom_18 (by decide) ?_
  refine lv_aload_n X.1 X.2.1 dX1_copyFrom_19 rfl (lv_at hl 0 rfl) ?_
  refine r_get X hw (spP0 hE ho) (C := RX1) (T := TX1) (N := 10) rfl iwX1 1 (by decide) (Nat.le_of_ble_eq_true rfl) qw352 (v := .ref (eP E (o + 2))) rfl dX1_copyFrom_20 ?_
  refine lv_iconst (v := 0) X.1 X.2.1 dX1_copyFrom_23 (by decide) ?_
  refine lv_iconst (v := 5) X.1 X.2.1 dX1_copyFrom_24 (by decide) ?_
  obtain ⟨h4, hf⟩ := b_cy hf
  refine r_copy X hw hl.1 qw651 qw653 qw652 qw81 (spP2 hE ho1) (spP2 hE ho) h4 (Nat.le_of_ble_eq_true rfl) (Nat.le_of_ble_eq_true rfl) dX1_copyFrom_25 (fun H locs hw => ?_)
  obtain ⟨σ5, e6, hf⟩ := b_bnd hf
  rw [← e6] at hw
  refine lv_aload_n X.1 X.2.1 dX1_copyFrom_28 rfl (lv_at hl 1 rfl) ?_
  refine r_get X hw (spP0 hE ho1) (C := RX1) (T := TX1) (N := 10) rfl iwX1 2 (by decide) (Nat.le_of_ble_eq_true rfl) qw353 (v := .ref (eP E (o1 + 3))) rfl dX1_copyFrom_29 ?_
  refine lv_iconst (v := 0) X.1 X.2.1 dX1_copyFrom_32 (by decide) ?_
  refine lv_aload_n X.1 X.2.1 dX1_copyFrom_33 rfl (lv_at hl 0 rfl) ?_
  refine r_get X hw (spP0 hE ho) (C := RX1) (T := TX1) (N := 10) rfl iwX1 2 (by decide) (Nat.le_of_ble_eq_true rfl) qw353 (v := .ref (eP E (o + 3))) rfl dX1_copyFrom_34 ?_
  refine lv_iconst (v := 0) X.1 X.2.1 dX1_copyFrom_37 (by decide) ?_
  refine lv_iconst (v := 5) X.1 X.2.1 dX1_copyFrom_38 (by decide) ?_
  obtain ⟨h7, hf⟩ := b_cy hf
  refine r_copy X hw hl.1 qw651 qw653 qw652 qw81 (spP3 hE ho1) (spP3 hE ho) h7 (Nat.le_of_ble_eq_true rfl) (Nat.le_of_ble_eq_true rfl) dX1_copyFrom_39 (fun H locs hw => ?_)
  obtain ⟨σ8, e9, hf⟩ := b_bnd hf
  rw [← e9] at hw
  refine lv_aload_n X.1 X.2.1 dX1_copyFrom_42 rfl (lv_at hl 1 rfl) ?_
  refine r_get X hw (spP0 hE ho1) (C := RX1) (T := TX1) (N := 10) rfl iwX1 3 (by decide) (Nat.le_of_ble_eq_true rfl) qw354 (v := .ref (eP E (o1 + 4))) rfl dX1_copyFrom_43 ?_
  refine lv_iconst (v := 0) X.1 X.2.1 dX1_copyFrom_46 (by decide) ?_
  refine lv_aload_n X.1 X.2.1 dX1_copyFrom_47 rfl (lv_at hl 0 rfl) ?_
  refine r_get X hw (spP0 hE ho) (C := RX1) (T := TX1) (N := 10) rfl iwX1 3 (by decide) (Nat.le_of_ble_eq_true rfl) qw354 (v := .ref (eP E (o + 4))) rfl dX1_copyFrom_48 ?_
  refine lv_iconst (v := 0) X.1 X.2.1 dX1_copyFrom_51 (by decide) ?_
  refine lv_iconst (v := 5) X.1 X.2.1 dX1_copyFrom_52 (by decide) ?_
  obtain ⟨h10, hf⟩ := b_cy hf
  refine r_copy X hw hl.1 qw651 qw653 qw652 qw81 (spP4 hE ho1) (spP4 hE ho) h10 (Nat.le_of_ble_eq_true rfl) (Nat.le_of_ble_eq_true rfl) dX1_copyFrom_53 (fun H locs hw => ?_)
  obtain ⟨σ11, e12, hf⟩ := b_bnd hf
  rw [← e12] at hw
  refine lv_aload_n X.1 X.2.1 dX1_copyFrom_56 rfl (lv_at hl 1 rfl) ?_
  refine r_get X hw (spP0 hE ho1) (C := RX1) (T := TX1) (N := 10) rfl iwX1 4 (by decide) (Nat.le_of_ble_eq_true rfl) qw355 (v := .ref (eP E (o1 + 5))) rfl dX1_copyFrom_57 ?_
  refine lv_iconst (v := 0) X.1 X.2.1 dX1_copyFrom_60 (by decide) ?_
  refine lv_aload_n X.1 X.2.1 dX1_copyFrom_61 rfl (lv_at hl 0 rfl) ?_
  refine r_get X hw (spP0 hE ho) (C := RX1) (T := TX1) (N := 10) rfl iwX1 4 (by decide) (Nat.le_of_ble_eq_true rfl) qw355 (v := .ref (eP E (o + 5))) rfl dX1_copyFrom_62 ?_
  refine lv_iconst (v := 0) X.1 X.2.1 dX1_copyFrom_65 (by decide) ?_
  refine lv_iconst (v := 5) X.1 X.2.1 dX1_copyFrom_66 (by decide) ?_
  obtain ⟨h13, hf⟩ := b_cy hf
  refine r_copy X hw hl.1 qw651 qw653 qw652 qw81 (spP5 hE ho1) (spP5 hE ho) h13 (Nat.le_of_ble_eq_true rfl) (Nat.le_of_ble_eq_true rfl) dX1_copyFrom_67 (fun H locs hw => ?_)
  obtain ⟨σ14, e15, hf⟩ := b_bnd hf
  rw [← e15] at hw
  refine lv_aload_n X.1 X.2.1 dX1_copyFrom_70 rfl (lv_at hl 1 rfl) ?_
  refine r_get X hw (spP0 hE ho1) (C := RX1) (T := TX1) (N := 10) rfl iwX1 5 (by decide) (Nat.le_of_ble_eq_true rfl) qw356 (v := .ref (eP E (o1 + 6))) rfl dX1_copyFrom_71 ?_
  refine lv_iconst (v := 0) X.1 X.2.1 dX1_copyFrom_74 (by decide) ?_
  refine lv_aload_n X.1 X.2.1 dX1_copyFrom_75 rfl (lv_at hl 0 rfl) ?_
  refine r_get X hw (spP0 hE ho) (C := RX1) (T := TX1) (N := 10) rfl iwX1 5 (by decide) (Nat.le_of_ble_eq_true rfl) qw356 (v := .ref (eP E (o + 6))) rfl dX1_copyFrom_76 ?_
  refine lv_iconst (v := 0) X.1 X.2.1 dX1_copyFrom_79 (by decide) ?_
  refine lv_iconst (v := 5) X.1 X.2.1 dX1_copyFrom_80 (by decide) ?_
  obtain ⟨h16, hf⟩ := b_cy hf
  refine r_copy X hw hl.1 qw651 qw653 qw652 qw81 (spP6 hE ho1) (spP6 hE ho) h16 (Nat.le_of_ble_eq_true rfl) (Nat.le_of_ble_eq_true rfl) dX1_copyFrom_81 (fun H locs hw => ?_)
  obtain ⟨σ17, e18, hf⟩ := b_bnd hf
  rw [← e18] at hw
  refine lv_aload_n X.1 X.2.1 dX1_copyFrom_84 rfl (lv_at hl 1 rfl) ?_
  refine r_get X hw (spP0 hE ho1) (C := RX1) (T := TX1) (N := 10) rfl iwX1 6 (by decide) (Nat.le_of_ble_eq_true rfl) qw357 (v := .ref (eP E (o1 + 7))) rfl dX1_copyFrom_85 ?_
  refine lv_iconst (v := 0) X.1 X.2.1 dX1_copyFrom_88 (by decide) ?_
  refine lv_aload_n X.1 X.2.1 dX1_copyFrom_89 rfl (lv_at hl 0 rfl) ?_
  refine r_get X hw (spP0 hE ho) (C := RX1) (T := TX1) (N := 10) rfl iwX1 6 (by decide) (Nat.le_of_ble_eq_true rfl) qw357 (v := .ref (eP E (o + 7))) rfl dX1_copyFrom_90 ?_
  refine lv_iconst (v := 0) X.1 X.2.1 dX1_copyFrom_93 (by decide) ?_
  refine lv_bipush (v := 25) X.1 X.2.1 dX1_copyFrom_94 (by decide) ?_
  obtain ⟨h19, hf⟩ := b_cy hf
  refine r_copy X hw hl.1 qw651 qw653 qw652 qw81 (spP7 hE ho1) (spP7 hE ho) h19 (Nat.le_of_ble_eq_true rfl) (Nat.le_of_ble_eq_true rfl) dX1_copyFrom_96 (fun H locs hw => ?_)
  obtain ⟨σ20, e21, hf⟩ := b_bnd hf
  rw [← e21] at hw
  refine lv_aload_n X.1 X.2.1 dX1_copyFrom_99 rfl (lv_at hl 0 rfl) ?_
  refine lv_aload_n X.1 X.2.1 dX1_copyFrom_100 rfl (lv_at hl 1 rfl) ?_
  refine r_get X hw (spP0 hE ho1) (C := RX1) (T := TX1) (N := 10) rfl iwX1 7 (by decide) (Nat.le_of_ble_eq_true rfl) qw358 (v := .int (σ20 o1 7)) rfl dX1_copyFrom_101 ?_
  refine r_put X hw (spP0 hE ho) (C := RX1) (T := TX1) (N := 10) rfl iwX1 tyX1 tyX1_ok nmX1 7 (by decide) (Nat.le_of_ble_eq_true rfl) qw358 rfl (v := .int (σ20 o1 7)) rfl rfl (x := (σ20 o1 7)) rfl dX1_copyFrom_104 (fun H locs hw => ?_)
  obtain ⟨σ22, e23, hf⟩ := b_bnd hf
  rw [← e23] at hw
  refine lv_aload_n X.1 X.2.1 dX1_copyFrom_107 rfl (lv_at hl 0 rfl) ?_
  refine lv_aload_n X.1 X.2.1 dX1_copyFrom_108 rfl (lv_at hl 1 rfl) ?_
  refine r_get X hw (spP0 hE ho1) (C := RX1) (T := TX1) (N := 10) rfl iwX1 8 (by decide) (Nat.le_of_ble_eq_true rfl) qw359 (v := .int (σ22 o1 8)) rfl dX1_copyFrom_109 ?_
  refine r_put X hw (spP0 hE ho) (C := RX1) (T := TX1) (N := 10) rfl iwX1 tyX1 tyX1_ok nmX1 8 (by decide) (Nat.le_of_ble_eq_true rfl) qw359 rfl (v := .int (σ22 o1 8)) rfl rfl (x := (σ22 o1 8)) rfl dX1_copyFrom_112 (fun H locs hw => ?_)
  obtain ⟨σ24, e25, hf⟩ := b_bnd hf
  rw [← e25] at hw
  refine lv_aload_n X.1 X.2.1 dX1_copyFrom_115 rfl (lv_at hl 0 rfl) ?_
  refine lv_aload_n X.1 X.2.1 dX1_copyFrom_116 rfl (lv_at hl 1 rfl) ?_
  refine r_get X hw (spP0 hE ho1) (C := RX1) (T := TX1) (N := 10) rfl iwX1 9 (by decide) (Nat.le_of_ble_eq_true rfl) qw360 (v := .int (σ24 o1 9)) rfl dX1_copyFrom_117 ?_
  refine r_put X hw (spP0 hE ho) (C := RX1) (T := TX1) (N := 10) rfl iwX1 tyX1 tyX1_ok nmX1 9 (by decide) (Nat.le_of_ble_eq_true rfl) qw360 rfl (v := .int (σ24 o1 9)) rfl rfl (x := (σ24 o1 9)) rfl dX1_copyFrom_120 (fun H locs hw => ?_)
  obtain ⟨σ26, e27, hf⟩ := b_bnd hf
  rw [← e27] at hw
  obtain rfl := Option.some.inj hf
  exact r_vret X hw dX1_copyFrom_123
abbrev rm_X1_sum : Room := { frames := 3, cells := 0, slots := 0, locals := 144 }
set_option maxHeartbeats 4000000 in
set_option maxRecDepth 100000 in
theorem w_X1_sum_4 {p : Program} {l : Launch} {e : Env} {s : State} {m : MethodId} {args : Array Value} {below : List Frame} {meth : Method} {c : Code} {Q : State → Prop} {E : en_T} (X : Cx E p s m args meth c cX1_sum 4 RX1 (some .int)) (hE : ShF E) {o50 : Nat} (ho50 : isP o50) {u1 : Int32} {σ : sg_T} {res : Int32 × Int32} :
    ∀ (n : Nat) (w2 : Int32) (w3 : Int32), itr (fun q => b_X1_sum_4 o50 u1 q.1 q.2 σ) n (w2, w3) = some res → ∀ (H : Heap) (locs : List Loc) (ls : Array Slot), Hw E σ s H locs → lv_has ls 4 [(0, .ref (eP E o50)), (1, .int u1), (2, .int w2), (3, .int w3)] →
    (∀ (y2 : Int32) (y3 : Int32), res = (y2, y3) → ∀ (H : Heap) (locs : List Loc) (ls : Array Slot), Hw E σ s H locs → lv_has ls 4 [(0, .ref (eP E o50)), (1, .int u1), (2, .int y2), (3, .int y3)] → W p l e rm_X1_sum s m args below meth c H locs 0 0 Q (F0 m 27 ls [])) →
    W p l e rm_X1_sum s m args below meth c H locs 0 0 Q (F0 m 4 ls []) := by
  have hR : ShR E := hE.r
  intro n
  induction n with
  | zero =>
    intro w2 w3 hf0
    exact (itr_0 hf0).elim
  | succ n ih =>
    intro w2 w3 hf0 H locs ls hw hl K1
    obtain ⟨r0, hf, hr1, hr2⟩ := itr_s hf0
    have hf : b_X1_sum_4 o50 u1 w2 w3 σ = some r0 := hf
    unfold b_X1_sum_4 at hf
    refine lv_iload_n X.1 X.2.1 dX1_sum_4 rfl (lv_at hl 3 rfl) ?_
    refine lv_aload_n X.1 X.2.1 dX1_sum_5 rfl (lv_at hl 0 rfl) ?_
    refine r_get X hw (spP0 hE ho50) (C := RX1) (T := TX1) (N := 10) rfl iwX1 7 (by decide) (Nat.le_of_ble_eq_true rfl) qw358 (v := .int (σ o50 7)) rfl dX1_sum_6 ?_
    refine lv_icmp_ge (tgt := 27) X.1 X.2.1 dX1_sum_9 (by decide) (fun c1 => ?_) (fun c1 => ?_)
    · have hf := if_t hf c1
      obtain rfl := Option.some.inj hf
      obtain rfl := hr2 _ rfl
      exact K1 _ _ rfl _ _ _ hw (lv_sub hl [0, 1, 2, 3] rfl)
    · have hf := if_e hf c1
      refine lv_iload_n X.1 X.2.1 dX1_sum_12 rfl (lv_at hl 2 rfl) ?_
      refine lv_aload_n X.1 X.2.1 dX1_sum_13 rfl (lv_at hl 0 rfl) ?_
      refine lv_iload_n X.1 X.2.1 dX1_sum_14 rfl (lv_at hl 1 rfl) ?_
      refine lv_iload_n X.1 X.2.1 dX1_sum_15 rfl (lv_at hl 3 rfl) ?_
      obtain ⟨r3, h2, hf⟩ := b_bd1 hf
      refine r_callV X hw (k_X1_get hE ho50 h2) (spP0 hE ho50) (C := RX1) (T := TX1) (N := 10) rfl qw668 qw461 qw462 qw76 qw463 okX1_get ⟨rfl, rfl⟩ ⟨(Nat.le_of_ble_eq_true rfl), (Nat.le_of_ble_eq_true rfl)⟩ ⟨Nat.zero_le _, Nat.zero_le _⟩ rfl hl.1 (rest := [.int w2]) rfl (Nat.le_of_ble_eq_true rfl) dX1_sum_16 (st1 := [.int r3, .int w2]) rfl (fun H locs hw => ?_)
      refine lv_iadd X.1 X.2.1 dX1_sum_19 ?_
      refine r_bnd hf (fun v4 hf => ?_)
      refine lv_istore_n (lv' := [(2, .int v4), (0, .ref (eP E o50)), (1, .int u1), (3, .int w3)]) X.1 X.2.1 dX1_sum_20 rfl hl (by decide) rfl (fun ls hl => ?_)
      obtain ⟨v5, e6, hf⟩ := b_bnd hf
      refine lv_iinc (v := v5) (k := 3) (lv' := [(3, .int v5), (2, .int v4), (0, .ref (eP E o50)), (1, .int u1)]) X.1 X.2.1 dX1_sum_21 hl rfl (by rw [e6]; exact congrArg _ (by decide)) (by decide) rfl (fun ls hl => ?_)
      refine lv_goto (tgt := 4) X.1 X.2.1 dX1_sum_24 (by decide) ?_
      obtain rfl := Option.some.inj hf
      exact ih _ _ (hr1 _ rfl) _ _ _ hw (lv_sub hl [2, 3, 1, 0] rfl) K1
set_option maxHeartbeats 4000000 in
set_option maxRecDepth 100000 in
theorem k_X1_sum {l : Launch} {E : en_T} (hE : ShF E) {o : Nat} (ho : isP o) {x1 : Int32} {σ : sg_T} {r : Int32} (hf : f_X1_sum o x1 σ = some r) : Ct l yX1_sum cX1_sum 4 (some .int) rm_X1_sum E [.ref (eP E o), .int x1] σ (some (.int r)) σ := by
  refine Ct.start (by decide) hE.1 (Nat.le_of_ble_eq_true rfl) ?_
  intro p e s m below meth c X hw ls hl
  have X : Cx E p s m _ meth c cX1_sum 4 RX1 (some .int) := X
  have hR : ShR E := hE.r
  have hl : lv_has ls 4 [(0, .ref (eP E o)), (1, .int x1)] := hl
  unfold f_X1_sum at hf
  refine lv_iconst (v := 0) X.1 X.2.1 dX1_sum_0 (by decide) ?_
  refine lv_istore_n (lv' := [(2, .int 0), (0, .ref (eP E o)), (1, .int x1)]) X.1 X.2.1 dX1_sum_1 rfl hl (by decide) rfl (fun ls hl => ?_)
  refine lv_iconst (v := 0) X.1 X.2.1 dX1_sum_2 (by decide) ?_
  refine lv_istore_n (lv' := [(3, .int 0), (2, .int 0), (0, .ref (eP E o)), (1, .int x1)]) X.1 X.2.1 dX1_sum_3 rfl hl (by decide) rfl (fun ls hl => ?_)
  obtain ⟨v8, v9, h7, hf⟩ := b_bd2 hf
  refine w_X1_sum_4 X hE ho lfu _ _ h7 _ _ _ hw (lv_sub hl [2, 3, 1, 0] rfl) (fun yv8 yv9 hq H locs ls hw hl => ?_)
  cases hq
  refine lv_iload_n X.1 X.2.1 dX1_sum_27 rfl (lv_at hl 2 rfl) ?_
  obtain rfl := Option.some.inj hf
  exact r_iret X hw dX1_sum_28
abbrev rm_X1_quarrel : Room := { frames := 2, cells := 0, slots := 0, locals := 122 }
set_option maxHeartbeats 4000000 in
set_option maxRecDepth 100000 in
theorem k_X1_quarrel {l : Launch} {E : en_T} (hE : ShF E) {o : Nat} (ho : isP o) {x1 : Int32} {x2 : Int32} {σ : sg_T}  {σ' : sg_T} (hf : f_X1_quarrel o x1 x2 σ = some σ') : Ct l yX1_quarrel cX1_quarrel 3 none rm_X1_quarrel E [.ref (eP E o), .int x1, .int x2] σ none σ' := by
  refine Ct.start (by decide) hE.1 (Nat.le_of_ble_eq_true rfl) ?_
  intro p e s m below meth c X hw ls hl
  have X : Cx E p s m _ meth c cX1_quarrel 3 RX1 none := X
  have hR : ShR E := hE.r
  have hl : lv_has ls 3 [(0, .ref (eP E o)), (1, .int x1), (2, .int x2)] := hl
  unfold f_X1_quarrel at hf
  refine lv_aload_n X.1 X.2.1 dX1_quarrel_0 rfl (lv_at hl 0 rfl) ?_
  refine lv_iload_n X.1 X.2.1 dX1_quarrel_1 rfl (lv_at hl 1 rfl) ?_
  refine lv_iload_n X.1 X.2.1 dX1_quarrel_2 rfl (lv_at hl 2 rfl) ?_
  obtain ⟨r2, h1, hf⟩ := b_bd1 hf
  refine r_callV X hw (k_X1_hasTwo hE ho h1) (spP0 hE ho) (C := RX1) (T := TX1) (N := 10) rfl qw634 qw562 qw563 qw76 qw564 okX1_hasTwo ⟨rfl, rfl⟩ ⟨(Nat.le_of_ble_eq_true rfl), (Nat.le_of_ble_eq_true rfl)⟩ ⟨Nat.zero_le _, Nat.zero_le _⟩ rfl hl.1 (rest := []) rfl (Nat.le_of_ble_eq_true rfl) dX1_quarrel_3 (st1 := [.int r2]) rfl (fun H locs hw => ?_)
  refine lv_if_eq (tgt := 20) X.1 X.2.1 dX1_quarrel_6 (by decide) (fun c3 => ?_) (fun c3 => ?_)
  · have hf := if_t hf c3
    obtain rfl := Option.some.inj hf
    exact r_vret X hw dX1_quarrel_20
  · have hf := if_e hf c3
    refine lv_aload_n X.1 X.2.1 dX1_quarrel_9 rfl (lv_at hl 0 rfl) ?_
    refine r_get X hw (spP0 hE ho) (C := RX1) (T := TX1) (N := 10) rfl iwX1 6 (by decide) (Nat.le_of_ble_eq_true rfl) qw357 (v := .ref (eP E (o + 7))) rfl dX1_quarrel_10 ?_
    refine lv_iload_n X.1 X.2.1 dX1_quarrel_13 rfl (lv_at hl 1 rfl) ?_
    refine lv_iconst (v := 5) X.1 X.2.1 dX1_quarrel_14 (by decide) ?_
    refine lv_imul X.1 X.2.1 dX1_quarrel_15 ?_
    refine lv_iload_n X.1 X.2.1 dX1_quarrel_16 rfl (lv_at hl 2 rfl) ?_
    refine lv_iadd X.1 X.2.1 dX1_quarrel_17 ?_
    refine lv_iconst (v := 0) X.1 X.2.1 dX1_quarrel_18 (by decide) ?_
    obtain ⟨h4, hf⟩ := b_ck hf
    refine r_iast X hw (spP7 hE ho) h4 dX1_quarrel_19 (fun H locs hw => ?_)
    obtain ⟨σ5, e6, hf⟩ := b_bnd hf
    rw [← e6] at hw
    obtain rfl := Option.some.inj hf
    exact r_vret X hw dX1_quarrel_20
abbrev rm_X1_manyWithoutSetter : Room := { frames := 3, cells := 0, slots := 0, locals := 148 }
set_option maxHeartbeats 4000000 in
set_option maxRecDepth 100000 in
theorem k_X1_manyWithoutSetter {l : Launch} {E : en_T} (hE : ShF E) {o : Nat} (ho : isP o) {σ : sg_T} {r : Int32} (hf : f_X1_manyWithoutSetter o σ = some r) : Ct l yX1_manyWithoutSetter cX1_manyWithoutSetter 1 (some .int) rm_X1_manyWithoutSetter E [.ref (eP E o)] σ (some (.int r)) σ := by
  refine Ct.start (by decide) hE.1 (Nat.le_of_ble_eq_true rfl) ?_
  intro p e s m below meth c X hw ls hl
  have X : Cx E p s m _ meth c cX1_manyWithoutSetter 1 RX1 (some .int) := X
  have hR : ShR E := hE.r
  have hl : lv_has ls 1 [(0, .ref (eP E o))] := hl
  unfold f_X1_manyWithoutSetter at hf
  refine lv_aload_n X.1 X.2.1 dX1_manyWithoutSetter_0 rfl (lv_at hl 0 rfl) ?_
  refine lv_iconst (v := (-1)) X.1 X.2.1 dX1_manyWithoutSetter_1 (by decide) ?_
  obtain ⟨r2, h1, hf⟩ := b_bd1 hf
  refine r_callV X hw (k_X1_whoseClocks hE ho h1) (spP0 hE ho) (C := RX1) (T := TX1) (N := 10) rfl qw812 qw553 qw554 qw76 qw555 okX1_whoseClocks ⟨rfl, rfl⟩ ⟨(Nat.le_of_ble_eq_true rfl), (Nat.le_of_ble_eq_true rfl)⟩ ⟨Nat.zero_le _, Nat.zero_le _⟩ rfl hl.1 (rest := []) rfl (Nat.le_of_ble_eq_true rfl) dX1_manyWithoutSetter_2 (st1 := [.int r2]) rfl (fun H locs hw => ?_)
  obtain ⟨r3, h4, hf⟩ := b_bd1 hf
  refine r_callS X hw (k_J6_bitCount hR h4) qw813 qw659 qw82 qw660 okJ6_bitCount ⟨rfl, rfl⟩ ⟨(Nat.le_of_ble_eq_true rfl), (Nat.le_of_ble_eq_true rfl)⟩ ⟨Nat.zero_le _, Nat.zero_le _⟩ rfl hl.1 (rest := []) rfl (Nat.le_of_ble_eq_true rfl) dX1_manyWithoutSetter_5 (st1 := [.int r3]) rfl (fun H locs hw => ?_)
  obtain rfl := Option.some.inj hf
  exact r_iret X hw dX1_manyWithoutSetter_8
