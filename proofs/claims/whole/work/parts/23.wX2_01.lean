set_option maxHeartbeats 4000000 in
set_option maxRecDepth 100000 in
theorem k_X2_readE {l : Launch} {E : en_T} (hR : ShR E) {rec : Nat → Int32 → sg_T → Option (Int32 × sg_T)} {n0 : Nat} (ih_X2_readE : ∀ {x1 : Int32} {σ : sg_T} {r : Int32} {σ' : sg_T}, rec 0 x1 σ = some (r, σ') → Ct l yX2_readE cX2_readE 3 (some .boolean) (rm_read n0) E [.ref (eP E 1), .int x1] σ (some (.int r)) σ') (ih_X2_readAnd : ∀ {x1 : Int32} {σ : sg_T} {r : Int32} {σ' : sg_T}, rec 1 x1 σ = some (r, σ') → Ct l yX2_readAnd cX2_readAnd 3 (some .boolean) (rm_read n0) E [.ref (eP E 1), .int x1] σ (some (.int r)) σ') (ih_X2_readNot : ∀ {x1 : Int32} {σ : sg_T} {r : Int32} {σ' : sg_T}, rec 2 x1 σ = some (r, σ') → Ct l yX2_readNot cX2_readNot 4 (some .boolean) (rm_read n0) E [.ref (eP E 1), .int x1] σ (some (.int r)) σ') (ih_X2_readSum : ∀ {x1 : Int32} {σ : sg_T} {r : Int32} {σ' : sg_T}, rec 3 x1 σ = some (r, σ') → Ct l yX2_readSum cX2_readSum 4 (some .boolean) (rm_read n0) E [.ref (eP E 1), .int x1] σ (some (.int r)) σ') (ih_X2_readTerm : ∀ {x1 : Int32} {σ : sg_T} {r : Int32} {σ' : sg_T}, rec 4 x1 σ = some (r, σ') → Ct l yX2_readTerm cX2_readTerm 3 (some .boolean) (rm_read n0) E [.ref (eP E 1), .int x1] σ (some (.int r)) σ') (ih_X2_readOne : ∀ {x1 : Int32} {σ : sg_T} {r : Int32} {σ' : sg_T}, rec 5 x1 σ = some (r, σ') → Ct l yX2_readOne cX2_readOne 4 (some .boolean) (rm_read n0) E [.ref (eP E 1), .int x1] σ (some (.int r)) σ') {x1 : Int32} {σ : sg_T} {r : Int32} {σ' : sg_T} (hf : f_X2_readE rec x1 σ = some (r, σ')) : Ct l yX2_readE cX2_readE 3 (some .boolean) (rm_read (n0 + 1)) E [.ref (eP E 1), .int x1] σ (some (.int r)) σ' := by
  refine Ct.start (by decide) hR.1 (Nat.le_of_ble_eq_true rfl) ?_
  intro p e s m below meth c X hw ls hl
  have X : Cx E p s m _ meth c cX2_readE 3 RX2 (some .boolean) := X
  have hl : lv_has ls 3 [(0, .ref (eP E 1)), (1, .int x1)] := hl
  unfold f_X2_readE at hf
  refine lv_aload_n X.1 X.2.1 dX2_readE_0 rfl (lv_at hl 0 rfl) ?_
  refine lv_iload_n X.1 X.2.1 dX2_readE_1 rfl (lv_at hl 1 rfl) ?_
  obtain ⟨r2, σ3, h1, hf⟩ := b_bd2 hf
  refine r_callV X hw (ih_X2_readAnd  h1) (sp1 hR) (C := RX2) (T := TX2) (N := 8) rfl qw279 qw281 qw10 qw69 qw282 okX2_readAnd ⟨rfl, rfl⟩ (rm_read_ok n0 (by decide)) ⟨Nat.zero_le _, Nat.zero_le _⟩ rfl hl.1 (rest := []) rfl (Nat.le_of_ble_eq_true rfl) dX2_readE_2 (st1 := [.int r2]) rfl (fun H locs hw => ?_)
  refine lv_if_ne (tgt := 10) X.1 X.2.1 dX2_readE_5 (by decide) (fun c4 => ?_) (fun c4 => ?_)
  · have hf := if_e hf c4
    refine lv_aload_n X.1 X.2.1 dX2_readE_10 rfl (lv_at hl 0 rfl) ?_
    refine r_get X hw (sp1 hR) (C := RX2) (T := TX2) (N := 8) rfl iwX2 5 (by decide) (Nat.le_of_ble_eq_true rfl) qw103 (v := .int (σ3 1 5)) rfl dX2_readE_11 ?_
    refine r_bnd hf (fun v5 hf => ?_)
    refine lv_istore_n (lv' := [(2, .int v5), (0, .ref (eP E 1)), (1, .int x1)]) X.1 X.2.1 dX2_readE_14 rfl hl (by decide) rfl (fun ls hl => ?_)
    obtain ⟨r24, h21, hf⟩ := b_bs hf
    rcases hf with ⟨⟨v22, σ23⟩, rfl, hf⟩ | ⟨⟨r25, σ26⟩, rfl, hf⟩
    · refine w_X2_readE_15 X hR ih_X2_readE ih_X2_readAnd ih_X2_readNot ih_X2_readSum ih_X2_readTerm ih_X2_readOne  lfu _ _ h21 _ _ _ hw (lv_sub hl [1, 2, 0] rfl) (fun yv22 yσ23 hq H locs ls hw hl => ?_) (fun _ _ hq => by cases hq)
      cases hq
      dsimp only at hf
      refine lv_iconst (v := 1) X.1 X.2.1 dX2_readE_53 (by decide) ?_
      obtain ⟨rfl, rfl⟩ := Prod.mk.inj (Option.some.inj hf)
      exact r_zret X hw (by decide) dX2_readE_54
    · refine w_X2_readE_15 X hR ih_X2_readE ih_X2_readAnd ih_X2_readNot ih_X2_readSum ih_X2_readTerm ih_X2_readOne  lfu _ _ h21 _ _ _ hw (lv_sub hl [1, 2, 0] rfl) (fun _ _ hq => by cases hq) (fun _ _ hq => ?_)
      cases hq
      cases hf
      rfl
  · have hf := if_t hf c4
    refine lv_iconst (v := 0) X.1 X.2.1 dX2_readE_8 (by decide) ?_
    obtain ⟨rfl, rfl⟩ := Prod.mk.inj (Option.some.inj hf)
    exact r_zret X hw (by decide) dX2_readE_9
theorem kr_read {l : Launch} {E : en_T} (hR : ShR E) : ∀ n : Nat, (∀ {x1 : Int32} {σ : sg_T} {r : Int32} {σ' : sg_T}, g_read n 0 x1 σ = some (r, σ') → Ct l yX2_readE cX2_readE 3 (some .boolean) (rm_read n) E [.ref (eP E 1), .int x1] σ (some (.int r)) σ') ∧ (∀ {x1 : Int32} {σ : sg_T} {r : Int32} {σ' : sg_T}, g_read n 1 x1 σ = some (r, σ') → Ct l yX2_readAnd cX2_readAnd 3 (some .boolean) (rm_read n) E [.ref (eP E 1), .int x1] σ (some (.int r)) σ') ∧ (∀ {x1 : Int32} {σ : sg_T} {r : Int32} {σ' : sg_T}, g_read n 2 x1 σ = some (r, σ') → Ct l yX2_readNot cX2_readNot 4 (some .boolean) (rm_read n) E [.ref (eP E 1), .int x1] σ (some (.int r)) σ') ∧ (∀ {x1 : Int32} {σ : sg_T} {r : Int32} {σ' : sg_T}, g_read n 3 x1 σ = some (r, σ') → Ct l yX2_readSum cX2_readSum 4 (some .boolean) (rm_read n) E [.ref (eP E 1), .int x1] σ (some (.int r)) σ') ∧ (∀ {x1 : Int32} {σ : sg_T} {r : Int32} {σ' : sg_T}, g_read n 4 x1 σ = some (r, σ') → Ct l yX2_readTerm cX2_readTerm 3 (some .boolean) (rm_read n) E [.ref (eP E 1), .int x1] σ (some (.int r)) σ') ∧ (∀ {x1 : Int32} {σ : sg_T} {r : Int32} {σ' : sg_T}, g_read n 5 x1 σ = some (r, σ') → Ct l yX2_readOne cX2_readOne 4 (some .boolean) (rm_read n) E [.ref (eP E 1), .int x1] σ (some (.int r)) σ') := by
  intro n
  induction n with
  | zero => refine ⟨?_, ?_, ?_, ?_, ?_, ?_⟩ <;> (intro x1 σ r σ' h; cases h)
  | succ n ih =>
    obtain ⟨i1, i2, i3, i4, i5, i6⟩ := ih
    refine ⟨?_, ?_, ?_, ?_, ?_, ?_⟩
    · intro x1 σ r σ' h
      exact k_X2_readE hR i1 i2 i3 i4 i5 i6 h
    · intro x1 σ r σ' h
      exact k_X2_readAnd hR i1 i2 i3 i4 i5 i6 h
    · intro x1 σ r σ' h
      exact k_X2_readNot hR i1 i2 i3 i4 i5 i6 h
    · intro x1 σ r σ' h
      exact k_X2_readSum hR i1 i2 i3 i4 i5 i6 h
    · intro x1 σ r σ' h
      exact k_X2_readTerm hR i1 i2 i3 i4 i5 i6 h
    · intro x1 σ r σ' h
      exact k_X2_readOne hR i1 i2 i3 i4 i5 i6 h
theorem kg_X2_readE {l : Launch} {E : en_T} (hR : ShR E) {x1 : Int32} {σ : sg_T} {r : Int32} {σ' : sg_T} (h : g_read rfu 0 x1 σ = some (r, σ')) : Ct l yX2_readE cX2_readE 3 (some .boolean) (rm_read rfu) E [.ref (eP E 1), .int x1] σ (some (.int r)) σ' := (kr_read hR rfu).1 h
theorem kg_X2_readAnd {l : Launch} {E : en_T} (hR : ShR E) {x1 : Int32} {σ : sg_T} {r : Int32} {σ' : sg_T} (h : g_read rfu 1 x1 σ = some (r, σ')) : Ct l yX2_readAnd cX2_readAnd 3 (some .boolean) (rm_read rfu) E [.ref (eP E 1), .int x1] σ (some (.int r)) σ' := (kr_read hR rfu).2.1 h
theorem kg_X2_readNot {l : Launch} {E : en_T} (hR : ShR E) {x1 : Int32} {σ : sg_T} {r : Int32} {σ' : sg_T} (h : g_read rfu 2 x1 σ = some (r, σ')) : Ct l yX2_readNot cX2_readNot 4 (some .boolean) (rm_read rfu) E [.ref (eP E 1), .int x1] σ (some (.int r)) σ' := (kr_read hR rfu).2.2.1 h
theorem kg_X2_readSum {l : Launch} {E : en_T} (hR : ShR E) {x1 : Int32} {σ : sg_T} {r : Int32} {σ' : sg_T} (h : g_read rfu 3 x1 σ = some (r, σ')) : Ct l yX2_readSum cX2_readSum 4 (some .boolean) (rm_read rfu) E [.ref (eP E 1), .int x1] σ (some (.int r)) σ' := (kr_read hR rfu).2.2.2.1 h
theorem kg_X2_readTerm {l : Launch} {E : en_T} (hR : ShR E) {x1 : Int32} {σ : sg_T} {r : Int32} {σ' : sg_T} (h : g_read rfu 4 x1 σ = some (r, σ')) : Ct l yX2_readTerm cX2_readTerm 3 (some .boolean) (rm_read rfu) E [.ref (eP E 1), .int x1] σ (some (.int r)) σ' := (kr_read hR rfu).2.2.2.2.1 h
theorem kg_X2_readOne {l : Launch} {E : en_T} (hR : ShR E) {x1 : Int32} {σ : sg_T} {r : Int32} {σ' : sg_T} (h : g_read rfu 5 x1 σ = some (r, σ')) : Ct l yX2_readOne cX2_readOne 4 (some .boolean) (rm_read rfu) E [.ref (eP E 1), .int x1] σ (some (.int r)) σ' := (kr_read hR rfu).2.2.2.2.2 h

abbrev rm_X2_readPart : Room := { frames := 105, cells := 0, slots := 0, locals := 7862 }
set_option maxHeartbeats 4000000 in
set_option maxRecDepth 100000 in
theorem k_X2_readPart {l : Launch} {E : en_T} (hR : ShR E) {x1 : Int32} {σ : sg_T} {r : Int32} {σ' : sg_T} (hf : f_X2_readPart x1 σ = some (r, σ')) : Ct l yX2_readPart cX2_readPart 3 (some .boolean) rm_X2_readPart E [.ref (eP E 1), .int x1] σ (some (.int r)) σ' := by
  refine Ct.start (by decide) hR.1 (Nat.le_of_ble_eq_true rfl) ?_
  intro p e s m below meth c X hw ls hl
  have X : Cx E p s m _ meth c cX2_readPart 3 RX2 (some .boolean) := X
  have hl : lv_has ls 3 [(0, .ref (eP E 1)), (1, .int x1)] := hl
  unfold f_X2_readPart at hf
  refine lv_aload_n X.1 X.2.1 dX2_readPart_0 rfl (lv_at hl 0 rfl) ?_
  refine lv_bipush (v := 6) X.1 X.2.1 dX2_readPart_1 (by decide) ?_
  refine lv_iload_n X.1 X.2.1 dX2_readPart_3 rfl (lv_at hl 1 rfl) ?_
  refine lv_iadd X.1 X.2.1 dX2_readPart_4 ?_
  obtain ⟨r2, σ3, h1, hf⟩ := b_bd2 hf
  refine r_callV X hw (k_X2_pass hR  h1) (sp1 hR) (C := RX2) (T := TX2) (N := 8) rfl qw267 qw269 qw7 qw69 qw270 okX2_pass ⟨rfl, rfl⟩ ⟨(Nat.le_of_ble_eq_true rfl), (Nat.le_of_ble_eq_true rfl)⟩ ⟨Nat.zero_le _, Nat.zero_le _⟩ rfl hl.1 (rest := []) rfl (Nat.le_of_ble_eq_true rfl) dX2_readPart_5 (st1 := [.int r2]) rfl (fun H locs hw => ?_)
  refine lv_if_eq (tgt := 32) X.1 X.2.1 dX2_readPart_8 (by decide) (fun c4 => ?_) (fun c4 => ?_)
  · have hf := if_t hf c4
    refine lv_iconst (v := 0) X.1 X.2.1 dX2_readPart_32 (by decide) ?_
    refine lv_istore_n (lv' := [(2, .int 0), (0, .ref (eP E 1)), (1, .int x1)]) X.1 X.2.1 dX2_readPart_33 rfl hl (by decide) rfl (fun ls hl => ?_)
    refine lv_aload_n X.1 X.2.1 dX2_readPart_34 rfl (lv_at hl 1 rfl) ?_
    obtain ⟨h5, h6, hf⟩ := b_cT hf
    refine r_get X hw (sp1 hR) (C := RX2) (T := TX2) (N := 8) rfl iwX2 7 (by decide) (Nat.le_of_ble_eq_true rfl) qw105 (v := .ref (eP E ((σ3 1 7).toNatClampNeg))) (fv_dyn h6) dX2_readPart_35 ?_
    refine lv_iload_n X.1 X.2.1 dX2_readPart_38 rfl (lv_at hl 2 rfl) ?_
    obtain ⟨σ8, h7, hf⟩ := b_bd1 hf
    refine r_callV X hw (k_X5_endPart hR h5 h7) (spT0 hR h5) (C := RX5) (T := TX5) (N := 3) rfl qw308 qw309 qw310 qw71 qw311 okX5_endPart ⟨rfl, rfl⟩ ⟨(Nat.le_of_ble_eq_true rfl), (Nat.le_of_ble_eq_true rfl)⟩ ⟨Nat.zero_le _, Nat.zero_le _⟩ rfl hl.1 (rest := []) rfl (Nat.le_of_ble_eq_true rfl) dX2_readPart_39 (st1 := []) rfl (fun H locs hw => ?_)
    refine lv_iload_n X.1 X.2.1 dX2_readPart_42 rfl (lv_at hl 0 rfl) ?_
    obtain ⟨rfl, rfl⟩ := Prod.mk.inj (Option.some.inj hf)
    exact r_zret X hw (by decide) dX2_readPart_43
  · have hf := if_e hf c4
    refine lv_aload_n X.1 X.2.1 dX2_readPart_11 rfl (lv_at hl 0 rfl) ?_
    refine lv_iconst (v := 0) X.1 X.2.1 dX2_readPart_12 (by decide) ?_
    obtain ⟨r10, σ11, h9, hf⟩ := b_bd2 hf
    refine r_callV X hw (kg_X2_readE hR  h9) (sp1 hR) (C := RX2) (T := TX2) (N := 8) rfl qw275 qw277 qw9 qw69 qw278 okX2_readE ⟨rfl, rfl⟩ ⟨(Nat.le_of_ble_eq_true rfl), (Nat.le_of_ble_eq_true rfl)⟩ ⟨Nat.zero_le _, Nat.zero_le _⟩ rfl hl.1 (rest := []) rfl (Nat.le_of_ble_eq_true rfl) dX2_readPart_13 (st1 := [.int r10]) rfl (fun H locs hw => ?_)
    refine lv_if_eq (tgt := 32) X.1 X.2.1 dX2_readPart_16 (by decide) (fun c12 => ?_) (fun c12 => ?_)
    · have hf := if_t hf c12
      refine lv_iconst (v := 0) X.1 X.2.1 dX2_readPart_32 (by decide) ?_
      refine lv_istore_n (lv' := [(2, .int 0), (0, .ref (eP E 1)), (1, .int x1)]) X.1 X.2.1 dX2_readPart_33 rfl hl (by decide) rfl (fun ls hl => ?_)
      refine lv_aload_n X.1 X.2.1 dX2_readPart_34 rfl (lv_at hl 1 rfl) ?_
      obtain ⟨h13, h14, hf⟩ := b_cT hf
      refine r_get X hw (sp1 hR) (C := RX2) (T := TX2) (N := 8) rfl iwX2 7 (by decide) (Nat.le_of_ble_eq_true rfl) qw105 (v := .ref (eP E ((σ11 1 7).toNatClampNeg))) (fv_dyn h14) dX2_readPart_35 ?_
      refine lv_iload_n X.1 X.2.1 dX2_readPart_38 rfl (lv_at hl 2 rfl) ?_
      obtain ⟨σ16, h15, hf⟩ := b_bd1 hf
      refine r_callV X hw (k_X5_endPart hR h13 h15) (spT0 hR h13) (C := RX5) (T := TX5) (N := 3) rfl qw308 qw309 qw310 qw71 qw311 okX5_endPart ⟨rfl, rfl⟩ ⟨(Nat.le_of_ble_eq_true rfl), (Nat.le_of_ble_eq_true rfl)⟩ ⟨Nat.zero_le _, Nat.zero_le _⟩ rfl hl.1 (rest := []) rfl (Nat.le_of_ble_eq_true rfl) dX2_readPart_39 (st1 := []) rfl (fun H locs hw => ?_)
      refine lv_iload_n X.1 X.2.1 dX2_readPart_42 rfl (lv_at hl 0 rfl) ?_
      obtain ⟨rfl, rfl⟩ := Prod.mk.inj (Option.some.inj hf)
      exact r_zret X hw (by decide) dX2_readPart_43
    · have hf := if_e hf c12
      refine lv_aload_n X.1 X.2.1 dX2_readPart_19 rfl (lv_at hl 0 rfl) ?_
      refine lv_bipush (v := 59) X.1 X.2.1 dX2_readPart_20 (by decide) ?_
      obtain ⟨r18, σ19, h17, hf⟩ := b_bd2 hf
      refine r_callV X hw (k_X2_pass hR  h17) (sp1 hR) (C := RX2) (T := TX2) (N := 8) rfl qw267 qw269 qw7 qw69 qw270 okX2_pass ⟨rfl, rfl⟩ ⟨(Nat.le_of_ble_eq_true rfl), (Nat.le_of_ble_eq_true rfl)⟩ ⟨Nat.zero_le _, Nat.zero_le _⟩ rfl hl.1 (rest := []) rfl (Nat.le_of_ble_eq_true rfl) dX2_readPart_22 (st1 := [.int r18]) rfl (fun H locs hw => ?_)
      obtain ⟨v21, e22, hf⟩ := b_bnd hf
      refine r_join (g2 := F0 m 33 ls [.int v21]) ?_ (fun hj => ?_)
      · refine lv_istore_n (lv' := [(2, .int v21), (0, .ref (eP E 1)), (1, .int x1)]) X.1 X.2.1 dX2_readPart_33 rfl hl (by decide) rfl (fun ls hl => ?_)
        refine lv_aload_n X.1 X.2.1 dX2_readPart_34 rfl (lv_at hl 1 rfl) ?_
        obtain ⟨h23, h24, hf⟩ := b_cT hf
        refine r_get X hw (sp1 hR) (C := RX2) (T := TX2) (N := 8) rfl iwX2 7 (by decide) (Nat.le_of_ble_eq_true rfl) qw105 (v := .ref (eP E ((σ19 1 7).toNatClampNeg))) (fv_dyn h24) dX2_readPart_35 ?_
        refine lv_iload_n X.1 X.2.1 dX2_readPart_38 rfl (lv_at hl 2 rfl) ?_
        obtain ⟨σ26, h25, hf⟩ := b_bd1 hf
        refine r_callV X hw (k_X5_endPart hR h23 h25) (spT0 hR h23) (C := RX5) (T := TX5) (N := 3) rfl qw308 qw309 qw310 qw71 qw311 okX5_endPart ⟨rfl, rfl⟩ ⟨(Nat.le_of_ble_eq_true rfl), (Nat.le_of_ble_eq_true rfl)⟩ ⟨Nat.zero_le _, Nat.zero_le _⟩ rfl hl.1 (rest := []) rfl (Nat.le_of_ble_eq_true rfl) dX2_readPart_39 (st1 := []) rfl (fun H locs hw => ?_)
        refine lv_iload_n X.1 X.2.1 dX2_readPart_42 rfl (lv_at hl 0 rfl) ?_
        obtain ⟨h27, hf⟩ := b_cz hf
        obtain ⟨rfl, rfl⟩ := Prod.mk.inj (Option.some.inj hf)
        exact r_zret X hw (cz_and h27) dX2_readPart_43
      · refine lv_if_eq (tgt := 32) X.1 X.2.1 dX2_readPart_25 (by decide) (fun c20 => ?_) (fun c20 => ?_)
        · rw [e22, if_pos c20] at hj
          refine lv_iconst (v := 0) X.1 X.2.1 dX2_readPart_32 (by decide) ?_
          exact hj
        · rw [e22, if_neg c20] at hj
          refine lv_iconst (v := 1) X.1 X.2.1 dX2_readPart_28 (by decide) ?_
          refine lv_goto (tgt := 33) X.1 X.2.1 dX2_readPart_29 (by decide) ?_
          exact hj
abbrev rm_X2_faultPlace : Room := { frames := 0, cells := 0, slots := 0, locals := 0 }
set_option maxHeartbeats 4000000 in
set_option maxRecDepth 100000 in
theorem k_X2_faultPlace {l : Launch} {E : en_T} (hR : ShR E)  {σ : sg_T} {r : Int32} (hf : f_X2_faultPlace  σ = some r) : Ct l yX2_faultPlace cX2_faultPlace 1 (some .int) rm_X2_faultPlace E [.ref (eP E 1)] σ (some (.int r)) σ := by
  refine Ct.start (by decide) hR.1 (Nat.le_of_ble_eq_true rfl) ?_
  intro p e s m below meth c X hw ls hl
  have X : Cx E p s m _ meth c cX2_faultPlace 1 RX2 (some .int) := X
  have hl : lv_has ls 1 [(0, .ref (eP E 1))] := hl
  unfold f_X2_faultPlace at hf
  refine lv_aload_n X.1 X.2.1 dX2_faultPlace_0 rfl (lv_at hl 0 rfl) ?_
  refine r_get X hw (sp1 hR) (C := RX2) (T := TX2) (N := 8) rfl iwX2 6 (by decide) (Nat.le_of_ble_eq_true rfl) qw104 (v := .int (σ 1 6)) rfl dX2_faultPlace_1 ?_
  refine lv_aload_n X.1 X.2.1 dX2_faultPlace_4 rfl (lv_at hl 0 rfl) ?_
  refine r_get X hw (sp1 hR) (C := RX2) (T := TX2) (N := 8) rfl iwX2 5 (by decide) (Nat.le_of_ble_eq_true rfl) qw103 (v := .int (σ 1 5)) rfl dX2_faultPlace_5 ?_
  refine lv_icmp_ge (tgt := 23) X.1 X.2.1 dX2_faultPlace_8 (by decide) (fun c1 => ?_) (fun c1 => ?_)
  · have hf := if_t hf c1
    refine lv_aload_n X.1 X.2.1 dX2_faultPlace_23 rfl (lv_at hl 0 rfl) ?_
    refine r_get X hw (sp1 hR) (C := RX2) (T := TX2) (N := 8) rfl iwX2 1 (by decide) (Nat.le_of_ble_eq_true rfl) qw99 (v := .int (σ 1 1)) rfl dX2_faultPlace_24 ?_
    obtain rfl := Option.some.inj hf
    exact r_iret X hw dX2_faultPlace_27
  · have hf := if_e hf c1
    refine lv_aload_n X.1 X.2.1 dX2_faultPlace_11 rfl (lv_at hl 0 rfl) ?_
    refine r_get X hw (sp1 hR) (C := RX2) (T := TX2) (N := 8) rfl iwX2 3 (by decide) (Nat.le_of_ble_eq_true rfl) qw101 (v := .ref (eP E 4)) rfl dX2_faultPlace_12 ?_
    refine lv_aload_n X.1 X.2.1 dX2_faultPlace_15 rfl (lv_at hl 0 rfl) ?_
    refine r_get X hw (sp1 hR) (C := RX2) (T := TX2) (N := 8) rfl iwX2 6 (by decide) (Nat.le_of_ble_eq_true rfl) qw104 (v := .int (σ 1 6)) rfl dX2_faultPlace_16 ?_
    obtain ⟨h2, hf⟩ := b_ck hf
    refine r_iald X hw (sp4 hR) h2 dX2_faultPlace_19 ?_
    refine lv_goto (tgt := 27) X.1 X.2.1 dX2_faultPlace_20 (by decide) ?_
    obtain rfl := Option.some.inj hf
    exact r_iret X hw dX2_faultPlace_27
abbrev rm_X2_clear : Room := { frames := 0, cells := 0, slots := 0, locals := 0 }
set_option maxHeartbeats 4000000 in
set_option maxRecDepth 100000 in
theorem k_X2_clear {l : Launch} {E : en_T} (hR : ShR E)  {σ : sg_T}  {σ' : sg_T} (hf : f_X2_clear  σ = some σ') : Ct l yX2_clear cX2_clear 1 none rm_X2_clear E [.ref (eP E 1)] σ none σ' := by
  refine Ct.start (by decide) hR.1 (Nat.le_of_ble_eq_true rfl) ?_
  intro p e s m below meth c X hw ls hl
  have X : Cx E p s m _ meth c cX2_clear 1 RX2 none := X
  have hl : lv_has ls 1 [(0, .ref (eP E 1))] := hl
  unfold f_X2_clear at hf
  refine lv_aload_n X.1 X.2.1 dX2_clear_0 rfl (lv_at hl 0 rfl) ?_
  refine lv_iconst (v := 0) X.1 X.2.1 dX2_clear_1 (by decide) ?_
  refine r_put X hw (sp1 hR) (C := RX2) (T := TX2) (N := 8) rfl iwX2 tyX2 tyX2_ok nmX2 1 (by decide) (Nat.le_of_ble_eq_true rfl) qw99 rfl (v := .int 0) rfl rfl (x := 0) rfl dX2_clear_2 (fun H locs hw => ?_)
  obtain ⟨σ1, e2, hf⟩ := b_bnd hf
  rw [← e2] at hw
  obtain rfl := Option.some.inj hf
  exact r_vret X hw dX2_clear_5
abbrev rm_X2_size : Room := { frames := 0, cells := 0, slots := 0, locals := 0 }
set_option maxHeartbeats 4000000 in
set_option maxRecDepth 100000 in
theorem k_X2_size {l : Launch} {E : en_T} (hR : ShR E)  {σ : sg_T} {r : Int32} (hf : f_X2_size  σ = some r) : Ct l yX2_size cX2_size 1 (some .int) rm_X2_size E [.ref (eP E 1)] σ (some (.int r)) σ := by
  refine Ct.start (by decide) hR.1 (Nat.le_of_ble_eq_true rfl) ?_
  intro p e s m below meth c X hw ls hl
  have X : Cx E p s m _ meth c cX2_size 1 RX2 (some .int) := X
  have hl : lv_has ls 1 [(0, .ref (eP E 1))] := hl
  unfold f_X2_size at hf
  refine lv_aload_n X.1 X.2.1 dX2_size_0 rfl (lv_at hl 0 rfl) ?_
  refine r_get X hw (sp1 hR) (C := RX2) (T := TX2) (N := 8) rfl iwX2 1 (by decide) (Nat.le_of_ble_eq_true rfl) qw99 (v := .int (σ 1 1)) rfl dX2_size_1 ?_
  obtain rfl := Option.some.inj hf
  exact r_iret X hw dX2_size_4
