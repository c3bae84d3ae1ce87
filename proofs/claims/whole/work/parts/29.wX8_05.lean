abbrev rm_X8_image : Room := { frames := 1, cells := 0, slots := 0, locals := 100 }
set_option maxHeartbeats 4000000 in
set_option maxRecDepth 100000 in
theorem k_X8_image {l : Launch} {E : en_T} (hE : ShF E)  {σ : sg_T} {r : Int32} {σ' : sg_T} (hf : f_X8_image  σ = some (r, σ')) : Ct l yX8_image cX8_image 1 (some .int) rm_X8_image E [.ref (eP E 69)] σ (some (.int r)) σ' := by
  refine Ct.start (by decide) hE.1 (Nat.le_of_ble_eq_true rfl) ?_
  intro p e s m below meth c X hw ls hl
  have X : Cx E p s m _ meth c cX8_image 1 RX8 (some .int) := X
  have hR : ShR E := hE.r
  have hl : lv_has ls 1 [(0, .ref (eP E 69))] := hl
  unfold f_X8_image at hf
  refine lv_aload_n X.1 X.2.1 dX8_image_0 rfl (lv_at hl 0 rfl) ?_
  refine lv_aload_n X.1 X.2.1 dX8_image_1 rfl (lv_at hl 0 rfl) ?_
  refine r_get X hw (sp69 hE) (C := RX8) (T := TX8) (N := 31) rfl iwX8 1 (by decide) (Nat.le_of_ble_eq_true rfl) qw867 (v := .ref (eP E 71)) rfl dX8_image_2 ?_
  obtain ⟨σ2, h1, hf⟩ := b_bd1 hf
  refine r_callV X hw (k_X8_keep hE (Or.inl rfl) h1) (sp69 hE) (C := RX8) (T := TX8) (N := 31) rfl qw1127 qw1129 qw55 qw79 qw1130 okX8_keep ⟨rfl, rfl⟩ ⟨(Nat.le_of_ble_eq_true rfl), (Nat.le_of_ble_eq_true rfl)⟩ ⟨Nat.zero_le _, Nat.zero_le _⟩ rfl hl.1 (rest := []) rfl (Nat.le_of_ble_eq_true rfl) dX8_image_5 (st1 := []) rfl (fun H locs hw => ?_)
  refine lv_aload_n X.1 X.2.1 dX8_image_8 rfl (lv_at hl 0 rfl) ?_
  refine lv_iconst (v := 1) X.1 X.2.1 dX8_image_9 (by decide) ?_
  refine r_put X hw (sp69 hE) (C := RX8) (T := TX8) (N := 31) rfl iwX8 tyX8 tyX8_ok nmX8 3 (by decide) (Nat.le_of_ble_eq_true rfl) qw869 rfl (v := .int 1) rfl rfl (x := 1) rfl dX8_image_10 (fun H locs hw => ?_)
  obtain ⟨σ3, e4, hf⟩ := b_bnd hf
  rw [← e4] at hw
  refine lv_aload_n X.1 X.2.1 dX8_image_13 rfl (lv_at hl 0 rfl) ?_
  obtain ⟨r6, h5, hf⟩ := b_bd1 hf
  refine r_callV X hw (k_X8_many hE  h5) (sp69 hE) (C := RX8) (T := TX8) (N := 31) rfl qw985 qw987 qw31 qw79 qw988 okX8_many ⟨rfl, rfl⟩ ⟨(Nat.le_of_ble_eq_true rfl), (Nat.le_of_ble_eq_true rfl)⟩ ⟨Nat.zero_le _, Nat.zero_le _⟩ rfl hl.1 (rest := []) rfl (Nat.le_of_ble_eq_true rfl) dX8_image_14 (st1 := [.int r6]) rfl (fun H locs hw => ?_)
  obtain ⟨rfl, rfl⟩ := Prod.mk.inj (Option.some.inj hf)
  exact r_iret X hw dX8_image_17
abbrev rm_X8_back : Room := { frames := 1, cells := 0, slots := 0, locals := 100 }
set_option maxHeartbeats 4000000 in
set_option maxRecDepth 100000 in
theorem k_X8_back {l : Launch} {E : en_T} (hE : ShF E)  {σ : sg_T} {r : Int32} {σ' : sg_T} (hf : f_X8_back  σ = some (r, σ')) : Ct l yX8_back cX8_back 1 (some .int) rm_X8_back E [.ref (eP E 69)] σ (some (.int r)) σ' := by
  refine Ct.start (by decide) hE.1 (Nat.le_of_ble_eq_true rfl) ?_
  intro p e s m below meth c X hw ls hl
  have X : Cx E p s m _ meth c cX8_back 1 RX8 (some .int) := X
  have hR : ShR E := hE.r
  have hl : lv_has ls 1 [(0, .ref (eP E 69))] := hl
  unfold f_X8_back at hf
  refine lv_aload_n X.1 X.2.1 dX8_back_0 rfl (lv_at hl 0 rfl) ?_
  refine r_get X hw (sp69 hE) (C := RX8) (T := TX8) (N := 31) rfl iwX8 3 (by decide) (Nat.le_of_ble_eq_true rfl) qw869 (v := .int (σ 69 3)) rfl dX8_back_1 ?_
  refine lv_if_ne (tgt := 10) X.1 X.2.1 dX8_back_4 (by decide) (fun c1 => ?_) (fun c1 => ?_)
  · have hf := if_e hf c1
    refine lv_aload_n X.1 X.2.1 dX8_back_10 rfl (lv_at hl 0 rfl) ?_
    refine lv_aload_n X.1 X.2.1 dX8_back_11 rfl (lv_at hl 0 rfl) ?_
    refine r_get X hw (sp69 hE) (C := RX8) (T := TX8) (N := 31) rfl iwX8 1 (by decide) (Nat.le_of_ble_eq_true rfl) qw867 (v := .ref (eP E 71)) rfl dX8_back_12 ?_
    obtain ⟨σ3, h2, hf⟩ := b_bd1 hf
    refine r_callV X hw (k_X8_lay hE (Or.inl rfl) h2) (sp69 hE) (C := RX8) (T := TX8) (N := 31) rfl qw1143 qw1145 qw59 qw79 qw1146 okX8_lay ⟨rfl, rfl⟩ ⟨(Nat.le_of_ble_eq_true rfl), (Nat.le_of_ble_eq_true rfl)⟩ ⟨Nat.zero_le _, Nat.zero_le _⟩ rfl hl.1 (rest := []) rfl (Nat.le_of_ble_eq_true rfl) dX8_back_15 (st1 := []) rfl (fun H locs hw => ?_)
    refine lv_aload_n X.1 X.2.1 dX8_back_18 rfl (lv_at hl 0 rfl) ?_
    obtain ⟨r5, h4, hf⟩ := b_bd1 hf
    refine r_callV X hw (k_X8_many hE  h4) (sp69 hE) (C := RX8) (T := TX8) (N := 31) rfl qw985 qw987 qw31 qw79 qw988 okX8_many ⟨rfl, rfl⟩ ⟨(Nat.le_of_ble_eq_true rfl), (Nat.le_of_ble_eq_true rfl)⟩ ⟨Nat.zero_le _, Nat.zero_le _⟩ rfl hl.1 (rest := []) rfl (Nat.le_of_ble_eq_true rfl) dX8_back_19 (st1 := [.int r5]) rfl (fun H locs hw => ?_)
    obtain ⟨rfl, rfl⟩ := Prod.mk.inj (Option.some.inj hf)
    exact r_iret X hw dX8_back_22
  · have hf := if_t hf c1
    refine lv_bipush (v := (-3)) X.1 X.2.1 dX8_back_7 (by decide) ?_
    obtain ⟨rfl, rfl⟩ := Prod.mk.inj (Option.some.inj hf)
    exact r_iret X hw dX8_back_9
abbrev rm_X8_alone : Room := { frames := 2, cells := 0, slots := 0, locals := 124 }
set_option maxHeartbeats 4000000 in
set_option maxRecDepth 100000 in
theorem w_X8_alone_4 {p : Program} {l : Launch} {e : Env} {s : State} {m : MethodId} {args : Array Value} {below : List Frame} {meth : Method} {c : Code} {Q : State → Prop} {E : en_T} (X : Cx E p s m args meth c cX8_alone 3 RX8 (some .int)) (hE : ShF E)  {σ : sg_T} {res : Int32 × Int32} :
    ∀ (n : Nat) (w1 : Int32) (w2 : Int32), itr (fun q => b_X8_alone_4  q.1 q.2 σ) n (w1, w2) = some res → ∀ (H : Heap) (locs : List Loc) (ls : Array Slot), Hw E σ s H locs → lv_has ls 3 [(0, .ref (eP E 69)), (1, .int w1), (2, .int w2)] →
    (∀ (y1 : Int32) (y2 : Int32), res = (y1, y2) → ∀ (H : Heap) (locs : List Loc) (ls : Array Slot), Hw E σ s H locs → lv_has ls 3 [(0, .ref (eP E 69)), (1, .int y1), (2, .int y2)] → W p l e rm_X8_alone s m args below meth c H locs 0 0 Q (F0 m 35 ls [])) →
    W p l e rm_X8_alone s m args below meth c H locs 0 0 Q (F0 m 4 ls []) := by
  have hR : ShR E := hE.r
  intro n
  induction n with
  | zero =>
    intro w1 w2 hf0
    exact (itr_0 hf0).elim
  | succ n ih =>
    intro w1 w2 hf0 H locs ls hw hl K1
    obtain ⟨r0, hf, hr1, hr2⟩ := itr_s hf0
    have hf : b_X8_alone_4  w1 w2 σ = some r0 := hf
    unfold b_X8_alone_4 at hf
    refine lv_iload_n X.1 X.2.1 dX8_alone_4 rfl (lv_at hl 2 rfl) ?_
    refine lv_aload_n X.1 X.2.1 dX8_alone_5 rfl (lv_at hl 0 rfl) ?_
    obtain ⟨r2, h1, hf⟩ := b_bd1 hf
    refine r_callV X hw (k_X8_many hE  h1) (sp69 hE) (C := RX8) (T := TX8) (N := 31) rfl qw985 qw987 qw31 qw79 qw988 okX8_many ⟨rfl, rfl⟩ ⟨(Nat.le_of_ble_eq_true rfl), (Nat.le_of_ble_eq_true rfl)⟩ ⟨Nat.zero_le _, Nat.zero_le _⟩ rfl hl.1 (rest := [.int w2]) rfl (Nat.le_of_ble_eq_true rfl) dX8_alone_6 (st1 := [.int r2, .int w2]) rfl (fun H locs hw => ?_)
    refine lv_icmp_ge (tgt := 35) X.1 X.2.1 dX8_alone_9 (by decide) (fun c3 => ?_) (fun c3 => ?_)
    · have hf := if_t hf c3
      obtain rfl := Option.some.inj hf
      obtain rfl := hr2 _ rfl
      exact K1 _ _ rfl _ _ _ hw (lv_sub hl [0, 1, 2] rfl)
    · have hf := if_e hf c3
      refine lv_iload_n X.1 X.2.1 dX8_alone_12 rfl (lv_at hl 1 rfl) ?_
      refine lv_aload_n X.1 X.2.1 dX8_alone_13 rfl (lv_at hl 0 rfl) ?_
      refine lv_iload_n X.1 X.2.1 dX8_alone_14 rfl (lv_at hl 2 rfl) ?_
      obtain ⟨r5, h4, hf⟩ := b_bd1 hf
      refine r_callV X hw (k_X8_setter hE  h4) (sp69 hE) (C := RX8) (T := TX8) (N := 31) rfl qw1001 qw1003 qw34 qw79 qw1004 okX8_setter ⟨rfl, rfl⟩ ⟨(Nat.le_of_ble_eq_true rfl), (Nat.le_of_ble_eq_true rfl)⟩ ⟨Nat.zero_le _, Nat.zero_le _⟩ rfl hl.1 (rest := [.int w1]) rfl (Nat.le_of_ble_eq_true rfl) dX8_alone_15 (st1 := [.int r5, .int w1]) rfl (fun H locs hw => ?_)
      refine lv_iconst (v := (-1)) X.1 X.2.1 dX8_alone_18 (by decide) ?_
      obtain ⟨v7, e8, hf⟩ := b_bnd hf
      refine r_join (g2 := F0 m 27 ls [.int v7, .int w1]) ?_ (fun hj => ?_)
      · refine lv_iadd X.1 X.2.1 dX8_alone_27 ?_
        refine r_bnd hf (fun v9 hf => ?_)
        refine lv_istore_n (lv' := [(1, .int v9), (0, .ref (eP E 69)), (2, .int w2)]) X.1 X.2.1 dX8_alone_28 rfl hl (by decide) rfl (fun ls hl => ?_)
        obtain ⟨v10, e11, hf⟩ := b_bnd hf
        refine lv_iinc (v := v10) (k := 2) (lv' := [(2, .int v10), (1, .int v9), (0, .ref (eP E 69))]) X.1 X.2.1 dX8_alone_29 hl rfl (by rw [e11]; exact congrArg _ (by decide)) (by decide) rfl (fun ls hl => ?_)
        refine lv_goto (tgt := 4) X.1 X.2.1 dX8_alone_32 (by decide) ?_
        obtain rfl := Option.some.inj hf
        exact ih _ _ (hr1 _ rfl) _ _ _ hw (lv_sub hl [2, 1, 0] rfl) K1
      · refine lv_icmp_ne (tgt := 26) X.1 X.2.1 dX8_alone_19 (by decide) (fun c6 => ?_) (fun c6 => ?_)
        · rw [e8, if_neg c6] at hj
          refine lv_iconst (v := 0) X.1 X.2.1 dX8_alone_26 (by decide) ?_
          exact hj
        · rw [e8, if_pos c6] at hj
          refine lv_iconst (v := 1) X.1 X.2.1 dX8_alone_22 (by decide) ?_
          refine lv_goto (tgt := 27) X.1 X.2.1 dX8_alone_23 (by decide) ?_
          exact hj
set_option maxHeartbeats 4000000 in
set_option maxRecDepth 100000 in
theorem k_X8_alone {l : Launch} {E : en_T} (hE : ShF E)  {σ : sg_T} {r : Int32} (hf : f_X8_alone  σ = some r) : Ct l yX8_alone cX8_alone 3 (some .int) rm_X8_alone E [.ref (eP E 69)] σ (some (.int r)) σ := by
  refine Ct.start (by decide) hE.1 (Nat.le_of_ble_eq_true rfl) ?_
  intro p e s m below meth c X hw ls hl
  have X : Cx E p s m _ meth c cX8_alone 3 RX8 (some .int) := X
  have hR : ShR E := hE.r
  have hl : lv_has ls 3 [(0, .ref (eP E 69))] := hl
  unfold f_X8_alone at hf
  refine lv_iconst (v := 0) X.1 X.2.1 dX8_alone_0 (by decide) ?_
  refine lv_istore_n (lv' := [(1, .int 0), (0, .ref (eP E 69))]) X.1 X.2.1 dX8_alone_1 rfl hl (by decide) rfl (fun ls hl => ?_)
  refine lv_iconst (v := 0) X.1 X.2.1 dX8_alone_2 (by decide) ?_
  refine lv_istore_n (lv' := [(2, .int 0), (1, .int 0), (0, .ref (eP E 69))]) X.1 X.2.1 dX8_alone_3 rfl hl (by decide) rfl (fun ls hl => ?_)
  obtain ⟨v13, v14, h12, hf⟩ := b_bd2 hf
  refine w_X8_alone_4 X hE  lfu _ _ h12 _ _ _ hw (lv_sub hl [2, 1, 0] rfl) (fun yv13 yv14 hq H locs ls hw hl => ?_)
  cases hq
  refine lv_iload_n X.1 X.2.1 dX8_alone_35 rfl (lv_at hl 1 rfl) ?_
  obtain rfl := Option.some.inj hf
  exact r_iret X hw dX8_alone_36
abbrev rm_X8_count : Room := { frames := 3, cells := 0, slots := 0, locals := 146 }
set_option maxHeartbeats 4000000 in
set_option maxRecDepth 100000 in
theorem k_X8_count {l : Launch} {E : en_T} (hE : ShF E) {x1 : Int32} {σ : sg_T} {r : Int32} (hf : f_X8_count x1 σ = some r) : Ct l yX8_count cX8_count 2 (some .int) rm_X8_count E [.ref (eP E 69), .int x1] σ (some (.int r)) σ := by
  refine Ct.start (by decide) hE.1 (Nat.le_of_ble_eq_true rfl) ?_
  intro p e s m below meth c X hw ls hl
  have X : Cx E p s m _ meth c cX8_count 2 RX8 (some .int) := X
  have hR : ShR E := hE.r
  have hl : lv_has ls 2 [(0, .ref (eP E 69)), (1, .int x1)] := hl
  unfold f_X8_count at hf
  refine lv_iload_n X.1 X.2.1 dX8_count_0 rfl (lv_at hl 1 rfl) ?_
  by_cases c1 : x1 = 0
  · have hf := if_t hf c1
    refine lv_tableIn (x := x1) (tgt := 40) (off := 39) X.1 X.2.1 dX8_count_1 (by rw [c1]; decide) (by rw [c1]; decide) (by rw [c1]; decide) (by decide) ?_
    refine lv_aload_n X.1 X.2.1 dX8_count_40 rfl (lv_at hl 0 rfl) ?_
    obtain ⟨r3, h2, hf⟩ := b_bd1 hf
    refine r_callV X hw (k_X8_many hE  h2) (sp69 hE) (C := RX8) (T := TX8) (N := 31) rfl qw985 qw987 qw31 qw79 qw988 okX8_many ⟨rfl, rfl⟩ ⟨(Nat.le_of_ble_eq_true rfl), (Nat.le_of_ble_eq_true rfl)⟩ ⟨Nat.zero_le _, Nat.zero_le _⟩ rfl hl.1 (rest := []) rfl (Nat.le_of_ble_eq_true rfl) dX8_count_41 (st1 := [.int r3]) rfl (fun H locs hw => ?_)
    obtain rfl := Option.some.inj hf
    exact r_iret X hw dX8_count_44
  have hf := if_e hf c1
  by_cases c4 : x1 = 1
  · have hf := if_t hf c4
    refine lv_tableIn (x := x1) (tgt := 45) (off := 44) X.1 X.2.1 dX8_count_1 (by rw [c4]; decide) (by rw [c4]; decide) (by rw [c4]; decide) (by decide) ?_
    refine lv_aload_n X.1 X.2.1 dX8_count_45 rfl (lv_at hl 0 rfl) ?_
    obtain ⟨r6, h5, hf⟩ := b_bd1 hf
    refine r_callV X hw (k_X8_alone hE  h5) (sp69 hE) (C := RX8) (T := TX8) (N := 31) rfl qw1247 qw1249 qw65 qw79 qw1250 okX8_alone ⟨rfl, rfl⟩ ⟨(Nat.le_of_ble_eq_true rfl), (Nat.le_of_ble_eq_true rfl)⟩ ⟨Nat.zero_le _, Nat.zero_le _⟩ rfl hl.1 (rest := []) rfl (Nat.le_of_ble_eq_true rfl) dX8_count_46 (st1 := [.int r6]) rfl (fun H locs hw => ?_)
    obtain rfl := Option.some.inj hf
    exact r_iret X hw dX8_count_49
  have hf := if_e hf c4
  by_cases c7 : x1 = 2
  · have hf := if_t hf c7
    refine lv_tableIn (x := x1) (tgt := 50) (off := 49) X.1 X.2.1 dX8_count_1 (by rw [c7]; decide) (by rw [c7]; decide) (by rw [c7]; decide) (by decide) ?_
    refine lv_aload_n X.1 X.2.1 dX8_count_50 rfl (lv_at hl 0 rfl) ?_
    refine r_get X hw (sp69 hE) (C := RX8) (T := TX8) (N := 31) rfl iwX8 0 (by decide) (Nat.le_of_ble_eq_true rfl) qw866 (v := .ref (eP E 70)) rfl dX8_count_51 ?_
    refine lv_bipush (v := 56) X.1 X.2.1 dX8_count_54 (by decide) ?_
    obtain ⟨h8, hf⟩ := b_ck hf
    refine r_iald X hw (sp70 hE) h8 dX8_count_56 ?_
    obtain rfl := Option.some.inj hf
    exact r_iret X hw dX8_count_57
  have hf := if_e hf c7
  by_cases c9 : x1 = 3
  · have hf := if_t hf c9
    refine lv_tableIn (x := x1) (tgt := 58) (off := 57) X.1 X.2.1 dX8_count_1 (by rw [c9]; decide) (by rw [c9]; decide) (by rw [c9]; decide) (by decide) ?_
    refine lv_aload_n X.1 X.2.1 dX8_count_58 rfl (lv_at hl 0 rfl) ?_
    refine r_get X hw (sp69 hE) (C := RX8) (T := TX8) (N := 31) rfl iwX8 13 (by decide) (Nat.le_of_ble_eq_true rfl) qw879 (v := .int (σ 69 13)) rfl dX8_count_59 ?_
    obtain rfl := Option.some.inj hf
    exact r_iret X hw dX8_count_62
  have hf := if_e hf c9
  by_cases c10 : x1 = 4
  · have hf := if_t hf c10
    refine lv_tableIn (x := x1) (tgt := 63) (off := 62) X.1 X.2.1 dX8_count_1 (by rw [c10]; decide) (by rw [c10]; decide) (by rw [c10]; decide) (by decide) ?_
    refine lv_aload_n X.1 X.2.1 dX8_count_63 rfl (lv_at hl 0 rfl) ?_
    refine r_get X hw (sp69 hE) (C := RX8) (T := TX8) (N := 31) rfl iwX8 6 (by decide) (Nat.le_of_ble_eq_true rfl) qw872 (v := .int (σ 69 6)) rfl dX8_count_64 ?_
    obtain rfl := Option.some.inj hf
    exact r_iret X hw dX8_count_67
  have hf := if_e hf c10
  by_cases c11 : x1 = 5
  · have hf := if_t hf c11
    refine lv_tableIn (x := x1) (tgt := 68) (off := 67) X.1 X.2.1 dX8_count_1 (by rw [c11]; decide) (by rw [c11]; decide) (by rw [c11]; decide) (by decide) ?_
    refine lv_aload_n X.1 X.2.1 dX8_count_68 rfl (lv_at hl 0 rfl) ?_
    refine r_get X hw (sp69 hE) (C := RX8) (T := TX8) (N := 31) rfl iwX8 0 (by decide) (Nat.le_of_ble_eq_true rfl) qw866 (v := .ref (eP E 70)) rfl dX8_count_69 ?_
    refine lv_bipush (v := 57) X.1 X.2.1 dX8_count_72 (by decide) ?_
    obtain ⟨h12, hf⟩ := b_ck hf
    refine r_iald X hw (sp70 hE) h12 dX8_count_74 ?_
    obtain rfl := Option.some.inj hf
    exact r_iret X hw dX8_count_75
  have hf := if_e hf c11
  have c1t := lv_neT (a := 0) c1 (by decide)
  have c4t := lv_neT (a := 1) c4 (by decide)
  have c7t := lv_neT (a := 2) c7 (by decide)
  have c9t := lv_neT (a := 3) c9 (by decide)
  have c10t := lv_neT (a := 4) c10 (by decide)
  have c11t := lv_neT (a := 5) c11 (by decide)
  refine lv_tableOut (x := x1) (tgt := 76) X.1 X.2.1 dX8_count_1 (by omega) (by decide) ?_
  refine lv_bipush (v := (-2)) X.1 X.2.1 dX8_count_76 (by decide) ?_
  obtain rfl := Option.some.inj hf
  exact r_iret X hw dX8_count_78
