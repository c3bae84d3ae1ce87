abbrev rm_X8_firstText : Room := { frames := 0, cells := 0, slots := 0, locals := 0 }
set_option maxHeartbeats 4000000 in
set_option maxRecDepth 100000 in
theorem k_X8_firstText {l : Launch} {E : en_T} (hM : ShM E)  {σ : sg_T} {r : Int32} {σ' : sg_T} (hf : f_X8_firstText  σ = some (r, σ')) : Ct l yX8_firstText cX8_firstText 1 (some .int) rm_X8_firstText E [.ref (eP E 69)] σ (some (.int r)) σ' := by
  refine Ct.start (by decide) hM.1 (Nat.le_of_ble_eq_true rfl) ?_
  intro p e s m below meth c X hw ls hl
  have X : Cx E p s m _ meth c cX8_firstText 1 RX8 (some .int) := X
  have hl : lv_has ls 1 [(0, .ref (eP E 69))] := hl
  unfold f_X8_firstText at hf
  refine lv_aload_n X.1 X.2.1 dX8_firstText_0 rfl (lv_at hl 0 rfl) ?_
  refine r_get X hw hM.2.1 (C := RX8) (T := TX8) (N := 31) rfl iwX8 11 (by decide) (Nat.le_of_ble_eq_true rfl) qw877 (v := .ref (eP E 75)) rfl dX8_firstText_1 ?_
  refine lv_iconst (v := 0) X.1 X.2.1 dX8_firstText_4 (by decide) ?_
  refine lv_bipush (v := 6) X.1 X.2.1 dX8_firstText_5 (by decide) ?_
  obtain ⟨h1, hf⟩ := b_ck hf
  refine r_iast X hw hM.2.2.1 h1 dX8_firstText_7 (fun H locs hw => ?_)
  obtain ⟨σ2, e3, hf⟩ := b_bnd hf
  rw [← e3] at hw
  refine lv_aload_n X.1 X.2.1 dX8_firstText_8 rfl (lv_at hl 0 rfl) ?_
  refine r_get X hw hM.2.1 (C := RX8) (T := TX8) (N := 31) rfl iwX8 11 (by decide) (Nat.le_of_ble_eq_true rfl) qw877 (v := .ref (eP E 75)) rfl dX8_firstText_9 ?_
  refine lv_iconst (v := 1) X.1 X.2.1 dX8_firstText_12 (by decide) ?_
  refine lv_bipush (v := (-10)) X.1 X.2.1 dX8_firstText_13 (by decide) ?_
  obtain ⟨h4, hf⟩ := b_ck hf
  refine r_iast X hw hM.2.2.1 h4 dX8_firstText_15 (fun H locs hw => ?_)
  obtain ⟨σ5, e6, hf⟩ := b_bnd hf
  rw [← e6] at hw
  refine lv_aload_n X.1 X.2.1 dX8_firstText_16 rfl (lv_at hl 0 rfl) ?_
  refine r_get X hw hM.2.1 (C := RX8) (T := TX8) (N := 31) rfl iwX8 11 (by decide) (Nat.le_of_ble_eq_true rfl) qw877 (v := .ref (eP E 75)) rfl dX8_firstText_17 ?_
  refine lv_iconst (v := 2) X.1 X.2.1 dX8_firstText_20 (by decide) ?_
  refine lv_bipush (v := (-25)) X.1 X.2.1 dX8_firstText_21 (by decide) ?_
  obtain ⟨h7, hf⟩ := b_ck hf
  refine r_iast X hw hM.2.2.1 h7 dX8_firstText_23 (fun H locs hw => ?_)
  obtain ⟨σ8, e9, hf⟩ := b_bnd hf
  rw [← e9] at hw
  refine lv_aload_n X.1 X.2.1 dX8_firstText_24 rfl (lv_at hl 0 rfl) ?_
  refine r_get X hw hM.2.1 (C := RX8) (T := TX8) (N := 31) rfl iwX8 11 (by decide) (Nat.le_of_ble_eq_true rfl) qw877 (v := .ref (eP E 75)) rfl dX8_firstText_25 ?_
  refine lv_iconst (v := 3) X.1 X.2.1 dX8_firstText_28 (by decide) ?_
  refine lv_iconst (v := 3) X.1 X.2.1 dX8_firstText_29 (by decide) ?_
  obtain ⟨h10, hf⟩ := b_ck hf
  refine r_iast X hw hM.2.2.1 h10 dX8_firstText_30 (fun H locs hw => ?_)
  obtain ⟨σ11, e12, hf⟩ := b_bnd hf
  rw [← e12] at hw
  refine lv_aload_n X.1 X.2.1 dX8_firstText_31 rfl (lv_at hl 0 rfl) ?_
  refine r_get X hw hM.2.1 (C := RX8) (T := TX8) (N := 31) rfl iwX8 11 (by decide) (Nat.le_of_ble_eq_true rfl) qw877 (v := .ref (eP E 75)) rfl dX8_firstText_32 ?_
  refine lv_iconst (v := 4) X.1 X.2.1 dX8_firstText_35 (by decide) ?_
  refine lv_iconst (v := 0) X.1 X.2.1 dX8_firstText_36 (by decide) ?_
  obtain ⟨h13, hf⟩ := b_ck hf
  refine r_iast X hw hM.2.2.1 h13 dX8_firstText_37 (fun H locs hw => ?_)
  obtain ⟨σ14, e15, hf⟩ := b_bnd hf
  rw [← e15] at hw
  refine lv_aload_n X.1 X.2.1 dX8_firstText_38 rfl (lv_at hl 0 rfl) ?_
  refine r_get X hw hM.2.1 (C := RX8) (T := TX8) (N := 31) rfl iwX8 12 (by decide) (Nat.le_of_ble_eq_true rfl) qw878 (v := .ref (eP E 76)) rfl dX8_firstText_39 ?_
  refine lv_iconst (v := 0) X.1 X.2.1 dX8_firstText_42 (by decide) ?_
  refine lv_iconst (v := 3) X.1 X.2.1 dX8_firstText_43 (by decide) ?_
  obtain ⟨h16, hf⟩ := b_ck hf
  refine r_iast X hw hM.2.2.2 h16 dX8_firstText_44 (fun H locs hw => ?_)
  obtain ⟨σ17, e18, hf⟩ := b_bnd hf
  rw [← e18] at hw
  refine lv_aload_n X.1 X.2.1 dX8_firstText_45 rfl (lv_at hl 0 rfl) ?_
  refine r_get X hw hM.2.1 (C := RX8) (T := TX8) (N := 31) rfl iwX8 12 (by decide) (Nat.le_of_ble_eq_true rfl) qw878 (v := .ref (eP E 76)) rfl dX8_firstText_46 ?_
  refine lv_iconst (v := 1) X.1 X.2.1 dX8_firstText_49 (by decide) ?_
  refine lv_iconst (v := 4) X.1 X.2.1 dX8_firstText_50 (by decide) ?_
  obtain ⟨h19, hf⟩ := b_ck hf
  refine r_iast X hw hM.2.2.2 h19 dX8_firstText_51 (fun H locs hw => ?_)
  obtain ⟨σ20, e21, hf⟩ := b_bnd hf
  rw [← e21] at hw
  refine lv_aload_n X.1 X.2.1 dX8_firstText_52 rfl (lv_at hl 0 rfl) ?_
  refine r_get X hw hM.2.1 (C := RX8) (T := TX8) (N := 31) rfl iwX8 12 (by decide) (Nat.le_of_ble_eq_true rfl) qw878 (v := .ref (eP E 76)) rfl dX8_firstText_53 ?_
  refine lv_iconst (v := 2) X.1 X.2.1 dX8_firstText_56 (by decide) ?_
  refine lv_iconst (v := 5) X.1 X.2.1 dX8_firstText_57 (by decide) ?_
  obtain ⟨h22, hf⟩ := b_ck hf
  refine r_iast X hw hM.2.2.2 h22 dX8_firstText_58 (fun H locs hw => ?_)
  obtain ⟨σ23, e24, hf⟩ := b_bnd hf
  rw [← e24] at hw
  refine lv_iconst (v := 1) X.1 X.2.1 dX8_firstText_59 (by decide) ?_
  obtain ⟨rfl, rfl⟩ := Prod.mk.inj (Option.some.inj hf)
  exact r_iret X hw dX8_firstText_60
abbrev rm_X8_isIn : Room := { frames := 0, cells := 0, slots := 0, locals := 0 }
set_option maxHeartbeats 4000000 in
set_option maxRecDepth 100000 in
theorem k_X8_isIn {l : Launch} {E : en_T} (hE : ShF E) {x1 : Int32} {x2 : Int32} {x3 : Int32} {σ : sg_T} {r : Int32} (hf : f_X8_isIn x1 x2 x3 σ = some r) : Ct l yX8_isIn cX8_isIn 3 (some .boolean) rm_X8_isIn E [.int x1, .int x2, .int x3] σ (some (.int r)) σ := by
  refine Ct.start (by decide) hE.1 (Nat.le_of_ble_eq_true rfl) ?_
  intro p e s m below meth c X hw ls hl
  have X : Cx E p s m _ meth c cX8_isIn 3 RX8 (some .boolean) := X
  have hR : ShR E := hE.r
  have hl : lv_has ls 3 [(0, .int x1), (1, .int x2), (2, .int x3)] := hl
  unfold f_X8_isIn at hf
  refine lv_iload_n X.1 X.2.1 dX8_isIn_0 rfl (lv_at hl 0 rfl) ?_
  refine lv_iload_n X.1 X.2.1 dX8_isIn_1 rfl (lv_at hl 1 rfl) ?_
  refine lv_icmp_lt (tgt := 14) X.1 X.2.1 dX8_isIn_2 (by decide) (fun c1 => ?_) (fun c1 => ?_)
  · have hf := if_t hf c1
    refine lv_iconst (v := 0) X.1 X.2.1 dX8_isIn_14 (by decide) ?_
    obtain rfl := Option.some.inj hf
    exact r_zret X hw (by decide) dX8_isIn_15
  · have hf := if_e hf c1
    refine lv_iload_n X.1 X.2.1 dX8_isIn_5 rfl (lv_at hl 0 rfl) ?_
    refine lv_iload_n X.1 X.2.1 dX8_isIn_6 rfl (lv_at hl 2 rfl) ?_
    obtain ⟨v3, e4, hf⟩ := b_bnd hf
    refine r_join (g2 := F0 m 15 ls [.int v3]) ?_ (fun hj => ?_)
    · obtain ⟨h5, hf⟩ := b_cz hf
      obtain rfl := Option.some.inj hf
      exact r_zret X hw (cz_and h5) dX8_isIn_15
    · refine lv_icmp_gt (tgt := 14) X.1 X.2.1 dX8_isIn_7 (by decide) (fun c2 => ?_) (fun c2 => ?_)
      · rw [e4, if_pos c2] at hj
        refine lv_iconst (v := 0) X.1 X.2.1 dX8_isIn_14 (by decide) ?_
        exact hj
      · rw [e4, if_neg c2] at hj
        refine lv_iconst (v := 1) X.1 X.2.1 dX8_isIn_10 (by decide) ?_
        refine lv_goto (tgt := 15) X.1 X.2.1 dX8_isIn_11 (by decide) ?_
        exact hj
abbrev rm_X8_bound : Room := { frames := 2, cells := 0, slots := 0, locals := 100 }
set_option maxHeartbeats 4000000 in
set_option maxRecDepth 100000 in
theorem k_X8_bound {l : Launch} {E : en_T} (hE : ShF E) {x1 : Int32} {x2 : Int32} {x3 : Int32} {σ : sg_T} {r : Int32} (hf : f_X8_bound x1 x2 x3 σ = some r) : Ct l yX8_bound cX8_bound 3 (some .int) rm_X8_bound E [.int x1, .int x2, .int x3] σ (some (.int r)) σ := by
  refine Ct.start (by decide) hE.1 (Nat.le_of_ble_eq_true rfl) ?_
  intro p e s m below meth c X hw ls hl
  have X : Cx E p s m _ meth c cX8_bound 3 RX8 (some .int) := X
  have hR : ShR E := hE.r
  have hl : lv_has ls 3 [(0, .int x1), (1, .int x2), (2, .int x3)] := hl
  unfold f_X8_bound at hf
  refine lv_iload_n X.1 X.2.1 dX8_bound_0 rfl (lv_at hl 1 rfl) ?_
  refine lv_iload_n X.1 X.2.1 dX8_bound_1 rfl (lv_at hl 2 rfl) ?_
  refine lv_iload_n X.1 X.2.1 dX8_bound_2 rfl (lv_at hl 0 rfl) ?_
  refine r_min X hl.1 qw1026 qw534 qw80 qw535 (Nat.le_of_ble_eq_true rfl) (Nat.le_of_ble_eq_true rfl) (Nat.zero_le _) (Nat.zero_le _) dX8_bound_3 ?_
  refine r_max X hl.1 qw1027 qw537 qw80 qw538 (Nat.le_of_ble_eq_true rfl) (Nat.le_of_ble_eq_true rfl) (Nat.zero_le _) (Nat.zero_le _) dX8_bound_6 ?_
  obtain rfl := Option.some.inj hf
  exact r_iret X hw dX8_bound_9
abbrev rm_X8_keep : Room := { frames := 0, cells := 0, slots := 0, locals := 0 }
set_option maxHeartbeats 4000000 in
set_option maxRecDepth 100000 in
theorem w_X8_keep_2 {p : Program} {l : Launch} {e : Env} {s : State} {m : MethodId} {args : Array Value} {below : List Frame} {meth : Method} {c : Code} {Q : State → Prop} {E : en_T} (X : Cx E p s m args meth c cX8_keep 3 RX8 none) (hE : ShF E) {o51 : Nat} (ho51 : isW o51)  {res : Int32 × sg_T} :
    ∀ (n : Nat) (w2 : Int32) (σ : sg_T), itr (fun q => b_X8_keep_2 o51 q.1 q.2) n (w2, σ) = some res → ∀ (H : Heap) (locs : List Loc) (ls : Array Slot), Hw E σ s H locs → lv_has ls 3 [(0, .ref (eP E 69)), (1, .ref (eP E o51)), (2, .int w2)] →
    (∀ (y2 : Int32) (τ : sg_T), res = (y2, τ) → ∀ (H : Heap) (locs : List Loc) (ls : Array Slot), Hw E τ s H locs → lv_has ls 3 [(0, .ref (eP E 69)), (1, .ref (eP E o51)), (2, .int y2)] → W p l e rm_X8_keep s m args below meth c H locs 0 0 Q (F0 m 23 ls [])) →
    W p l e rm_X8_keep s m args below meth c H locs 0 0 Q (F0 m 2 ls []) := by
  have hR : ShR E := hE.r
  intro n
  induction n with
  | zero =>
    intro w2 σ hf0
    exact (itr_0 hf0).elim
  | succ n ih =>
    intro w2 σ hf0 H locs ls hw hl K1
    obtain ⟨r0, hf, hr1, hr2⟩ := itr_s hf0
    have hf : b_X8_keep_2 o51 w2 σ = some r0 := hf
    unfold b_X8_keep_2 at hf
    refine lv_iload_n X.1 X.2.1 dX8_keep_2 rfl (lv_at hl 2 rfl) ?_
    refine lv_bipush (v := 58) X.1 X.2.1 dX8_keep_3 (by decide) ?_
    refine lv_icmp_ge (tgt := 23) X.1 X.2.1 dX8_keep_5 (by decide) (fun c1 => ?_) (fun c1 => ?_)
    · have hf := if_t hf c1
      obtain rfl := Option.some.inj hf
      obtain rfl := hr2 _ rfl
      exact K1 _ _ rfl _ _ _ hw (lv_sub hl [0, 1, 2] rfl)
    · have hf := if_e hf c1
      refine lv_aload_n X.1 X.2.1 dX8_keep_8 rfl (lv_at hl 1 rfl) ?_
      refine lv_iload_n X.1 X.2.1 dX8_keep_9 rfl (lv_at hl 2 rfl) ?_
      refine lv_aload_n X.1 X.2.1 dX8_keep_10 rfl (lv_at hl 0 rfl) ?_
      refine r_get X hw (sp69 hE) (C := RX8) (T := TX8) (N := 31) rfl iwX8 0 (by decide) (Nat.le_of_ble_eq_true rfl) qw866 (v := .ref (eP E 70)) rfl dX8_keep_11 ?_
      refine lv_iload_n X.1 X.2.1 dX8_keep_14 rfl (lv_at hl 2 rfl) ?_
      obtain ⟨h2, hf⟩ := b_ck hf
      refine r_iald X hw (sp70 hE) h2 dX8_keep_15 ?_
      obtain ⟨h3, hf⟩ := b_ck hf
      refine r_iast X hw (spW hE ho51) h3 dX8_keep_16 (fun H locs hw => ?_)
      obtain ⟨σ4, e5, hf⟩ := b_bnd hf
      rw [← e5] at hw
      obtain ⟨v6, e7, hf⟩ := b_bnd hf
      refine lv_iinc (v := v6) (k := 2) (lv' := [(2, .int v6), (0, .ref (eP E 69)), (1, .ref (eP E o51))]) X.1 X.2.1 dX8_keep_17 hl rfl (by rw [e7]; exact congrArg _ (by decide)) (by decide) rfl (fun ls hl => ?_)
      refine lv_goto (tgt := 2) X.1 X.2.1 dX8_keep_20 (by decide) ?_
      obtain rfl := Option.some.inj hf
      exact ih _ _ (hr1 _ rfl) _ _ _ hw (lv_sub hl [1, 2, 0] rfl) K1
set_option maxHeartbeats 4000000 in
set_option maxRecDepth 100000 in
theorem k_X8_keep {l : Launch} {E : en_T} (hE : ShF E) {o1 : Nat} (ho1 : isW o1) {σ : sg_T}  {σ' : sg_T} (hf : f_X8_keep o1 σ = some σ') : Ct l yX8_keep cX8_keep 3 none rm_X8_keep E [.ref (eP E 69), .ref (eP E o1)] σ none σ' := by
  refine Ct.start (by decide) hE.1 (Nat.le_of_ble_eq_true rfl) ?_
  intro p e s m below meth c X hw ls hl
  have X : Cx E p s m _ meth c cX8_keep 3 RX8 none := X
  have hR : ShR E := hE.r
  have hl : lv_has ls 3 [(0, .ref (eP E 69)), (1, .ref (eP E o1))] := hl
  unfold f_X8_keep at hf
  refine lv_iconst (v := 0) X.1 X.2.1 dX8_keep_0 (by decide) ?_
  refine lv_istore_n (lv' := [(2, .int 0), (0, .ref (eP E 69)), (1, .ref (eP E o1))]) X.1 X.2.1 dX8_keep_1 rfl hl (by decide) rfl (fun ls hl => ?_)
  obtain ⟨v9, σ10, h8, hf⟩ := b_bd2 hf
  refine w_X8_keep_2 X hE ho1 lfu _ _ h8 _ _ _ hw (lv_sub hl [1, 2, 0] rfl) (fun yv9 yσ10 hq H locs ls hw hl => ?_)
  cases hq
  obtain rfl := Option.some.inj hf
  exact r_vret X hw dX8_keep_23
abbrev rm_X8_lay : Room := { frames := 0, cells := 0, slots := 0, locals := 0 }
set_option maxHeartbeats 4000000 in
set_option maxRecDepth 100000 in
theorem w_X8_lay_2 {p : Program} {l : Launch} {e : Env} {s : State} {m : MethodId} {args : Array Value} {below : List Frame} {meth : Method} {c : Code} {Q : State → Prop} {E : en_T} (X : Cx E p s m args meth c cX8_lay 3 RX8 none) (hE : ShF E) {o51 : Nat} (ho51 : isW o51)  {res : Int32 × sg_T} :
    ∀ (n : Nat) (w2 : Int32) (σ : sg_T), itr (fun q => b_X8_lay_2 o51 q.1 q.2) n (w2, σ) = some res → ∀ (H : Heap) (locs : List Loc) (ls : Array Slot), Hw E σ s H locs → lv_has ls 3 [(0, .ref (eP E 69)), (1, .ref (eP E o51)), (2, .int w2)] →
    (∀ (y2 : Int32) (τ : sg_T), res = (y2, τ) → ∀ (H : Heap) (locs : List Loc) (ls : Array Slot), Hw E τ s H locs → lv_has ls 3 [(0, .ref (eP E 69)), (1, .ref (eP E o51)), (2, .int y2)] → W p l e rm_X8_lay s m args below meth c H locs 0 0 Q (F0 m 23 ls [])) →
    W p l e rm_X8_lay s m args below meth c H locs 0 0 Q (F0 m 2 ls []) := by
  have hR : ShR E := hE.r
  intro n
  induction n with
  | zero =>
    intro w2 σ hf0
    exact (itr_0 hf0).elim
  | succ n ih =>
    intro w2 σ hf0 H locs ls hw hl K1
    obtain ⟨r0, hf, hr1, hr2⟩ := itr_s hf0
    have hf : b_X8_lay_2 o51 w2 σ = some r0 := hf
    unfold b_X8_lay_2 at hf
    refine lv_iload_n X.1 X.2.1 dX8_lay_2 rfl (lv_at hl 2 rfl) ?_
    refine lv_bipush (v := 58) X.1 X.2.1 dX8_lay_3 (by decide) ?_
    refine lv_icmp_ge (tgt := 23) X.1 X.2.1 dX8_lay_5 (by decide) (fun c1 => ?_) (fun c1 => ?_)
    · have hf := if_t hf c1
      obtain rfl := Option.some.inj hf
      obtain rfl := hr2 _ rfl
      exact K1 _ _ rfl _ _ _ hw (lv_sub hl [0, 1, 2] rfl)
    · have hf := if_e hf c1
      refine lv_aload_n X.1 X.2.1 dX8_lay_8 rfl (lv_at hl 0 rfl) ?_
      refine r_get X hw (sp69 hE) (C := RX8) (T := TX8) (N := 31) rfl iwX8 0 (by decide) (Nat.le_of_ble_eq_true rfl) qw866 (v := .ref (eP E 70)) rfl dX8_lay_9 ?_
      refine lv_iload_n X.1 X.2.1 dX8_lay_12 rfl (lv_at hl 2 rfl) ?_
      refine lv_aload_n X.1 X.2.1 dX8_lay_13 rfl (lv_at hl 1 rfl) ?_
      refine lv_iload_n X.1 X.2.1 dX8_lay_14 rfl (lv_at hl 2 rfl) ?_
      obtain ⟨h2, hf⟩ := b_ck hf
      refine r_iald X hw (spW hE ho51) h2 dX8_lay_15 ?_
      obtain ⟨h3, hf⟩ := b_ck hf
      refine r_iast X hw (sp70 hE) h3 dX8_lay_16 (fun H locs hw => ?_)
      obtain ⟨σ4, e5, hf⟩ := b_bnd hf
      rw [← e5] at hw
      obtain ⟨v6, e7, hf⟩ := b_bnd hf
      refine lv_iinc (v := v6) (k := 2) (lv' := [(2, .int v6), (0, .ref (eP E 69)), (1, .ref (eP E o51))]) X.1 X.2.1 dX8_lay_17 hl rfl (by rw [e7]; exact congrArg _ (by decide)) (by decide) rfl (fun ls hl => ?_)
      refine lv_goto (tgt := 2) X.1 X.2.1 dX8_lay_20 (by decide) ?_
      obtain rfl := Option.some.inj hf
      exact ih _ _ (hr1 _ rfl) _ _ _ hw (lv_sub hl [1, 2, 0] rfl) K1
set_option maxHeartbeats 4000000 in
set_option maxRecDepth 100000 in
theorem k_X8_lay {l : Launch} {E : en_T} (hE : ShF E) {o1 : Nat} (ho1 : isW o1) {σ : sg_T}  {σ' : sg_T} (hf : f_X8_lay o1 σ = some σ') : Ct l yX8_lay cX8_lay 3 none rm_X8_lay E [.ref (eP E 69), .ref (eP E o1)] σ none σ' := by
  refine Ct.start (by decide) hE.1 (Nat.le_of_ble_eq_true rfl) ?_
  intro p e s m below meth c X hw ls hl
  have X : Cx E p s m _ meth c cX8_lay 3 RX8 none := X
  have hR : ShR E := hE.r
  have hl : lv_has ls 3 [(0, .ref (eP E 69)), (1, .ref (eP E o1))] := hl
  unfold f_X8_lay at hf
  refine lv_iconst (v := 0) X.1 X.2.1 dX8_lay_0 (by decide) ?_
  refine lv_istore_n (lv' := [(2, .int 0), (0, .ref (eP E 69)), (1, .ref (eP E o1))]) X.1 X.2.1 dX8_lay_1 rfl hl (by decide) rfl (fun ls hl => ?_)
  obtain ⟨v9, σ10, h8, hf⟩ := b_bd2 hf
  refine w_X8_lay_2 X hE ho1 lfu _ _ h8 _ _ _ hw (lv_sub hl [1, 2, 0] rfl) (fun yv9 yσ10 hq H locs ls hw hl => ?_)
  cases hq
  obtain rfl := Option.some.inj hf
  exact r_vret X hw dX8_lay_23
abbrev rm_X8_many : Room := { frames := 0, cells := 0, slots := 0, locals := 0 }
set_option maxHeartbeats 4000000 in
set_option maxRecDepth 100000 in
theorem k_X8_many {l : Launch} {E : en_T} (hE : ShF E)  {σ : sg_T} {r : Int32} (hf : f_X8_many  σ = some r) : Ct l yX8_many cX8_many 1 (some .int) rm_X8_many E [.ref (eP E 69)] σ (some (.int r)) σ := by
  refine Ct.start (by decide) hE.1 (Nat.le_of_ble_eq_true rfl) ?_
  intro p e s m below meth c X hw ls hl
  have X : Cx E p s m _ meth c cX8_many 1 RX8 (some .int) := X
  have hR : ShR E := hE.r
  have hl : lv_has ls 1 [(0, .ref (eP E 69))] := hl
  unfold f_X8_many at hf
  refine lv_aload_n X.1 X.2.1 dX8_many_0 rfl (lv_at hl 0 rfl) ?_
  refine r_get X hw (sp69 hE) (C := RX8) (T := TX8) (N := 31) rfl iwX8 0 (by decide) (Nat.le_of_ble_eq_true rfl) qw866 (v := .ref (eP E 70)) rfl dX8_many_1 ?_
  refine lv_bipush (v := 55) X.1 X.2.1 dX8_many_4 (by decide) ?_
  obtain ⟨h1, hf⟩ := b_ck hf
  refine r_iald X hw (sp70 hE) h1 dX8_many_6 ?_
  obtain rfl := Option.some.inj hf
  exact r_iret X hw dX8_many_7
abbrev rm_X8_isOne : Room := { frames := 1, cells := 0, slots := 0, locals := 100 }
set_option maxHeartbeats 4000000 in
set_option maxRecDepth 100000 in
theorem k_X8_isOne {l : Launch} {E : en_T} (hE : ShF E) {x1 : Int32} {σ : sg_T} {r : Int32} (hf : f_X8_isOne x1 σ = some r) : Ct l yX8_isOne cX8_isOne 2 (some .boolean) rm_X8_isOne E [.ref (eP E 69), .int x1] σ (some (.int r)) σ := by
  refine Ct.start (by decide) hE.1 (Nat.le_of_ble_eq_true rfl) ?_
  intro p e s m below meth c X hw ls hl
  have X : Cx E p s m _ meth c cX8_isOne 2 RX8 (some .boolean) := X
  have hR : ShR E := hE.r
  have hl : lv_has ls 2 [(0, .ref (eP E 69)), (1, .int x1)] := hl
  unfold f_X8_isOne at hf
  refine lv_iload_n X.1 X.2.1 dX8_isOne_0 rfl (lv_at hl 1 rfl) ?_
  refine lv_iconst (v := 0) X.1 X.2.1 dX8_isOne_1 (by decide) ?_
  refine lv_aload_n X.1 X.2.1 dX8_isOne_2 rfl (lv_at hl 0 rfl) ?_
  refine r_get X hw (sp69 hE) (C := RX8) (T := TX8) (N := 31) rfl iwX8 0 (by decide) (Nat.le_of_ble_eq_true rfl) qw866 (v := .ref (eP E 70)) rfl dX8_isOne_3 ?_
  refine lv_bipush (v := 55) X.1 X.2.1 dX8_isOne_6 (by decide) ?_
  obtain ⟨h1, hf⟩ := b_ck hf
  refine r_iald X hw (sp70 hE) h1 dX8_isOne_8 ?_
  refine lv_iconst (v := 1) X.1 X.2.1 dX8_isOne_9 (by decide) ?_
  refine lv_isub X.1 X.2.1 dX8_isOne_10 ?_
  obtain ⟨r3, h2, hf⟩ := b_bd1 hf
  refine r_callS X hw (k_X8_isIn hE  h2) qw966 qw967 qw79 qw968 okX8_isIn ⟨rfl, rfl⟩ ⟨(Nat.le_of_ble_eq_true rfl), (Nat.le_of_ble_eq_true rfl)⟩ ⟨Nat.zero_le _, Nat.zero_le _⟩ rfl hl.1 (rest := []) rfl (Nat.le_of_ble_eq_true rfl) dX8_isOne_11 (st1 := [.int r3]) rfl (fun H locs hw => ?_)
  obtain ⟨h4, hf⟩ := b_cz hf
  obtain rfl := Option.some.inj hf
  exact r_zret X hw (cz_and h4) dX8_isOne_14
abbrev rm_X8_isTwo : Room := { frames := 2, cells := 0, slots := 0, locals := 121 }
set_option maxHeartbeats 4000000 in
set_option maxRecDepth 100000 in
theorem k_X8_isTwo {l : Launch} {E : en_T} (hE : ShF E) {x1 : Int32} {x2 : Int32} {σ : sg_T} {r : Int32} (hf : f_X8_isTwo x1 x2 σ = some r) : Ct l yX8_isTwo cX8_isTwo 3 (some .boolean) rm_X8_isTwo E [.ref (eP E 69), .int x1, .int x2] σ (some (.int r)) σ := by
  refine Ct.start (by decide) hE.1 (Nat.le_of_ble_eq_true rfl) ?_
  intro p e s m below meth c X hw ls hl
  have X : Cx E p s m _ meth c cX8_isTwo 3 RX8 (some .boolean) := X
  have hR : ShR E := hE.r
  have hl : lv_has ls 3 [(0, .ref (eP E 69)), (1, .int x1), (2, .int x2)] := hl
  unfold f_X8_isTwo at hf
  refine lv_aload_n X.1 X.2.1 dX8_isTwo_0 rfl (lv_at hl 0 rfl) ?_
  refine lv_iload_n X.1 X.2.1 dX8_isTwo_1 rfl (lv_at hl 1 rfl) ?_
  obtain ⟨r2, h1, hf⟩ := b_bd1 hf
  refine r_callV X hw (k_X8_isOne hE  h1) (sp69 hE) (C := RX8) (T := TX8) (N := 31) rfl qw977 qw979 qw30 qw79 qw980 okX8_isOne ⟨rfl, rfl⟩ ⟨(Nat.le_of_ble_eq_true rfl), (Nat.le_of_ble_eq_true rfl)⟩ ⟨Nat.zero_le _, Nat.zero_le _⟩ rfl hl.1 (rest := []) rfl (Nat.le_of_ble_eq_true rfl) dX8_isTwo_2 (st1 := [.int r2]) rfl (fun H locs hw => ?_)
  refine lv_if_eq (tgt := 25) X.1 X.2.1 dX8_isTwo_5 (by decide) (fun c3 => ?_) (fun c3 => ?_)
  · have hf := if_t hf c3
    refine lv_iconst (v := 0) X.1 X.2.1 dX8_isTwo_25 (by decide) ?_
    obtain rfl := Option.some.inj hf
    exact r_zret X hw (by decide) dX8_isTwo_26
  · have hf := if_e hf c3
    refine lv_aload_n X.1 X.2.1 dX8_isTwo_8 rfl (lv_at hl 0 rfl) ?_
    refine lv_iload_n X.1 X.2.1 dX8_isTwo_9 rfl (lv_at hl 2 rfl) ?_
    obtain ⟨r5, h4, hf⟩ := b_bd1 hf
    refine r_callV X hw (k_X8_isOne hE  h4) (sp69 hE) (C := RX8) (T := TX8) (N := 31) rfl qw977 qw979 qw30 qw79 qw980 okX8_isOne ⟨rfl, rfl⟩ ⟨(Nat.le_of_ble_eq_true rfl), (Nat.le_of_ble_eq_true rfl)⟩ ⟨Nat.zero_le _, Nat.zero_le _⟩ rfl hl.1 (rest := []) rfl (Nat.le_of_ble_eq_true rfl) dX8_isTwo_10 (st1 := [.int r5]) rfl (fun H locs hw => ?_)
    refine lv_if_eq (tgt := 25) X.1 X.2.1 dX8_isTwo_13 (by decide) (fun c6 => ?_) (fun c6 => ?_)
    · have hf := if_t hf c6
      refine lv_iconst (v := 0) X.1 X.2.1 dX8_isTwo_25 (by decide) ?_
      obtain rfl := Option.some.inj hf
      exact r_zret X hw (by decide) dX8_isTwo_26
    · have hf := if_e hf c6
      refine lv_iload_n X.1 X.2.1 dX8_isTwo_16 rfl (lv_at hl 1 rfl) ?_
      refine lv_iload_n X.1 X.2.1 dX8_isTwo_17 rfl (lv_at hl 2 rfl) ?_
      obtain ⟨v8, e9, hf⟩ := b_bnd hf
      refine r_join (g2 := F0 m 26 ls [.int v8]) ?_ (fun hj => ?_)
      · obtain ⟨h10, hf⟩ := b_cz hf
        obtain rfl := Option.some.inj hf
        exact r_zret X hw (cz_and h10) dX8_isTwo_26
      · refine lv_icmp_eq (tgt := 25) X.1 X.2.1 dX8_isTwo_18 (by decide) (fun c7 => ?_) (fun c7 => ?_)
        · rw [e9, if_pos c7] at hj
          refine lv_iconst (v := 0) X.1 X.2.1 dX8_isTwo_25 (by decide) ?_
          exact hj
        · rw [e9, if_neg c7] at hj
          refine lv_iconst (v := 1) X.1 X.2.1 dX8_isTwo_21 (by decide) ?_
          refine lv_goto (tgt := 26) X.1 X.2.1 dX8_isTwo_22 (by decide) ?_
          exact hj
abbrev rm_X8_of : Room := { frames := 0, cells := 0, slots := 0, locals := 0 }
set_option maxHeartbeats 4000000 in
set_option maxRecDepth 100000 in
theorem k_X8_of {l : Launch} {E : en_T} (hE : ShF E) {x1 : Int32} {x2 : Int32} {σ : sg_T} {r : Int32} (hf : f_X8_of x1 x2 σ = some r) : Ct l yX8_of cX8_of 3 (some .int) rm_X8_of E [.ref (eP E 69), .int x1, .int x2] σ (some (.int r)) σ := by
  refine Ct.start (by decide) hE.1 (Nat.le_of_ble_eq_true rfl) ?_
  intro p e s m below meth c X hw ls hl
  have X : Cx E p s m _ meth c cX8_of 3 RX8 (some .int) := X
  have hR : ShR E := hE.r
  have hl : lv_has ls 3 [(0, .ref (eP E 69)), (1, .int x1), (2, .int x2)] := hl
  unfold f_X8_of at hf
  refine lv_aload_n X.1 X.2.1 dX8_of_0 rfl (lv_at hl 0 rfl) ?_
  refine r_get X hw (sp69 hE) (C := RX8) (T := TX8) (N := 31) rfl iwX8 0 (by decide) (Nat.le_of_ble_eq_true rfl) qw866 (v := .ref (eP E 70)) rfl dX8_of_1 ?_
  refine lv_bipush (v := 11) X.1 X.2.1 dX8_of_4 (by decide) ?_
  refine lv_iload_n X.1 X.2.1 dX8_of_6 rfl (lv_at hl 1 rfl) ?_
  refine lv_imul X.1 X.2.1 dX8_of_7 ?_
  refine lv_iload_n X.1 X.2.1 dX8_of_8 rfl (lv_at hl 2 rfl) ?_
  refine lv_iadd X.1 X.2.1 dX8_of_9 ?_
  obtain ⟨h1, hf⟩ := b_ck hf
  refine r_iald X hw (sp70 hE) h1 dX8_of_10 ?_
  obtain rfl := Option.some.inj hf
  exact r_iret X hw dX8_of_11
abbrev rm_X8_change : Room := { frames := 0, cells := 0, slots := 0, locals := 0 }
set_option maxHeartbeats 4000000 in
set_option maxRecDepth 100000 in
theorem k_X8_change {l : Launch} {E : en_T} (hE : ShF E) {x1 : Int32} {x2 : Int32} {x3 : Int32} {σ : sg_T}  {σ' : sg_T} (hf : f_X8_change x1 x2 x3 σ = some σ') : Ct l yX8_change cX8_change 4 none rm_X8_change E [.ref (eP E 69), .int x1, .int x2, .int x3] σ none σ' := by
  refine Ct.start (by decide) hE.1 (Nat.le_of_ble_eq_true rfl) ?_
  intro p e s m below meth c X hw ls hl
  have X : Cx E p s m _ meth c cX8_change 4 RX8 none := X
  have hR : ShR E := hE.r
  have hl : lv_has ls 4 [(0, .ref (eP E 69)), (1, .int x1), (2, .int x2), (3, .int x3)] := hl
  unfold f_X8_change at hf
  refine lv_aload_n X.1 X.2.1 dX8_change_0 rfl (lv_at hl 0 rfl) ?_
  refine r_get X hw (sp69 hE) (C := RX8) (T := TX8) (N := 31) rfl iwX8 0 (by decide) (Nat.le_of_ble_eq_true rfl) qw866 (v := .ref (eP E 70)) rfl dX8_change_1 ?_
  refine lv_bipush (v := 11) X.1 X.2.1 dX8_change_4 (by decide) ?_
  refine lv_iload_n X.1 X.2.1 dX8_change_6 rfl (lv_at hl 1 rfl) ?_
  refine lv_imul X.1 X.2.1 dX8_change_7 ?_
  refine lv_iload_n X.1 X.2.1 dX8_change_8 rfl (lv_at hl 2 rfl) ?_
  refine lv_iadd X.1 X.2.1 dX8_change_9 ?_
  refine lv_iload_n X.1 X.2.1 dX8_change_10 rfl (lv_at hl 3 rfl) ?_
  obtain ⟨h1, hf⟩ := b_ck hf
  refine r_iast X hw (sp70 hE) h1 dX8_change_11 (fun H locs hw => ?_)
  obtain ⟨σ2, e3, hf⟩ := b_bnd hf
  rw [← e3] at hw
  obtain rfl := Option.some.inj hf
  exact r_vret X hw dX8_change_12
abbrev rm_X8_place : Room := { frames := 3, cells := 0, slots := 0, locals := 143 }
set_option maxHeartbeats 4000000 in
set_option maxRecDepth 100000 in
theorem k_X8_place {l : Launch} {E : en_T} (hE : ShF E) {x1 : Int32} {x2 : Int32} {σ : sg_T} {r : Int32} (hf : f_X8_place x1 x2 σ = some r) : Ct l yX8_place cX8_place 3 (some .int) rm_X8_place E [.ref (eP E 69), .int x1, .int x2] σ (some (.int r)) σ := by
  refine Ct.start (by decide) hE.1 (Nat.le_of_ble_eq_true rfl) ?_
  intro p e s m below meth c X hw ls hl
  have X : Cx E p s m _ meth c cX8_place 3 RX8 (some .int) := X
  have hR : ShR E := hE.r
  have hl : lv_has ls 3 [(0, .ref (eP E 69)), (1, .int x1), (2, .int x2)] := hl
  unfold f_X8_place at hf
  refine lv_iload_n X.1 X.2.1 dX8_place_0 rfl (lv_at hl 1 rfl) ?_
  refine lv_bipush (v := 6) X.1 X.2.1 dX8_place_1 (by decide) ?_
  refine lv_icmp_ne (tgt := 45) X.1 X.2.1 dX8_place_3 (by decide) (fun c1 => ?_) (fun c1 => ?_)
  · have hf := if_e hf c1
    refine lv_iload_n X.1 X.2.1 dX8_place_45 rfl (lv_at hl 1 rfl) ?_
    refine lv_if_ne (tgt := 54) X.1 X.2.1 dX8_place_46 (by decide) (fun c2 => ?_) (fun c2 => ?_)
    · have hf := if_e hf c2
      refine lv_aload_n X.1 X.2.1 dX8_place_54 rfl (lv_at hl 0 rfl) ?_
      refine lv_iload_n X.1 X.2.1 dX8_place_55 rfl (lv_at hl 2 rfl) ?_
      obtain ⟨r4, h3, hf⟩ := b_bd1 hf
      refine r_callV X hw (k_X8_isOne hE  h3) (sp69 hE) (C := RX8) (T := TX8) (N := 31) rfl qw977 qw979 qw30 qw79 qw980 okX8_isOne ⟨rfl, rfl⟩ ⟨(Nat.le_of_ble_eq_true rfl), (Nat.le_of_ble_eq_true rfl)⟩ ⟨Nat.zero_le _, Nat.zero_le _⟩ rfl hl.1 (rest := []) rfl (Nat.le_of_ble_eq_true rfl) dX8_place_56 (st1 := [.int r4]) rfl (fun H locs hw => ?_)
      obtain ⟨v6, e7, hf⟩ := b_bnd hf
      refine r_join (g2 := F0 m 72 ls [.int v6]) ?_ (fun hj => ?_)
      · obtain rfl := Option.some.inj hf
        exact r_iret X hw dX8_place_72
      · refine lv_if_eq (tgt := 71) X.1 X.2.1 dX8_place_59 (by decide) (fun c5 => ?_) (fun c5 => ?_)
        · rw [e7, if_pos c5] at hj
          refine lv_iconst (v := (-1)) X.1 X.2.1 dX8_place_71 (by decide) ?_
          exact hj
        · rw [e7, if_neg c5] at hj
          refine lv_bipush (v := 11) X.1 X.2.1 dX8_place_62 (by decide) ?_
          refine lv_iload_n X.1 X.2.1 dX8_place_64 rfl (lv_at hl 2 rfl) ?_
          refine lv_imul X.1 X.2.1 dX8_place_65 ?_
          refine lv_iload_n X.1 X.2.1 dX8_place_66 rfl (lv_at hl 1 rfl) ?_
          refine lv_iadd X.1 X.2.1 dX8_place_67 ?_
          refine lv_goto (tgt := 72) X.1 X.2.1 dX8_place_68 (by decide) ?_
          exact hj
    · have hf := if_t hf c2
      refine lv_bipush (v := 56) X.1 X.2.1 dX8_place_49 (by decide) ?_
      refine lv_goto (tgt := 72) X.1 X.2.1 dX8_place_51 (by decide) ?_
      obtain rfl := Option.some.inj hf
      exact r_iret X hw dX8_place_72
  · have hf := if_t hf c1
    refine lv_iload_n X.1 X.2.1 dX8_place_6 rfl (lv_at hl 2 rfl) ?_
    refine lv_if_lt (tgt := 43) X.1 X.2.1 dX8_place_7 (by decide) (fun c8 => ?_) (fun c8 => ?_)
    · have hf := if_t hf c8
      refine lv_iconst (v := (-1)) X.1 X.2.1 dX8_place_43 (by decide) ?_
      obtain rfl := Option.some.inj hf
      exact r_iret X hw dX8_place_44
    · have hf := if_e hf c8
      refine lv_aload_n X.1 X.2.1 dX8_place_10 rfl (lv_at hl 0 rfl) ?_
      refine lv_iload_n X.1 X.2.1 dX8_place_11 rfl (lv_at hl 2 rfl) ?_
      refine lv_bipush (v := 10) X.1 X.2.1 dX8_place_12 (by decide) ?_
      refine lv_idiv X.1 X.2.1 dX8_place_14 (by decide) ?_
      refine lv_iload_n X.1 X.2.1 dX8_place_15 rfl (lv_at hl 2 rfl) ?_
      refine lv_bipush (v := 10) X.1 X.2.1 dX8_place_16 (by decide) ?_
      refine r_irem X dX8_place_18 (by decide) ?_
      obtain ⟨r10, h9, hf⟩ := b_bd1 hf
      refine r_callV X hw (k_X8_isTwo hE  h9) (sp69 hE) (C := RX8) (T := TX8) (N := 31) rfl qw973 qw975 qw29 qw79 qw976 okX8_isTwo ⟨rfl, rfl⟩ ⟨(Nat.le_of_ble_eq_true rfl), (Nat.le_of_ble_eq_true rfl)⟩ ⟨Nat.zero_le _, Nat.zero_le _⟩ rfl hl.1 (rest := []) rfl (Nat.le_of_ble_eq_true rfl) dX8_place_19 (st1 := [.int r10]) rfl (fun H locs hw => ?_)
      refine lv_if_eq (tgt := 43) X.1 X.2.1 dX8_place_22 (by decide) (fun c11 => ?_) (fun c11 => ?_)
      · have hf := if_t hf c11
        refine lv_iconst (v := (-1)) X.1 X.2.1 dX8_place_43 (by decide) ?_
        obtain rfl := Option.some.inj hf
        exact r_iret X hw dX8_place_44
      · have hf := if_e hf c11
        refine lv_bipush (v := 11) X.1 X.2.1 dX8_place_25 (by decide) ?_
        refine lv_iload_n X.1 X.2.1 dX8_place_27 rfl (lv_at hl 2 rfl) ?_
        refine lv_bipush (v := 10) X.1 X.2.1 dX8_place_28 (by decide) ?_
        refine lv_idiv X.1 X.2.1 dX8_place_30 (by decide) ?_
        refine lv_imul X.1 X.2.1 dX8_place_31 ?_
        refine lv_bipush (v := 6) X.1 X.2.1 dX8_place_32 (by decide) ?_
        refine lv_iadd X.1 X.2.1 dX8_place_34 ?_
        refine lv_iload_n X.1 X.2.1 dX8_place_35 rfl (lv_at hl 2 rfl) ?_
        refine lv_bipush (v := 10) X.1 X.2.1 dX8_place_36 (by decide) ?_
        refine r_irem X dX8_place_38 (by decide) ?_
        refine lv_iadd X.1 X.2.1 dX8_place_39 ?_
        refine lv_goto (tgt := 44) X.1 X.2.1 dX8_place_40 (by decide) ?_
        obtain rfl := Option.some.inj hf
        exact r_iret X hw dX8_place_44
abbrev rm_X8_set : Room := { frames := 4, cells := 0, slots := 0, locals := 165 }
set_option maxHeartbeats 4000000 in
set_option maxRecDepth 100000 in
theorem k_X8_set {l : Launch} {E : en_T} (hE : ShF E) {x1 : Int32} {x2 : Int32} {x3 : Int32} {σ : sg_T} {r : Int32} {σ' : sg_T} (hf : f_X8_set x1 x2 x3 σ = some (r, σ')) : Ct l yX8_set cX8_set 5 (some .int) rm_X8_set E [.ref (eP E 69), .int x1, .int x2, .int x3] σ (some (.int r)) σ' := by
  refine Ct.start (by decide) hE.1 (Nat.le_of_ble_eq_true rfl) ?_
  intro p e s m below meth c X hw ls hl
  have X : Cx E p s m _ meth c cX8_set 5 RX8 (some .int) := X
  have hR : ShR E := hE.r
  have hl : lv_has ls 5 [(0, .ref (eP E 69)), (1, .int x1), (2, .int x2), (3, .int x3)] := hl
  unfold f_X8_set at hf
  refine lv_iload_n X.1 X.2.1 dX8_set_0 rfl (lv_at hl 1 rfl) ?_
  refine lv_iconst (v := 0) X.1 X.2.1 dX8_set_1 (by decide) ?_
  refine lv_bipush (v := 6) X.1 X.2.1 dX8_set_2 (by decide) ?_
  obtain ⟨r2, h1, hf⟩ := b_bd1 hf
  refine r_callS X hw (k_X8_isIn hE  h1) qw966 qw967 qw79 qw968 okX8_isIn ⟨rfl, rfl⟩ ⟨(Nat.le_of_ble_eq_true rfl), (Nat.le_of_ble_eq_true rfl)⟩ ⟨Nat.zero_le _, Nat.zero_le _⟩ rfl hl.1 (rest := []) rfl (Nat.le_of_ble_eq_true rfl) dX8_set_4 (st1 := [.int r2]) rfl (fun H locs hw => ?_)
  refine lv_if_eq (tgt := 34) X.1 X.2.1 dX8_set_7 (by decide) (fun c3 => ?_) (fun c3 => ?_)
  · have hf := if_t hf c3
    refine lv_bipush (v := (-2)) X.1 X.2.1 dX8_set_34 (by decide) ?_
    obtain ⟨rfl, rfl⟩ := Prod.mk.inj (Option.some.inj hf)
    exact r_iret X hw dX8_set_36
  · have hf := if_e hf c3
    refine lv_iload_n X.1 X.2.1 dX8_set_10 rfl (lv_at hl 3 rfl) ?_
    refine lv_iconst (v := 0) X.1 X.2.1 dX8_set_11 (by decide) ?_
    refine lv_aload_n X.1 X.2.1 dX8_set_12 rfl (lv_at hl 0 rfl) ?_
    refine r_get X hw (sp69 hE) (C := RX8) (T := TX8) (N := 31) rfl iwX8 4 (by decide) (Nat.le_of_ble_eq_true rfl) qw870 (v := .ref (eP E 73)) rfl dX8_set_13 ?_
    refine lv_iload_n X.1 X.2.1 dX8_set_16 rfl (lv_at hl 1 rfl) ?_
    obtain ⟨h4, hf⟩ := b_ck hf
    refine r_iald X hw (sp73 hE) h4 dX8_set_17 ?_
    obtain ⟨r6, h5, hf⟩ := b_bd1 hf
    refine r_callS X hw (k_X8_isIn hE  h5) qw966 qw967 qw79 qw968 okX8_isIn ⟨rfl, rfl⟩ ⟨(Nat.le_of_ble_eq_true rfl), (Nat.le_of_ble_eq_true rfl)⟩ ⟨Nat.zero_le _, Nat.zero_le _⟩ rfl hl.1 (rest := []) rfl (Nat.le_of_ble_eq_true rfl) dX8_set_18 (st1 := [.int r6]) rfl (fun H locs hw => ?_)
    refine lv_if_eq (tgt := 34) X.1 X.2.1 dX8_set_21 (by decide) (fun c7 => ?_) (fun c7 => ?_)
    · have hf := if_t hf c7
      refine lv_bipush (v := (-2)) X.1 X.2.1 dX8_set_34 (by decide) ?_
      obtain ⟨rfl, rfl⟩ := Prod.mk.inj (Option.some.inj hf)
      exact r_iret X hw dX8_set_36
    · have hf := if_e hf c7
      refine lv_aload_n X.1 X.2.1 dX8_set_24 rfl (lv_at hl 0 rfl) ?_
      refine lv_iload_n X.1 X.2.1 dX8_set_25 rfl (lv_at hl 1 rfl) ?_
      refine lv_iload_n X.1 X.2.1 dX8_set_26 rfl (lv_at hl 2 rfl) ?_
      obtain ⟨r9, h8, hf⟩ := b_bd1 hf
      refine r_callV X hw (k_X8_place hE  h8) (sp69 hE) (C := RX8) (T := TX8) (N := 31) rfl qw969 qw971 qw28 qw79 qw972 okX8_place ⟨rfl, rfl⟩ ⟨(Nat.le_of_ble_eq_true rfl), (Nat.le_of_ble_eq_true rfl)⟩ ⟨Nat.zero_le _, Nat.zero_le _⟩ rfl hl.1 (rest := []) rfl (Nat.le_of_ble_eq_true rfl) dX8_set_27 (st1 := [.int r9]) rfl (fun H locs hw => ?_)
      refine lv_iconst (v := (-1)) X.1 X.2.1 dX8_set_30 (by decide) ?_
      refine lv_icmp_ne (tgt := 37) X.1 X.2.1 dX8_set_31 (by decide) (fun c10 => ?_) (fun c10 => ?_)
      · have hf := if_e hf c10
        refine lv_aload_n X.1 X.2.1 dX8_set_37 rfl (lv_at hl 0 rfl) ?_
        refine r_get X hw (sp69 hE) (C := RX8) (T := TX8) (N := 31) rfl iwX8 0 (by decide) (Nat.le_of_ble_eq_true rfl) qw866 (v := .ref (eP E 70)) rfl dX8_set_38 ?_
        refine lv_aload_n X.1 X.2.1 dX8_set_41 rfl (lv_at hl 0 rfl) ?_
        refine lv_iload_n X.1 X.2.1 dX8_set_42 rfl (lv_at hl 1 rfl) ?_
        refine lv_iload_n X.1 X.2.1 dX8_set_43 rfl (lv_at hl 2 rfl) ?_
        obtain ⟨r12, h11, hf⟩ := b_bd1 hf
        refine r_callV X hw (k_X8_place hE  h11) (sp69 hE) (C := RX8) (T := TX8) (N := 31) rfl qw969 qw971 qw28 qw79 qw972 okX8_place ⟨rfl, rfl⟩ ⟨(Nat.le_of_ble_eq_true rfl), (Nat.le_of_ble_eq_true rfl)⟩ ⟨Nat.zero_le _, Nat.zero_le _⟩ rfl hl.1 (rest := [.ref (eP E 70)]) rfl (Nat.le_of_ble_eq_true rfl) dX8_set_44 (st1 := [.int r12, .ref (eP E 70)]) rfl (fun H locs hw => ?_)
        obtain ⟨h13, hf⟩ := b_ck hf
        refine r_iald X hw (sp70 hE) h13 dX8_set_47 ?_
        refine r_bnd hf (fun v14 hf => ?_)
        refine lv_istore (lv' := [(4, .int v14), (0, .ref (eP E 69)), (1, .int x1), (2, .int x2), (3, .int x3)]) X.1 X.2.1 dX8_set_48 hl (by decide) rfl (fun ls hl => ?_)
        refine lv_aload_n X.1 X.2.1 dX8_set_50 rfl (lv_at hl 1 rfl) ?_
        refine r_get X hw (sp69 hE) (C := RX8) (T := TX8) (N := 31) rfl iwX8 0 (by decide) (Nat.le_of_ble_eq_true rfl) qw866 (v := .ref (eP E 70)) rfl dX8_set_51 ?_
        refine lv_aload_n X.1 X.2.1 dX8_set_54 rfl (lv_at hl 1 rfl) ?_
        refine lv_iload_n X.1 X.2.1 dX8_set_55 rfl (lv_at hl 2 rfl) ?_
        refine lv_iload_n X.1 X.2.1 dX8_set_56 rfl (lv_at hl 3 rfl) ?_
        obtain ⟨r16, h15, hf⟩ := b_bd1 hf
        refine r_callV X hw (k_X8_place hE  h15) (sp69 hE) (C := RX8) (T := TX8) (N := 31) rfl qw969 qw971 qw28 qw79 qw972 okX8_place ⟨rfl, rfl⟩ ⟨(Nat.le_of_ble_eq_true rfl), (Nat.le_of_ble_eq_true rfl)⟩ ⟨Nat.zero_le _, Nat.zero_le _⟩ rfl hl.1 (rest := [.ref (eP E 70)]) rfl (Nat.le_of_ble_eq_true rfl) dX8_set_57 (st1 := [.int r16, .ref (eP E 70)]) rfl (fun H locs hw => ?_)
        refine lv_iload_n X.1 X.2.1 dX8_set_60 rfl (lv_at hl 4 rfl) ?_
        obtain ⟨h17, hf⟩ := b_ck hf
        refine r_iast X hw (sp70 hE) h17 dX8_set_61 (fun H locs hw => ?_)
        obtain ⟨σ18, e19, hf⟩ := b_bnd hf
        rw [← e19] at hw
        refine lv_iload X.1 X.2.1 dX8_set_62 (lv_at hl 0 rfl) ?_
        obtain ⟨rfl, rfl⟩ := Prod.mk.inj (Option.some.inj hf)
        exact r_iret X hw dX8_set_64
      · have hf := if_t hf c10
        refine lv_bipush (v := (-2)) X.1 X.2.1 dX8_set_34 (by decide) ?_
        obtain ⟨rfl, rfl⟩ := Prod.mk.inj (Option.some.inj hf)
        exact r_iret X hw dX8_set_36
abbrev rm_X8_person : Room := { frames := 1, cells := 0, slots := 0, locals := 100 }
set_option maxHeartbeats 4000000 in
set_option maxRecDepth 100000 in
theorem w_X8_person_52 {p : Program} {l : Launch} {e : Env} {s : State} {m : MethodId} {args : Array Value} {below : List Frame} {meth : Method} {c : Code} {Q : State → Prop} {E : en_T} (X : Cx E p s m args meth c cX8_person 6 RX8 (some .int)) (hE : ShF E) {u1 : Int32} {u2 : Int32} {u3 : Int32} {u4 : Int32}  {res : Int32 × sg_T} :
    ∀ (n : Nat) (w5 : Int32) (σ : sg_T), itr (fun q => b_X8_person_52 u1 u2 u3 u4 q.1 q.2) n (w5, σ) = some res → ∀ (H : Heap) (locs : List Loc) (ls : Array Slot), Hw E σ s H locs → lv_has ls 6 [(0, .ref (eP E 69)), (1, .int u1), (2, .int u2), (3, .int u3), (4, .int u4), (5, .int w5)] →
    (∀ (y5 : Int32) (τ : sg_T), res = (y5, τ) → ∀ (H : Heap) (locs : List Loc) (ls : Array Slot), Hw E τ s H locs → lv_has ls 6 [(0, .ref (eP E 69)), (1, .int u1), (2, .int u2), (3, .int u3), (4, .int u4), (5, .int y5)] → W p l e rm_X8_person s m args below meth c H locs 0 0 Q (F0 m 85 ls [])) →
    W p l e rm_X8_person s m args below meth c H locs 0 0 Q (F0 m 52 ls []) := by
  have hR : ShR E := hE.r
  intro n
  induction n with
  | zero =>
    intro w5 σ hf0
    exact (itr_0 hf0).elim
  | succ n ih =>
    intro w5 σ hf0 H locs ls hw hl K1
    obtain ⟨r0, hf, hr1, hr2⟩ := itr_s hf0
    have hf : b_X8_person_52 u1 u2 u3 u4 w5 σ = some r0 := hf
    unfold b_X8_person_52 at hf
    refine lv_iload X.1 X.2.1 dX8_person_52 (lv_at hl 5 rfl) ?_
    refine lv_bipush (v := 11) X.1 X.2.1 dX8_person_54 (by decide) ?_
    refine lv_icmp_ge (tgt := 85) X.1 X.2.1 dX8_person_56 (by decide) (fun c15 => ?_) (fun c15 => ?_)
    · have hf := if_t hf c15
      obtain rfl := Option.some.inj hf
      obtain rfl := hr2 _ rfl
      exact K1 _ _ rfl _ _ _ hw (lv_sub hl [0, 1, 2, 3, 4, 5] rfl)
    · have hf := if_e hf c15
      refine lv_aload_n X.1 X.2.1 dX8_person_59 rfl (lv_at hl 0 rfl) ?_
      refine lv_iload X.1 X.2.1 dX8_person_60 (lv_at hl 4 rfl) ?_
      refine lv_iload X.1 X.2.1 dX8_person_62 (lv_at hl 5 rfl) ?_
      refine lv_iload X.1 X.2.1 dX8_person_64 (lv_at hl 5 rfl) ?_
      refine lv_bipush (v := 6) X.1 X.2.1 dX8_person_66 (by decide) ?_
      obtain ⟨v17, e18, hf⟩ := b_bnd hf
      refine r_join (g2 := F0 m 76 ls [.int v17, .int w5, .int u4, .ref (eP E 69)]) ?_ (fun hj => ?_)
      · obtain ⟨σ20, h19, hf⟩ := b_bd1 hf
        refine r_callV X hw (k_X8_change hE  h19) (sp69 hE) (C := RX8) (T := TX8) (N := 31) rfl qw989 qw991 qw32 qw79 qw992 okX8_change ⟨rfl, rfl⟩ ⟨(Nat.le_of_ble_eq_true rfl), (Nat.le_of_ble_eq_true rfl)⟩ ⟨Nat.zero_le _, Nat.zero_le _⟩ rfl hl.1 (rest := []) rfl (Nat.le_of_ble_eq_true rfl) dX8_person_76 (st1 := []) rfl (fun H locs hw => ?_)
        obtain ⟨v21, e22, hf⟩ := b_bnd hf
        refine lv_iinc (v := v21) (k := 5) (lv' := [(5, .int v21), (0, .ref (eP E 69)), (1, .int u1), (2, .int u2), (3, .int u3), (4, .int u4)]) X.1 X.2.1 dX8_person_79 hl rfl (by rw [e22]; exact congrArg _ (by decide)) (by decide) rfl (fun ls hl => ?_)
        refine lv_goto (tgt := 52) X.1 X.2.1 dX8_person_82 (by decide) ?_
        obtain rfl := Option.some.inj hf
        exact ih _ _ (hr1 _ rfl) _ _ _ hw (lv_sub hl [1, 2, 3, 4, 5, 0] rfl) K1
      · refine lv_icmp_ge (tgt := 75) X.1 X.2.1 dX8_person_68 (by decide) (fun c16 => ?_) (fun c16 => ?_)
        · rw [e18, if_pos c16] at hj
          refine lv_iconst (v := 1) X.1 X.2.1 dX8_person_75 (by decide) ?_
          exact hj
        · rw [e18, if_neg c16] at hj
          refine lv_iconst (v := 0) X.1 X.2.1 dX8_person_71 (by decide) ?_
          refine lv_goto (tgt := 76) X.1 X.2.1 dX8_person_72 (by decide) ?_
          exact hj
set_option maxHeartbeats 4000000 in
set_option maxRecDepth 100000 in
theorem w_X8_person_112 {p : Program} {l : Launch} {e : Env} {s : State} {m : MethodId} {args : Array Value} {below : List Frame} {meth : Method} {c : Code} {Q : State → Prop} {E : en_T} (X : Cx E p s m args meth c cX8_person 6 RX8 (some .int)) (hE : ShF E) {u1 : Int32} {u2 : Int32} {u3 : Int32} {u4 : Int32}  {res : Int32 × sg_T} :
    ∀ (n : Nat) (w5 : Int32) (σ : sg_T), itr (fun q => b_X8_person_112 u1 u2 u3 u4 q.1 q.2) n (w5, σ) = some res → ∀ (H : Heap) (locs : List Loc) (ls : Array Slot), Hw E σ s H locs → lv_has ls 6 [(0, .ref (eP E 69)), (1, .int u1), (2, .int u2), (3, .int u3), (4, .int u4), (5, .int w5)] →
    (∀ (y5 : Int32) (τ : sg_T), res = (y5, τ) → ∀ (H : Heap) (locs : List Loc) (ls : Array Slot), Hw E τ s H locs → lv_has ls 6 [(0, .ref (eP E 69)), (1, .int u1), (2, .int u2), (3, .int u3), (4, .int u4), (5, .int y5)] → W p l e rm_X8_person s m args below meth c H locs 0 0 Q (F0 m 137 ls [])) →
    W p l e rm_X8_person s m args below meth c H locs 0 0 Q (F0 m 112 ls []) := by
  have hR : ShR E := hE.r
  intro n
  induction n with
  | zero =>
    intro w5 σ hf0
    exact (itr_0 hf0).elim
  | succ n ih =>
    intro w5 σ hf0 H locs ls hw hl K1
    obtain ⟨r0, hf, hr1, hr2⟩ := itr_s hf0
    have hf : b_X8_person_112 u1 u2 u3 u4 w5 σ = some r0 := hf
    unfold b_X8_person_112 at hf
    refine lv_iload X.1 X.2.1 dX8_person_112 (lv_at hl 5 rfl) ?_
    refine lv_iload X.1 X.2.1 dX8_person_114 (lv_at hl 4 rfl) ?_
    refine lv_icmp_ge (tgt := 137) X.1 X.2.1 dX8_person_116 (by decide) (fun c32 => ?_) (fun c32 => ?_)
    · have hf := if_t hf c32
      obtain rfl := Option.some.inj hf
      obtain rfl := hr2 _ rfl
      exact K1 _ _ rfl _ _ _ hw (lv_sub hl [0, 1, 2, 3, 4, 5] rfl)
    · have hf := if_e hf c32
      refine lv_aload_n X.1 X.2.1 dX8_person_119 rfl (lv_at hl 0 rfl) ?_
      refine lv_iload X.1 X.2.1 dX8_person_120 (lv_at hl 5 rfl) ?_
      refine lv_bipush (v := 6) X.1 X.2.1 dX8_person_122 (by decide) ?_
      refine lv_iload X.1 X.2.1 dX8_person_124 (lv_at hl 4 rfl) ?_
      refine lv_iadd X.1 X.2.1 dX8_person_126 ?_
      refine lv_iconst (v := 1) X.1 X.2.1 dX8_person_127 (by decide) ?_
      obtain ⟨σ34, h33, hf⟩ := b_bd1 hf
      refine r_callV X hw (k_X8_change hE  h33) (sp69 hE) (C := RX8) (T := TX8) (N := 31) rfl qw989 qw991 qw32 qw79 qw992 okX8_change ⟨rfl, rfl⟩ ⟨(Nat.le_of_ble_eq_true rfl), (Nat.le_of_ble_eq_true rfl)⟩ ⟨Nat.zero_le _, Nat.zero_le _⟩ rfl hl.1 (rest := []) rfl (Nat.le_of_ble_eq_true rfl) dX8_person_128 (st1 := []) rfl (fun H locs hw => ?_)
      obtain ⟨v35, e36, hf⟩ := b_bnd hf
      refine lv_iinc (v := v35) (k := 5) (lv' := [(5, .int v35), (0, .ref (eP E 69)), (1, .int u1), (2, .int u2), (3, .int u3), (4, .int u4)]) X.1 X.2.1 dX8_person_131 hl rfl (by rw [e36]; exact congrArg _ (by decide)) (by decide) rfl (fun ls hl => ?_)
      refine lv_goto (tgt := 112) X.1 X.2.1 dX8_person_134 (by decide) ?_
      obtain rfl := Option.some.inj hf
      exact ih _ _ (hr1 _ rfl) _ _ _ hw (lv_sub hl [1, 2, 3, 4, 5, 0] rfl) K1
set_option maxHeartbeats 4000000 in
set_option maxRecDepth 100000 in
theorem k_X8_person {l : Launch} {E : en_T} (hE : ShF E) {x1 : Int32} {x2 : Int32} {x3 : Int32} {σ : sg_T} {r : Int32} {σ' : sg_T} (hf : f_X8_person x1 x2 x3 σ = some (r, σ')) : Ct l yX8_person cX8_person 6 (some .int) rm_X8_person E [.ref (eP E 69), .int x1, .int x2, .int x3] σ (some (.int r)) σ' := by
  refine Ct.start (by decide) hE.1 (Nat.le_of_ble_eq_true rfl) ?_
  intro p e s m below meth c X hw ls hl
  have X : Cx E p s m _ meth c cX8_person 6 RX8 (some .int) := X
  have hR : ShR E := hE.r
  have hl : lv_has ls 6 [(0, .ref (eP E 69)), (1, .int x1), (2, .int x2), (3, .int x3)] := hl
  unfold f_X8_person at hf
  refine lv_iload_n X.1 X.2.1 dX8_person_0 rfl (lv_at hl 1 rfl) ?_
  refine lv_iconst (v := 0) X.1 X.2.1 dX8_person_1 (by decide) ?_
  refine lv_iconst (v := 5) X.1 X.2.1 dX8_person_2 (by decide) ?_
  obtain ⟨r2, h1, hf⟩ := b_bd1 hf
  refine r_callS X hw (k_X8_isIn hE  h1) qw966 qw967 qw79 qw968 okX8_isIn ⟨rfl, rfl⟩ ⟨(Nat.le_of_ble_eq_true rfl), (Nat.le_of_ble_eq_true rfl)⟩ ⟨Nat.zero_le _, Nat.zero_le _⟩ rfl hl.1 (rest := []) rfl (Nat.le_of_ble_eq_true rfl) dX8_person_3 (st1 := [.int r2]) rfl (fun H locs hw => ?_)
  refine lv_if_eq (tgt := 29) X.1 X.2.1 dX8_person_6 (by decide) (fun c3 => ?_) (fun c3 => ?_)
  · have hf := if_t hf c3
    refine lv_bipush (v := (-2)) X.1 X.2.1 dX8_person_29 (by decide) ?_
    obtain ⟨rfl, rfl⟩ := Prod.mk.inj (Option.some.inj hf)
    exact r_iret X hw dX8_person_31
  · have hf := if_e hf c3
    refine lv_iload_n X.1 X.2.1 dX8_person_9 rfl (lv_at hl 2 rfl) ?_
    refine lv_iconst (v := 0) X.1 X.2.1 dX8_person_10 (by decide) ?_
    refine lv_bipush (v := 9) X.1 X.2.1 dX8_person_11 (by decide) ?_
    obtain ⟨r5, h4, hf⟩ := b_bd1 hf
    refine r_callS X hw (k_X8_isIn hE  h4) qw966 qw967 qw79 qw968 okX8_isIn ⟨rfl, rfl⟩ ⟨(Nat.le_of_ble_eq_true rfl), (Nat.le_of_ble_eq_true rfl)⟩ ⟨Nat.zero_le _, Nat.zero_le _⟩ rfl hl.1 (rest := []) rfl (Nat.le_of_ble_eq_true rfl) dX8_person_13 (st1 := [.int r5]) rfl (fun H locs hw => ?_)
    refine lv_if_eq (tgt := 29) X.1 X.2.1 dX8_person_16 (by decide) (fun c6 => ?_) (fun c6 => ?_)
    · have hf := if_t hf c6
      refine lv_bipush (v := (-2)) X.1 X.2.1 dX8_person_29 (by decide) ?_
      obtain ⟨rfl, rfl⟩ := Prod.mk.inj (Option.some.inj hf)
      exact r_iret X hw dX8_person_31
    · have hf := if_e hf c6
      refine lv_iload_n X.1 X.2.1 dX8_person_19 rfl (lv_at hl 3 rfl) ?_
      refine lv_iconst (v := 0) X.1 X.2.1 dX8_person_20 (by decide) ?_
      refine lv_bipush (v := 23) X.1 X.2.1 dX8_person_21 (by decide) ?_
      obtain ⟨r8, h7, hf⟩ := b_bd1 hf
      refine r_callS X hw (k_X8_isIn hE  h7) qw966 qw967 qw79 qw968 okX8_isIn ⟨rfl, rfl⟩ ⟨(Nat.le_of_ble_eq_true rfl), (Nat.le_of_ble_eq_true rfl)⟩ ⟨Nat.zero_le _, Nat.zero_le _⟩ rfl hl.1 (rest := []) rfl (Nat.le_of_ble_eq_true rfl) dX8_person_23 (st1 := [.int r8]) rfl (fun H locs hw => ?_)
      refine lv_if_ne (tgt := 32) X.1 X.2.1 dX8_person_26 (by decide) (fun c9 => ?_) (fun c9 => ?_)
      · have hf := if_e hf c9
        refine lv_aload_n X.1 X.2.1 dX8_person_32 rfl (lv_at hl 0 rfl) ?_
        obtain ⟨r11, h10, hf⟩ := b_bd1 hf
        refine r_callV X hw (k_X8_many hE  h10) (sp69 hE) (C := RX8) (T := TX8) (N := 31) rfl qw985 qw987 qw31 qw79 qw988 okX8_many ⟨rfl, rfl⟩ ⟨(Nat.le_of_ble_eq_true rfl), (Nat.le_of_ble_eq_true rfl)⟩ ⟨Nat.zero_le _, Nat.zero_le _⟩ rfl hl.1 (rest := []) rfl (Nat.le_of_ble_eq_true rfl) dX8_person_33 (st1 := [.int r11]) rfl (fun H locs hw => ?_)
        refine lv_iconst (v := 5) X.1 X.2.1 dX8_person_36 (by decide) ?_
        refine lv_icmp_ne (tgt := 43) X.1 X.2.1 dX8_person_37 (by decide) (fun c12 => ?_) (fun c12 => ?_)
        · have hf := if_e hf c12
          refine lv_aload_n X.1 X.2.1 dX8_person_43 rfl (lv_at hl 0 rfl) ?_
          obtain ⟨r14, h13, hf⟩ := b_bd1 hf
          refine r_callV X hw (k_X8_many hE  h13) (sp69 hE) (C := RX8) (T := TX8) (N := 31) rfl qw985 qw987 qw31 qw79 qw988 okX8_many ⟨rfl, rfl⟩ ⟨(Nat.le_of_ble_eq_true rfl), (Nat.le_of_ble_eq_true rfl)⟩ ⟨Nat.zero_le _, Nat.zero_le _⟩ rfl hl.1 (rest := []) rfl (Nat.le_of_ble_eq_true rfl) dX8_person_44 (st1 := [.int r14]) rfl (fun H locs hw => ?_)
          refine lv_istore (lv' := [(4, .int r14), (0, .ref (eP E 69)), (1, .int x1), (2, .int x2), (3, .int x3)]) X.1 X.2.1 dX8_person_47 hl (by decide) rfl (fun ls hl => ?_)
          refine lv_iconst (v := 0) X.1 X.2.1 dX8_person_49 (by decide) ?_
          refine lv_istore (lv' := [(5, .int 0), (4, .int r14), (0, .ref (eP E 69)), (1, .int x1), (2, .int x2), (3, .int x3)]) X.1 X.2.1 dX8_person_50 hl (by decide) rfl (fun ls hl => ?_)
          obtain ⟨v24, σ25, h23, hf⟩ := b_bd2 hf
          refine w_X8_person_52 X hE  lfu _ _ h23 _ _ _ hw (lv_sub hl [2, 3, 4, 5, 1, 0] rfl) (fun yv24 yσ25 hq H locs ls hw hl => ?_)
          cases hq
          refine lv_aload_n X.1 X.2.1 dX8_person_85 rfl (lv_at hl 0 rfl) ?_
          refine lv_iload X.1 X.2.1 dX8_person_86 (lv_at hl 4 rfl) ?_
          refine lv_iconst (v := 0) X.1 X.2.1 dX8_person_88 (by decide) ?_
          refine lv_iload_n X.1 X.2.1 dX8_person_89 rfl (lv_at hl 1 rfl) ?_
          obtain ⟨σ27, h26, hf⟩ := b_bd1 hf
          refine r_callV X hw (k_X8_change hE  h26) (sp69 hE) (C := RX8) (T := TX8) (N := 31) rfl qw989 qw991 qw32 qw79 qw992 okX8_change ⟨rfl, rfl⟩ ⟨(Nat.le_of_ble_eq_true rfl), (Nat.le_of_ble_eq_true rfl)⟩ ⟨Nat.zero_le _, Nat.zero_le _⟩ rfl hl.1 (rest := []) rfl (Nat.le_of_ble_eq_true rfl) dX8_person_90 (st1 := []) rfl (fun H locs hw => ?_)
          refine lv_aload_n X.1 X.2.1 dX8_person_93 rfl (lv_at hl 0 rfl) ?_
          refine lv_iload X.1 X.2.1 dX8_person_94 (lv_at hl 4 rfl) ?_
          refine lv_iconst (v := 1) X.1 X.2.1 dX8_person_96 (by decide) ?_
          refine lv_iload_n X.1 X.2.1 dX8_person_97 rfl (lv_at hl 2 rfl) ?_
          obtain ⟨σ29, h28, hf⟩ := b_bd1 hf
          refine r_callV X hw (k_X8_change hE  h28) (sp69 hE) (C := RX8) (T := TX8) (N := 31) rfl qw989 qw991 qw32 qw79 qw992 okX8_change ⟨rfl, rfl⟩ ⟨(Nat.le_of_ble_eq_true rfl), (Nat.le_of_ble_eq_true rfl)⟩ ⟨Nat.zero_le _, Nat.zero_le _⟩ rfl hl.1 (rest := []) rfl (Nat.le_of_ble_eq_true rfl) dX8_person_98 (st1 := []) rfl (fun H locs hw => ?_)
          refine lv_aload_n X.1 X.2.1 dX8_person_101 rfl (lv_at hl 0 rfl) ?_
          refine lv_iload X.1 X.2.1 dX8_person_102 (lv_at hl 4 rfl) ?_
          refine lv_iconst (v := 2) X.1 X.2.1 dX8_person_104 (by decide) ?_
          refine lv_iload_n X.1 X.2.1 dX8_person_105 rfl (lv_at hl 3 rfl) ?_
          obtain ⟨σ31, h30, hf⟩ := b_bd1 hf
          refine r_callV X hw (k_X8_change hE  h30) (sp69 hE) (C := RX8) (T := TX8) (N := 31) rfl qw989 qw991 qw32 qw79 qw992 okX8_change ⟨rfl, rfl⟩ ⟨(Nat.le_of_ble_eq_true rfl), (Nat.le_of_ble_eq_true rfl)⟩ ⟨Nat.zero_le _, Nat.zero_le _⟩ rfl hl.1 (rest := []) rfl (Nat.le_of_ble_eq_true rfl) dX8_person_106 (st1 := []) rfl (fun H locs hw => ?_)
          refine lv_iconst (v := 0) X.1 X.2.1 dX8_person_109 (by decide) ?_
          refine lv_istore (lv' := [(5, .int 0), (0, .ref (eP E 69)), (1, .int x1), (2, .int x2), (3, .int x3), (4, .int r14)]) X.1 X.2.1 dX8_person_110 hl (by decide) rfl (fun ls hl => ?_)
          obtain ⟨v38, σ39, h37, hf⟩ := b_bd2 hf
          refine w_X8_person_112 X hE  lfu _ _ h37 _ _ _ hw (lv_sub hl [1, 2, 3, 4, 5, 0] rfl) (fun yv38 yσ39 hq H locs ls hw hl => ?_)
          cases hq
          refine lv_aload_n X.1 X.2.1 dX8_person_137 rfl (lv_at hl 0 rfl) ?_
          refine r_get X hw (sp69 hE) (C := RX8) (T := TX8) (N := 31) rfl iwX8 0 (by decide) (Nat.le_of_ble_eq_true rfl) qw866 (v := .ref (eP E 70)) rfl dX8_person_138 ?_
          refine lv_bipush (v := 55) X.1 X.2.1 dX8_person_141 (by decide) ?_
          refine lv_dup2_11 X.1 X.2.1 dX8_person_143 rfl rfl ?_
          obtain ⟨h40, hf⟩ := b_ck hf
          refine r_iald X hw (sp70 hE) h40 dX8_person_144 ?_
          refine lv_iconst (v := 1) X.1 X.2.1 dX8_person_145 (by decide) ?_
          refine lv_iadd X.1 X.2.1 dX8_person_146 ?_
          obtain ⟨h41, hf⟩ := b_ck hf
          refine r_iast X hw (sp70 hE) h41 dX8_person_147 (fun H locs hw => ?_)
          obtain ⟨σ42, e43, hf⟩ := b_bnd hf
          rw [← e43] at hw
          refine lv_iload X.1 X.2.1 dX8_person_148 (lv_at hl 4 rfl) ?_
          obtain ⟨rfl, rfl⟩ := Prod.mk.inj (Option.some.inj hf)
          exact r_iret X hw dX8_person_150
        · have hf := if_t hf c12
          refine lv_bipush (v := (-4)) X.1 X.2.1 dX8_person_40 (by decide) ?_
          obtain ⟨rfl, rfl⟩ := Prod.mk.inj (Option.some.inj hf)
          exact r_iret X hw dX8_person_42
      · have hf := if_t hf c9
        refine lv_bipush (v := (-2)) X.1 X.2.1 dX8_person_29 (by decide) ?_
        obtain ⟨rfl, rfl⟩ := Prod.mk.inj (Option.some.inj hf)
        exact r_iret X hw dX8_person_31
abbrev rm_X8_setter : Room := { frames := 1, cells := 0, slots := 0, locals := 100 }
set_option maxHeartbeats 4000000 in
set_option maxRecDepth 100000 in
theorem w_X8_setter_7 {p : Program} {l : Launch} {e : Env} {s : State} {m : MethodId} {args : Array Value} {below : List Frame} {meth : Method} {c : Code} {Q : State → Prop} {E : en_T} (X : Cx E p s m args meth c cX8_setter 5 RX8 (some .int)) (hE : ShF E) {u1 : Int32} {σ : sg_T} {res : Int32 × Int32 × Int32} :
    ∀ (n : Nat) (w2 : Int32) (w3 : Int32) (w4 : Int32), itr (fun q => b_X8_setter_7 u1 q.1 q.2.1 q.2.2 σ) n (w2, w3, w4) = some res → ∀ (H : Heap) (locs : List Loc) (ls : Array Slot), Hw E σ s H locs → lv_has ls 5 [(0, .ref (eP E 69)), (1, .int u1), (2, .int w2), (3, .int w3), (4, .int w4)] →
    (∀ (y2 : Int32) (y3 : Int32) (y4 : Int32), res = (y2, y3, y4) → ∀ (H : Heap) (locs : List Loc) (ls : Array Slot), Hw E σ s H locs → lv_has ls 5 [(0, .ref (eP E 69)), (1, .int u1), (2, .int y2), (3, .int y3), (4, .int y4)] → W p l e rm_X8_setter s m args below meth c H locs 0 0 Q (F0 m 56 ls [])) →
    W p l e rm_X8_setter s m args below meth c H locs 0 0 Q (F0 m 7 ls []) := by
  have hR : ShR E := hE.r
  intro n
  induction n with
  | zero =>
    intro w2 w3 w4 hf0
    exact (itr_0 hf0).elim
  | succ n ih =>
    intro w2 w3 w4 hf0 H locs ls hw hl K1
    obtain ⟨r0, hf, hr1, hr2⟩ := itr_s hf0
    have hf : b_X8_setter_7 u1 w2 w3 w4 σ = some r0 := hf
    unfold b_X8_setter_7 at hf
    refine lv_iload X.1 X.2.1 dX8_setter_7 (lv_at hl 4 rfl) ?_
    refine lv_aload_n X.1 X.2.1 dX8_setter_9 rfl (lv_at hl 0 rfl) ?_
    obtain ⟨r2, h1, hf⟩ := b_bd1 hf
    refine r_callV X hw (k_X8_many hE  h1) (sp69 hE) (C := RX8) (T := TX8) (N := 31) rfl qw985 qw987 qw31 qw79 qw988 okX8_many ⟨rfl, rfl⟩ ⟨(Nat.le_of_ble_eq_true rfl), (Nat.le_of_ble_eq_true rfl)⟩ ⟨Nat.zero_le _, Nat.zero_le _⟩ rfl hl.1 (rest := [.int w4]) rfl (Nat.le_of_ble_eq_true rfl) dX8_setter_10 (st1 := [.int r2, .int w4]) rfl (fun H locs hw => ?_)
    refine lv_icmp_ge (tgt := 56) X.1 X.2.1 dX8_setter_13 (by decide) (fun c3 => ?_) (fun c3 => ?_)
    · have hf := if_t hf c3
      obtain rfl := Option.some.inj hf
      obtain rfl := hr2 _ rfl
      exact K1 _ _ _ rfl _ _ _ hw (lv_sub hl [0, 1, 2, 3, 4] rfl)
    · have hf := if_e hf c3
      refine lv_iload X.1 X.2.1 dX8_setter_16 (lv_at hl 4 rfl) ?_
      refine lv_iload_n X.1 X.2.1 dX8_setter_18 rfl (lv_at hl 1 rfl) ?_
      refine lv_icmp_eq (tgt := 50) X.1 X.2.1 dX8_setter_19 (by decide) (fun c4 => ?_) (fun c4 => ?_)
      · have hf := if_t hf c4
        obtain ⟨v5, e6, hf⟩ := b_bnd hf
        refine lv_iinc (v := v5) (k := 4) (lv' := [(4, .int v5), (0, .ref (eP E 69)), (1, .int u1), (2, .int w2), (3, .int w3)]) X.1 X.2.1 dX8_setter_50 hl rfl (by rw [e6]; exact congrArg _ (by decide)) (by decide) rfl (fun ls hl => ?_)
        refine lv_goto (tgt := 7) X.1 X.2.1 dX8_setter_53 (by decide) ?_
        obtain rfl := Option.some.inj hf
        exact ih _ _ _ (hr1 _ rfl) _ _ _ hw (lv_sub hl [1, 2, 3, 4, 0] rfl) K1
      · have hf := if_e hf c4
        refine lv_aload_n X.1 X.2.1 dX8_setter_22 rfl (lv_at hl 0 rfl) ?_
        refine lv_iload X.1 X.2.1 dX8_setter_23 (lv_at hl 4 rfl) ?_
        refine lv_bipush (v := 6) X.1 X.2.1 dX8_setter_25 (by decide) ?_
        refine lv_iload_n X.1 X.2.1 dX8_setter_27 rfl (lv_at hl 1 rfl) ?_
        refine lv_iadd X.1 X.2.1 dX8_setter_28 ?_
        obtain ⟨r8, h7, hf⟩ := b_bd1 hf
        refine r_callV X hw (k_X8_of hE  h7) (sp69 hE) (C := RX8) (T := TX8) (N := 31) rfl qw997 qw999 qw33 qw79 qw1000 okX8_of ⟨rfl, rfl⟩ ⟨(Nat.le_of_ble_eq_true rfl), (Nat.le_of_ble_eq_true rfl)⟩ ⟨Nat.zero_le _, Nat.zero_le _⟩ rfl hl.1 (rest := []) rfl (Nat.le_of_ble_eq_true rfl) dX8_setter_29 (st1 := [.int r8]) rfl (fun H locs hw => ?_)
        refine lv_iload_n X.1 X.2.1 dX8_setter_32 rfl (lv_at hl 3 rfl) ?_
        refine lv_icmp_le (tgt := 50) X.1 X.2.1 dX8_setter_33 (by decide) (fun c9 => ?_) (fun c9 => ?_)
        · have hf := if_t hf c9
          obtain ⟨v10, e11, hf⟩ := b_bnd hf
          refine lv_iinc (v := v10) (k := 4) (lv' := [(4, .int v10), (0, .ref (eP E 69)), (1, .int u1), (2, .int w2), (3, .int w3)]) X.1 X.2.1 dX8_setter_50 hl rfl (by rw [e11]; exact congrArg _ (by decide)) (by decide) rfl (fun ls hl => ?_)
          refine lv_goto (tgt := 7) X.1 X.2.1 dX8_setter_53 (by decide) ?_
          obtain rfl := Option.some.inj hf
          exact ih _ _ _ (hr1 _ rfl) _ _ _ hw (lv_sub hl [1, 2, 3, 4, 0] rfl) K1
        · have hf := if_e hf c9
          refine lv_iload X.1 X.2.1 dX8_setter_36 (lv_at hl 4 rfl) ?_
          refine lv_istore_n (lv' := [(2, .int w4), (0, .ref (eP E 69)), (1, .int u1), (3, .int w3), (4, .int w4)]) X.1 X.2.1 dX8_setter_38 rfl hl (by decide) rfl (fun ls hl => ?_)
          refine lv_aload_n X.1 X.2.1 dX8_setter_39 rfl (lv_at hl 1 rfl) ?_
          refine lv_iload X.1 X.2.1 dX8_setter_40 (lv_at hl 4 rfl) ?_
          refine lv_bipush (v := 6) X.1 X.2.1 dX8_setter_42 (by decide) ?_
          refine lv_iload_n X.1 X.2.1 dX8_setter_44 rfl (lv_at hl 2 rfl) ?_
          refine lv_iadd X.1 X.2.1 dX8_setter_45 ?_
          obtain ⟨r13, h12, hf⟩ := b_bd1 hf
          refine r_callV X hw (k_X8_of hE  h12) (sp69 hE) (C := RX8) (T := TX8) (N := 31) rfl qw997 qw999 qw33 qw79 qw1000 okX8_of ⟨rfl, rfl⟩ ⟨(Nat.le_of_ble_eq_true rfl), (Nat.le_of_ble_eq_true rfl)⟩ ⟨Nat.zero_le _, Nat.zero_le _⟩ rfl hl.1 (rest := []) rfl (Nat.le_of_ble_eq_true rfl) dX8_setter_46 (st1 := [.int r13]) rfl (fun H locs hw => ?_)
          refine lv_istore_n (lv' := [(3, .int r13), (2, .int w4), (0, .ref (eP E 69)), (1, .int u1), (4, .int w4)]) X.1 X.2.1 dX8_setter_49 rfl hl (by decide) rfl (fun ls hl => ?_)
          obtain ⟨v14, e15, hf⟩ := b_bnd hf
          refine lv_iinc (v := v14) (k := 4) (lv' := [(4, .int v14), (3, .int r13), (2, .int w4), (0, .ref (eP E 69)), (1, .int u1)]) X.1 X.2.1 dX8_setter_50 hl rfl (by rw [e15]; exact congrArg _ (by decide)) (by decide) rfl (fun ls hl => ?_)
          refine lv_goto (tgt := 7) X.1 X.2.1 dX8_setter_53 (by decide) ?_
          obtain rfl := Option.some.inj hf
          exact ih _ _ _ (hr1 _ rfl) _ _ _ hw (lv_sub hl [3, 4, 2, 1, 0] rfl) K1
set_option maxHeartbeats 4000000 in
set_option maxRecDepth 100000 in
theorem k_X8_setter {l : Launch} {E : en_T} (hE : ShF E) {x1 : Int32} {σ : sg_T} {r : Int32} (hf : f_X8_setter x1 σ = some r) : Ct l yX8_setter cX8_setter 5 (some .int) rm_X8_setter E [.ref (eP E 69), .int x1] σ (some (.int r)) σ := by
  refine Ct.start (by decide) hE.1 (Nat.le_of_ble_eq_true rfl) ?_
  intro p e s m below meth c X hw ls hl
  have X : Cx E p s m _ meth c cX8_setter 5 RX8 (some .int) := X
  have hR : ShR E := hE.r
  have hl : lv_has ls 5 [(0, .ref (eP E 69)), (1, .int x1)] := hl
  unfold f_X8_setter at hf
  refine lv_iconst (v := (-1)) X.1 X.2.1 dX8_setter_0 (by decide) ?_
  refine lv_istore_n (lv' := [(2, .int (-1)), (0, .ref (eP E 69)), (1, .int x1)]) X.1 X.2.1 dX8_setter_1 rfl hl (by decide) rfl (fun ls hl => ?_)
  refine lv_iconst (v := 0) X.1 X.2.1 dX8_setter_2 (by decide) ?_
  refine lv_istore_n (lv' := [(3, .int 0), (2, .int (-1)), (0, .ref (eP E 69)), (1, .int x1)]) X.1 X.2.1 dX8_setter_3 rfl hl (by decide) rfl (fun ls hl => ?_)
  refine lv_iconst (v := 0) X.1 X.2.1 dX8_setter_4 (by decide) ?_
  refine lv_istore (lv' := [(4, .int 0), (3, .int 0), (2, .int (-1)), (0, .ref (eP E 69)), (1, .int x1)]) X.1 X.2.1 dX8_setter_5 hl (by decide) rfl (fun ls hl => ?_)
  obtain ⟨v17, v18, v19, h16, hf⟩ := b_bd3 hf
  refine w_X8_setter_7 X hE  lfu _ _ _ h16 _ _ _ hw (lv_sub hl [3, 4, 2, 1, 0] rfl) (fun yv17 yv18 yv19 hq H locs ls hw hl => ?_)
  cases hq
  refine lv_iload_n X.1 X.2.1 dX8_setter_56 rfl (lv_at hl 2 rfl) ?_
  obtain rfl := Option.some.inj hf
  exact r_iret X hw dX8_setter_57
abbrev rm_X8_yes : Room := { frames := 0, cells := 0, slots := 0, locals := 0 }
set_option maxHeartbeats 4000000 in
set_option maxRecDepth 100000 in
theorem k_X8_yes {l : Launch} {E : en_T} (hE : ShF E) {x1 : Int32} {σ : sg_T} {r : Int32} (hf : f_X8_yes x1 σ = some r) : Ct l yX8_yes cX8_yes 1 (some .int) rm_X8_yes E [.int x1] σ (some (.int r)) σ := by
  refine Ct.start (by decide) hE.1 (Nat.le_of_ble_eq_true rfl) ?_
  intro p e s m below meth c X hw ls hl
  have X : Cx E p s m _ meth c cX8_yes 1 RX8 (some .int) := X
  have hR : ShR E := hE.r
  have hl : lv_has ls 1 [(0, .int x1)] := hl
  unfold f_X8_yes at hf
  refine lv_iload_n X.1 X.2.1 dX8_yes_0 rfl (lv_at hl 0 rfl) ?_
  obtain ⟨v2, e3, hf⟩ := b_bnd hf
  refine r_join (g2 := F0 m 9 ls [.int v2]) ?_ (fun hj => ?_)
  · obtain rfl := Option.some.inj hf
    exact r_iret X hw dX8_yes_9
  · refine lv_if_eq (tgt := 8) X.1 X.2.1 dX8_yes_1 (by decide) (fun c1 => ?_) (fun c1 => ?_)
    · rw [e3, if_pos c1] at hj
      refine lv_iconst (v := 0) X.1 X.2.1 dX8_yes_8 (by decide) ?_
      exact hj
    · rw [e3, if_neg c1] at hj
      refine lv_iconst (v := 1) X.1 X.2.1 dX8_yes_4 (by decide) ?_
      refine lv_goto (tgt := 9) X.1 X.2.1 dX8_yes_5 (by decide) ?_
      exact hj
abbrev rm_X8_deed : Room := { frames := 1, cells := 0, slots := 0, locals := 100 }
set_option maxHeartbeats 4000000 in
set_option maxRecDepth 100000 in
theorem k_X8_deed {l : Launch} {E : en_T} (hE : ShF E) {x1 : Int32} {x2 : Int32} {x3 : Int32} {σ : sg_T} {r : Int32} (hf : f_X8_deed x1 x2 x3 σ = some r) : Ct l yX8_deed cX8_deed 3 (some .int) rm_X8_deed E [.int x1, .int x2, .int x3] σ (some (.int r)) σ := by
  refine Ct.start (by decide) hE.1 (Nat.le_of_ble_eq_true rfl) ?_
  intro p e s m below meth c X hw ls hl
  have X : Cx E p s m _ meth c cX8_deed 3 RX8 (some .int) := X
  have hR : ShR E := hE.r
  have hl : lv_has ls 3 [(0, .int x1), (1, .int x2), (2, .int x3)] := hl
  unfold f_X8_deed at hf
  refine lv_iload_n X.1 X.2.1 dX8_deed_0 rfl (lv_at hl 0 rfl) ?_
  by_cases c1 : x1 = (-26)
  · have hf := if_t hf c1
    refine lv_tableIn (x := x1) (tgt := 110) (off := 109) X.1 X.2.1 dX8_deed_1 (by rw [c1]; decide) (by rw [c1]; decide) (by rw [c1]; decide) (by decide) ?_
    refine lv_iload_n X.1 X.2.1 dX8_deed_110 rfl (lv_at hl 1 rfl) ?_
    refine lv_iload_n X.1 X.2.1 dX8_deed_111 rfl (lv_at hl 2 rfl) ?_
    refine lv_isub X.1 X.2.1 dX8_deed_112 ?_
    obtain rfl := Option.some.inj hf
    exact r_iret X hw dX8_deed_113
  have hf := if_e hf c1
  by_cases c2 : x1 = (-25)
  · have hf := if_t hf c2
    refine lv_tableIn (x := x1) (tgt := 106) (off := 105) X.1 X.2.1 dX8_deed_1 (by rw [c2]; decide) (by rw [c2]; decide) (by rw [c2]; decide) (by decide) ?_
    refine lv_iload_n X.1 X.2.1 dX8_deed_106 rfl (lv_at hl 1 rfl) ?_
    refine lv_iload_n X.1 X.2.1 dX8_deed_107 rfl (lv_at hl 2 rfl) ?_
    refine lv_iadd X.1 X.2.1 dX8_deed_108 ?_
    obtain rfl := Option.some.inj hf
    exact r_iret X hw dX8_deed_109
  have hf := if_e hf c2
  by_cases c3 : x1 = (-24)
  · have hf := if_t hf c3
    refine lv_tableIn (x := x1) (tgt := 92) (off := 91) X.1 X.2.1 dX8_deed_1 (by rw [c3]; decide) (by rw [c3]; decide) (by rw [c3]; decide) (by decide) ?_
    refine lv_iload_n X.1 X.2.1 dX8_deed_92 rfl (lv_at hl 1 rfl) ?_
    refine lv_iload_n X.1 X.2.1 dX8_deed_93 rfl (lv_at hl 2 rfl) ?_
    obtain ⟨v5, e6, hf⟩ := b_bnd hf
    refine r_join (g2 := F0 m 102 ls [.int v5]) ?_ (fun hj => ?_)
    · obtain ⟨r8, h7, hf⟩ := b_bd1 hf
      refine r_callS X hw (k_X8_yes hE  h7) qw1017 qw1018 qw79 qw1019 okX8_yes ⟨rfl, rfl⟩ ⟨(Nat.le_of_ble_eq_true rfl), (Nat.le_of_ble_eq_true rfl)⟩ ⟨Nat.zero_le _, Nat.zero_le _⟩ rfl hl.1 (rest := []) rfl (Nat.le_of_ble_eq_true rfl) dX8_deed_102 (st1 := [.int r8]) rfl (fun H locs hw => ?_)
      obtain rfl := Option.some.inj hf
      exact r_iret X hw dX8_deed_105
    · refine lv_icmp_ne (tgt := 101) X.1 X.2.1 dX8_deed_94 (by decide) (fun c4 => ?_) (fun c4 => ?_)
      · rw [e6, if_neg c4] at hj
        refine lv_iconst (v := 0) X.1 X.2.1 dX8_deed_101 (by decide) ?_
        exact hj
      · rw [e6, if_pos c4] at hj
        refine lv_iconst (v := 1) X.1 X.2.1 dX8_deed_97 (by decide) ?_
        refine lv_goto (tgt := 102) X.1 X.2.1 dX8_deed_98 (by decide) ?_
        exact hj
  have hf := if_e hf c3
  by_cases c9 : x1 = (-23)
  · have hf := if_t hf c9
    refine lv_tableIn (x := x1) (tgt := 78) (off := 77) X.1 X.2.1 dX8_deed_1 (by rw [c9]; decide) (by rw [c9]; decide) (by rw [c9]; decide) (by decide) ?_
    refine lv_iload_n X.1 X.2.1 dX8_deed_78 rfl (lv_at hl 1 rfl) ?_
    refine lv_iload_n X.1 X.2.1 dX8_deed_79 rfl (lv_at hl 2 rfl) ?_
    obtain ⟨v11, e12, hf⟩ := b_bnd hf
    refine r_join (g2 := F0 m 88 ls [.int v11]) ?_ (fun hj => ?_)
    · obtain ⟨r14, h13, hf⟩ := b_bd1 hf
      refine r_callS X hw (k_X8_yes hE  h13) qw1017 qw1018 qw79 qw1019 okX8_yes ⟨rfl, rfl⟩ ⟨(Nat.le_of_ble_eq_true rfl), (Nat.le_of_ble_eq_true rfl)⟩ ⟨Nat.zero_le _, Nat.zero_le _⟩ rfl hl.1 (rest := []) rfl (Nat.le_of_ble_eq_true rfl) dX8_deed_88 (st1 := [.int r14]) rfl (fun H locs hw => ?_)
      obtain rfl := Option.some.inj hf
      exact r_iret X hw dX8_deed_91
    · refine lv_icmp_ge (tgt := 87) X.1 X.2.1 dX8_deed_80 (by decide) (fun c10 => ?_) (fun c10 => ?_)
      · rw [e12, if_pos c10] at hj
        refine lv_iconst (v := 0) X.1 X.2.1 dX8_deed_87 (by decide) ?_
        exact hj
      · rw [e12, if_neg c10] at hj
        refine lv_iconst (v := 1) X.1 X.2.1 dX8_deed_83 (by decide) ?_
        refine lv_goto (tgt := 88) X.1 X.2.1 dX8_deed_84 (by decide) ?_
        exact hj
  have hf := if_e hf c9
  by_cases c15 : x1 = (-22)
  · have hf := if_t hf c15
    refine lv_tableIn (x := x1) (tgt := 114) (off := 113) X.1 X.2.1 dX8_deed_1 (by rw [c15]; decide) (by rw [c15]; decide) (by rw [c15]; decide) (by decide) ?_
    refine lv_iload_n X.1 X.2.1 dX8_deed_114 rfl (lv_at hl 1 rfl) ?_
    refine lv_iload_n X.1 X.2.1 dX8_deed_115 rfl (lv_at hl 2 rfl) ?_
    refine lv_imul X.1 X.2.1 dX8_deed_116 ?_
    obtain rfl := Option.some.inj hf
    exact r_iret X hw dX8_deed_117
  have hf := if_e hf c15
  by_cases c16 : x1 = (-21)
  · have hf := if_t hf c16
    refine lv_tableIn (x := x1) (tgt := 61) (off := 60) X.1 X.2.1 dX8_deed_1 (by rw [c16]; decide) (by rw [c16]; decide) (by rw [c16]; decide) (by decide) ?_
    refine lv_iload_n X.1 X.2.1 dX8_deed_61 rfl (lv_at hl 1 rfl) ?_
    refine lv_if_eq (tgt := 73) X.1 X.2.1 dX8_deed_62 (by decide) (fun c17 => ?_) (fun c17 => ?_)
    · have hf := if_t hf c17
      refine lv_iconst (v := 0) X.1 X.2.1 dX8_deed_73 (by decide) ?_
      obtain ⟨r19, h18, hf⟩ := b_bd1 hf
      refine r_callS X hw (k_X8_yes hE  h18) qw1017 qw1018 qw79 qw1019 okX8_yes ⟨rfl, rfl⟩ ⟨(Nat.le_of_ble_eq_true rfl), (Nat.le_of_ble_eq_true rfl)⟩ ⟨Nat.zero_le _, Nat.zero_le _⟩ rfl hl.1 (rest := []) rfl (Nat.le_of_ble_eq_true rfl) dX8_deed_74 (st1 := [.int r19]) rfl (fun H locs hw => ?_)
      obtain rfl := Option.some.inj hf
      exact r_iret X hw dX8_deed_77
    · have hf := if_e hf c17
      refine lv_iload_n X.1 X.2.1 dX8_deed_65 rfl (lv_at hl 2 rfl) ?_
      obtain ⟨v21, e22, hf⟩ := b_bnd hf
      refine r_join (g2 := F0 m 74 ls [.int v21]) ?_ (fun hj => ?_)
      · obtain ⟨r24, h23, hf⟩ := b_bd1 hf
        refine r_callS X hw (k_X8_yes hE  h23) qw1017 qw1018 qw79 qw1019 okX8_yes ⟨rfl, rfl⟩ ⟨(Nat.le_of_ble_eq_true rfl), (Nat.le_of_ble_eq_true rfl)⟩ ⟨Nat.zero_le _, Nat.zero_le _⟩ rfl hl.1 (rest := []) rfl (Nat.le_of_ble_eq_true rfl) dX8_deed_74 (st1 := [.int r24]) rfl (fun H locs hw => ?_)
        obtain rfl := Option.some.inj hf
        exact r_iret X hw dX8_deed_77
      · refine lv_if_eq (tgt := 73) X.1 X.2.1 dX8_deed_66 (by decide) (fun c20 => ?_) (fun c20 => ?_)
        · rw [e22, if_pos c20] at hj
          refine lv_iconst (v := 0) X.1 X.2.1 dX8_deed_73 (by decide) ?_
          exact hj
        · rw [e22, if_neg c20] at hj
          refine lv_iconst (v := 1) X.1 X.2.1 dX8_deed_69 (by decide) ?_
          refine lv_goto (tgt := 74) X.1 X.2.1 dX8_deed_70 (by decide) ?_
          exact hj
  have hf := if_e hf c16
  by_cases c25 : x1 = (-20)
  · have hf := if_t hf c25
    refine lv_tableIn (x := x1) (tgt := 44) (off := 43) X.1 X.2.1 dX8_deed_1 (by rw [c25]; decide) (by rw [c25]; decide) (by rw [c25]; decide) (by decide) ?_
    refine lv_iload_n X.1 X.2.1 dX8_deed_44 rfl (lv_at hl 1 rfl) ?_
    refine lv_if_ne (tgt := 52) X.1 X.2.1 dX8_deed_45 (by decide) (fun c26 => ?_) (fun c26 => ?_)
    · have hf := if_e hf c26
      refine lv_iconst (v := 1) X.1 X.2.1 dX8_deed_52 (by decide) ?_
      refine lv_goto (tgt := 57) X.1 X.2.1 dX8_deed_53 (by decide) ?_
      obtain ⟨r28, h27, hf⟩ := b_bd1 hf
      refine r_callS X hw (k_X8_yes hE  h27) qw1017 qw1018 qw79 qw1019 okX8_yes ⟨rfl, rfl⟩ ⟨(Nat.le_of_ble_eq_true rfl), (Nat.le_of_ble_eq_true rfl)⟩ ⟨Nat.zero_le _, Nat.zero_le _⟩ rfl hl.1 (rest := []) rfl (Nat.le_of_ble_eq_true rfl) dX8_deed_57 (st1 := [.int r28]) rfl (fun H locs hw => ?_)
      obtain rfl := Option.some.inj hf
      exact r_iret X hw dX8_deed_60
    · have hf := if_t hf c26
      refine lv_iload_n X.1 X.2.1 dX8_deed_48 rfl (lv_at hl 2 rfl) ?_
      obtain ⟨v30, e31, hf⟩ := b_bnd hf
      refine r_join (g2 := F0 m 57 ls [.int v30]) ?_ (fun hj => ?_)
      · obtain ⟨r33, h32, hf⟩ := b_bd1 hf
        refine r_callS X hw (k_X8_yes hE  h32) qw1017 qw1018 qw79 qw1019 okX8_yes ⟨rfl, rfl⟩ ⟨(Nat.le_of_ble_eq_true rfl), (Nat.le_of_ble_eq_true rfl)⟩ ⟨Nat.zero_le _, Nat.zero_le _⟩ rfl hl.1 (rest := []) rfl (Nat.le_of_ble_eq_true rfl) dX8_deed_57 (st1 := [.int r33]) rfl (fun H locs hw => ?_)
        obtain rfl := Option.some.inj hf
        exact r_iret X hw dX8_deed_60
      · refine lv_if_eq (tgt := 56) X.1 X.2.1 dX8_deed_49 (by decide) (fun c29 => ?_) (fun c29 => ?_)
        · rw [e31, if_pos c29] at hj
          refine lv_iconst (v := 0) X.1 X.2.1 dX8_deed_56 (by decide) ?_
          exact hj
        · rw [e31, if_neg c29] at hj
          refine lv_iconst (v := 1) X.1 X.2.1 dX8_deed_52 (by decide) ?_
          refine lv_goto (tgt := 57) X.1 X.2.1 dX8_deed_53 (by decide) ?_
          exact hj
  have hf := if_e hf c25
  have c1t := lv_neT (a := -26) c1 (by decide)
  have c2t := lv_neT (a := -25) c2 (by decide)
  have c3t := lv_neT (a := -24) c3 (by decide)
  have c9t := lv_neT (a := -23) c9 (by decide)
  have c15t := lv_neT (a := -22) c15 (by decide)
  have c16t := lv_neT (a := -21) c16 (by decide)
  have c25t := lv_neT (a := -20) c25 (by decide)
  refine lv_tableOut (x := x1) (tgt := 114) X.1 X.2.1 dX8_deed_1 (by omega) (by decide) ?_
  refine lv_iload_n X.1 X.2.1 dX8_deed_114 rfl (lv_at hl 1 rfl) ?_
  refine lv_iload_n X.1 X.2.1 dX8_deed_115 rfl (lv_at hl 2 rfl) ?_
  refine lv_imul X.1 X.2.1 dX8_deed_116 ?_
  obtain rfl := Option.some.inj hf
  exact r_iret X hw dX8_deed_117
abbrev rm_X8_tell : Room := { frames := 2, cells := 0, slots := 0, locals := 122 }
set_option maxHeartbeats 4000000 in
set_option maxRecDepth 100000 in
theorem w_X8_tell_39 {p : Program} {l : Launch} {e : Env} {s : State} {m : MethodId} {args : Array Value} {below : List Frame} {meth : Method} {c : Code} {Q : State → Prop} {E : en_T} (X : Cx E p s m args meth c cX8_tell 10 RX8 (some .int)) (hE : ShF E) {u1 : Int32} {u2 : Int32} {u3 : Int32} {u4 : Int32} {u5 : Int32}  {res : Int32 × Int32 × sg_T} :
    ∀ (n : Nat) (w6 : Int32) (w7 : Int32) (σ : sg_T), itr (fun q => b_X8_tell_39 u1 u2 u3 u4 u5 q.1 q.2.1 q.2.2) n (w6, w7, σ) = some res → ∀ (H : Heap) (locs : List Loc) (ls : Array Slot), Hw E σ s H locs → lv_has ls 10 [(0, .ref (eP E 69)), (1, .int u1), (2, .int u2), (3, .int u3), (4, .int u4), (5, .int u5), (6, .int w6), (7, .int w7)] →
    (∀ (y6 : Int32) (y7 : Int32) (τ : sg_T), res = (y6, y7, τ) → ∀ (H : Heap) (locs : List Loc) (ls : Array Slot), Hw E τ s H locs → lv_has ls 10 [(0, .ref (eP E 69)), (1, .int u1), (2, .int u2), (3, .int u3), (4, .int u4), (5, .int u5), (6, .int y6), (7, .int y7)] → W p l e rm_X8_tell s m args below meth c H locs 0 0 Q (F0 m 318 ls [])) →
    W p l e rm_X8_tell s m args below meth c H locs 0 0 Q (F0 m 39 ls []) := by
  have hR : ShR E := hE.r
  intro n
  induction n with
  | zero =>
    intro w6 w7 σ hf0
    exact (itr_0 hf0).elim
  | succ n ih =>
    intro w6 w7 σ hf0 H locs ls hw hl K1
    obtain ⟨r0, hf, hr1, hr2⟩ := itr_s hf0
    have hf : b_X8_tell_39 u1 u2 u3 u4 u5 w6 w7 σ = some r0 := hf
    unfold b_X8_tell_39 at hf
    refine lv_iload X.1 X.2.1 dX8_tell_39 (lv_at hl 7 rfl) ?_
    refine lv_aload_n X.1 X.2.1 dX8_tell_41 rfl (lv_at hl 0 rfl) ?_
    refine r_get X hw (sp69 hE) (C := RX8) (T := TX8) (N := 31) rfl iwX8 12 (by decide) (Nat.le_of_ble_eq_true rfl) qw878 (v := .ref (eP E 76)) rfl dX8_tell_42 ?_
    refine lv_iconst (v := 3) X.1 X.2.1 dX8_tell_45 (by decide) ?_
    refine lv_iload X.1 X.2.1 dX8_tell_46 (lv_at hl 4 rfl) ?_
    refine lv_imul X.1 X.2.1 dX8_tell_48 ?_
    refine lv_iload_n X.1 X.2.1 dX8_tell_49 rfl (lv_at hl 1 rfl) ?_
    refine lv_iadd X.1 X.2.1 dX8_tell_50 ?_
    obtain ⟨h6, hf⟩ := b_ck hf
    refine r_iald X hw (sp76 hE) h6 dX8_tell_51 ?_
    refine lv_icmp_ge (tgt := 318) X.1 X.2.1 dX8_tell_52 (by decide) (fun c7 => ?_) (fun c7 => ?_)
    · have hf := if_t hf c7
      obtain rfl := Option.some.inj hf
      obtain rfl := hr2 _ rfl
      exact K1 _ _ _ rfl _ _ _ hw (lv_sub hl [0, 1, 2, 3, 4, 5, 6, 7] rfl)
    · have hf := if_e hf c7
      refine lv_aload_n X.1 X.2.1 dX8_tell_55 rfl (lv_at hl 0 rfl) ?_
      refine r_get X hw (sp69 hE) (C := RX8) (T := TX8) (N := 31) rfl iwX8 11 (by decide) (Nat.le_of_ble_eq_true rfl) qw877 (v := .ref (eP E 75)) rfl dX8_tell_56 ?_
      refine lv_sipush (v := 160) X.1 X.2.1 dX8_tell_59 (by decide) ?_
      refine lv_iload X.1 X.2.1 dX8_tell_62 (lv_at hl 4 rfl) ?_
      refine lv_imul X.1 X.2.1 dX8_tell_64 ?_
      refine lv_iload X.1 X.2.1 dX8_tell_65 (lv_at hl 7 rfl) ?_
      refine lv_iadd X.1 X.2.1 dX8_tell_67 ?_
      obtain ⟨h8, hf⟩ := b_ck hf
      refine r_iald X hw (sp75 hE) h8 dX8_tell_68 ?_
      refine r_bnd hf (fun v9 hf => ?_)
      refine lv_istore (lv' := [(8, .int v9), (0, .ref (eP E 69)), (1, .int u1), (2, .int u2), (3, .int u3), (4, .int u4), (5, .int u5), (6, .int w6), (7, .int w7)]) X.1 X.2.1 dX8_tell_69 hl (by decide) rfl (fun ls hl => ?_)
      refine lv_iload X.1 X.2.1 dX8_tell_71 (lv_at hl 0 rfl) ?_
      refine lv_if_lt (tgt := 91) X.1 X.2.1 dX8_tell_73 (by decide) (fun c10 => ?_) (fun c10 => ?_)
      · have hf := if_t hf c10
        refine lv_iload X.1 X.2.1 dX8_tell_91 (lv_at hl 0 rfl) ?_
        refine lv_bipush (v := (-20)) X.1 X.2.1 dX8_tell_93 (by decide) ?_
        refine lv_icmp_le (tgt := 211) X.1 X.2.1 dX8_tell_95 (by decide) (fun c11 => ?_) (fun c11 => ?_)
        · have hf := if_t hf c11
          refine lv_iload X.1 X.2.1 dX8_tell_211 (lv_at hl 0 rfl) ?_
          refine lv_bipush (v := (-22)) X.1 X.2.1 dX8_tell_213 (by decide) ?_
          refine lv_icmp_ne (tgt := 250) X.1 X.2.1 dX8_tell_215 (by decide) (fun c12 => ?_) (fun c12 => ?_)
          · have hf := if_e hf c12
            refine lv_iload X.1 X.2.1 dX8_tell_250 (lv_at hl 0 rfl) ?_
            refine lv_bipush (v := (-28)) X.1 X.2.1 dX8_tell_252 (by decide) ?_
            refine lv_icmp_ne (tgt := 279) X.1 X.2.1 dX8_tell_254 (by decide) (fun c13 => ?_) (fun c13 => ?_)
            · have hf := if_e hf c13
              obtain ⟨v14, e15, hf⟩ := b_bnd hf
              refine lv_iinc (v := v14) (k := 7) (lv' := [(6, .int v14), (8, .int v9), (0, .ref (eP E 69)), (1, .int u1), (2, .int u2), (3, .int u3), (4, .int u4), (5, .int u5), (7, .int w7)]) X.1 X.2.1 dX8_tell_279 hl rfl (by rw [e15]; exact congrArg _ (by decide)) (by decide) rfl (fun ls hl => ?_)
              refine lv_aload_n X.1 X.2.1 dX8_tell_282 rfl (lv_at hl 2 rfl) ?_
              refine r_get X hw (sp69 hE) (C := RX8) (T := TX8) (N := 31) rfl iwX8 18 (by decide) (Nat.le_of_ble_eq_true rfl) qw884 (v := .ref (eP E 79)) rfl dX8_tell_283 ?_
              refine lv_iload X.1 X.2.1 dX8_tell_286 (lv_at hl 0 rfl) ?_
              refine lv_iconst (v := 1) X.1 X.2.1 dX8_tell_288 (by decide) ?_
              refine lv_isub X.1 X.2.1 dX8_tell_289 ?_
              refine lv_iload X.1 X.2.1 dX8_tell_290 (lv_at hl 1 rfl) ?_
              refine lv_aload_n X.1 X.2.1 dX8_tell_292 rfl (lv_at hl 2 rfl) ?_
              refine r_get X hw (sp69 hE) (C := RX8) (T := TX8) (N := 31) rfl iwX8 18 (by decide) (Nat.le_of_ble_eq_true rfl) qw884 (v := .ref (eP E 79)) rfl dX8_tell_293 ?_
              refine lv_iload X.1 X.2.1 dX8_tell_296 (lv_at hl 0 rfl) ?_
              refine lv_iconst (v := 1) X.1 X.2.1 dX8_tell_298 (by decide) ?_
              refine lv_isub X.1 X.2.1 dX8_tell_299 ?_
              obtain ⟨h16, hf⟩ := b_ck hf
              refine r_iald X hw (sp79 hE) h16 dX8_tell_300 ?_
              refine lv_aload_n X.1 X.2.1 dX8_tell_301 rfl (lv_at hl 2 rfl) ?_
              refine r_get X hw (sp69 hE) (C := RX8) (T := TX8) (N := 31) rfl iwX8 18 (by decide) (Nat.le_of_ble_eq_true rfl) qw884 (v := .ref (eP E 79)) rfl dX8_tell_302 ?_
              refine lv_iload X.1 X.2.1 dX8_tell_305 (lv_at hl 0 rfl) ?_
              obtain ⟨h17, hf⟩ := b_ck hf
              refine r_iald X hw (sp79 hE) h17 dX8_tell_307 ?_
              obtain ⟨r19, h18, hf⟩ := b_bd1 hf
              refine r_callS X hw (k_X8_deed hE  h18) qw1020 qw1021 qw79 qw1022 okX8_deed ⟨rfl, rfl⟩ ⟨(Nat.le_of_ble_eq_true rfl), (Nat.le_of_ble_eq_true rfl)⟩ ⟨Nat.zero_le _, Nat.zero_le _⟩ rfl hl.1 (rest := [.int (v14 - 1), .ref (eP E 79)]) rfl (Nat.le_of_ble_eq_true rfl) dX8_tell_308 (st1 := [.int r19, .int (v14 - 1), .ref (eP E 79)]) rfl (fun H locs hw => ?_)
              obtain ⟨h20, hf⟩ := b_ck hf
              refine r_iast X hw (sp79 hE) h20 dX8_tell_311 (fun H locs hw => ?_)
              obtain ⟨σ21, e22, hf⟩ := b_bnd hf
              rw [← e22] at hw
              obtain ⟨v23, e24, hf⟩ := b_bnd hf
              refine lv_iinc (v := v23) (k := 8) (lv' := [(7, .int v23), (6, .int v14), (8, .int v9), (0, .ref (eP E 69)), (1, .int u1), (2, .int u2), (3, .int u3), (4, .int u4), (5, .int u5)]) X.1 X.2.1 dX8_tell_312 hl rfl (by rw [e24]; exact congrArg _ (by decide)) (by decide) rfl (fun ls hl => ?_)
              refine lv_goto (tgt := 39) X.1 X.2.1 dX8_tell_315 (by decide) ?_
              obtain rfl := Option.some.inj hf
              exact ih _ _ _ (hr1 _ rfl) _ _ _ hw (lv_sub hl [3, 4, 5, 6, 7, 8, 1, 0] rfl) K1
            · have hf := if_t hf c13
              refine lv_aload_n X.1 X.2.1 dX8_tell_257 rfl (lv_at hl 1 rfl) ?_
              refine r_get X hw (sp69 hE) (C := RX8) (T := TX8) (N := 31) rfl iwX8 18 (by decide) (Nat.le_of_ble_eq_true rfl) qw884 (v := .ref (eP E 79)) rfl dX8_tell_258 ?_
              refine lv_iload X.1 X.2.1 dX8_tell_261 (lv_at hl 7 rfl) ?_
              refine lv_iconst (v := 1) X.1 X.2.1 dX8_tell_263 (by decide) ?_
              refine lv_isub X.1 X.2.1 dX8_tell_264 ?_
              refine lv_aload_n X.1 X.2.1 dX8_tell_265 rfl (lv_at hl 1 rfl) ?_
              refine r_get X hw (sp69 hE) (C := RX8) (T := TX8) (N := 31) rfl iwX8 18 (by decide) (Nat.le_of_ble_eq_true rfl) qw884 (v := .ref (eP E 79)) rfl dX8_tell_266 ?_
              refine lv_iload X.1 X.2.1 dX8_tell_269 (lv_at hl 7 rfl) ?_
              refine lv_iconst (v := 1) X.1 X.2.1 dX8_tell_271 (by decide) ?_
              refine lv_isub X.1 X.2.1 dX8_tell_272 ?_
              obtain ⟨h25, hf⟩ := b_ck hf
              refine r_iald X hw (sp79 hE) h25 dX8_tell_273 ?_
              refine lv_ineg X.1 X.2.1 dX8_tell_274 ?_
              obtain ⟨h26, hf⟩ := b_ck hf
              refine r_iast X hw (sp79 hE) h26 dX8_tell_275 (fun H locs hw => ?_)
              obtain ⟨σ27, e28, hf⟩ := b_bnd hf
              rw [← e28] at hw
              refine lv_goto (tgt := 312) X.1 X.2.1 dX8_tell_276 (by decide) ?_
              obtain ⟨v29, e30, hf⟩ := b_bnd hf
              refine lv_iinc (v := v29) (k := 8) (lv' := [(7, .int v29), (8, .int v9), (0, .ref (eP E 69)), (1, .int u1), (2, .int u2), (3, .int u3), (4, .int u4), (5, .int u5), (6, .int w6)]) X.1 X.2.1 dX8_tell_312 hl rfl (by rw [e30]; exact congrArg _ (by decide)) (by decide) rfl (fun ls hl => ?_)
              refine lv_goto (tgt := 39) X.1 X.2.1 dX8_tell_315 (by decide) ?_
              obtain rfl := Option.some.inj hf
              exact ih _ _ _ (hr1 _ rfl) _ _ _ hw (lv_sub hl [2, 3, 4, 5, 6, 7, 8, 0] rfl) K1
          · have hf := if_t hf c12
            refine lv_aload_n X.1 X.2.1 dX8_tell_218 rfl (lv_at hl 1 rfl) ?_
            refine r_get X hw (sp69 hE) (C := RX8) (T := TX8) (N := 31) rfl iwX8 18 (by decide) (Nat.le_of_ble_eq_true rfl) qw884 (v := .ref (eP E 79)) rfl dX8_tell_219 ?_
            refine lv_iload X.1 X.2.1 dX8_tell_222 (lv_at hl 7 rfl) ?_
            refine lv_iconst (v := 1) X.1 X.2.1 dX8_tell_224 (by decide) ?_
            refine lv_isub X.1 X.2.1 dX8_tell_225 ?_
            refine lv_aload_n X.1 X.2.1 dX8_tell_226 rfl (lv_at hl 1 rfl) ?_
            refine r_get X hw (sp69 hE) (C := RX8) (T := TX8) (N := 31) rfl iwX8 18 (by decide) (Nat.le_of_ble_eq_true rfl) qw884 (v := .ref (eP E 79)) rfl dX8_tell_227 ?_
            refine lv_iload X.1 X.2.1 dX8_tell_230 (lv_at hl 7 rfl) ?_
            refine lv_iconst (v := 1) X.1 X.2.1 dX8_tell_232 (by decide) ?_
            refine lv_isub X.1 X.2.1 dX8_tell_233 ?_
            obtain ⟨h31, hf⟩ := b_ck hf
            refine r_iald X hw (sp79 hE) h31 dX8_tell_234 ?_
            obtain ⟨v33, e34, hf⟩ := b_bnd hf
            refine r_join (g2 := F0 m 243 ls [.int v33, .int (w6 - 1), .ref (eP E 79)]) ?_ (fun hj => ?_)
            · obtain ⟨r36, h35, hf⟩ := b_bd1 hf
              refine r_callS X hw (k_X8_yes hE  h35) qw1017 qw1018 qw79 qw1019 okX8_yes ⟨rfl, rfl⟩ ⟨(Nat.le_of_ble_eq_true rfl), (Nat.le_of_ble_eq_true rfl)⟩ ⟨Nat.zero_le _, Nat.zero_le _⟩ rfl hl.1 (rest := [.int (w6 - 1), .ref (eP E 79)]) rfl (Nat.le_of_ble_eq_true rfl) dX8_tell_243 (st1 := [.int r36, .int (w6 - 1), .ref (eP E 79)]) rfl (fun H locs hw => ?_)
              obtain ⟨h37, hf⟩ := b_ck hf
              refine r_iast X hw (sp79 hE) h37 dX8_tell_246 (fun H locs hw => ?_)
              obtain ⟨σ38, e39, hf⟩ := b_bnd hf
              rw [← e39] at hw
              refine lv_goto (tgt := 312) X.1 X.2.1 dX8_tell_247 (by decide) ?_
              obtain ⟨v40, e41, hf⟩ := b_bnd hf
              refine lv_iinc (v := v40) (k := 8) (lv' := [(7, .int v40), (8, .int v9), (0, .ref (eP E 69)), (1, .int u1), (2, .int u2), (3, .int u3), (4, .int u4), (5, .int u5), (6, .int w6)]) X.1 X.2.1 dX8_tell_312 hl rfl (by rw [e41]; exact congrArg _ (by decide)) (by decide) rfl (fun ls hl => ?_)
              refine lv_goto (tgt := 39) X.1 X.2.1 dX8_tell_315 (by decide) ?_
              obtain rfl := Option.some.inj hf
              exact ih _ _ _ (hr1 _ rfl) _ _ _ hw (lv_sub hl [2, 3, 4, 5, 6, 7, 8, 0] rfl) K1
            · refine lv_if_ne (tgt := 242) X.1 X.2.1 dX8_tell_235 (by decide) (fun c32 => ?_) (fun c32 => ?_)
              · rw [e34, if_neg c32] at hj
                refine lv_iconst (v := 0) X.1 X.2.1 dX8_tell_242 (by decide) ?_
                exact hj
              · rw [e34, if_pos c32] at hj
                refine lv_iconst (v := 1) X.1 X.2.1 dX8_tell_238 (by decide) ?_
                refine lv_goto (tgt := 243) X.1 X.2.1 dX8_tell_239 (by decide) ?_
                exact hj
        · have hf := if_e hf c11
          refine lv_bipush (v := (-10)) X.1 X.2.1 dX8_tell_98 (by decide) ?_
          refine lv_iload X.1 X.2.1 dX8_tell_100 (lv_at hl 0 rfl) ?_
          refine lv_isub X.1 X.2.1 dX8_tell_102 ?_
          refine r_bnd hf (fun v42 hf => ?_)
          refine lv_istore (lv' := [(9, .int v42), (8, .int v9), (0, .ref (eP E 69)), (1, .int u1), (2, .int u2), (3, .int u3), (4, .int u4), (5, .int u5), (6, .int w6), (7, .int w7)]) X.1 X.2.1 dX8_tell_103 hl (by decide) rfl (fun ls hl => ?_)
          refine lv_aload_n X.1 X.2.1 dX8_tell_105 rfl (lv_at hl 2 rfl) ?_
          refine r_get X hw (sp69 hE) (C := RX8) (T := TX8) (N := 31) rfl iwX8 18 (by decide) (Nat.le_of_ble_eq_true rfl) qw884 (v := .ref (eP E 79)) rfl dX8_tell_106 ?_
          refine lv_iload X.1 X.2.1 dX8_tell_109 (lv_at hl 8 rfl) ?_
          refine lv_iload X.1 X.2.1 dX8_tell_111 (lv_at hl 0 rfl) ?_
          refine lv_if_ne (tgt := 137) X.1 X.2.1 dX8_tell_113 (by decide) (fun c43 => ?_) (fun c43 => ?_)
          · have hf := if_e hf c43
            refine lv_iload X.1 X.2.1 dX8_tell_137 (lv_at hl 0 rfl) ?_
            refine lv_iconst (v := 1) X.1 X.2.1 dX8_tell_139 (by decide) ?_
            refine lv_icmp_ne (tgt := 152) X.1 X.2.1 dX8_tell_140 (by decide) (fun c44 => ?_) (fun c44 => ?_)
            · have hf := if_e hf c44
              refine lv_iload X.1 X.2.1 dX8_tell_152 (lv_at hl 0 rfl) ?_
              refine lv_iconst (v := 2) X.1 X.2.1 dX8_tell_154 (by decide) ?_
              refine lv_icmp_ne (tgt := 167) X.1 X.2.1 dX8_tell_155 (by decide) (fun c45 => ?_) (fun c45 => ?_)
              · have hf := if_e hf c45
                refine lv_iload X.1 X.2.1 dX8_tell_167 (lv_at hl 0 rfl) ?_
                refine lv_iconst (v := 3) X.1 X.2.1 dX8_tell_169 (by decide) ?_
                refine lv_icmp_ne (tgt := 183) X.1 X.2.1 dX8_tell_170 (by decide) (fun c46 => ?_) (fun c46 => ?_)
                · have hf := if_e hf c46
                  refine lv_iload X.1 X.2.1 dX8_tell_183 (lv_at hl 0 rfl) ?_
                  refine lv_iconst (v := 4) X.1 X.2.1 dX8_tell_185 (by decide) ?_
                  refine lv_icmp_ne (tgt := 198) X.1 X.2.1 dX8_tell_186 (by decide) (fun c47 => ?_) (fun c47 => ?_)
                  · have hf := if_e hf c47
                    refine lv_aload_n X.1 X.2.1 dX8_tell_198 rfl (lv_at hl 2 rfl) ?_
                    refine lv_iload_n X.1 X.2.1 dX8_tell_199 rfl (lv_at hl 5 rfl) ?_
                    refine lv_iconst (v := 4) X.1 X.2.1 dX8_tell_200 (by decide) ?_
                    obtain ⟨r49, h48, hf⟩ := b_bd1 hf
                    refine r_callV X hw (k_X8_of hE  h48) (sp69 hE) (C := RX8) (T := TX8) (N := 31) rfl qw997 qw999 qw33 qw79 qw1000 okX8_of ⟨rfl, rfl⟩ ⟨(Nat.le_of_ble_eq_true rfl), (Nat.le_of_ble_eq_true rfl)⟩ ⟨Nat.zero_le _, Nat.zero_le _⟩ rfl hl.1 (rest := [.int w6, .ref (eP E 79)]) rfl (Nat.le_of_ble_eq_true rfl) dX8_tell_201 (st1 := [.int r49, .int w6, .ref (eP E 79)]) rfl (fun H locs hw => ?_)
                    obtain ⟨h50, hf⟩ := b_ck hf
                    refine r_iast X hw (sp79 hE) h50 dX8_tell_204 (fun H locs hw => ?_)
                    obtain ⟨σ51, e52, hf⟩ := b_bnd hf
                    rw [← e52] at hw
                    obtain ⟨v53, e54, hf⟩ := b_bnd hf
                    refine lv_iinc (v := v53) (k := 8) (lv' := [(6, .int v53), (9, .int v42), (8, .int v9), (0, .ref (eP E 69)), (1, .int u1), (2, .int u2), (3, .int u3), (4, .int u4), (5, .int u5), (7, .int w7)]) X.1 X.2.1 dX8_tell_205 hl rfl (by rw [e54]; exact congrArg _ (by decide)) (by decide) rfl (fun ls hl => ?_)
                    refine lv_goto (tgt := 312) X.1 X.2.1 dX8_tell_208 (by decide) ?_
                    obtain ⟨v55, e56, hf⟩ := b_bnd hf
                    refine lv_iinc (v := v55) (k := 9) (lv' := [(7, .int v55), (6, .int v53), (9, .int v42), (8, .int v9), (0, .ref (eP E 69)), (1, .int u1), (2, .int u2), (3, .int u3), (4, .int u4), (5, .int u5)]) X.1 X.2.1 dX8_tell_312 hl rfl (by rw [e56]; exact congrArg _ (by decide)) (by decide) rfl (fun ls hl => ?_)
                    refine lv_goto (tgt := 39) X.1 X.2.1 dX8_tell_315 (by decide) ?_
                    obtain rfl := Option.some.inj hf
                    exact ih _ _ _ (hr1 _ rfl) _ _ _ hw (lv_sub hl [4, 5, 6, 7, 8, 9, 1, 0] rfl) K1
                  · have hf := if_t hf c47
                    refine lv_aload_n X.1 X.2.1 dX8_tell_189 rfl (lv_at hl 2 rfl) ?_
                    refine lv_iload_n X.1 X.2.1 dX8_tell_190 rfl (lv_at hl 4 rfl) ?_
                    refine lv_iconst (v := 3) X.1 X.2.1 dX8_tell_191 (by decide) ?_
                    obtain ⟨r58, h57, hf⟩ := b_bd1 hf
                    refine r_callV X hw (k_X8_of hE  h57) (sp69 hE) (C := RX8) (T := TX8) (N := 31) rfl qw997 qw999 qw33 qw79 qw1000 okX8_of ⟨rfl, rfl⟩ ⟨(Nat.le_of_ble_eq_true rfl), (Nat.le_of_ble_eq_true rfl)⟩ ⟨Nat.zero_le _, Nat.zero_le _⟩ rfl hl.1 (rest := [.int w6, .ref (eP E 79)]) rfl (Nat.le_of_ble_eq_true rfl) dX8_tell_192 (st1 := [.int r58, .int w6, .ref (eP E 79)]) rfl (fun H locs hw => ?_)
                    refine lv_goto (tgt := 204) X.1 X.2.1 dX8_tell_195 (by decide) ?_
                    obtain ⟨h59, hf⟩ := b_ck hf
                    refine r_iast X hw (sp79 hE) h59 dX8_tell_204 (fun H locs hw => ?_)
                    obtain ⟨σ60, e61, hf⟩ := b_bnd hf
                    rw [← e61] at hw
                    obtain ⟨v62, e63, hf⟩ := b_bnd hf
                    refine lv_iinc (v := v62) (k := 8) (lv' := [(6, .int v62), (9, .int v42), (8, .int v9), (0, .ref (eP E 69)), (1, .int u1), (2, .int u2), (3, .int u3), (4, .int u4), (5, .int u5), (7, .int w7)]) X.1 X.2.1 dX8_tell_205 hl rfl (by rw [e63]; exact congrArg _ (by decide)) (by decide) rfl (fun ls hl => ?_)
                    refine lv_goto (tgt := 312) X.1 X.2.1 dX8_tell_208 (by decide) ?_
                    obtain ⟨v64, e65, hf⟩ := b_bnd hf
                    refine lv_iinc (v := v64) (k := 9) (lv' := [(7, .int v64), (6, .int v62), (9, .int v42), (8, .int v9), (0, .ref (eP E 69)), (1, .int u1), (2, .int u2), (3, .int u3), (4, .int u4), (5, .int u5)]) X.1 X.2.1 dX8_tell_312 hl rfl (by rw [e65]; exact congrArg _ (by decide)) (by decide) rfl (fun ls hl => ?_)
                    refine lv_goto (tgt := 39) X.1 X.2.1 dX8_tell_315 (by decide) ?_
                    obtain rfl := Option.some.inj hf
                    exact ih _ _ _ (hr1 _ rfl) _ _ _ hw (lv_sub hl [4, 5, 6, 7, 8, 9, 1, 0] rfl) K1
                · have hf := if_t hf c46
                  refine lv_aload_n X.1 X.2.1 dX8_tell_173 rfl (lv_at hl 2 rfl) ?_
                  refine r_get X hw (sp69 hE) (C := RX8) (T := TX8) (N := 31) rfl iwX8 0 (by decide) (Nat.le_of_ble_eq_true rfl) qw866 (v := .ref (eP E 70)) rfl dX8_tell_174 ?_
                  refine lv_bipush (v := 56) X.1 X.2.1 dX8_tell_177 (by decide) ?_
                  obtain ⟨h66, hf⟩ := b_ck hf
                  refine r_iald X hw (sp70 hE) h66 dX8_tell_179 ?_
                  refine lv_goto (tgt := 204) X.1 X.2.1 dX8_tell_180 (by decide) ?_
                  obtain ⟨h67, hf⟩ := b_ck hf
                  refine r_iast X hw (sp79 hE) h67 dX8_tell_204 (fun H locs hw => ?_)
                  obtain ⟨σ68, e69, hf⟩ := b_bnd hf
                  rw [← e69] at hw
                  obtain ⟨v70, e71, hf⟩ := b_bnd hf
                  refine lv_iinc (v := v70) (k := 8) (lv' := [(6, .int v70), (9, .int v42), (8, .int v9), (0, .ref (eP E 69)), (1, .int u1), (2, .int u2), (3, .int u3), (4, .int u4), (5, .int u5), (7, .int w7)]) X.1 X.2.1 dX8_tell_205 hl rfl (by rw [e71]; exact congrArg _ (by decide)) (by decide) rfl (fun ls hl => ?_)
                  refine lv_goto (tgt := 312) X.1 X.2.1 dX8_tell_208 (by decide) ?_
                  obtain ⟨v72, e73, hf⟩ := b_bnd hf
                  refine lv_iinc (v := v72) (k := 9) (lv' := [(7, .int v72), (6, .int v70), (9, .int v42), (8, .int v9), (0, .ref (eP E 69)), (1, .int u1), (2, .int u2), (3, .int u3), (4, .int u4), (5, .int u5)]) X.1 X.2.1 dX8_tell_312 hl rfl (by rw [e73]; exact congrArg _ (by decide)) (by decide) rfl (fun ls hl => ?_)
                  refine lv_goto (tgt := 39) X.1 X.2.1 dX8_tell_315 (by decide) ?_
                  obtain rfl := Option.some.inj hf
                  exact ih _ _ _ (hr1 _ rfl) _ _ _ hw (lv_sub hl [4, 5, 6, 7, 8, 9, 1, 0] rfl) K1
              · have hf := if_t hf c45
                refine lv_aload_n X.1 X.2.1 dX8_tell_158 rfl (lv_at hl 2 rfl) ?_
                refine lv_iload_n X.1 X.2.1 dX8_tell_159 rfl (lv_at hl 4 rfl) ?_
                refine lv_iconst (v := 1) X.1 X.2.1 dX8_tell_160 (by decide) ?_
                obtain ⟨r75, h74, hf⟩ := b_bd1 hf
                refine r_callV X hw (k_X8_of hE  h74) (sp69 hE) (C := RX8) (T := TX8) (N := 31) rfl qw997 qw999 qw33 qw79 qw1000 okX8_of ⟨rfl, rfl⟩ ⟨(Nat.le_of_ble_eq_true rfl), (Nat.le_of_ble_eq_true rfl)⟩ ⟨Nat.zero_le _, Nat.zero_le _⟩ rfl hl.1 (rest := [.int w6, .ref (eP E 79)]) rfl (Nat.le_of_ble_eq_true rfl) dX8_tell_161 (st1 := [.int r75, .int w6, .ref (eP E 79)]) rfl (fun H locs hw => ?_)
                refine lv_goto (tgt := 204) X.1 X.2.1 dX8_tell_164 (by decide) ?_
                obtain ⟨h76, hf⟩ := b_ck hf
                refine r_iast X hw (sp79 hE) h76 dX8_tell_204 (fun H locs hw => ?_)
                obtain ⟨σ77, e78, hf⟩ := b_bnd hf
                rw [← e78] at hw
                obtain ⟨v79, e80, hf⟩ := b_bnd hf
                refine lv_iinc (v := v79) (k := 8) (lv' := [(6, .int v79), (9, .int v42), (8, .int v9), (0, .ref (eP E 69)), (1, .int u1), (2, .int u2), (3, .int u3), (4, .int u4), (5, .int u5), (7, .int w7)]) X.1 X.2.1 dX8_tell_205 hl rfl (by rw [e80]; exact congrArg _ (by decide)) (by decide) rfl (fun ls hl => ?_)
                refine lv_goto (tgt := 312) X.1 X.2.1 dX8_tell_208 (by decide) ?_
                obtain ⟨v81, e82, hf⟩ := b_bnd hf
                refine lv_iinc (v := v81) (k := 9) (lv' := [(7, .int v81), (6, .int v79), (9, .int v42), (8, .int v9), (0, .ref (eP E 69)), (1, .int u1), (2, .int u2), (3, .int u3), (4, .int u4), (5, .int u5)]) X.1 X.2.1 dX8_tell_312 hl rfl (by rw [e82]; exact congrArg _ (by decide)) (by decide) rfl (fun ls hl => ?_)
                refine lv_goto (tgt := 39) X.1 X.2.1 dX8_tell_315 (by decide) ?_
                obtain rfl := Option.some.inj hf
                exact ih _ _ _ (hr1 _ rfl) _ _ _ hw (lv_sub hl [4, 5, 6, 7, 8, 9, 1, 0] rfl) K1
            · have hf := if_t hf c44
              refine lv_aload_n X.1 X.2.1 dX8_tell_143 rfl (lv_at hl 2 rfl) ?_
              refine lv_iload_n X.1 X.2.1 dX8_tell_144 rfl (lv_at hl 5 rfl) ?_
              refine lv_iconst (v := 2) X.1 X.2.1 dX8_tell_145 (by decide) ?_
              obtain ⟨r84, h83, hf⟩ := b_bd1 hf
              refine r_callV X hw (k_X8_of hE  h83) (sp69 hE) (C := RX8) (T := TX8) (N := 31) rfl qw997 qw999 qw33 qw79 qw1000 okX8_of ⟨rfl, rfl⟩ ⟨(Nat.le_of_ble_eq_true rfl), (Nat.le_of_ble_eq_true rfl)⟩ ⟨Nat.zero_le _, Nat.zero_le _⟩ rfl hl.1 (rest := [.int w6, .ref (eP E 79)]) rfl (Nat.le_of_ble_eq_true rfl) dX8_tell_146 (st1 := [.int r84, .int w6, .ref (eP E 79)]) rfl (fun H locs hw => ?_)
              refine lv_goto (tgt := 204) X.1 X.2.1 dX8_tell_149 (by decide) ?_
              obtain ⟨h85, hf⟩ := b_ck hf
              refine r_iast X hw (sp79 hE) h85 dX8_tell_204 (fun H locs hw => ?_)
              obtain ⟨σ86, e87, hf⟩ := b_bnd hf
              rw [← e87] at hw
              obtain ⟨v88, e89, hf⟩ := b_bnd hf
              refine lv_iinc (v := v88) (k := 8) (lv' := [(6, .int v88), (9, .int v42), (8, .int v9), (0, .ref (eP E 69)), (1, .int u1), (2, .int u2), (3, .int u3), (4, .int u4), (5, .int u5), (7, .int w7)]) X.1 X.2.1 dX8_tell_205 hl rfl (by rw [e89]; exact congrArg _ (by decide)) (by decide) rfl (fun ls hl => ?_)
              refine lv_goto (tgt := 312) X.1 X.2.1 dX8_tell_208 (by decide) ?_
              obtain ⟨v90, e91, hf⟩ := b_bnd hf
              refine lv_iinc (v := v90) (k := 9) (lv' := [(7, .int v90), (6, .int v88), (9, .int v42), (8, .int v9), (0, .ref (eP E 69)), (1, .int u1), (2, .int u2), (3, .int u3), (4, .int u4), (5, .int u5)]) X.1 X.2.1 dX8_tell_312 hl rfl (by rw [e91]; exact congrArg _ (by decide)) (by decide) rfl (fun ls hl => ?_)
              refine lv_goto (tgt := 39) X.1 X.2.1 dX8_tell_315 (by decide) ?_
              obtain rfl := Option.some.inj hf
              exact ih _ _ _ (hr1 _ rfl) _ _ _ hw (lv_sub hl [4, 5, 6, 7, 8, 9, 1, 0] rfl) K1
          · have hf := if_t hf c43
            refine lv_iload_n X.1 X.2.1 dX8_tell_116 rfl (lv_at hl 4 rfl) ?_
            refine lv_iload_n X.1 X.2.1 dX8_tell_117 rfl (lv_at hl 5 rfl) ?_
            refine lv_icmp_ne (tgt := 125) X.1 X.2.1 dX8_tell_118 (by decide) (fun c92 => ?_) (fun c92 => ?_)
            · have hf := if_e hf c92
              refine lv_aload_n X.1 X.2.1 dX8_tell_125 rfl (lv_at hl 2 rfl) ?_
              refine lv_iload_n X.1 X.2.1 dX8_tell_126 rfl (lv_at hl 4 rfl) ?_
              refine lv_bipush (v := 6) X.1 X.2.1 dX8_tell_127 (by decide) ?_
              refine lv_iload_n X.1 X.2.1 dX8_tell_129 rfl (lv_at hl 5 rfl) ?_
              refine lv_iadd X.1 X.2.1 dX8_tell_130 ?_
              obtain ⟨r94, h93, hf⟩ := b_bd1 hf
              refine r_callV X hw (k_X8_of hE  h93) (sp69 hE) (C := RX8) (T := TX8) (N := 31) rfl qw997 qw999 qw33 qw79 qw1000 okX8_of ⟨rfl, rfl⟩ ⟨(Nat.le_of_ble_eq_true rfl), (Nat.le_of_ble_eq_true rfl)⟩ ⟨Nat.zero_le _, Nat.zero_le _⟩ rfl hl.1 (rest := [.int w6, .ref (eP E 79)]) rfl (Nat.le_of_ble_eq_true rfl) dX8_tell_131 (st1 := [.int r94, .int w6, .ref (eP E 79)]) rfl (fun H locs hw => ?_)
              refine lv_goto (tgt := 204) X.1 X.2.1 dX8_tell_134 (by decide) ?_
              obtain ⟨h95, hf⟩ := b_ck hf
              refine r_iast X hw (sp79 hE) h95 dX8_tell_204 (fun H locs hw => ?_)
              obtain ⟨σ96, e97, hf⟩ := b_bnd hf
              rw [← e97] at hw
              obtain ⟨v98, e99, hf⟩ := b_bnd hf
              refine lv_iinc (v := v98) (k := 8) (lv' := [(6, .int v98), (9, .int v42), (8, .int v9), (0, .ref (eP E 69)), (1, .int u1), (2, .int u2), (3, .int u3), (4, .int u4), (5, .int u5), (7, .int w7)]) X.1 X.2.1 dX8_tell_205 hl rfl (by rw [e99]; exact congrArg _ (by decide)) (by decide) rfl (fun ls hl => ?_)
              refine lv_goto (tgt := 312) X.1 X.2.1 dX8_tell_208 (by decide) ?_
              obtain ⟨v100, e101, hf⟩ := b_bnd hf
              refine lv_iinc (v := v100) (k := 9) (lv' := [(7, .int v100), (6, .int v98), (9, .int v42), (8, .int v9), (0, .ref (eP E 69)), (1, .int u1), (2, .int u2), (3, .int u3), (4, .int u4), (5, .int u5)]) X.1 X.2.1 dX8_tell_312 hl rfl (by rw [e101]; exact congrArg _ (by decide)) (by decide) rfl (fun ls hl => ?_)
              refine lv_goto (tgt := 39) X.1 X.2.1 dX8_tell_315 (by decide) ?_
              obtain rfl := Option.some.inj hf
              exact ih _ _ _ (hr1 _ rfl) _ _ _ hw (lv_sub hl [4, 5, 6, 7, 8, 9, 1, 0] rfl) K1
            · have hf := if_t hf c92
              refine lv_iconst (v := 0) X.1 X.2.1 dX8_tell_121 (by decide) ?_
              refine lv_goto (tgt := 204) X.1 X.2.1 dX8_tell_122 (by decide) ?_
              obtain ⟨h102, hf⟩ := b_ck hf
              refine r_iast X hw (sp79 hE) h102 dX8_tell_204 (fun H locs hw => ?_)
              obtain ⟨σ103, e104, hf⟩ := b_bnd hf
              rw [← e104] at hw
              obtain ⟨v105, e106, hf⟩ := b_bnd hf
              refine lv_iinc (v := v105) (k := 8) (lv' := [(6, .int v105), (9, .int v42), (8, .int v9), (0, .ref (eP E 69)), (1, .int u1), (2, .int u2), (3, .int u3), (4, .int u4), (5, .int u5), (7, .int w7)]) X.1 X.2.1 dX8_tell_205 hl rfl (by rw [e106]; exact congrArg _ (by decide)) (by decide) rfl (fun ls hl => ?_)
              refine lv_goto (tgt := 312) X.1 X.2.1 dX8_tell_208 (by decide) ?_
              obtain ⟨v107, e108, hf⟩ := b_bnd hf
              refine lv_iinc (v := v107) (k := 9) (lv' := [(7, .int v107), (6, .int v105), (9, .int v42), (8, .int v9), (0, .ref (eP E 69)), (1, .int u1), (2, .int u2), (3, .int u3), (4, .int u4), (5, .int u5)]) X.1 X.2.1 dX8_tell_312 hl rfl (by rw [e108]; exact congrArg _ (by decide)) (by decide) rfl (fun ls hl => ?_)
              refine lv_goto (tgt := 39) X.1 X.2.1 dX8_tell_315 (by decide) ?_
              obtain rfl := Option.some.inj hf
              exact ih _ _ _ (hr1 _ rfl) _ _ _ hw (lv_sub hl [4, 5, 6, 7, 8, 9, 1, 0] rfl) K1
      · have hf := if_e hf c10
        refine lv_aload_n X.1 X.2.1 dX8_tell_76 rfl (lv_at hl 1 rfl) ?_
        refine r_get X hw (sp69 hE) (C := RX8) (T := TX8) (N := 31) rfl iwX8 18 (by decide) (Nat.le_of_ble_eq_true rfl) qw884 (v := .ref (eP E 79)) rfl dX8_tell_77 ?_
        refine lv_iload X.1 X.2.1 dX8_tell_80 (lv_at hl 7 rfl) ?_
        refine lv_iload X.1 X.2.1 dX8_tell_82 (lv_at hl 0 rfl) ?_
        obtain ⟨h109, hf⟩ := b_ck hf
        refine r_iast X hw (sp79 hE) h109 dX8_tell_84 (fun H locs hw => ?_)
        obtain ⟨σ110, e111, hf⟩ := b_bnd hf
        rw [← e111] at hw
        obtain ⟨v112, e113, hf⟩ := b_bnd hf
        refine lv_iinc (v := v112) (k := 7) (lv' := [(6, .int v112), (8, .int v9), (0, .ref (eP E 69)), (1, .int u1), (2, .int u2), (3, .int u3), (4, .int u4), (5, .int u5), (7, .int w7)]) X.1 X.2.1 dX8_tell_85 hl rfl (by rw [e113]; exact congrArg _ (by decide)) (by decide) rfl (fun ls hl => ?_)
        refine lv_goto (tgt := 312) X.1 X.2.1 dX8_tell_88 (by decide) ?_
        obtain ⟨v114, e115, hf⟩ := b_bnd hf
        refine lv_iinc (v := v114) (k := 8) (lv' := [(7, .int v114), (6, .int v112), (8, .int v9), (0, .ref (eP E 69)), (1, .int u1), (2, .int u2), (3, .int u3), (4, .int u4), (5, .int u5)]) X.1 X.2.1 dX8_tell_312 hl rfl (by rw [e115]; exact congrArg _ (by decide)) (by decide) rfl (fun ls hl => ?_)
        refine lv_goto (tgt := 39) X.1 X.2.1 dX8_tell_315 (by decide) ?_
        obtain rfl := Option.some.inj hf
        exact ih _ _ _ (hr1 _ rfl) _ _ _ hw (lv_sub hl [3, 4, 5, 6, 7, 8, 1, 0] rfl) K1
set_option maxHeartbeats 4000000 in
set_option maxRecDepth 100000 in
theorem w_X8_tell_39q2 {p : Program} {l : Launch} {e : Env} {s : State} {m : MethodId} {args : Array Value} {below : List Frame} {meth : Method} {c : Code} {Q : State → Prop} {E : en_T} (X : Cx E p s m args meth c cX8_tell 10 RX8 (some .int)) (hE : ShF E) {u1 : Int32} {u2 : Int32} {u3 : Int32} {u4 : Int32}  {res : Int32 × Int32 × sg_T} :
    ∀ (n : Nat) (w6 : Int32) (w7 : Int32) (σ : sg_T), itr (fun q => b_X8_tell_39q2 u1 u2 u3 u4 q.1 q.2.1 q.2.2) n (w6, w7, σ) = some res → ∀ (H : Heap) (locs : List Loc) (ls : Array Slot), Hw E σ s H locs → lv_has ls 10 [(0, .ref (eP E 69)), (1, .int u1), (2, .int u2), (3, .int u3), (4, .int u4), (5, .int 0), (6, .int w6), (7, .int w7)] →
    (∀ (y6 : Int32) (y7 : Int32) (τ : sg_T), res = (y6, y7, τ) → ∀ (H : Heap) (locs : List Loc) (ls : Array Slot), Hw E τ s H locs → lv_has ls 10 [(0, .ref (eP E 69)), (1, .int u1), (2, .int u2), (3, .int u3), (4, .int u4), (5, .int 0), (6, .int y6), (7, .int y7)] → W p l e rm_X8_tell s m args below meth c H locs 0 0 Q (F0 m 318 ls [])) →
    W p l e rm_X8_tell s m args below meth c H locs 0 0 Q (F0 m 39 ls []) := by
  have hR : ShR E := hE.r
  intro n
  induction n with
  | zero =>
    intro w6 w7 σ hf0
    exact (itr_0 hf0).elim
  | succ n ih =>
    intro w6 w7 σ hf0 H locs ls hw hl K1
    obtain ⟨r0, hf, hr1, hr2⟩ := itr_s hf0
    have hf : b_X8_tell_39q2 u1 u2 u3 u4 w6 w7 σ = some r0 := hf
    unfold b_X8_tell_39q2 at hf
    refine lv_iload X.1 X.2.1 dX8_tell_39 (lv_at hl 7 rfl) ?_
    refine lv_aload_n X.1 X.2.1 dX8_tell_41 rfl (lv_at hl 0 rfl) ?_
    refine r_get X hw (sp69 hE) (C := RX8) (T := TX8) (N := 31) rfl iwX8 12 (by decide) (Nat.le_of_ble_eq_true rfl) qw878 (v := .ref (eP E 76)) rfl dX8_tell_42 ?_
    refine lv_iconst (v := 3) X.1 X.2.1 dX8_tell_45 (by decide) ?_
    refine lv_iload X.1 X.2.1 dX8_tell_46 (lv_at hl 4 rfl) ?_
    refine lv_imul X.1 X.2.1 dX8_tell_48 ?_
    refine lv_iload_n X.1 X.2.1 dX8_tell_49 rfl (lv_at hl 1 rfl) ?_
    refine lv_iadd X.1 X.2.1 dX8_tell_50 ?_
    obtain ⟨h121, hf⟩ := b_ck hf
    refine r_iald X hw (sp76 hE) h121 dX8_tell_51 ?_
    refine lv_icmp_ge (tgt := 318) X.1 X.2.1 dX8_tell_52 (by decide) (fun c122 => ?_) (fun c122 => ?_)
    · have hf := if_t hf c122
      obtain rfl := Option.some.inj hf
      obtain rfl := hr2 _ rfl
      exact K1 _ _ _ rfl _ _ _ hw (lv_sub hl [0, 1, 2, 3, 4, 5, 6, 7] rfl)
    · have hf := if_e hf c122
      refine lv_aload_n X.1 X.2.1 dX8_tell_55 rfl (lv_at hl 0 rfl) ?_
      refine r_get X hw (sp69 hE) (C := RX8) (T := TX8) (N := 31) rfl iwX8 11 (by decide) (Nat.le_of_ble_eq_true rfl) qw877 (v := .ref (eP E 75)) rfl dX8_tell_56 ?_
      refine lv_sipush (v := 160) X.1 X.2.1 dX8_tell_59 (by decide) ?_
      refine lv_iload X.1 X.2.1 dX8_tell_62 (lv_at hl 4 rfl) ?_
      refine lv_imul X.1 X.2.1 dX8_tell_64 ?_
      refine lv_iload X.1 X.2.1 dX8_tell_65 (lv_at hl 7 rfl) ?_
      refine lv_iadd X.1 X.2.1 dX8_tell_67 ?_
      obtain ⟨h123, hf⟩ := b_ck hf
      refine r_iald X hw (sp75 hE) h123 dX8_tell_68 ?_
      refine r_bnd hf (fun v124 hf => ?_)
      refine lv_istore (lv' := [(8, .int v124), (0, .ref (eP E 69)), (1, .int u1), (2, .int u2), (3, .int u3), (4, .int u4), (5, .int 0), (6, .int w6), (7, .int w7)]) X.1 X.2.1 dX8_tell_69 hl (by decide) rfl (fun ls hl => ?_)
      refine lv_iload X.1 X.2.1 dX8_tell_71 (lv_at hl 0 rfl) ?_
      refine lv_if_lt (tgt := 91) X.1 X.2.1 dX8_tell_73 (by decide) (fun c125 => ?_) (fun c125 => ?_)
      · have hf := if_t hf c125
        refine lv_iload X.1 X.2.1 dX8_tell_91 (lv_at hl 0 rfl) ?_
        refine lv_bipush (v := (-20)) X.1 X.2.1 dX8_tell_93 (by decide) ?_
        refine lv_icmp_le (tgt := 211) X.1 X.2.1 dX8_tell_95 (by decide) (fun c126 => ?_) (fun c126 => ?_)
        · have hf := if_t hf c126
          refine lv_iload X.1 X.2.1 dX8_tell_211 (lv_at hl 0 rfl) ?_
          refine lv_bipush (v := (-22)) X.1 X.2.1 dX8_tell_213 (by decide) ?_
          refine lv_icmp_ne (tgt := 250) X.1 X.2.1 dX8_tell_215 (by decide) (fun c127 => ?_) (fun c127 => ?_)
          · have hf := if_e hf c127
            refine lv_iload X.1 X.2.1 dX8_tell_250 (lv_at hl 0 rfl) ?_
            refine lv_bipush (v := (-28)) X.1 X.2.1 dX8_tell_252 (by decide) ?_
            refine lv_icmp_ne (tgt := 279) X.1 X.2.1 dX8_tell_254 (by decide) (fun c128 => ?_) (fun c128 => ?_)
            · have hf := if_e hf c128
              obtain ⟨v129, e130, hf⟩ := b_bnd hf
              refine lv_iinc (v := v129) (k := 7) (lv' := [(6, .int v129), (8, .int v124), (0, .ref (eP E 69)), (1, .int u1), (2, .int u2), (3, .int u3), (4, .int u4), (5, .int 0), (7, .int w7)]) X.1 X.2.1 dX8_tell_279 hl rfl (by rw [e130]; exact congrArg _ (by decide)) (by decide) rfl (fun ls hl => ?_)
              refine lv_aload_n X.1 X.2.1 dX8_tell_282 rfl (lv_at hl 2 rfl) ?_
              refine r_get X hw (sp69 hE) (C := RX8) (T := TX8) (N := 31) rfl iwX8 18 (by decide) (Nat.le_of_ble_eq_true rfl) qw884 (v := .ref (eP E 79)) rfl dX8_tell_283 ?_
              refine lv_iload X.1 X.2.1 dX8_tell_286 (lv_at hl 0 rfl) ?_
              refine lv_iconst (v := 1) X.1 X.2.1 dX8_tell_288 (by decide) ?_
              refine lv_isub X.1 X.2.1 dX8_tell_289 ?_
              refine lv_iload X.1 X.2.1 dX8_tell_290 (lv_at hl 1 rfl) ?_
              refine lv_aload_n X.1 X.2.1 dX8_tell_292 rfl (lv_at hl 2 rfl) ?_
              refine r_get X hw (sp69 hE) (C := RX8) (T := TX8) (N := 31) rfl iwX8 18 (by decide) (Nat.le_of_ble_eq_true rfl) qw884 (v := .ref (eP E 79)) rfl dX8_tell_293 ?_
              refine lv_iload X.1 X.2.1 dX8_tell_296 (lv_at hl 0 rfl) ?_
              refine lv_iconst (v := 1) X.1 X.2.1 dX8_tell_298 (by decide) ?_
              refine lv_isub X.1 X.2.1 dX8_tell_299 ?_
              obtain ⟨h131, hf⟩ := b_ck hf
              refine r_iald X hw (sp79 hE) h131 dX8_tell_300 ?_
              refine lv_aload_n X.1 X.2.1 dX8_tell_301 rfl (lv_at hl 2 rfl) ?_
              refine r_get X hw (sp69 hE) (C := RX8) (T := TX8) (N := 31) rfl iwX8 18 (by decide) (Nat.le_of_ble_eq_true rfl) qw884 (v := .ref (eP E 79)) rfl dX8_tell_302 ?_
              refine lv_iload X.1 X.2.1 dX8_tell_305 (lv_at hl 0 rfl) ?_
              obtain ⟨h132, hf⟩ := b_ck hf
              refine r_iald X hw (sp79 hE) h132 dX8_tell_307 ?_
              obtain ⟨r134, h133, hf⟩ := b_bd1 hf
              refine r_callS X hw (k_X8_deed hE  h133) qw1020 qw1021 qw79 qw1022 okX8_deed ⟨rfl, rfl⟩ ⟨(Nat.le_of_ble_eq_true rfl), (Nat.le_of_ble_eq_true rfl)⟩ ⟨Nat.zero_le _, Nat.zero_le _⟩ rfl hl.1 (rest := [.int (v129 - 1), .ref (eP E 79)]) rfl (Nat.le_of_ble_eq_true rfl) dX8_tell_308 (st1 := [.int r134, .int (v129 - 1), .ref (eP E 79)]) rfl (fun H locs hw => ?_)
              obtain ⟨h135, hf⟩ := b_ck hf
              refine r_iast X hw (sp79 hE) h135 dX8_tell_311 (fun H locs hw => ?_)
              obtain ⟨σ136, e137, hf⟩ := b_bnd hf
              rw [← e137] at hw
              obtain ⟨v138, e139, hf⟩ := b_bnd hf
              refine lv_iinc (v := v138) (k := 8) (lv' := [(7, .int v138), (6, .int v129), (8, .int v124), (0, .ref (eP E 69)), (1, .int u1), (2, .int u2), (3, .int u3), (4, .int u4), (5, .int 0)]) X.1 X.2.1 dX8_tell_312 hl rfl (by rw [e139]; exact congrArg _ (by decide)) (by decide) rfl (fun ls hl => ?_)
              refine lv_goto (tgt := 39) X.1 X.2.1 dX8_tell_315 (by decide) ?_
              obtain rfl := Option.some.inj hf
              exact ih _ _ _ (hr1 _ rfl) _ _ _ hw (lv_sub hl [3, 4, 5, 6, 7, 8, 1, 0] rfl) K1
            · have hf := if_t hf c128
              refine lv_aload_n X.1 X.2.1 dX8_tell_257 rfl (lv_at hl 1 rfl) ?_
              refine r_get X hw (sp69 hE) (C := RX8) (T := TX8) (N := 31) rfl iwX8 18 (by decide) (Nat.le_of_ble_eq_true rfl) qw884 (v := .ref (eP E 79)) rfl dX8_tell_258 ?_
              refine lv_iload X.1 X.2.1 dX8_tell_261 (lv_at hl 7 rfl) ?_
              refine lv_iconst (v := 1) X.1 X.2.1 dX8_tell_263 (by decide) ?_
              refine lv_isub X.1 X.2.1 dX8_tell_264 ?_
              refine lv_aload_n X.1 X.2.1 dX8_tell_265 rfl (lv_at hl 1 rfl) ?_
              refine r_get X hw (sp69 hE) (C := RX8) (T := TX8) (N := 31) rfl iwX8 18 (by decide) (Nat.le_of_ble_eq_true rfl) qw884 (v := .ref (eP E 79)) rfl dX8_tell_266 ?_
              refine lv_iload X.1 X.2.1 dX8_tell_269 (lv_at hl 7 rfl) ?_
              refine lv_iconst (v := 1) X.1 X.2.1 dX8_tell_271 (by decide) ?_
              refine lv_isub X.1 X.2.1 dX8_tell_272 ?_
              obtain ⟨h140, hf⟩ := b_ck hf
              refine r_iald X hw (sp79 hE) h140 dX8_tell_273 ?_
              refine lv_ineg X.1 X.2.1 dX8_tell_274 ?_
              obtain ⟨h141, hf⟩ := b_ck hf
              refine r_iast X hw (sp79 hE) h141 dX8_tell_275 (fun H locs hw => ?_)
              obtain ⟨σ142, e143, hf⟩ := b_bnd hf
              rw [← e143] at hw
              refine lv_goto (tgt := 312) X.1 X.2.1 dX8_tell_276 (by decide) ?_
              obtain ⟨v144, e145, hf⟩ := b_bnd hf
              refine lv_iinc (v := v144) (k := 8) (lv' := [(7, .int v144), (8, .int v124), (0, .ref (eP E 69)), (1, .int u1), (2, .int u2), (3, .int u3), (4, .int u4), (5, .int 0), (6, .int w6)]) X.1 X.2.1 dX8_tell_312 hl rfl (by rw [e145]; exact congrArg _ (by decide)) (by decide) rfl (fun ls hl => ?_)
              refine lv_goto (tgt := 39) X.1 X.2.1 dX8_tell_315 (by decide) ?_
              obtain rfl := Option.some.inj hf
              exact ih _ _ _ (hr1 _ rfl) _ _ _ hw (lv_sub hl [2, 3, 4, 5, 6, 7, 8, 0] rfl) K1
          · have hf := if_t hf c127
            refine lv_aload_n X.1 X.2.1 dX8_tell_218 rfl (lv_at hl 1 rfl) ?_
            refine r_get X hw (sp69 hE) (C := RX8) (T := TX8) (N := 31) rfl iwX8 18 (by decide) (Nat.le_of_ble_eq_true rfl) qw884 (v := .ref (eP E 79)) rfl dX8_tell_219 ?_
            refine lv_iload X.1 X.2.1 dX8_tell_222 (lv_at hl 7 rfl) ?_
            refine lv_iconst (v := 1) X.1 X.2.1 dX8_tell_224 (by decide) ?_
            refine lv_isub X.1 X.2.1 dX8_tell_225 ?_
            refine lv_aload_n X.1 X.2.1 dX8_tell_226 rfl (lv_at hl 1 rfl) ?_
            refine r_get X hw (sp69 hE) (C := RX8) (T := TX8) (N := 31) rfl iwX8 18 (by decide) (Nat.le_of_ble_eq_true rfl) qw884 (v := .ref (eP E 79)) rfl dX8_tell_227 ?_
            refine lv_iload X.1 X.2.1 dX8_tell_230 (lv_at hl 7 rfl) ?_
            refine lv_iconst (v := 1) X.1 X.2.1 dX8_tell_232 (by decide) ?_
            refine lv_isub X.1 X.2.1 dX8_tell_233 ?_
            obtain ⟨h146, hf⟩ := b_ck hf
            refine r_iald X hw (sp79 hE) h146 dX8_tell_234 ?_
            obtain ⟨v148, e149, hf⟩ := b_bnd hf
            refine r_join (g2 := F0 m 243 ls [.int v148, .int (w6 - 1), .ref (eP E 79)]) ?_ (fun hj => ?_)
            · obtain ⟨r151, h150, hf⟩ := b_bd1 hf
              refine r_callS X hw (k_X8_yes hE  h150) qw1017 qw1018 qw79 qw1019 okX8_yes ⟨rfl, rfl⟩ ⟨(Nat.le_of_ble_eq_true rfl), (Nat.le_of_ble_eq_true rfl)⟩ ⟨Nat.zero_le _, Nat.zero_le _⟩ rfl hl.1 (rest := [.int (w6 - 1), .ref (eP E 79)]) rfl (Nat.le_of_ble_eq_true rfl) dX8_tell_243 (st1 := [.int r151, .int (w6 - 1), .ref (eP E 79)]) rfl (fun H locs hw => ?_)
              obtain ⟨h152, hf⟩ := b_ck hf
              refine r_iast X hw (sp79 hE) h152 dX8_tell_246 (fun H locs hw => ?_)
              obtain ⟨σ153, e154, hf⟩ := b_bnd hf
              rw [← e154] at hw
              refine lv_goto (tgt := 312) X.1 X.2.1 dX8_tell_247 (by decide) ?_
              obtain ⟨v155, e156, hf⟩ := b_bnd hf
              refine lv_iinc (v := v155) (k := 8) (lv' := [(7, .int v155), (8, .int v124), (0, .ref (eP E 69)), (1, .int u1), (2, .int u2), (3, .int u3), (4, .int u4), (5, .int 0), (6, .int w6)]) X.1 X.2.1 dX8_tell_312 hl rfl (by rw [e156]; exact congrArg _ (by decide)) (by decide) rfl (fun ls hl => ?_)
              refine lv_goto (tgt := 39) X.1 X.2.1 dX8_tell_315 (by decide) ?_
              obtain rfl := Option.some.inj hf
              exact ih _ _ _ (hr1 _ rfl) _ _ _ hw (lv_sub hl [2, 3, 4, 5, 6, 7, 8, 0] rfl) K1
            · refine lv_if_ne (tgt := 242) X.1 X.2.1 dX8_tell_235 (by decide) (fun c147 => ?_) (fun c147 => ?_)
              · rw [e149, if_neg c147] at hj
                refine lv_iconst (v := 0) X.1 X.2.1 dX8_tell_242 (by decide) ?_
                exact hj
              · rw [e149, if_pos c147] at hj
                refine lv_iconst (v := 1) X.1 X.2.1 dX8_tell_238 (by decide) ?_
                refine lv_goto (tgt := 243) X.1 X.2.1 dX8_tell_239 (by decide) ?_
                exact hj
        · have hf := if_e hf c126
          refine lv_bipush (v := (-10)) X.1 X.2.1 dX8_tell_98 (by decide) ?_
          refine lv_iload X.1 X.2.1 dX8_tell_100 (lv_at hl 0 rfl) ?_
          refine lv_isub X.1 X.2.1 dX8_tell_102 ?_
          refine r_bnd hf (fun v157 hf => ?_)
          refine lv_istore (lv' := [(9, .int v157), (8, .int v124), (0, .ref (eP E 69)), (1, .int u1), (2, .int u2), (3, .int u3), (4, .int u4), (5, .int 0), (6, .int w6), (7, .int w7)]) X.1 X.2.1 dX8_tell_103 hl (by decide) rfl (fun ls hl => ?_)
          refine lv_aload_n X.1 X.2.1 dX8_tell_105 rfl (lv_at hl 2 rfl) ?_
          refine r_get X hw (sp69 hE) (C := RX8) (T := TX8) (N := 31) rfl iwX8 18 (by decide) (Nat.le_of_ble_eq_true rfl) qw884 (v := .ref (eP E 79)) rfl dX8_tell_106 ?_
          refine lv_iload X.1 X.2.1 dX8_tell_109 (lv_at hl 8 rfl) ?_
          refine lv_iload X.1 X.2.1 dX8_tell_111 (lv_at hl 0 rfl) ?_
          refine lv_if_ne (tgt := 137) X.1 X.2.1 dX8_tell_113 (by decide) (fun c158 => ?_) (fun c158 => ?_)
          · have hf := if_e hf c158
            refine lv_iload X.1 X.2.1 dX8_tell_137 (lv_at hl 0 rfl) ?_
            refine lv_iconst (v := 1) X.1 X.2.1 dX8_tell_139 (by decide) ?_
            refine lv_icmp_ne (tgt := 152) X.1 X.2.1 dX8_tell_140 (by decide) (fun c159 => ?_) (fun c159 => ?_)
            · have hf := if_e hf c159
              refine lv_iload X.1 X.2.1 dX8_tell_152 (lv_at hl 0 rfl) ?_
              refine lv_iconst (v := 2) X.1 X.2.1 dX8_tell_154 (by decide) ?_
              refine lv_icmp_ne (tgt := 167) X.1 X.2.1 dX8_tell_155 (by decide) (fun c160 => ?_) (fun c160 => ?_)
              · have hf := if_e hf c160
                refine lv_iload X.1 X.2.1 dX8_tell_167 (lv_at hl 0 rfl) ?_
                refine lv_iconst (v := 3) X.1 X.2.1 dX8_tell_169 (by decide) ?_
                refine lv_icmp_ne (tgt := 183) X.1 X.2.1 dX8_tell_170 (by decide) (fun c161 => ?_) (fun c161 => ?_)
                · have hf := if_e hf c161
                  refine lv_iload X.1 X.2.1 dX8_tell_183 (lv_at hl 0 rfl) ?_
                  refine lv_iconst (v := 4) X.1 X.2.1 dX8_tell_185 (by decide) ?_
                  refine lv_icmp_ne (tgt := 198) X.1 X.2.1 dX8_tell_186 (by decide) (fun c162 => ?_) (fun c162 => ?_)
                  · have hf := if_e hf c162
                    refine lv_aload_n X.1 X.2.1 dX8_tell_198 rfl (lv_at hl 2 rfl) ?_
                    refine lv_iload_n X.1 X.2.1 dX8_tell_199 rfl (lv_at hl 5 rfl) ?_
                    refine lv_iconst (v := 4) X.1 X.2.1 dX8_tell_200 (by decide) ?_
                    obtain ⟨r164, h163, hf⟩ := b_bd1 hf
                    refine r_callV X hw (k_X8_of hE  h163) (sp69 hE) (C := RX8) (T := TX8) (N := 31) rfl qw997 qw999 qw33 qw79 qw1000 okX8_of ⟨rfl, rfl⟩ ⟨(Nat.le_of_ble_eq_true rfl), (Nat.le_of_ble_eq_true rfl)⟩ ⟨Nat.zero_le _, Nat.zero_le _⟩ rfl hl.1 (rest := [.int w6, .ref (eP E 79)]) rfl (Nat.le_of_ble_eq_true rfl) dX8_tell_201 (st1 := [.int r164, .int w6, .ref (eP E 79)]) rfl (fun H locs hw => ?_)
                    obtain ⟨h165, hf⟩ := b_ck hf
                    refine r_iast X hw (sp79 hE) h165 dX8_tell_204 (fun H locs hw => ?_)
                    obtain ⟨σ166, e167, hf⟩ := b_bnd hf
                    rw [← e167] at hw
                    obtain ⟨v168, e169, hf⟩ := b_bnd hf
                    refine lv_iinc (v := v168) (k := 8) (lv' := [(6, .int v168), (9, .int v157), (8, .int v124), (0, .ref (eP E 69)), (1, .int u1), (2, .int u2), (3, .int u3), (4, .int u4), (5, .int 0), (7, .int w7)]) X.1 X.2.1 dX8_tell_205 hl rfl (by rw [e169]; exact congrArg _ (by decide)) (by decide) rfl (fun ls hl => ?_)
                    refine lv_goto (tgt := 312) X.1 X.2.1 dX8_tell_208 (by decide) ?_
                    obtain ⟨v170, e171, hf⟩ := b_bnd hf
                    refine lv_iinc (v := v170) (k := 9) (lv' := [(7, .int v170), (6, .int v168), (9, .int v157), (8, .int v124), (0, .ref (eP E 69)), (1, .int u1), (2, .int u2), (3, .int u3), (4, .int u4), (5, .int 0)]) X.1 X.2.1 dX8_tell_312 hl rfl (by rw [e171]; exact congrArg _ (by decide)) (by decide) rfl (fun ls hl => ?_)
                    refine lv_goto (tgt := 39) X.1 X.2.1 dX8_tell_315 (by decide) ?_
                    obtain rfl := Option.some.inj hf
                    exact ih _ _ _ (hr1 _ rfl) _ _ _ hw (lv_sub hl [4, 5, 6, 7, 8, 9, 1, 0] rfl) K1
                  · have hf := if_t hf c162
                    refine lv_aload_n X.1 X.2.1 dX8_tell_189 rfl (lv_at hl 2 rfl) ?_
                    refine lv_iload_n X.1 X.2.1 dX8_tell_190 rfl (lv_at hl 4 rfl) ?_
                    refine lv_iconst (v := 3) X.1 X.2.1 dX8_tell_191 (by decide) ?_
                    obtain ⟨r173, h172, hf⟩ := b_bd1 hf
                    refine r_callV X hw (k_X8_of hE  h172) (sp69 hE) (C := RX8) (T := TX8) (N := 31) rfl qw997 qw999 qw33 qw79 qw1000 okX8_of ⟨rfl, rfl⟩ ⟨(Nat.le_of_ble_eq_true rfl), (Nat.le_of_ble_eq_true rfl)⟩ ⟨Nat.zero_le _, Nat.zero_le _⟩ rfl hl.1 (rest := [.int w6, .ref (eP E 79)]) rfl (Nat.le_of_ble_eq_true rfl) dX8_tell_192 (st1 := [.int r173, .int w6, .ref (eP E 79)]) rfl (fun H locs hw => ?_)
                    refine lv_goto (tgt := 204) X.1 X.2.1 dX8_tell_195 (by decide) ?_
                    obtain ⟨h174, hf⟩ := b_ck hf
                    refine r_iast X hw (sp79 hE) h174 dX8_tell_204 (fun H locs hw => ?_)
                    obtain ⟨σ175, e176, hf⟩ := b_bnd hf
                    rw [← e176] at hw
                    obtain ⟨v177, e178, hf⟩ := b_bnd hf
                    refine lv_iinc (v := v177) (k := 8) (lv' := [(6, .int v177), (9, .int v157), (8, .int v124), (0, .ref (eP E 69)), (1, .int u1), (2, .int u2), (3, .int u3), (4, .int u4), (5, .int 0), (7, .int w7)]) X.1 X.2.1 dX8_tell_205 hl rfl (by rw [e178]; exact congrArg _ (by decide)) (by decide) rfl (fun ls hl => ?_)
                    refine lv_goto (tgt := 312) X.1 X.2.1 dX8_tell_208 (by decide) ?_
                    obtain ⟨v179, e180, hf⟩ := b_bnd hf
                    refine lv_iinc (v := v179) (k := 9) (lv' := [(7, .int v179), (6, .int v177), (9, .int v157), (8, .int v124), (0, .ref (eP E 69)), (1, .int u1), (2, .int u2), (3, .int u3), (4, .int u4), (5, .int 0)]) X.1 X.2.1 dX8_tell_312 hl rfl (by rw [e180]; exact congrArg _ (by decide)) (by decide) rfl (fun ls hl => ?_)
                    refine lv_goto (tgt := 39) X.1 X.2.1 dX8_tell_315 (by decide) ?_
                    obtain rfl := Option.some.inj hf
                    exact ih _ _ _ (hr1 _ rfl) _ _ _ hw (lv_sub hl [4, 5, 6, 7, 8, 9, 1, 0] rfl) K1
                · have hf := if_t hf c161
                  refine lv_aload_n X.1 X.2.1 dX8_tell_173 rfl (lv_at hl 2 rfl) ?_
                  refine r_get X hw (sp69 hE) (C := RX8) (T := TX8) (N := 31) rfl iwX8 0 (by decide) (Nat.le_of_ble_eq_true rfl) qw866 (v := .ref (eP E 70)) rfl dX8_tell_174 ?_
                  refine lv_bipush (v := 56) X.1 X.2.1 dX8_tell_177 (by decide) ?_
                  obtain ⟨h181, hf⟩ := b_ck hf
                  refine r_iald X hw (sp70 hE) h181 dX8_tell_179 ?_
                  refine lv_goto (tgt := 204) X.1 X.2.1 dX8_tell_180 (by decide) ?_
                  obtain ⟨h182, hf⟩ := b_ck hf
                  refine r_iast X hw (sp79 hE) h182 dX8_tell_204 (fun H locs hw => ?_)
                  obtain ⟨σ183, e184, hf⟩ := b_bnd hf
                  rw [← e184] at hw
                  obtain ⟨v185, e186, hf⟩ := b_bnd hf
                  refine lv_iinc (v := v185) (k := 8) (lv' := [(6, .int v185), (9, .int v157), (8, .int v124), (0, .ref (eP E 69)), (1, .int u1), (2, .int u2), (3, .int u3), (4, .int u4), (5, .int 0), (7, .int w7)]) X.1 X.2.1 dX8_tell_205 hl rfl (by rw [e186]; exact congrArg _ (by decide)) (by decide) rfl (fun ls hl => ?_)
                  refine lv_goto (tgt := 312) X.1 X.2.1 dX8_tell_208 (by decide) ?_
                  obtain ⟨v187, e188, hf⟩ := b_bnd hf
                  refine lv_iinc (v := v187) (k := 9) (lv' := [(7, .int v187), (6, .int v185), (9, .int v157), (8, .int v124), (0, .ref (eP E 69)), (1, .int u1), (2, .int u2), (3, .int u3), (4, .int u4), (5, .int 0)]) X.1 X.2.1 dX8_tell_312 hl rfl (by rw [e188]; exact congrArg _ (by decide)) (by decide) rfl (fun ls hl => ?_)
                  refine lv_goto (tgt := 39) X.1 X.2.1 dX8_tell_315 (by decide) ?_
                  obtain rfl := Option.some.inj hf
                  exact ih _ _ _ (hr1 _ rfl) _ _ _ hw (lv_sub hl [4, 5, 6, 7, 8, 9, 1, 0] rfl) K1
              · have hf := if_t hf c160
                refine lv_aload_n X.1 X.2.1 dX8_tell_158 rfl (lv_at hl 2 rfl) ?_
                refine lv_iload_n X.1 X.2.1 dX8_tell_159 rfl (lv_at hl 4 rfl) ?_
                refine lv_iconst (v := 1) X.1 X.2.1 dX8_tell_160 (by decide) ?_
                obtain ⟨r190, h189, hf⟩ := b_bd1 hf
                refine r_callV X hw (k_X8_of hE  h189) (sp69 hE) (C := RX8) (T := TX8) (N := 31) rfl qw997 qw999 qw33 qw79 qw1000 okX8_of ⟨rfl, rfl⟩ ⟨(Nat.le_of_ble_eq_true rfl), (Nat.le_of_ble_eq_true rfl)⟩ ⟨Nat.zero_le _, Nat.zero_le _⟩ rfl hl.1 (rest := [.int w6, .ref (eP E 79)]) rfl (Nat.le_of_ble_eq_true rfl) dX8_tell_161 (st1 := [.int r190, .int w6, .ref (eP E 79)]) rfl (fun H locs hw => ?_)
                refine lv_goto (tgt := 204) X.1 X.2.1 dX8_tell_164 (by decide) ?_
                obtain ⟨h191, hf⟩ := b_ck hf
                refine r_iast X hw (sp79 hE) h191 dX8_tell_204 (fun H locs hw => ?_)
                obtain ⟨σ192, e193, hf⟩ := b_bnd hf
                rw [← e193] at hw
                obtain ⟨v194, e195, hf⟩ := b_bnd hf
                refine lv_iinc (v := v194) (k := 8) (lv' := [(6, .int v194), (9, .int v157), (8, .int v124), (0, .ref (eP E 69)), (1, .int u1), (2, .int u2), (3, .int u3), (4, .int u4), (5, .int 0), (7, .int w7)]) X.1 X.2.1 dX8_tell_205 hl rfl (by rw [e195]; exact congrArg _ (by decide)) (by decide) rfl (fun ls hl => ?_)
                refine lv_goto (tgt := 312) X.1 X.2.1 dX8_tell_208 (by decide) ?_
                obtain ⟨v196, e197, hf⟩ := b_bnd hf
                refine lv_iinc (v := v196) (k := 9) (lv' := [(7, .int v196), (6, .int v194), (9, .int v157), (8, .int v124), (0, .ref (eP E 69)), (1, .int u1), (2, .int u2), (3, .int u3), (4, .int u4), (5, .int 0)]) X.1 X.2.1 dX8_tell_312 hl rfl (by rw [e197]; exact congrArg _ (by decide)) (by decide) rfl (fun ls hl => ?_)
                refine lv_goto (tgt := 39) X.1 X.2.1 dX8_tell_315 (by decide) ?_
                obtain rfl := Option.some.inj hf
                exact ih _ _ _ (hr1 _ rfl) _ _ _ hw (lv_sub hl [4, 5, 6, 7, 8, 9, 1, 0] rfl) K1
            · have hf := if_t hf c159
              refine lv_aload_n X.1 X.2.1 dX8_tell_143 rfl (lv_at hl 2 rfl) ?_
              refine lv_iload_n X.1 X.2.1 dX8_tell_144 rfl (lv_at hl 5 rfl) ?_
              refine lv_iconst (v := 2) X.1 X.2.1 dX8_tell_145 (by decide) ?_
              obtain ⟨r199, h198, hf⟩ := b_bd1 hf
              refine r_callV X hw (k_X8_of hE  h198) (sp69 hE) (C := RX8) (T := TX8) (N := 31) rfl qw997 qw999 qw33 qw79 qw1000 okX8_of ⟨rfl, rfl⟩ ⟨(Nat.le_of_ble_eq_true rfl), (Nat.le_of_ble_eq_true rfl)⟩ ⟨Nat.zero_le _, Nat.zero_le _⟩ rfl hl.1 (rest := [.int w6, .ref (eP E 79)]) rfl (Nat.le_of_ble_eq_true rfl) dX8_tell_146 (st1 := [.int r199, .int w6, .ref (eP E 79)]) rfl (fun H locs hw => ?_)
              refine lv_goto (tgt := 204) X.1 X.2.1 dX8_tell_149 (by decide) ?_
              obtain ⟨h200, hf⟩ := b_ck hf
              refine r_iast X hw (sp79 hE) h200 dX8_tell_204 (fun H locs hw => ?_)
              obtain ⟨σ201, e202, hf⟩ := b_bnd hf
              rw [← e202] at hw
              obtain ⟨v203, e204, hf⟩ := b_bnd hf
              refine lv_iinc (v := v203) (k := 8) (lv' := [(6, .int v203), (9, .int v157), (8, .int v124), (0, .ref (eP E 69)), (1, .int u1), (2, .int u2), (3, .int u3), (4, .int u4), (5, .int 0), (7, .int w7)]) X.1 X.2.1 dX8_tell_205 hl rfl (by rw [e204]; exact congrArg _ (by decide)) (by decide) rfl (fun ls hl => ?_)
              refine lv_goto (tgt := 312) X.1 X.2.1 dX8_tell_208 (by decide) ?_
              obtain ⟨v205, e206, hf⟩ := b_bnd hf
              refine lv_iinc (v := v205) (k := 9) (lv' := [(7, .int v205), (6, .int v203), (9, .int v157), (8, .int v124), (0, .ref (eP E 69)), (1, .int u1), (2, .int u2), (3, .int u3), (4, .int u4), (5, .int 0)]) X.1 X.2.1 dX8_tell_312 hl rfl (by rw [e206]; exact congrArg _ (by decide)) (by decide) rfl (fun ls hl => ?_)
              refine lv_goto (tgt := 39) X.1 X.2.1 dX8_tell_315 (by decide) ?_
              obtain rfl := Option.some.inj hf
              exact ih _ _ _ (hr1 _ rfl) _ _ _ hw (lv_sub hl [4, 5, 6, 7, 8, 9, 1, 0] rfl) K1
          · have hf := if_t hf c158
            refine lv_iload_n X.1 X.2.1 dX8_tell_116 rfl (lv_at hl 4 rfl) ?_
            refine lv_iload_n X.1 X.2.1 dX8_tell_117 rfl (lv_at hl 5 rfl) ?_
            refine lv_icmp_ne (tgt := 125) X.1 X.2.1 dX8_tell_118 (by decide) (fun c207 => ?_) (fun c207 => ?_)
            · have hf := if_e hf c207
              refine lv_aload_n X.1 X.2.1 dX8_tell_125 rfl (lv_at hl 2 rfl) ?_
              refine lv_iload_n X.1 X.2.1 dX8_tell_126 rfl (lv_at hl 4 rfl) ?_
              refine lv_bipush (v := 6) X.1 X.2.1 dX8_tell_127 (by decide) ?_
              refine lv_iload_n X.1 X.2.1 dX8_tell_129 rfl (lv_at hl 5 rfl) ?_
              refine lv_iadd X.1 X.2.1 dX8_tell_130 ?_
              obtain ⟨r209, h208, hf⟩ := b_bd1 hf
              refine r_callV X hw (k_X8_of hE  h208) (sp69 hE) (C := RX8) (T := TX8) (N := 31) rfl qw997 qw999 qw33 qw79 qw1000 okX8_of ⟨rfl, rfl⟩ ⟨(Nat.le_of_ble_eq_true rfl), (Nat.le_of_ble_eq_true rfl)⟩ ⟨Nat.zero_le _, Nat.zero_le _⟩ rfl hl.1 (rest := [.int w6, .ref (eP E 79)]) rfl (Nat.le_of_ble_eq_true rfl) dX8_tell_131 (st1 := [.int r209, .int w6, .ref (eP E 79)]) rfl (fun H locs hw => ?_)
              refine lv_goto (tgt := 204) X.1 X.2.1 dX8_tell_134 (by decide) ?_
              obtain ⟨h210, hf⟩ := b_ck hf
              refine r_iast X hw (sp79 hE) h210 dX8_tell_204 (fun H locs hw => ?_)
              obtain ⟨σ211, e212, hf⟩ := b_bnd hf
              rw [← e212] at hw
              obtain ⟨v213, e214, hf⟩ := b_bnd hf
              refine lv_iinc (v := v213) (k := 8) (lv' := [(6, .int v213), (9, .int v157), (8, .int v124), (0, .ref (eP E 69)), (1, .int u1), (2, .int u2), (3, .int u3), (4, .int u4), (5, .int 0), (7, .int w7)]) X.1 X.2.1 dX8_tell_205 hl rfl (by rw [e214]; exact congrArg _ (by decide)) (by decide) rfl (fun ls hl => ?_)
              refine lv_goto (tgt := 312) X.1 X.2.1 dX8_tell_208 (by decide) ?_
              obtain ⟨v215, e216, hf⟩ := b_bnd hf
              refine lv_iinc (v := v215) (k := 9) (lv' := [(7, .int v215), (6, .int v213), (9, .int v157), (8, .int v124), (0, .ref (eP E 69)), (1, .int u1), (2, .int u2), (3, .int u3), (4, .int u4), (5, .int 0)]) X.1 X.2.1 dX8_tell_312 hl rfl (by rw [e216]; exact congrArg _ (by decide)) (by decide) rfl (fun ls hl => ?_)
              refine lv_goto (tgt := 39) X.1 X.2.1 dX8_tell_315 (by decide) ?_
              obtain rfl := Option.some.inj hf
              exact ih _ _ _ (hr1 _ rfl) _ _ _ hw (lv_sub hl [4, 5, 6, 7, 8, 9, 1, 0] rfl) K1
            · have hf := if_t hf c207
              refine lv_iconst (v := 0) X.1 X.2.1 dX8_tell_121 (by decide) ?_
              refine lv_goto (tgt := 204) X.1 X.2.1 dX8_tell_122 (by decide) ?_
              obtain ⟨h217, hf⟩ := b_ck hf
              refine r_iast X hw (sp79 hE) h217 dX8_tell_204 (fun H locs hw => ?_)
              obtain ⟨σ218, e219, hf⟩ := b_bnd hf
              rw [← e219] at hw
              obtain ⟨v220, e221, hf⟩ := b_bnd hf
              refine lv_iinc (v := v220) (k := 8) (lv' := [(6, .int v220), (9, .int v157), (8, .int v124), (0, .ref (eP E 69)), (1, .int u1), (2, .int u2), (3, .int u3), (4, .int u4), (5, .int 0), (7, .int w7)]) X.1 X.2.1 dX8_tell_205 hl rfl (by rw [e221]; exact congrArg _ (by decide)) (by decide) rfl (fun ls hl => ?_)
              refine lv_goto (tgt := 312) X.1 X.2.1 dX8_tell_208 (by decide) ?_
              obtain ⟨v222, e223, hf⟩ := b_bnd hf
              refine lv_iinc (v := v222) (k := 9) (lv' := [(7, .int v222), (6, .int v220), (9, .int v157), (8, .int v124), (0, .ref (eP E 69)), (1, .int u1), (2, .int u2), (3, .int u3), (4, .int u4), (5, .int 0)]) X.1 X.2.1 dX8_tell_312 hl rfl (by rw [e223]; exact congrArg _ (by decide)) (by decide) rfl (fun ls hl => ?_)
              refine lv_goto (tgt := 39) X.1 X.2.1 dX8_tell_315 (by decide) ?_
              obtain rfl := Option.some.inj hf
              exact ih _ _ _ (hr1 _ rfl) _ _ _ hw (lv_sub hl [4, 5, 6, 7, 8, 9, 1, 0] rfl) K1
      · have hf := if_e hf c125
        refine lv_aload_n X.1 X.2.1 dX8_tell_76 rfl (lv_at hl 1 rfl) ?_
        refine r_get X hw (sp69 hE) (C := RX8) (T := TX8) (N := 31) rfl iwX8 18 (by decide) (Nat.le_of_ble_eq_true rfl) qw884 (v := .ref (eP E 79)) rfl dX8_tell_77 ?_
        refine lv_iload X.1 X.2.1 dX8_tell_80 (lv_at hl 7 rfl) ?_
        refine lv_iload X.1 X.2.1 dX8_tell_82 (lv_at hl 0 rfl) ?_
        obtain ⟨h224, hf⟩ := b_ck hf
        refine r_iast X hw (sp79 hE) h224 dX8_tell_84 (fun H locs hw => ?_)
        obtain ⟨σ225, e226, hf⟩ := b_bnd hf
        rw [← e226] at hw
        obtain ⟨v227, e228, hf⟩ := b_bnd hf
        refine lv_iinc (v := v227) (k := 7) (lv' := [(6, .int v227), (8, .int v124), (0, .ref (eP E 69)), (1, .int u1), (2, .int u2), (3, .int u3), (4, .int u4), (5, .int 0), (7, .int w7)]) X.1 X.2.1 dX8_tell_85 hl rfl (by rw [e228]; exact congrArg _ (by decide)) (by decide) rfl (fun ls hl => ?_)
        refine lv_goto (tgt := 312) X.1 X.2.1 dX8_tell_88 (by decide) ?_
        obtain ⟨v229, e230, hf⟩ := b_bnd hf
        refine lv_iinc (v := v229) (k := 8) (lv' := [(7, .int v229), (6, .int v227), (8, .int v124), (0, .ref (eP E 69)), (1, .int u1), (2, .int u2), (3, .int u3), (4, .int u4), (5, .int 0)]) X.1 X.2.1 dX8_tell_312 hl rfl (by rw [e230]; exact congrArg _ (by decide)) (by decide) rfl (fun ls hl => ?_)
        refine lv_goto (tgt := 39) X.1 X.2.1 dX8_tell_315 (by decide) ?_
        obtain rfl := Option.some.inj hf
        exact ih _ _ _ (hr1 _ rfl) _ _ _ hw (lv_sub hl [3, 4, 5, 6, 7, 8, 1, 0] rfl) K1
