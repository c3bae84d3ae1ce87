set_option maxHeartbeats 4000000 in
set_option maxRecDepth 100000 in
theorem w_X2_readTerm_15 {p : Program} {l : Launch} {e : Env} {s : State} {m : MethodId} {args : Array Value} {below : List Frame} {meth : Method} {c : Code} {Q : State → Prop} {E : en_T} (X : Cx E p s m args meth c cX2_readTerm 3 RX2 (some .boolean)) (hR : ShR E) {rec : Nat → Int32 → sg_T → Option (Int32 × sg_T)} {n0 : Nat} (ih_X2_readE : ∀ {x1 : Int32} {σ : sg_T} {r : Int32} {σ' : sg_T}, rec 0 x1 σ = some (r, σ') → Ct l yX2_readE cX2_readE 3 (some .boolean) (rm_read n0) E [.ref (eP E 1), .int x1] σ (some (.int r)) σ') (ih_X2_readAnd : ∀ {x1 : Int32} {σ : sg_T} {r : Int32} {σ' : sg_T}, rec 1 x1 σ = some (r, σ') → Ct l yX2_readAnd cX2_readAnd 3 (some .boolean) (rm_read n0) E [.ref (eP E 1), .int x1] σ (some (.int r)) σ') (ih_X2_readNot : ∀ {x1 : Int32} {σ : sg_T} {r : Int32} {σ' : sg_T}, rec 2 x1 σ = some (r, σ') → Ct l yX2_readNot cX2_readNot 4 (some .boolean) (rm_read n0) E [.ref (eP E 1), .int x1] σ (some (.int r)) σ') (ih_X2_readSum : ∀ {x1 : Int32} {σ : sg_T} {r : Int32} {σ' : sg_T}, rec 3 x1 σ = some (r, σ') → Ct l yX2_readSum cX2_readSum 4 (some .boolean) (rm_read n0) E [.ref (eP E 1), .int x1] σ (some (.int r)) σ') (ih_X2_readTerm : ∀ {x1 : Int32} {σ : sg_T} {r : Int32} {σ' : sg_T}, rec 4 x1 σ = some (r, σ') → Ct l yX2_readTerm cX2_readTerm 3 (some .boolean) (rm_read n0) E [.ref (eP E 1), .int x1] σ (some (.int r)) σ') (ih_X2_readOne : ∀ {x1 : Int32} {σ : sg_T} {r : Int32} {σ' : sg_T}, rec 5 x1 σ = some (r, σ') → Ct l yX2_readOne cX2_readOne 4 (some .boolean) (rm_read n0) E [.ref (eP E 1), .int x1] σ (some (.int r)) σ') {u1 : Int32}  {res : (Int32 × sg_T) ⊕ (Int32 × sg_T)} :
    ∀ (n : Nat) (w2 : Int32) (σ : sg_T), itr (fun q => b_X2_readTerm_15 rec u1 q.1 q.2) n (w2, σ) = some res → ∀ (H : Heap) (locs : List Loc) (ls : Array Slot), Hw E σ s H locs → lv_has ls 3 [(0, .ref (eP E 1)), (1, .int u1), (2, .int w2)] →
    (∀ (y2 : Int32) (τ : sg_T), res = .inl (y2, τ) → ∀ (H : Heap) (locs : List Loc) (ls : Array Slot), Hw E τ s H locs → lv_has ls 3 [(0, .ref (eP E 1)), (1, .int u1), (2, .int y2)] → W p l e (rm_read (n0 + 1)) s m args below meth c H locs 0 0 Q (F0 m 53 ls [])) →
    (∀ (r : Int32) (σ' : sg_T), res = .inr (r, σ') → Q = MQ below (Qf E (some (.int r)) σ') args s 0 0 (en_A E)) →
    W p l e (rm_read (n0 + 1)) s m args below meth c H locs 0 0 Q (F0 m 15 ls []) := by
  intro n
  induction n with
  | zero =>
    intro w2 σ hf0
    exact (itr_0 hf0).elim
  | succ n ih =>
    intro w2 σ hf0 H locs ls hw hl K1 K2
    obtain ⟨r0, hf, hr1, hr2⟩ := itr_s hf0
    have hf : b_X2_readTerm_15 rec u1 w2 σ = some r0 := hf
    unfold b_X2_readTerm_15 at hf
    refine lv_iload_n X.1 X.2.1 dX2_readTerm_15 rfl (lv_at hl 2 rfl) ?_
    refine lv_if_le (tgt := 53) X.1 X.2.1 dX2_readTerm_16 (by decide) (fun c6 => ?_) (fun c6 => ?_)
    · have hf := if_t hf c6
      obtain rfl := Option.some.inj hf
      obtain rfl := hr2 _ rfl
      exact K1 _ _ rfl _ _ _ hw (lv_sub hl [0, 1, 2] rfl)
    · have hf := if_e hf c6
      refine lv_aload_n X.1 X.2.1 dX2_readTerm_19 rfl (lv_at hl 0 rfl) ?_
      refine lv_bipush (v := 42) X.1 X.2.1 dX2_readTerm_20 (by decide) ?_
      obtain ⟨r8, σ9, h7, hf⟩ := b_bd2 hf
      refine r_callV X hw (k_X2_pass hR  h7) (sp1 hR) (C := RX2) (T := TX2) (N := 8) rfl qw266 qw268 qw7 qw68 qw269 okX2_pass ⟨rfl, rfl⟩ ⟨(Nat.le_trans (m := 40) (Nat.le_of_ble_eq_true rfl) (Nat.le_add_left _ _)), (Nat.le_trans (m := 4000) (Nat.le_of_ble_eq_true rfl) (Nat.le_add_left _ _))⟩ ⟨Nat.zero_le _, Nat.zero_le _⟩ rfl hl.1 (rest := []) rfl (Nat.le_of_ble_eq_true rfl) dX2_readTerm_22 (st1 := [.int r8]) rfl (fun H locs hw => ?_)
      refine lv_if_eq (tgt := 53) X.1 X.2.1 dX2_readTerm_25 (by decide) (fun c10 => ?_) (fun c10 => ?_)
      · have hf := if_t hf c10
        obtain rfl := Option.some.inj hf
        obtain rfl := hr2 _ rfl
        exact K1 _ _ rfl _ _ _ hw (lv_sub hl [0, 1, 2] rfl)
      · have hf := if_e hf c10
        refine lv_aload_n X.1 X.2.1 dX2_readTerm_28 rfl (lv_at hl 0 rfl) ?_
        refine lv_iload_n X.1 X.2.1 dX2_readTerm_29 rfl (lv_at hl 1 rfl) ?_
        obtain ⟨r12, σ13, h11, hf⟩ := b_bd2 hf
        refine r_callV X hw (ih_X2_readOne  h11) (sp1 hR) (C := RX2) (T := TX2) (N := 8) rfl qw302 qw304 qw14 qw68 qw305 okX2_readOne ⟨rfl, rfl⟩ (rm_read_ok n0 (by decide)) ⟨Nat.zero_le _, Nat.zero_le _⟩ rfl hl.1 (rest := []) rfl (Nat.le_of_ble_eq_true rfl) dX2_readTerm_30 (st1 := [.int r12]) rfl (fun H locs hw => ?_)
        refine lv_if_ne (tgt := 38) X.1 X.2.1 dX2_readTerm_33 (by decide) (fun c14 => ?_) (fun c14 => ?_)
        · have hf := if_e hf c14
          refine lv_aload_n X.1 X.2.1 dX2_readTerm_38 rfl (lv_at hl 0 rfl) ?_
          obtain ⟨h15, h16, hf⟩ := b_cT hf
          refine r_get X hw (sp1 hR) (C := RX2) (T := TX2) (N := 8) rfl iwX2 7 (by decide) (Nat.le_of_ble_eq_true rfl) qw104 (v := .ref (eP E ((σ13 1 7).toNatClampNeg))) (fv_dyn h16) dX2_readTerm_39 ?_
          refine lv_bipush (v := 42) X.1 X.2.1 dX2_readTerm_42 (by decide) ?_
          obtain ⟨σ18, h17, hf⟩ := b_bd1 hf
          refine r_callV X hw (k_X5_addStep hR h15 h17) (spT0 hR h15) (C := RX5) (T := TX5) (N := 3) rfl qw286 qw287 qw288 qw70 qw289 okX5_addStep ⟨rfl, rfl⟩ ⟨(Nat.le_trans (m := 40) (Nat.le_of_ble_eq_true rfl) (Nat.le_add_left _ _)), (Nat.le_trans (m := 4000) (Nat.le_of_ble_eq_true rfl) (Nat.le_add_left _ _))⟩ ⟨Nat.zero_le _, Nat.zero_le _⟩ rfl hl.1 (rest := []) rfl (Nat.le_of_ble_eq_true rfl) dX2_readTerm_44 (st1 := []) rfl (fun H locs hw => ?_)
          obtain ⟨v19, e20, hf⟩ := b_bnd hf
          refine lv_iinc (v := v19) (k := 2) (lv' := [(2, .int v19), (0, .ref (eP E 1)), (1, .int u1)]) X.1 X.2.1 dX2_readTerm_47 hl rfl (by rw [e20]; exact congrArg _ (by decide)) (by decide) rfl (fun ls hl => ?_)
          refine lv_goto (tgt := 15) X.1 X.2.1 dX2_readTerm_50 (by decide) ?_
          obtain rfl := Option.some.inj hf
          exact ih _ _ (hr1 _ rfl) _ _ _ hw (lv_sub hl [1, 2, 0] rfl) K1 K2
        · have hf := if_t hf c14
          refine lv_iconst (v := 0) X.1 X.2.1 dX2_readTerm_36 (by decide) ?_
          obtain rfl := Option.some.inj hf
          obtain rfl := hr2 _ rfl
          rw [K2 _ _ rfl]
          exact r_zret X hw (by decide) dX2_readTerm_37
set_option maxHeartbeats 4000000 in
set_option maxRecDepth 100000 in
theorem k_X2_readTerm {l : Launch} {E : en_T} (hR : ShR E) {rec : Nat → Int32 → sg_T → Option (Int32 × sg_T)} {n0 : Nat} (ih_X2_readE : ∀ {x1 : Int32} {σ : sg_T} {r : Int32} {σ' : sg_T}, rec 0 x1 σ = some (r, σ') → Ct l yX2_readE cX2_readE 3 (some .boolean) (rm_read n0) E [.ref (eP E 1), .int x1] σ (some (.int r)) σ') (ih_X2_readAnd : ∀ {x1 : Int32} {σ : sg_T} {r : Int32} {σ' : sg_T}, rec 1 x1 σ = some (r, σ') → Ct l yX2_readAnd cX2_readAnd 3 (some .boolean) (rm_read n0) E [.ref (eP E 1), .int x1] σ (some (.int r)) σ') (ih_X2_readNot : ∀ {x1 : Int32} {σ : sg_T} {r : Int32} {σ' : sg_T}, rec 2 x1 σ = some (r, σ') → Ct l yX2_readNot cX2_readNot 4 (some .boolean) (rm_read n0) E [.ref (eP E 1), .int x1] σ (some (.int r)) σ') (ih_X2_readSum : ∀ {x1 : Int32} {σ : sg_T} {r : Int32} {σ' : sg_T}, rec 3 x1 σ = some (r, σ') → Ct l yX2_readSum cX2_readSum 4 (some .boolean) (rm_read n0) E [.ref (eP E 1), .int x1] σ (some (.int r)) σ') (ih_X2_readTerm : ∀ {x1 : Int32} {σ : sg_T} {r : Int32} {σ' : sg_T}, rec 4 x1 σ = some (r, σ') → Ct l yX2_readTerm cX2_readTerm 3 (some .boolean) (rm_read n0) E [.ref (eP E 1), .int x1] σ (some (.int r)) σ') (ih_X2_readOne : ∀ {x1 : Int32} {σ : sg_T} {r : Int32} {σ' : sg_T}, rec 5 x1 σ = some (r, σ') → Ct l yX2_readOne cX2_readOne 4 (some .boolean) (rm_read n0) E [.ref (eP E 1), .int x1] σ (some (.int r)) σ') {x1 : Int32} {σ : sg_T} {r : Int32} {σ' : sg_T} (hf : f_X2_readTerm rec x1 σ = some (r, σ')) : Ct l yX2_readTerm cX2_readTerm 3 (some .boolean) (rm_read (n0 + 1)) E [.ref (eP E 1), .int x1] σ (some (.int r)) σ' := by
  refine Ct.start (by decide) hR.1 (Nat.le_of_ble_eq_true rfl) ?_
  intro p e s m below meth c X hw ls hl
  have X : Cx E p s m _ meth c cX2_readTerm 3 RX2 (some .boolean) := X
  have hl : lv_has ls 3 [(0, .ref (eP E 1)), (1, .int x1)] := hl
  unfold f_X2_readTerm at hf
  refine lv_aload_n X.1 X.2.1 dX2_readTerm_0 rfl (lv_at hl 0 rfl) ?_
  refine lv_iload_n X.1 X.2.1 dX2_readTerm_1 rfl (lv_at hl 1 rfl) ?_
  obtain ⟨r2, σ3, h1, hf⟩ := b_bd2 hf
  refine r_callV X hw (ih_X2_readOne  h1) (sp1 hR) (C := RX2) (T := TX2) (N := 8) rfl qw302 qw304 qw14 qw68 qw305 okX2_readOne ⟨rfl, rfl⟩ (rm_read_ok n0 (by decide)) ⟨Nat.zero_le _, Nat.zero_le _⟩ rfl hl.1 (rest := []) rfl (Nat.le_of_ble_eq_true rfl) dX2_readTerm_2 (st1 := [.int r2]) rfl (fun H locs hw => ?_)
  refine lv_if_ne (tgt := 10) X.1 X.2.1 dX2_readTerm_5 (by decide) (fun c4 => ?_) (fun c4 => ?_)
  · have hf := if_e hf c4
    refine lv_aload_n X.1 X.2.1 dX2_readTerm_10 rfl (lv_at hl 0 rfl) ?_
    refine r_get X hw (sp1 hR) (C := RX2) (T := TX2) (N := 8) rfl iwX2 5 (by decide) (Nat.le_of_ble_eq_true rfl) qw102 (v := .int (σ3 1 5)) rfl dX2_readTerm_11 ?_
    refine r_bnd hf (fun v5 hf => ?_)
    refine lv_istore_n (lv' := [(2, .int v5), (0, .ref (eP E 1)), (1, .int x1)]) X.1 X.2.1 dX2_readTerm_14 rfl hl (by decide) rfl (fun ls hl => ?_)
    obtain ⟨r24, h21, hf⟩ := b_bs hf
    rcases hf with ⟨⟨v22, σ23⟩, rfl, hf⟩ | ⟨⟨r25, σ26⟩, rfl, hf⟩
    · refine w_X2_readTerm_15 X hR ih_X2_readE ih_X2_readAnd ih_X2_readNot ih_X2_readSum ih_X2_readTerm ih_X2_readOne  lfu _ _ h21 _ _ _ hw (lv_sub hl [1, 2, 0] rfl) (fun yv22 yσ23 hq H locs ls hw hl => ?_) (fun _ _ hq => by cases hq)
      cases hq
      dsimp only at hf
      refine lv_iconst (v := 1) X.1 X.2.1 dX2_readTerm_53 (by decide) ?_
      obtain ⟨rfl, rfl⟩ := Prod.mk.inj (Option.some.inj hf)
      exact r_zret X hw (by decide) dX2_readTerm_54
    · refine w_X2_readTerm_15 X hR ih_X2_readE ih_X2_readAnd ih_X2_readNot ih_X2_readSum ih_X2_readTerm ih_X2_readOne  lfu _ _ h21 _ _ _ hw (lv_sub hl [1, 2, 0] rfl) (fun _ _ hq => by cases hq) (fun _ _ hq => ?_)
      cases hq
      cases hf
      rfl
  · have hf := if_t hf c4
    refine lv_iconst (v := 0) X.1 X.2.1 dX2_readTerm_8 (by decide) ?_
    obtain ⟨rfl, rfl⟩ := Prod.mk.inj (Option.some.inj hf)
    exact r_zret X hw (by decide) dX2_readTerm_9
set_option maxHeartbeats 4000000 in
set_option maxRecDepth 100000 in
theorem w_X2_readSum_15 {p : Program} {l : Launch} {e : Env} {s : State} {m : MethodId} {args : Array Value} {below : List Frame} {meth : Method} {c : Code} {Q : State → Prop} {E : en_T} (X : Cx E p s m args meth c cX2_readSum 4 RX2 (some .boolean)) (hR : ShR E) {rec : Nat → Int32 → sg_T → Option (Int32 × sg_T)} {n0 : Nat} (ih_X2_readE : ∀ {x1 : Int32} {σ : sg_T} {r : Int32} {σ' : sg_T}, rec 0 x1 σ = some (r, σ') → Ct l yX2_readE cX2_readE 3 (some .boolean) (rm_read n0) E [.ref (eP E 1), .int x1] σ (some (.int r)) σ') (ih_X2_readAnd : ∀ {x1 : Int32} {σ : sg_T} {r : Int32} {σ' : sg_T}, rec 1 x1 σ = some (r, σ') → Ct l yX2_readAnd cX2_readAnd 3 (some .boolean) (rm_read n0) E [.ref (eP E 1), .int x1] σ (some (.int r)) σ') (ih_X2_readNot : ∀ {x1 : Int32} {σ : sg_T} {r : Int32} {σ' : sg_T}, rec 2 x1 σ = some (r, σ') → Ct l yX2_readNot cX2_readNot 4 (some .boolean) (rm_read n0) E [.ref (eP E 1), .int x1] σ (some (.int r)) σ') (ih_X2_readSum : ∀ {x1 : Int32} {σ : sg_T} {r : Int32} {σ' : sg_T}, rec 3 x1 σ = some (r, σ') → Ct l yX2_readSum cX2_readSum 4 (some .boolean) (rm_read n0) E [.ref (eP E 1), .int x1] σ (some (.int r)) σ') (ih_X2_readTerm : ∀ {x1 : Int32} {σ : sg_T} {r : Int32} {σ' : sg_T}, rec 4 x1 σ = some (r, σ') → Ct l yX2_readTerm cX2_readTerm 3 (some .boolean) (rm_read n0) E [.ref (eP E 1), .int x1] σ (some (.int r)) σ') (ih_X2_readOne : ∀ {x1 : Int32} {σ : sg_T} {r : Int32} {σ' : sg_T}, rec 5 x1 σ = some (r, σ') → Ct l yX2_readOne cX2_readOne 4 (some .boolean) (rm_read n0) E [.ref (eP E 1), .int x1] σ (some (.int r)) σ') {u1 : Int32}  {res : (Int32 × sg_T) ⊕ (Int32 × sg_T)} :
    ∀ (n : Nat) (w2 : Int32) (σ : sg_T), itr (fun q => b_X2_readSum_15 rec u1 q.1 q.2) n (w2, σ) = some res → ∀ (H : Heap) (locs : List Loc) (ls : Array Slot), Hw E σ s H locs → lv_has ls 4 [(0, .ref (eP E 1)), (1, .int u1), (2, .int w2)] →
    (∀ (y2 : Int32) (τ : sg_T), res = .inl (y2, τ) → ∀ (H : Heap) (locs : List Loc) (ls : Array Slot), Hw E τ s H locs → lv_has ls 4 [(0, .ref (eP E 1)), (1, .int u1), (2, .int y2)] → W p l e (rm_read (n0 + 1)) s m args below meth c H locs 0 0 Q (F0 m 76 ls [])) →
    (∀ (r : Int32) (σ' : sg_T), res = .inr (r, σ') → Q = MQ below (Qf E (some (.int r)) σ') args s 0 0 (en_A E)) →
    W p l e (rm_read (n0 + 1)) s m args below meth c H locs 0 0 Q (F0 m 15 ls []) := by
  intro n
  induction n with
  | zero =>
    intro w2 σ hf0
    exact (itr_0 hf0).elim
  | succ n ih =>
    intro w2 σ hf0 H locs ls hw hl K1 K2
    obtain ⟨r0, hf, hr1, hr2⟩ := itr_s hf0
    have hf : b_X2_readSum_15 rec u1 w2 σ = some r0 := hf
    unfold b_X2_readSum_15 at hf
    refine lv_iload_n X.1 X.2.1 dX2_readSum_15 rfl (lv_at hl 2 rfl) ?_
    refine lv_if_le (tgt := 76) X.1 X.2.1 dX2_readSum_16 (by decide) (fun c6 => ?_) (fun c6 => ?_)
    · have hf := if_t hf c6
      obtain rfl := Option.some.inj hf
      obtain rfl := hr2 _ rfl
      exact K1 _ _ rfl _ _ _ hw (lv_sub hl [0, 1, 2] rfl)
    · have hf := if_e hf c6
      refine lv_aload_n X.1 X.2.1 dX2_readSum_19 rfl (lv_at hl 0 rfl) ?_
      obtain ⟨r8, h7, hf⟩ := b_bd1 hf
      refine r_callV X hw (k_X2_now hR  h7) (sp1 hR) (C := RX2) (T := TX2) (N := 8) rfl qw270 qw272 qw8 qw68 qw273 okX2_now ⟨rfl, rfl⟩ ⟨(Nat.le_trans (m := 40) (Nat.le_of_ble_eq_true rfl) (Nat.le_add_left _ _)), (Nat.le_trans (m := 4000) (Nat.le_of_ble_eq_true rfl) (Nat.le_add_left _ _))⟩ ⟨Nat.zero_le _, Nat.zero_le _⟩ rfl hl.1 (rest := []) rfl (Nat.le_of_ble_eq_true rfl) dX2_readSum_20 (st1 := [.int r8]) rfl (fun H locs hw => ?_)
      refine lv_bipush (v := 43) X.1 X.2.1 dX2_readSum_23 (by decide) ?_
      refine lv_icmp_eq (tgt := 37) X.1 X.2.1 dX2_readSum_25 (by decide) (fun c9 => ?_) (fun c9 => ?_)
      · have hf := if_t hf c9
        refine lv_aload_n X.1 X.2.1 dX2_readSum_37 rfl (lv_at hl 0 rfl) ?_
        obtain ⟨r11, h10, hf⟩ := b_bd1 hf
        refine r_callV X hw (k_X2_now hR  h10) (sp1 hR) (C := RX2) (T := TX2) (N := 8) rfl qw270 qw272 qw8 qw68 qw273 okX2_now ⟨rfl, rfl⟩ ⟨(Nat.le_trans (m := 40) (Nat.le_of_ble_eq_true rfl) (Nat.le_add_left _ _)), (Nat.le_trans (m := 4000) (Nat.le_of_ble_eq_true rfl) (Nat.le_add_left _ _))⟩ ⟨Nat.zero_le _, Nat.zero_le _⟩ rfl hl.1 (rest := []) rfl (Nat.le_of_ble_eq_true rfl) dX2_readSum_38 (st1 := [.int r11]) rfl (fun H locs hw => ?_)
        refine lv_istore_n (lv' := [(3, .int r11), (0, .ref (eP E 1)), (1, .int u1), (2, .int w2)]) X.1 X.2.1 dX2_readSum_41 rfl hl (by decide) rfl (fun ls hl => ?_)
        refine lv_aload_n X.1 X.2.1 dX2_readSum_42 rfl (lv_at hl 1 rfl) ?_
        refine lv_dup X.1 X.2.1 dX2_readSum_43 rfl ?_
        refine r_get X hw (sp1 hR) (C := RX2) (T := TX2) (N := 8) rfl iwX2 6 (by decide) (Nat.le_of_ble_eq_true rfl) qw103 (v := .int (σ 1 6)) rfl dX2_readSum_44 ?_
        refine lv_iconst (v := 1) X.1 X.2.1 dX2_readSum_47 (by decide) ?_
        refine lv_iadd X.1 X.2.1 dX2_readSum_48 ?_
        refine r_put X hw (sp1 hR) (C := RX2) (T := TX2) (N := 8) rfl iwX2 tyX2 tyX2_ok nmX2 6 (by decide) (Nat.le_of_ble_eq_true rfl) qw103 rfl (v := .int ((σ 1 6) + 1)) rfl rfl (x := ((σ 1 6) + 1)) rfl dX2_readSum_49 (fun H locs hw => ?_)
        obtain ⟨σ12, e13, hf⟩ := b_bnd hf
        rw [← e13] at hw
        refine lv_aload_n X.1 X.2.1 dX2_readSum_52 rfl (lv_at hl 1 rfl) ?_
        refine lv_iload_n X.1 X.2.1 dX2_readSum_53 rfl (lv_at hl 2 rfl) ?_
        obtain ⟨r15, σ16, h14, hf⟩ := b_bd2 hf
        refine r_callV X hw (ih_X2_readTerm  h14) (sp1 hR) (C := RX2) (T := TX2) (N := 8) rfl qw298 qw300 qw13 qw68 qw301 okX2_readTerm ⟨rfl, rfl⟩ (rm_read_ok n0 (by decide)) ⟨Nat.zero_le _, Nat.zero_le _⟩ rfl hl.1 (rest := []) rfl (Nat.le_of_ble_eq_true rfl) dX2_readSum_54 (st1 := [.int r15]) rfl (fun H locs hw => ?_)
        refine lv_if_ne (tgt := 62) X.1 X.2.1 dX2_readSum_57 (by decide) (fun c17 => ?_) (fun c17 => ?_)
        · have hf := if_e hf c17
          refine lv_aload_n X.1 X.2.1 dX2_readSum_62 rfl (lv_at hl 1 rfl) ?_
          obtain ⟨h18, h19, hf⟩ := b_cT hf
          refine r_get X hw (sp1 hR) (C := RX2) (T := TX2) (N := 8) rfl iwX2 7 (by decide) (Nat.le_of_ble_eq_true rfl) qw104 (v := .ref (eP E ((σ16 1 7).toNatClampNeg))) (fv_dyn h19) dX2_readSum_63 ?_
          refine lv_iload_n X.1 X.2.1 dX2_readSum_66 rfl (lv_at hl 0 rfl) ?_
          obtain ⟨σ21, h20, hf⟩ := b_bd1 hf
          refine r_callV X hw (k_X5_addStep hR h18 h20) (spT0 hR h18) (C := RX5) (T := TX5) (N := 3) rfl qw286 qw287 qw288 qw70 qw289 okX5_addStep ⟨rfl, rfl⟩ ⟨(Nat.le_trans (m := 40) (Nat.le_of_ble_eq_true rfl) (Nat.le_add_left _ _)), (Nat.le_trans (m := 4000) (Nat.le_of_ble_eq_true rfl) (Nat.le_add_left _ _))⟩ ⟨Nat.zero_le _, Nat.zero_le _⟩ rfl hl.1 (rest := []) rfl (Nat.le_of_ble_eq_true rfl) dX2_readSum_67 (st1 := []) rfl (fun H locs hw => ?_)
          obtain ⟨v22, e23, hf⟩ := b_bnd hf
          refine lv_iinc (v := v22) (k := 3) (lv' := [(2, .int v22), (3, .int r11), (0, .ref (eP E 1)), (1, .int u1)]) X.1 X.2.1 dX2_readSum_70 hl rfl (by rw [e23]; exact congrArg _ (by decide)) (by decide) rfl (fun ls hl => ?_)
          refine lv_goto (tgt := 15) X.1 X.2.1 dX2_readSum_73 (by decide) ?_
          obtain rfl := Option.some.inj hf
          exact ih _ _ (hr1 _ rfl) _ _ _ hw (lv_sub hl [2, 3, 0] rfl) K1 K2
        · have hf := if_t hf c17
          refine lv_iconst (v := 0) X.1 X.2.1 dX2_readSum_60 (by decide) ?_
          obtain rfl := Option.some.inj hf
          obtain rfl := hr2 _ rfl
          rw [K2 _ _ rfl]
          exact r_zret X hw (by decide) dX2_readSum_61
      · have hf := if_e hf c9
        refine lv_aload_n X.1 X.2.1 dX2_readSum_28 rfl (lv_at hl 0 rfl) ?_
        obtain ⟨r25, h24, hf⟩ := b_bd1 hf
        refine r_callV X hw (k_X2_now hR  h24) (sp1 hR) (C := RX2) (T := TX2) (N := 8) rfl qw270 qw272 qw8 qw68 qw273 okX2_now ⟨rfl, rfl⟩ ⟨(Nat.le_trans (m := 40) (Nat.le_of_ble_eq_true rfl) (Nat.le_add_left _ _)), (Nat.le_trans (m := 4000) (Nat.le_of_ble_eq_true rfl) (Nat.le_add_left _ _))⟩ ⟨Nat.zero_le _, Nat.zero_le _⟩ rfl hl.1 (rest := []) rfl (Nat.le_of_ble_eq_true rfl) dX2_readSum_29 (st1 := [.int r25]) rfl (fun H locs hw => ?_)
        refine lv_bipush (v := 45) X.1 X.2.1 dX2_readSum_32 (by decide) ?_
        refine lv_icmp_ne (tgt := 76) X.1 X.2.1 dX2_readSum_34 (by decide) (fun c26 => ?_) (fun c26 => ?_)
        · have hf := if_e hf c26
          obtain rfl := Option.some.inj hf
          obtain rfl := hr2 _ rfl
          exact K1 _ _ rfl _ _ _ hw (lv_sub hl [0, 1, 2] rfl)
        · have hf := if_t hf c26
          refine lv_aload_n X.1 X.2.1 dX2_readSum_37 rfl (lv_at hl 0 rfl) ?_
          obtain ⟨r28, h27, hf⟩ := b_bd1 hf
          refine r_callV X hw (k_X2_now hR  h27) (sp1 hR) (C := RX2) (T := TX2) (N := 8) rfl qw270 qw272 qw8 qw68 qw273 okX2_now ⟨rfl, rfl⟩ ⟨(Nat.le_trans (m := 40) (Nat.le_of_ble_eq_true rfl) (Nat.le_add_left _ _)), (Nat.le_trans (m := 4000) (Nat.le_of_ble_eq_true rfl) (Nat.le_add_left _ _))⟩ ⟨Nat.zero_le _, Nat.zero_le _⟩ rfl hl.1 (rest := []) rfl (Nat.le_of_ble_eq_true rfl) dX2_readSum_38 (st1 := [.int r28]) rfl (fun H locs hw => ?_)
          refine lv_istore_n (lv' := [(3, .int r28), (0, .ref (eP E 1)), (1, .int u1), (2, .int w2)]) X.1 X.2.1 dX2_readSum_41 rfl hl (by decide) rfl (fun ls hl => ?_)
          refine lv_aload_n X.1 X.2.1 dX2_readSum_42 rfl (lv_at hl 1 rfl) ?_
          refine lv_dup X.1 X.2.1 dX2_readSum_43 rfl ?_
          refine r_get X hw (sp1 hR) (C := RX2) (T := TX2) (N := 8) rfl iwX2 6 (by decide) (Nat.le_of_ble_eq_true rfl) qw103 (v := .int (σ 1 6)) rfl dX2_readSum_44 ?_
          refine lv_iconst (v := 1) X.1 X.2.1 dX2_readSum_47 (by decide) ?_
          refine lv_iadd X.1 X.2.1 dX2_readSum_48 ?_
          refine r_put X hw (sp1 hR) (C := RX2) (T := TX2) (N := 8) rfl iwX2 tyX2 tyX2_ok nmX2 6 (by decide) (Nat.le_of_ble_eq_true rfl) qw103 rfl (v := .int ((σ 1 6) + 1)) rfl rfl (x := ((σ 1 6) + 1)) rfl dX2_readSum_49 (fun H locs hw => ?_)
          obtain ⟨σ29, e30, hf⟩ := b_bnd hf
          rw [← e30] at hw
          refine lv_aload_n X.1 X.2.1 dX2_readSum_52 rfl (lv_at hl 1 rfl) ?_
          refine lv_iload_n X.1 X.2.1 dX2_readSum_53 rfl (lv_at hl 2 rfl) ?_
          obtain ⟨r32, σ33, h31, hf⟩ := b_bd2 hf
          refine r_callV X hw (ih_X2_readTerm  h31) (sp1 hR) (C := RX2) (T := TX2) (N := 8) rfl qw298 qw300 qw13 qw68 qw301 okX2_readTerm ⟨rfl, rfl⟩ (rm_read_ok n0 (by decide)) ⟨Nat.zero_le _, Nat.zero_le _⟩ rfl hl.1 (rest := []) rfl (Nat.le_of_ble_eq_true rfl) dX2_readSum_54 (st1 := [.int r32]) rfl (fun H locs hw => ?_)
          refine lv_if_ne (tgt := 62) X.1 X.2.1 dX2_readSum_57 (by decide) (fun c34 => ?_) (fun c34 => ?_)
          · have hf := if_e hf c34
            refine lv_aload_n X.1 X.2.1 dX2_readSum_62 rfl (lv_at hl 1 rfl) ?_
            obtain ⟨h35, h36, hf⟩ := b_cT hf
            refine r_get X hw (sp1 hR) (C := RX2) (T := TX2) (N := 8) rfl iwX2 7 (by decide) (Nat.le_of_ble_eq_true rfl) qw104 (v := .ref (eP E ((σ33 1 7).toNatClampNeg))) (fv_dyn h36) dX2_readSum_63 ?_
            refine lv_iload_n X.1 X.2.1 dX2_readSum_66 rfl (lv_at hl 0 rfl) ?_
            obtain ⟨σ38, h37, hf⟩ := b_bd1 hf
            refine r_callV X hw (k_X5_addStep hR h35 h37) (spT0 hR h35) (C := RX5) (T := TX5) (N := 3) rfl qw286 qw287 qw288 qw70 qw289 okX5_addStep ⟨rfl, rfl⟩ ⟨(Nat.le_trans (m := 40) (Nat.le_of_ble_eq_true rfl) (Nat.le_add_left _ _)), (Nat.le_trans (m := 4000) (Nat.le_of_ble_eq_true rfl) (Nat.le_add_left _ _))⟩ ⟨Nat.zero_le _, Nat.zero_le _⟩ rfl hl.1 (rest := []) rfl (Nat.le_of_ble_eq_true rfl) dX2_readSum_67 (st1 := []) rfl (fun H locs hw => ?_)
            obtain ⟨v39, e40, hf⟩ := b_bnd hf
            refine lv_iinc (v := v39) (k := 3) (lv' := [(2, .int v39), (3, .int r28), (0, .ref (eP E 1)), (1, .int u1)]) X.1 X.2.1 dX2_readSum_70 hl rfl (by rw [e40]; exact congrArg _ (by decide)) (by decide) rfl (fun ls hl => ?_)
            refine lv_goto (tgt := 15) X.1 X.2.1 dX2_readSum_73 (by decide) ?_
            obtain rfl := Option.some.inj hf
            exact ih _ _ (hr1 _ rfl) _ _ _ hw (lv_sub hl [2, 3, 0] rfl) K1 K2
          · have hf := if_t hf c34
            refine lv_iconst (v := 0) X.1 X.2.1 dX2_readSum_60 (by decide) ?_
            obtain rfl := Option.some.inj hf
            obtain rfl := hr2 _ rfl
            rw [K2 _ _ rfl]
            exact r_zret X hw (by decide) dX2_readSum_61
set_option maxHeartbeats 4000000 in
set_option maxRecDepth 100000 in
theorem k_X2_readSum {l : Launch} {E : en_T} (hR : ShR E) {rec : Nat → Int32 → sg_T → Option (Int32 × sg_T)} {n0 : Nat} (ih_X2_readE : ∀ {x1 : Int32} {σ : sg_T} {r : Int32} {σ' : sg_T}, rec 0 x1 σ = some (r, σ') → Ct l yX2_readE cX2_readE 3 (some .boolean) (rm_read n0) E [.ref (eP E 1), .int x1] σ (some (.int r)) σ') (ih_X2_readAnd : ∀ {x1 : Int32} {σ : sg_T} {r : Int32} {σ' : sg_T}, rec 1 x1 σ = some (r, σ') → Ct l yX2_readAnd cX2_readAnd 3 (some .boolean) (rm_read n0) E [.ref (eP E 1), .int x1] σ (some (.int r)) σ') (ih_X2_readNot : ∀ {x1 : Int32} {σ : sg_T} {r : Int32} {σ' : sg_T}, rec 2 x1 σ = some (r, σ') → Ct l yX2_readNot cX2_readNot 4 (some .boolean) (rm_read n0) E [.ref (eP E 1), .int x1] σ (some (.int r)) σ') (ih_X2_readSum : ∀ {x1 : Int32} {σ : sg_T} {r : Int32} {σ' : sg_T}, rec 3 x1 σ = some (r, σ') → Ct l yX2_readSum cX2_readSum 4 (some .boolean) (rm_read n0) E [.ref (eP E 1), .int x1] σ (some (.int r)) σ') (ih_X2_readTerm : ∀ {x1 : Int32} {σ : sg_T} {r : Int32} {σ' : sg_T}, rec 4 x1 σ = some (r, σ') → Ct l yX2_readTerm cX2_readTerm 3 (some .boolean) (rm_read n0) E [.ref (eP E 1), .int x1] σ (some (.int r)) σ') (ih_X2_readOne : ∀ {x1 : Int32} {σ : sg_T} {r : Int32} {σ' : sg_T}, rec 5 x1 σ = some (r, σ') → Ct l yX2_readOne cX2_readOne 4 (some .boolean) (rm_read n0) E [.ref (eP E 1), .int x1] σ (some (.int r)) σ') {x1 : Int32} {σ : sg_T} {r : Int32} {σ' : sg_T} (hf : f_X2_readSum rec x1 σ = some (r, σ')) : Ct l yX2_readSum cX2_readSum 4 (some .boolean) (rm_read (n0 + 1)) E [.ref (eP E 1), .int x1] σ (some (.int r)) σ' := by
  refine Ct.start (by decide) hR.1 (Nat.le_of_ble_eq_true rfl) ?_
  intro p e s m below meth c X hw ls hl
  have X : Cx E p s m _ meth c cX2_readSum 4 RX2 (some .boolean) := X
  have hl : lv_has ls 4 [(0, .ref (eP E 1)), (1, .int x1)] := hl
  unfold f_X2_readSum at hf
  refine lv_aload_n X.1 X.2.1 dX2_readSum_0 rfl (lv_at hl 0 rfl) ?_
  refine lv_iload_n X.1 X.2.1 dX2_readSum_1 rfl (lv_at hl 1 rfl) ?_
  obtain ⟨r2, σ3, h1, hf⟩ := b_bd2 hf
  refine r_callV X hw (ih_X2_readTerm  h1) (sp1 hR) (C := RX2) (T := TX2) (N := 8) rfl qw298 qw300 qw13 qw68 qw301 okX2_readTerm ⟨rfl, rfl⟩ (rm_read_ok n0 (by decide)) ⟨Nat.zero_le _, Nat.zero_le _⟩ rfl hl.1 (rest := []) rfl (Nat.le_of_ble_eq_true rfl) dX2_readSum_2 (st1 := [.int r2]) rfl (fun H locs hw => ?_)
  refine lv_if_ne (tgt := 10) X.1 X.2.1 dX2_readSum_5 (by decide) (fun c4 => ?_) (fun c4 => ?_)
  · have hf := if_e hf c4
    refine lv_aload_n X.1 X.2.1 dX2_readSum_10 rfl (lv_at hl 0 rfl) ?_
    refine r_get X hw (sp1 hR) (C := RX2) (T := TX2) (N := 8) rfl iwX2 5 (by decide) (Nat.le_of_ble_eq_true rfl) qw102 (v := .int (σ3 1 5)) rfl dX2_readSum_11 ?_
    refine r_bnd hf (fun v5 hf => ?_)
    refine lv_istore_n (lv' := [(2, .int v5), (0, .ref (eP E 1)), (1, .int x1)]) X.1 X.2.1 dX2_readSum_14 rfl hl (by decide) rfl (fun ls hl => ?_)
    obtain ⟨r44, h41, hf⟩ := b_bs hf
    rcases hf with ⟨⟨v42, σ43⟩, rfl, hf⟩ | ⟨⟨r45, σ46⟩, rfl, hf⟩
    · refine w_X2_readSum_15 X hR ih_X2_readE ih_X2_readAnd ih_X2_readNot ih_X2_readSum ih_X2_readTerm ih_X2_readOne  lfu _ _ h41 _ _ _ hw (lv_sub hl [1, 2, 0] rfl) (fun yv42 yσ43 hq H locs ls hw hl => ?_) (fun _ _ hq => by cases hq)
      cases hq
      dsimp only at hf
      refine lv_iconst (v := 1) X.1 X.2.1 dX2_readSum_76 (by decide) ?_
      obtain ⟨rfl, rfl⟩ := Prod.mk.inj (Option.some.inj hf)
      exact r_zret X hw (by decide) dX2_readSum_77
    · refine w_X2_readSum_15 X hR ih_X2_readE ih_X2_readAnd ih_X2_readNot ih_X2_readSum ih_X2_readTerm ih_X2_readOne  lfu _ _ h41 _ _ _ hw (lv_sub hl [1, 2, 0] rfl) (fun _ _ hq => by cases hq) (fun _ _ hq => ?_)
      cases hq
      cases hf
      rfl
  · have hf := if_t hf c4
    refine lv_iconst (v := 0) X.1 X.2.1 dX2_readSum_8 (by decide) ?_
    obtain ⟨rfl, rfl⟩ := Prod.mk.inj (Option.some.inj hf)
    exact r_zret X hw (by decide) dX2_readSum_9
set_option maxHeartbeats 4000000 in
set_option maxRecDepth 100000 in
theorem k_X2_readNot {l : Launch} {E : en_T} (hR : ShR E) {rec : Nat → Int32 → sg_T → Option (Int32 × sg_T)} {n0 : Nat} (ih_X2_readE : ∀ {x1 : Int32} {σ : sg_T} {r : Int32} {σ' : sg_T}, rec 0 x1 σ = some (r, σ') → Ct l yX2_readE cX2_readE 3 (some .boolean) (rm_read n0) E [.ref (eP E 1), .int x1] σ (some (.int r)) σ') (ih_X2_readAnd : ∀ {x1 : Int32} {σ : sg_T} {r : Int32} {σ' : sg_T}, rec 1 x1 σ = some (r, σ') → Ct l yX2_readAnd cX2_readAnd 3 (some .boolean) (rm_read n0) E [.ref (eP E 1), .int x1] σ (some (.int r)) σ') (ih_X2_readNot : ∀ {x1 : Int32} {σ : sg_T} {r : Int32} {σ' : sg_T}, rec 2 x1 σ = some (r, σ') → Ct l yX2_readNot cX2_readNot 4 (some .boolean) (rm_read n0) E [.ref (eP E 1), .int x1] σ (some (.int r)) σ') (ih_X2_readSum : ∀ {x1 : Int32} {σ : sg_T} {r : Int32} {σ' : sg_T}, rec 3 x1 σ = some (r, σ') → Ct l yX2_readSum cX2_readSum 4 (some .boolean) (rm_read n0) E [.ref (eP E 1), .int x1] σ (some (.int r)) σ') (ih_X2_readTerm : ∀ {x1 : Int32} {σ : sg_T} {r : Int32} {σ' : sg_T}, rec 4 x1 σ = some (r, σ') → Ct l yX2_readTerm cX2_readTerm 3 (some .boolean) (rm_read n0) E [.ref (eP E 1), .int x1] σ (some (.int r)) σ') (ih_X2_readOne : ∀ {x1 : Int32} {σ : sg_T} {r : Int32} {σ' : sg_T}, rec 5 x1 σ = some (r, σ') → Ct l yX2_readOne cX2_readOne 4 (some .boolean) (rm_read n0) E [.ref (eP E 1), .int x1] σ (some (.int r)) σ') {x1 : Int32} {σ : sg_T} {r : Int32} {σ' : sg_T} (hf : f_X2_readNot rec x1 σ = some (r, σ')) : Ct l yX2_readNot cX2_readNot 4 (some .boolean) (rm_read (n0 + 1)) E [.ref (eP E 1), .int x1] σ (some (.int r)) σ' := by
  refine Ct.start (by decide) hR.1 (Nat.le_of_ble_eq_true rfl) ?_
  intro p e s m below meth c X hw ls hl
  have X : Cx E p s m _ meth c cX2_readNot 4 RX2 (some .boolean) := X
  have hl : lv_has ls 4 [(0, .ref (eP E 1)), (1, .int x1)] := hl
  unfold f_X2_readNot at hf
  refine lv_aload_n X.1 X.2.1 dX2_readNot_0 rfl (lv_at hl 0 rfl) ?_
  obtain ⟨r2, h1, hf⟩ := b_bd1 hf
  refine r_callV X hw (k_X2_now hR  h1) (sp1 hR) (C := RX2) (T := TX2) (N := 8) rfl qw270 qw272 qw8 qw68 qw273 okX2_now ⟨rfl, rfl⟩ ⟨(Nat.le_trans (m := 40) (Nat.le_of_ble_eq_true rfl) (Nat.le_add_left _ _)), (Nat.le_trans (m := 4000) (Nat.le_of_ble_eq_true rfl) (Nat.le_add_left _ _))⟩ ⟨Nat.zero_le _, Nat.zero_le _⟩ rfl hl.1 (rest := []) rfl (Nat.le_of_ble_eq_true rfl) dX2_readNot_1 (st1 := [.int r2]) rfl (fun H locs hw => ?_)
  refine lv_bipush (v := 11) X.1 X.2.1 dX2_readNot_4 (by decide) ?_
  refine lv_icmp_ne (tgt := 45) X.1 X.2.1 dX2_readNot_6 (by decide) (fun c3 => ?_) (fun c3 => ?_)
  · have hf := if_e hf c3
    refine lv_aload_n X.1 X.2.1 dX2_readNot_45 rfl (lv_at hl 0 rfl) ?_
    refine lv_iload_n X.1 X.2.1 dX2_readNot_46 rfl (lv_at hl 1 rfl) ?_
    obtain ⟨r5, σ6, h4, hf⟩ := b_bd2 hf
    refine r_callV X hw (ih_X2_readSum  h4) (sp1 hR) (C := RX2) (T := TX2) (N := 8) rfl qw294 qw296 qw12 qw68 qw297 okX2_readSum ⟨rfl, rfl⟩ (rm_read_ok n0 (by decide)) ⟨Nat.zero_le _, Nat.zero_le _⟩ rfl hl.1 (rest := []) rfl (Nat.le_of_ble_eq_true rfl) dX2_readNot_47 (st1 := [.int r5]) rfl (fun H locs hw => ?_)
    refine lv_if_ne (tgt := 55) X.1 X.2.1 dX2_readNot_50 (by decide) (fun c7 => ?_) (fun c7 => ?_)
    · have hf := if_e hf c7
      refine lv_aload_n X.1 X.2.1 dX2_readNot_55 rfl (lv_at hl 0 rfl) ?_
      obtain ⟨r9, h8, hf⟩ := b_bd1 hf
      refine r_callV X hw (k_X2_now hR  h8) (sp1 hR) (C := RX2) (T := TX2) (N := 8) rfl qw270 qw272 qw8 qw68 qw273 okX2_now ⟨rfl, rfl⟩ ⟨(Nat.le_trans (m := 40) (Nat.le_of_ble_eq_true rfl) (Nat.le_add_left _ _)), (Nat.le_trans (m := 4000) (Nat.le_of_ble_eq_true rfl) (Nat.le_add_left _ _))⟩ ⟨Nat.zero_le _, Nat.zero_le _⟩ rfl hl.1 (rest := []) rfl (Nat.le_of_ble_eq_true rfl) dX2_readNot_56 (st1 := [.int r9]) rfl (fun H locs hw => ?_)
      refine lv_istore_n (lv' := [(2, .int r9), (0, .ref (eP E 1)), (1, .int x1)]) X.1 X.2.1 dX2_readNot_59 rfl hl (by decide) rfl (fun ls hl => ?_)
      refine lv_iload_n X.1 X.2.1 dX2_readNot_60 rfl (lv_at hl 0 rfl) ?_
      refine lv_bipush (v := 60) X.1 X.2.1 dX2_readNot_61 (by decide) ?_
      refine lv_icmp_eq (tgt := 72) X.1 X.2.1 dX2_readNot_63 (by decide) (fun c10 => ?_) (fun c10 => ?_)
      · have hf := if_t hf c10
        refine lv_aload_n X.1 X.2.1 dX2_readNot_72 rfl (lv_at hl 1 rfl) ?_
        refine lv_dup X.1 X.2.1 dX2_readNot_73 rfl ?_
        refine r_get X hw (sp1 hR) (C := RX2) (T := TX2) (N := 8) rfl iwX2 6 (by decide) (Nat.le_of_ble_eq_true rfl) qw103 (v := .int (σ6 1 6)) rfl dX2_readNot_74 ?_
        refine lv_iconst (v := 1) X.1 X.2.1 dX2_readNot_77 (by decide) ?_
        refine lv_iadd X.1 X.2.1 dX2_readNot_78 ?_
        refine r_put X hw (sp1 hR) (C := RX2) (T := TX2) (N := 8) rfl iwX2 tyX2 tyX2_ok nmX2 6 (by decide) (Nat.le_of_ble_eq_true rfl) qw103 rfl (v := .int ((σ6 1 6) + 1)) rfl rfl (x := ((σ6 1 6) + 1)) rfl dX2_readNot_79 (fun H locs hw => ?_)
        obtain ⟨σ11, e12, hf⟩ := b_bnd hf
        rw [← e12] at hw
        refine lv_aload_n X.1 X.2.1 dX2_readNot_82 rfl (lv_at hl 1 rfl) ?_
        refine lv_iload_n X.1 X.2.1 dX2_readNot_83 rfl (lv_at hl 2 rfl) ?_
        obtain ⟨r14, σ15, h13, hf⟩ := b_bd2 hf
        refine r_callV X hw (ih_X2_readSum  h13) (sp1 hR) (C := RX2) (T := TX2) (N := 8) rfl qw294 qw296 qw12 qw68 qw297 okX2_readSum ⟨rfl, rfl⟩ (rm_read_ok n0 (by decide)) ⟨Nat.zero_le _, Nat.zero_le _⟩ rfl hl.1 (rest := []) rfl (Nat.le_of_ble_eq_true rfl) dX2_readNot_84 (st1 := [.int r14]) rfl (fun H locs hw => ?_)
        refine lv_istore_n (lv' := [(3, .int r14), (2, .int r9), (0, .ref (eP E 1)), (1, .int x1)]) X.1 X.2.1 dX2_readNot_87 rfl hl (by decide) rfl (fun ls hl => ?_)
        refine lv_aload_n X.1 X.2.1 dX2_readNot_88 rfl (lv_at hl 2 rfl) ?_
        obtain ⟨h16, h17, hf⟩ := b_cT hf
        refine r_get X hw (sp1 hR) (C := RX2) (T := TX2) (N := 8) rfl iwX2 7 (by decide) (Nat.le_of_ble_eq_true rfl) qw104 (v := .ref (eP E ((σ15 1 7).toNatClampNeg))) (fv_dyn h17) dX2_readNot_89 ?_
        refine lv_iload_n X.1 X.2.1 dX2_readNot_92 rfl (lv_at hl 1 rfl) ?_
        obtain ⟨σ19, h18, hf⟩ := b_bd1 hf
        refine r_callV X hw (k_X5_addStep hR h16 h18) (spT0 hR h16) (C := RX5) (T := TX5) (N := 3) rfl qw286 qw287 qw288 qw70 qw289 okX5_addStep ⟨rfl, rfl⟩ ⟨(Nat.le_trans (m := 40) (Nat.le_of_ble_eq_true rfl) (Nat.le_add_left _ _)), (Nat.le_trans (m := 4000) (Nat.le_of_ble_eq_true rfl) (Nat.le_add_left _ _))⟩ ⟨Nat.zero_le _, Nat.zero_le _⟩ rfl hl.1 (rest := []) rfl (Nat.le_of_ble_eq_true rfl) dX2_readNot_93 (st1 := []) rfl (fun H locs hw => ?_)
        refine lv_iload_n X.1 X.2.1 dX2_readNot_96 rfl (lv_at hl 0 rfl) ?_
        obtain ⟨h20, hf⟩ := b_cz hf
        obtain ⟨rfl, rfl⟩ := Prod.mk.inj (Option.some.inj hf)
        exact r_zret X hw (cz_and h20) dX2_readNot_97
      · have hf := if_e hf c10
        refine lv_iload_n X.1 X.2.1 dX2_readNot_66 rfl (lv_at hl 0 rfl) ?_
        refine lv_bipush (v := 61) X.1 X.2.1 dX2_readNot_67 (by decide) ?_
        refine lv_icmp_ne (tgt := 98) X.1 X.2.1 dX2_readNot_69 (by decide) (fun c21 => ?_) (fun c21 => ?_)
        · have hf := if_e hf c21
          refine lv_iconst (v := 1) X.1 X.2.1 dX2_readNot_98 (by decide) ?_
          obtain ⟨rfl, rfl⟩ := Prod.mk.inj (Option.some.inj hf)
          exact r_zret X hw (by decide) dX2_readNot_99
        · have hf := if_t hf c21
          refine lv_aload_n X.1 X.2.1 dX2_readNot_72 rfl (lv_at hl 1 rfl) ?_
          refine lv_dup X.1 X.2.1 dX2_readNot_73 rfl ?_
          refine r_get X hw (sp1 hR) (C := RX2) (T := TX2) (N := 8) rfl iwX2 6 (by decide) (Nat.le_of_ble_eq_true rfl) qw103 (v := .int (σ6 1 6)) rfl dX2_readNot_74 ?_
          refine lv_iconst (v := 1) X.1 X.2.1 dX2_readNot_77 (by decide) ?_
          refine lv_iadd X.1 X.2.1 dX2_readNot_78 ?_
          refine r_put X hw (sp1 hR) (C := RX2) (T := TX2) (N := 8) rfl iwX2 tyX2 tyX2_ok nmX2 6 (by decide) (Nat.le_of_ble_eq_true rfl) qw103 rfl (v := .int ((σ6 1 6) + 1)) rfl rfl (x := ((σ6 1 6) + 1)) rfl dX2_readNot_79 (fun H locs hw => ?_)
          obtain ⟨σ22, e23, hf⟩ := b_bnd hf
          rw [← e23] at hw
          refine lv_aload_n X.1 X.2.1 dX2_readNot_82 rfl (lv_at hl 1 rfl) ?_
          refine lv_iload_n X.1 X.2.1 dX2_readNot_83 rfl (lv_at hl 2 rfl) ?_
          obtain ⟨r25, σ26, h24, hf⟩ := b_bd2 hf
          refine r_callV X hw (ih_X2_readSum  h24) (sp1 hR) (C := RX2) (T := TX2) (N := 8) rfl qw294 qw296 qw12 qw68 qw297 okX2_readSum ⟨rfl, rfl⟩ (rm_read_ok n0 (by decide)) ⟨Nat.zero_le _, Nat.zero_le _⟩ rfl hl.1 (rest := []) rfl (Nat.le_of_ble_eq_true rfl) dX2_readNot_84 (st1 := [.int r25]) rfl (fun H locs hw => ?_)
          refine lv_istore_n (lv' := [(3, .int r25), (2, .int r9), (0, .ref (eP E 1)), (1, .int x1)]) X.1 X.2.1 dX2_readNot_87 rfl hl (by decide) rfl (fun ls hl => ?_)
          refine lv_aload_n X.1 X.2.1 dX2_readNot_88 rfl (lv_at hl 2 rfl) ?_
          obtain ⟨h27, h28, hf⟩ := b_cT hf
          refine r_get X hw (sp1 hR) (C := RX2) (T := TX2) (N := 8) rfl iwX2 7 (by decide) (Nat.le_of_ble_eq_true rfl) qw104 (v := .ref (eP E ((σ26 1 7).toNatClampNeg))) (fv_dyn h28) dX2_readNot_89 ?_
          refine lv_iload_n X.1 X.2.1 dX2_readNot_92 rfl (lv_at hl 1 rfl) ?_
          obtain ⟨σ30, h29, hf⟩ := b_bd1 hf
          refine r_callV X hw (k_X5_addStep hR h27 h29) (spT0 hR h27) (C := RX5) (T := TX5) (N := 3) rfl qw286 qw287 qw288 qw70 qw289 okX5_addStep ⟨rfl, rfl⟩ ⟨(Nat.le_trans (m := 40) (Nat.le_of_ble_eq_true rfl) (Nat.le_add_left _ _)), (Nat.le_trans (m := 4000) (Nat.le_of_ble_eq_true rfl) (Nat.le_add_left _ _))⟩ ⟨Nat.zero_le _, Nat.zero_le _⟩ rfl hl.1 (rest := []) rfl (Nat.le_of_ble_eq_true rfl) dX2_readNot_93 (st1 := []) rfl (fun H locs hw => ?_)
          refine lv_iload_n X.1 X.2.1 dX2_readNot_96 rfl (lv_at hl 0 rfl) ?_
          obtain ⟨h31, hf⟩ := b_cz hf
          obtain ⟨rfl, rfl⟩ := Prod.mk.inj (Option.some.inj hf)
          exact r_zret X hw (cz_and h31) dX2_readNot_97
    · have hf := if_t hf c7
      refine lv_iconst (v := 0) X.1 X.2.1 dX2_readNot_53 (by decide) ?_
      obtain ⟨rfl, rfl⟩ := Prod.mk.inj (Option.some.inj hf)
      exact r_zret X hw (by decide) dX2_readNot_54
  · have hf := if_t hf c3
    refine lv_iload_n X.1 X.2.1 dX2_readNot_9 rfl (lv_at hl 1 rfl) ?_
    refine lv_iconst (v := 5) X.1 X.2.1 dX2_readNot_10 (by decide) ?_
    refine lv_icmp_lt (tgt := 16) X.1 X.2.1 dX2_readNot_11 (by decide) (fun c32 => ?_) (fun c32 => ?_)
    · have hf := if_t hf c32
      refine lv_aload_n X.1 X.2.1 dX2_readNot_16 rfl (lv_at hl 0 rfl) ?_
      refine lv_dup X.1 X.2.1 dX2_readNot_17 rfl ?_
      refine r_get X hw (sp1 hR) (C := RX2) (T := TX2) (N := 8) rfl iwX2 6 (by decide) (Nat.le_of_ble_eq_true rfl) qw103 (v := .int (σ 1 6)) rfl dX2_readNot_18 ?_
      refine lv_iconst (v := 1) X.1 X.2.1 dX2_readNot_21 (by decide) ?_
      refine lv_iadd X.1 X.2.1 dX2_readNot_22 ?_
      refine r_put X hw (sp1 hR) (C := RX2) (T := TX2) (N := 8) rfl iwX2 tyX2 tyX2_ok nmX2 6 (by decide) (Nat.le_of_ble_eq_true rfl) qw103 rfl (v := .int ((σ 1 6) + 1)) rfl rfl (x := ((σ 1 6) + 1)) rfl dX2_readNot_23 (fun H locs hw => ?_)
      obtain ⟨σ33, e34, hf⟩ := b_bnd hf
      rw [← e34] at hw
      refine lv_aload_n X.1 X.2.1 dX2_readNot_26 rfl (lv_at hl 0 rfl) ?_
      refine lv_iload_n X.1 X.2.1 dX2_readNot_27 rfl (lv_at hl 1 rfl) ?_
      refine lv_iconst (v := 1) X.1 X.2.1 dX2_readNot_28 (by decide) ?_
      refine lv_iadd X.1 X.2.1 dX2_readNot_29 ?_
      obtain ⟨r36, σ37, h35, hf⟩ := b_bd2 hf
      refine r_callV X hw (ih_X2_readNot  h35) (sp1 hR) (C := RX2) (T := TX2) (N := 8) rfl qw282 qw284 qw11 qw68 qw285 okX2_readNot ⟨rfl, rfl⟩ (rm_read_ok n0 (by decide)) ⟨Nat.zero_le _, Nat.zero_le _⟩ rfl hl.1 (rest := []) rfl (Nat.le_of_ble_eq_true rfl) dX2_readNot_30 (st1 := [.int r36]) rfl (fun H locs hw => ?_)
      refine lv_istore_n (lv' := [(2, .int r36), (0, .ref (eP E 1)), (1, .int x1)]) X.1 X.2.1 dX2_readNot_33 rfl hl (by decide) rfl (fun ls hl => ?_)
      refine lv_aload_n X.1 X.2.1 dX2_readNot_34 rfl (lv_at hl 1 rfl) ?_
      obtain ⟨h38, h39, hf⟩ := b_cT hf
      refine r_get X hw (sp1 hR) (C := RX2) (T := TX2) (N := 8) rfl iwX2 7 (by decide) (Nat.le_of_ble_eq_true rfl) qw104 (v := .ref (eP E ((σ37 1 7).toNatClampNeg))) (fv_dyn h39) dX2_readNot_35 ?_
      refine lv_bipush (v := 11) X.1 X.2.1 dX2_readNot_38 (by decide) ?_
      obtain ⟨σ41, h40, hf⟩ := b_bd1 hf
      refine r_callV X hw (k_X5_addStep hR h38 h40) (spT0 hR h38) (C := RX5) (T := TX5) (N := 3) rfl qw286 qw287 qw288 qw70 qw289 okX5_addStep ⟨rfl, rfl⟩ ⟨(Nat.le_trans (m := 40) (Nat.le_of_ble_eq_true rfl) (Nat.le_add_left _ _)), (Nat.le_trans (m := 4000) (Nat.le_of_ble_eq_true rfl) (Nat.le_add_left _ _))⟩ ⟨Nat.zero_le _, Nat.zero_le _⟩ rfl hl.1 (rest := []) rfl (Nat.le_of_ble_eq_true rfl) dX2_readNot_40 (st1 := []) rfl (fun H locs hw => ?_)
      refine lv_iload_n X.1 X.2.1 dX2_readNot_43 rfl (lv_at hl 0 rfl) ?_
      obtain ⟨h42, hf⟩ := b_cz hf
      obtain ⟨rfl, rfl⟩ := Prod.mk.inj (Option.some.inj hf)
      exact r_zret X hw (cz_and h42) dX2_readNot_44
    · have hf := if_e hf c32
      refine lv_iconst (v := 0) X.1 X.2.1 dX2_readNot_14 (by decide) ?_
      obtain ⟨rfl, rfl⟩ := Prod.mk.inj (Option.some.inj hf)
      exact r_zret X hw (by decide) dX2_readNot_15
set_option maxHeartbeats 4000000 in
set_option maxRecDepth 100000 in
theorem w_X2_readAnd_15 {p : Program} {l : Launch} {e : Env} {s : State} {m : MethodId} {args : Array Value} {below : List Frame} {meth : Method} {c : Code} {Q : State → Prop} {E : en_T} (X : Cx E p s m args meth c cX2_readAnd 3 RX2 (some .boolean)) (hR : ShR E) {rec : Nat → Int32 → sg_T → Option (Int32 × sg_T)} {n0 : Nat} (ih_X2_readE : ∀ {x1 : Int32} {σ : sg_T} {r : Int32} {σ' : sg_T}, rec 0 x1 σ = some (r, σ') → Ct l yX2_readE cX2_readE 3 (some .boolean) (rm_read n0) E [.ref (eP E 1), .int x1] σ (some (.int r)) σ') (ih_X2_readAnd : ∀ {x1 : Int32} {σ : sg_T} {r : Int32} {σ' : sg_T}, rec 1 x1 σ = some (r, σ') → Ct l yX2_readAnd cX2_readAnd 3 (some .boolean) (rm_read n0) E [.ref (eP E 1), .int x1] σ (some (.int r)) σ') (ih_X2_readNot : ∀ {x1 : Int32} {σ : sg_T} {r : Int32} {σ' : sg_T}, rec 2 x1 σ = some (r, σ') → Ct l yX2_readNot cX2_readNot 4 (some .boolean) (rm_read n0) E [.ref (eP E 1), .int x1] σ (some (.int r)) σ') (ih_X2_readSum : ∀ {x1 : Int32} {σ : sg_T} {r : Int32} {σ' : sg_T}, rec 3 x1 σ = some (r, σ') → Ct l yX2_readSum cX2_readSum 4 (some .boolean) (rm_read n0) E [.ref (eP E 1), .int x1] σ (some (.int r)) σ') (ih_X2_readTerm : ∀ {x1 : Int32} {σ : sg_T} {r : Int32} {σ' : sg_T}, rec 4 x1 σ = some (r, σ') → Ct l yX2_readTerm cX2_readTerm 3 (some .boolean) (rm_read n0) E [.ref (eP E 1), .int x1] σ (some (.int r)) σ') (ih_X2_readOne : ∀ {x1 : Int32} {σ : sg_T} {r : Int32} {σ' : sg_T}, rec 5 x1 σ = some (r, σ') → Ct l yX2_readOne cX2_readOne 4 (some .boolean) (rm_read n0) E [.ref (eP E 1), .int x1] σ (some (.int r)) σ') {u1 : Int32}  {res : (Int32 × sg_T) ⊕ (Int32 × sg_T)} :
    ∀ (n : Nat) (w2 : Int32) (σ : sg_T), itr (fun q => b_X2_readAnd_15 rec u1 q.1 q.2) n (w2, σ) = some res → ∀ (H : Heap) (locs : List Loc) (ls : Array Slot), Hw E σ s H locs → lv_has ls 3 [(0, .ref (eP E 1)), (1, .int u1), (2, .int w2)] →
    (∀ (y2 : Int32) (τ : sg_T), res = .inl (y2, τ) → ∀ (H : Heap) (locs : List Loc) (ls : Array Slot), Hw E τ s H locs → lv_has ls 3 [(0, .ref (eP E 1)), (1, .int u1), (2, .int y2)] → W p l e (rm_read (n0 + 1)) s m args below meth c H locs 0 0 Q (F0 m 53 ls [])) →
    (∀ (r : Int32) (σ' : sg_T), res = .inr (r, σ') → Q = MQ below (Qf E (some (.int r)) σ') args s 0 0 (en_A E)) →
    W p l e (rm_read (n0 + 1)) s m args below meth c H locs 0 0 Q (F0 m 15 ls []) := by
  intro n
  induction n with
  | zero =>
    intro w2 σ hf0
    exact (itr_0 hf0).elim
  | succ n ih =>
    intro w2 σ hf0 H locs ls hw hl K1 K2
    obtain ⟨r0, hf, hr1, hr2⟩ := itr_s hf0
    have hf : b_X2_readAnd_15 rec u1 w2 σ = some r0 := hf
    unfold b_X2_readAnd_15 at hf
    refine lv_iload_n X.1 X.2.1 dX2_readAnd_15 rfl (lv_at hl 2 rfl) ?_
    refine lv_if_le (tgt := 53) X.1 X.2.1 dX2_readAnd_16 (by decide) (fun c6 => ?_) (fun c6 => ?_)
    · have hf := if_t hf c6
      obtain rfl := Option.some.inj hf
      obtain rfl := hr2 _ rfl
      exact K1 _ _ rfl _ _ _ hw (lv_sub hl [0, 1, 2] rfl)
    · have hf := if_e hf c6
      refine lv_aload_n X.1 X.2.1 dX2_readAnd_19 rfl (lv_at hl 0 rfl) ?_
      refine lv_bipush (v := 10) X.1 X.2.1 dX2_readAnd_20 (by decide) ?_
      obtain ⟨r8, σ9, h7, hf⟩ := b_bd2 hf
      refine r_callV X hw (k_X2_pass hR  h7) (sp1 hR) (C := RX2) (T := TX2) (N := 8) rfl qw266 qw268 qw7 qw68 qw269 okX2_pass ⟨rfl, rfl⟩ ⟨(Nat.le_trans (m := 40) (Nat.le_of_ble_eq_true rfl) (Nat.le_add_left _ _)), (Nat.le_trans (m := 4000) (Nat.le_of_ble_eq_true rfl) (Nat.le_add_left _ _))⟩ ⟨Nat.zero_le _, Nat.zero_le _⟩ rfl hl.1 (rest := []) rfl (Nat.le_of_ble_eq_true rfl) dX2_readAnd_22 (st1 := [.int r8]) rfl (fun H locs hw => ?_)
      refine lv_if_eq (tgt := 53) X.1 X.2.1 dX2_readAnd_25 (by decide) (fun c10 => ?_) (fun c10 => ?_)
      · have hf := if_t hf c10
        obtain rfl := Option.some.inj hf
        obtain rfl := hr2 _ rfl
        exact K1 _ _ rfl _ _ _ hw (lv_sub hl [0, 1, 2] rfl)
      · have hf := if_e hf c10
        refine lv_aload_n X.1 X.2.1 dX2_readAnd_28 rfl (lv_at hl 0 rfl) ?_
        refine lv_iload_n X.1 X.2.1 dX2_readAnd_29 rfl (lv_at hl 1 rfl) ?_
        obtain ⟨r12, σ13, h11, hf⟩ := b_bd2 hf
        refine r_callV X hw (ih_X2_readNot  h11) (sp1 hR) (C := RX2) (T := TX2) (N := 8) rfl qw282 qw284 qw11 qw68 qw285 okX2_readNot ⟨rfl, rfl⟩ (rm_read_ok n0 (by decide)) ⟨Nat.zero_le _, Nat.zero_le _⟩ rfl hl.1 (rest := []) rfl (Nat.le_of_ble_eq_true rfl) dX2_readAnd_30 (st1 := [.int r12]) rfl (fun H locs hw => ?_)
        refine lv_if_ne (tgt := 38) X.1 X.2.1 dX2_readAnd_33 (by decide) (fun c14 => ?_) (fun c14 => ?_)
        · have hf := if_e hf c14
          refine lv_aload_n X.1 X.2.1 dX2_readAnd_38 rfl (lv_at hl 0 rfl) ?_
          obtain ⟨h15, h16, hf⟩ := b_cT hf
          refine r_get X hw (sp1 hR) (C := RX2) (T := TX2) (N := 8) rfl iwX2 7 (by decide) (Nat.le_of_ble_eq_true rfl) qw104 (v := .ref (eP E ((σ13 1 7).toNatClampNeg))) (fv_dyn h16) dX2_readAnd_39 ?_
          refine lv_bipush (v := 10) X.1 X.2.1 dX2_readAnd_42 (by decide) ?_
          obtain ⟨σ18, h17, hf⟩ := b_bd1 hf
          refine r_callV X hw (k_X5_addStep hR h15 h17) (spT0 hR h15) (C := RX5) (T := TX5) (N := 3) rfl qw286 qw287 qw288 qw70 qw289 okX5_addStep ⟨rfl, rfl⟩ ⟨(Nat.le_trans (m := 40) (Nat.le_of_ble_eq_true rfl) (Nat.le_add_left _ _)), (Nat.le_trans (m := 4000) (Nat.le_of_ble_eq_true rfl) (Nat.le_add_left _ _))⟩ ⟨Nat.zero_le _, Nat.zero_le _⟩ rfl hl.1 (rest := []) rfl (Nat.le_of_ble_eq_true rfl) dX2_readAnd_44 (st1 := []) rfl (fun H locs hw => ?_)
          obtain ⟨v19, e20, hf⟩ := b_bnd hf
          refine lv_iinc (v := v19) (k := 2) (lv' := [(2, .int v19), (0, .ref (eP E 1)), (1, .int u1)]) X.1 X.2.1 dX2_readAnd_47 hl rfl (by rw [e20]; exact congrArg _ (by decide)) (by decide) rfl (fun ls hl => ?_)
          refine lv_goto (tgt := 15) X.1 X.2.1 dX2_readAnd_50 (by decide) ?_
          obtain rfl := Option.some.inj hf
          exact ih _ _ (hr1 _ rfl) _ _ _ hw (lv_sub hl [1, 2, 0] rfl) K1 K2
        · have hf := if_t hf c14
          refine lv_iconst (v := 0) X.1 X.2.1 dX2_readAnd_36 (by decide) ?_
          obtain rfl := Option.some.inj hf
          obtain rfl := hr2 _ rfl
          rw [K2 _ _ rfl]
          exact r_zret X hw (by decide) dX2_readAnd_37
set_option maxHeartbeats 4000000 in
set_option maxRecDepth 100000 in
theorem k_X2_readAnd {l : Launch} {E : en_T} (hR : ShR E) {rec : Nat → Int32 → sg_T → Option (Int32 × sg_T)} {n0 : Nat} (ih_X2_readE : ∀ {x1 : Int32} {σ : sg_T} {r : Int32} {σ' : sg_T}, rec 0 x1 σ = some (r, σ') → Ct l yX2_readE cX2_readE 3 (some .boolean) (rm_read n0) E [.ref (eP E 1), .int x1] σ (some (.int r)) σ') (ih_X2_readAnd : ∀ {x1 : Int32} {σ : sg_T} {r : Int32} {σ' : sg_T}, rec 1 x1 σ = some (r, σ') → Ct l yX2_readAnd cX2_readAnd 3 (some .boolean) (rm_read n0) E [.ref (eP E 1), .int x1] σ (some (.int r)) σ') (ih_X2_readNot : ∀ {x1 : Int32} {σ : sg_T} {r : Int32} {σ' : sg_T}, rec 2 x1 σ = some (r, σ') → Ct l yX2_readNot cX2_readNot 4 (some .boolean) (rm_read n0) E [.ref (eP E 1), .int x1] σ (some (.int r)) σ') (ih_X2_readSum : ∀ {x1 : Int32} {σ : sg_T} {r : Int32} {σ' : sg_T}, rec 3 x1 σ = some (r, σ') → Ct l yX2_readSum cX2_readSum 4 (some .boolean) (rm_read n0) E [.ref (eP E 1), .int x1] σ (some (.int r)) σ') (ih_X2_readTerm : ∀ {x1 : Int32} {σ : sg_T} {r : Int32} {σ' : sg_T}, rec 4 x1 σ = some (r, σ') → Ct l yX2_readTerm cX2_readTerm 3 (some .boolean) (rm_read n0) E [.ref (eP E 1), .int x1] σ (some (.int r)) σ') (ih_X2_readOne : ∀ {x1 : Int32} {σ : sg_T} {r : Int32} {σ' : sg_T}, rec 5 x1 σ = some (r, σ') → Ct l yX2_readOne cX2_readOne 4 (some .boolean) (rm_read n0) E [.ref (eP E 1), .int x1] σ (some (.int r)) σ') {x1 : Int32} {σ : sg_T} {r : Int32} {σ' : sg_T} (hf : f_X2_readAnd rec x1 σ = some (r, σ')) : Ct l yX2_readAnd cX2_readAnd 3 (some .boolean) (rm_read (n0 + 1)) E [.ref (eP E 1), .int x1] σ (some (.int r)) σ' := by
  refine Ct.start (by decide) hR.1 (Nat.le_of_ble_eq_true rfl) ?_
  intro p e s m below meth c X hw ls hl
  have X : Cx E p s m _ meth c cX2_readAnd 3 RX2 (some .boolean) := X
  have hl : lv_has ls 3 [(0, .ref (eP E 1)), (1, .int x1)] := hl
  unfold f_X2_readAnd at hf
  refine lv_aload_n X.1 X.2.1 dX2_readAnd_0 rfl (lv_at hl 0 rfl) ?_
  refine lv_iload_n X.1 X.2.1 dX2_readAnd_1 rfl (lv_at hl 1 rfl) ?_
  obtain ⟨r2, σ3, h1, hf⟩ := b_bd2 hf
  refine r_callV X hw (ih_X2_readNot  h1) (sp1 hR) (C := RX2) (T := TX2) (N := 8) rfl qw282 qw284 qw11 qw68 qw285 okX2_readNot ⟨rfl, rfl⟩ (rm_read_ok n0 (by decide)) ⟨Nat.zero_le _, Nat.zero_le _⟩ rfl hl.1 (rest := []) rfl (Nat.le_of_ble_eq_true rfl) dX2_readAnd_2 (st1 := [.int r2]) rfl (fun H locs hw => ?_)
  refine lv_if_ne (tgt := 10) X.1 X.2.1 dX2_readAnd_5 (by decide) (fun c4 => ?_) (fun c4 => ?_)
  · have hf := if_e hf c4
    refine lv_aload_n X.1 X.2.1 dX2_readAnd_10 rfl (lv_at hl 0 rfl) ?_
    refine r_get X hw (sp1 hR) (C := RX2) (T := TX2) (N := 8) rfl iwX2 5 (by decide) (Nat.le_of_ble_eq_true rfl) qw102 (v := .int (σ3 1 5)) rfl dX2_readAnd_11 ?_
    refine r_bnd hf (fun v5 hf => ?_)
    refine lv_istore_n (lv' := [(2, .int v5), (0, .ref (eP E 1)), (1, .int x1)]) X.1 X.2.1 dX2_readAnd_14 rfl hl (by decide) rfl (fun ls hl => ?_)
    obtain ⟨r24, h21, hf⟩ := b_bs hf
    rcases hf with ⟨⟨v22, σ23⟩, rfl, hf⟩ | ⟨⟨r25, σ26⟩, rfl, hf⟩
    · refine w_X2_readAnd_15 X hR ih_X2_readE ih_X2_readAnd ih_X2_readNot ih_X2_readSum ih_X2_readTerm ih_X2_readOne  lfu _ _ h21 _ _ _ hw (lv_sub hl [1, 2, 0] rfl) (fun yv22 yσ23 hq H locs ls hw hl => ?_) (fun _ _ hq => by cases hq)
      cases hq
      dsimp only at hf
      refine lv_iconst (v := 1) X.1 X.2.1 dX2_readAnd_53 (by decide) ?_
      obtain ⟨rfl, rfl⟩ := Prod.mk.inj (Option.some.inj hf)
      exact r_zret X hw (by decide) dX2_readAnd_54
    · refine w_X2_readAnd_15 X hR ih_X2_readE ih_X2_readAnd ih_X2_readNot ih_X2_readSum ih_X2_readTerm ih_X2_readOne  lfu _ _ h21 _ _ _ hw (lv_sub hl [1, 2, 0] rfl) (fun _ _ hq => by cases hq) (fun _ _ hq => ?_)
      cases hq
      cases hf
      rfl
  · have hf := if_t hf c4
    refine lv_iconst (v := 0) X.1 X.2.1 dX2_readAnd_8 (by decide) ?_
    obtain ⟨rfl, rfl⟩ := Prod.mk.inj (Option.some.inj hf)
    exact r_zret X hw (by decide) dX2_readAnd_9
set_option maxHeartbeats 4000000 in
set_option maxRecDepth 100000 in
theorem w_X2_readE_15 {p : Program} {l : Launch} {e : Env} {s : State} {m : MethodId} {args : Array Value} {below : List Frame} {meth : Method} {c : Code} {Q : State → Prop} {E : en_T} (X : Cx E p s m args meth c cX2_readE 3 RX2 (some .boolean)) (hR : ShR E) {rec : Nat → Int32 → sg_T → Option (Int32 × sg_T)} {n0 : Nat} (ih_X2_readE : ∀ {x1 : Int32} {σ : sg_T} {r : Int32} {σ' : sg_T}, rec 0 x1 σ = some (r, σ') → Ct l yX2_readE cX2_readE 3 (some .boolean) (rm_read n0) E [.ref (eP E 1), .int x1] σ (some (.int r)) σ') (ih_X2_readAnd : ∀ {x1 : Int32} {σ : sg_T} {r : Int32} {σ' : sg_T}, rec 1 x1 σ = some (r, σ') → Ct l yX2_readAnd cX2_readAnd 3 (some .boolean) (rm_read n0) E [.ref (eP E 1), .int x1] σ (some (.int r)) σ') (ih_X2_readNot : ∀ {x1 : Int32} {σ : sg_T} {r : Int32} {σ' : sg_T}, rec 2 x1 σ = some (r, σ') → Ct l yX2_readNot cX2_readNot 4 (some .boolean) (rm_read n0) E [.ref (eP E 1), .int x1] σ (some (.int r)) σ') (ih_X2_readSum : ∀ {x1 : Int32} {σ : sg_T} {r : Int32} {σ' : sg_T}, rec 3 x1 σ = some (r, σ') → Ct l yX2_readSum cX2_readSum 4 (some .boolean) (rm_read n0) E [.ref (eP E 1), .int x1] σ (some (.int r)) σ') (ih_X2_readTerm : ∀ {x1 : Int32} {σ : sg_T} {r : Int32} {σ' : sg_T}, rec 4 x1 σ = some (r, σ') → Ct l yX2_readTerm cX2_readTerm 3 (some .boolean) (rm_read n0) E [.ref (eP E 1), .int x1] σ (some (.int r)) σ') (ih_X2_readOne : ∀ {x1 : Int32} {σ : sg_T} {r : Int32} {σ' : sg_T}, rec 5 x1 σ = some (r, σ') → Ct l yX2_readOne cX2_readOne 4 (some .boolean) (rm_read n0) E [.ref (eP E 1), .int x1] σ (some (.int r)) σ') {u1 : Int32}  {res : (Int32 × sg_T) ⊕ (Int32 × sg_T)} :
    ∀ (n : Nat) (w2 : Int32) (σ : sg_T), itr (fun q => b_X2_readE_15 rec u1 q.1 q.2) n (w2, σ) = some res → ∀ (H : Heap) (locs : List Loc) (ls : Array Slot), Hw E σ s H locs → lv_has ls 3 [(0, .ref (eP E 1)), (1, .int u1), (2, .int w2)] →
    (∀ (y2 : Int32) (τ : sg_T), res = .inl (y2, τ) → ∀ (H : Heap) (locs : List Loc) (ls : Array Slot), Hw E τ s H locs → lv_has ls 3 [(0, .ref (eP E 1)), (1, .int u1), (2, .int y2)] → W p l e (rm_read (n0 + 1)) s m args below meth c H locs 0 0 Q (F0 m 53 ls [])) →
    (∀ (r : Int32) (σ' : sg_T), res = .inr (r, σ') → Q = MQ below (Qf E (some (.int r)) σ') args s 0 0 (en_A E)) →
    W p l e (rm_read (n0 + 1)) s m args below meth c H locs 0 0 Q (F0 m 15 ls []) := by
  intro n
  induction n with
  | zero =>
    intro w2 σ hf0
    exact (itr_0 hf0).elim
  | succ n ih =>
    intro w2 σ hf0 H locs ls hw hl K1 K2
    obtain ⟨r0, hf, hr1, hr2⟩ := itr_s hf0
    have hf : b_X2_readE_15 rec u1 w2 σ = some r0 := hf
    unfold b_X2_readE_15 at hf
    refine lv_iload_n X.1 X.2.1 dX2_readE_15 rfl (lv_at hl 2 rfl) ?_
    refine lv_if_le (tgt := 53) X.1 X.2.1 dX2_readE_16 (by decide) (fun c6 => ?_) (fun c6 => ?_)
    · have hf := if_t hf c6
      obtain rfl := Option.some.inj hf
      obtain rfl := hr2 _ rfl
      exact K1 _ _ rfl _ _ _ hw (lv_sub hl [0, 1, 2] rfl)
    · have hf := if_e hf c6
      refine lv_aload_n X.1 X.2.1 dX2_readE_19 rfl (lv_at hl 0 rfl) ?_
      refine lv_bipush (v := 9) X.1 X.2.1 dX2_readE_20 (by decide) ?_
      obtain ⟨r8, σ9, h7, hf⟩ := b_bd2 hf
      refine r_callV X hw (k_X2_pass hR  h7) (sp1 hR) (C := RX2) (T := TX2) (N := 8) rfl qw266 qw268 qw7 qw68 qw269 okX2_pass ⟨rfl, rfl⟩ ⟨(Nat.le_trans (m := 40) (Nat.le_of_ble_eq_true rfl) (Nat.le_add_left _ _)), (Nat.le_trans (m := 4000) (Nat.le_of_ble_eq_true rfl) (Nat.le_add_left _ _))⟩ ⟨Nat.zero_le _, Nat.zero_le _⟩ rfl hl.1 (rest := []) rfl (Nat.le_of_ble_eq_true rfl) dX2_readE_22 (st1 := [.int r8]) rfl (fun H locs hw => ?_)
      refine lv_if_eq (tgt := 53) X.1 X.2.1 dX2_readE_25 (by decide) (fun c10 => ?_) (fun c10 => ?_)
      · have hf := if_t hf c10
        obtain rfl := Option.some.inj hf
        obtain rfl := hr2 _ rfl
        exact K1 _ _ rfl _ _ _ hw (lv_sub hl [0, 1, 2] rfl)
      · have hf := if_e hf c10
        refine lv_aload_n X.1 X.2.1 dX2_readE_28 rfl (lv_at hl 0 rfl) ?_
        refine lv_iload_n X.1 X.2.1 dX2_readE_29 rfl (lv_at hl 1 rfl) ?_
        obtain ⟨r12, σ13, h11, hf⟩ := b_bd2 hf
        refine r_callV X hw (ih_X2_readAnd  h11) (sp1 hR) (C := RX2) (T := TX2) (N := 8) rfl qw278 qw280 qw10 qw68 qw281 okX2_readAnd ⟨rfl, rfl⟩ (rm_read_ok n0 (by decide)) ⟨Nat.zero_le _, Nat.zero_le _⟩ rfl hl.1 (rest := []) rfl (Nat.le_of_ble_eq_true rfl) dX2_readE_30 (st1 := [.int r12]) rfl (fun H locs hw => ?_)
        refine lv_if_ne (tgt := 38) X.1 X.2.1 dX2_readE_33 (by decide) (fun c14 => ?_) (fun c14 => ?_)
        · have hf := if_e hf c14
          refine lv_aload_n X.1 X.2.1 dX2_readE_38 rfl (lv_at hl 0 rfl) ?_
          obtain ⟨h15, h16, hf⟩ := b_cT hf
          refine r_get X hw (sp1 hR) (C := RX2) (T := TX2) (N := 8) rfl iwX2 7 (by decide) (Nat.le_of_ble_eq_true rfl) qw104 (v := .ref (eP E ((σ13 1 7).toNatClampNeg))) (fv_dyn h16) dX2_readE_39 ?_
          refine lv_bipush (v := 9) X.1 X.2.1 dX2_readE_42 (by decide) ?_
          obtain ⟨σ18, h17, hf⟩ := b_bd1 hf
          refine r_callV X hw (k_X5_addStep hR h15 h17) (spT0 hR h15) (C := RX5) (T := TX5) (N := 3) rfl qw286 qw287 qw288 qw70 qw289 okX5_addStep ⟨rfl, rfl⟩ ⟨(Nat.le_trans (m := 40) (Nat.le_of_ble_eq_true rfl) (Nat.le_add_left _ _)), (Nat.le_trans (m := 4000) (Nat.le_of_ble_eq_true rfl) (Nat.le_add_left _ _))⟩ ⟨Nat.zero_le _, Nat.zero_le _⟩ rfl hl.1 (rest := []) rfl (Nat.le_of_ble_eq_true rfl) dX2_readE_44 (st1 := []) rfl (fun H locs hw => ?_)
          obtain ⟨v19, e20, hf⟩ := b_bnd hf
          refine lv_iinc (v := v19) (k := 2) (lv' := [(2, .int v19), (0, .ref (eP E 1)), (1, .int u1)]) X.1 X.2.1 dX2_readE_47 hl rfl (by rw [e20]; exact congrArg _ (by decide)) (by decide) rfl (fun ls hl => ?_)
          refine lv_goto (tgt := 15) X.1 X.2.1 dX2_readE_50 (by decide) ?_
          obtain rfl := Option.some.inj hf
          exact ih _ _ (hr1 _ rfl) _ _ _ hw (lv_sub hl [1, 2, 0] rfl) K1 K2
        · have hf := if_t hf c14
          refine lv_iconst (v := 0) X.1 X.2.1 dX2_readE_36 (by decide) ?_
          obtain rfl := Option.some.inj hf
          obtain rfl := hr2 _ rfl
          rw [K2 _ _ rfl]
          exact r_zret X hw (by decide) dX2_readE_37
set_option maxHeartbeats 4000000 in
set_option maxRecDepth 100000 in
theorem k_X2_readE {l : Launch} {E : en_T} (hR : ShR E) {rec : Nat → Int32 → sg_T → Option (Int32 × sg_T)} {n0 : Nat} (ih_X2_readE : ∀ {x1 : Int32} {σ : sg_T} {r : Int32} {σ' : sg_T}, rec 0 x1 σ = some (r, σ') → Ct l yX2_readE cX2_readE 3 (some .boolean) (rm_read n0) E [.ref (eP E 1), .int x1] σ (some (.int r)) σ') (ih_X2_readAnd : ∀ {x1 : Int32} {σ : sg_T} {r : Int32} {σ' : sg_T}, rec 1 x1 σ = some (r, σ') → Ct l yX2_readAnd cX2_readAnd 3 (some .boolean) (rm_read n0) E [.ref (eP E 1), .int x1] σ (some (.int r)) σ') (ih_X2_readNot : ∀ {x1 : Int32} {σ : sg_T} {r : Int32} {σ' : sg_T}, rec 2 x1 σ = some (r, σ') → Ct l yX2_readNot cX2_readNot 4 (some .boolean) (rm_read n0) E [.ref (eP E 1), .int x1] σ (some (.int r)) σ') (ih_X2_readSum : ∀ {x1 : Int32} {σ : sg_T} {r : Int32} {σ' : sg_T}, rec 3 x1 σ = some (r, σ') → Ct l yX2_readSum cX2_readSum 4 (some .boolean) (rm_read n0) E [.ref (eP E 1), .int x1] σ (some (.int r)) σ') (ih_X2_readTerm : ∀ {x1 : Int32} {σ : sg_T} {r : Int32} {σ' : sg_T}, rec 4 x1 σ = some (r, σ') → Ct l yX2_readTerm cX2_readTerm 3 (some .boolean) (rm_read n0) E [.ref (eP E 1), .int x1] σ (some (.int r)) σ') (ih_X2_readOne : ∀ {x1 : Int32} {σ : sg_T} {r : Int32} {σ' : sg_T}, rec 5 x1 σ = some (r, σ') → Ct l yX2_readOne cX2_readOne 4 (some .boolean) (rm_read n0) E [.ref (eP E 1), .int x1] σ (some (.int r)) σ') {x1 : Int32} {σ : sg_T} {r : Int32} {σ' : sg_T} (hf : f_X2_readE rec x1 σ = some (r, σ')) : Ct l yX2_readE cX2_readE 3 (some .boolean) (rm_read (n0 + 1)) E [.ref (eP E 1), .int x1] σ (some (.int r)) σ' := by
  refine Ct.start (by decide) hR.1 (Nat.le_of_ble_eq_true rfl) ?_
  intro p e s m below meth c X hw ls hl
  have X : Cx E p s m _ meth c cX2_readE 3 RX2 (some .boolean) := X
  have hl : lv_has ls 3 [(0, .ref (eP E 1)), (1, .int x1)] := hl
  unfold f_X2_readE at hf
  refine lv_aload_n X.1 X.2.1 dX2_readE_0 rfl (lv_at hl 0 rfl) ?_
  refine lv_iload_n X.1 X.2.1 dX2_readE_1 rfl (lv_at hl 1 rfl) ?_
  obtain ⟨r2, σ3, h1, hf⟩ := b_bd2 hf
  refine r_callV X hw (ih_X2_readAnd  h1) (sp1 hR) (C := RX2) (T := TX2) (N := 8) rfl qw278 qw280 qw10 qw68 qw281 okX2_readAnd ⟨rfl, rfl⟩ (rm_read_ok n0 (by decide)) ⟨Nat.zero_le _, Nat.zero_le _⟩ rfl hl.1 (rest := []) rfl (Nat.le_of_ble_eq_true rfl) dX2_readE_2 (st1 := [.int r2]) rfl (fun H locs hw => ?_)
  refine lv_if_ne (tgt := 10) X.1 X.2.1 dX2_readE_5 (by decide) (fun c4 => ?_) (fun c4 => ?_)
  · have hf := if_e hf c4
    refine lv_aload_n X.1 X.2.1 dX2_readE_10 rfl (lv_at hl 0 rfl) ?_
    refine r_get X hw (sp1 hR) (C := RX2) (T := TX2) (N := 8) rfl iwX2 5 (by decide) (Nat.le_of_ble_eq_true rfl) qw102 (v := .int (σ3 1 5)) rfl dX2_readE_11 ?_
    refine r_bnd hf (fun v5 hf => ?_)
    refine lv_istore_n (lv' := [(2, .int v5), (0, .ref (eP E 1)), (1, .int x1)]) X.1 X.2.1 dX2_readE_14 rfl hl (by decide) rfl (fun ls hl => ?_)
    obtain ⟨r24, h21, hf⟩ := b_bs hf
    rcases hf with ⟨⟨v22, σ23⟩, rfl, hf⟩ | ⟨⟨r25, σ26⟩, rfl, hf⟩
    · refine w_X2_readE_15 X hR ih_X2_readE ih_X2_readAnd ih_X2_readNot ih_X2_readSum ih_X2_readTerm ih_X2_readOne  lfu _ _ h21 _ _ _ hw (lv_sub hl [1, 2, 0] rfl) (fun yv22 yσ23 hq H locs ls hw hl => ?_) (fun _ _ hq => by cases hq)
      cases hq
      dsimp only at hf
      refine lv_iconst (v := 1) X.1 X.2.1 dX2_readE_53 (by decide) ?_
      obtain ⟨rfl, rfl⟩ := Prod.mk.inj (Option.some.inj hf)
      exact r_zret X hw (by decide) dX2_readE_54
    · refine w_X2_readE_15 X hR ih_X2_readE ih_X2_readAnd ih_X2_readNot ih_X2_readSum ih_X2_readTerm ih_X2_readOne  lfu _ _ h21 _ _ _ hw (lv_sub hl [1, 2, 0] rfl) (fun _ _ hq => by cases hq) (fun _ _ hq => ?_)
      cases hq
      cases hf
      rfl
  · have hf := if_t hf c4
    refine lv_iconst (v := 0) X.1 X.2.1 dX2_readE_8 (by decide) ?_
    obtain ⟨rfl, rfl⟩ := Prod.mk.inj (Option.some.inj hf)
    exact r_zret X hw (by decide) dX2_readE_9
theorem kr_read {l : Launch} {E : en_T} (hR : ShR E) : ∀ n : Nat, (∀ {x1 : Int32} {σ : sg_T} {r : Int32} {σ' : sg_T}, g_read n 0 x1 σ = some (r, σ') → Ct l yX2_readE cX2_readE 3 (some .boolean) (rm_read n) E [.ref (eP E 1), .int x1] σ (some (.int r)) σ') ∧ (∀ {x1 : Int32} {σ : sg_T} {r : Int32} {σ' : sg_T}, g_read n 1 x1 σ = some (r, σ') → Ct l yX2_readAnd cX2_readAnd 3 (some .boolean) (rm_read n) E [.ref (eP E 1), .int x1] σ (some (.int r)) σ') ∧ (∀ {x1 : Int32} {σ : sg_T} {r : Int32} {σ' : sg_T}, g_read n 2 x1 σ = some (r, σ') → Ct l yX2_readNot cX2_readNot 4 (some .boolean) (rm_read n) E [.ref (eP E 1), .int x1] σ (some (.int r)) σ') ∧ (∀ {x1 : Int32} {σ : sg_T} {r : Int32} {σ' : sg_T}, g_read n 3 x1 σ = some (r, σ') → Ct l yX2_readSum cX2_readSum 4 (some .boolean) (rm_read n) E [.ref (eP E 1), .int x1] σ (some (.int r)) σ') ∧ (∀ {x1 : Int32} {σ : sg_T} {r : Int32} {σ' : sg_T}, g_read n 4 x1 σ = some (r, σ') → Ct l yX2_readTerm cX2_readTerm 3 (some .boolean) (rm_read n) E [.ref (eP E 1), .int x1] σ (some (.int r)) σ') ∧ (∀ {x1 : Int32} {σ : sg_T} {r : Int32} {σ' : sg_T}, g_read n 5 x1 σ = some (r, σ') → Ct l yX2_readOne cX2_readOne 4 (some .boolean) (rm_read n) E [.ref (eP E 1), .int x1] σ (some (.int r)) σ') := by
  intro n
  induction n with
  | zero => refine ⟨?_, ?_, ?_, ?_, ?_, ?_⟩ <;> (intro x1 σ r σ' h; cases h)
  | succ n ih =>
    obtain ⟨i1, i2, i3, i4, i5, i6⟩ := ih
    refine ⟨?_, ?_, ?_, ?_, ?_, ?_⟩
    · intro x1 σ r σ' h
      exact k_X2_readE hR i1 i2 i3 i4 i5 i6 h
    · intro x1 σ r σ' h
      exact k_X2_readAnd hR i1 i2 i3 i4 i5 i6 h
    · intro x1 σ r σ' h
      exact k_X2_readNot hR i1 i2 i3 i4 i5 i6 h
    · intro x1 σ r σ' h
      exact k_X2_readSum hR i1 i2 i3 i4 i5 i6 h
    · intro x1 σ r σ' h
      exact k_X2_readTerm hR i1 i2 i3 i4 i5 i6 h
    · intro x1 σ r σ' h
      exact k_X2_readOne hR i1 i2 i3 i4 i5 i6 h
theorem kg_X2_readE {l : Launch} {E : en_T} (hR : ShR E) {x1 : Int32} {σ : sg_T} {r : Int32} {σ' : sg_T} (h : g_read rfu 0 x1 σ = some (r, σ')) : Ct l yX2_readE cX2_readE 3 (some .boolean) (rm_read rfu) E [.ref (eP E 1), .int x1] σ (some (.int r)) σ' := (kr_read hR rfu).1 h
theorem kg_X2_readAnd {l : Launch} {E : en_T} (hR : ShR E) {x1 : Int32} {σ : sg_T} {r : Int32} {σ' : sg_T} (h : g_read rfu 1 x1 σ = some (r, σ')) : Ct l yX2_readAnd cX2_readAnd 3 (some .boolean) (rm_read rfu) E [.ref (eP E 1), .int x1] σ (some (.int r)) σ' := (kr_read hR rfu).2.1 h
theorem kg_X2_readNot {l : Launch} {E : en_T} (hR : ShR E) {x1 : Int32} {σ : sg_T} {r : Int32} {σ' : sg_T} (h : g_read rfu 2 x1 σ = some (r, σ')) : Ct l yX2_readNot cX2_readNot 4 (some .boolean) (rm_read rfu) E [.ref (eP E 1), .int x1] σ (some (.int r)) σ' := (kr_read hR rfu).2.2.1 h
theorem kg_X2_readSum {l : Launch} {E : en_T} (hR : ShR E) {x1 : Int32} {σ : sg_T} {r : Int32} {σ' : sg_T} (h : g_read rfu 3 x1 σ = some (r, σ')) : Ct l yX2_readSum cX2_readSum 4 (some .boolean) (rm_read rfu) E [.ref (eP E 1), .int x1] σ (some (.int r)) σ' := (kr_read hR rfu).2.2.2.1 h
theorem kg_X2_readTerm {l : Launch} {E : en_T} (hR : ShR E) {x1 : Int32} {σ : sg_T} {r : Int32} {σ' : sg_T} (h : g_read rfu 4 x1 σ = some (r, σ')) : Ct l yX2_readTerm cX2_readTerm 3 (some .boolean) (rm_read rfu) E [.ref (eP E 1), .int x1] σ (some (.int r)) σ' := (kr_read hR rfu).2.2.2.2.1 h
theorem kg_X2_readOne {l : Launch} {E : en_T} (hR : ShR E) {x1 : Int32} {σ : sg_T} {r : Int32} {σ' : sg_T} (h : g_read rfu 5 x1 σ = some (r, σ')) : Ct l yX2_readOne cX2_readOne 4 (some .boolean) (rm_read rfu) E [.ref (eP E 1), .int x1] σ (some (.int r)) σ' := (kr_read hR rfu).2.2.2.2.2 h

abbrev rm_X2_readPart : Room := { frames := 105, cells := 0, slots := 0, locals := 7862 }
set_option maxHeartbeats 4000000 in
set_option maxRecDepth 100000 in
theorem k_X2_readPart {l : Launch} {E : en_T} (hR : ShR E) {x1 : Int32} {σ : sg_T} {r : Int32} {σ' : sg_T} (hf : f_X2_readPart x1 σ = some (r, σ')) : Ct l yX2_readPart cX2_readPart 3 (some .boolean) rm_X2_readPart E [.ref (eP E 1), .int x1] σ (some (.int r)) σ' := by
  refine Ct.start (by decide) hR.1 (Nat.le_of_ble_eq_true rfl) ?_
  intro p e s m below meth c X hw ls hl
  have X : Cx E p s m _ meth c cX2_readPart 3 RX2 (some .boolean) := X
  have hl : lv_has ls 3 [(0, .ref (eP E 1)), (1, .int x1)] := hl
  unfold f_X2_readPart at hf
  refine lv_aload_n X.1 X.2.1 dX2_readPart_0 rfl (lv_at hl 0 rfl) ?_
  refine lv_bipush (v := 6) X.1 X.2.1 dX2_readPart_1 (by decide) ?_
  refine lv_iload_n X.1 X.2.1 dX2_readPart_3 rfl (lv_at hl 1 rfl) ?_
  refine lv_iadd X.1 X.2.1 dX2_readPart_4 ?_
  obtain ⟨r2, σ3, h1, hf⟩ := b_bd2 hf
  refine r_callV X hw (k_X2_pass hR  h1) (sp1 hR) (C := RX2) (T := TX2) (N := 8) rfl qw266 qw268 qw7 qw68 qw269 okX2_pass ⟨rfl, rfl⟩ ⟨(Nat.le_of_ble_eq_true rfl), (Nat.le_of_ble_eq_true rfl)⟩ ⟨Nat.zero_le _, Nat.zero_le _⟩ rfl hl.1 (rest := []) rfl (Nat.le_of_ble_eq_true rfl) dX2_readPart_5 (st1 := [.int r2]) rfl (fun H locs hw => ?_)
  refine lv_if_eq (tgt := 32) X.1 X.2.1 dX2_readPart_8 (by decide) (fun c4 => ?_) (fun c4 => ?_)
  · have hf := if_t hf c4
    refine lv_iconst (v := 0) X.1 X.2.1 dX2_readPart_32 (by decide) ?_
    refine lv_istore_n (lv' := [(2, .int 0), (0, .ref (eP E 1)), (1, .int x1)]) X.1 X.2.1 dX2_readPart_33 rfl hl (by decide) rfl (fun ls hl => ?_)
    refine lv_aload_n X.1 X.2.1 dX2_readPart_34 rfl (lv_at hl 1 rfl) ?_
    obtain ⟨h5, h6, hf⟩ := b_cT hf
    refine r_get X hw (sp1 hR) (C := RX2) (T := TX2) (N := 8) rfl iwX2 7 (by decide) (Nat.le_of_ble_eq_true rfl) qw104 (v := .ref (eP E ((σ3 1 7).toNatClampNeg))) (fv_dyn h6) dX2_readPart_35 ?_
    refine lv_iload_n X.1 X.2.1 dX2_readPart_38 rfl (lv_at hl 2 rfl) ?_
    obtain ⟨σ8, h7, hf⟩ := b_bd1 hf
    refine r_callV X hw (k_X5_endPart hR h5 h7) (spT0 hR h5) (C := RX5) (T := TX5) (N := 3) rfl qw307 qw308 qw309 qw70 qw310 okX5_endPart ⟨rfl, rfl⟩ ⟨(Nat.le_of_ble_eq_true rfl), (Nat.le_of_ble_eq_true rfl)⟩ ⟨Nat.zero_le _, Nat.zero_le _⟩ rfl hl.1 (rest := []) rfl (Nat.le_of_ble_eq_true rfl) dX2_readPart_39 (st1 := []) rfl (fun H locs hw => ?_)
    refine lv_iload_n X.1 X.2.1 dX2_readPart_42 rfl (lv_at hl 0 rfl) ?_
    obtain ⟨rfl, rfl⟩ := Prod.mk.inj (Option.some.inj hf)
    exact r_zret X hw (by decide) dX2_readPart_43
  · have hf := if_e hf c4
    refine lv_aload_n X.1 X.2.1 dX2_readPart_11 rfl (lv_at hl 0 rfl) ?_
    refine lv_iconst (v := 0) X.1 X.2.1 dX2_readPart_12 (by decide) ?_
    obtain ⟨r10, σ11, h9, hf⟩ := b_bd2 hf
    refine r_callV X hw (kg_X2_readE hR  h9) (sp1 hR) (C := RX2) (T := TX2) (N := 8) rfl qw274 qw276 qw9 qw68 qw277 okX2_readE ⟨rfl, rfl⟩ ⟨(Nat.le_of_ble_eq_true rfl), (Nat.le_of_ble_eq_true rfl)⟩ ⟨Nat.zero_le _, Nat.zero_le _⟩ rfl hl.1 (rest := []) rfl (Nat.le_of_ble_eq_true rfl) dX2_readPart_13 (st1 := [.int r10]) rfl (fun H locs hw => ?_)
    refine lv_if_eq (tgt := 32) X.1 X.2.1 dX2_readPart_16 (by decide) (fun c12 => ?_) (fun c12 => ?_)
    · have hf := if_t hf c12
      refine lv_iconst (v := 0) X.1 X.2.1 dX2_readPart_32 (by decide) ?_
      refine lv_istore_n (lv' := [(2, .int 0), (0, .ref (eP E 1)), (1, .int x1)]) X.1 X.2.1 dX2_readPart_33 rfl hl (by decide) rfl (fun ls hl => ?_)
      refine lv_aload_n X.1 X.2.1 dX2_readPart_34 rfl (lv_at hl 1 rfl) ?_
      obtain ⟨h13, h14, hf⟩ := b_cT hf
      refine r_get X hw (sp1 hR) (C := RX2) (T := TX2) (N := 8) rfl iwX2 7 (by decide) (Nat.le_of_ble_eq_true rfl) qw104 (v := .ref (eP E ((σ11 1 7).toNatClampNeg))) (fv_dyn h14) dX2_readPart_35 ?_
      refine lv_iload_n X.1 X.2.1 dX2_readPart_38 rfl (lv_at hl 2 rfl) ?_
      obtain ⟨σ16, h15, hf⟩ := b_bd1 hf
      refine r_callV X hw (k_X5_endPart hR h13 h15) (spT0 hR h13) (C := RX5) (T := TX5) (N := 3) rfl qw307 qw308 qw309 qw70 qw310 okX5_endPart ⟨rfl, rfl⟩ ⟨(Nat.le_of_ble_eq_true rfl), (Nat.le_of_ble_eq_true rfl)⟩ ⟨Nat.zero_le _, Nat.zero_le _⟩ rfl hl.1 (rest := []) rfl (Nat.le_of_ble_eq_true rfl) dX2_readPart_39 (st1 := []) rfl (fun H locs hw => ?_)
      refine lv_iload_n X.1 X.2.1 dX2_readPart_42 rfl (lv_at hl 0 rfl) ?_
      obtain ⟨rfl, rfl⟩ := Prod.mk.inj (Option.some.inj hf)
      exact r_zret X hw (by decide) dX2_readPart_43
    · have hf := if_e hf c12
      refine lv_aload_n X.1 X.2.1 dX2_readPart_19 rfl (lv_at hl 0 rfl) ?_
      refine lv_bipush (v := 59) X.1 X.2.1 dX2_readPart_20 (by decide) ?_
      obtain ⟨r18, σ19, h17, hf⟩ := b_bd2 hf
      refine r_callV X hw (k_X2_pass hR  h17) (sp1 hR) (C := RX2) (T := TX2) (N := 8) rfl qw266 qw268 qw7 qw68 qw269 okX2_pass ⟨rfl, rfl⟩ ⟨(Nat.le_of_ble_eq_true rfl), (Nat.le_of_ble_eq_true rfl)⟩ ⟨Nat.zero_le _, Nat.zero_le _⟩ rfl hl.1 (rest := []) rfl (Nat.le_of_ble_eq_true rfl) dX2_readPart_22 (st1 := [.int r18]) rfl (fun H locs hw => ?_)
      obtain ⟨v21, e22, hf⟩ := b_bnd hf
      refine r_join (g2 := F0 m 33 ls [.int v21]) ?_ (fun hj => ?_)
      · refine lv_istore_n (lv' := [(2, .int v21), (0, .ref (eP E 1)), (1, .int x1)]) X.1 X.2.1 dX2_readPart_33 rfl hl (by decide) rfl (fun ls hl => ?_)
        refine lv_aload_n X.1 X.2.1 dX2_readPart_34 rfl (lv_at hl 1 rfl) ?_
        obtain ⟨h23, h24, hf⟩ := b_cT hf
        refine r_get X hw (sp1 hR) (C := RX2) (T := TX2) (N := 8) rfl iwX2 7 (by decide) (Nat.le_of_ble_eq_true rfl) qw104 (v := .ref (eP E ((σ19 1 7).toNatClampNeg))) (fv_dyn h24) dX2_readPart_35 ?_
        refine lv_iload_n X.1 X.2.1 dX2_readPart_38 rfl (lv_at hl 2 rfl) ?_
        obtain ⟨σ26, h25, hf⟩ := b_bd1 hf
        refine r_callV X hw (k_X5_endPart hR h23 h25) (spT0 hR h23) (C := RX5) (T := TX5) (N := 3) rfl qw307 qw308 qw309 qw70 qw310 okX5_endPart ⟨rfl, rfl⟩ ⟨(Nat.le_of_ble_eq_true rfl), (Nat.le_of_ble_eq_true rfl)⟩ ⟨Nat.zero_le _, Nat.zero_le _⟩ rfl hl.1 (rest := []) rfl (Nat.le_of_ble_eq_true rfl) dX2_readPart_39 (st1 := []) rfl (fun H locs hw => ?_)
        refine lv_iload_n X.1 X.2.1 dX2_readPart_42 rfl (lv_at hl 0 rfl) ?_
        obtain ⟨h27, hf⟩ := b_cz hf
        obtain ⟨rfl, rfl⟩ := Prod.mk.inj (Option.some.inj hf)
        exact r_zret X hw (cz_and h27) dX2_readPart_43
      · refine lv_if_eq (tgt := 32) X.1 X.2.1 dX2_readPart_25 (by decide) (fun c20 => ?_) (fun c20 => ?_)
        · rw [e22, if_pos c20] at hj
          refine lv_iconst (v := 0) X.1 X.2.1 dX2_readPart_32 (by decide) ?_
          exact hj
        · rw [e22, if_neg c20] at hj
          refine lv_iconst (v := 1) X.1 X.2.1 dX2_readPart_28 (by decide) ?_
          refine lv_goto (tgt := 33) X.1 X.2.1 dX2_readPart_29 (by decide) ?_
          exact hj
abbrev rm_X2_faultPlace : Room := { frames := 0, cells := 0, slots := 0, locals := 0 }
set_option maxHeartbeats 4000000 in
set_option maxRecDepth 100000 in
theorem k_X2_faultPlace {l : Launch} {E : en_T} (hR : ShR E)  {σ : sg_T} {r : Int32} (hf : f_X2_faultPlace  σ = some r) : Ct l yX2_faultPlace cX2_faultPlace 1 (some .int) rm_X2_faultPlace E [.ref (eP E 1)] σ (some (.int r)) σ := by
  refine Ct.start (by decide) hR.1 (Nat.le_of_ble_eq_true rfl) ?_
  intro p e s m below meth c X hw ls hl
  have X : Cx E p s m _ meth c cX2_faultPlace 1 RX2 (some .int) := X
  have hl : lv_has ls 1 [(0, .ref (eP E 1))] := hl
  unfold f_X2_faultPlace at hf
  refine lv_aload_n X.1 X.2.1 dX2_faultPlace_0 rfl (lv_at hl 0 rfl) ?_
  refine r_get X hw (sp1 hR) (C := RX2) (T := TX2) (N := 8) rfl iwX2 6 (by decide) (Nat.le_of_ble_eq_true rfl) qw103 (v := .int (σ 1 6)) rfl dX2_faultPlace_1 ?_
  refine lv_aload_n X.1 X.2.1 dX2_faultPlace_4 rfl (lv_at hl 0 rfl) ?_
  refine r_get X hw (sp1 hR) (C := RX2) (T := TX2) (N := 8) rfl iwX2 5 (by decide) (Nat.le_of_ble_eq_true rfl) qw102 (v := .int (σ 1 5)) rfl dX2_faultPlace_5 ?_
  refine lv_icmp_ge (tgt := 23) X.1 X.2.1 dX2_faultPlace_8 (by decide) (fun c1 => ?_) (fun c1 => ?_)
  · have hf := if_t hf c1
    refine lv_aload_n X.1 X.2.1 dX2_faultPlace_23 rfl (lv_at hl 0 rfl) ?_
    refine r_get X hw (sp1 hR) (C := RX2) (T := TX2) (N := 8) rfl iwX2 1 (by decide) (Nat.le_of_ble_eq_true rfl) qw98 (v := .int (σ 1 1)) rfl dX2_faultPlace_24 ?_
    obtain rfl := Option.some.inj hf
    exact r_iret X hw dX2_faultPlace_27
  · have hf := if_e hf c1
    refine lv_aload_n X.1 X.2.1 dX2_faultPlace_11 rfl (lv_at hl 0 rfl) ?_
    refine r_get X hw (sp1 hR) (C := RX2) (T := TX2) (N := 8) rfl iwX2 3 (by decide) (Nat.le_of_ble_eq_true rfl) qw100 (v := .ref (eP E 4)) rfl dX2_faultPlace_12 ?_
    refine lv_aload_n X.1 X.2.1 dX2_faultPlace_15 rfl (lv_at hl 0 rfl) ?_
    refine r_get X hw (sp1 hR) (C := RX2) (T := TX2) (N := 8) rfl iwX2 6 (by decide) (Nat.le_of_ble_eq_true rfl) qw103 (v := .int (σ 1 6)) rfl dX2_faultPlace_16 ?_
    obtain ⟨h2, hf⟩ := b_ck hf
    refine r_iald X hw (sp4 hR) h2 dX2_faultPlace_19 ?_
    refine lv_goto (tgt := 27) X.1 X.2.1 dX2_faultPlace_20 (by decide) ?_
    obtain rfl := Option.some.inj hf
    exact r_iret X hw dX2_faultPlace_27
abbrev rm_X2_read : Room := { frames := 106, cells := 0, slots := 0, locals := 7884 }
set_option maxHeartbeats 4000000 in
set_option maxRecDepth 100000 in
theorem w_X2_read_20 {p : Program} {l : Launch} {e : Env} {s : State} {m : MethodId} {args : Array Value} {below : List Frame} {meth : Method} {c : Code} {Q : State → Prop} {E : en_T} (X : Cx E p s m args meth c cX2_read 3 RX2 (some .int)) (hR : ShR E) {o51 : Nat} (ho51 : isT o51)  {res : (Int32 × sg_T) ⊕ (Int32 × sg_T)} :
    ∀ (n : Nat) (w2 : Int32) (σ : sg_T), itr (fun q => b_X2_read_20 o51 q.1 q.2) n (w2, σ) = some res → ∀ (H : Heap) (locs : List Loc) (ls : Array Slot), Hw E σ s H locs → lv_has ls 3 [(0, .ref (eP E 1)), (1, .ref (eP E o51)), (2, .int w2)] →
    (∀ (y2 : Int32) (τ : sg_T), res = .inl (y2, τ) → ∀ (H : Heap) (locs : List Loc) (ls : Array Slot), Hw E τ s H locs → lv_has ls 3 [(0, .ref (eP E 1)), (1, .ref (eP E o51)), (2, .int y2)] → W p l e rm_X2_read s m args below meth c H locs 0 0 Q (F0 m 44 ls [])) →
    (∀ (r : Int32) (σ' : sg_T), res = .inr (r, σ') → Q = MQ below (Qf E (some (.int r)) σ') args s 0 0 (en_A E)) →
    W p l e rm_X2_read s m args below meth c H locs 0 0 Q (F0 m 20 ls []) := by
  intro n
  induction n with
  | zero =>
    intro w2 σ hf0
    exact (itr_0 hf0).elim
  | succ n ih =>
    intro w2 σ hf0 H locs ls hw hl K1 K2
    obtain ⟨r0, hf, hr1, hr2⟩ := itr_s hf0
    have hf : b_X2_read_20 o51 w2 σ = some r0 := hf
    unfold b_X2_read_20 at hf
    refine lv_iload_n X.1 X.2.1 dX2_read_20 rfl (lv_at hl 2 rfl) ?_
    refine lv_iconst (v := 3) X.1 X.2.1 dX2_read_21 (by decide) ?_
    refine lv_icmp_ge (tgt := 44) X.1 X.2.1 dX2_read_22 (by decide) (fun c9 => ?_) (fun c9 => ?_)
    · have hf := if_t hf c9
      obtain rfl := Option.some.inj hf
      obtain rfl := hr2 _ rfl
      exact K1 _ _ rfl _ _ _ hw (lv_sub hl [0, 1, 2] rfl)
    · have hf := if_e hf c9
      refine lv_aload_n X.1 X.2.1 dX2_read_25 rfl (lv_at hl 0 rfl) ?_
      refine lv_iload_n X.1 X.2.1 dX2_read_26 rfl (lv_at hl 2 rfl) ?_
      obtain ⟨r11, σ12, h10, hf⟩ := b_bd2 hf
      refine r_callV X hw (k_X2_readPart hR  h10) (sp1 hR) (C := RX2) (T := TX2) (N := 8) rfl qw262 qw264 qw6 qw68 qw265 okX2_readPart ⟨rfl, rfl⟩ ⟨(Nat.le_of_ble_eq_true rfl), (Nat.le_of_ble_eq_true rfl)⟩ ⟨Nat.zero_le _, Nat.zero_le _⟩ rfl hl.1 (rest := []) rfl (Nat.le_of_ble_eq_true rfl) dX2_read_27 (st1 := [.int r11]) rfl (fun H locs hw => ?_)
      refine lv_if_ne (tgt := 38) X.1 X.2.1 dX2_read_30 (by decide) (fun c13 => ?_) (fun c13 => ?_)
      · have hf := if_e hf c13
        obtain ⟨v14, e15, hf⟩ := b_bnd hf
        refine lv_iinc (v := v14) (k := 2) (lv' := [(2, .int v14), (0, .ref (eP E 1)), (1, .ref (eP E o51))]) X.1 X.2.1 dX2_read_38 hl rfl (by rw [e15]; exact congrArg _ (by decide)) (by decide) rfl (fun ls hl => ?_)
        refine lv_goto (tgt := 20) X.1 X.2.1 dX2_read_41 (by decide) ?_
        obtain rfl := Option.some.inj hf
        exact ih _ _ (hr1 _ rfl) _ _ _ hw (lv_sub hl [1, 2, 0] rfl) K1 K2
      · have hf := if_t hf c13
        refine lv_aload_n X.1 X.2.1 dX2_read_33 rfl (lv_at hl 0 rfl) ?_
        obtain ⟨r17, h16, hf⟩ := b_bd1 hf
        refine r_callV X hw (k_X2_faultPlace hR  h16) (sp1 hR) (C := RX2) (T := TX2) (N := 8) rfl qw311 qw313 qw15 qw68 qw314 okX2_faultPlace ⟨rfl, rfl⟩ ⟨(Nat.le_of_ble_eq_true rfl), (Nat.le_of_ble_eq_true rfl)⟩ ⟨Nat.zero_le _, Nat.zero_le _⟩ rfl hl.1 (rest := []) rfl (Nat.le_of_ble_eq_true rfl) dX2_read_34 (st1 := [.int r17]) rfl (fun H locs hw => ?_)
        obtain rfl := Option.some.inj hf
        obtain rfl := hr2 _ rfl
        rw [K2 _ _ rfl]
        exact r_iret X hw dX2_read_37
set_option maxHeartbeats 4000000 in
set_option maxRecDepth 100000 in
theorem k_X2_read {l : Launch} {E : en_T} (hR : ShR E) {o1 : Nat} (ho1 : isT o1) {σ : sg_T} {r : Int32} {σ' : sg_T} (hf : f_X2_read o1 σ = some (r, σ')) : Ct l yX2_read cX2_read 3 (some .int) rm_X2_read E [.ref (eP E 1), .ref (eP E o1)] σ (some (.int r)) σ' := by
  refine Ct.start (by decide) hR.1 (Nat.le_of_ble_eq_true rfl) ?_
  intro p e s m below meth c X hw ls hl
  have X : Cx E p s m _ meth c cX2_read 3 RX2 (some .int) := X
  have hl : lv_has ls 3 [(0, .ref (eP E 1)), (1, .ref (eP E o1))] := hl
  unfold f_X2_read at hf
  refine lv_aload_n X.1 X.2.1 dX2_read_0 rfl (lv_at hl 0 rfl) ?_
  obtain ⟨σ2, h1, hf⟩ := b_bd1 hf
  refine r_callV X hw (k_X2_split hR  h1) (sp1 hR) (C := RX2) (T := TX2) (N := 8) rfl qw224 qw226 qw0 qw68 qw227 okX2_split ⟨rfl, rfl⟩ ⟨(Nat.le_of_ble_eq_true rfl), (Nat.le_of_ble_eq_true rfl)⟩ ⟨Nat.zero_le _, Nat.zero_le _⟩ rfl hl.1 (rest := []) rfl (Nat.le_of_ble_eq_true rfl) dX2_read_1 (st1 := []) rfl (fun H locs hw => ?_)
  refine lv_aload_n X.1 X.2.1 dX2_read_4 rfl (lv_at hl 0 rfl) ?_
  refine lv_iconst (v := 0) X.1 X.2.1 dX2_read_5 (by decide) ?_
  refine r_put X hw (sp1 hR) (C := RX2) (T := TX2) (N := 8) rfl iwX2 tyX2 tyX2_ok nmX2 6 (by decide) (Nat.le_of_ble_eq_true rfl) qw103 rfl (v := .int 0) rfl rfl (x := 0) rfl dX2_read_6 (fun H locs hw => ?_)
  obtain ⟨σ3, e4, hf⟩ := b_bnd hf
  rw [← e4] at hw
  refine lv_aload_n X.1 X.2.1 dX2_read_9 rfl (lv_at hl 0 rfl) ?_
  refine lv_aload_n X.1 X.2.1 dX2_read_10 rfl (lv_at hl 1 rfl) ?_
  refine r_put X hw (sp1 hR) (C := RX2) (T := TX2) (N := 8) rfl iwX2 tyX2 tyX2_ok nmX2 7 (by decide) (Nat.le_of_ble_eq_true rfl) qw104 rfl (v := .ref (eP E o1)) rfl rfl (x := (nI o1)) (fv_into ho1) dX2_read_11 (fun H locs hw => ?_)
  obtain ⟨σ5, e6, hf⟩ := b_bnd hf
  rw [← e6] at hw
  refine lv_aload_n X.1 X.2.1 dX2_read_14 rfl (lv_at hl 1 rfl) ?_
  obtain ⟨σ8, h7, hf⟩ := b_bd1 hf
  refine r_callV X hw (k_X5_clear hR ho1 h7) (spT0 hR ho1) (C := RX5) (T := TX5) (N := 3) rfl qw258 qw259 qw260 qw70 qw261 okX5_clear ⟨rfl, rfl⟩ ⟨(Nat.le_of_ble_eq_true rfl), (Nat.le_of_ble_eq_true rfl)⟩ ⟨Nat.zero_le _, Nat.zero_le _⟩ rfl hl.1 (rest := []) rfl (Nat.le_of_ble_eq_true rfl) dX2_read_15 (st1 := []) rfl (fun H locs hw => ?_)
  refine lv_iconst (v := 0) X.1 X.2.1 dX2_read_18 (by decide) ?_
  refine lv_istore_n (lv' := [(2, .int 0), (0, .ref (eP E 1)), (1, .ref (eP E o1))]) X.1 X.2.1 dX2_read_19 rfl hl (by decide) rfl (fun ls hl => ?_)
  obtain ⟨r21, h18, hf⟩ := b_bs hf
  rcases hf with ⟨⟨v19, σ20⟩, rfl, hf⟩ | ⟨⟨r22, σ23⟩, rfl, hf⟩
  · refine w_X2_read_20 X hR ho1 lfu _ _ h18 _ _ _ hw (lv_sub hl [1, 2, 0] rfl) (fun yv19 yσ20 hq H locs ls hw hl => ?_) (fun _ _ hq => by cases hq)
    cases hq
    dsimp only at hf
    refine lv_aload_n X.1 X.2.1 dX2_read_44 rfl (lv_at hl 0 rfl) ?_
    obtain ⟨r25, h24, hf⟩ := b_bd1 hf
    refine r_callV X hw (k_X2_now hR  h24) (sp1 hR) (C := RX2) (T := TX2) (N := 8) rfl qw270 qw272 qw8 qw68 qw273 okX2_now ⟨rfl, rfl⟩ ⟨(Nat.le_of_ble_eq_true rfl), (Nat.le_of_ble_eq_true rfl)⟩ ⟨Nat.zero_le _, Nat.zero_le _⟩ rfl hl.1 (rest := []) rfl (Nat.le_of_ble_eq_true rfl) dX2_read_45 (st1 := [.int r25]) rfl (fun H locs hw => ?_)
    refine lv_sipush (v := 301) X.1 X.2.1 dX2_read_48 (by decide) ?_
    refine lv_icmp_ne (tgt := 58) X.1 X.2.1 dX2_read_51 (by decide) (fun c26 => ?_) (fun c26 => ?_)
    · have hf := if_e hf c26
      refine lv_aload_n X.1 X.2.1 dX2_read_58 rfl (lv_at hl 0 rfl) ?_
      obtain ⟨r28, h27, hf⟩ := b_bd1 hf
      refine r_callV X hw (k_X2_faultPlace hR  h27) (sp1 hR) (C := RX2) (T := TX2) (N := 8) rfl qw311 qw313 qw15 qw68 qw314 okX2_faultPlace ⟨rfl, rfl⟩ ⟨(Nat.le_of_ble_eq_true rfl), (Nat.le_of_ble_eq_true rfl)⟩ ⟨Nat.zero_le _, Nat.zero_le _⟩ rfl hl.1 (rest := []) rfl (Nat.le_of_ble_eq_true rfl) dX2_read_59 (st1 := [.int r28]) rfl (fun H locs hw => ?_)
      obtain ⟨rfl, rfl⟩ := Prod.mk.inj (Option.some.inj hf)
      exact r_iret X hw dX2_read_62
    · have hf := if_t hf c26
      refine lv_iconst (v := (-1)) X.1 X.2.1 dX2_read_54 (by decide) ?_
      refine lv_goto (tgt := 62) X.1 X.2.1 dX2_read_55 (by decide) ?_
      obtain ⟨rfl, rfl⟩ := Prod.mk.inj (Option.some.inj hf)
      exact r_iret X hw dX2_read_62
  · refine w_X2_read_20 X hR ho1 lfu _ _ h18 _ _ _ hw (lv_sub hl [1, 2, 0] rfl) (fun _ _ hq => by cases hq) (fun _ _ hq => ?_)
    cases hq
    cases hf
    rfl
abbrev rm_X2_clear : Room := { frames := 0, cells := 0, slots := 0, locals := 0 }
set_option maxHeartbeats 4000000 in
set_option maxRecDepth 100000 in
theorem k_X2_clear {l : Launch} {E : en_T} (hR : ShR E)  {σ : sg_T}  {σ' : sg_T} (hf : f_X2_clear  σ = some σ') : Ct l yX2_clear cX2_clear 1 none rm_X2_clear E [.ref (eP E 1)] σ none σ' := by
  refine Ct.start (by decide) hR.1 (Nat.le_of_ble_eq_true rfl) ?_
  intro p e s m below meth c X hw ls hl
  have X : Cx E p s m _ meth c cX2_clear 1 RX2 none := X
  have hl : lv_has ls 1 [(0, .ref (eP E 1))] := hl
  unfold f_X2_clear at hf
  refine lv_aload_n X.1 X.2.1 dX2_clear_0 rfl (lv_at hl 0 rfl) ?_
  refine lv_iconst (v := 0) X.1 X.2.1 dX2_clear_1 (by decide) ?_
  refine r_put X hw (sp1 hR) (C := RX2) (T := TX2) (N := 8) rfl iwX2 tyX2 tyX2_ok nmX2 1 (by decide) (Nat.le_of_ble_eq_true rfl) qw98 rfl (v := .int 0) rfl rfl (x := 0) rfl dX2_clear_2 (fun H locs hw => ?_)
  obtain ⟨σ1, e2, hf⟩ := b_bnd hf
  rw [← e2] at hw
  obtain rfl := Option.some.inj hf
  exact r_vret X hw dX2_clear_5
abbrev rm_X2_size : Room := { frames := 0, cells := 0, slots := 0, locals := 0 }
set_option maxHeartbeats 4000000 in
set_option maxRecDepth 100000 in
theorem k_X2_size {l : Launch} {E : en_T} (hR : ShR E)  {σ : sg_T} {r : Int32} (hf : f_X2_size  σ = some r) : Ct l yX2_size cX2_size 1 (some .int) rm_X2_size E [.ref (eP E 1)] σ (some (.int r)) σ := by
  refine Ct.start (by decide) hR.1 (Nat.le_of_ble_eq_true rfl) ?_
  intro p e s m below meth c X hw ls hl
  have X : Cx E p s m _ meth c cX2_size 1 RX2 (some .int) := X
  have hl : lv_has ls 1 [(0, .ref (eP E 1))] := hl
  unfold f_X2_size at hf
  refine lv_aload_n X.1 X.2.1 dX2_size_0 rfl (lv_at hl 0 rfl) ?_
  refine r_get X hw (sp1 hR) (C := RX2) (T := TX2) (N := 8) rfl iwX2 1 (by decide) (Nat.le_of_ble_eq_true rfl) qw98 (v := .int (σ 1 1)) rfl dX2_size_1 ?_
  obtain rfl := Option.some.inj hf
  exact r_iret X hw dX2_size_4
