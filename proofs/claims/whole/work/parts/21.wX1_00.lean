theorem okX1_has : yX1_has.cls = RX1 ∧ yX1_has.cls ≠ "java/lang/invoke/MethodHandle" ∧ yX1_has.cls ≠ "java/lang/invoke/VarHandle" ∧ (parseMethodDescriptor yX1_has.desc).map (fun d => d.parameters.length) = some 1 := by decide +kernel
abbrev rm_X1_has : Room := { frames := 0, cells := 0, slots := 0, locals := 0 }
set_option maxHeartbeats 4000000 in
set_option maxRecDepth 100000 in
theorem k_X1_has {l : Launch} {E : en_T} (hE : ShF E) {o : Nat} (ho : isP o) {x1 : Int32} {σ : sg_T} {r : Int32} (hf : f_X1_has o x1 σ = some r) : Ct l yX1_has cX1_has 2 (some .boolean) rm_X1_has E [.ref (eP E o), .int x1] σ (some (.int r)) σ := by
  refine Ct.start (by decide) hE.1 (Nat.le_of_ble_eq_true rfl) ?_
  intro p e s m below meth c X hw ls hl
  have X : Cx E p s m _ meth c cX1_has 2 RX1 (some .boolean) := X
  have hR : ShR E := hE.r
  have hl : lv_has ls 2 [(0, .ref (eP E o)), (1, .int x1)] := hl
  unfold f_X1_has at hf
  refine lv_iload_n X.1 X.2.1 dX1_has_0 rfl (lv_at hl 1 rfl) ?_
  refine lv_if_lt (tgt := 16) X.1 X.2.1 dX1_has_1 (by decide) (fun c1 => ?_) (fun c1 => ?_)
  · have hf := if_t hf c1
    refine lv_iconst (v := 0) X.1 X.2.1 dX1_has_16 (by decide) ?_
    cases hf
    exact r_zret X hw (by decide) dX1_has_17
  · have hf := if_e hf c1
    refine lv_iload_n X.1 X.2.1 dX1_has_4 rfl (lv_at hl 1 rfl) ?_
    refine lv_aload_n X.1 X.2.1 dX1_has_5 rfl (lv_at hl 0 rfl) ?_
    refine r_get X hw (spP0 hE ho) (C := RX1) (T := TX1) (N := 10) rfl iwX1 7 (by decide) (Nat.le_of_ble_eq_true rfl) qw359 (v := .int (σ o 7)) rfl dX1_has_6 ?_
    refine lv_icmp_ge (tgt := 16) X.1 X.2.1 dX1_has_9 (by decide) (fun c2 => ?_) (fun c2 => ?_)
    · have hf := if_t hf c2
      refine lv_iconst (v := 0) X.1 X.2.1 dX1_has_16 (by decide) ?_
      cases hf
      exact r_zret X hw (by decide) dX1_has_17
    · have hf := if_e hf c2
      refine lv_iconst (v := 1) X.1 X.2.1 dX1_has_12 (by decide) ?_
      refine lv_goto (tgt := 17) X.1 X.2.1 dX1_has_13 (by decide) ?_
      cases hf
      exact r_zret X hw (by decide) dX1_has_17
theorem okX1_setterOf : yX1_setterOf.cls = RX1 ∧ yX1_setterOf.cls ≠ "java/lang/invoke/MethodHandle" ∧ yX1_setterOf.cls ≠ "java/lang/invoke/VarHandle" ∧ (parseMethodDescriptor yX1_setterOf.desc).map (fun d => d.parameters.length) = some 1 := by decide +kernel
abbrev rm_X1_setterOf : Room := { frames := 1, cells := 0, slots := 0, locals := 100 }
set_option maxHeartbeats 4000000 in
set_option maxRecDepth 100000 in
theorem w_X1_setterOf_17 {p : Program} {l : Launch} {e : Env} {s : State} {m : MethodId} {args : Array Value} {below : List Frame} {meth : Method} {c : Code} {Q : State → Prop} {E : en_T} (X : Cx E p s m args meth c cX1_setterOf 6 RX1 (some .int)) (hE : ShF E) {o50 : Nat} (ho50 : isP o50) {u1 : Int32} {σ : sg_T} {res : Int32 × Int32 × Int32} :
    ∀ (n : Nat) (w2 : Int32) (w3 : Int32) (w4 : Int32), itr (fun q => b_X1_setterOf_17 o50 u1 q.1 q.2.1 q.2.2 σ) n (w2, w3, w4) = some res → ∀ (H : Heap) (locs : List Loc) (ls : Array Slot), Hw E σ s H locs → lv_has ls 6 [(0, .ref (eP E o50)), (1, .int u1), (2, .int w2), (3, .int w3), (4, .int w4)] →
    (∀ (y2 : Int32) (y3 : Int32) (y4 : Int32), res = (y2, y3, y4) → ∀ (H : Heap) (locs : List Loc) (ls : Array Slot), Hw E σ s H locs → lv_has ls 6 [(0, .ref (eP E o50)), (1, .int u1), (2, .int y2), (3, .int y3), (4, .int y4)] → W p l e rm_X1_setterOf s m args below meth c H locs 0 0 Q (F0 m 57 ls [])) →
    W p l e rm_X1_setterOf s m args below meth c H locs 0 0 Q (F0 m 17 ls []) := by
  have hR : ShR E := hE.r
  intro n
  induction n with
  | zero =>
    intro w2 w3 w4 hf0
    exact (itr_0 hf0).elim
  | succ n ih =>
    intro w2 w3 w4 hf0 H locs ls hw hl K1
    obtain ⟨r0, hf, hr1, hr2⟩ := itr_s hf0
    have hf : b_X1_setterOf_17 o50 u1 w2 w3 w4 σ = some r0 := hf
    unfold b_X1_setterOf_17 at hf
    refine lv_iload X.1 X.2.1 dX1_setterOf_17 (lv_at hl 4 rfl) ?_
    refine lv_aload_n X.1 X.2.1 dX1_setterOf_19 rfl (lv_at hl 0 rfl) ?_
    refine r_get X hw (spP0 hE ho50) (C := RX1) (T := TX1) (N := 10) rfl iwX1 7 (by decide) (Nat.le_of_ble_eq_true rfl) qw359 (v := .int (σ o50 7)) rfl dX1_setterOf_20 ?_
    refine lv_icmp_ge (tgt := 57) X.1 X.2.1 dX1_setterOf_23 (by decide) (fun c4 => ?_) (fun c4 => ?_)
    · have hf := if_t hf c4
      obtain rfl := Option.some.inj hf
      obtain rfl := hr2 _ rfl
      exact K1 _ _ _ rfl _ _ _ hw (lv_sub hl [0, 1, 2, 3, 4] rfl)
    · have hf := if_e hf c4
      refine lv_aload_n X.1 X.2.1 dX1_setterOf_26 rfl (lv_at hl 0 rfl) ?_
      refine r_get X hw (spP0 hE ho50) (C := RX1) (T := TX1) (N := 10) rfl iwX1 6 (by decide) (Nat.le_of_ble_eq_true rfl) qw358 (v := .ref (eP E (o50 + 7))) rfl dX1_setterOf_27 ?_
      refine lv_iload X.1 X.2.1 dX1_setterOf_30 (lv_at hl 4 rfl) ?_
      refine lv_iconst (v := 5) X.1 X.2.1 dX1_setterOf_32 (by decide) ?_
      refine lv_imul X.1 X.2.1 dX1_setterOf_33 ?_
      refine lv_iload_n X.1 X.2.1 dX1_setterOf_34 rfl (lv_at hl 1 rfl) ?_
      refine lv_iadd X.1 X.2.1 dX1_setterOf_35 ?_
      obtain ⟨h5, hf⟩ := b_ck hf
      refine r_iald X hw (spP7 hE ho50) h5 dX1_setterOf_36 ?_
      refine r_bnd hf (fun v6 hf => ?_)
      refine lv_istore (lv' := [(5, .int v6), (0, .ref (eP E o50)), (1, .int u1), (2, .int w2), (3, .int w3), (4, .int w4)]) X.1 X.2.1 dX1_setterOf_37 hl (by decide) rfl (fun ls hl => ?_)
      refine lv_iload X.1 X.2.1 dX1_setterOf_39 (lv_at hl 0 rfl) ?_
      refine lv_iload_n X.1 X.2.1 dX1_setterOf_41 rfl (lv_at hl 4 rfl) ?_
      refine lv_icmp_le (tgt := 51) X.1 X.2.1 dX1_setterOf_42 (by decide) (fun c7 => ?_) (fun c7 => ?_)
      · have hf := if_t hf c7
        obtain ⟨v8, e9, hf⟩ := b_bnd hf
        refine lv_iinc (v := v8) (k := 5) (lv' := [(4, .int v8), (5, .int v6), (0, .ref (eP E o50)), (1, .int u1), (2, .int w2), (3, .int w3)]) X.1 X.2.1 dX1_setterOf_51 hl rfl (by rw [e9]; exact congrArg _ (by decide)) (by decide) rfl (fun ls hl => ?_)
        refine lv_goto (tgt := 17) X.1 X.2.1 dX1_setterOf_54 (by decide) ?_
        obtain rfl := Option.some.inj hf
        exact ih _ _ _ (hr1 _ rfl) _ _ _ hw (lv_sub hl [2, 3, 4, 5, 0] rfl) K1
      · have hf := if_e hf c7
        refine lv_iload X.1 X.2.1 dX1_setterOf_45 (lv_at hl 0 rfl) ?_
        refine lv_istore_n (lv' := [(3, .int v6), (5, .int v6), (0, .ref (eP E o50)), (1, .int u1), (2, .int w2), (4, .int w4)]) X.1 X.2.1 dX1_setterOf_47 rfl hl (by decide) rfl (fun ls hl => ?_)
        refine lv_iload X.1 X.2.1 dX1_setterOf_48 (lv_at hl 5 rfl) ?_
        refine lv_istore_n (lv' := [(2, .int w4), (3, .int v6), (5, .int v6), (0, .ref (eP E o50)), (1, .int u1), (4, .int w4)]) X.1 X.2.1 dX1_setterOf_50 rfl hl (by decide) rfl (fun ls hl => ?_)
        obtain ⟨v10, e11, hf⟩ := b_bnd hf
        refine lv_iinc (v := v10) (k := 5) (lv' := [(4, .int v10), (2, .int w4), (3, .int v6), (5, .int v6), (0, .ref (eP E o50)), (1, .int u1)]) X.1 X.2.1 dX1_setterOf_51 hl rfl (by rw [e11]; exact congrArg _ (by decide)) (by decide) rfl (fun ls hl => ?_)
        refine lv_goto (tgt := 17) X.1 X.2.1 dX1_setterOf_54 (by decide) ?_
        obtain rfl := Option.some.inj hf
        exact ih _ _ _ (hr1 _ rfl) _ _ _ hw (lv_sub hl [4, 5, 1, 2, 0] rfl) K1
set_option maxHeartbeats 4000000 in
set_option maxRecDepth 100000 in
theorem k_X1_setterOf {l : Launch} {E : en_T} (hE : ShF E) {o : Nat} (ho : isP o) {x1 : Int32} {σ : sg_T} {r : Int32} (hf : f_X1_setterOf o x1 σ = some r) : Ct l yX1_setterOf cX1_setterOf 6 (some .int) rm_X1_setterOf E [.ref (eP E o), .int x1] σ (some (.int r)) σ := by
  refine Ct.start (by decide) hE.1 (Nat.le_of_ble_eq_true rfl) ?_
  intro p e s m below meth c X hw ls hl
  have X : Cx E p s m _ meth c cX1_setterOf 6 RX1 (some .int) := X
  have hR : ShR E := hE.r
  have hl : lv_has ls 6 [(0, .ref (eP E o)), (1, .int x1)] := hl
  unfold f_X1_setterOf at hf
  refine lv_aload_n X.1 X.2.1 dX1_setterOf_0 rfl (lv_at hl 0 rfl) ?_
  refine lv_iload_n X.1 X.2.1 dX1_setterOf_1 rfl (lv_at hl 1 rfl) ?_
  obtain ⟨r2, h1, hf⟩ := b_bd1 hf
  refine r_callV X hw (k_X1_has hE ho h1) (spP0 hE ho) (C := RX1) (T := TX1) (N := 10) rfl qw455 qw456 qw457 qw77 qw458 okX1_has ⟨rfl, rfl⟩ ⟨(Nat.le_of_ble_eq_true rfl), (Nat.le_of_ble_eq_true rfl)⟩ ⟨Nat.zero_le _, Nat.zero_le _⟩ rfl hl.1 (rest := []) rfl (Nat.le_of_ble_eq_true rfl) dX1_setterOf_2 (st1 := [.int r2]) rfl (fun H locs hw => ?_)
  refine lv_if_ne (tgt := 10) X.1 X.2.1 dX1_setterOf_5 (by decide) (fun c3 => ?_) (fun c3 => ?_)
  · have hf := if_e hf c3
    refine lv_iconst (v := (-1)) X.1 X.2.1 dX1_setterOf_10 (by decide) ?_
    refine lv_istore_n (lv' := [(2, .int (-1)), (0, .ref (eP E o)), (1, .int x1)]) X.1 X.2.1 dX1_setterOf_11 rfl hl (by decide) rfl (fun ls hl => ?_)
    refine lv_iconst (v := 0) X.1 X.2.1 dX1_setterOf_12 (by decide) ?_
    refine lv_istore_n (lv' := [(3, .int 0), (2, .int (-1)), (0, .ref (eP E o)), (1, .int x1)]) X.1 X.2.1 dX1_setterOf_13 rfl hl (by decide) rfl (fun ls hl => ?_)
    refine lv_iconst (v := 0) X.1 X.2.1 dX1_setterOf_14 (by decide) ?_
    refine lv_istore (lv' := [(4, .int 0), (3, .int 0), (2, .int (-1)), (0, .ref (eP E o)), (1, .int x1)]) X.1 X.2.1 dX1_setterOf_15 hl (by decide) rfl (fun ls hl => ?_)
    obtain ⟨v13, v14, v15, h12, hf⟩ := b_bd3 hf
    refine w_X1_setterOf_17 X hE ho lfu _ _ _ h12 _ _ _ hw (lv_sub hl [3, 4, 2, 1, 0] rfl) (fun yv13 yv14 yv15 hq H locs ls hw hl => ?_)
    cases hq
    refine lv_iload_n X.1 X.2.1 dX1_setterOf_57 rfl (lv_at hl 2 rfl) ?_
    cases hf
    exact r_iret X hw dX1_setterOf_58
  · have hf := if_t hf c3
    refine lv_iconst (v := (-1)) X.1 X.2.1 dX1_setterOf_8 (by decide) ?_
    cases hf
    exact r_iret X hw dX1_setterOf_9
theorem okX1_whoseClocks : yX1_whoseClocks.cls = RX1 ∧ yX1_whoseClocks.cls ≠ "java/lang/invoke/MethodHandle" ∧ yX1_whoseClocks.cls ≠ "java/lang/invoke/VarHandle" ∧ (parseMethodDescriptor yX1_whoseClocks.desc).map (fun d => d.parameters.length) = some 1 := by decide +kernel
abbrev rm_X1_whoseClocks : Room := { frames := 2, cells := 0, slots := 0, locals := 125 }
set_option maxHeartbeats 4000000 in
set_option maxRecDepth 100000 in
theorem w_X1_whoseClocks_4 {p : Program} {l : Launch} {e : Env} {s : State} {m : MethodId} {args : Array Value} {below : List Frame} {meth : Method} {c : Code} {Q : State → Prop} {E : en_T} (X : Cx E p s m args meth c cX1_whoseClocks 4 RX1 (some .int)) (hE : ShF E) {o50 : Nat} (ho50 : isP o50) {u1 : Int32} {σ : sg_T} {res : Int32 × Int32} :
    ∀ (n : Nat) (w2 : Int32) (w3 : Int32), itr (fun q => b_X1_whoseClocks_4 o50 u1 q.1 q.2 σ) n (w2, w3) = some res → ∀ (H : Heap) (locs : List Loc) (ls : Array Slot), Hw E σ s H locs → lv_has ls 4 [(0, .ref (eP E o50)), (1, .int u1), (2, .int w2), (3, .int w3)] →
    (∀ (y2 : Int32) (y3 : Int32), res = (y2, y3) → ∀ (H : Heap) (locs : List Loc) (ls : Array Slot), Hw E σ s H locs → lv_has ls 4 [(0, .ref (eP E o50)), (1, .int u1), (2, .int y2), (3, .int y3)] → W p l e rm_X1_whoseClocks s m args below meth c H locs 0 0 Q (F0 m 33 ls [])) →
    W p l e rm_X1_whoseClocks s m args below meth c H locs 0 0 Q (F0 m 4 ls []) := by
  have hR : ShR E := hE.r
  intro n
  induction n with
  | zero =>
    intro w2 w3 hf0
    exact (itr_0 hf0).elim
  | succ n ih =>
    intro w2 w3 hf0 H locs ls hw hl K1
    obtain ⟨r0, hf, hr1, hr2⟩ := itr_s hf0
    have hf : b_X1_whoseClocks_4 o50 u1 w2 w3 σ = some r0 := hf
    unfold b_X1_whoseClocks_4 at hf
    refine lv_iload_n X.1 X.2.1 dX1_whoseClocks_4 rfl (lv_at hl 3 rfl) ?_
    refine lv_aload_n X.1 X.2.1 dX1_whoseClocks_5 rfl (lv_at hl 0 rfl) ?_
    refine r_get X hw (spP0 hE ho50) (C := RX1) (T := TX1) (N := 10) rfl iwX1 7 (by decide) (Nat.le_of_ble_eq_true rfl) qw359 (v := .int (σ o50 7)) rfl dX1_whoseClocks_6 ?_
    refine lv_icmp_ge (tgt := 33) X.1 X.2.1 dX1_whoseClocks_9 (by decide) (fun c1 => ?_) (fun c1 => ?_)
    · have hf := if_t hf c1
      obtain rfl := Option.some.inj hf
      obtain rfl := hr2 _ rfl
      exact K1 _ _ rfl _ _ _ hw (lv_sub hl [0, 1, 2, 3] rfl)
    · have hf := if_e hf c1
      refine lv_aload_n X.1 X.2.1 dX1_whoseClocks_12 rfl (lv_at hl 0 rfl) ?_
      refine lv_iload_n X.1 X.2.1 dX1_whoseClocks_13 rfl (lv_at hl 3 rfl) ?_
      obtain ⟨r3, h2, hf⟩ := b_bd1 hf
      refine r_callV X hw (k_X1_setterOf hE ho50 h2) (spP0 hE ho50) (C := RX1) (T := TX1) (N := 10) rfl qw557 qw492 qw493 qw77 qw494 okX1_setterOf ⟨rfl, rfl⟩ ⟨(Nat.le_of_ble_eq_true rfl), (Nat.le_of_ble_eq_true rfl)⟩ ⟨Nat.zero_le _, Nat.zero_le _⟩ rfl hl.1 (rest := []) rfl (Nat.le_of_ble_eq_true rfl) dX1_whoseClocks_14 (st1 := [.int r3]) rfl (fun H locs hw => ?_)
      refine lv_iload_n X.1 X.2.1 dX1_whoseClocks_17 rfl (lv_at hl 1 rfl) ?_
      refine lv_icmp_ne (tgt := 27) X.1 X.2.1 dX1_whoseClocks_18 (by decide) (fun c4 => ?_) (fun c4 => ?_)
      · have hf := if_e hf c4
        obtain ⟨v5, e6, hf⟩ := b_bnd hf
        refine lv_iinc (v := v5) (k := 3) (lv' := [(3, .int v5), (0, .ref (eP E o50)), (1, .int u1), (2, .int w2)]) X.1 X.2.1 dX1_whoseClocks_27 hl rfl (by rw [e6]; exact congrArg _ (by decide)) (by decide) rfl (fun ls hl => ?_)
        refine lv_goto (tgt := 4) X.1 X.2.1 dX1_whoseClocks_30 (by decide) ?_
        obtain rfl := Option.some.inj hf
        exact ih _ _ (hr1 _ rfl) _ _ _ hw (lv_sub hl [1, 2, 3, 0] rfl) K1
      · have hf := if_t hf c4
        refine lv_iload_n X.1 X.2.1 dX1_whoseClocks_21 rfl (lv_at hl 2 rfl) ?_
        refine lv_iconst (v := 1) X.1 X.2.1 dX1_whoseClocks_22 (by decide) ?_
        refine lv_iload_n X.1 X.2.1 dX1_whoseClocks_23 rfl (lv_at hl 3 rfl) ?_
        refine lv_ishl X.1 X.2.1 dX1_whoseClocks_24 ?_
        refine lv_ior X.1 X.2.1 dX1_whoseClocks_25 ?_
        refine r_bnd hf (fun v7 hf => ?_)
        refine lv_istore_n (lv' := [(2, .int v7), (0, .ref (eP E o50)), (1, .int u1), (3, .int w3)]) X.1 X.2.1 dX1_whoseClocks_26 rfl hl (by decide) rfl (fun ls hl => ?_)
        obtain ⟨v8, e9, hf⟩ := b_bnd hf
        refine lv_iinc (v := v8) (k := 3) (lv' := [(3, .int v8), (2, .int v7), (0, .ref (eP E o50)), (1, .int u1)]) X.1 X.2.1 dX1_whoseClocks_27 hl rfl (by rw [e9]; exact congrArg _ (by decide)) (by decide) rfl (fun ls hl => ?_)
        refine lv_goto (tgt := 4) X.1 X.2.1 dX1_whoseClocks_30 (by decide) ?_
        obtain rfl := Option.some.inj hf
        exact ih _ _ (hr1 _ rfl) _ _ _ hw (lv_sub hl [2, 3, 1, 0] rfl) K1
set_option maxHeartbeats 4000000 in
set_option maxRecDepth 100000 in
theorem k_X1_whoseClocks {l : Launch} {E : en_T} (hE : ShF E) {o : Nat} (ho : isP o) {x1 : Int32} {σ : sg_T} {r : Int32} (hf : f_X1_whoseClocks o x1 σ = some r) : Ct l yX1_whoseClocks cX1_whoseClocks 4 (some .int) rm_X1_whoseClocks E [.ref (eP E o), .int x1] σ (some (.int r)) σ := by
  refine Ct.start (by decide) hE.1 (Nat.le_of_ble_eq_true rfl) ?_
  intro p e s m below meth c X hw ls hl
  have X : Cx E p s m _ meth c cX1_whoseClocks 4 RX1 (some .int) := X
  have hR : ShR E := hE.r
  have hl : lv_has ls 4 [(0, .ref (eP E o)), (1, .int x1)] := hl
  unfold f_X1_whoseClocks at hf
  refine lv_iconst (v := 0) X.1 X.2.1 dX1_whoseClocks_0 (by decide) ?_
  refine lv_istore_n (lv' := [(2, .int 0), (0, .ref (eP E o)), (1, .int x1)]) X.1 X.2.1 dX1_whoseClocks_1 rfl hl (by decide) rfl (fun ls hl => ?_)
  refine lv_iconst (v := 0) X.1 X.2.1 dX1_whoseClocks_2 (by decide) ?_
  refine lv_istore_n (lv' := [(3, .int 0), (2, .int 0), (0, .ref (eP E o)), (1, .int x1)]) X.1 X.2.1 dX1_whoseClocks_3 rfl hl (by decide) rfl (fun ls hl => ?_)
  obtain ⟨v11, v12, h10, hf⟩ := b_bd2 hf
  refine w_X1_whoseClocks_4 X hE ho lfu _ _ h10 _ _ _ hw (lv_sub hl [2, 3, 1, 0] rfl) (fun yv11 yv12 hq H locs ls hw hl => ?_)
  cases hq
  refine lv_iload_n X.1 X.2.1 dX1_whoseClocks_33 rfl (lv_at hl 2 rfl) ?_
  cases hf
  exact r_iret X hw dX1_whoseClocks_34
theorem okX1_hasTwo : yX1_hasTwo.cls = RX1 ∧ yX1_hasTwo.cls ≠ "java/lang/invoke/MethodHandle" ∧ yX1_hasTwo.cls ≠ "java/lang/invoke/VarHandle" ∧ (parseMethodDescriptor yX1_hasTwo.desc).map (fun d => d.parameters.length) = some 2 := by decide +kernel
abbrev rm_X1_hasTwo : Room := { frames := 1, cells := 0, slots := 0, locals := 100 }
set_option maxHeartbeats 4000000 in
set_option maxRecDepth 100000 in
theorem k_X1_hasTwo {l : Launch} {E : en_T} (hE : ShF E) {o : Nat} (ho : isP o) {x1 : Int32} {x2 : Int32} {σ : sg_T} {r : Int32} (hf : f_X1_hasTwo o x1 x2 σ = some r) : Ct l yX1_hasTwo cX1_hasTwo 3 (some .boolean) rm_X1_hasTwo E [.ref (eP E o), .int x1, .int x2] σ (some (.int r)) σ := by
  refine Ct.start (by decide) hE.1 (Nat.le_of_ble_eq_true rfl) ?_
  intro p e s m below meth c X hw ls hl
  have X : Cx E p s m _ meth c cX1_hasTwo 3 RX1 (some .boolean) := X
  have hR : ShR E := hE.r
  have hl : lv_has ls 3 [(0, .ref (eP E o)), (1, .int x1), (2, .int x2)] := hl
  unfold f_X1_hasTwo at hf
  refine lv_aload_n X.1 X.2.1 dX1_hasTwo_0 rfl (lv_at hl 0 rfl) ?_
  refine lv_iload_n X.1 X.2.1 dX1_hasTwo_1 rfl (lv_at hl 1 rfl) ?_
  obtain ⟨r2, h1, hf⟩ := b_bd1 hf
  refine r_callV X hw (k_X1_has hE ho h1) (spP0 hE ho) (C := RX1) (T := TX1) (N := 10) rfl qw455 qw456 qw457 qw77 qw458 okX1_has ⟨rfl, rfl⟩ ⟨(Nat.le_of_ble_eq_true rfl), (Nat.le_of_ble_eq_true rfl)⟩ ⟨Nat.zero_le _, Nat.zero_le _⟩ rfl hl.1 (rest := []) rfl (Nat.le_of_ble_eq_true rfl) dX1_hasTwo_2 (st1 := [.int r2]) rfl (fun H locs hw => ?_)
  refine lv_if_eq (tgt := 25) X.1 X.2.1 dX1_hasTwo_5 (by decide) (fun c3 => ?_) (fun c3 => ?_)
  · have hf := if_t hf c3
    refine lv_iconst (v := 0) X.1 X.2.1 dX1_hasTwo_25 (by decide) ?_
    cases hf
    exact r_zret X hw (by decide) dX1_hasTwo_26
  · have hf := if_e hf c3
    refine lv_aload_n X.1 X.2.1 dX1_hasTwo_8 rfl (lv_at hl 0 rfl) ?_
    refine lv_iload_n X.1 X.2.1 dX1_hasTwo_9 rfl (lv_at hl 2 rfl) ?_
    obtain ⟨r5, h4, hf⟩ := b_bd1 hf
    refine r_callV X hw (k_X1_has hE ho h4) (spP0 hE ho) (C := RX1) (T := TX1) (N := 10) rfl qw455 qw456 qw457 qw77 qw458 okX1_has ⟨rfl, rfl⟩ ⟨(Nat.le_of_ble_eq_true rfl), (Nat.le_of_ble_eq_true rfl)⟩ ⟨Nat.zero_le _, Nat.zero_le _⟩ rfl hl.1 (rest := []) rfl (Nat.le_of_ble_eq_true rfl) dX1_hasTwo_10 (st1 := [.int r5]) rfl (fun H locs hw => ?_)
    refine lv_if_eq (tgt := 25) X.1 X.2.1 dX1_hasTwo_13 (by decide) (fun c6 => ?_) (fun c6 => ?_)
    · have hf := if_t hf c6
      refine lv_iconst (v := 0) X.1 X.2.1 dX1_hasTwo_25 (by decide) ?_
      cases hf
      exact r_zret X hw (by decide) dX1_hasTwo_26
    · have hf := if_e hf c6
      refine lv_iload_n X.1 X.2.1 dX1_hasTwo_16 rfl (lv_at hl 1 rfl) ?_
      refine lv_iload_n X.1 X.2.1 dX1_hasTwo_17 rfl (lv_at hl 2 rfl) ?_
      refine lv_icmp_eq (tgt := 25) X.1 X.2.1 dX1_hasTwo_18 (by decide) (fun c7 => ?_) (fun c7 => ?_)
      · have hf := if_t hf c7
        refine lv_iconst (v := 0) X.1 X.2.1 dX1_hasTwo_25 (by decide) ?_
        cases hf
        exact r_zret X hw (by decide) dX1_hasTwo_26
      · have hf := if_e hf c7
        refine lv_iconst (v := 1) X.1 X.2.1 dX1_hasTwo_21 (by decide) ?_
        refine lv_goto (tgt := 26) X.1 X.2.1 dX1_hasTwo_22 (by decide) ?_
        cases hf
        exact r_zret X hw (by decide) dX1_hasTwo_26
