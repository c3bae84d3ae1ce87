def rm_goOn (n : Nat) : Room := { frames := n + 40, cells := 0, slots := 0, locals := 60 * n + 4000 }
theorem rm_goOn_ok (n : Nat) {k : Nat} (h : k ≤ 40) : (rm_goOn n).frames + 1 ≤ (rm_goOn (n + 1)).frames ∧ 8 + (k + 11) + (rm_goOn n).locals ≤ (rm_goOn (n + 1)).locals := by
  refine ⟨?_, ?_⟩
  · show n + 40 + 1 ≤ n + 1 + 40
    omega
  · show 8 + (k + 11) + (60 * n + 4000) ≤ 60 * (n + 1) + 4000
    omega
set_option maxHeartbeats 4000000 in
set_option maxRecDepth 100000 in
theorem w_X6_goOn_37 {p : Program} {l : Launch} {e : Env} {s : State} {m : MethodId} {args : Array Value} {below : List Frame} {meth : Method} {c : Code} {Q : State → Prop} {E : en_T} (X : Cx E p s m args meth c cX6_goOn 6 RX6 none) (hE : ShF E) {rec : Int32 → Int32 → Int32 → Int32 → sg_T → Option sg_T} {n0 : Nat} (ih_X6_goOn : ∀ {x1 x2 x3 x4 : Int32} {σ σ' : sg_T}, rec x1 x2 x3 x4 σ = some σ' → Ct l yX6_goOn cX6_goOn 6 none (rm_goOn n0) E [.ref (eP E 58), .int x1, .int x2, .int x3, .int x4] σ none σ') {u1 : Int32} {u2 : Int32} {u3 : Int32} {u4 : Int32}  {res : Int32 × sg_T} :
    ∀ (n : Nat) (w5 : Int32) (σ : sg_T), itr (fun q => b_X6_goOn_37 rec u1 u2 u3 u4 q.1 q.2) n (w5, σ) = some res → ∀ (H : Heap) (locs : List Loc) (ls : Array Slot), Hw E σ s H locs → lv_has ls 6 [(0, .ref (eP E 58)), (1, .int u1), (2, .int u2), (3, .int u3), (4, .int u4), (5, .int w5)] →
    (∀ (y5 : Int32) (τ : sg_T), res = (y5, τ) → ∀ (H : Heap) (locs : List Loc) (ls : Array Slot), Hw E τ s H locs → lv_has ls 6 [(0, .ref (eP E 58)), (1, .int u1), (2, .int u2), (3, .int u3), (4, .int u4), (5, .int y5)] → W p l e (rm_goOn (n0 + 1)) s m args below meth c H locs 0 0 Q (F0 m 103 ls [])) →
    W p l e (rm_goOn (n0 + 1)) s m args below meth c H locs 0 0 Q (F0 m 37 ls []) := by
  have hR : ShR E := hE.r
  intro n
  induction n with
  | zero =>
    intro w5 σ hf0
    exact (itr_0 hf0).elim
  | succ n ih =>
    intro w5 σ hf0 H locs ls hw hl K1
    obtain ⟨r0, hf, hr1, hr2⟩ := itr_s hf0
    have hf : b_X6_goOn_37 rec u1 u2 u3 u4 w5 σ = some r0 := hf
    unfold b_X6_goOn_37 at hf
    refine lv_iload X.1 X.2.1 dX6_goOn_37 (lv_at hl 5 rfl) ?_
    refine lv_aload_n X.1 X.2.1 dX6_goOn_39 rfl (lv_at hl 0 rfl) ?_
    refine r_get X hw (sp58 hE) (C := RX6) (T := TX6) (N := 4) rfl iwX6 1 (by decide) (Nat.le_of_ble_eq_true rfl) qw389 (v := .int (σ 58 1)) rfl dX6_goOn_40 ?_
    refine lv_icmp_ge (tgt := 103) X.1 X.2.1 dX6_goOn_43 (by decide) (fun c8 => ?_) (fun c8 => ?_)
    · have hf := if_t hf c8
      obtain rfl := Option.some.inj hf
      obtain rfl := hr2 _ rfl
      exact K1 _ _ rfl _ _ _ hw (lv_sub hl [0, 1, 2, 3, 4, 5] rfl)
    · have hf := if_e hf c8
      refine lv_iload X.1 X.2.1 dX6_goOn_46 (lv_at hl 5 rfl) ?_
      refine lv_iload_n X.1 X.2.1 dX6_goOn_48 rfl (lv_at hl 1 rfl) ?_
      refine lv_icmp_eq (tgt := 97) X.1 X.2.1 dX6_goOn_49 (by decide) (fun c9 => ?_) (fun c9 => ?_)
      · have hf := if_t hf c9
        obtain ⟨v10, e11, hf⟩ := b_bnd hf
        refine lv_iinc (v := v10) (k := 5) (lv' := [(5, .int v10), (0, .ref (eP E 58)), (1, .int u1), (2, .int u2), (3, .int u3), (4, .int u4)]) X.1 X.2.1 dX6_goOn_97 hl rfl (by rw [e11]; exact congrArg _ (by decide)) (by decide) rfl (fun ls hl => ?_)
        refine lv_goto (tgt := 37) X.1 X.2.1 dX6_goOn_100 (by decide) ?_
        obtain rfl := Option.some.inj hf
        exact ih _ _ (hr1 _ rfl) _ _ _ hw (lv_sub hl [1, 2, 3, 4, 5, 0] rfl) K1
      · have hf := if_e hf c9
        refine lv_iload_n X.1 X.2.1 dX6_goOn_52 rfl (lv_at hl 2 rfl) ?_
        refine lv_iload X.1 X.2.1 dX6_goOn_53 (lv_at hl 5 rfl) ?_
        refine lv_ishr X.1 X.2.1 dX6_goOn_55 ?_
        refine lv_iconst (v := 1) X.1 X.2.1 dX6_goOn_56 (by decide) ?_
        refine lv_iand X.1 X.2.1 dX6_goOn_57 ?_
        refine lv_if_ne (tgt := 97) X.1 X.2.1 dX6_goOn_58 (by decide) (fun c12 => ?_) (fun c12 => ?_)
        · have hf := if_e hf c12
          obtain ⟨v13, e14, hf⟩ := b_bnd hf
          refine lv_iinc (v := v13) (k := 5) (lv' := [(5, .int v13), (0, .ref (eP E 58)), (1, .int u1), (2, .int u2), (3, .int u3), (4, .int u4)]) X.1 X.2.1 dX6_goOn_97 hl rfl (by rw [e14]; exact congrArg _ (by decide)) (by decide) rfl (fun ls hl => ?_)
          refine lv_goto (tgt := 37) X.1 X.2.1 dX6_goOn_100 (by decide) ?_
          obtain rfl := Option.some.inj hf
          exact ih _ _ (hr1 _ rfl) _ _ _ hw (lv_sub hl [1, 2, 3, 4, 5, 0] rfl) K1
        · have hf := if_t hf c12
          refine lv_aload_n X.1 X.2.1 dX6_goOn_61 rfl (lv_at hl 0 rfl) ?_
          refine lv_iload_n X.1 X.2.1 dX6_goOn_62 rfl (lv_at hl 1 rfl) ?_
          refine lv_iconst (v := 1) X.1 X.2.1 dX6_goOn_63 (by decide) ?_
          refine lv_iadd X.1 X.2.1 dX6_goOn_64 ?_
          refine lv_iload_n X.1 X.2.1 dX6_goOn_65 rfl (lv_at hl 2 rfl) ?_
          refine lv_iconst (v := 1) X.1 X.2.1 dX6_goOn_66 (by decide) ?_
          refine lv_iload X.1 X.2.1 dX6_goOn_67 (lv_at hl 5 rfl) ?_
          refine lv_ishl X.1 X.2.1 dX6_goOn_69 ?_
          refine lv_ior X.1 X.2.1 dX6_goOn_70 ?_
          refine lv_iload_n X.1 X.2.1 dX6_goOn_71 rfl (lv_at hl 3 rfl) ?_
          refine lv_bipush (v := 10) X.1 X.2.1 dX6_goOn_72 (by decide) ?_
          refine lv_imul X.1 X.2.1 dX6_goOn_74 ?_
          refine lv_iload X.1 X.2.1 dX6_goOn_75 (lv_at hl 5 rfl) ?_
          refine lv_iadd X.1 X.2.1 dX6_goOn_77 ?_
          refine lv_iconst (v := 1) X.1 X.2.1 dX6_goOn_78 (by decide) ?_
          refine lv_iadd X.1 X.2.1 dX6_goOn_79 ?_
          refine lv_iload X.1 X.2.1 dX6_goOn_80 (lv_at hl 4 rfl) ?_
          refine lv_aload_n X.1 X.2.1 dX6_goOn_82 rfl (lv_at hl 0 rfl) ?_
          refine r_get X hw (sp58 hE) (C := RX6) (T := TX6) (N := 4) rfl iwX6 0 (by decide) (Nat.le_of_ble_eq_true rfl) qw388 (v := .ref (eP E 59)) rfl dX6_goOn_83 ?_
          refine lv_iload_n X.1 X.2.1 dX6_goOn_86 rfl (lv_at hl 1 rfl) ?_
          refine lv_iconst (v := 5) X.1 X.2.1 dX6_goOn_87 (by decide) ?_
          refine lv_imul X.1 X.2.1 dX6_goOn_88 ?_
          refine lv_iload X.1 X.2.1 dX6_goOn_89 (lv_at hl 5 rfl) ?_
          refine lv_iadd X.1 X.2.1 dX6_goOn_91 ?_
          obtain ⟨h15, hf⟩ := b_ck hf
          refine r_iald X hw (sp59 hE) h15 dX6_goOn_92 ?_
          refine lv_iadd X.1 X.2.1 dX6_goOn_93 ?_
          obtain ⟨σ17, h16, hf⟩ := b_bd1 hf
          refine r_callS X hw (ih_X6_goOn  h16) qw687 qw688 qw77 qw689 okX6_goOn ⟨rfl, rfl⟩ (rm_goOn_ok n0 (by decide)) ⟨Nat.zero_le _, Nat.zero_le _⟩ rfl hl.1 (rest := []) rfl (Nat.le_of_ble_eq_true rfl) dX6_goOn_94 (st1 := []) rfl (fun H locs hw => ?_)
          obtain ⟨v18, e19, hf⟩ := b_bnd hf
          refine lv_iinc (v := v18) (k := 5) (lv' := [(5, .int v18), (0, .ref (eP E 58)), (1, .int u1), (2, .int u2), (3, .int u3), (4, .int u4)]) X.1 X.2.1 dX6_goOn_97 hl rfl (by rw [e19]; exact congrArg _ (by decide)) (by decide) rfl (fun ls hl => ?_)
          refine lv_goto (tgt := 37) X.1 X.2.1 dX6_goOn_100 (by decide) ?_
          obtain rfl := Option.some.inj hf
          exact ih _ _ (hr1 _ rfl) _ _ _ hw (lv_sub hl [1, 2, 3, 4, 5, 0] rfl) K1
set_option maxHeartbeats 4000000 in
set_option maxRecDepth 100000 in
theorem k_X6_goOn {l : Launch} {E : en_T} (hE : ShF E) {rec : Int32 → Int32 → Int32 → Int32 → sg_T → Option sg_T} {n0 : Nat} (ih_X6_goOn : ∀ {x1 x2 x3 x4 : Int32} {σ σ' : sg_T}, rec x1 x2 x3 x4 σ = some σ' → Ct l yX6_goOn cX6_goOn 6 none (rm_goOn n0) E [.ref (eP E 58), .int x1, .int x2, .int x3, .int x4] σ none σ') {x1 : Int32} {x2 : Int32} {x3 : Int32} {x4 : Int32} {σ : sg_T}  {σ' : sg_T} (hf : f_X6_goOn rec x1 x2 x3 x4 σ = some σ') : Ct l yX6_goOn cX6_goOn 6 none (rm_goOn (n0 + 1)) E [.ref (eP E 58), .int x1, .int x2, .int x3, .int x4] σ none σ' := by
  refine Ct.start (by decide) hE.1 (Nat.le_of_ble_eq_true rfl) ?_
  intro p e s m below meth c X hw ls hl
  have X : Cx E p s m _ meth c cX6_goOn 6 RX6 none := X
  have hR : ShR E := hE.r
  have hl : lv_has ls 6 [(0, .ref (eP E 58)), (1, .int x1), (2, .int x2), (3, .int x3), (4, .int x4)] := hl
  unfold f_X6_goOn at hf
  refine lv_iload_n X.1 X.2.1 dX6_goOn_0 rfl (lv_at hl 1 rfl) ?_
  refine lv_aload_n X.1 X.2.1 dX6_goOn_1 rfl (lv_at hl 0 rfl) ?_
  refine r_get X hw (sp58 hE) (C := RX6) (T := TX6) (N := 4) rfl iwX6 1 (by decide) (Nat.le_of_ble_eq_true rfl) qw389 (v := .int (σ 58 1)) rfl dX6_goOn_2 ?_
  refine lv_icmp_ge (tgt := 13) X.1 X.2.1 dX6_goOn_5 (by decide) (fun c1 => ?_) (fun c1 => ?_)
  · have hf := if_t hf c1
    refine lv_iload X.1 X.2.1 dX6_goOn_13 (lv_at hl 4 rfl) ?_
    refine lv_aload_n X.1 X.2.1 dX6_goOn_15 rfl (lv_at hl 0 rfl) ?_
    refine r_get X hw (sp58 hE) (C := RX6) (T := TX6) (N := 4) rfl iwX6 2 (by decide) (Nat.le_of_ble_eq_true rfl) qw390 (v := .int (σ 58 2)) rfl dX6_goOn_16 ?_
    refine lv_icmp_ge (tgt := 33) X.1 X.2.1 dX6_goOn_19 (by decide) (fun c2 => ?_) (fun c2 => ?_)
    · have hf := if_t hf c2
      obtain rfl := Option.some.inj hf
      exact r_vret X hw dX6_goOn_33
    · have hf := if_e hf c2
      refine lv_aload_n X.1 X.2.1 dX6_goOn_22 rfl (lv_at hl 0 rfl) ?_
      refine lv_iload X.1 X.2.1 dX6_goOn_23 (lv_at hl 4 rfl) ?_
      refine r_put X hw (sp58 hE) (C := RX6) (T := TX6) (N := 4) rfl iwX6 tyX6 tyX6_ok nmX6 2 (by decide) (Nat.le_of_ble_eq_true rfl) qw390 rfl (v := .int x4) rfl rfl (x := x4) rfl dX6_goOn_25 (fun H locs hw => ?_)
      obtain ⟨σ3, e4, hf⟩ := b_bnd hf
      rw [← e4] at hw
      refine lv_aload_n X.1 X.2.1 dX6_goOn_28 rfl (lv_at hl 0 rfl) ?_
      refine lv_iload_n X.1 X.2.1 dX6_goOn_29 rfl (lv_at hl 3 rfl) ?_
      refine r_put X hw (sp58 hE) (C := RX6) (T := TX6) (N := 4) rfl iwX6 tyX6 tyX6_ok nmX6 3 (by decide) (Nat.le_of_ble_eq_true rfl) qw391 rfl (v := .int x3) rfl rfl (x := x3) rfl dX6_goOn_30 (fun H locs hw => ?_)
      obtain ⟨σ5, e6, hf⟩ := b_bnd hf
      rw [← e6] at hw
      obtain rfl := Option.some.inj hf
      exact r_vret X hw dX6_goOn_33
  · have hf := if_e hf c1
    refine lv_iload_n X.1 X.2.1 dX6_goOn_8 rfl (lv_at hl 1 rfl) ?_
    refine lv_iconst (v := 5) X.1 X.2.1 dX6_goOn_9 (by decide) ?_
    refine lv_icmp_lt (tgt := 34) X.1 X.2.1 dX6_goOn_10 (by decide) (fun c7 => ?_) (fun c7 => ?_)
    · have hf := if_t hf c7
      refine lv_iconst (v := 0) X.1 X.2.1 dX6_goOn_34 (by decide) ?_
      refine lv_istore (lv' := [(5, .int 0), (0, .ref (eP E 58)), (1, .int x1), (2, .int x2), (3, .int x3), (4, .int x4)]) X.1 X.2.1 dX6_goOn_35 hl (by decide) rfl (fun ls hl => ?_)
      obtain ⟨v21, σ22, h20, hf⟩ := b_bd2 hf
      refine w_X6_goOn_37 X hE ih_X6_goOn  lfu _ _ h20 _ _ _ hw (lv_sub hl [1, 2, 3, 4, 5, 0] rfl) (fun yv21 yσ22 hq H locs ls hw hl => ?_)
      cases hq
      obtain rfl := Option.some.inj hf
      exact r_vret X hw dX6_goOn_103
    · have hf := if_e hf c7
      refine lv_iload X.1 X.2.1 dX6_goOn_13 (lv_at hl 4 rfl) ?_
      refine lv_aload_n X.1 X.2.1 dX6_goOn_15 rfl (lv_at hl 0 rfl) ?_
      refine r_get X hw (sp58 hE) (C := RX6) (T := TX6) (N := 4) rfl iwX6 2 (by decide) (Nat.le_of_ble_eq_true rfl) qw390 (v := .int (σ 58 2)) rfl dX6_goOn_16 ?_
      refine lv_icmp_ge (tgt := 33) X.1 X.2.1 dX6_goOn_19 (by decide) (fun c23 => ?_) (fun c23 => ?_)
      · have hf := if_t hf c23
        obtain rfl := Option.some.inj hf
        exact r_vret X hw dX6_goOn_33
      · have hf := if_e hf c23
        refine lv_aload_n X.1 X.2.1 dX6_goOn_22 rfl (lv_at hl 0 rfl) ?_
        refine lv_iload X.1 X.2.1 dX6_goOn_23 (lv_at hl 4 rfl) ?_
        refine r_put X hw (sp58 hE) (C := RX6) (T := TX6) (N := 4) rfl iwX6 tyX6 tyX6_ok nmX6 2 (by decide) (Nat.le_of_ble_eq_true rfl) qw390 rfl (v := .int x4) rfl rfl (x := x4) rfl dX6_goOn_25 (fun H locs hw => ?_)
        obtain ⟨σ24, e25, hf⟩ := b_bnd hf
        rw [← e25] at hw
        refine lv_aload_n X.1 X.2.1 dX6_goOn_28 rfl (lv_at hl 0 rfl) ?_
        refine lv_iload_n X.1 X.2.1 dX6_goOn_29 rfl (lv_at hl 3 rfl) ?_
        refine r_put X hw (sp58 hE) (C := RX6) (T := TX6) (N := 4) rfl iwX6 tyX6 tyX6_ok nmX6 3 (by decide) (Nat.le_of_ble_eq_true rfl) qw391 rfl (v := .int x3) rfl rfl (x := x3) rfl dX6_goOn_30 (fun H locs hw => ?_)
        obtain ⟨σ26, e27, hf⟩ := b_bnd hf
        rw [← e27] at hw
        obtain rfl := Option.some.inj hf
        exact r_vret X hw dX6_goOn_33
theorem kr_goOn {l : Launch} {E : en_T} (hE : ShF E) : ∀ (n : Nat) {x1 x2 x3 x4 : Int32} {σ σ' : sg_T}, g_goOn n x1 x2 x3 x4 σ = some σ' → Ct l yX6_goOn cX6_goOn 6 none (rm_goOn n) E [.ref (eP E 58), .int x1, .int x2, .int x3, .int x4] σ none σ' := by
  intro n
  induction n with
  | zero => intro x1 x2 x3 x4 σ σ' h; cases h
  | succ n ih => intro x1 x2 x3 x4 σ σ' h; exact k_X6_goOn hE ih h
theorem kg_X6_goOn {l : Launch} {E : en_T} (hE : ShF E) {x1 x2 x3 x4 : Int32} {σ σ' : sg_T} (h : g_goOn rfu x1 x2 x3 x4 σ = some σ') : Ct l yX6_goOn cX6_goOn 6 none (rm_goOn rfu) E [.ref (eP E 58), .int x1, .int x2, .int x3, .int x4] σ none σ' := kr_goOn hE rfu h

abbrev rm_X6_find : Room := { frames := 105, cells := 0, slots := 0, locals := 7865 }
set_option maxHeartbeats 4000000 in
set_option maxRecDepth 100000 in
theorem w_X6_find_21 {p : Program} {l : Launch} {e : Env} {s : State} {m : MethodId} {args : Array Value} {below : List Frame} {meth : Method} {c : Code} {Q : State → Prop} {E : en_T} (X : Cx E p s m args meth c cX6_find 5 RX6 none) (hE : ShF E) {o51 : Nat} (ho51 : isP o51) {u3 : Int32}  {res : Int32 × sg_T} :
    ∀ (n : Nat) (w4 : Int32) (σ : sg_T), itr (fun q => b_X6_find_21 o51 u3 q.1 q.2) n (w4, σ) = some res → ∀ (H : Heap) (locs : List Loc) (ls : Array Slot), Hw E σ s H locs → lv_has ls 5 [(0, .ref (eP E 58)), (1, .ref (eP E o51)), (2, .ref (eP E 6)), (3, .int u3), (4, .int w4)] →
    (∀ (y4 : Int32) (τ : sg_T), res = (y4, τ) → ∀ (H : Heap) (locs : List Loc) (ls : Array Slot), Hw E τ s H locs → lv_has ls 5 [(0, .ref (eP E 58)), (1, .ref (eP E o51)), (2, .ref (eP E 6)), (3, .int u3), (4, .int y4)] → W p l e rm_X6_find s m args below meth c H locs 0 0 Q (F0 m 73 ls [])) →
    W p l e rm_X6_find s m args below meth c H locs 0 0 Q (F0 m 21 ls []) := by
  have hR : ShR E := hE.r
  intro n
  induction n with
  | zero =>
    intro w4 σ hf0
    exact (itr_0 hf0).elim
  | succ n ih =>
    intro w4 σ hf0 H locs ls hw hl K1
    obtain ⟨r0, hf, hr1, hr2⟩ := itr_s hf0
    have hf : b_X6_find_21 o51 u3 w4 σ = some r0 := hf
    unfold b_X6_find_21 at hf
    refine lv_iload X.1 X.2.1 dX6_find_21 (lv_at hl 4 rfl) ?_
    refine lv_aload_n X.1 X.2.1 dX6_find_23 rfl (lv_at hl 0 rfl) ?_
    refine r_get X hw (sp58 hE) (C := RX6) (T := TX6) (N := 4) rfl iwX6 1 (by decide) (Nat.le_of_ble_eq_true rfl) qw389 (v := .int (σ 58 1)) rfl dX6_find_24 ?_
    refine lv_icmp_ge (tgt := 73) X.1 X.2.1 dX6_find_27 (by decide) (fun c6 => ?_) (fun c6 => ?_)
    · have hf := if_t hf c6
      obtain rfl := Option.some.inj hf
      obtain rfl := hr2 _ rfl
      exact K1 _ _ rfl _ _ _ hw (lv_sub hl [0, 1, 2, 3, 4] rfl)
    · have hf := if_e hf c6
      refine lv_iload_n X.1 X.2.1 dX6_find_30 rfl (lv_at hl 3 rfl) ?_
      refine lv_iload X.1 X.2.1 dX6_find_31 (lv_at hl 4 rfl) ?_
      refine lv_icmp_eq (tgt := 67) X.1 X.2.1 dX6_find_33 (by decide) (fun c7 => ?_) (fun c7 => ?_)
      · have hf := if_t hf c7
        obtain ⟨v8, e9, hf⟩ := b_bnd hf
        refine lv_iinc (v := v8) (k := 4) (lv' := [(4, .int v8), (0, .ref (eP E 58)), (1, .ref (eP E o51)), (2, .ref (eP E 6)), (3, .int u3)]) X.1 X.2.1 dX6_find_67 hl rfl (by rw [e9]; exact congrArg _ (by decide)) (by decide) rfl (fun ls hl => ?_)
        refine lv_goto (tgt := 21) X.1 X.2.1 dX6_find_70 (by decide) ?_
        obtain rfl := Option.some.inj hf
        exact ih _ _ (hr1 _ rfl) _ _ _ hw (lv_sub hl [1, 2, 3, 4, 0] rfl) K1
      · have hf := if_e hf c7
        refine lv_aload_n X.1 X.2.1 dX6_find_36 rfl (lv_at hl 0 rfl) ?_
        refine r_get X hw (sp58 hE) (C := RX6) (T := TX6) (N := 4) rfl iwX6 0 (by decide) (Nat.le_of_ble_eq_true rfl) qw388 (v := .ref (eP E 59)) rfl dX6_find_37 ?_
        refine lv_iload_n X.1 X.2.1 dX6_find_40 rfl (lv_at hl 3 rfl) ?_
        refine lv_iconst (v := 5) X.1 X.2.1 dX6_find_41 (by decide) ?_
        refine lv_imul X.1 X.2.1 dX6_find_42 ?_
        refine lv_iload X.1 X.2.1 dX6_find_43 (lv_at hl 4 rfl) ?_
        refine lv_iadd X.1 X.2.1 dX6_find_45 ?_
        refine lv_iconst (v := 0) X.1 X.2.1 dX6_find_46 (by decide) ?_
        refine lv_aload_n X.1 X.2.1 dX6_find_47 rfl (lv_at hl 2 rfl) ?_
        refine lv_aload_n X.1 X.2.1 dX6_find_48 rfl (lv_at hl 1 rfl) ?_
        refine lv_iload_n X.1 X.2.1 dX6_find_49 rfl (lv_at hl 3 rfl) ?_
        refine lv_iload X.1 X.2.1 dX6_find_50 (lv_at hl 4 rfl) ?_
        obtain ⟨r11, σ12, h10, hf⟩ := b_bd2 hf
        refine r_callV X hw (k_X3_hourSet hE ho51 h10) (sp6 hR) (C := RX3) (T := TX3) (N := 4) rfl qw683 qw500 qw501 qw69 qw502 okX3_hourSet ⟨rfl, rfl⟩ ⟨(Nat.le_of_ble_eq_true rfl), (Nat.le_of_ble_eq_true rfl)⟩ ⟨Nat.zero_le _, Nat.zero_le _⟩ rfl hl.1 (rest := [.int 0, .int ((u3 * 5) + w4), .ref (eP E 59)]) rfl (Nat.le_of_ble_eq_true rfl) dX6_find_52 (st1 := [.int r11, .int 0, .int ((u3 * 5) + w4), .ref (eP E 59)]) rfl (fun H locs hw => ?_)
        refine lv_aload_n X.1 X.2.1 dX6_find_55 rfl (lv_at hl 1 rfl) ?_
        refine lv_iconst (v := 2) X.1 X.2.1 dX6_find_56 (by decide) ?_
        refine lv_iload X.1 X.2.1 dX6_find_57 (lv_at hl 4 rfl) ?_
        obtain ⟨r14, h13, hf⟩ := b_bd1 hf
        refine r_callV X hw (k_X1_get hE ho51 h13) (spP0 hE ho51) (C := RX1) (T := TX1) (N := 10) rfl qw684 qw461 qw462 qw76 qw463 okX1_get ⟨rfl, rfl⟩ ⟨(Nat.le_of_ble_eq_true rfl), (Nat.le_of_ble_eq_true rfl)⟩ ⟨Nat.zero_le _, Nat.zero_le _⟩ rfl hl.1 (rest := [.int r11, .int 0, .int ((u3 * 5) + w4), .ref (eP E 59)]) rfl (Nat.le_of_ble_eq_true rfl) dX6_find_59 (st1 := [.int r14, .int r11, .int 0, .int ((u3 * 5) + w4), .ref (eP E 59)]) rfl (fun H locs hw => ?_)
        refine lv_isub X.1 X.2.1 dX6_find_62 ?_
        refine r_max X hl.1 qw685 qw537 qw80 qw538 (Nat.le_of_ble_eq_true rfl) (Nat.le_of_ble_eq_true rfl) (Nat.zero_le _) (Nat.zero_le _) dX6_find_63 ?_
        obtain ⟨h15, hf⟩ := b_ck hf
        refine r_iast X hw (sp59 hE) h15 dX6_find_66 (fun H locs hw => ?_)
        obtain ⟨σ16, e17, hf⟩ := b_bnd hf
        rw [← e17] at hw
        obtain ⟨v18, e19, hf⟩ := b_bnd hf
        refine lv_iinc (v := v18) (k := 4) (lv' := [(4, .int v18), (0, .ref (eP E 58)), (1, .ref (eP E o51)), (2, .ref (eP E 6)), (3, .int u3)]) X.1 X.2.1 dX6_find_67 hl rfl (by rw [e19]; exact congrArg _ (by decide)) (by decide) rfl (fun ls hl => ?_)
        refine lv_goto (tgt := 21) X.1 X.2.1 dX6_find_70 (by decide) ?_
        obtain rfl := Option.some.inj hf
        exact ih _ _ (hr1 _ rfl) _ _ _ hw (lv_sub hl [1, 2, 3, 4, 0] rfl) K1
set_option maxHeartbeats 4000000 in
set_option maxRecDepth 100000 in
theorem w_X6_find_10 {p : Program} {l : Launch} {e : Env} {s : State} {m : MethodId} {args : Array Value} {below : List Frame} {meth : Method} {c : Code} {Q : State → Prop} {E : en_T} (X : Cx E p s m args meth c cX6_find 5 RX6 none) (hE : ShF E) {o51 : Nat} (ho51 : isP o51)  {res : Int32 × sg_T} :
    ∀ (n : Nat) (w3 : Int32) (σ : sg_T), itr (fun q => b_X6_find_10 o51 q.1 q.2) n (w3, σ) = some res → ∀ (H : Heap) (locs : List Loc) (ls : Array Slot), Hw E σ s H locs → lv_has ls 5 [(0, .ref (eP E 58)), (1, .ref (eP E o51)), (2, .ref (eP E 6)), (3, .int w3)] →
    (∀ (y3 : Int32) (τ : sg_T), res = (y3, τ) → ∀ (H : Heap) (locs : List Loc) (ls : Array Slot), Hw E τ s H locs → lv_has ls 5 [(0, .ref (eP E 58)), (1, .ref (eP E o51)), (2, .ref (eP E 6)), (3, .int y3)] → W p l e rm_X6_find s m args below meth c H locs 0 0 Q (F0 m 79 ls [])) →
    W p l e rm_X6_find s m args below meth c H locs 0 0 Q (F0 m 10 ls []) := by
  have hR : ShR E := hE.r
  intro n
  induction n with
  | zero =>
    intro w3 σ hf0
    exact (itr_0 hf0).elim
  | succ n ih =>
    intro w3 σ hf0 H locs ls hw hl K1
    obtain ⟨r0, hf, hr1, hr2⟩ := itr_s hf0
    have hf : b_X6_find_10 o51 w3 σ = some r0 := hf
    unfold b_X6_find_10 at hf
    refine lv_iload_n X.1 X.2.1 dX6_find_10 rfl (lv_at hl 3 rfl) ?_
    refine lv_aload_n X.1 X.2.1 dX6_find_11 rfl (lv_at hl 0 rfl) ?_
    refine r_get X hw (sp58 hE) (C := RX6) (T := TX6) (N := 4) rfl iwX6 1 (by decide) (Nat.le_of_ble_eq_true rfl) qw389 (v := .int (σ 58 1)) rfl dX6_find_12 ?_
    refine lv_icmp_ge (tgt := 79) X.1 X.2.1 dX6_find_15 (by decide) (fun c5 => ?_) (fun c5 => ?_)
    · have hf := if_t hf c5
      obtain rfl := Option.some.inj hf
      obtain rfl := hr2 _ rfl
      exact K1 _ _ rfl _ _ _ hw (lv_sub hl [0, 1, 2, 3] rfl)
    · have hf := if_e hf c5
      refine lv_iconst (v := 0) X.1 X.2.1 dX6_find_18 (by decide) ?_
      refine lv_istore (lv' := [(4, .int 0), (0, .ref (eP E 58)), (1, .ref (eP E o51)), (2, .ref (eP E 6)), (3, .int w3)]) X.1 X.2.1 dX6_find_19 hl (by decide) rfl (fun ls hl => ?_)
      obtain ⟨v21, σ22, h20, hf⟩ := b_bd2 hf
      refine w_X6_find_21 X hE ho51 lfu _ _ h20 _ _ _ hw (lv_sub hl [1, 2, 3, 4, 0] rfl) (fun yv21 yσ22 hq H locs ls hw hl => ?_)
      cases hq
      obtain ⟨v23, e24, hf⟩ := b_bnd hf
      refine lv_iinc (v := v23) (k := 3) (lv' := [(3, .int v23), (0, .ref (eP E 58)), (1, .ref (eP E o51)), (2, .ref (eP E 6)), (4, .int v21)]) X.1 X.2.1 dX6_find_73 hl rfl (by rw [e24]; exact congrArg _ (by decide)) (by decide) rfl (fun ls hl => ?_)
      refine lv_goto (tgt := 10) X.1 X.2.1 dX6_find_76 (by decide) ?_
      obtain rfl := Option.some.inj hf
      exact ih _ _ (hr1 _ rfl) _ _ _ hw (lv_sub hl [1, 2, 3, 0] rfl) K1
set_option maxHeartbeats 4000000 in
set_option maxRecDepth 100000 in
theorem k_X6_find {l : Launch} {E : en_T} (hE : ShF E) {o1 : Nat} (ho1 : isP o1) {σ : sg_T}  {σ' : sg_T} (hf : f_X6_find o1 σ = some σ') : Ct l yX6_find cX6_find 5 none rm_X6_find E [.ref (eP E 58), .ref (eP E o1), .ref (eP E 6)] σ none σ' := by
  refine Ct.start (by decide) hE.1 (Nat.le_of_ble_eq_true rfl) ?_
  intro p e s m below meth c X hw ls hl
  have X : Cx E p s m _ meth c cX6_find 5 RX6 none := X
  have hR : ShR E := hE.r
  have hl : lv_has ls 5 [(0, .ref (eP E 58)), (1, .ref (eP E o1)), (2, .ref (eP E 6))] := hl
  unfold f_X6_find at hf
  refine lv_aload_n X.1 X.2.1 dX6_find_0 rfl (lv_at hl 0 rfl) ?_
  refine lv_aload_n X.1 X.2.1 dX6_find_1 rfl (lv_at hl 1 rfl) ?_
  obtain ⟨r2, h1, hf⟩ := b_bd1 hf
  refine r_callV X hw (k_X1_many hE ho1 h1) (spP0 hE ho1) (C := RX1) (T := TX1) (N := 10) rfl qw682 qw610 qw611 qw76 qw612 okX1_many ⟨rfl, rfl⟩ ⟨(Nat.le_of_ble_eq_true rfl), (Nat.le_of_ble_eq_true rfl)⟩ ⟨Nat.zero_le _, Nat.zero_le _⟩ rfl hl.1 (rest := [.ref (eP E 58)]) rfl (Nat.le_of_ble_eq_true rfl) dX6_find_2 (st1 := [.int r2, .ref (eP E 58)]) rfl (fun H locs hw => ?_)
  refine r_put X hw (sp58 hE) (C := RX6) (T := TX6) (N := 4) rfl iwX6 tyX6 tyX6_ok nmX6 1 (by decide) (Nat.le_of_ble_eq_true rfl) qw389 rfl (v := .int r2) rfl rfl (x := r2) rfl dX6_find_5 (fun H locs hw => ?_)
  obtain ⟨σ3, e4, hf⟩ := b_bnd hf
  rw [← e4] at hw
  refine lv_iconst (v := 0) X.1 X.2.1 dX6_find_8 (by decide) ?_
  refine lv_istore_n (lv' := [(3, .int 0), (0, .ref (eP E 58)), (1, .ref (eP E o1)), (2, .ref (eP E 6))]) X.1 X.2.1 dX6_find_9 rfl hl (by decide) rfl (fun ls hl => ?_)
  obtain ⟨v26, σ27, h25, hf⟩ := b_bd2 hf
  refine w_X6_find_10 X hE ho1 lfu _ _ h25 _ _ _ hw (lv_sub hl [1, 2, 3, 0] rfl) (fun yv26 yσ27 hq H locs ls hw hl => ?_)
  cases hq
  refine lv_aload_n X.1 X.2.1 dX6_find_79 rfl (lv_at hl 0 rfl) ?_
  refine lv_ldc (v := 1000000) X.1 X.2.1 X.2.2.2.1 (X.2.2.2.2.1 _ qw686) dX6_find_80 ?_
  refine r_put X hw (sp58 hE) (C := RX6) (T := TX6) (N := 4) rfl iwX6 tyX6 tyX6_ok nmX6 2 (by decide) (Nat.le_of_ble_eq_true rfl) qw390 rfl (v := .int 1000000) rfl rfl (x := 1000000) rfl dX6_find_82 (fun H locs hw => ?_)
  obtain ⟨σ28, e29, hf⟩ := b_bnd hf
  rw [← e29] at hw
  refine lv_aload_n X.1 X.2.1 dX6_find_85 rfl (lv_at hl 0 rfl) ?_
  refine lv_iconst (v := (-1)) X.1 X.2.1 dX6_find_86 (by decide) ?_
  refine r_put X hw (sp58 hE) (C := RX6) (T := TX6) (N := 4) rfl iwX6 tyX6 tyX6_ok nmX6 3 (by decide) (Nat.le_of_ble_eq_true rfl) qw391 rfl (v := .int (-1)) rfl rfl (x := (-1)) rfl dX6_find_87 (fun H locs hw => ?_)
  obtain ⟨σ30, e31, hf⟩ := b_bnd hf
  rw [← e31] at hw
  refine lv_aload_n X.1 X.2.1 dX6_find_90 rfl (lv_at hl 0 rfl) ?_
  refine lv_iconst (v := 0) X.1 X.2.1 dX6_find_91 (by decide) ?_
  refine lv_iconst (v := 0) X.1 X.2.1 dX6_find_92 (by decide) ?_
  refine lv_iconst (v := 0) X.1 X.2.1 dX6_find_93 (by decide) ?_
  refine lv_iconst (v := 0) X.1 X.2.1 dX6_find_94 (by decide) ?_
  obtain ⟨σ33, h32, hf⟩ := b_bd1 hf
  refine r_callS X hw (kg_X6_goOn hE  h32) qw687 qw688 qw77 qw689 okX6_goOn ⟨rfl, rfl⟩ ⟨(Nat.le_of_ble_eq_true rfl), (Nat.le_of_ble_eq_true rfl)⟩ ⟨Nat.zero_le _, Nat.zero_le _⟩ rfl hl.1 (rest := []) rfl (Nat.le_of_ble_eq_true rfl) dX6_find_95 (st1 := []) rfl (fun H locs hw => ?_)
  obtain rfl := Option.some.inj hf
  exact r_vret X hw dX6_find_98
abbrev rm_X6_digits : Room := { frames := 0, cells := 0, slots := 0, locals := 0 }
set_option maxHeartbeats 4000000 in
set_option maxRecDepth 100000 in
theorem k_X6_digits {l : Launch} {E : en_T} (hE : ShF E)  {σ : sg_T} {r : Int32} (hf : f_X6_digits  σ = some r) : Ct l yX6_digits cX6_digits 1 (some .int) rm_X6_digits E [.ref (eP E 58)] σ (some (.int r)) σ := by
  refine Ct.start (by decide) hE.1 (Nat.le_of_ble_eq_true rfl) ?_
  intro p e s m below meth c X hw ls hl
  have X : Cx E p s m _ meth c cX6_digits 1 RX6 (some .int) := X
  have hR : ShR E := hE.r
  have hl : lv_has ls 1 [(0, .ref (eP E 58))] := hl
  unfold f_X6_digits at hf
  refine lv_aload_n X.1 X.2.1 dX6_digits_0 rfl (lv_at hl 0 rfl) ?_
  refine r_get X hw (sp58 hE) (C := RX6) (T := TX6) (N := 4) rfl iwX6 3 (by decide) (Nat.le_of_ble_eq_true rfl) qw391 (v := .int (σ 58 3)) rfl dX6_digits_1 ?_
  obtain rfl := Option.some.inj hf
  exact r_iret X hw dX6_digits_4
abbrev rm_X6_late : Room := { frames := 0, cells := 0, slots := 0, locals := 0 }
set_option maxHeartbeats 4000000 in
set_option maxRecDepth 100000 in
theorem k_X6_late {l : Launch} {E : en_T} (hE : ShF E)  {σ : sg_T} {r : Int32} (hf : f_X6_late  σ = some r) : Ct l yX6_late cX6_late 1 (some .int) rm_X6_late E [.ref (eP E 58)] σ (some (.int r)) σ := by
  refine Ct.start (by decide) hE.1 (Nat.le_of_ble_eq_true rfl) ?_
  intro p e s m below meth c X hw ls hl
  have X : Cx E p s m _ meth c cX6_late 1 RX6 (some .int) := X
  have hR : ShR E := hE.r
  have hl : lv_has ls 1 [(0, .ref (eP E 58))] := hl
  unfold f_X6_late at hf
  refine lv_aload_n X.1 X.2.1 dX6_late_0 rfl (lv_at hl 0 rfl) ?_
  refine r_get X hw (sp58 hE) (C := RX6) (T := TX6) (N := 4) rfl iwX6 2 (by decide) (Nat.le_of_ble_eq_true rfl) qw390 (v := .int (σ 58 2)) rfl dX6_late_1 ?_
  obtain rfl := Option.some.inj hf
  exact r_iret X hw dX6_late_4
