abbrev rm_X7_tiredThatFits : Room := { frames := 7, cells := 0, slots := 0, locals := 227 }
set_option maxHeartbeats 4000000 in
set_option maxRecDepth 100000 in
theorem w_X7_tiredThatFits_33 {p : Program} {l : Launch} {e : Env} {s : State} {m : MethodId} {args : Array Value} {below : List Frame} {meth : Method} {c : Code} {Q : State → Prop} {E : en_T} (X : Cx E p s m args meth c cX7_tiredThatFits 8 RX7 (some .int)) (hE : ShF E) {o51 : Nat} (ho51 : isS o51) {u2 : Int32} {u3 : Int32} {u4 : Int32} {u5 : Int32}  {res : (Int32 × Int32 × sg_T) ⊕ (Int32 × sg_T)} :
    ∀ (n : Nat) (w6 : Int32) (w7 : Int32) (σ : sg_T), itr (fun q => b_X7_tiredThatFits_33 o51 u2 u3 u4 u5 q.1 q.2.1 q.2.2) n (w6, w7, σ) = some res → ∀ (H : Heap) (locs : List Loc) (ls : Array Slot), Hw E σ s H locs → lv_has ls 8 [(0, .ref (eP E 0)), (1, .ref (eP E o51)), (2, .int u2), (3, .int u3), (4, .int u4), (5, .int u5), (6, .int w6), (7, .int w7)] →
    (∀ (y6 : Int32) (y7 : Int32) (τ : sg_T), res = .inl (y6, y7, τ) → ∀ (H : Heap) (locs : List Loc) (ls : Array Slot), Hw E τ s H locs → lv_has ls 8 [(0, .ref (eP E 0)), (1, .ref (eP E o51)), (2, .int u2), (3, .int u3), (4, .int u4), (5, .int u5), (6, .int y6), (7, .int y7)] → W p l e rm_X7_tiredThatFits s m args below meth c H locs 0 0 Q (F0 m 82 ls [])) →
    (∀ (r : Int32) (σ' : sg_T), res = .inr (r, σ') → Q = MQ below (Qf E (some (.int r)) σ') args s 0 0 (en_A E)) →
    W p l e rm_X7_tiredThatFits s m args below meth c H locs 0 0 Q (F0 m 33 ls []) := by
  have hR : ShR E := hE.r
  intro n
  induction n with
  | zero =>
    intro w6 w7 σ hf0
    exact (itr_0 hf0).elim
  | succ n ih =>
    intro w6 w7 σ hf0 H locs ls hw hl K1 K2
    obtain ⟨r0, hf, hr1, hr2⟩ := itr_s hf0
    have hf : b_X7_tiredThatFits_33 o51 u2 u3 u4 u5 w6 w7 σ = some r0 := hf
    unfold b_X7_tiredThatFits_33 at hf
    refine lv_iload X.1 X.2.1 dX7_tiredThatFits_33 (lv_at hl 7 rfl) ?_
    refine r_hi X hw qw458 dX7_tiredThatFits_35 ?_
    refine lv_iconst (v := 3) X.1 X.2.1 dX7_tiredThatFits_38 (by decide) ?_
    obtain ⟨h6, hf⟩ := b_ck hf
    refine r_hild X hw h6 dX7_tiredThatFits_39 ?_
    refine lv_icmp_gt (tgt := 82) X.1 X.2.1 dX7_tiredThatFits_40 (by decide) (fun c7 => ?_) (fun c7 => ?_)
    · have hf := if_t hf c7
      obtain rfl := Option.some.inj hf
      obtain rfl := hr2 _ rfl
      exact K1 _ _ _ rfl _ _ _ hw (lv_sub hl [0, 1, 2, 3, 4, 5, 6, 7] rfl)
    · have hf := if_e hf c7
      refine lv_aload_n X.1 X.2.1 dX7_tiredThatFits_43 rfl (lv_at hl 0 rfl) ?_
      refine lv_aload_n X.1 X.2.1 dX7_tiredThatFits_44 rfl (lv_at hl 1 rfl) ?_
      refine lv_iload_n X.1 X.2.1 dX7_tiredThatFits_45 rfl (lv_at hl 2 rfl) ?_
      refine lv_iconst (v := 3) X.1 X.2.1 dX7_tiredThatFits_46 (by decide) ?_
      refine lv_iload_n X.1 X.2.1 dX7_tiredThatFits_47 rfl (lv_at hl 3 rfl) ?_
      refine lv_iload X.1 X.2.1 dX7_tiredThatFits_48 (lv_at hl 7 rfl) ?_
      obtain ⟨r9, σ10, h8, hf⟩ := b_bd2 hf
      refine r_callV X hw (k_X7_firstOtherwise hE ho51 h8) (sp0 hE) (C := RX7) (T := TX7) (N := 9) rfl qw734 qw736 qw22 qw67 qw737 okX7_firstOtherwise ⟨rfl, rfl⟩ ⟨(Nat.le_of_ble_eq_true rfl), (Nat.le_of_ble_eq_true rfl)⟩ ⟨Nat.zero_le _, Nat.zero_le _⟩ rfl hl.1 (rest := []) rfl (Nat.le_of_ble_eq_true rfl) dX7_tiredThatFits_50 (st1 := [.int r9]) rfl (fun H locs hw => ?_)
      refine lv_iconst (v := (-1)) X.1 X.2.1 dX7_tiredThatFits_53 (by decide) ?_
      refine lv_icmp_ne (tgt := 72) X.1 X.2.1 dX7_tiredThatFits_54 (by decide) (fun c11 => ?_) (fun c11 => ?_)
      · have hf := if_e hf c11
        refine lv_iload X.1 X.2.1 dX7_tiredThatFits_72 (lv_at hl 7 rfl) ?_
        refine lv_iload X.1 X.2.1 dX7_tiredThatFits_74 (lv_at hl 5 rfl) ?_
        refine lv_iadd X.1 X.2.1 dX7_tiredThatFits_76 ?_
        refine r_bnd hf (fun v12 hf => ?_)
        refine lv_istore (lv' := [(7, .int v12), (0, .ref (eP E 0)), (1, .ref (eP E o51)), (2, .int u2), (3, .int u3), (4, .int u4), (5, .int u5), (6, .int w6)]) X.1 X.2.1 dX7_tiredThatFits_77 hl (by decide) rfl (fun ls hl => ?_)
        refine lv_goto (tgt := 33) X.1 X.2.1 dX7_tiredThatFits_79 (by decide) ?_
        obtain rfl := Option.some.inj hf
        exact ih _ _ _ (hr1 _ rfl) _ _ _ hw (lv_sub hl [1, 2, 3, 4, 5, 6, 7, 0] rfl) K1 K2
      · have hf := if_t hf c11
        refine lv_iload X.1 X.2.1 dX7_tiredThatFits_57 (lv_at hl 4 rfl) ?_
        refine lv_if_eq (tgt := 65) X.1 X.2.1 dX7_tiredThatFits_59 (by decide) (fun c13 => ?_) (fun c13 => ?_)
        · have hf := if_t hf c13
          refine lv_iload X.1 X.2.1 dX7_tiredThatFits_65 (lv_at hl 6 rfl) ?_
          refine lv_iload X.1 X.2.1 dX7_tiredThatFits_67 (lv_at hl 5 rfl) ?_
          refine lv_iadd X.1 X.2.1 dX7_tiredThatFits_69 ?_
          refine r_bnd hf (fun v14 hf => ?_)
          refine lv_istore (lv' := [(6, .int v14), (0, .ref (eP E 0)), (1, .ref (eP E o51)), (2, .int u2), (3, .int u3), (4, .int u4), (5, .int u5), (7, .int w7)]) X.1 X.2.1 dX7_tiredThatFits_70 hl (by decide) rfl (fun ls hl => ?_)
          refine lv_iload X.1 X.2.1 dX7_tiredThatFits_72 (lv_at hl 7 rfl) ?_
          refine lv_iload X.1 X.2.1 dX7_tiredThatFits_74 (lv_at hl 6 rfl) ?_
          refine lv_iadd X.1 X.2.1 dX7_tiredThatFits_76 ?_
          refine r_bnd hf (fun v15 hf => ?_)
          refine lv_istore (lv' := [(7, .int v15), (6, .int v14), (0, .ref (eP E 0)), (1, .ref (eP E o51)), (2, .int u2), (3, .int u3), (4, .int u4), (5, .int u5)]) X.1 X.2.1 dX7_tiredThatFits_77 hl (by decide) rfl (fun ls hl => ?_)
          refine lv_goto (tgt := 33) X.1 X.2.1 dX7_tiredThatFits_79 (by decide) ?_
          obtain rfl := Option.some.inj hf
          exact ih _ _ _ (hr1 _ rfl) _ _ _ hw (lv_sub hl [2, 3, 4, 5, 6, 7, 1, 0] rfl) K1 K2
        · have hf := if_e hf c13
          refine lv_iload X.1 X.2.1 dX7_tiredThatFits_62 (lv_at hl 7 rfl) ?_
          obtain rfl := Option.some.inj hf
          obtain rfl := hr2 _ rfl
          rw [K2 _ _ rfl]
          exact r_iret X hw dX7_tiredThatFits_64
set_option maxHeartbeats 4000000 in
set_option maxRecDepth 100000 in
theorem w_X7_tiredThatFits_33q2 {p : Program} {l : Launch} {e : Env} {s : State} {m : MethodId} {args : Array Value} {below : List Frame} {meth : Method} {c : Code} {Q : State → Prop} {E : en_T} (X : Cx E p s m args meth c cX7_tiredThatFits 8 RX7 (some .int)) (hE : ShF E) {o51 : Nat} (ho51 : isS o51) {u2 : Int32} {u3 : Int32} {u4 : Int32}  {res : (Int32 × Int32 × sg_T) ⊕ (Int32 × sg_T)} :
    ∀ (n : Nat) (w6 : Int32) (w7 : Int32) (σ : sg_T), itr (fun q => b_X7_tiredThatFits_33q2 o51 u2 u3 u4 q.1 q.2.1 q.2.2) n (w6, w7, σ) = some res → ∀ (H : Heap) (locs : List Loc) (ls : Array Slot), Hw E σ s H locs → lv_has ls 8 [(0, .ref (eP E 0)), (1, .ref (eP E o51)), (2, .int u2), (3, .int u3), (4, .int u4), (5, .int 1), (6, .int w6), (7, .int w7)] →
    (∀ (y6 : Int32) (y7 : Int32) (τ : sg_T), res = .inl (y6, y7, τ) → ∀ (H : Heap) (locs : List Loc) (ls : Array Slot), Hw E τ s H locs → lv_has ls 8 [(0, .ref (eP E 0)), (1, .ref (eP E o51)), (2, .int u2), (3, .int u3), (4, .int u4), (5, .int 1), (6, .int y6), (7, .int y7)] → W p l e rm_X7_tiredThatFits s m args below meth c H locs 0 0 Q (F0 m 82 ls [])) →
    (∀ (r : Int32) (σ' : sg_T), res = .inr (r, σ') → Q = MQ below (Qf E (some (.int r)) σ') args s 0 0 (en_A E)) →
    W p l e rm_X7_tiredThatFits s m args below meth c H locs 0 0 Q (F0 m 33 ls []) := by
  have hR : ShR E := hE.r
  intro n
  induction n with
  | zero =>
    intro w6 w7 σ hf0
    exact (itr_0 hf0).elim
  | succ n ih =>
    intro w6 w7 σ hf0 H locs ls hw hl K1 K2
    obtain ⟨r0, hf, hr1, hr2⟩ := itr_s hf0
    have hf : b_X7_tiredThatFits_33q2 o51 u2 u3 u4 w6 w7 σ = some r0 := hf
    unfold b_X7_tiredThatFits_33q2 at hf
    refine lv_iload X.1 X.2.1 dX7_tiredThatFits_33 (lv_at hl 7 rfl) ?_
    refine r_hi X hw qw458 dX7_tiredThatFits_35 ?_
    refine lv_iconst (v := 3) X.1 X.2.1 dX7_tiredThatFits_38 (by decide) ?_
    obtain ⟨h26, hf⟩ := b_ck hf
    refine r_hild X hw h26 dX7_tiredThatFits_39 ?_
    refine lv_icmp_gt (tgt := 82) X.1 X.2.1 dX7_tiredThatFits_40 (by decide) (fun c27 => ?_) (fun c27 => ?_)
    · have hf := if_t hf c27
      obtain rfl := Option.some.inj hf
      obtain rfl := hr2 _ rfl
      exact K1 _ _ _ rfl _ _ _ hw (lv_sub hl [0, 1, 2, 3, 4, 5, 6, 7] rfl)
    · have hf := if_e hf c27
      refine lv_aload_n X.1 X.2.1 dX7_tiredThatFits_43 rfl (lv_at hl 0 rfl) ?_
      refine lv_aload_n X.1 X.2.1 dX7_tiredThatFits_44 rfl (lv_at hl 1 rfl) ?_
      refine lv_iload_n X.1 X.2.1 dX7_tiredThatFits_45 rfl (lv_at hl 2 rfl) ?_
      refine lv_iconst (v := 3) X.1 X.2.1 dX7_tiredThatFits_46 (by decide) ?_
      refine lv_iload_n X.1 X.2.1 dX7_tiredThatFits_47 rfl (lv_at hl 3 rfl) ?_
      refine lv_iload X.1 X.2.1 dX7_tiredThatFits_48 (lv_at hl 7 rfl) ?_
      obtain ⟨r29, σ30, h28, hf⟩ := b_bd2 hf
      refine r_callV X hw (k_X7_firstOtherwise hE ho51 h28) (sp0 hE) (C := RX7) (T := TX7) (N := 9) rfl qw734 qw736 qw22 qw67 qw737 okX7_firstOtherwise ⟨rfl, rfl⟩ ⟨(Nat.le_of_ble_eq_true rfl), (Nat.le_of_ble_eq_true rfl)⟩ ⟨Nat.zero_le _, Nat.zero_le _⟩ rfl hl.1 (rest := []) rfl (Nat.le_of_ble_eq_true rfl) dX7_tiredThatFits_50 (st1 := [.int r29]) rfl (fun H locs hw => ?_)
      refine lv_iconst (v := (-1)) X.1 X.2.1 dX7_tiredThatFits_53 (by decide) ?_
      refine lv_icmp_ne (tgt := 72) X.1 X.2.1 dX7_tiredThatFits_54 (by decide) (fun c31 => ?_) (fun c31 => ?_)
      · have hf := if_e hf c31
        refine lv_iload X.1 X.2.1 dX7_tiredThatFits_72 (lv_at hl 7 rfl) ?_
        refine lv_iload X.1 X.2.1 dX7_tiredThatFits_74 (lv_at hl 5 rfl) ?_
        refine lv_iadd X.1 X.2.1 dX7_tiredThatFits_76 ?_
        refine r_bnd hf (fun v32 hf => ?_)
        refine lv_istore (lv' := [(7, .int v32), (0, .ref (eP E 0)), (1, .ref (eP E o51)), (2, .int u2), (3, .int u3), (4, .int u4), (5, .int 1), (6, .int w6)]) X.1 X.2.1 dX7_tiredThatFits_77 hl (by decide) rfl (fun ls hl => ?_)
        refine lv_goto (tgt := 33) X.1 X.2.1 dX7_tiredThatFits_79 (by decide) ?_
        obtain rfl := Option.some.inj hf
        exact ih _ _ _ (hr1 _ rfl) _ _ _ hw (lv_sub hl [1, 2, 3, 4, 5, 6, 7, 0] rfl) K1 K2
      · have hf := if_t hf c31
        refine lv_iload X.1 X.2.1 dX7_tiredThatFits_57 (lv_at hl 4 rfl) ?_
        refine lv_if_eq (tgt := 65) X.1 X.2.1 dX7_tiredThatFits_59 (by decide) (fun c33 => ?_) (fun c33 => ?_)
        · have hf := if_t hf c33
          refine lv_iload X.1 X.2.1 dX7_tiredThatFits_65 (lv_at hl 6 rfl) ?_
          refine lv_iload X.1 X.2.1 dX7_tiredThatFits_67 (lv_at hl 5 rfl) ?_
          refine lv_iadd X.1 X.2.1 dX7_tiredThatFits_69 ?_
          refine r_bnd hf (fun v34 hf => ?_)
          refine lv_istore (lv' := [(6, .int v34), (0, .ref (eP E 0)), (1, .ref (eP E o51)), (2, .int u2), (3, .int u3), (4, .int u4), (5, .int 1), (7, .int w7)]) X.1 X.2.1 dX7_tiredThatFits_70 hl (by decide) rfl (fun ls hl => ?_)
          refine lv_iload X.1 X.2.1 dX7_tiredThatFits_72 (lv_at hl 7 rfl) ?_
          refine lv_iload X.1 X.2.1 dX7_tiredThatFits_74 (lv_at hl 6 rfl) ?_
          refine lv_iadd X.1 X.2.1 dX7_tiredThatFits_76 ?_
          refine r_bnd hf (fun v35 hf => ?_)
          refine lv_istore (lv' := [(7, .int v35), (6, .int v34), (0, .ref (eP E 0)), (1, .ref (eP E o51)), (2, .int u2), (3, .int u3), (4, .int u4), (5, .int 1)]) X.1 X.2.1 dX7_tiredThatFits_77 hl (by decide) rfl (fun ls hl => ?_)
          refine lv_goto (tgt := 33) X.1 X.2.1 dX7_tiredThatFits_79 (by decide) ?_
          obtain rfl := Option.some.inj hf
          exact ih _ _ _ (hr1 _ rfl) _ _ _ hw (lv_sub hl [2, 3, 4, 5, 6, 7, 1, 0] rfl) K1 K2
        · have hf := if_e hf c33
          refine lv_iload X.1 X.2.1 dX7_tiredThatFits_62 (lv_at hl 7 rfl) ?_
          obtain rfl := Option.some.inj hf
          obtain rfl := hr2 _ rfl
          rw [K2 _ _ rfl]
          exact r_iret X hw dX7_tiredThatFits_64
set_option maxHeartbeats 4000000 in
set_option maxRecDepth 100000 in
theorem k_X7_tiredThatFits {l : Launch} {E : en_T} (hE : ShF E) {o1 : Nat} (ho1 : isS o1) {x2 : Int32} {x3 : Int32} {x4 : Int32} {σ : sg_T} {r : Int32} {σ' : sg_T} (hf : f_X7_tiredThatFits o1 x2 x3 x4 σ = some (r, σ')) : Ct l yX7_tiredThatFits cX7_tiredThatFits 8 (some .int) rm_X7_tiredThatFits E [.ref (eP E 0), .ref (eP E o1), .int x2, .int x3, .int x4] σ (some (.int r)) σ' := by
  refine Ct.start (by decide) hE.1 (Nat.le_of_ble_eq_true rfl) ?_
  intro p e s m below meth c X hw ls hl
  have X : Cx E p s m _ meth c cX7_tiredThatFits 8 RX7 (some .int) := X
  have hR : ShR E := hE.r
  have hl : lv_has ls 8 [(0, .ref (eP E 0)), (1, .ref (eP E o1)), (2, .int x2), (3, .int x3), (4, .int x4)] := hl
  unfold f_X7_tiredThatFits at hf
  refine lv_aload_n X.1 X.2.1 dX7_tiredThatFits_0 rfl (lv_at hl 0 rfl) ?_
  refine r_get X hw (sp0 hE) (C := RX7) (T := TX7) (N := 9) rfl iwX7 0 (by decide) (Nat.le_of_ble_eq_true rfl) qw418 (v := .ref (eP E 6)) rfl dX7_tiredThatFits_1 ?_
  refine lv_aload_n X.1 X.2.1 dX7_tiredThatFits_4 rfl (lv_at hl 0 rfl) ?_
  refine r_get X hw (sp0 hE) (C := RX7) (T := TX7) (N := 9) rfl iwX7 3 (by decide) (Nat.le_of_ble_eq_true rfl) qw421 (v := .ref (eP E 34)) rfl dX7_tiredThatFits_5 ?_
  obtain ⟨r2, h1, hf⟩ := b_bd1 hf
  refine r_callV X hw (k_X3_mindsTired hE (Or.inl rfl) h1) (sp6 hR) (C := RX3) (T := TX3) (N := 4) rfl qw754 qw755 qw756 qw69 qw757 okX3_mindsTired ⟨rfl, rfl⟩ ⟨(Nat.le_of_ble_eq_true rfl), (Nat.le_of_ble_eq_true rfl)⟩ ⟨Nat.zero_le _, Nat.zero_le _⟩ rfl hl.1 (rest := []) rfl (Nat.le_of_ble_eq_true rfl) dX7_tiredThatFits_8 (st1 := [.int r2]) rfl (fun H locs hw => ?_)
  refine lv_if_eq (tgt := 18) X.1 X.2.1 dX7_tiredThatFits_11 (by decide) (fun c3 => ?_) (fun c3 => ?_)
  · have hf := if_t hf c3
    refine r_hi X hw qw458 dX7_tiredThatFits_18 ?_
    refine lv_iconst (v := 3) X.1 X.2.1 dX7_tiredThatFits_21 (by decide) ?_
    obtain ⟨h4, hf⟩ := b_ck hf
    refine r_hild X hw h4 dX7_tiredThatFits_22 ?_
    refine lv_iconst (v := 1) X.1 X.2.1 dX7_tiredThatFits_23 (by decide) ?_
    refine lv_iadd X.1 X.2.1 dX7_tiredThatFits_24 ?_
    refine r_bnd hf (fun v5 hf => ?_)
    refine lv_istore (lv' := [(5, .int v5), (0, .ref (eP E 0)), (1, .ref (eP E o1)), (2, .int x2), (3, .int x3), (4, .int x4)]) X.1 X.2.1 dX7_tiredThatFits_25 hl (by decide) rfl (fun ls hl => ?_)
    refine lv_iconst (v := 0) X.1 X.2.1 dX7_tiredThatFits_27 (by decide) ?_
    refine lv_istore (lv' := [(6, .int 0), (5, .int v5), (0, .ref (eP E 0)), (1, .ref (eP E o1)), (2, .int x2), (3, .int x3), (4, .int x4)]) X.1 X.2.1 dX7_tiredThatFits_28 hl (by decide) rfl (fun ls hl => ?_)
    refine lv_iconst (v := 0) X.1 X.2.1 dX7_tiredThatFits_30 (by decide) ?_
    refine lv_istore (lv' := [(7, .int 0), (6, .int 0), (5, .int v5), (0, .ref (eP E 0)), (1, .ref (eP E o1)), (2, .int x2), (3, .int x3), (4, .int x4)]) X.1 X.2.1 dX7_tiredThatFits_31 hl (by decide) rfl (fun ls hl => ?_)
    obtain ⟨r20, h16, hf⟩ := b_bs hf
    rcases hf with ⟨⟨v17, v18, σ19⟩, rfl, hf⟩ | ⟨⟨r21, σ22⟩, rfl, hf⟩
    · refine w_X7_tiredThatFits_33 X hE ho1 lfu _ _ _ h16 _ _ _ hw (lv_sub hl [3, 4, 5, 6, 7, 2, 1, 0] rfl) (fun yv17 yv18 yσ19 hq H locs ls hw hl => ?_) (fun _ _ hq => by cases hq)
      cases hq
      dsimp only at hf
      refine lv_iload X.1 X.2.1 dX7_tiredThatFits_82 (lv_at hl 4 rfl) ?_
      obtain ⟨v24, e25, hf⟩ := b_bnd hf
      refine r_join (g2 := F0 m 93 ls [.int v24]) ?_ (fun hj => ?_)
      · obtain ⟨rfl, rfl⟩ := Prod.mk.inj (Option.some.inj hf)
        exact r_iret X hw dX7_tiredThatFits_93
      · refine lv_if_eq (tgt := 91) X.1 X.2.1 dX7_tiredThatFits_84 (by decide) (fun c23 => ?_) (fun c23 => ?_)
        · rw [e25, if_pos c23] at hj
          refine lv_iload X.1 X.2.1 dX7_tiredThatFits_91 (lv_at hl 6 rfl) ?_
          exact hj
        · rw [e25, if_neg c23] at hj
          refine lv_iconst (v := (-1)) X.1 X.2.1 dX7_tiredThatFits_87 (by decide) ?_
          refine lv_goto (tgt := 93) X.1 X.2.1 dX7_tiredThatFits_88 (by decide) ?_
          exact hj
    · refine w_X7_tiredThatFits_33 X hE ho1 lfu _ _ _ h16 _ _ _ hw (lv_sub hl [3, 4, 5, 6, 7, 2, 1, 0] rfl) (fun _ _ _ hq => by cases hq) (fun _ _ hq => ?_)
      cases hq
      cases hf
      rfl
  · have hf := if_e hf c3
    refine lv_iconst (v := 1) X.1 X.2.1 dX7_tiredThatFits_14 (by decide) ?_
    refine lv_goto (tgt := 25) X.1 X.2.1 dX7_tiredThatFits_15 (by decide) ?_
    refine lv_istore (lv' := [(5, .int 1), (0, .ref (eP E 0)), (1, .ref (eP E o1)), (2, .int x2), (3, .int x3), (4, .int x4)]) X.1 X.2.1 dX7_tiredThatFits_25 hl (by decide) rfl (fun ls hl => ?_)
    refine lv_iconst (v := 0) X.1 X.2.1 dX7_tiredThatFits_27 (by decide) ?_
    refine lv_istore (lv' := [(6, .int 0), (5, .int 1), (0, .ref (eP E 0)), (1, .ref (eP E o1)), (2, .int x2), (3, .int x3), (4, .int x4)]) X.1 X.2.1 dX7_tiredThatFits_28 hl (by decide) rfl (fun ls hl => ?_)
    refine lv_iconst (v := 0) X.1 X.2.1 dX7_tiredThatFits_30 (by decide) ?_
    refine lv_istore (lv' := [(7, .int 0), (6, .int 0), (5, .int 1), (0, .ref (eP E 0)), (1, .ref (eP E o1)), (2, .int x2), (3, .int x3), (4, .int x4)]) X.1 X.2.1 dX7_tiredThatFits_31 hl (by decide) rfl (fun ls hl => ?_)
    obtain ⟨r40, h36, hf⟩ := b_bs hf
    rcases hf with ⟨⟨v37, v38, σ39⟩, rfl, hf⟩ | ⟨⟨r41, σ42⟩, rfl, hf⟩
    · refine w_X7_tiredThatFits_33q2 X hE ho1 lfu _ _ _ h36 _ _ _ hw (lv_sub hl [3, 4, 5, 6, 7, 2, 1, 0] rfl) (fun yv37 yv38 yσ39 hq H locs ls hw hl => ?_) (fun _ _ hq => by cases hq)
      cases hq
      dsimp only at hf
      refine lv_iload X.1 X.2.1 dX7_tiredThatFits_82 (lv_at hl 4 rfl) ?_
      obtain ⟨v44, e45, hf⟩ := b_bnd hf
      refine r_join (g2 := F0 m 93 ls [.int v44]) ?_ (fun hj => ?_)
      · obtain ⟨rfl, rfl⟩ := Prod.mk.inj (Option.some.inj hf)
        exact r_iret X hw dX7_tiredThatFits_93
      · refine lv_if_eq (tgt := 91) X.1 X.2.1 dX7_tiredThatFits_84 (by decide) (fun c43 => ?_) (fun c43 => ?_)
        · rw [e45, if_pos c43] at hj
          refine lv_iload X.1 X.2.1 dX7_tiredThatFits_91 (lv_at hl 6 rfl) ?_
          exact hj
        · rw [e45, if_neg c43] at hj
          refine lv_iconst (v := (-1)) X.1 X.2.1 dX7_tiredThatFits_87 (by decide) ?_
          refine lv_goto (tgt := 93) X.1 X.2.1 dX7_tiredThatFits_88 (by decide) ?_
          exact hj
    · refine w_X7_tiredThatFits_33q2 X hE ho1 lfu _ _ _ h36 _ _ _ hw (lv_sub hl [3, 4, 5, 6, 7, 2, 1, 0] rfl) (fun _ _ _ hq => by cases hq) (fun _ _ hq => ?_)
      cases hq
      cases hf
      rfl
abbrev rm_X7_peopleThatFit : Room := { frames := 7, cells := 0, slots := 0, locals := 227 }
set_option maxHeartbeats 4000000 in
set_option maxRecDepth 100000 in
theorem w_X7_peopleThatFit_4 {p : Program} {l : Launch} {e : Env} {s : State} {m : MethodId} {args : Array Value} {below : List Frame} {meth : Method} {c : Code} {Q : State → Prop} {E : en_T} (X : Cx E p s m args meth c cX7_peopleThatFit 4 RX7 (some .int)) (hE : ShF E) {o51 : Nat} (ho51 : isS o51)  {res : Int32 × Int32 × sg_T} :
    ∀ (n : Nat) (w2 : Int32) (w3 : Int32) (σ : sg_T), itr (fun q => b_X7_peopleThatFit_4 o51 q.1 q.2.1 q.2.2) n (w2, w3, σ) = some res → ∀ (H : Heap) (locs : List Loc) (ls : Array Slot), Hw E σ s H locs → lv_has ls 4 [(0, .ref (eP E 0)), (1, .ref (eP E o51)), (2, .int w2), (3, .int w3)] →
    (∀ (y2 : Int32) (y3 : Int32) (τ : sg_T), res = (y2, y3, τ) → ∀ (H : Heap) (locs : List Loc) (ls : Array Slot), Hw E τ s H locs → lv_has ls 4 [(0, .ref (eP E 0)), (1, .ref (eP E o51)), (2, .int y2), (3, .int y3)] → W p l e rm_X7_peopleThatFit s m args below meth c H locs 0 0 Q (F0 m 41 ls [])) →
    W p l e rm_X7_peopleThatFit s m args below meth c H locs 0 0 Q (F0 m 4 ls []) := by
  have hR : ShR E := hE.r
  intro n
  induction n with
  | zero =>
    intro w2 w3 σ hf0
    exact (itr_0 hf0).elim
  | succ n ih =>
    intro w2 w3 σ hf0 H locs ls hw hl K1
    obtain ⟨r0, hf, hr1, hr2⟩ := itr_s hf0
    have hf : b_X7_peopleThatFit_4 o51 w2 w3 σ = some r0 := hf
    unfold b_X7_peopleThatFit_4 at hf
    refine lv_iload_n X.1 X.2.1 dX7_peopleThatFit_4 rfl (lv_at hl 3 rfl) ?_
    refine lv_aload_n X.1 X.2.1 dX7_peopleThatFit_5 rfl (lv_at hl 0 rfl) ?_
    refine r_get X hw (sp0 hE) (C := RX7) (T := TX7) (N := 9) rfl iwX7 3 (by decide) (Nat.le_of_ble_eq_true rfl) qw421 (v := .ref (eP E 34)) rfl dX7_peopleThatFit_6 ?_
    obtain ⟨r2, h1, hf⟩ := b_bd1 hf
    refine r_callV X hw (k_X1_many hE (Or.inl rfl) h1) (spP0 hE (Or.inl rfl)) (C := RX1) (T := TX1) (N := 10) rfl qw677 qw610 qw611 qw76 qw612 okX1_many ⟨rfl, rfl⟩ ⟨(Nat.le_of_ble_eq_true rfl), (Nat.le_of_ble_eq_true rfl)⟩ ⟨Nat.zero_le _, Nat.zero_le _⟩ rfl hl.1 (rest := [.int w3]) rfl (Nat.le_of_ble_eq_true rfl) dX7_peopleThatFit_9 (st1 := [.int r2, .int w3]) rfl (fun H locs hw => ?_)
    refine lv_icmp_ge (tgt := 41) X.1 X.2.1 dX7_peopleThatFit_12 (by decide) (fun c3 => ?_) (fun c3 => ?_)
    · have hf := if_t hf c3
      obtain rfl := Option.some.inj hf
      obtain rfl := hr2 _ rfl
      exact K1 _ _ _ rfl _ _ _ hw (lv_sub hl [0, 1, 2, 3] rfl)
    · have hf := if_e hf c3
      refine lv_aload_n X.1 X.2.1 dX7_peopleThatFit_15 rfl (lv_at hl 0 rfl) ?_
      refine lv_aload_n X.1 X.2.1 dX7_peopleThatFit_16 rfl (lv_at hl 1 rfl) ?_
      refine lv_iload_n X.1 X.2.1 dX7_peopleThatFit_17 rfl (lv_at hl 3 rfl) ?_
      refine lv_bipush (v := 9) X.1 X.2.1 dX7_peopleThatFit_18 (by decide) ?_
      refine lv_iconst (v := (-1)) X.1 X.2.1 dX7_peopleThatFit_20 (by decide) ?_
      refine lv_iconst (v := (-1)) X.1 X.2.1 dX7_peopleThatFit_21 (by decide) ?_
      obtain ⟨r5, σ6, h4, hf⟩ := b_bd2 hf
      refine r_callV X hw (k_X7_firstOtherwise hE ho51 h4) (sp0 hE) (C := RX7) (T := TX7) (N := 9) rfl qw734 qw736 qw22 qw67 qw737 okX7_firstOtherwise ⟨rfl, rfl⟩ ⟨(Nat.le_of_ble_eq_true rfl), (Nat.le_of_ble_eq_true rfl)⟩ ⟨Nat.zero_le _, Nat.zero_le _⟩ rfl hl.1 (rest := []) rfl (Nat.le_of_ble_eq_true rfl) dX7_peopleThatFit_22 (st1 := [.int r5]) rfl (fun H locs hw => ?_)
      refine lv_iconst (v := (-1)) X.1 X.2.1 dX7_peopleThatFit_25 (by decide) ?_
      refine lv_icmp_ne (tgt := 35) X.1 X.2.1 dX7_peopleThatFit_26 (by decide) (fun c7 => ?_) (fun c7 => ?_)
      · have hf := if_e hf c7
        obtain ⟨v8, e9, hf⟩ := b_bnd hf
        refine lv_iinc (v := v8) (k := 3) (lv' := [(3, .int v8), (0, .ref (eP E 0)), (1, .ref (eP E o51)), (2, .int w2)]) X.1 X.2.1 dX7_peopleThatFit_35 hl rfl (by rw [e9]; exact congrArg _ (by decide)) (by decide) rfl (fun ls hl => ?_)
        refine lv_goto (tgt := 4) X.1 X.2.1 dX7_peopleThatFit_38 (by decide) ?_
        obtain rfl := Option.some.inj hf
        exact ih _ _ _ (hr1 _ rfl) _ _ _ hw (lv_sub hl [1, 2, 3, 0] rfl) K1
      · have hf := if_t hf c7
        refine lv_iload_n X.1 X.2.1 dX7_peopleThatFit_29 rfl (lv_at hl 2 rfl) ?_
        refine lv_iconst (v := 1) X.1 X.2.1 dX7_peopleThatFit_30 (by decide) ?_
        refine lv_iload_n X.1 X.2.1 dX7_peopleThatFit_31 rfl (lv_at hl 3 rfl) ?_
        refine lv_ishl X.1 X.2.1 dX7_peopleThatFit_32 ?_
        refine lv_ior X.1 X.2.1 dX7_peopleThatFit_33 ?_
        refine r_bnd hf (fun v10 hf => ?_)
        refine lv_istore_n (lv' := [(2, .int v10), (0, .ref (eP E 0)), (1, .ref (eP E o51)), (3, .int w3)]) X.1 X.2.1 dX7_peopleThatFit_34 rfl hl (by decide) rfl (fun ls hl => ?_)
        obtain ⟨v11, e12, hf⟩ := b_bnd hf
        refine lv_iinc (v := v11) (k := 3) (lv' := [(3, .int v11), (2, .int v10), (0, .ref (eP E 0)), (1, .ref (eP E o51))]) X.1 X.2.1 dX7_peopleThatFit_35 hl rfl (by rw [e12]; exact congrArg _ (by decide)) (by decide) rfl (fun ls hl => ?_)
        refine lv_goto (tgt := 4) X.1 X.2.1 dX7_peopleThatFit_38 (by decide) ?_
        obtain rfl := Option.some.inj hf
        exact ih _ _ _ (hr1 _ rfl) _ _ _ hw (lv_sub hl [2, 3, 1, 0] rfl) K1
set_option maxHeartbeats 4000000 in
set_option maxRecDepth 100000 in
theorem k_X7_peopleThatFit {l : Launch} {E : en_T} (hE : ShF E) {o1 : Nat} (ho1 : isS o1) {σ : sg_T} {r : Int32} {σ' : sg_T} (hf : f_X7_peopleThatFit o1 σ = some (r, σ')) : Ct l yX7_peopleThatFit cX7_peopleThatFit 4 (some .int) rm_X7_peopleThatFit E [.ref (eP E 0), .ref (eP E o1)] σ (some (.int r)) σ' := by
  refine Ct.start (by decide) hE.1 (Nat.le_of_ble_eq_true rfl) ?_
  intro p e s m below meth c X hw ls hl
  have X : Cx E p s m _ meth c cX7_peopleThatFit 4 RX7 (some .int) := X
  have hR : ShR E := hE.r
  have hl : lv_has ls 4 [(0, .ref (eP E 0)), (1, .ref (eP E o1))] := hl
  unfold f_X7_peopleThatFit at hf
  refine lv_iconst (v := 0) X.1 X.2.1 dX7_peopleThatFit_0 (by decide) ?_
  refine lv_istore_n (lv' := [(2, .int 0), (0, .ref (eP E 0)), (1, .ref (eP E o1))]) X.1 X.2.1 dX7_peopleThatFit_1 rfl hl (by decide) rfl (fun ls hl => ?_)
  refine lv_iconst (v := 0) X.1 X.2.1 dX7_peopleThatFit_2 (by decide) ?_
  refine lv_istore_n (lv' := [(3, .int 0), (2, .int 0), (0, .ref (eP E 0)), (1, .ref (eP E o1))]) X.1 X.2.1 dX7_peopleThatFit_3 rfl hl (by decide) rfl (fun ls hl => ?_)
  obtain ⟨v14, v15, σ16, h13, hf⟩ := b_bd3 hf
  refine w_X7_peopleThatFit_4 X hE ho1 lfu _ _ _ h13 _ _ _ hw (lv_sub hl [2, 3, 1, 0] rfl) (fun yv14 yv15 yσ16 hq H locs ls hw hl => ?_)
  cases hq
  refine lv_iload_n X.1 X.2.1 dX7_peopleThatFit_41 rfl (lv_at hl 2 rfl) ?_
  obtain ⟨rfl, rfl⟩ := Prod.mk.inj (Option.some.inj hf)
  exact r_iret X hw dX7_peopleThatFit_42
abbrev rm_X7_tells : Room := { frames := 8, cells := 0, slots := 0, locals := 254 }
set_option maxHeartbeats 4000000 in
set_option maxRecDepth 100000 in
theorem k_X7_tells {l : Launch} {E : en_T} (hE : ShF E) {x1 : Int32} {x2 : Int32} {x3 : Int32} {x4 : Int32} {σ : sg_T} {r : Int32} {σ' : sg_T} (hf : f_X7_tells x1 x2 x3 x4 σ = some (r, σ')) : Ct l yX7_tells cX7_tells 6 (some .int) rm_X7_tells E [.ref (eP E 0), .int x1, .int x2, .int x3, .int x4] σ (some (.int r)) σ' := by
  refine Ct.start (by decide) hE.1 (Nat.le_of_ble_eq_true rfl) ?_
  intro p e s m below meth c X hw ls hl
  have X : Cx E p s m _ meth c cX7_tells 6 RX7 (some .int) := X
  have hR : ShR E := hE.r
  have hl : lv_has ls 6 [(0, .ref (eP E 0)), (1, .int x1), (2, .int x2), (3, .int x3), (4, .int x4)] := hl
  unfold f_X7_tells at hf
  refine lv_iload_n X.1 X.2.1 dX7_tells_0 rfl (lv_at hl 1 rfl) ?_
  obtain ⟨r2, h1, hf⟩ := b_bd1 hf
  refine r_callS X hw (k_X7_isSheet hE  h1) qw723 qw724 qw67 qw725 okX7_isSheet ⟨rfl, rfl⟩ ⟨(Nat.le_of_ble_eq_true rfl), (Nat.le_of_ble_eq_true rfl)⟩ ⟨Nat.zero_le _, Nat.zero_le _⟩ rfl hl.1 (rest := []) rfl (Nat.le_of_ble_eq_true rfl) dX7_tells_1 (st1 := [.int r2]) rfl (fun H locs hw => ?_)
  refine lv_if_eq (tgt := 41) X.1 X.2.1 dX7_tells_4 (by decide) (fun c3 => ?_) (fun c3 => ?_)
  · have hf := if_t hf c3
    refine lv_bipush (v := (-2)) X.1 X.2.1 dX7_tells_41 (by decide) ?_
    obtain ⟨rfl, rfl⟩ := Prod.mk.inj (Option.some.inj hf)
    exact r_iret X hw dX7_tells_43
  · have hf := if_e hf c3
    refine lv_aload_n X.1 X.2.1 dX7_tells_7 rfl (lv_at hl 0 rfl) ?_
    refine r_get X hw (sp0 hE) (C := RX7) (T := TX7) (N := 9) rfl iwX7 3 (by decide) (Nat.le_of_ble_eq_true rfl) qw421 (v := .ref (eP E 34)) rfl dX7_tells_8 ?_
    refine lv_iload_n X.1 X.2.1 dX7_tells_11 rfl (lv_at hl 2 rfl) ?_
    obtain ⟨r5, h4, hf⟩ := b_bd1 hf
    refine r_callV X hw (k_X1_has hE (Or.inl rfl) h4) (spP0 hE (Or.inl rfl)) (C := RX1) (T := TX1) (N := 10) rfl qw489 qw455 qw456 qw76 qw457 okX1_has ⟨rfl, rfl⟩ ⟨(Nat.le_of_ble_eq_true rfl), (Nat.le_of_ble_eq_true rfl)⟩ ⟨Nat.zero_le _, Nat.zero_le _⟩ rfl hl.1 (rest := []) rfl (Nat.le_of_ble_eq_true rfl) dX7_tells_12 (st1 := [.int r5]) rfl (fun H locs hw => ?_)
    refine lv_if_eq (tgt := 41) X.1 X.2.1 dX7_tells_15 (by decide) (fun c6 => ?_) (fun c6 => ?_)
    · have hf := if_t hf c6
      refine lv_bipush (v := (-2)) X.1 X.2.1 dX7_tells_41 (by decide) ?_
      obtain ⟨rfl, rfl⟩ := Prod.mk.inj (Option.some.inj hf)
      exact r_iret X hw dX7_tells_43
    · have hf := if_e hf c6
      refine lv_aload_n X.1 X.2.1 dX7_tells_18 rfl (lv_at hl 0 rfl) ?_
      refine r_get X hw (sp0 hE) (C := RX7) (T := TX7) (N := 9) rfl iwX7 3 (by decide) (Nat.le_of_ble_eq_true rfl) qw421 (v := .ref (eP E 34)) rfl dX7_tells_19 ?_
      refine lv_iload_n X.1 X.2.1 dX7_tells_22 rfl (lv_at hl 3 rfl) ?_
      obtain ⟨r8, h7, hf⟩ := b_bd1 hf
      refine r_callV X hw (k_X1_has hE (Or.inl rfl) h7) (spP0 hE (Or.inl rfl)) (C := RX1) (T := TX1) (N := 10) rfl qw489 qw455 qw456 qw76 qw457 okX1_has ⟨rfl, rfl⟩ ⟨(Nat.le_of_ble_eq_true rfl), (Nat.le_of_ble_eq_true rfl)⟩ ⟨Nat.zero_le _, Nat.zero_le _⟩ rfl hl.1 (rest := []) rfl (Nat.le_of_ble_eq_true rfl) dX7_tells_23 (st1 := [.int r8]) rfl (fun H locs hw => ?_)
      refine lv_if_eq (tgt := 41) X.1 X.2.1 dX7_tells_26 (by decide) (fun c9 => ?_) (fun c9 => ?_)
      · have hf := if_t hf c9
        refine lv_bipush (v := (-2)) X.1 X.2.1 dX7_tells_41 (by decide) ?_
        obtain ⟨rfl, rfl⟩ := Prod.mk.inj (Option.some.inj hf)
        exact r_iret X hw dX7_tells_43
      · have hf := if_e hf c9
        refine lv_iload X.1 X.2.1 dX7_tells_29 (lv_at hl 4 rfl) ?_
        refine lv_if_lt (tgt := 41) X.1 X.2.1 dX7_tells_31 (by decide) (fun c10 => ?_) (fun c10 => ?_)
        · have hf := if_t hf c10
          refine lv_bipush (v := (-2)) X.1 X.2.1 dX7_tells_41 (by decide) ?_
          obtain ⟨rfl, rfl⟩ := Prod.mk.inj (Option.some.inj hf)
          exact r_iret X hw dX7_tells_43
        · have hf := if_e hf c10
          refine lv_iload X.1 X.2.1 dX7_tells_34 (lv_at hl 4 rfl) ?_
          refine lv_bipush (v := 7) X.1 X.2.1 dX7_tells_36 (by decide) ?_
          refine lv_icmp_le (tgt := 44) X.1 X.2.1 dX7_tells_38 (by decide) (fun c11 => ?_) (fun c11 => ?_)
          · have hf := if_t hf c11
            refine lv_aload_n X.1 X.2.1 dX7_tells_44 rfl (lv_at hl 0 rfl) ?_
            refine r_get X hw (sp0 hE) (C := RX7) (T := TX7) (N := 9) rfl iwX7 7 (by decide) (Nat.le_of_ble_eq_true rfl) qw425 (v := .ref (eP E 60)) rfl dX7_tells_45 ?_
            refine lv_iload_n X.1 X.2.1 dX7_tells_48 rfl (lv_at hl 1 rfl) ?_
            obtain ⟨h12, hf⟩ := b_ck hf
            refine r_aaldS X hw (sp60 hE) (q := (61 + 2 * x1.toNatClampNeg)) h12 (tqs h12) dX7_tells_49 ?_
            refine lv_astore (lv' := [(5, .ref (eP E (61 + 2 * x1.toNatClampNeg))), (0, .ref (eP E 0)), (1, .int x1), (2, .int x2), (3, .int x3), (4, .int x4)]) X.1 X.2.1 dX7_tells_50 hl (by decide) rfl (fun ls hl => ?_)
            refine lv_aload X.1 X.2.1 dX7_tells_52 (lv_at hl 0 rfl) ?_
            obtain ⟨r14, h13, hf⟩ := b_bd1 hf
            refine r_callV X hw (k_X4_isMissing hE (isS_of h12) h13) (spS0 hE (isS_of h12)) (C := RX4) (T := TX4) (N := 3) rfl qw726 qw727 qw728 qw78 qw729 okX4_isMissing ⟨rfl, rfl⟩ ⟨(Nat.le_of_ble_eq_true rfl), (Nat.le_of_ble_eq_true rfl)⟩ ⟨Nat.zero_le _, Nat.zero_le _⟩ rfl hl.1 (rest := []) rfl (Nat.le_of_ble_eq_true rfl) dX7_tells_54 (st1 := [.int r14]) rfl (fun H locs hw => ?_)
            refine lv_if_eq (tgt := 63) X.1 X.2.1 dX7_tells_57 (by decide) (fun c15 => ?_) (fun c15 => ?_)
            · have hf := if_t hf c15
              refine lv_aload X.1 X.2.1 dX7_tells_63 (lv_at hl 0 rfl) ?_
              obtain ⟨r17, h16, hf⟩ := b_bd1 hf
              refine r_callV X hw (k_X4_size hE (isS_of h12) h16) (spS0 hE (isS_of h12)) (C := RX4) (T := TX4) (N := 3) rfl qw730 qw731 qw732 qw78 qw733 okX4_size ⟨rfl, rfl⟩ ⟨(Nat.le_of_ble_eq_true rfl), (Nat.le_of_ble_eq_true rfl)⟩ ⟨Nat.zero_le _, Nat.zero_le _⟩ rfl hl.1 (rest := []) rfl (Nat.le_of_ble_eq_true rfl) dX7_tells_65 (st1 := [.int r17]) rfl (fun H locs hw => ?_)
              refine lv_bipush (v := 20) X.1 X.2.1 dX7_tells_68 (by decide) ?_
              refine lv_icmp_le (tgt := 76) X.1 X.2.1 dX7_tells_70 (by decide) (fun c18 => ?_) (fun c18 => ?_)
              · have hf := if_t hf c18
                refine lv_iload X.1 X.2.1 dX7_tells_76 (lv_at hl 5 rfl) ?_
                by_cases c19 : x4 = 0
                · have hf := if_t hf c19
                  refine lv_tableIn (x := x4) (tgt := 120) (off := 42) X.1 X.2.1 dX7_tells_78 (by rw [c19]; decide) (by rw [c19]; decide) (by rw [c19]; decide) (by decide) ?_
                  refine lv_aload_n X.1 X.2.1 dX7_tells_120 rfl (lv_at hl 1 rfl) ?_
                  refine lv_aload X.1 X.2.1 dX7_tells_121 (lv_at hl 0 rfl) ?_
                  refine lv_iload_n X.1 X.2.1 dX7_tells_123 rfl (lv_at hl 3 rfl) ?_
                  refine lv_bipush (v := 9) X.1 X.2.1 dX7_tells_124 (by decide) ?_
                  refine lv_iconst (v := (-1)) X.1 X.2.1 dX7_tells_126 (by decide) ?_
                  refine lv_iconst (v := (-1)) X.1 X.2.1 dX7_tells_127 (by decide) ?_
                  obtain ⟨r21, σ22, h20, hf⟩ := b_bd2 hf
                  refine r_callV X hw (k_X7_firstOtherwise hE (isS_of h12) h20) (sp0 hE) (C := RX7) (T := TX7) (N := 9) rfl qw734 qw736 qw22 qw67 qw737 okX7_firstOtherwise ⟨rfl, rfl⟩ ⟨(Nat.le_of_ble_eq_true rfl), (Nat.le_of_ble_eq_true rfl)⟩ ⟨Nat.zero_le _, Nat.zero_le _⟩ rfl hl.1 (rest := []) rfl (Nat.le_of_ble_eq_true rfl) dX7_tells_128 (st1 := [.int r21]) rfl (fun H locs hw => ?_)
                  obtain ⟨rfl, rfl⟩ := Prod.mk.inj (Option.some.inj hf)
                  exact r_iret X hw dX7_tells_131
                have hf := if_e hf c19
                by_cases c23 : x4 = 1
                · have hf := if_t hf c23
                  refine lv_tableIn (x := x4) (tgt := 132) (off := 54) X.1 X.2.1 dX7_tells_78 (by rw [c23]; decide) (by rw [c23]; decide) (by rw [c23]; decide) (by decide) ?_
                  refine lv_aload_n X.1 X.2.1 dX7_tells_132 rfl (lv_at hl 1 rfl) ?_
                  refine lv_aload X.1 X.2.1 dX7_tells_133 (lv_at hl 0 rfl) ?_
                  refine lv_iload_n X.1 X.2.1 dX7_tells_135 rfl (lv_at hl 3 rfl) ?_
                  refine lv_bipush (v := 7) X.1 X.2.1 dX7_tells_136 (by decide) ?_
                  refine lv_iload_n X.1 X.2.1 dX7_tells_138 rfl (lv_at hl 4 rfl) ?_
                  refine lv_bipush (v := 6) X.1 X.2.1 dX7_tells_139 (by decide) ?_
                  obtain ⟨r25, σ26, h24, hf⟩ := b_bd2 hf
                  refine r_callV X hw (k_X7_bitsThatFit hE (isS_of h12) h24) (sp0 hE) (C := RX7) (T := TX7) (N := 9) rfl qw746 qw748 qw23 qw67 qw749 okX7_bitsThatFit ⟨rfl, rfl⟩ ⟨(Nat.le_of_ble_eq_true rfl), (Nat.le_of_ble_eq_true rfl)⟩ ⟨Nat.zero_le _, Nat.zero_le _⟩ rfl hl.1 (rest := []) rfl (Nat.le_of_ble_eq_true rfl) dX7_tells_141 (st1 := [.int r25]) rfl (fun H locs hw => ?_)
                  obtain ⟨rfl, rfl⟩ := Prod.mk.inj (Option.some.inj hf)
                  exact r_iret X hw dX7_tells_144
                have hf := if_e hf c23
                by_cases c27 : x4 = 2
                · have hf := if_t hf c27
                  refine lv_tableIn (x := x4) (tgt := 145) (off := 67) X.1 X.2.1 dX7_tells_78 (by rw [c27]; decide) (by rw [c27]; decide) (by rw [c27]; decide) (by decide) ?_
                  refine lv_aload_n X.1 X.2.1 dX7_tells_145 rfl (lv_at hl 1 rfl) ?_
                  refine lv_aload X.1 X.2.1 dX7_tells_146 (lv_at hl 0 rfl) ?_
                  refine lv_iload_n X.1 X.2.1 dX7_tells_148 rfl (lv_at hl 3 rfl) ?_
                  refine lv_iconst (v := 1) X.1 X.2.1 dX7_tells_149 (by decide) ?_
                  refine lv_iload_n X.1 X.2.1 dX7_tells_150 rfl (lv_at hl 4 rfl) ?_
                  refine r_hi X hw qw458 dX7_tells_151 ?_
                  refine lv_iconst (v := 1) X.1 X.2.1 dX7_tells_154 (by decide) ?_
                  obtain ⟨h28, hf⟩ := b_ck hf
                  refine r_hild X hw h28 dX7_tells_155 ?_
                  refine lv_iconst (v := 1) X.1 X.2.1 dX7_tells_156 (by decide) ?_
                  refine lv_iadd X.1 X.2.1 dX7_tells_157 ?_
                  obtain ⟨r30, σ31, h29, hf⟩ := b_bd2 hf
                  refine r_callV X hw (k_X7_bitsThatFit hE (isS_of h12) h29) (sp0 hE) (C := RX7) (T := TX7) (N := 9) rfl qw746 qw748 qw23 qw67 qw749 okX7_bitsThatFit ⟨rfl, rfl⟩ ⟨(Nat.le_of_ble_eq_true rfl), (Nat.le_of_ble_eq_true rfl)⟩ ⟨Nat.zero_le _, Nat.zero_le _⟩ rfl hl.1 (rest := []) rfl (Nat.le_of_ble_eq_true rfl) dX7_tells_158 (st1 := [.int r30]) rfl (fun H locs hw => ?_)
                  obtain ⟨rfl, rfl⟩ := Prod.mk.inj (Option.some.inj hf)
                  exact r_iret X hw dX7_tells_161
                have hf := if_e hf c27
                by_cases c32 : x4 = 3
                · have hf := if_t hf c32
                  refine lv_tableIn (x := x4) (tgt := 162) (off := 84) X.1 X.2.1 dX7_tells_78 (by rw [c32]; decide) (by rw [c32]; decide) (by rw [c32]; decide) (by decide) ?_
                  refine lv_aload_n X.1 X.2.1 dX7_tells_162 rfl (lv_at hl 1 rfl) ?_
                  refine lv_aload X.1 X.2.1 dX7_tells_163 (lv_at hl 0 rfl) ?_
                  refine lv_iload_n X.1 X.2.1 dX7_tells_165 rfl (lv_at hl 3 rfl) ?_
                  refine lv_iload_n X.1 X.2.1 dX7_tells_166 rfl (lv_at hl 4 rfl) ?_
                  refine lv_iload X.1 X.2.1 dX7_tells_167 (lv_at hl 5 rfl) ?_
                  refine lv_iconst (v := 4) X.1 X.2.1 dX7_tells_169 (by decide) ?_
                  obtain ⟨v34, e35, hf⟩ := b_bnd hf
                  refine r_join (g2 := F0 m 178 ls [.int v34, .int x3, .int x2, .ref (eP E (61 + 2 * x1.toNatClampNeg)), .ref (eP E 0)]) ?_ (fun hj => ?_)
                  · obtain ⟨r37, σ38, h36, hf⟩ := b_bd2 hf
                    refine r_callV X hw (k_X7_tiredThatFits hE (isS_of h12) h36) (sp0 hE) (C := RX7) (T := TX7) (N := 9) rfl qw750 qw752 qw24 qw67 qw753 okX7_tiredThatFits ⟨rfl, rfl⟩ ⟨(Nat.le_of_ble_eq_true rfl), (Nat.le_of_ble_eq_true rfl)⟩ ⟨Nat.zero_le _, Nat.zero_le _⟩ rfl hl.1 (rest := []) rfl (Nat.le_of_ble_eq_true rfl) dX7_tells_178 (st1 := [.int r37]) rfl (fun H locs hw => ?_)
                    obtain ⟨rfl, rfl⟩ := Prod.mk.inj (Option.some.inj hf)
                    exact r_iret X hw dX7_tells_181
                  · refine lv_icmp_ne (tgt := 177) X.1 X.2.1 dX7_tells_170 (by decide) (fun c33 => ?_) (fun c33 => ?_)
                    · rw [e35, if_neg c33] at hj
                      refine lv_iconst (v := 0) X.1 X.2.1 dX7_tells_177 (by decide) ?_
                      exact hj
                    · rw [e35, if_pos c33] at hj
                      refine lv_iconst (v := 1) X.1 X.2.1 dX7_tells_173 (by decide) ?_
                      refine lv_goto (tgt := 178) X.1 X.2.1 dX7_tells_174 (by decide) ?_
                      exact hj
                have hf := if_e hf c32
                by_cases c39 : x4 = 4
                · have hf := if_t hf c39
                  refine lv_tableIn (x := x4) (tgt := 162) (off := 84) X.1 X.2.1 dX7_tells_78 (by rw [c39]; decide) (by rw [c39]; decide) (by rw [c39]; decide) (by decide) ?_
                  refine lv_aload_n X.1 X.2.1 dX7_tells_162 rfl (lv_at hl 1 rfl) ?_
                  refine lv_aload X.1 X.2.1 dX7_tells_163 (lv_at hl 0 rfl) ?_
                  refine lv_iload_n X.1 X.2.1 dX7_tells_165 rfl (lv_at hl 3 rfl) ?_
                  refine lv_iload_n X.1 X.2.1 dX7_tells_166 rfl (lv_at hl 4 rfl) ?_
                  refine lv_iload X.1 X.2.1 dX7_tells_167 (lv_at hl 5 rfl) ?_
                  refine lv_iconst (v := 4) X.1 X.2.1 dX7_tells_169 (by decide) ?_
                  obtain ⟨v41, e42, hf⟩ := b_bnd hf
                  refine r_join (g2 := F0 m 178 ls [.int v41, .int x3, .int x2, .ref (eP E (61 + 2 * x1.toNatClampNeg)), .ref (eP E 0)]) ?_ (fun hj => ?_)
                  · obtain ⟨r44, σ45, h43, hf⟩ := b_bd2 hf
                    refine r_callV X hw (k_X7_tiredThatFits hE (isS_of h12) h43) (sp0 hE) (C := RX7) (T := TX7) (N := 9) rfl qw750 qw752 qw24 qw67 qw753 okX7_tiredThatFits ⟨rfl, rfl⟩ ⟨(Nat.le_of_ble_eq_true rfl), (Nat.le_of_ble_eq_true rfl)⟩ ⟨Nat.zero_le _, Nat.zero_le _⟩ rfl hl.1 (rest := []) rfl (Nat.le_of_ble_eq_true rfl) dX7_tells_178 (st1 := [.int r44]) rfl (fun H locs hw => ?_)
                    obtain ⟨rfl, rfl⟩ := Prod.mk.inj (Option.some.inj hf)
                    exact r_iret X hw dX7_tells_181
                  · refine lv_icmp_ne (tgt := 177) X.1 X.2.1 dX7_tells_170 (by decide) (fun c40 => ?_) (fun c40 => ?_)
                    · rw [e42, if_neg c40] at hj
                      refine lv_iconst (v := 0) X.1 X.2.1 dX7_tells_177 (by decide) ?_
                      exact hj
                    · rw [e42, if_pos c40] at hj
                      refine lv_iconst (v := 1) X.1 X.2.1 dX7_tells_173 (by decide) ?_
                      refine lv_goto (tgt := 178) X.1 X.2.1 dX7_tells_174 (by decide) ?_
                      exact hj
                have hf := if_e hf c39
                by_cases c46 : x4 = 5
                · have hf := if_t hf c46
                  refine lv_tableIn (x := x4) (tgt := 182) (off := 104) X.1 X.2.1 dX7_tells_78 (by rw [c46]; decide) (by rw [c46]; decide) (by rw [c46]; decide) (by decide) ?_
                  refine lv_aload_n X.1 X.2.1 dX7_tells_182 rfl (lv_at hl 1 rfl) ?_
                  refine lv_aload X.1 X.2.1 dX7_tells_183 (lv_at hl 0 rfl) ?_
                  refine lv_iload_n X.1 X.2.1 dX7_tells_185 rfl (lv_at hl 3 rfl) ?_
                  refine lv_iconst (v := 2) X.1 X.2.1 dX7_tells_186 (by decide) ?_
                  refine lv_iload_n X.1 X.2.1 dX7_tells_187 rfl (lv_at hl 3 rfl) ?_
                  refine lv_bipush (v := 24) X.1 X.2.1 dX7_tells_188 (by decide) ?_
                  obtain ⟨r48, σ49, h47, hf⟩ := b_bd2 hf
                  refine r_callV X hw (k_X7_bitsThatFit hE (isS_of h12) h47) (sp0 hE) (C := RX7) (T := TX7) (N := 9) rfl qw746 qw748 qw23 qw67 qw749 okX7_bitsThatFit ⟨rfl, rfl⟩ ⟨(Nat.le_of_ble_eq_true rfl), (Nat.le_of_ble_eq_true rfl)⟩ ⟨Nat.zero_le _, Nat.zero_le _⟩ rfl hl.1 (rest := []) rfl (Nat.le_of_ble_eq_true rfl) dX7_tells_190 (st1 := [.int r48]) rfl (fun H locs hw => ?_)
                  obtain ⟨rfl, rfl⟩ := Prod.mk.inj (Option.some.inj hf)
                  exact r_iret X hw dX7_tells_193
                have hf := if_e hf c46
                by_cases c50 : x4 = 6
                · have hf := if_t hf c50
                  refine lv_tableIn (x := x4) (tgt := 194) (off := 116) X.1 X.2.1 dX7_tells_78 (by rw [c50]; decide) (by rw [c50]; decide) (by rw [c50]; decide) (by decide) ?_
                  refine lv_aload_n X.1 X.2.1 dX7_tells_194 rfl (lv_at hl 1 rfl) ?_
                  refine lv_aload X.1 X.2.1 dX7_tells_195 (lv_at hl 0 rfl) ?_
                  refine lv_iload_n X.1 X.2.1 dX7_tells_197 rfl (lv_at hl 3 rfl) ?_
                  refine lv_bipush (v := 8) X.1 X.2.1 dX7_tells_198 (by decide) ?_
                  refine lv_iconst (v := (-1)) X.1 X.2.1 dX7_tells_200 (by decide) ?_
                  refine lv_aload_n X.1 X.2.1 dX7_tells_201 rfl (lv_at hl 1 rfl) ?_
                  refine r_get X hw (sp0 hE) (C := RX7) (T := TX7) (N := 9) rfl iwX7 0 (by decide) (Nat.le_of_ble_eq_true rfl) qw418 (v := .ref (eP E 6)) rfl dX7_tells_202 ?_
                  obtain ⟨r52, h51, hf⟩ := b_bd1 hf
                  refine r_callV X hw (k_X3_many hR  h51) (sp6 hR) (C := RX3) (T := TX3) (N := 4) rfl qw595 qw596 qw597 qw69 qw598 okX3_many ⟨rfl, rfl⟩ ⟨(Nat.le_of_ble_eq_true rfl), (Nat.le_of_ble_eq_true rfl)⟩ ⟨Nat.zero_le _, Nat.zero_le _⟩ rfl hl.1 (rest := [.int (-1), .int 8, .int x2, .ref (eP E (61 + 2 * x1.toNatClampNeg)), .ref (eP E 0)]) rfl (Nat.le_of_ble_eq_true rfl) dX7_tells_205 (st1 := [.int r52, .int (-1), .int 8, .int x2, .ref (eP E (61 + 2 * x1.toNatClampNeg)), .ref (eP E 0)]) rfl (fun H locs hw => ?_)
                  obtain ⟨r54, σ55, h53, hf⟩ := b_bd2 hf
                  refine r_callV X hw (k_X7_bitsThatFit hE (isS_of h12) h53) (sp0 hE) (C := RX7) (T := TX7) (N := 9) rfl qw746 qw748 qw23 qw67 qw749 okX7_bitsThatFit ⟨rfl, rfl⟩ ⟨(Nat.le_of_ble_eq_true rfl), (Nat.le_of_ble_eq_true rfl)⟩ ⟨Nat.zero_le _, Nat.zero_le _⟩ rfl hl.1 (rest := []) rfl (Nat.le_of_ble_eq_true rfl) dX7_tells_208 (st1 := [.int r54]) rfl (fun H locs hw => ?_)
                  obtain ⟨rfl, rfl⟩ := Prod.mk.inj (Option.some.inj hf)
                  exact r_iret X hw dX7_tells_211
                have hf := if_e hf c50
                have c19t := lv_neT (a := 0) c19 (by decide)
                have c23t := lv_neT (a := 1) c23 (by decide)
                have c27t := lv_neT (a := 2) c27 (by decide)
                have c32t := lv_neT (a := 3) c32 (by decide)
                have c39t := lv_neT (a := 4) c39 (by decide)
                have c46t := lv_neT (a := 5) c46 (by decide)
                have c50t := lv_neT (a := 6) c50 (by decide)
                refine lv_tableOut (x := x4) (tgt := 212) X.1 X.2.1 dX7_tells_78 (by omega) (by decide) ?_
                refine lv_aload_n X.1 X.2.1 dX7_tells_212 rfl (lv_at hl 1 rfl) ?_
                refine lv_aload X.1 X.2.1 dX7_tells_213 (lv_at hl 0 rfl) ?_
                obtain ⟨r57, σ58, h56, hf⟩ := b_bd2 hf
                refine r_callV X hw (k_X7_peopleThatFit hE (isS_of h12) h56) (sp0 hE) (C := RX7) (T := TX7) (N := 9) rfl qw762 qw764 qw25 qw67 qw765 okX7_peopleThatFit ⟨rfl, rfl⟩ ⟨(Nat.le_of_ble_eq_true rfl), (Nat.le_of_ble_eq_true rfl)⟩ ⟨Nat.zero_le _, Nat.zero_le _⟩ rfl hl.1 (rest := []) rfl (Nat.le_of_ble_eq_true rfl) dX7_tells_215 (st1 := [.int r57]) rfl (fun H locs hw => ?_)
                obtain ⟨rfl, rfl⟩ := Prod.mk.inj (Option.some.inj hf)
                exact r_iret X hw dX7_tells_218
              · have hf := if_e hf c18
                refine lv_bipush (v := (-2)) X.1 X.2.1 dX7_tells_73 (by decide) ?_
                obtain ⟨rfl, rfl⟩ := Prod.mk.inj (Option.some.inj hf)
                exact r_iret X hw dX7_tells_75
            · have hf := if_e hf c15
              refine lv_bipush (v := (-11)) X.1 X.2.1 dX7_tells_60 (by decide) ?_
              obtain ⟨rfl, rfl⟩ := Prod.mk.inj (Option.some.inj hf)
              exact r_iret X hw dX7_tells_62
          · have hf := if_e hf c11
            refine lv_bipush (v := (-2)) X.1 X.2.1 dX7_tells_41 (by decide) ?_
            obtain ⟨rfl, rfl⟩ := Prod.mk.inj (Option.some.inj hf)
            exact r_iret X hw dX7_tells_43
abbrev rm_X7_film : Room := { frames := 6, cells := 0, slots := 0, locals := 201 }
set_option maxHeartbeats 4000000 in
set_option maxRecDepth 100000 in
theorem w_X7_film_60 {p : Program} {l : Launch} {e : Env} {s : State} {m : MethodId} {args : Array Value} {below : List Frame} {meth : Method} {c : Code} {Q : State → Prop} {E : en_T} (X : Cx E p s m args meth c cX7_film 6 RX7 (some .int)) (hE : ShF E) {u1 : Int32} {u2 : Int32} {u3 : Int32} {o54 : Nat} (ho54 : isS o54)  {res : Int32 × sg_T} :
    ∀ (n : Nat) (w5 : Int32) (σ : sg_T), itr (fun q => b_X7_film_60 u1 u2 u3 o54 q.1 q.2) n (w5, σ) = some res → ∀ (H : Heap) (locs : List Loc) (ls : Array Slot), Hw E σ s H locs → lv_has ls 6 [(0, .ref (eP E 0)), (1, .int u1), (2, .int u2), (3, .int u3), (4, .ref (eP E o54)), (5, .int w5)] →
    (∀ (y5 : Int32) (τ : sg_T), res = (y5, τ) → ∀ (H : Heap) (locs : List Loc) (ls : Array Slot), Hw E τ s H locs → lv_has ls 6 [(0, .ref (eP E 0)), (1, .int u1), (2, .int u2), (3, .int u3), (4, .ref (eP E o54)), (5, .int y5)] → W p l e rm_X7_film s m args below meth c H locs 0 0 Q (F0 m 109 ls [])) →
    W p l e rm_X7_film s m args below meth c H locs 0 0 Q (F0 m 60 ls []) := by
  have hR : ShR E := hE.r
  intro n
  induction n with
  | zero =>
    intro w5 σ hf0
    exact (itr_0 hf0).elim
  | succ n ih =>
    intro w5 σ hf0 H locs ls hw hl K1
    obtain ⟨r0, hf, hr1, hr2⟩ := itr_s hf0
    have hf : b_X7_film_60 u1 u2 u3 o54 w5 σ = some r0 := hf
    unfold b_X7_film_60 at hf
    refine lv_iload X.1 X.2.1 dX7_film_60 (lv_at hl 5 rfl) ?_
    refine lv_iload_n X.1 X.2.1 dX7_film_62 rfl (lv_at hl 3 rfl) ?_
    refine lv_icmp_ge (tgt := 109) X.1 X.2.1 dX7_film_63 (by decide) (fun c14 => ?_) (fun c14 => ?_)
    · have hf := if_t hf c14
      obtain rfl := Option.some.inj hf
      obtain rfl := hr2 _ rfl
      exact K1 _ _ rfl _ _ _ hw (lv_sub hl [0, 1, 2, 3, 4, 5] rfl)
    · have hf := if_e hf c14
      refine lv_aload_n X.1 X.2.1 dX7_film_66 rfl (lv_at hl 0 rfl) ?_
      refine r_get X hw (sp0 hE) (C := RX7) (T := TX7) (N := 9) rfl iwX7 2 (by decide) (Nat.le_of_ble_eq_true rfl) qw420 (v := .ref (eP E 28)) rfl dX7_film_67 ?_
      refine lv_aload_n X.1 X.2.1 dX7_film_70 rfl (lv_at hl 0 rfl) ?_
      refine r_get X hw (sp0 hE) (C := RX7) (T := TX7) (N := 9) rfl iwX7 4 (by decide) (Nat.le_of_ble_eq_true rfl) qw422 (v := .ref (eP E 42)) rfl dX7_film_71 ?_
      obtain ⟨σ16, h15, hf⟩ := b_bd1 hf
      refine r_callV X hw (k_X0_dawn hE (Or.inr (Or.inl rfl)) h15) (sp28 hE) (C := RX0) (T := TX0) (N := 6) rfl qw605 qw606 qw607 qw75 qw608 okX0_dawn ⟨rfl, rfl⟩ ⟨(Nat.le_of_ble_eq_true rfl), (Nat.le_of_ble_eq_true rfl)⟩ ⟨Nat.zero_le _, Nat.zero_le _⟩ rfl hl.1 (rest := []) rfl (Nat.le_of_ble_eq_true rfl) dX7_film_74 (st1 := []) rfl (fun H locs hw => ?_)
      refine lv_aload X.1 X.2.1 dX7_film_77 (lv_at hl 4 rfl) ?_
      refine lv_iload X.1 X.2.1 dX7_film_79 (lv_at hl 5 rfl) ?_
      refine lv_aload_n X.1 X.2.1 dX7_film_81 rfl (lv_at hl 0 rfl) ?_
      refine r_get X hw (sp0 hE) (C := RX7) (T := TX7) (N := 9) rfl iwX7 2 (by decide) (Nat.le_of_ble_eq_true rfl) qw420 (v := .ref (eP E 28)) rfl dX7_film_82 ?_
      refine lv_iload_n X.1 X.2.1 dX7_film_85 rfl (lv_at hl 2 rfl) ?_
      obtain ⟨r18, h17, hf⟩ := b_bd1 hf
      refine r_callV X hw (k_X0_hour hE  h17) (sp28 hE) (C := RX0) (T := TX0) (N := 6) rfl qw738 qw739 qw740 qw75 qw741 okX0_hour ⟨rfl, rfl⟩ ⟨(Nat.le_of_ble_eq_true rfl), (Nat.le_of_ble_eq_true rfl)⟩ ⟨Nat.zero_le _, Nat.zero_le _⟩ rfl hl.1 (rest := [.int w5, .ref (eP E o54)]) rfl (Nat.le_of_ble_eq_true rfl) dX7_film_86 (st1 := [.int r18, .int w5, .ref (eP E o54)]) rfl (fun H locs hw => ?_)
      obtain ⟨σ20, h19, hf⟩ := b_bd1 hf
      refine r_callV X hw (k_X4_put hE ho54 h19) (spS0 hE ho54) (C := RX4) (T := TX4) (N := 3) rfl qw775 qw776 qw777 qw78 qw778 okX4_put ⟨rfl, rfl⟩ ⟨(Nat.le_of_ble_eq_true rfl), (Nat.le_of_ble_eq_true rfl)⟩ ⟨Nat.zero_le _, Nat.zero_le _⟩ rfl hl.1 (rest := []) rfl (Nat.le_of_ble_eq_true rfl) dX7_film_89 (st1 := []) rfl (fun H locs hw => ?_)
      refine lv_aload_n X.1 X.2.1 dX7_film_92 rfl (lv_at hl 0 rfl) ?_
      refine r_get X hw (sp0 hE) (C := RX7) (T := TX7) (N := 9) rfl iwX7 2 (by decide) (Nat.le_of_ble_eq_true rfl) qw420 (v := .ref (eP E 28)) rfl dX7_film_93 ?_
      refine lv_aload_n X.1 X.2.1 dX7_film_96 rfl (lv_at hl 0 rfl) ?_
      refine r_get X hw (sp0 hE) (C := RX7) (T := TX7) (N := 9) rfl iwX7 4 (by decide) (Nat.le_of_ble_eq_true rfl) qw422 (v := .ref (eP E 42)) rfl dX7_film_97 ?_
      obtain ⟨σ22, h21, hf⟩ := b_bd1 hf
      refine r_callV X hw (k_X0_settle hE (Or.inr (Or.inl rfl)) h21) (sp28 hE) (C := RX0) (T := TX0) (N := 6) rfl qw615 qw616 qw617 qw75 qw618 okX0_settle ⟨rfl, rfl⟩ ⟨(Nat.le_of_ble_eq_true rfl), (Nat.le_of_ble_eq_true rfl)⟩ ⟨Nat.zero_le _, Nat.zero_le _⟩ rfl hl.1 (rest := []) rfl (Nat.le_of_ble_eq_true rfl) dX7_film_100 (st1 := []) rfl (fun H locs hw => ?_)
      obtain ⟨v23, e24, hf⟩ := b_bnd hf
      refine lv_iinc (v := v23) (k := 5) (lv' := [(5, .int v23), (0, .ref (eP E 0)), (1, .int u1), (2, .int u2), (3, .int u3), (4, .ref (eP E o54))]) X.1 X.2.1 dX7_film_103 hl rfl (by rw [e24]; exact congrArg _ (by decide)) (by decide) rfl (fun ls hl => ?_)
      refine lv_goto (tgt := 60) X.1 X.2.1 dX7_film_106 (by decide) ?_
      obtain rfl := Option.some.inj hf
      exact ih _ _ (hr1 _ rfl) _ _ _ hw (lv_sub hl [1, 2, 3, 4, 5, 0] rfl) K1
set_option maxHeartbeats 4000000 in
set_option maxRecDepth 100000 in
theorem k_X7_film {l : Launch} {E : en_T} (hE : ShF E) {x1 : Int32} {x2 : Int32} {x3 : Int32} {σ : sg_T} {r : Int32} {σ' : sg_T} (hf : f_X7_film x1 x2 x3 σ = some (r, σ')) : Ct l yX7_film cX7_film 6 (some .int) rm_X7_film E [.ref (eP E 0), .int x1, .int x2, .int x3] σ (some (.int r)) σ' := by
  refine Ct.start (by decide) hE.1 (Nat.le_of_ble_eq_true rfl) ?_
  intro p e s m below meth c X hw ls hl
  have X : Cx E p s m _ meth c cX7_film 6 RX7 (some .int) := X
  have hR : ShR E := hE.r
  have hl : lv_has ls 6 [(0, .ref (eP E 0)), (1, .int x1), (2, .int x2), (3, .int x3)] := hl
  unfold f_X7_film at hf
  refine lv_iload_n X.1 X.2.1 dX7_film_0 rfl (lv_at hl 1 rfl) ?_
  obtain ⟨r2, h1, hf⟩ := b_bd1 hf
  refine r_callS X hw (k_X7_isSheet hE  h1) qw723 qw724 qw67 qw725 okX7_isSheet ⟨rfl, rfl⟩ ⟨(Nat.le_of_ble_eq_true rfl), (Nat.le_of_ble_eq_true rfl)⟩ ⟨Nat.zero_le _, Nat.zero_le _⟩ rfl hl.1 (rest := []) rfl (Nat.le_of_ble_eq_true rfl) dX7_film_1 (st1 := [.int r2]) rfl (fun H locs hw => ?_)
  refine lv_if_eq (tgt := 28) X.1 X.2.1 dX7_film_4 (by decide) (fun c3 => ?_) (fun c3 => ?_)
  · have hf := if_t hf c3
    refine lv_bipush (v := (-2)) X.1 X.2.1 dX7_film_28 (by decide) ?_
    obtain ⟨rfl, rfl⟩ := Prod.mk.inj (Option.some.inj hf)
    exact r_iret X hw dX7_film_30
  · have hf := if_e hf c3
    refine lv_aload_n X.1 X.2.1 dX7_film_7 rfl (lv_at hl 0 rfl) ?_
    refine r_get X hw (sp0 hE) (C := RX7) (T := TX7) (N := 9) rfl iwX7 3 (by decide) (Nat.le_of_ble_eq_true rfl) qw421 (v := .ref (eP E 34)) rfl dX7_film_8 ?_
    refine lv_iload_n X.1 X.2.1 dX7_film_11 rfl (lv_at hl 2 rfl) ?_
    obtain ⟨r5, h4, hf⟩ := b_bd1 hf
    refine r_callV X hw (k_X1_has hE (Or.inl rfl) h4) (spP0 hE (Or.inl rfl)) (C := RX1) (T := TX1) (N := 10) rfl qw489 qw455 qw456 qw76 qw457 okX1_has ⟨rfl, rfl⟩ ⟨(Nat.le_of_ble_eq_true rfl), (Nat.le_of_ble_eq_true rfl)⟩ ⟨Nat.zero_le _, Nat.zero_le _⟩ rfl hl.1 (rest := []) rfl (Nat.le_of_ble_eq_true rfl) dX7_film_12 (st1 := [.int r5]) rfl (fun H locs hw => ?_)
    refine lv_if_eq (tgt := 28) X.1 X.2.1 dX7_film_15 (by decide) (fun c6 => ?_) (fun c6 => ?_)
    · have hf := if_t hf c6
      refine lv_bipush (v := (-2)) X.1 X.2.1 dX7_film_28 (by decide) ?_
      obtain ⟨rfl, rfl⟩ := Prod.mk.inj (Option.some.inj hf)
      exact r_iret X hw dX7_film_30
    · have hf := if_e hf c6
      refine lv_iload_n X.1 X.2.1 dX7_film_18 rfl (lv_at hl 3 rfl) ?_
      refine lv_if_lt (tgt := 28) X.1 X.2.1 dX7_film_19 (by decide) (fun c7 => ?_) (fun c7 => ?_)
      · have hf := if_t hf c7
        refine lv_bipush (v := (-2)) X.1 X.2.1 dX7_film_28 (by decide) ?_
        obtain ⟨rfl, rfl⟩ := Prod.mk.inj (Option.some.inj hf)
        exact r_iret X hw dX7_film_30
      · have hf := if_e hf c7
        refine lv_iload_n X.1 X.2.1 dX7_film_22 rfl (lv_at hl 3 rfl) ?_
        refine lv_bipush (v := 20) X.1 X.2.1 dX7_film_23 (by decide) ?_
        refine lv_icmp_le (tgt := 31) X.1 X.2.1 dX7_film_25 (by decide) (fun c8 => ?_) (fun c8 => ?_)
        · have hf := if_t hf c8
          refine lv_aload_n X.1 X.2.1 dX7_film_31 rfl (lv_at hl 0 rfl) ?_
          refine r_get X hw (sp0 hE) (C := RX7) (T := TX7) (N := 9) rfl iwX7 7 (by decide) (Nat.le_of_ble_eq_true rfl) qw425 (v := .ref (eP E 60)) rfl dX7_film_32 ?_
          refine lv_iload_n X.1 X.2.1 dX7_film_35 rfl (lv_at hl 1 rfl) ?_
          obtain ⟨h9, hf⟩ := b_ck hf
          refine r_aaldS X hw (sp60 hE) (q := (61 + 2 * x1.toNatClampNeg)) h9 (tqs h9) dX7_film_36 ?_
          refine lv_astore (lv' := [(4, .ref (eP E (61 + 2 * x1.toNatClampNeg))), (0, .ref (eP E 0)), (1, .int x1), (2, .int x2), (3, .int x3)]) X.1 X.2.1 dX7_film_37 hl (by decide) rfl (fun ls hl => ?_)
          refine lv_aload X.1 X.2.1 dX7_film_39 (lv_at hl 0 rfl) ?_
          refine lv_iconst (v := 0) X.1 X.2.1 dX7_film_41 (by decide) ?_
          refine lv_iload_n X.1 X.2.1 dX7_film_42 rfl (lv_at hl 4 rfl) ?_
          obtain ⟨σ11, h10, hf⟩ := b_bd1 hf
          refine r_callV X hw (k_X4_become hE (isS_of h9) h10) (spS0 hE (isS_of h9)) (C := RX4) (T := TX4) (N := 3) rfl qw770 qw771 qw772 qw78 qw773 okX4_become ⟨rfl, rfl⟩ ⟨(Nat.le_of_ble_eq_true rfl), (Nat.le_of_ble_eq_true rfl)⟩ ⟨Nat.zero_le _, Nat.zero_le _⟩ rfl hl.1 (rest := []) rfl (Nat.le_of_ble_eq_true rfl) dX7_film_43 (st1 := []) rfl (fun H locs hw => ?_)
          refine lv_aload_n X.1 X.2.1 dX7_film_46 rfl (lv_at hl 1 rfl) ?_
          refine r_get X hw (sp0 hE) (C := RX7) (T := TX7) (N := 9) rfl iwX7 4 (by decide) (Nat.le_of_ble_eq_true rfl) qw422 (v := .ref (eP E 42)) rfl dX7_film_47 ?_
          refine lv_aload_n X.1 X.2.1 dX7_film_50 rfl (lv_at hl 1 rfl) ?_
          refine r_get X hw (sp0 hE) (C := RX7) (T := TX7) (N := 9) rfl iwX7 3 (by decide) (Nat.le_of_ble_eq_true rfl) qw421 (v := .ref (eP E 34)) rfl dX7_film_51 ?_
          obtain ⟨σ13, h12, hf⟩ := b_bd1 hf
          refine r_callV X hw (k_X1_copyFrom hE (Or.inr (Or.inl rfl)) (Or.inl rfl) h12) (spP0 hE (Or.inr (Or.inl rfl))) (C := RX1) (T := TX1) (N := 10) rfl qw647 qw648 qw649 qw76 qw650 okX1_copyFrom ⟨rfl, rfl⟩ ⟨(Nat.le_of_ble_eq_true rfl), (Nat.le_of_ble_eq_true rfl)⟩ ⟨Nat.zero_le _, Nat.zero_le _⟩ rfl hl.1 (rest := []) rfl (Nat.le_of_ble_eq_true rfl) dX7_film_54 (st1 := []) rfl (fun H locs hw => ?_)
          refine lv_iconst (v := 0) X.1 X.2.1 dX7_film_57 (by decide) ?_
          refine lv_istore (lv' := [(5, .int 0), (4, .ref (eP E (61 + 2 * x1.toNatClampNeg))), (0, .ref (eP E 0)), (1, .int x1), (2, .int x2), (3, .int x3)]) X.1 X.2.1 dX7_film_58 hl (by decide) rfl (fun ls hl => ?_)
          obtain ⟨v26, σ27, h25, hf⟩ := b_bd2 hf
          refine w_X7_film_60 X hE (isS_of h9) lfu _ _ h25 _ _ _ hw (lv_sub hl [2, 3, 4, 5, 1, 0] rfl) (fun yv26 yσ27 hq H locs ls hw hl => ?_)
          cases hq
          refine lv_iload_n X.1 X.2.1 dX7_film_109 rfl (lv_at hl 3 rfl) ?_
          obtain ⟨rfl, rfl⟩ := Prod.mk.inj (Option.some.inj hf)
          exact r_iret X hw dX7_film_110
        · have hf := if_e hf c8
          refine lv_bipush (v := (-2)) X.1 X.2.1 dX7_film_28 (by decide) ?_
          obtain ⟨rfl, rfl⟩ := Prod.mk.inj (Option.some.inj hf)
          exact r_iret X hw dX7_film_30
abbrev rm_X7_missedWhenDrawn : Room := { frames := 6, cells := 0, slots := 0, locals := 201 }
set_option maxHeartbeats 4000000 in
set_option maxRecDepth 100000 in
theorem w_X7_missedWhenDrawn_16 {p : Program} {l : Launch} {e : Env} {s : State} {m : MethodId} {args : Array Value} {below : List Frame} {meth : Method} {c : Code} {Q : State → Prop} {E : en_T} (X : Cx E p s m args meth c cX7_missedWhenDrawn 7 RX7 (some .int)) (hE : ShF E) {u1 : Int32} {u2 : Int32}  {res : Int32 × Int32 × sg_T} :
    ∀ (n : Nat) (w3 : Int32) (w4 : Int32) (σ : sg_T), itr (fun q => b_X7_missedWhenDrawn_16 u1 u2 q.1 q.2.1 q.2.2) n (w3, w4, σ) = some res → ∀ (H : Heap) (locs : List Loc) (ls : Array Slot), Hw E σ s H locs → lv_has ls 7 [(0, .ref (eP E 0)), (1, .int u1), (2, .int u2), (3, .int w3), (4, .int w4)] →
    (∀ (y3 : Int32) (y4 : Int32) (τ : sg_T), res = (y3, y4, τ) → ∀ (H : Heap) (locs : List Loc) (ls : Array Slot), Hw E τ s H locs → lv_has ls 7 [(0, .ref (eP E 0)), (1, .int u1), (2, .int u2), (3, .int y3), (4, .int y4)] → W p l e rm_X7_missedWhenDrawn s m args below meth c H locs 0 0 Q (F0 m 97 ls [])) →
    W p l e rm_X7_missedWhenDrawn s m args below meth c H locs 0 0 Q (F0 m 16 ls []) := by
  have hR : ShR E := hE.r
  intro n
  induction n with
  | zero =>
    intro w3 w4 σ hf0
    exact (itr_0 hf0).elim
  | succ n ih =>
    intro w3 w4 σ hf0 H locs ls hw hl K1
    obtain ⟨r0, hf, hr1, hr2⟩ := itr_s hf0
    have hf : b_X7_missedWhenDrawn_16 u1 u2 w3 w4 σ = some r0 := hf
    unfold b_X7_missedWhenDrawn_16 at hf
    refine lv_iload X.1 X.2.1 dX7_missedWhenDrawn_16 (lv_at hl 4 rfl) ?_
    refine lv_iload_n X.1 X.2.1 dX7_missedWhenDrawn_18 rfl (lv_at hl 2 rfl) ?_
    refine lv_icmp_ge (tgt := 97) X.1 X.2.1 dX7_missedWhenDrawn_19 (by decide) (fun c3 => ?_) (fun c3 => ?_)
    · have hf := if_t hf c3
      obtain rfl := Option.some.inj hf
      obtain rfl := hr2 _ rfl
      exact K1 _ _ _ rfl _ _ _ hw (lv_sub hl [0, 1, 2, 3, 4] rfl)
    · have hf := if_e hf c3
      refine lv_iload_n X.1 X.2.1 dX7_missedWhenDrawn_22 rfl (lv_at hl 3 rfl) ?_
      refine lv_ldc (v := 1103515245) X.1 X.2.1 X.2.2.2.1 (X.2.2.2.2.1 _ qw787) dX7_missedWhenDrawn_23 ?_
      refine lv_imul X.1 X.2.1 dX7_missedWhenDrawn_25 ?_
      refine lv_sipush (v := 12345) X.1 X.2.1 dX7_missedWhenDrawn_26 (by decide) ?_
      refine lv_iadd X.1 X.2.1 dX7_missedWhenDrawn_29 ?_
      refine r_bnd hf (fun v4 hf => ?_)
      refine lv_istore (lv' := [(5, .int v4), (0, .ref (eP E 0)), (1, .int u1), (2, .int u2), (3, .int w3), (4, .int w4)]) X.1 X.2.1 dX7_missedWhenDrawn_30 hl (by decide) rfl (fun ls hl => ?_)
      refine lv_iload X.1 X.2.1 dX7_missedWhenDrawn_32 (lv_at hl 0 rfl) ?_
      refine lv_ldc (v := 1103515245) X.1 X.2.1 X.2.2.2.1 (X.2.2.2.2.1 _ qw787) dX7_missedWhenDrawn_34 ?_
      refine lv_imul X.1 X.2.1 dX7_missedWhenDrawn_36 ?_
      refine lv_sipush (v := 12345) X.1 X.2.1 dX7_missedWhenDrawn_37 (by decide) ?_
      refine lv_iadd X.1 X.2.1 dX7_missedWhenDrawn_40 ?_
      refine r_bnd hf (fun v5 hf => ?_)
      refine lv_istore (lv' := [(6, .int v5), (5, .int v4), (0, .ref (eP E 0)), (1, .int u1), (2, .int u2), (3, .int w3), (4, .int w4)]) X.1 X.2.1 dX7_missedWhenDrawn_41 hl (by decide) rfl (fun ls hl => ?_)
      refine lv_iload X.1 X.2.1 dX7_missedWhenDrawn_43 (lv_at hl 0 rfl) ?_
      refine lv_istore_n (lv' := [(3, .int v5), (6, .int v5), (5, .int v4), (0, .ref (eP E 0)), (1, .int u1), (2, .int u2), (4, .int w4)]) X.1 X.2.1 dX7_missedWhenDrawn_45 rfl hl (by decide) rfl (fun ls hl => ?_)
      refine lv_aload_n X.1 X.2.1 dX7_missedWhenDrawn_46 rfl (lv_at hl 3 rfl) ?_
      refine r_get X hw (sp0 hE) (C := RX7) (T := TX7) (N := 9) rfl iwX7 4 (by decide) (Nat.le_of_ble_eq_true rfl) qw422 (v := .ref (eP E 42)) rfl dX7_missedWhenDrawn_47 ?_
      refine lv_iload X.1 X.2.1 dX7_missedWhenDrawn_50 (lv_at hl 2 rfl) ?_
      refine lv_bipush (v := 9) X.1 X.2.1 dX7_missedWhenDrawn_52 (by decide) ?_
      refine r_iushr X dX7_missedWhenDrawn_54 ?_
      refine lv_bipush (v := 8) X.1 X.2.1 dX7_missedWhenDrawn_55 (by decide) ?_
      refine r_irem X dX7_missedWhenDrawn_57 (by decide) ?_
      refine lv_iload X.1 X.2.1 dX7_missedWhenDrawn_58 (lv_at hl 1 rfl) ?_
      refine lv_bipush (v := 9) X.1 X.2.1 dX7_missedWhenDrawn_60 (by decide) ?_
      refine r_iushr X dX7_missedWhenDrawn_62 ?_
      refine lv_bipush (v := 8) X.1 X.2.1 dX7_missedWhenDrawn_63 (by decide) ?_
      refine r_irem X dX7_missedWhenDrawn_65 (by decide) ?_
      obtain ⟨σ7, h6, hf⟩ := b_bd1 hf
      refine r_callV X hw (k_X1_quarrel hE (Or.inr (Or.inl rfl)) h6) (spP0 hE (Or.inr (Or.inl rfl))) (C := RX1) (T := TX1) (N := 10) rfl qw788 qw789 qw790 qw76 qw791 okX1_quarrel ⟨rfl, rfl⟩ ⟨(Nat.le_of_ble_eq_true rfl), (Nat.le_of_ble_eq_true rfl)⟩ ⟨Nat.zero_le _, Nat.zero_le _⟩ rfl hl.1 (rest := []) rfl (Nat.le_of_ble_eq_true rfl) dX7_missedWhenDrawn_66 (st1 := []) rfl (fun H locs hw => ?_)
      refine lv_aload_n X.1 X.2.1 dX7_missedWhenDrawn_69 rfl (lv_at hl 3 rfl) ?_
      refine r_get X hw (sp0 hE) (C := RX7) (T := TX7) (N := 9) rfl iwX7 2 (by decide) (Nat.le_of_ble_eq_true rfl) qw420 (v := .ref (eP E 28)) rfl dX7_missedWhenDrawn_70 ?_
      refine lv_aload_n X.1 X.2.1 dX7_missedWhenDrawn_73 rfl (lv_at hl 3 rfl) ?_
      refine r_get X hw (sp0 hE) (C := RX7) (T := TX7) (N := 9) rfl iwX7 4 (by decide) (Nat.le_of_ble_eq_true rfl) qw422 (v := .ref (eP E 42)) rfl dX7_missedWhenDrawn_74 ?_
      obtain ⟨σ9, h8, hf⟩ := b_bd1 hf
      refine r_callV X hw (k_X0_dawn hE (Or.inr (Or.inl rfl)) h8) (sp28 hE) (C := RX0) (T := TX0) (N := 6) rfl qw605 qw606 qw607 qw75 qw608 okX0_dawn ⟨rfl, rfl⟩ ⟨(Nat.le_of_ble_eq_true rfl), (Nat.le_of_ble_eq_true rfl)⟩ ⟨Nat.zero_le _, Nat.zero_le _⟩ rfl hl.1 (rest := []) rfl (Nat.le_of_ble_eq_true rfl) dX7_missedWhenDrawn_77 (st1 := []) rfl (fun H locs hw => ?_)
      refine lv_aload_n X.1 X.2.1 dX7_missedWhenDrawn_80 rfl (lv_at hl 3 rfl) ?_
      refine r_get X hw (sp0 hE) (C := RX7) (T := TX7) (N := 9) rfl iwX7 2 (by decide) (Nat.le_of_ble_eq_true rfl) qw420 (v := .ref (eP E 28)) rfl dX7_missedWhenDrawn_81 ?_
      refine lv_aload_n X.1 X.2.1 dX7_missedWhenDrawn_84 rfl (lv_at hl 3 rfl) ?_
      refine r_get X hw (sp0 hE) (C := RX7) (T := TX7) (N := 9) rfl iwX7 4 (by decide) (Nat.le_of_ble_eq_true rfl) qw422 (v := .ref (eP E 42)) rfl dX7_missedWhenDrawn_85 ?_
      obtain ⟨σ11, h10, hf⟩ := b_bd1 hf
      refine r_callV X hw (k_X0_settle hE (Or.inr (Or.inl rfl)) h10) (sp28 hE) (C := RX0) (T := TX0) (N := 6) rfl qw615 qw616 qw617 qw75 qw618 okX0_settle ⟨rfl, rfl⟩ ⟨(Nat.le_of_ble_eq_true rfl), (Nat.le_of_ble_eq_true rfl)⟩ ⟨Nat.zero_le _, Nat.zero_le _⟩ rfl hl.1 (rest := []) rfl (Nat.le_of_ble_eq_true rfl) dX7_missedWhenDrawn_88 (st1 := []) rfl (fun H locs hw => ?_)
      obtain ⟨v12, e13, hf⟩ := b_bnd hf
      refine lv_iinc (v := v12) (k := 6) (lv' := [(4, .int v12), (3, .int v5), (6, .int v5), (5, .int v4), (0, .ref (eP E 0)), (1, .int u1), (2, .int u2)]) X.1 X.2.1 dX7_missedWhenDrawn_91 hl rfl (by rw [e13]; exact congrArg _ (by decide)) (by decide) rfl (fun ls hl => ?_)
      refine lv_goto (tgt := 16) X.1 X.2.1 dX7_missedWhenDrawn_94 (by decide) ?_
      obtain rfl := Option.some.inj hf
      exact ih _ _ _ (hr1 _ rfl) _ _ _ hw (lv_sub hl [4, 5, 6, 1, 0] rfl) K1
set_option maxHeartbeats 4000000 in
set_option maxRecDepth 100000 in
theorem k_X7_missedWhenDrawn {l : Launch} {E : en_T} (hE : ShF E) {x1 : Int32} {x2 : Int32} {σ : sg_T} {r : Int32} {σ' : sg_T} (hf : f_X7_missedWhenDrawn x1 x2 σ = some (r, σ')) : Ct l yX7_missedWhenDrawn cX7_missedWhenDrawn 7 (some .int) rm_X7_missedWhenDrawn E [.ref (eP E 0), .int x1, .int x2] σ (some (.int r)) σ' := by
  refine Ct.start (by decide) hE.1 (Nat.le_of_ble_eq_true rfl) ?_
  intro p e s m below meth c X hw ls hl
  have X : Cx E p s m _ meth c cX7_missedWhenDrawn 7 RX7 (some .int) := X
  have hR : ShR E := hE.r
  have hl : lv_has ls 7 [(0, .ref (eP E 0)), (1, .int x1), (2, .int x2)] := hl
  unfold f_X7_missedWhenDrawn at hf
  refine lv_aload_n X.1 X.2.1 dX7_missedWhenDrawn_0 rfl (lv_at hl 0 rfl) ?_
  refine r_get X hw (sp0 hE) (C := RX7) (T := TX7) (N := 9) rfl iwX7 4 (by decide) (Nat.le_of_ble_eq_true rfl) qw422 (v := .ref (eP E 42)) rfl dX7_missedWhenDrawn_1 ?_
  refine lv_aload_n X.1 X.2.1 dX7_missedWhenDrawn_4 rfl (lv_at hl 0 rfl) ?_
  refine r_get X hw (sp0 hE) (C := RX7) (T := TX7) (N := 9) rfl iwX7 3 (by decide) (Nat.le_of_ble_eq_true rfl) qw421 (v := .ref (eP E 34)) rfl dX7_missedWhenDrawn_5 ?_
  obtain ⟨σ2, h1, hf⟩ := b_bd1 hf
  refine r_callV X hw (k_X1_copyFrom hE (Or.inr (Or.inl rfl)) (Or.inl rfl) h1) (spP0 hE (Or.inr (Or.inl rfl))) (C := RX1) (T := TX1) (N := 10) rfl qw647 qw648 qw649 qw76 qw650 okX1_copyFrom ⟨rfl, rfl⟩ ⟨(Nat.le_of_ble_eq_true rfl), (Nat.le_of_ble_eq_true rfl)⟩ ⟨Nat.zero_le _, Nat.zero_le _⟩ rfl hl.1 (rest := []) rfl (Nat.le_of_ble_eq_true rfl) dX7_missedWhenDrawn_8 (st1 := []) rfl (fun H locs hw => ?_)
  refine lv_iload_n X.1 X.2.1 dX7_missedWhenDrawn_11 rfl (lv_at hl 1 rfl) ?_
  refine lv_istore_n (lv' := [(3, .int x1), (0, .ref (eP E 0)), (1, .int x1), (2, .int x2)]) X.1 X.2.1 dX7_missedWhenDrawn_12 rfl hl (by decide) rfl (fun ls hl => ?_)
  refine lv_iconst (v := 0) X.1 X.2.1 dX7_missedWhenDrawn_13 (by decide) ?_
  refine lv_istore (lv' := [(4, .int 0), (3, .int x1), (0, .ref (eP E 0)), (1, .int x1), (2, .int x2)]) X.1 X.2.1 dX7_missedWhenDrawn_14 hl (by decide) rfl (fun ls hl => ?_)
  obtain ⟨v15, v16, σ17, h14, hf⟩ := b_bd3 hf
  refine w_X7_missedWhenDrawn_16 X hE  lfu _ _ _ h14 _ _ _ hw (lv_sub hl [2, 3, 4, 1, 0] rfl) (fun yv15 yv16 yσ17 hq H locs ls hw hl => ?_)
  cases hq
  refine lv_aload_n X.1 X.2.1 dX7_missedWhenDrawn_97 rfl (lv_at hl 0 rfl) ?_
  refine r_get X hw (sp0 hE) (C := RX7) (T := TX7) (N := 9) rfl iwX7 4 (by decide) (Nat.le_of_ble_eq_true rfl) qw422 (v := .ref (eP E 42)) rfl dX7_missedWhenDrawn_98 ?_
  refine lv_iconst (v := 4) X.1 X.2.1 dX7_missedWhenDrawn_101 (by decide) ?_
  obtain ⟨r19, h18, hf⟩ := b_bd1 hf
  refine r_callV X hw (k_X1_sum hE (Or.inr (Or.inl rfl)) h18) (spP0 hE (Or.inr (Or.inl rfl))) (C := RX1) (T := TX1) (N := 10) rfl qw664 qw665 qw666 qw76 qw667 okX1_sum ⟨rfl, rfl⟩ ⟨(Nat.le_of_ble_eq_true rfl), (Nat.le_of_ble_eq_true rfl)⟩ ⟨Nat.zero_le _, Nat.zero_le _⟩ rfl hl.1 (rest := []) rfl (Nat.le_of_ble_eq_true rfl) dX7_missedWhenDrawn_102 (st1 := [.int r19]) rfl (fun H locs hw => ?_)
  obtain ⟨rfl, rfl⟩ := Prod.mk.inj (Option.some.inj hf)
  exact r_iret X hw dX7_missedWhenDrawn_105
abbrev rm_X7_drawn : Room := { frames := 7, cells := 0, slots := 0, locals := 227 }
set_option maxHeartbeats 4000000 in
set_option maxRecDepth 100000 in
theorem k_X7_drawn {l : Launch} {E : en_T} (hE : ShF E) {x1 : Int32} {x2 : Int32} {σ : sg_T} {r : Int32} {σ' : sg_T} (hf : f_X7_drawn x1 x2 σ = some (r, σ')) : Ct l yX7_drawn cX7_drawn 3 (some .int) rm_X7_drawn E [.ref (eP E 0), .int x1, .int x2] σ (some (.int r)) σ' := by
  refine Ct.start (by decide) hE.1 (Nat.le_of_ble_eq_true rfl) ?_
  intro p e s m below meth c X hw ls hl
  have X : Cx E p s m _ meth c cX7_drawn 3 RX7 (some .int) := X
  have hR : ShR E := hE.r
  have hl : lv_has ls 3 [(0, .ref (eP E 0)), (1, .int x1), (2, .int x2)] := hl
  unfold f_X7_drawn at hf
  refine lv_iload_n X.1 X.2.1 dX7_drawn_0 rfl (lv_at hl 2 rfl) ?_
  refine lv_if_lt (tgt := 10) X.1 X.2.1 dX7_drawn_1 (by decide) (fun c1 => ?_) (fun c1 => ?_)
  · have hf := if_t hf c1
    refine lv_bipush (v := (-2)) X.1 X.2.1 dX7_drawn_10 (by decide) ?_
    obtain ⟨rfl, rfl⟩ := Prod.mk.inj (Option.some.inj hf)
    exact r_iret X hw dX7_drawn_12
  · have hf := if_e hf c1
    refine lv_iload_n X.1 X.2.1 dX7_drawn_4 rfl (lv_at hl 2 rfl) ?_
    refine lv_bipush (v := 40) X.1 X.2.1 dX7_drawn_5 (by decide) ?_
    refine lv_icmp_le (tgt := 13) X.1 X.2.1 dX7_drawn_7 (by decide) (fun c2 => ?_) (fun c2 => ?_)
    · have hf := if_t hf c2
      refine lv_aload_n X.1 X.2.1 dX7_drawn_13 rfl (lv_at hl 0 rfl) ?_
      refine lv_iload_n X.1 X.2.1 dX7_drawn_14 rfl (lv_at hl 1 rfl) ?_
      refine lv_iload_n X.1 X.2.1 dX7_drawn_15 rfl (lv_at hl 2 rfl) ?_
      obtain ⟨r4, σ5, h3, hf⟩ := b_bd2 hf
      refine r_callV X hw (k_X7_missedWhenDrawn hE  h3) (sp0 hE) (C := RX7) (T := TX7) (N := 9) rfl qw783 qw785 qw26 qw67 qw786 okX7_missedWhenDrawn ⟨rfl, rfl⟩ ⟨(Nat.le_of_ble_eq_true rfl), (Nat.le_of_ble_eq_true rfl)⟩ ⟨Nat.zero_le _, Nat.zero_le _⟩ rfl hl.1 (rest := []) rfl (Nat.le_of_ble_eq_true rfl) dX7_drawn_16 (st1 := [.int r4]) rfl (fun H locs hw => ?_)
      obtain ⟨rfl, rfl⟩ := Prod.mk.inj (Option.some.inj hf)
      exact r_iret X hw dX7_drawn_19
    · have hf := if_e hf c2
      refine lv_bipush (v := (-2)) X.1 X.2.1 dX7_drawn_10 (by decide) ?_
      obtain ⟨rfl, rfl⟩ := Prod.mk.inj (Option.some.inj hf)
      exact r_iret X hw dX7_drawn_12
abbrev rm_X7_chance : Room := { frames := 7, cells := 0, slots := 0, locals := 227 }
set_option maxHeartbeats 4000000 in
set_option maxRecDepth 100000 in
theorem w_X7_chance_42 {p : Program} {l : Launch} {e : Env} {s : State} {m : MethodId} {args : Array Value} {below : List Frame} {meth : Method} {c : Code} {Q : State → Prop} {E : en_T} (X : Cx E p s m args meth c cX7_chance 7 RX7 (some .long)) (hE : ShF E) {u1 : Int32} {u2 : Int32} {u3 : Int32} {u4 : Int32}  {res : Int32 × Int32 × sg_T} :
    ∀ (n : Nat) (w5 : Int32) (w6 : Int32) (σ : sg_T), itr (fun q => b_X7_chance_42 u1 u2 u3 u4 q.1 q.2.1 q.2.2) n (w5, w6, σ) = some res → ∀ (H : Heap) (locs : List Loc) (ls : Array Slot), Hw E σ s H locs → lv_has ls 7 [(0, .ref (eP E 0)), (1, .int u1), (2, .int u2), (3, .int u3), (4, .int u4), (5, .int w5), (6, .int w6)] →
    (∀ (y5 : Int32) (y6 : Int32) (τ : sg_T), res = (y5, y6, τ) → ∀ (H : Heap) (locs : List Loc) (ls : Array Slot), Hw E τ s H locs → lv_has ls 7 [(0, .ref (eP E 0)), (1, .int u1), (2, .int u2), (3, .int u3), (4, .int u4), (5, .int y5), (6, .int y6)] → W p l e rm_X7_chance s m args below meth c H locs 0 0 Q (F0 m 71 ls [])) →
    W p l e rm_X7_chance s m args below meth c H locs 0 0 Q (F0 m 42 ls []) := by
  have hR : ShR E := hE.r
  intro n
  induction n with
  | zero =>
    intro w5 w6 σ hf0
    exact (itr_0 hf0).elim
  | succ n ih =>
    intro w5 w6 σ hf0 H locs ls hw hl K1
    obtain ⟨r0, hf, hr1, hr2⟩ := itr_s hf0
    have hf : b_X7_chance_42 u1 u2 u3 u4 w5 w6 σ = some r0 := hf
    unfold b_X7_chance_42 at hf
    refine lv_iload X.1 X.2.1 dX7_chance_42 (lv_at hl 6 rfl) ?_
    refine lv_iload_n X.1 X.2.1 dX7_chance_44 rfl (lv_at hl 2 rfl) ?_
    refine lv_icmp_ge (tgt := 71) X.1 X.2.1 dX7_chance_45 (by decide) (fun c7 => ?_) (fun c7 => ?_)
    · have hf := if_t hf c7
      obtain rfl := Option.some.inj hf
      obtain rfl := hr2 _ rfl
      exact K1 _ _ _ rfl _ _ _ hw (lv_sub hl [0, 1, 2, 3, 4, 5, 6] rfl)
    · have hf := if_e hf c7
      refine lv_aload_n X.1 X.2.1 dX7_chance_48 rfl (lv_at hl 0 rfl) ?_
      refine lv_iload_n X.1 X.2.1 dX7_chance_49 rfl (lv_at hl 1 rfl) ?_
      refine lv_iload X.1 X.2.1 dX7_chance_50 (lv_at hl 6 rfl) ?_
      refine lv_iadd X.1 X.2.1 dX7_chance_52 ?_
      refine lv_bipush (v := 10) X.1 X.2.1 dX7_chance_53 (by decide) ?_
      obtain ⟨r9, σ10, h8, hf⟩ := b_bd2 hf
      refine r_callV X hw (k_X7_missedWhenDrawn hE  h8) (sp0 hE) (C := RX7) (T := TX7) (N := 9) rfl qw783 qw785 qw26 qw67 qw786 okX7_missedWhenDrawn ⟨rfl, rfl⟩ ⟨(Nat.le_of_ble_eq_true rfl), (Nat.le_of_ble_eq_true rfl)⟩ ⟨Nat.zero_le _, Nat.zero_le _⟩ rfl hl.1 (rest := []) rfl (Nat.le_of_ble_eq_true rfl) dX7_chance_55 (st1 := [.int r9]) rfl (fun H locs hw => ?_)
      refine lv_iload_n X.1 X.2.1 dX7_chance_58 rfl (lv_at hl 3 rfl) ?_
      refine lv_icmp_lt (tgt := 65) X.1 X.2.1 dX7_chance_59 (by decide) (fun c11 => ?_) (fun c11 => ?_)
      · have hf := if_t hf c11
        obtain ⟨v12, e13, hf⟩ := b_bnd hf
        refine lv_iinc (v := v12) (k := 6) (lv' := [(6, .int v12), (0, .ref (eP E 0)), (1, .int u1), (2, .int u2), (3, .int u3), (4, .int u4), (5, .int w5)]) X.1 X.2.1 dX7_chance_65 hl rfl (by rw [e13]; exact congrArg _ (by decide)) (by decide) rfl (fun ls hl => ?_)
        refine lv_goto (tgt := 42) X.1 X.2.1 dX7_chance_68 (by decide) ?_
        obtain rfl := Option.some.inj hf
        exact ih _ _ _ (hr1 _ rfl) _ _ _ hw (lv_sub hl [1, 2, 3, 4, 5, 6, 0] rfl) K1
      · have hf := if_e hf c11
        obtain ⟨v14, e15, hf⟩ := b_bnd hf
        refine lv_iinc (v := v14) (k := 5) (lv' := [(5, .int v14), (0, .ref (eP E 0)), (1, .int u1), (2, .int u2), (3, .int u3), (4, .int u4), (6, .int w6)]) X.1 X.2.1 dX7_chance_62 hl rfl (by rw [e15]; exact congrArg _ (by decide)) (by decide) rfl (fun ls hl => ?_)
        obtain ⟨v16, e17, hf⟩ := b_bnd hf
        refine lv_iinc (v := v16) (k := 6) (lv' := [(6, .int v16), (5, .int v14), (0, .ref (eP E 0)), (1, .int u1), (2, .int u2), (3, .int u3), (4, .int u4)]) X.1 X.2.1 dX7_chance_65 hl rfl (by rw [e17]; exact congrArg _ (by decide)) (by decide) rfl (fun ls hl => ?_)
        refine lv_goto (tgt := 42) X.1 X.2.1 dX7_chance_68 (by decide) ?_
        obtain rfl := Option.some.inj hf
        exact ih _ _ _ (hr1 _ rfl) _ _ _ hw (lv_sub hl [2, 3, 4, 5, 6, 1, 0] rfl) K1
set_option maxHeartbeats 4000000 in
set_option maxRecDepth 100000 in
theorem k_X7_chance {l : Launch} {E : en_T} (hE : ShF E) {x1 : Int32} {x2 : Int32} {x3 : Int32} {x4 : Int32} {σ : sg_T} {r : Int64} {σ' : sg_T} (hf : f_X7_chance x1 x2 x3 x4 σ = some (r, σ')) : Ct l yX7_chance cX7_chance 7 (some .long) rm_X7_chance E [.ref (eP E 0), .int x1, .int x2, .int x3, .int x4] σ (some (.long r)) σ' := by
  refine Ct.start (by decide) hE.1 (Nat.le_of_ble_eq_true rfl) ?_
  intro p e s m below meth c X hw ls hl
  have X : Cx E p s m _ meth c cX7_chance 7 RX7 (some .long) := X
  have hR : ShR E := hE.r
  have hl : lv_has ls 7 [(0, .ref (eP E 0)), (1, .int x1), (2, .int x2), (3, .int x3), (4, .int x4)] := hl
  unfold f_X7_chance at hf
  refine lv_iload_n X.1 X.2.1 dX7_chance_0 rfl (lv_at hl 2 rfl) ?_
  refine lv_iconst (v := 1) X.1 X.2.1 dX7_chance_1 (by decide) ?_
  refine lv_icmp_lt (tgt := 32) X.1 X.2.1 dX7_chance_2 (by decide) (fun c1 => ?_) (fun c1 => ?_)
  · have hf := if_t hf c1
    refine lv_ldc2 (v := (-4611686018427387904)) X.1 X.2.1 X.2.2.2.1 (X.2.2.2.2.1 _ qw715) dX7_chance_32 ?_
    obtain ⟨rfl, rfl⟩ := Prod.mk.inj (Option.some.inj hf)
    exact r_lret X hw dX7_chance_35
  · have hf := if_e hf c1
    refine lv_iload_n X.1 X.2.1 dX7_chance_5 rfl (lv_at hl 2 rfl) ?_
    refine lv_bipush (v := 20) X.1 X.2.1 dX7_chance_6 (by decide) ?_
    refine lv_icmp_gt (tgt := 32) X.1 X.2.1 dX7_chance_8 (by decide) (fun c2 => ?_) (fun c2 => ?_)
    · have hf := if_t hf c2
      refine lv_ldc2 (v := (-4611686018427387904)) X.1 X.2.1 X.2.2.2.1 (X.2.2.2.2.1 _ qw715) dX7_chance_32 ?_
      obtain ⟨rfl, rfl⟩ := Prod.mk.inj (Option.some.inj hf)
      exact r_lret X hw dX7_chance_35
    · have hf := if_e hf c2
      refine lv_iload_n X.1 X.2.1 dX7_chance_11 rfl (lv_at hl 3 rfl) ?_
      refine lv_if_lt (tgt := 32) X.1 X.2.1 dX7_chance_12 (by decide) (fun c3 => ?_) (fun c3 => ?_)
      · have hf := if_t hf c3
        refine lv_ldc2 (v := (-4611686018427387904)) X.1 X.2.1 X.2.2.2.1 (X.2.2.2.2.1 _ qw715) dX7_chance_32 ?_
        obtain ⟨rfl, rfl⟩ := Prod.mk.inj (Option.some.inj hf)
        exact r_lret X hw dX7_chance_35
      · have hf := if_e hf c3
        refine lv_iload_n X.1 X.2.1 dX7_chance_15 rfl (lv_at hl 3 rfl) ?_
        refine lv_bipush (v := 99) X.1 X.2.1 dX7_chance_16 (by decide) ?_
        refine lv_icmp_gt (tgt := 32) X.1 X.2.1 dX7_chance_18 (by decide) (fun c4 => ?_) (fun c4 => ?_)
        · have hf := if_t hf c4
          refine lv_ldc2 (v := (-4611686018427387904)) X.1 X.2.1 X.2.2.2.1 (X.2.2.2.2.1 _ qw715) dX7_chance_32 ?_
          obtain ⟨rfl, rfl⟩ := Prod.mk.inj (Option.some.inj hf)
          exact r_lret X hw dX7_chance_35
        · have hf := if_e hf c4
          refine lv_iload X.1 X.2.1 dX7_chance_21 (lv_at hl 4 rfl) ?_
          refine lv_if_lt (tgt := 32) X.1 X.2.1 dX7_chance_23 (by decide) (fun c5 => ?_) (fun c5 => ?_)
          · have hf := if_t hf c5
            refine lv_ldc2 (v := (-4611686018427387904)) X.1 X.2.1 X.2.2.2.1 (X.2.2.2.2.1 _ qw715) dX7_chance_32 ?_
            obtain ⟨rfl, rfl⟩ := Prod.mk.inj (Option.some.inj hf)
            exact r_lret X hw dX7_chance_35
          · have hf := if_e hf c5
            refine lv_iload X.1 X.2.1 dX7_chance_26 (lv_at hl 4 rfl) ?_
            refine lv_iconst (v := 1) X.1 X.2.1 dX7_chance_28 (by decide) ?_
            refine lv_icmp_le (tgt := 36) X.1 X.2.1 dX7_chance_29 (by decide) (fun c6 => ?_) (fun c6 => ?_)
            · have hf := if_t hf c6
              refine lv_iconst (v := 0) X.1 X.2.1 dX7_chance_36 (by decide) ?_
              refine lv_istore (lv' := [(5, .int 0), (0, .ref (eP E 0)), (1, .int x1), (2, .int x2), (3, .int x3), (4, .int x4)]) X.1 X.2.1 dX7_chance_37 hl (by decide) rfl (fun ls hl => ?_)
              refine lv_iconst (v := 0) X.1 X.2.1 dX7_chance_39 (by decide) ?_
              refine lv_istore (lv' := [(6, .int 0), (5, .int 0), (0, .ref (eP E 0)), (1, .int x1), (2, .int x2), (3, .int x3), (4, .int x4)]) X.1 X.2.1 dX7_chance_40 hl (by decide) rfl (fun ls hl => ?_)
              obtain ⟨v19, v20, σ21, h18, hf⟩ := b_bd3 hf
              refine w_X7_chance_42 X hE  lfu _ _ _ h18 _ _ _ hw (lv_sub hl [2, 3, 4, 5, 6, 1, 0] rfl) (fun yv19 yv20 yσ21 hq H locs ls hw hl => ?_)
              cases hq
              refine lv_iload X.1 X.2.1 dX7_chance_71 (lv_at hl 5 rfl) ?_
              refine lv_iload_n X.1 X.2.1 dX7_chance_73 rfl (lv_at hl 2 rfl) ?_
              refine lv_iload X.1 X.2.1 dX7_chance_74 (lv_at hl 4 rfl) ?_
              obtain ⟨r23, h22, hf⟩ := b_bd1 hf
              refine r_callS X hw (k_X7_partOf hE  h22) qw716 qw717 qw67 qw718 okX7_partOf ⟨rfl, rfl⟩ ⟨(Nat.le_of_ble_eq_true rfl), (Nat.le_of_ble_eq_true rfl)⟩ ⟨Nat.zero_le _, Nat.zero_le _⟩ rfl hl.1 (rest := []) rfl (Nat.le_of_ble_eq_true rfl) dX7_chance_76 (st1 := [.long r23]) rfl (fun H locs hw => ?_)
              obtain ⟨rfl, rfl⟩ := Prod.mk.inj (Option.some.inj hf)
              exact r_lret X hw dX7_chance_79
            · have hf := if_e hf c6
              refine lv_ldc2 (v := (-4611686018427387904)) X.1 X.2.1 X.2.2.2.1 (X.2.2.2.2.1 _ qw715) dX7_chance_32 ?_
              obtain ⟨rfl, rfl⟩ := Prod.mk.inj (Option.some.inj hf)
              exact r_lret X hw dX7_chance_35
abbrev rm_X7_image : Room := { frames := 3, cells := 0, slots := 0, locals := 121 }
set_option maxHeartbeats 4000000 in
set_option maxRecDepth 100000 in
theorem k_X7_image {l : Launch} {E : en_T} (hE : ShF E)  {σ : sg_T} {r : Int32} {σ' : sg_T} (hf : f_X7_image  σ = some (r, σ')) : Ct l yX7_image cX7_image 1 (some .int) rm_X7_image E [.ref (eP E 0)] σ (some (.int r)) σ' := by
  refine Ct.start (by decide) hE.1 (Nat.le_of_ble_eq_true rfl) ?_
  intro p e s m below meth c X hw ls hl
  have X : Cx E p s m _ meth c cX7_image 1 RX7 (some .int) := X
  have hR : ShR E := hE.r
  have hl : lv_has ls 1 [(0, .ref (eP E 0))] := hl
  unfold f_X7_image at hf
  refine lv_aload_n X.1 X.2.1 dX7_image_0 rfl (lv_at hl 0 rfl) ?_
  refine r_get X hw (sp0 hE) (C := RX7) (T := TX7) (N := 9) rfl iwX7 5 (by decide) (Nat.le_of_ble_eq_true rfl) qw423 (v := .ref (eP E 50)) rfl dX7_image_1 ?_
  refine lv_aload_n X.1 X.2.1 dX7_image_4 rfl (lv_at hl 0 rfl) ?_
  refine r_get X hw (sp0 hE) (C := RX7) (T := TX7) (N := 9) rfl iwX7 3 (by decide) (Nat.le_of_ble_eq_true rfl) qw421 (v := .ref (eP E 34)) rfl dX7_image_5 ?_
  obtain ⟨σ2, h1, hf⟩ := b_bd1 hf
  refine r_callV X hw (k_X1_copyFrom hE (Or.inr (Or.inr rfl)) (Or.inl rfl) h1) (spP0 hE (Or.inr (Or.inr rfl))) (C := RX1) (T := TX1) (N := 10) rfl qw647 qw648 qw649 qw76 qw650 okX1_copyFrom ⟨rfl, rfl⟩ ⟨(Nat.le_of_ble_eq_true rfl), (Nat.le_of_ble_eq_true rfl)⟩ ⟨Nat.zero_le _, Nat.zero_le _⟩ rfl hl.1 (rest := []) rfl (Nat.le_of_ble_eq_true rfl) dX7_image_8 (st1 := []) rfl (fun H locs hw => ?_)
  refine lv_aload_n X.1 X.2.1 dX7_image_11 rfl (lv_at hl 0 rfl) ?_
  refine lv_iconst (v := 1) X.1 X.2.1 dX7_image_12 (by decide) ?_
  refine r_put X hw (sp0 hE) (C := RX7) (T := TX7) (N := 9) rfl iwX7 tyX7 tyX7_ok nmX7 8 (by decide) (Nat.le_of_ble_eq_true rfl) qw426 rfl (v := .int 1) rfl rfl (x := 1) rfl dX7_image_13 (fun H locs hw => ?_)
  obtain ⟨σ3, e4, hf⟩ := b_bnd hf
  rw [← e4] at hw
  refine lv_aload_n X.1 X.2.1 dX7_image_16 rfl (lv_at hl 0 rfl) ?_
  refine r_get X hw (sp0 hE) (C := RX7) (T := TX7) (N := 9) rfl iwX7 5 (by decide) (Nat.le_of_ble_eq_true rfl) qw423 (v := .ref (eP E 50)) rfl dX7_image_17 ?_
  obtain ⟨r6, h5, hf⟩ := b_bd1 hf
  refine r_callV X hw (k_X1_many hE (Or.inr (Or.inr rfl)) h5) (spP0 hE (Or.inr (Or.inr rfl))) (C := RX1) (T := TX1) (N := 10) rfl qw677 qw610 qw611 qw76 qw612 okX1_many ⟨rfl, rfl⟩ ⟨(Nat.le_of_ble_eq_true rfl), (Nat.le_of_ble_eq_true rfl)⟩ ⟨Nat.zero_le _, Nat.zero_le _⟩ rfl hl.1 (rest := []) rfl (Nat.le_of_ble_eq_true rfl) dX7_image_20 (st1 := [.int r6]) rfl (fun H locs hw => ?_)
  obtain ⟨rfl, rfl⟩ := Prod.mk.inj (Option.some.inj hf)
  exact r_iret X hw dX7_image_23
abbrev rm_X7_back : Room := { frames := 3, cells := 0, slots := 0, locals := 121 }
set_option maxHeartbeats 4000000 in
set_option maxRecDepth 100000 in
theorem k_X7_back {l : Launch} {E : en_T} (hE : ShF E)  {σ : sg_T} {r : Int32} {σ' : sg_T} (hf : f_X7_back  σ = some (r, σ')) : Ct l yX7_back cX7_back 1 (some .int) rm_X7_back E [.ref (eP E 0)] σ (some (.int r)) σ' := by
  refine Ct.start (by decide) hE.1 (Nat.le_of_ble_eq_true rfl) ?_
  intro p e s m below meth c X hw ls hl
  have X : Cx E p s m _ meth c cX7_back 1 RX7 (some .int) := X
  have hR : ShR E := hE.r
  have hl : lv_has ls 1 [(0, .ref (eP E 0))] := hl
  unfold f_X7_back at hf
  refine lv_aload_n X.1 X.2.1 dX7_back_0 rfl (lv_at hl 0 rfl) ?_
  refine r_get X hw (sp0 hE) (C := RX7) (T := TX7) (N := 9) rfl iwX7 8 (by decide) (Nat.le_of_ble_eq_true rfl) qw426 (v := .int (σ 0 8)) rfl dX7_back_1 ?_
  refine lv_if_ne (tgt := 10) X.1 X.2.1 dX7_back_4 (by decide) (fun c1 => ?_) (fun c1 => ?_)
  · have hf := if_e hf c1
    refine lv_aload_n X.1 X.2.1 dX7_back_10 rfl (lv_at hl 0 rfl) ?_
    refine r_get X hw (sp0 hE) (C := RX7) (T := TX7) (N := 9) rfl iwX7 3 (by decide) (Nat.le_of_ble_eq_true rfl) qw421 (v := .ref (eP E 34)) rfl dX7_back_11 ?_
    refine lv_aload_n X.1 X.2.1 dX7_back_14 rfl (lv_at hl 0 rfl) ?_
    refine r_get X hw (sp0 hE) (C := RX7) (T := TX7) (N := 9) rfl iwX7 5 (by decide) (Nat.le_of_ble_eq_true rfl) qw423 (v := .ref (eP E 50)) rfl dX7_back_15 ?_
    obtain ⟨σ3, h2, hf⟩ := b_bd1 hf
    refine r_callV X hw (k_X1_copyFrom hE (Or.inl rfl) (Or.inr (Or.inr rfl)) h2) (spP0 hE (Or.inl rfl)) (C := RX1) (T := TX1) (N := 10) rfl qw647 qw648 qw649 qw76 qw650 okX1_copyFrom ⟨rfl, rfl⟩ ⟨(Nat.le_of_ble_eq_true rfl), (Nat.le_of_ble_eq_true rfl)⟩ ⟨Nat.zero_le _, Nat.zero_le _⟩ rfl hl.1 (rest := []) rfl (Nat.le_of_ble_eq_true rfl) dX7_back_18 (st1 := []) rfl (fun H locs hw => ?_)
    refine lv_aload_n X.1 X.2.1 dX7_back_21 rfl (lv_at hl 0 rfl) ?_
    refine r_get X hw (sp0 hE) (C := RX7) (T := TX7) (N := 9) rfl iwX7 3 (by decide) (Nat.le_of_ble_eq_true rfl) qw421 (v := .ref (eP E 34)) rfl dX7_back_22 ?_
    obtain ⟨r5, h4, hf⟩ := b_bd1 hf
    refine r_callV X hw (k_X1_many hE (Or.inl rfl) h4) (spP0 hE (Or.inl rfl)) (C := RX1) (T := TX1) (N := 10) rfl qw677 qw610 qw611 qw76 qw612 okX1_many ⟨rfl, rfl⟩ ⟨(Nat.le_of_ble_eq_true rfl), (Nat.le_of_ble_eq_true rfl)⟩ ⟨Nat.zero_le _, Nat.zero_le _⟩ rfl hl.1 (rest := []) rfl (Nat.le_of_ble_eq_true rfl) dX7_back_25 (st1 := [.int r5]) rfl (fun H locs hw => ?_)
    obtain ⟨rfl, rfl⟩ := Prod.mk.inj (Option.some.inj hf)
    exact r_iret X hw dX7_back_28
  · have hf := if_t hf c1
    refine lv_bipush (v := (-3)) X.1 X.2.1 dX7_back_7 (by decide) ?_
    obtain ⟨rfl, rfl⟩ := Prod.mk.inj (Option.some.inj hf)
    exact r_iret X hw dX7_back_9
abbrev rm_X7_count : Room := { frames := 4, cells := 0, slots := 0, locals := 168 }
set_option maxHeartbeats 4000000 in
set_option maxRecDepth 100000 in
theorem k_X7_count {l : Launch} {E : en_T} (hE : ShF E) {x1 : Int32} {σ : sg_T} {r : Int32} (hf : f_X7_count x1 σ = some r) : Ct l yX7_count cX7_count 2 (some .int) rm_X7_count E [.ref (eP E 0), .int x1] σ (some (.int r)) σ := by
  refine Ct.start (by decide) hE.1 (Nat.le_of_ble_eq_true rfl) ?_
  intro p e s m below meth c X hw ls hl
  have X : Cx E p s m _ meth c cX7_count 2 RX7 (some .int) := X
  have hR : ShR E := hE.r
  have hl : lv_has ls 2 [(0, .ref (eP E 0)), (1, .int x1)] := hl
  unfold f_X7_count at hf
  refine lv_iload_n X.1 X.2.1 dX7_count_0 rfl (lv_at hl 1 rfl) ?_
  by_cases c1 : x1 = 0
  · have hf := if_t hf c1
    refine lv_tableIn (x := x1) (tgt := 40) (off := 39) X.1 X.2.1 dX7_count_1 (by rw [c1]; decide) (by rw [c1]; decide) (by rw [c1]; decide) (by decide) ?_
    refine lv_aload_n X.1 X.2.1 dX7_count_40 rfl (lv_at hl 0 rfl) ?_
    refine r_get X hw (sp0 hE) (C := RX7) (T := TX7) (N := 9) rfl iwX7 3 (by decide) (Nat.le_of_ble_eq_true rfl) qw421 (v := .ref (eP E 34)) rfl dX7_count_41 ?_
    obtain ⟨r3, h2, hf⟩ := b_bd1 hf
    refine r_callV X hw (k_X1_many hE (Or.inl rfl) h2) (spP0 hE (Or.inl rfl)) (C := RX1) (T := TX1) (N := 10) rfl qw677 qw610 qw611 qw76 qw612 okX1_many ⟨rfl, rfl⟩ ⟨(Nat.le_of_ble_eq_true rfl), (Nat.le_of_ble_eq_true rfl)⟩ ⟨Nat.zero_le _, Nat.zero_le _⟩ rfl hl.1 (rest := []) rfl (Nat.le_of_ble_eq_true rfl) dX7_count_44 (st1 := [.int r3]) rfl (fun H locs hw => ?_)
    obtain rfl := Option.some.inj hf
    exact r_iret X hw dX7_count_47
  have hf := if_e hf c1
  by_cases c4 : x1 = 1
  · have hf := if_t hf c4
    refine lv_tableIn (x := x1) (tgt := 48) (off := 47) X.1 X.2.1 dX7_count_1 (by rw [c4]; decide) (by rw [c4]; decide) (by rw [c4]; decide) (by decide) ?_
    refine lv_aload_n X.1 X.2.1 dX7_count_48 rfl (lv_at hl 0 rfl) ?_
    refine r_get X hw (sp0 hE) (C := RX7) (T := TX7) (N := 9) rfl iwX7 3 (by decide) (Nat.le_of_ble_eq_true rfl) qw421 (v := .ref (eP E 34)) rfl dX7_count_49 ?_
    obtain ⟨r6, h5, hf⟩ := b_bd1 hf
    refine r_callV X hw (k_X1_manyWithoutSetter hE (Or.inl rfl) h5) (spP0 hE (Or.inl rfl)) (C := RX1) (T := TX1) (N := 10) rfl qw808 qw809 qw810 qw76 qw811 okX1_manyWithoutSetter ⟨rfl, rfl⟩ ⟨(Nat.le_of_ble_eq_true rfl), (Nat.le_of_ble_eq_true rfl)⟩ ⟨Nat.zero_le _, Nat.zero_le _⟩ rfl hl.1 (rest := []) rfl (Nat.le_of_ble_eq_true rfl) dX7_count_52 (st1 := [.int r6]) rfl (fun H locs hw => ?_)
    obtain rfl := Option.some.inj hf
    exact r_iret X hw dX7_count_55
  have hf := if_e hf c4
  by_cases c7 : x1 = 2
  · have hf := if_t hf c7
    refine lv_tableIn (x := x1) (tgt := 56) (off := 55) X.1 X.2.1 dX7_count_1 (by rw [c7]; decide) (by rw [c7]; decide) (by rw [c7]; decide) (by decide) ?_
    refine lv_aload_n X.1 X.2.1 dX7_count_56 rfl (lv_at hl 0 rfl) ?_
    refine r_get X hw (sp0 hE) (C := RX7) (T := TX7) (N := 9) rfl iwX7 3 (by decide) (Nat.le_of_ble_eq_true rfl) qw421 (v := .ref (eP E 34)) rfl dX7_count_57 ?_
    obtain ⟨r9, h8, hf⟩ := b_bd1 hf
    refine r_callV X hw (k_X1_today hE (Or.inl rfl) h8) (spP0 hE (Or.inl rfl)) (C := RX1) (T := TX1) (N := 10) rfl qw604 qw542 qw543 qw76 qw544 okX1_today ⟨rfl, rfl⟩ ⟨(Nat.le_of_ble_eq_true rfl), (Nat.le_of_ble_eq_true rfl)⟩ ⟨Nat.zero_le _, Nat.zero_le _⟩ rfl hl.1 (rest := []) rfl (Nat.le_of_ble_eq_true rfl) dX7_count_60 (st1 := [.int r9]) rfl (fun H locs hw => ?_)
    obtain rfl := Option.some.inj hf
    exact r_iret X hw dX7_count_63
  have hf := if_e hf c7
  by_cases c10 : x1 = 3
  · have hf := if_t hf c10
    refine lv_tableIn (x := x1) (tgt := 64) (off := 63) X.1 X.2.1 dX7_count_1 (by rw [c10]; decide) (by rw [c10]; decide) (by rw [c10]; decide) (by decide) ?_
    refine lv_aload_n X.1 X.2.1 dX7_count_64 rfl (lv_at hl 0 rfl) ?_
    refine r_get X hw (sp0 hE) (C := RX7) (T := TX7) (N := 9) rfl iwX7 0 (by decide) (Nat.le_of_ble_eq_true rfl) qw418 (v := .ref (eP E 6)) rfl dX7_count_65 ?_
    obtain ⟨r12, h11, hf⟩ := b_bd1 hf
    refine r_callV X hw (k_X3_many hR  h11) (sp6 hR) (C := RX3) (T := TX3) (N := 4) rfl qw595 qw596 qw597 qw69 qw598 okX3_many ⟨rfl, rfl⟩ ⟨(Nat.le_of_ble_eq_true rfl), (Nat.le_of_ble_eq_true rfl)⟩ ⟨Nat.zero_le _, Nat.zero_le _⟩ rfl hl.1 (rest := []) rfl (Nat.le_of_ble_eq_true rfl) dX7_count_68 (st1 := [.int r12]) rfl (fun H locs hw => ?_)
    obtain rfl := Option.some.inj hf
    exact r_iret X hw dX7_count_71
  have hf := if_e hf c10
  by_cases c13 : x1 = 4
  · have hf := if_t hf c13
    refine lv_tableIn (x := x1) (tgt := 72) (off := 71) X.1 X.2.1 dX7_count_1 (by rw [c13]; decide) (by rw [c13]; decide) (by rw [c13]; decide) (by decide) ?_
    refine lv_aload_n X.1 X.2.1 dX7_count_72 rfl (lv_at hl 0 rfl) ?_
    refine r_get X hw (sp0 hE) (C := RX7) (T := TX7) (N := 9) rfl iwX7 1 (by decide) (Nat.le_of_ble_eq_true rfl) qw419 (v := .ref (eP E 1)) rfl dX7_count_73 ?_
    obtain ⟨r15, h14, hf⟩ := b_bd1 hf
    refine r_callV X hw (k_X2_size hR  h14) (sp1 hR) (C := RX2) (T := TX2) (N := 8) rfl qw583 qw584 qw585 qw68 qw586 okX2_size ⟨rfl, rfl⟩ ⟨(Nat.le_of_ble_eq_true rfl), (Nat.le_of_ble_eq_true rfl)⟩ ⟨Nat.zero_le _, Nat.zero_le _⟩ rfl hl.1 (rest := []) rfl (Nat.le_of_ble_eq_true rfl) dX7_count_76 (st1 := [.int r15]) rfl (fun H locs hw => ?_)
    obtain rfl := Option.some.inj hf
    exact r_iret X hw dX7_count_79
  have hf := if_e hf c13
  by_cases c16 : x1 = 5
  · have hf := if_t hf c16
    refine lv_tableIn (x := x1) (tgt := 80) (off := 79) X.1 X.2.1 dX7_count_1 (by rw [c16]; decide) (by rw [c16]; decide) (by rw [c16]; decide) (by decide) ?_
    refine lv_aload_n X.1 X.2.1 dX7_count_80 rfl (lv_at hl 0 rfl) ?_
    refine r_get X hw (sp0 hE) (C := RX7) (T := TX7) (N := 9) rfl iwX7 3 (by decide) (Nat.le_of_ble_eq_true rfl) qw421 (v := .ref (eP E 34)) rfl dX7_count_81 ?_
    obtain ⟨r18, h17, hf⟩ := b_bd1 hf
    refine r_callV X hw (k_X1_rule hE (Or.inl rfl) h17) (spP0 hE (Or.inl rfl)) (C := RX1) (T := TX1) (N := 10) rfl qw599 qw508 qw509 qw76 qw510 okX1_rule ⟨rfl, rfl⟩ ⟨(Nat.le_of_ble_eq_true rfl), (Nat.le_of_ble_eq_true rfl)⟩ ⟨Nat.zero_le _, Nat.zero_le _⟩ rfl hl.1 (rest := []) rfl (Nat.le_of_ble_eq_true rfl) dX7_count_84 (st1 := [.int r18]) rfl (fun H locs hw => ?_)
    obtain rfl := Option.some.inj hf
    exact r_iret X hw dX7_count_87
  have hf := if_e hf c16
  have c1t := lv_neT (a := 0) c1 (by decide)
  have c4t := lv_neT (a := 1) c4 (by decide)
  have c7t := lv_neT (a := 2) c7 (by decide)
  have c10t := lv_neT (a := 3) c10 (by decide)
  have c13t := lv_neT (a := 4) c13 (by decide)
  have c16t := lv_neT (a := 5) c16 (by decide)
  refine lv_tableOut (x := x1) (tgt := 88) X.1 X.2.1 dX7_count_1 (by omega) (by decide) ?_
  refine lv_bipush (v := (-2)) X.1 X.2.1 dX7_count_88 (by decide) ?_
  obtain rfl := Option.some.inj hf
  exact r_iret X hw dX7_count_90
abbrev rm_X7_isSort : Room := { frames := 0, cells := 0, slots := 0, locals := 0 }
set_option maxHeartbeats 4000000 in
set_option maxRecDepth 100000 in
theorem k_X7_isSort {l : Launch} {E : en_T} (hE : ShF E) {x1 : Int32} {σ : sg_T} {r : Int32} (hf : f_X7_isSort x1 σ = some r) : Ct l yX7_isSort cX7_isSort 1 (some .boolean) rm_X7_isSort E [.int x1] σ (some (.int r)) σ := by
  refine Ct.start (by decide) hE.1 (Nat.le_of_ble_eq_true rfl) ?_
  intro p e s m below meth c X hw ls hl
  have X : Cx E p s m _ meth c cX7_isSort 1 RX7 (some .boolean) := X
  have hR : ShR E := hE.r
  have hl : lv_has ls 1 [(0, .int x1)] := hl
  unfold f_X7_isSort at hf
  refine lv_iload_n X.1 X.2.1 dX7_isSort_0 rfl (lv_at hl 0 rfl) ?_
  refine lv_if_lt (tgt := 13) X.1 X.2.1 dX7_isSort_1 (by decide) (fun c1 => ?_) (fun c1 => ?_)
  · have hf := if_t hf c1
    refine lv_iconst (v := 0) X.1 X.2.1 dX7_isSort_13 (by decide) ?_
    obtain rfl := Option.some.inj hf
    exact r_zret X hw (by decide) dX7_isSort_14
  · have hf := if_e hf c1
    refine lv_iload_n X.1 X.2.1 dX7_isSort_4 rfl (lv_at hl 0 rfl) ?_
    refine lv_iconst (v := 2) X.1 X.2.1 dX7_isSort_5 (by decide) ?_
    obtain ⟨v3, e4, hf⟩ := b_bnd hf
    refine r_join (g2 := F0 m 14 ls [.int v3]) ?_ (fun hj => ?_)
    · obtain ⟨h5, hf⟩ := b_cz hf
      obtain rfl := Option.some.inj hf
      exact r_zret X hw (cz_and h5) dX7_isSort_14
    · refine lv_icmp_gt (tgt := 13) X.1 X.2.1 dX7_isSort_6 (by decide) (fun c2 => ?_) (fun c2 => ?_)
      · rw [e4, if_pos c2] at hj
        refine lv_iconst (v := 0) X.1 X.2.1 dX7_isSort_13 (by decide) ?_
        exact hj
      · rw [e4, if_neg c2] at hj
        refine lv_iconst (v := 1) X.1 X.2.1 dX7_isSort_9 (by decide) ?_
        refine lv_goto (tgt := 14) X.1 X.2.1 dX7_isSort_10 (by decide) ?_
        exact hj
abbrev rm_X7_sheet : Room := { frames := 4, cells := 0, slots := 0, locals := 145 }
set_option maxHeartbeats 4000000 in
set_option maxRecDepth 100000 in
theorem k_X7_sheet {l : Launch} {E : en_T} (hE : ShF E) {x1 : Int32} {x2 : Int32} {x3 : Int32} {σ : sg_T} {r : Int32} {σ' : sg_T} (hf : f_X7_sheet x1 x2 x3 σ = some (r, σ')) : Ct l yX7_sheet cX7_sheet 4 (some .int) rm_X7_sheet E [.ref (eP E 0), .int x1, .int x2, .int x3] σ (some (.int r)) σ' := by
  refine Ct.start (by decide) hE.1 (Nat.le_of_ble_eq_true rfl) ?_
  intro p e s m below meth c X hw ls hl
  have X : Cx E p s m _ meth c cX7_sheet 4 RX7 (some .int) := X
  have hR : ShR E := hE.r
  have hl : lv_has ls 4 [(0, .ref (eP E 0)), (1, .int x1), (2, .int x2), (3, .int x3)] := hl
  unfold f_X7_sheet at hf
  refine lv_iload_n X.1 X.2.1 dX7_sheet_0 rfl (lv_at hl 1 rfl) ?_
  obtain ⟨r2, h1, hf⟩ := b_bd1 hf
  refine r_callS X hw (k_X7_isSheet hE  h1) qw723 qw724 qw67 qw725 okX7_isSheet ⟨rfl, rfl⟩ ⟨(Nat.le_of_ble_eq_true rfl), (Nat.le_of_ble_eq_true rfl)⟩ ⟨Nat.zero_le _, Nat.zero_le _⟩ rfl hl.1 (rest := []) rfl (Nat.le_of_ble_eq_true rfl) dX7_sheet_1 (st1 := [.int r2]) rfl (fun H locs hw => ?_)
  refine lv_if_eq (tgt := 19) X.1 X.2.1 dX7_sheet_4 (by decide) (fun c3 => ?_) (fun c3 => ?_)
  · have hf := if_t hf c3
    refine lv_bipush (v := (-2)) X.1 X.2.1 dX7_sheet_19 (by decide) ?_
    obtain ⟨rfl, rfl⟩ := Prod.mk.inj (Option.some.inj hf)
    exact r_iret X hw dX7_sheet_21
  · have hf := if_e hf c3
    refine lv_iload_n X.1 X.2.1 dX7_sheet_7 rfl (lv_at hl 2 rfl) ?_
    refine lv_iconst (v := (-1)) X.1 X.2.1 dX7_sheet_8 (by decide) ?_
    refine lv_icmp_eq (tgt := 22) X.1 X.2.1 dX7_sheet_9 (by decide) (fun c4 => ?_) (fun c4 => ?_)
    · have hf := if_t hf c4
      refine lv_iload_n X.1 X.2.1 dX7_sheet_22 rfl (lv_at hl 2 rfl) ?_
      refine lv_iconst (v := (-1)) X.1 X.2.1 dX7_sheet_23 (by decide) ?_
      refine lv_icmp_eq (tgt := 36) X.1 X.2.1 dX7_sheet_24 (by decide) (fun c5 => ?_) (fun c5 => ?_)
      · have hf := if_t hf c5
        refine lv_iload_n X.1 X.2.1 dX7_sheet_36 rfl (lv_at hl 2 rfl) ?_
        refine lv_iconst (v := (-1)) X.1 X.2.1 dX7_sheet_37 (by decide) ?_
        refine lv_icmp_eq (tgt := 48) X.1 X.2.1 dX7_sheet_38 (by decide) (fun c6 => ?_) (fun c6 => ?_)
        · have hf := if_t hf c6
          refine lv_aload_n X.1 X.2.1 dX7_sheet_48 rfl (lv_at hl 0 rfl) ?_
          refine r_get X hw (sp0 hE) (C := RX7) (T := TX7) (N := 9) rfl iwX7 7 (by decide) (Nat.le_of_ble_eq_true rfl) qw425 (v := .ref (eP E 60)) rfl dX7_sheet_49 ?_
          refine lv_iload_n X.1 X.2.1 dX7_sheet_52 rfl (lv_at hl 1 rfl) ?_
          obtain ⟨h7, hf⟩ := b_ck hf
          refine r_aaldS X hw (sp60 hE) (q := (61 + 2 * x1.toNatClampNeg)) h7 (tqs h7) dX7_sheet_53 ?_
          refine lv_iload_n X.1 X.2.1 dX7_sheet_54 rfl (lv_at hl 2 rfl) ?_
          refine lv_iload_n X.1 X.2.1 dX7_sheet_55 rfl (lv_at hl 2 rfl) ?_
          refine lv_iconst (v := (-1)) X.1 X.2.1 dX7_sheet_56 (by decide) ?_
          obtain ⟨v9, e10, hf⟩ := b_bnd hf
          refine r_join (g2 := F0 m 65 ls [.int v9, .int x2, .ref (eP E (61 + 2 * x1.toNatClampNeg))]) ?_ (fun hj => ?_)
          · obtain ⟨σ12, h11, hf⟩ := b_bd1 hf
            refine r_callV X hw (k_X4_become hE (isS_of h7) h11) (spS0 hE (isS_of h7)) (C := RX4) (T := TX4) (N := 3) rfl qw770 qw771 qw772 qw78 qw773 okX4_become ⟨rfl, rfl⟩ ⟨(Nat.le_of_ble_eq_true rfl), (Nat.le_of_ble_eq_true rfl)⟩ ⟨Nat.zero_le _, Nat.zero_le _⟩ rfl hl.1 (rest := []) rfl (Nat.le_of_ble_eq_true rfl) dX7_sheet_65 (st1 := []) rfl (fun H locs hw => ?_)
            refine lv_iconst (v := 1) X.1 X.2.1 dX7_sheet_68 (by decide) ?_
            obtain ⟨rfl, rfl⟩ := Prod.mk.inj (Option.some.inj hf)
            exact r_iret X hw dX7_sheet_69
          · refine lv_icmp_ne (tgt := 64) X.1 X.2.1 dX7_sheet_57 (by decide) (fun c8 => ?_) (fun c8 => ?_)
            · rw [e10, if_neg c8] at hj
              refine lv_iload_n X.1 X.2.1 dX7_sheet_64 rfl (lv_at hl 3 rfl) ?_
              exact hj
            · rw [e10, if_pos c8] at hj
              refine lv_iconst (v := 0) X.1 X.2.1 dX7_sheet_60 (by decide) ?_
              refine lv_goto (tgt := 65) X.1 X.2.1 dX7_sheet_61 (by decide) ?_
              exact hj
        · have hf := if_e hf c6
          refine lv_iload_n X.1 X.2.1 dX7_sheet_41 rfl (lv_at hl 3 rfl) ?_
          refine lv_if_ge (tgt := 48) X.1 X.2.1 dX7_sheet_42 (by decide) (fun c13 => ?_) (fun c13 => ?_)
          · have hf := if_t hf c13
            refine lv_aload_n X.1 X.2.1 dX7_sheet_48 rfl (lv_at hl 0 rfl) ?_
            refine r_get X hw (sp0 hE) (C := RX7) (T := TX7) (N := 9) rfl iwX7 7 (by decide) (Nat.le_of_ble_eq_true rfl) qw425 (v := .ref (eP E 60)) rfl dX7_sheet_49 ?_
            refine lv_iload_n X.1 X.2.1 dX7_sheet_52 rfl (lv_at hl 1 rfl) ?_
            obtain ⟨h14, hf⟩ := b_ck hf
            refine r_aaldS X hw (sp60 hE) (q := (61 + 2 * x1.toNatClampNeg)) h14 (tqs h14) dX7_sheet_53 ?_
            refine lv_iload_n X.1 X.2.1 dX7_sheet_54 rfl (lv_at hl 2 rfl) ?_
            refine lv_iload_n X.1 X.2.1 dX7_sheet_55 rfl (lv_at hl 2 rfl) ?_
            refine lv_iconst (v := (-1)) X.1 X.2.1 dX7_sheet_56 (by decide) ?_
            obtain ⟨v16, e17, hf⟩ := b_bnd hf
            refine r_join (g2 := F0 m 65 ls [.int v16, .int x2, .ref (eP E (61 + 2 * x1.toNatClampNeg))]) ?_ (fun hj => ?_)
            · obtain ⟨σ19, h18, hf⟩ := b_bd1 hf
              refine r_callV X hw (k_X4_become hE (isS_of h14) h18) (spS0 hE (isS_of h14)) (C := RX4) (T := TX4) (N := 3) rfl qw770 qw771 qw772 qw78 qw773 okX4_become ⟨rfl, rfl⟩ ⟨(Nat.le_of_ble_eq_true rfl), (Nat.le_of_ble_eq_true rfl)⟩ ⟨Nat.zero_le _, Nat.zero_le _⟩ rfl hl.1 (rest := []) rfl (Nat.le_of_ble_eq_true rfl) dX7_sheet_65 (st1 := []) rfl (fun H locs hw => ?_)
              refine lv_iconst (v := 1) X.1 X.2.1 dX7_sheet_68 (by decide) ?_
              obtain ⟨rfl, rfl⟩ := Prod.mk.inj (Option.some.inj hf)
              exact r_iret X hw dX7_sheet_69
            · refine lv_icmp_ne (tgt := 64) X.1 X.2.1 dX7_sheet_57 (by decide) (fun c15 => ?_) (fun c15 => ?_)
              · rw [e17, if_neg c15] at hj
                refine lv_iload_n X.1 X.2.1 dX7_sheet_64 rfl (lv_at hl 3 rfl) ?_
                exact hj
              · rw [e17, if_pos c15] at hj
                refine lv_iconst (v := 0) X.1 X.2.1 dX7_sheet_60 (by decide) ?_
                refine lv_goto (tgt := 65) X.1 X.2.1 dX7_sheet_61 (by decide) ?_
                exact hj
          · have hf := if_e hf c13
            refine lv_bipush (v := (-14)) X.1 X.2.1 dX7_sheet_45 (by decide) ?_
            obtain ⟨rfl, rfl⟩ := Prod.mk.inj (Option.some.inj hf)
            exact r_iret X hw dX7_sheet_47
      · have hf := if_e hf c5
        refine lv_iload_n X.1 X.2.1 dX7_sheet_27 rfl (lv_at hl 3 rfl) ?_
        refine lv_bipush (v := 40) X.1 X.2.1 dX7_sheet_28 (by decide) ?_
        refine lv_icmp_le (tgt := 36) X.1 X.2.1 dX7_sheet_30 (by decide) (fun c20 => ?_) (fun c20 => ?_)
        · have hf := if_t hf c20
          refine lv_iload_n X.1 X.2.1 dX7_sheet_36 rfl (lv_at hl 2 rfl) ?_
          refine lv_iconst (v := (-1)) X.1 X.2.1 dX7_sheet_37 (by decide) ?_
          refine lv_icmp_eq (tgt := 48) X.1 X.2.1 dX7_sheet_38 (by decide) (fun c21 => ?_) (fun c21 => ?_)
          · have hf := if_t hf c21
            refine lv_aload_n X.1 X.2.1 dX7_sheet_48 rfl (lv_at hl 0 rfl) ?_
            refine r_get X hw (sp0 hE) (C := RX7) (T := TX7) (N := 9) rfl iwX7 7 (by decide) (Nat.le_of_ble_eq_true rfl) qw425 (v := .ref (eP E 60)) rfl dX7_sheet_49 ?_
            refine lv_iload_n X.1 X.2.1 dX7_sheet_52 rfl (lv_at hl 1 rfl) ?_
            obtain ⟨h22, hf⟩ := b_ck hf
            refine r_aaldS X hw (sp60 hE) (q := (61 + 2 * x1.toNatClampNeg)) h22 (tqs h22) dX7_sheet_53 ?_
            refine lv_iload_n X.1 X.2.1 dX7_sheet_54 rfl (lv_at hl 2 rfl) ?_
            refine lv_iload_n X.1 X.2.1 dX7_sheet_55 rfl (lv_at hl 2 rfl) ?_
            refine lv_iconst (v := (-1)) X.1 X.2.1 dX7_sheet_56 (by decide) ?_
            obtain ⟨v24, e25, hf⟩ := b_bnd hf
            refine r_join (g2 := F0 m 65 ls [.int v24, .int x2, .ref (eP E (61 + 2 * x1.toNatClampNeg))]) ?_ (fun hj => ?_)
            · obtain ⟨σ27, h26, hf⟩ := b_bd1 hf
              refine r_callV X hw (k_X4_become hE (isS_of h22) h26) (spS0 hE (isS_of h22)) (C := RX4) (T := TX4) (N := 3) rfl qw770 qw771 qw772 qw78 qw773 okX4_become ⟨rfl, rfl⟩ ⟨(Nat.le_of_ble_eq_true rfl), (Nat.le_of_ble_eq_true rfl)⟩ ⟨Nat.zero_le _, Nat.zero_le _⟩ rfl hl.1 (rest := []) rfl (Nat.le_of_ble_eq_true rfl) dX7_sheet_65 (st1 := []) rfl (fun H locs hw => ?_)
              refine lv_iconst (v := 1) X.1 X.2.1 dX7_sheet_68 (by decide) ?_
              obtain ⟨rfl, rfl⟩ := Prod.mk.inj (Option.some.inj hf)
              exact r_iret X hw dX7_sheet_69
            · refine lv_icmp_ne (tgt := 64) X.1 X.2.1 dX7_sheet_57 (by decide) (fun c23 => ?_) (fun c23 => ?_)
              · rw [e25, if_neg c23] at hj
                refine lv_iload_n X.1 X.2.1 dX7_sheet_64 rfl (lv_at hl 3 rfl) ?_
                exact hj
              · rw [e25, if_pos c23] at hj
                refine lv_iconst (v := 0) X.1 X.2.1 dX7_sheet_60 (by decide) ?_
                refine lv_goto (tgt := 65) X.1 X.2.1 dX7_sheet_61 (by decide) ?_
                exact hj
          · have hf := if_e hf c21
            refine lv_iload_n X.1 X.2.1 dX7_sheet_41 rfl (lv_at hl 3 rfl) ?_
            refine lv_if_ge (tgt := 48) X.1 X.2.1 dX7_sheet_42 (by decide) (fun c28 => ?_) (fun c28 => ?_)
            · have hf := if_t hf c28
              refine lv_aload_n X.1 X.2.1 dX7_sheet_48 rfl (lv_at hl 0 rfl) ?_
              refine r_get X hw (sp0 hE) (C := RX7) (T := TX7) (N := 9) rfl iwX7 7 (by decide) (Nat.le_of_ble_eq_true rfl) qw425 (v := .ref (eP E 60)) rfl dX7_sheet_49 ?_
              refine lv_iload_n X.1 X.2.1 dX7_sheet_52 rfl (lv_at hl 1 rfl) ?_
              obtain ⟨h29, hf⟩ := b_ck hf
              refine r_aaldS X hw (sp60 hE) (q := (61 + 2 * x1.toNatClampNeg)) h29 (tqs h29) dX7_sheet_53 ?_
              refine lv_iload_n X.1 X.2.1 dX7_sheet_54 rfl (lv_at hl 2 rfl) ?_
              refine lv_iload_n X.1 X.2.1 dX7_sheet_55 rfl (lv_at hl 2 rfl) ?_
              refine lv_iconst (v := (-1)) X.1 X.2.1 dX7_sheet_56 (by decide) ?_
              obtain ⟨v31, e32, hf⟩ := b_bnd hf
              refine r_join (g2 := F0 m 65 ls [.int v31, .int x2, .ref (eP E (61 + 2 * x1.toNatClampNeg))]) ?_ (fun hj => ?_)
              · obtain ⟨σ34, h33, hf⟩ := b_bd1 hf
                refine r_callV X hw (k_X4_become hE (isS_of h29) h33) (spS0 hE (isS_of h29)) (C := RX4) (T := TX4) (N := 3) rfl qw770 qw771 qw772 qw78 qw773 okX4_become ⟨rfl, rfl⟩ ⟨(Nat.le_of_ble_eq_true rfl), (Nat.le_of_ble_eq_true rfl)⟩ ⟨Nat.zero_le _, Nat.zero_le _⟩ rfl hl.1 (rest := []) rfl (Nat.le_of_ble_eq_true rfl) dX7_sheet_65 (st1 := []) rfl (fun H locs hw => ?_)
                refine lv_iconst (v := 1) X.1 X.2.1 dX7_sheet_68 (by decide) ?_
                obtain ⟨rfl, rfl⟩ := Prod.mk.inj (Option.some.inj hf)
                exact r_iret X hw dX7_sheet_69
              · refine lv_icmp_ne (tgt := 64) X.1 X.2.1 dX7_sheet_57 (by decide) (fun c30 => ?_) (fun c30 => ?_)
                · rw [e32, if_neg c30] at hj
                  refine lv_iload_n X.1 X.2.1 dX7_sheet_64 rfl (lv_at hl 3 rfl) ?_
                  exact hj
                · rw [e32, if_pos c30] at hj
                  refine lv_iconst (v := 0) X.1 X.2.1 dX7_sheet_60 (by decide) ?_
                  refine lv_goto (tgt := 65) X.1 X.2.1 dX7_sheet_61 (by decide) ?_
                  exact hj
            · have hf := if_e hf c28
              refine lv_bipush (v := (-14)) X.1 X.2.1 dX7_sheet_45 (by decide) ?_
              obtain ⟨rfl, rfl⟩ := Prod.mk.inj (Option.some.inj hf)
              exact r_iret X hw dX7_sheet_47
        · have hf := if_e hf c20
          refine lv_bipush (v := (-2)) X.1 X.2.1 dX7_sheet_33 (by decide) ?_
          obtain ⟨rfl, rfl⟩ := Prod.mk.inj (Option.some.inj hf)
          exact r_iret X hw dX7_sheet_35
    · have hf := if_e hf c4
      refine lv_iload_n X.1 X.2.1 dX7_sheet_12 rfl (lv_at hl 2 rfl) ?_
      obtain ⟨r36, h35, hf⟩ := b_bd1 hf
      refine r_callS X hw (k_X7_isSort hE  h35) qw818 qw819 qw67 qw820 okX7_isSort ⟨rfl, rfl⟩ ⟨(Nat.le_of_ble_eq_true rfl), (Nat.le_of_ble_eq_true rfl)⟩ ⟨Nat.zero_le _, Nat.zero_le _⟩ rfl hl.1 (rest := []) rfl (Nat.le_of_ble_eq_true rfl) dX7_sheet_13 (st1 := [.int r36]) rfl (fun H locs hw => ?_)
      refine lv_if_ne (tgt := 22) X.1 X.2.1 dX7_sheet_16 (by decide) (fun c37 => ?_) (fun c37 => ?_)
      · have hf := if_e hf c37
        refine lv_iload_n X.1 X.2.1 dX7_sheet_22 rfl (lv_at hl 2 rfl) ?_
        refine lv_iconst (v := (-1)) X.1 X.2.1 dX7_sheet_23 (by decide) ?_
        refine lv_icmp_eq (tgt := 36) X.1 X.2.1 dX7_sheet_24 (by decide) (fun c38 => ?_) (fun c38 => ?_)
        · have hf := if_t hf c38
          refine lv_iload_n X.1 X.2.1 dX7_sheet_36 rfl (lv_at hl 2 rfl) ?_
          refine lv_iconst (v := (-1)) X.1 X.2.1 dX7_sheet_37 (by decide) ?_
          refine lv_icmp_eq (tgt := 48) X.1 X.2.1 dX7_sheet_38 (by decide) (fun c39 => ?_) (fun c39 => ?_)
          · have hf := if_t hf c39
            refine lv_aload_n X.1 X.2.1 dX7_sheet_48 rfl (lv_at hl 0 rfl) ?_
            refine r_get X hw (sp0 hE) (C := RX7) (T := TX7) (N := 9) rfl iwX7 7 (by decide) (Nat.le_of_ble_eq_true rfl) qw425 (v := .ref (eP E 60)) rfl dX7_sheet_49 ?_
            refine lv_iload_n X.1 X.2.1 dX7_sheet_52 rfl (lv_at hl 1 rfl) ?_
            obtain ⟨h40, hf⟩ := b_ck hf
            refine r_aaldS X hw (sp60 hE) (q := (61 + 2 * x1.toNatClampNeg)) h40 (tqs h40) dX7_sheet_53 ?_
            refine lv_iload_n X.1 X.2.1 dX7_sheet_54 rfl (lv_at hl 2 rfl) ?_
            refine lv_iload_n X.1 X.2.1 dX7_sheet_55 rfl (lv_at hl 2 rfl) ?_
            refine lv_iconst (v := (-1)) X.1 X.2.1 dX7_sheet_56 (by decide) ?_
            obtain ⟨v42, e43, hf⟩ := b_bnd hf
            refine r_join (g2 := F0 m 65 ls [.int v42, .int x2, .ref (eP E (61 + 2 * x1.toNatClampNeg))]) ?_ (fun hj => ?_)
            · obtain ⟨σ45, h44, hf⟩ := b_bd1 hf
              refine r_callV X hw (k_X4_become hE (isS_of h40) h44) (spS0 hE (isS_of h40)) (C := RX4) (T := TX4) (N := 3) rfl qw770 qw771 qw772 qw78 qw773 okX4_become ⟨rfl, rfl⟩ ⟨(Nat.le_of_ble_eq_true rfl), (Nat.le_of_ble_eq_true rfl)⟩ ⟨Nat.zero_le _, Nat.zero_le _⟩ rfl hl.1 (rest := []) rfl (Nat.le_of_ble_eq_true rfl) dX7_sheet_65 (st1 := []) rfl (fun H locs hw => ?_)
              refine lv_iconst (v := 1) X.1 X.2.1 dX7_sheet_68 (by decide) ?_
              obtain ⟨rfl, rfl⟩ := Prod.mk.inj (Option.some.inj hf)
              exact r_iret X hw dX7_sheet_69
            · refine lv_icmp_ne (tgt := 64) X.1 X.2.1 dX7_sheet_57 (by decide) (fun c41 => ?_) (fun c41 => ?_)
              · rw [e43, if_neg c41] at hj
                refine lv_iload_n X.1 X.2.1 dX7_sheet_64 rfl (lv_at hl 3 rfl) ?_
                exact hj
              · rw [e43, if_pos c41] at hj
                refine lv_iconst (v := 0) X.1 X.2.1 dX7_sheet_60 (by decide) ?_
                refine lv_goto (tgt := 65) X.1 X.2.1 dX7_sheet_61 (by decide) ?_
                exact hj
          · have hf := if_e hf c39
            refine lv_iload_n X.1 X.2.1 dX7_sheet_41 rfl (lv_at hl 3 rfl) ?_
            refine lv_if_ge (tgt := 48) X.1 X.2.1 dX7_sheet_42 (by decide) (fun c46 => ?_) (fun c46 => ?_)
            · have hf := if_t hf c46
              refine lv_aload_n X.1 X.2.1 dX7_sheet_48 rfl (lv_at hl 0 rfl) ?_
              refine r_get X hw (sp0 hE) (C := RX7) (T := TX7) (N := 9) rfl iwX7 7 (by decide) (Nat.le_of_ble_eq_true rfl) qw425 (v := .ref (eP E 60)) rfl dX7_sheet_49 ?_
              refine lv_iload_n X.1 X.2.1 dX7_sheet_52 rfl (lv_at hl 1 rfl) ?_
              obtain ⟨h47, hf⟩ := b_ck hf
              refine r_aaldS X hw (sp60 hE) (q := (61 + 2 * x1.toNatClampNeg)) h47 (tqs h47) dX7_sheet_53 ?_
              refine lv_iload_n X.1 X.2.1 dX7_sheet_54 rfl (lv_at hl 2 rfl) ?_
              refine lv_iload_n X.1 X.2.1 dX7_sheet_55 rfl (lv_at hl 2 rfl) ?_
              refine lv_iconst (v := (-1)) X.1 X.2.1 dX7_sheet_56 (by decide) ?_
              obtain ⟨v49, e50, hf⟩ := b_bnd hf
              refine r_join (g2 := F0 m 65 ls [.int v49, .int x2, .ref (eP E (61 + 2 * x1.toNatClampNeg))]) ?_ (fun hj => ?_)
              · obtain ⟨σ52, h51, hf⟩ := b_bd1 hf
                refine r_callV X hw (k_X4_become hE (isS_of h47) h51) (spS0 hE (isS_of h47)) (C := RX4) (T := TX4) (N := 3) rfl qw770 qw771 qw772 qw78 qw773 okX4_become ⟨rfl, rfl⟩ ⟨(Nat.le_of_ble_eq_true rfl), (Nat.le_of_ble_eq_true rfl)⟩ ⟨Nat.zero_le _, Nat.zero_le _⟩ rfl hl.1 (rest := []) rfl (Nat.le_of_ble_eq_true rfl) dX7_sheet_65 (st1 := []) rfl (fun H locs hw => ?_)
                refine lv_iconst (v := 1) X.1 X.2.1 dX7_sheet_68 (by decide) ?_
                obtain ⟨rfl, rfl⟩ := Prod.mk.inj (Option.some.inj hf)
                exact r_iret X hw dX7_sheet_69
              · refine lv_icmp_ne (tgt := 64) X.1 X.2.1 dX7_sheet_57 (by decide) (fun c48 => ?_) (fun c48 => ?_)
                · rw [e50, if_neg c48] at hj
                  refine lv_iload_n X.1 X.2.1 dX7_sheet_64 rfl (lv_at hl 3 rfl) ?_
                  exact hj
                · rw [e50, if_pos c48] at hj
                  refine lv_iconst (v := 0) X.1 X.2.1 dX7_sheet_60 (by decide) ?_
                  refine lv_goto (tgt := 65) X.1 X.2.1 dX7_sheet_61 (by decide) ?_
                  exact hj
            · have hf := if_e hf c46
              refine lv_bipush (v := (-14)) X.1 X.2.1 dX7_sheet_45 (by decide) ?_
              obtain ⟨rfl, rfl⟩ := Prod.mk.inj (Option.some.inj hf)
              exact r_iret X hw dX7_sheet_47
        · have hf := if_e hf c38
          refine lv_iload_n X.1 X.2.1 dX7_sheet_27 rfl (lv_at hl 3 rfl) ?_
          refine lv_bipush (v := 40) X.1 X.2.1 dX7_sheet_28 (by decide) ?_
          refine lv_icmp_le (tgt := 36) X.1 X.2.1 dX7_sheet_30 (by decide) (fun c53 => ?_) (fun c53 => ?_)
          · have hf := if_t hf c53
            refine lv_iload_n X.1 X.2.1 dX7_sheet_36 rfl (lv_at hl 2 rfl) ?_
            refine lv_iconst (v := (-1)) X.1 X.2.1 dX7_sheet_37 (by decide) ?_
            refine lv_icmp_eq (tgt := 48) X.1 X.2.1 dX7_sheet_38 (by decide) (fun c54 => ?_) (fun c54 => ?_)
            · have hf := if_t hf c54
              refine lv_aload_n X.1 X.2.1 dX7_sheet_48 rfl (lv_at hl 0 rfl) ?_
              refine r_get X hw (sp0 hE) (C := RX7) (T := TX7) (N := 9) rfl iwX7 7 (by decide) (Nat.le_of_ble_eq_true rfl) qw425 (v := .ref (eP E 60)) rfl dX7_sheet_49 ?_
              refine lv_iload_n X.1 X.2.1 dX7_sheet_52 rfl (lv_at hl 1 rfl) ?_
              obtain ⟨h55, hf⟩ := b_ck hf
              refine r_aaldS X hw (sp60 hE) (q := (61 + 2 * x1.toNatClampNeg)) h55 (tqs h55) dX7_sheet_53 ?_
              refine lv_iload_n X.1 X.2.1 dX7_sheet_54 rfl (lv_at hl 2 rfl) ?_
              refine lv_iload_n X.1 X.2.1 dX7_sheet_55 rfl (lv_at hl 2 rfl) ?_
              refine lv_iconst (v := (-1)) X.1 X.2.1 dX7_sheet_56 (by decide) ?_
              obtain ⟨v57, e58, hf⟩ := b_bnd hf
              refine r_join (g2 := F0 m 65 ls [.int v57, .int x2, .ref (eP E (61 + 2 * x1.toNatClampNeg))]) ?_ (fun hj => ?_)
              · obtain ⟨σ60, h59, hf⟩ := b_bd1 hf
                refine r_callV X hw (k_X4_become hE (isS_of h55) h59) (spS0 hE (isS_of h55)) (C := RX4) (T := TX4) (N := 3) rfl qw770 qw771 qw772 qw78 qw773 okX4_become ⟨rfl, rfl⟩ ⟨(Nat.le_of_ble_eq_true rfl), (Nat.le_of_ble_eq_true rfl)⟩ ⟨Nat.zero_le _, Nat.zero_le _⟩ rfl hl.1 (rest := []) rfl (Nat.le_of_ble_eq_true rfl) dX7_sheet_65 (st1 := []) rfl (fun H locs hw => ?_)
                refine lv_iconst (v := 1) X.1 X.2.1 dX7_sheet_68 (by decide) ?_
                obtain ⟨rfl, rfl⟩ := Prod.mk.inj (Option.some.inj hf)
                exact r_iret X hw dX7_sheet_69
              · refine lv_icmp_ne (tgt := 64) X.1 X.2.1 dX7_sheet_57 (by decide) (fun c56 => ?_) (fun c56 => ?_)
                · rw [e58, if_neg c56] at hj
                  refine lv_iload_n X.1 X.2.1 dX7_sheet_64 rfl (lv_at hl 3 rfl) ?_
                  exact hj
                · rw [e58, if_pos c56] at hj
                  refine lv_iconst (v := 0) X.1 X.2.1 dX7_sheet_60 (by decide) ?_
                  refine lv_goto (tgt := 65) X.1 X.2.1 dX7_sheet_61 (by decide) ?_
                  exact hj
            · have hf := if_e hf c54
              refine lv_iload_n X.1 X.2.1 dX7_sheet_41 rfl (lv_at hl 3 rfl) ?_
              refine lv_if_ge (tgt := 48) X.1 X.2.1 dX7_sheet_42 (by decide) (fun c61 => ?_) (fun c61 => ?_)
              · have hf := if_t hf c61
                refine lv_aload_n X.1 X.2.1 dX7_sheet_48 rfl (lv_at hl 0 rfl) ?_
                refine r_get X hw (sp0 hE) (C := RX7) (T := TX7) (N := 9) rfl iwX7 7 (by decide) (Nat.le_of_ble_eq_true rfl) qw425 (v := .ref (eP E 60)) rfl dX7_sheet_49 ?_
                refine lv_iload_n X.1 X.2.1 dX7_sheet_52 rfl (lv_at hl 1 rfl) ?_
                obtain ⟨h62, hf⟩ := b_ck hf
                refine r_aaldS X hw (sp60 hE) (q := (61 + 2 * x1.toNatClampNeg)) h62 (tqs h62) dX7_sheet_53 ?_
                refine lv_iload_n X.1 X.2.1 dX7_sheet_54 rfl (lv_at hl 2 rfl) ?_
                refine lv_iload_n X.1 X.2.1 dX7_sheet_55 rfl (lv_at hl 2 rfl) ?_
                refine lv_iconst (v := (-1)) X.1 X.2.1 dX7_sheet_56 (by decide) ?_
                obtain ⟨v64, e65, hf⟩ := b_bnd hf
                refine r_join (g2 := F0 m 65 ls [.int v64, .int x2, .ref (eP E (61 + 2 * x1.toNatClampNeg))]) ?_ (fun hj => ?_)
                · obtain ⟨σ67, h66, hf⟩ := b_bd1 hf
                  refine r_callV X hw (k_X4_become hE (isS_of h62) h66) (spS0 hE (isS_of h62)) (C := RX4) (T := TX4) (N := 3) rfl qw770 qw771 qw772 qw78 qw773 okX4_become ⟨rfl, rfl⟩ ⟨(Nat.le_of_ble_eq_true rfl), (Nat.le_of_ble_eq_true rfl)⟩ ⟨Nat.zero_le _, Nat.zero_le _⟩ rfl hl.1 (rest := []) rfl (Nat.le_of_ble_eq_true rfl) dX7_sheet_65 (st1 := []) rfl (fun H locs hw => ?_)
                  refine lv_iconst (v := 1) X.1 X.2.1 dX7_sheet_68 (by decide) ?_
                  obtain ⟨rfl, rfl⟩ := Prod.mk.inj (Option.some.inj hf)
                  exact r_iret X hw dX7_sheet_69
                · refine lv_icmp_ne (tgt := 64) X.1 X.2.1 dX7_sheet_57 (by decide) (fun c63 => ?_) (fun c63 => ?_)
                  · rw [e65, if_neg c63] at hj
                    refine lv_iload_n X.1 X.2.1 dX7_sheet_64 rfl (lv_at hl 3 rfl) ?_
                    exact hj
                  · rw [e65, if_pos c63] at hj
                    refine lv_iconst (v := 0) X.1 X.2.1 dX7_sheet_60 (by decide) ?_
                    refine lv_goto (tgt := 65) X.1 X.2.1 dX7_sheet_61 (by decide) ?_
                    exact hj
              · have hf := if_e hf c61
                refine lv_bipush (v := (-14)) X.1 X.2.1 dX7_sheet_45 (by decide) ?_
                obtain ⟨rfl, rfl⟩ := Prod.mk.inj (Option.some.inj hf)
                exact r_iret X hw dX7_sheet_47
          · have hf := if_e hf c53
            refine lv_bipush (v := (-2)) X.1 X.2.1 dX7_sheet_33 (by decide) ?_
            obtain ⟨rfl, rfl⟩ := Prod.mk.inj (Option.some.inj hf)
            exact r_iret X hw dX7_sheet_35
      · have hf := if_t hf c37
        refine lv_bipush (v := (-2)) X.1 X.2.1 dX7_sheet_19 (by decide) ?_
        obtain ⟨rfl, rfl⟩ := Prod.mk.inj (Option.some.inj hf)
        exact r_iret X hw dX7_sheet_21
abbrev rm_X7_cell : Room := { frames := 1, cells := 0, slots := 0, locals := 100 }
set_option maxHeartbeats 4000000 in
set_option maxRecDepth 100000 in
theorem k_X7_cell {l : Launch} {E : en_T} (hE : ShF E) {x1 : Int32} {x2 : Int32} {x3 : Int32} {σ : sg_T} {r : Int32} {σ' : sg_T} (hf : f_X7_cell x1 x2 x3 σ = some (r, σ')) : Ct l yX7_cell cX7_cell 5 (some .int) rm_X7_cell E [.ref (eP E 0), .int x1, .int x2, .int x3] σ (some (.int r)) σ' := by
  refine Ct.start (by decide) hE.1 (Nat.le_of_ble_eq_true rfl) ?_
  intro p e s m below meth c X hw ls hl
  have X : Cx E p s m _ meth c cX7_cell 5 RX7 (some .int) := X
  have hR : ShR E := hE.r
  have hl : lv_has ls 5 [(0, .ref (eP E 0)), (1, .int x1), (2, .int x2), (3, .int x3)] := hl
  unfold f_X7_cell at hf
  refine lv_iload_n X.1 X.2.1 dX7_cell_0 rfl (lv_at hl 1 rfl) ?_
  obtain ⟨r2, h1, hf⟩ := b_bd1 hf
  refine r_callS X hw (k_X7_isSheet hE  h1) qw723 qw724 qw67 qw725 okX7_isSheet ⟨rfl, rfl⟩ ⟨(Nat.le_of_ble_eq_true rfl), (Nat.le_of_ble_eq_true rfl)⟩ ⟨Nat.zero_le _, Nat.zero_le _⟩ rfl hl.1 (rest := []) rfl (Nat.le_of_ble_eq_true rfl) dX7_cell_1 (st1 := [.int r2]) rfl (fun H locs hw => ?_)
  refine lv_if_ne (tgt := 10) X.1 X.2.1 dX7_cell_4 (by decide) (fun c3 => ?_) (fun c3 => ?_)
  · have hf := if_e hf c3
    refine lv_aload_n X.1 X.2.1 dX7_cell_10 rfl (lv_at hl 0 rfl) ?_
    refine r_get X hw (sp0 hE) (C := RX7) (T := TX7) (N := 9) rfl iwX7 7 (by decide) (Nat.le_of_ble_eq_true rfl) qw425 (v := .ref (eP E 60)) rfl dX7_cell_11 ?_
    refine lv_iload_n X.1 X.2.1 dX7_cell_14 rfl (lv_at hl 1 rfl) ?_
    obtain ⟨h4, hf⟩ := b_ck hf
    refine r_aaldS X hw (sp60 hE) (q := (61 + 2 * x1.toNatClampNeg)) h4 (tqs h4) dX7_cell_15 ?_
    refine lv_astore (lv' := [(4, .ref (eP E (61 + 2 * x1.toNatClampNeg))), (0, .ref (eP E 0)), (1, .int x1), (2, .int x2), (3, .int x3)]) X.1 X.2.1 dX7_cell_16 hl (by decide) rfl (fun ls hl => ?_)
    refine lv_aload X.1 X.2.1 dX7_cell_18 (lv_at hl 0 rfl) ?_
    obtain ⟨r6, h5, hf⟩ := b_bd1 hf
    refine r_callV X hw (k_X4_isMissing hE (isS_of h4) h5) (spS0 hE (isS_of h4)) (C := RX4) (T := TX4) (N := 3) rfl qw726 qw727 qw728 qw78 qw729 okX4_isMissing ⟨rfl, rfl⟩ ⟨(Nat.le_of_ble_eq_true rfl), (Nat.le_of_ble_eq_true rfl)⟩ ⟨Nat.zero_le _, Nat.zero_le _⟩ rfl hl.1 (rest := []) rfl (Nat.le_of_ble_eq_true rfl) dX7_cell_20 (st1 := [.int r6]) rfl (fun H locs hw => ?_)
    refine lv_if_eq (tgt := 29) X.1 X.2.1 dX7_cell_23 (by decide) (fun c7 => ?_) (fun c7 => ?_)
    · have hf := if_t hf c7
      refine lv_aload X.1 X.2.1 dX7_cell_29 (lv_at hl 0 rfl) ?_
      refine lv_iload_n X.1 X.2.1 dX7_cell_31 rfl (lv_at hl 3 rfl) ?_
      refine lv_iconst (v := 1) X.1 X.2.1 dX7_cell_32 (by decide) ?_
      obtain ⟨r9, h8, hf⟩ := b_bd1 hf
      refine r_callV X hw (k_X4_hasRange hE (isS_of h4) h8) (spS0 hE (isS_of h4)) (C := RX4) (T := TX4) (N := 3) rfl qw825 qw826 qw827 qw78 qw828 okX4_hasRange ⟨rfl, rfl⟩ ⟨(Nat.le_of_ble_eq_true rfl), (Nat.le_of_ble_eq_true rfl)⟩ ⟨Nat.zero_le _, Nat.zero_le _⟩ rfl hl.1 (rest := []) rfl (Nat.le_of_ble_eq_true rfl) dX7_cell_33 (st1 := [.int r9]) rfl (fun H locs hw => ?_)
      refine lv_if_ne (tgt := 42) X.1 X.2.1 dX7_cell_36 (by decide) (fun c10 => ?_) (fun c10 => ?_)
      · have hf := if_e hf c10
        refine lv_aload X.1 X.2.1 dX7_cell_42 (lv_at hl 0 rfl) ?_
        refine lv_iload_n X.1 X.2.1 dX7_cell_44 rfl (lv_at hl 3 rfl) ?_
        refine lv_iload_n X.1 X.2.1 dX7_cell_45 rfl (lv_at hl 4 rfl) ?_
        obtain ⟨σ12, h11, hf⟩ := b_bd1 hf
        refine r_callV X hw (k_X4_put hE (isS_of h4) h11) (spS0 hE (isS_of h4)) (C := RX4) (T := TX4) (N := 3) rfl qw775 qw776 qw777 qw78 qw778 okX4_put ⟨rfl, rfl⟩ ⟨(Nat.le_of_ble_eq_true rfl), (Nat.le_of_ble_eq_true rfl)⟩ ⟨Nat.zero_le _, Nat.zero_le _⟩ rfl hl.1 (rest := []) rfl (Nat.le_of_ble_eq_true rfl) dX7_cell_46 (st1 := []) rfl (fun H locs hw => ?_)
        refine lv_iconst (v := 1) X.1 X.2.1 dX7_cell_49 (by decide) ?_
        obtain ⟨rfl, rfl⟩ := Prod.mk.inj (Option.some.inj hf)
        exact r_iret X hw dX7_cell_50
      · have hf := if_t hf c10
        refine lv_bipush (v := (-12)) X.1 X.2.1 dX7_cell_39 (by decide) ?_
        obtain ⟨rfl, rfl⟩ := Prod.mk.inj (Option.some.inj hf)
        exact r_iret X hw dX7_cell_41
    · have hf := if_e hf c7
      refine lv_bipush (v := (-11)) X.1 X.2.1 dX7_cell_26 (by decide) ?_
      obtain ⟨rfl, rfl⟩ := Prod.mk.inj (Option.some.inj hf)
      exact r_iret X hw dX7_cell_28
  · have hf := if_t hf c3
    refine lv_bipush (v := (-2)) X.1 X.2.1 dX7_cell_7 (by decide) ?_
    obtain ⟨rfl, rfl⟩ := Prod.mk.inj (Option.some.inj hf)
    exact r_iret X hw dX7_cell_9
abbrev rm_X7_copy : Room := { frames := 3, cells := 0, slots := 0, locals := 124 }
set_option maxHeartbeats 4000000 in
set_option maxRecDepth 100000 in
theorem k_X7_copy {l : Launch} {E : en_T} (hE : ShF E) {x1 : Int32} {x2 : Int32} {x3 : Int32} {x4 : Int32} {x5 : Int32} {σ : sg_T} {r : Int32} {σ' : sg_T} (hf : f_X7_copy x1 x2 x3 x4 x5 σ = some (r, σ')) : Ct l yX7_copy cX7_copy 8 (some .int) rm_X7_copy E [.ref (eP E 0), .int x1, .int x2, .int x3, .int x4, .int x5] σ (some (.int r)) σ' := by
  refine Ct.start (by decide) hE.1 (Nat.le_of_ble_eq_true rfl) ?_
  intro p e s m below meth c X hw ls hl
  have X : Cx E p s m _ meth c cX7_copy 8 RX7 (some .int) := X
  have hR : ShR E := hE.r
  have hl : lv_has ls 8 [(0, .ref (eP E 0)), (1, .int x1), (2, .int x2), (3, .int x3), (4, .int x4), (5, .int x5)] := hl
  unfold f_X7_copy at hf
  refine lv_iload_n X.1 X.2.1 dX7_copy_0 rfl (lv_at hl 1 rfl) ?_
  obtain ⟨r2, h1, hf⟩ := b_bd1 hf
  refine r_callS X hw (k_X7_isSheet hE  h1) qw723 qw724 qw67 qw725 okX7_isSheet ⟨rfl, rfl⟩ ⟨(Nat.le_of_ble_eq_true rfl), (Nat.le_of_ble_eq_true rfl)⟩ ⟨Nat.zero_le _, Nat.zero_le _⟩ rfl hl.1 (rest := []) rfl (Nat.le_of_ble_eq_true rfl) dX7_copy_1 (st1 := [.int r2]) rfl (fun H locs hw => ?_)
  refine lv_if_eq (tgt := 14) X.1 X.2.1 dX7_copy_4 (by decide) (fun c3 => ?_) (fun c3 => ?_)
  · have hf := if_t hf c3
    refine lv_bipush (v := (-2)) X.1 X.2.1 dX7_copy_14 (by decide) ?_
    obtain ⟨rfl, rfl⟩ := Prod.mk.inj (Option.some.inj hf)
    exact r_iret X hw dX7_copy_16
  · have hf := if_e hf c3
    refine lv_iload_n X.1 X.2.1 dX7_copy_7 rfl (lv_at hl 3 rfl) ?_
    obtain ⟨r5, h4, hf⟩ := b_bd1 hf
    refine r_callS X hw (k_X7_isSheet hE  h4) qw723 qw724 qw67 qw725 okX7_isSheet ⟨rfl, rfl⟩ ⟨(Nat.le_of_ble_eq_true rfl), (Nat.le_of_ble_eq_true rfl)⟩ ⟨Nat.zero_le _, Nat.zero_le _⟩ rfl hl.1 (rest := []) rfl (Nat.le_of_ble_eq_true rfl) dX7_copy_8 (st1 := [.int r5]) rfl (fun H locs hw => ?_)
    refine lv_if_ne (tgt := 17) X.1 X.2.1 dX7_copy_11 (by decide) (fun c6 => ?_) (fun c6 => ?_)
    · have hf := if_e hf c6
      refine lv_aload_n X.1 X.2.1 dX7_copy_17 rfl (lv_at hl 0 rfl) ?_
      refine r_get X hw (sp0 hE) (C := RX7) (T := TX7) (N := 9) rfl iwX7 7 (by decide) (Nat.le_of_ble_eq_true rfl) qw425 (v := .ref (eP E 60)) rfl dX7_copy_18 ?_
      refine lv_iload_n X.1 X.2.1 dX7_copy_21 rfl (lv_at hl 1 rfl) ?_
      obtain ⟨h7, hf⟩ := b_ck hf
      refine r_aaldS X hw (sp60 hE) (q := (61 + 2 * x1.toNatClampNeg)) h7 (tqs h7) dX7_copy_22 ?_
      refine lv_astore (lv' := [(6, .ref (eP E (61 + 2 * x1.toNatClampNeg))), (0, .ref (eP E 0)), (1, .int x1), (2, .int x2), (3, .int x3), (4, .int x4), (5, .int x5)]) X.1 X.2.1 dX7_copy_23 hl (by decide) rfl (fun ls hl => ?_)
      refine lv_aload_n X.1 X.2.1 dX7_copy_25 rfl (lv_at hl 1 rfl) ?_
      refine r_get X hw (sp0 hE) (C := RX7) (T := TX7) (N := 9) rfl iwX7 7 (by decide) (Nat.le_of_ble_eq_true rfl) qw425 (v := .ref (eP E 60)) rfl dX7_copy_26 ?_
      refine lv_iload_n X.1 X.2.1 dX7_copy_29 rfl (lv_at hl 4 rfl) ?_
      obtain ⟨h8, hf⟩ := b_ck hf
      refine r_aaldS X hw (sp60 hE) (q := (61 + 2 * x3.toNatClampNeg)) h8 (tqs h8) dX7_copy_30 ?_
      refine lv_astore (lv' := [(7, .ref (eP E (61 + 2 * x3.toNatClampNeg))), (6, .ref (eP E (61 + 2 * x1.toNatClampNeg))), (0, .ref (eP E 0)), (1, .int x1), (2, .int x2), (3, .int x3), (4, .int x4), (5, .int x5)]) X.1 X.2.1 dX7_copy_31 hl (by decide) rfl (fun ls hl => ?_)
      refine lv_aload X.1 X.2.1 dX7_copy_33 (lv_at hl 1 rfl) ?_
      obtain ⟨r10, h9, hf⟩ := b_bd1 hf
      refine r_callV X hw (k_X4_isMissing hE (isS_of h7) h9) (spS0 hE (isS_of h7)) (C := RX4) (T := TX4) (N := 3) rfl qw726 qw727 qw728 qw78 qw729 okX4_isMissing ⟨rfl, rfl⟩ ⟨(Nat.le_of_ble_eq_true rfl), (Nat.le_of_ble_eq_true rfl)⟩ ⟨Nat.zero_le _, Nat.zero_le _⟩ rfl hl.1 (rest := []) rfl (Nat.le_of_ble_eq_true rfl) dX7_copy_35 (st1 := [.int r10]) rfl (fun H locs hw => ?_)
      refine lv_if_ne (tgt := 49) X.1 X.2.1 dX7_copy_38 (by decide) (fun c11 => ?_) (fun c11 => ?_)
      · have hf := if_e hf c11
        refine lv_bipush (v := (-11)) X.1 X.2.1 dX7_copy_49 (by decide) ?_
        obtain ⟨rfl, rfl⟩ := Prod.mk.inj (Option.some.inj hf)
        exact r_iret X hw dX7_copy_51
      · have hf := if_t hf c11
        refine lv_aload X.1 X.2.1 dX7_copy_41 (lv_at hl 0 rfl) ?_
        obtain ⟨r13, h12, hf⟩ := b_bd1 hf
        refine r_callV X hw (k_X4_isMissing hE (isS_of h8) h12) (spS0 hE (isS_of h8)) (C := RX4) (T := TX4) (N := 3) rfl qw726 qw727 qw728 qw78 qw729 okX4_isMissing ⟨rfl, rfl⟩ ⟨(Nat.le_of_ble_eq_true rfl), (Nat.le_of_ble_eq_true rfl)⟩ ⟨Nat.zero_le _, Nat.zero_le _⟩ rfl hl.1 (rest := []) rfl (Nat.le_of_ble_eq_true rfl) dX7_copy_43 (st1 := [.int r13]) rfl (fun H locs hw => ?_)
        refine lv_if_eq (tgt := 52) X.1 X.2.1 dX7_copy_46 (by decide) (fun c14 => ?_) (fun c14 => ?_)
        · have hf := if_t hf c14
          refine lv_aload X.1 X.2.1 dX7_copy_52 (lv_at hl 1 rfl) ?_
          obtain ⟨r16, h15, hf⟩ := b_bd1 hf
          refine r_callV X hw (k_X4_sort hE (isS_of h7) h15) (spS0 hE (isS_of h7)) (C := RX4) (T := TX4) (N := 3) rfl qw833 qw834 qw835 qw78 qw836 okX4_sort ⟨rfl, rfl⟩ ⟨(Nat.le_of_ble_eq_true rfl), (Nat.le_of_ble_eq_true rfl)⟩ ⟨Nat.zero_le _, Nat.zero_le _⟩ rfl hl.1 (rest := []) rfl (Nat.le_of_ble_eq_true rfl) dX7_copy_54 (st1 := [.int r16]) rfl (fun H locs hw => ?_)
          refine lv_aload X.1 X.2.1 dX7_copy_57 (lv_at hl 0 rfl) ?_
          obtain ⟨r18, h17, hf⟩ := b_bd1 hf
          refine r_callV X hw (k_X4_sort hE (isS_of h8) h17) (spS0 hE (isS_of h8)) (C := RX4) (T := TX4) (N := 3) rfl qw833 qw834 qw835 qw78 qw836 okX4_sort ⟨rfl, rfl⟩ ⟨(Nat.le_of_ble_eq_true rfl), (Nat.le_of_ble_eq_true rfl)⟩ ⟨Nat.zero_le _, Nat.zero_le _⟩ rfl hl.1 (rest := [.int r16]) rfl (Nat.le_of_ble_eq_true rfl) dX7_copy_59 (st1 := [.int r18, .int r16]) rfl (fun H locs hw => ?_)
          refine lv_icmp_eq (tgt := 68) X.1 X.2.1 dX7_copy_62 (by decide) (fun c19 => ?_) (fun c19 => ?_)
          · have hf := if_t hf c19
            refine lv_aload X.1 X.2.1 dX7_copy_68 (lv_at hl 1 rfl) ?_
            refine lv_iload_n X.1 X.2.1 dX7_copy_70 rfl (lv_at hl 4 rfl) ?_
            refine lv_iload X.1 X.2.1 dX7_copy_71 (lv_at hl 7 rfl) ?_
            obtain ⟨r21, h20, hf⟩ := b_bd1 hf
            refine r_callV X hw (k_X4_hasRange hE (isS_of h7) h20) (spS0 hE (isS_of h7)) (C := RX4) (T := TX4) (N := 3) rfl qw825 qw826 qw827 qw78 qw828 okX4_hasRange ⟨rfl, rfl⟩ ⟨(Nat.le_of_ble_eq_true rfl), (Nat.le_of_ble_eq_true rfl)⟩ ⟨Nat.zero_le _, Nat.zero_le _⟩ rfl hl.1 (rest := []) rfl (Nat.le_of_ble_eq_true rfl) dX7_copy_73 (st1 := [.int r21]) rfl (fun H locs hw => ?_)
            refine lv_if_eq (tgt := 91) X.1 X.2.1 dX7_copy_76 (by decide) (fun c22 => ?_) (fun c22 => ?_)
            · have hf := if_t hf c22
              refine lv_bipush (v := (-12)) X.1 X.2.1 dX7_copy_91 (by decide) ?_
              obtain ⟨rfl, rfl⟩ := Prod.mk.inj (Option.some.inj hf)
              exact r_iret X hw dX7_copy_93
            · have hf := if_e hf c22
              refine lv_aload X.1 X.2.1 dX7_copy_79 (lv_at hl 0 rfl) ?_
              refine lv_iload X.1 X.2.1 dX7_copy_81 (lv_at hl 6 rfl) ?_
              refine lv_iload X.1 X.2.1 dX7_copy_83 (lv_at hl 7 rfl) ?_
              obtain ⟨r24, h23, hf⟩ := b_bd1 hf
              refine r_callV X hw (k_X4_hasRange hE (isS_of h8) h23) (spS0 hE (isS_of h8)) (C := RX4) (T := TX4) (N := 3) rfl qw825 qw826 qw827 qw78 qw828 okX4_hasRange ⟨rfl, rfl⟩ ⟨(Nat.le_of_ble_eq_true rfl), (Nat.le_of_ble_eq_true rfl)⟩ ⟨Nat.zero_le _, Nat.zero_le _⟩ rfl hl.1 (rest := []) rfl (Nat.le_of_ble_eq_true rfl) dX7_copy_85 (st1 := [.int r24]) rfl (fun H locs hw => ?_)
              refine lv_if_ne (tgt := 94) X.1 X.2.1 dX7_copy_88 (by decide) (fun c25 => ?_) (fun c25 => ?_)
              · have hf := if_e hf c25
                refine lv_aload X.1 X.2.1 dX7_copy_94 (lv_at hl 0 rfl) ?_
                refine lv_aload X.1 X.2.1 dX7_copy_96 (lv_at hl 1 rfl) ?_
                refine lv_iload_n X.1 X.2.1 dX7_copy_98 rfl (lv_at hl 4 rfl) ?_
                refine lv_iload X.1 X.2.1 dX7_copy_99 (lv_at hl 6 rfl) ?_
                refine lv_iload X.1 X.2.1 dX7_copy_101 (lv_at hl 7 rfl) ?_
                obtain ⟨σ27, h26, hf⟩ := b_bd1 hf
                refine r_callV X hw (k_X4_takeFrom hE (isS_of h8) (isS_of h7) h26) (spS0 hE (isS_of h8)) (C := RX4) (T := TX4) (N := 3) rfl qw837 qw838 qw839 qw78 qw840 okX4_takeFrom ⟨rfl, rfl⟩ ⟨(Nat.le_of_ble_eq_true rfl), (Nat.le_of_ble_eq_true rfl)⟩ ⟨Nat.zero_le _, Nat.zero_le _⟩ rfl hl.1 (rest := []) rfl (Nat.le_of_ble_eq_true rfl) dX7_copy_103 (st1 := []) rfl (fun H locs hw => ?_)
                refine lv_iload X.1 X.2.1 dX7_copy_106 (lv_at hl 7 rfl) ?_
                obtain ⟨rfl, rfl⟩ := Prod.mk.inj (Option.some.inj hf)
                exact r_iret X hw dX7_copy_108
              · have hf := if_t hf c25
                refine lv_bipush (v := (-12)) X.1 X.2.1 dX7_copy_91 (by decide) ?_
                obtain ⟨rfl, rfl⟩ := Prod.mk.inj (Option.some.inj hf)
                exact r_iret X hw dX7_copy_93
          · have hf := if_e hf c19
            refine lv_bipush (v := (-13)) X.1 X.2.1 dX7_copy_65 (by decide) ?_
            obtain ⟨rfl, rfl⟩ := Prod.mk.inj (Option.some.inj hf)
            exact r_iret X hw dX7_copy_67
        · have hf := if_e hf c14
          refine lv_bipush (v := (-11)) X.1 X.2.1 dX7_copy_49 (by decide) ?_
          obtain ⟨rfl, rfl⟩ := Prod.mk.inj (Option.some.inj hf)
          exact r_iret X hw dX7_copy_51
    · have hf := if_t hf c6
      refine lv_bipush (v := (-2)) X.1 X.2.1 dX7_copy_14 (by decide) ?_
      obtain ⟨rfl, rfl⟩ := Prod.mk.inj (Option.some.inj hf)
      exact r_iret X hw dX7_copy_16
abbrev rm_X7_court : Room := { frames := 1, cells := 0, slots := 0, locals := 100 }
set_option maxHeartbeats 4000000 in
set_option maxRecDepth 100000 in
theorem w_X7_court_68 {p : Program} {l : Launch} {e : Env} {s : State} {m : MethodId} {args : Array Value} {below : List Frame} {meth : Method} {c : Code} {Q : State → Prop} {E : en_T} (X : Cx E p s m args meth c cX7_court 9 RX7 (some .int)) (hE : ShF E) {u1 : Int32} {u2 : Int32} {u3 : Int32} {u4 : Int32} {o55 : Nat} (ho55 : isS o55)  {res : (Int32 × Int32 × Int32 × sg_T) ⊕ (Int32 × sg_T)} :
    ∀ (n : Nat) (w6 : Int32) (w7 : Int32) (w8 : Int32) (σ : sg_T), itr (fun q => b_X7_court_68 u1 u2 u3 u4 o55 q.1 q.2.1 q.2.2.1 q.2.2.2) n (w6, w7, w8, σ) = some res → ∀ (H : Heap) (locs : List Loc) (ls : Array Slot), Hw E σ s H locs → lv_has ls 9 [(0, .ref (eP E 0)), (1, .int u1), (2, .int u2), (3, .int u3), (4, .int u4), (5, .ref (eP E o55)), (6, .int w6), (7, .int w7), (8, .int w8)] →
    (∀ (y6 : Int32) (y7 : Int32) (y8 : Int32) (τ : sg_T), res = .inl (y6, y7, y8, τ) → ∀ (H : Heap) (locs : List Loc) (ls : Array Slot), Hw E τ s H locs → lv_has ls 9 [(0, .ref (eP E 0)), (1, .int u1), (2, .int u2), (3, .int u3), (4, .int u4), (5, .ref (eP E o55)), (6, .int y6), (7, .int y7), (8, .int y8)] → W p l e rm_X7_court s m args below meth c H locs 0 0 Q (F0 m 136 ls [])) →
    (∀ (r : Int32) (σ' : sg_T), res = .inr (r, σ') → Q = MQ below (Qf E (some (.int r)) σ') args s 0 0 (en_A E)) →
    W p l e rm_X7_court s m args below meth c H locs 0 0 Q (F0 m 68 ls []) := by
  have hR : ShR E := hE.r
  intro n
  induction n with
  | zero =>
    intro w6 w7 w8 σ hf0
    exact (itr_0 hf0).elim
  | succ n ih =>
    intro w6 w7 w8 σ hf0 H locs ls hw hl K1 K2
    obtain ⟨r0, hf, hr1, hr2⟩ := itr_s hf0
    have hf : b_X7_court_68 u1 u2 u3 u4 o55 w6 w7 w8 σ = some r0 := hf
    unfold b_X7_court_68 at hf
    refine lv_iload X.1 X.2.1 dX7_court_68 (lv_at hl 8 rfl) ?_
    refine lv_iload X.1 X.2.1 dX7_court_70 (lv_at hl 4 rfl) ?_
    refine lv_icmp_ge (tgt := 136) X.1 X.2.1 dX7_court_72 (by decide) (fun c16 => ?_) (fun c16 => ?_)
    · have hf := if_t hf c16
      obtain rfl := Option.some.inj hf
      obtain rfl := hr2 _ rfl
      exact K1 _ _ _ _ rfl _ _ _ hw (lv_sub hl [0, 1, 2, 3, 4, 5, 6, 7, 8] rfl)
    · have hf := if_e hf c16
      refine lv_aload X.1 X.2.1 dX7_court_75 (lv_at hl 5 rfl) ?_
      refine lv_iload X.1 X.2.1 dX7_court_77 (lv_at hl 7 rfl) ?_
      refine lv_iconst (v := 3) X.1 X.2.1 dX7_court_79 (by decide) ?_
      obtain ⟨r18, h17, hf⟩ := b_bd1 hf
      refine r_callV X hw (k_X4_hasRange hE ho55 h17) (spS0 hE ho55) (C := RX4) (T := TX4) (N := 3) rfl qw825 qw826 qw827 qw78 qw828 okX4_hasRange ⟨rfl, rfl⟩ ⟨(Nat.le_of_ble_eq_true rfl), (Nat.le_of_ble_eq_true rfl)⟩ ⟨Nat.zero_le _, Nat.zero_le _⟩ rfl hl.1 (rest := []) rfl (Nat.le_of_ble_eq_true rfl) dX7_court_80 (st1 := [.int r18]) rfl (fun H locs hw => ?_)
      refine lv_if_ne (tgt := 89) X.1 X.2.1 dX7_court_83 (by decide) (fun c19 => ?_) (fun c19 => ?_)
      · have hf := if_e hf c19
        refine lv_aload_n X.1 X.2.1 dX7_court_89 rfl (lv_at hl 0 rfl) ?_
        refine r_get X hw (sp0 hE) (C := RX7) (T := TX7) (N := 9) rfl iwX7 3 (by decide) (Nat.le_of_ble_eq_true rfl) qw421 (v := .ref (eP E 34)) rfl dX7_court_90 ?_
        refine lv_aload X.1 X.2.1 dX7_court_93 (lv_at hl 5 rfl) ?_
        refine lv_iload X.1 X.2.1 dX7_court_95 (lv_at hl 7 rfl) ?_
        obtain ⟨r21, h20, hf⟩ := b_bd1 hf
        refine r_callV X hw (k_X4_get hE ho55 h20) (spS0 hE ho55) (C := RX4) (T := TX4) (N := 3) rfl qw742 qw743 qw744 qw78 qw745 okX4_get ⟨rfl, rfl⟩ ⟨(Nat.le_of_ble_eq_true rfl), (Nat.le_of_ble_eq_true rfl)⟩ ⟨Nat.zero_le _, Nat.zero_le _⟩ rfl hl.1 (rest := [.ref (eP E 34)]) rfl (Nat.le_of_ble_eq_true rfl) dX7_court_97 (st1 := [.int r21, .ref (eP E 34)]) rfl (fun H locs hw => ?_)
        refine lv_aload X.1 X.2.1 dX7_court_100 (lv_at hl 5 rfl) ?_
        refine lv_iload X.1 X.2.1 dX7_court_102 (lv_at hl 7 rfl) ?_
        refine lv_iconst (v := 1) X.1 X.2.1 dX7_court_104 (by decide) ?_
        refine lv_iadd X.1 X.2.1 dX7_court_105 ?_
        obtain ⟨r23, h22, hf⟩ := b_bd1 hf
        refine r_callV X hw (k_X4_get hE ho55 h22) (spS0 hE ho55) (C := RX4) (T := TX4) (N := 3) rfl qw742 qw743 qw744 qw78 qw745 okX4_get ⟨rfl, rfl⟩ ⟨(Nat.le_of_ble_eq_true rfl), (Nat.le_of_ble_eq_true rfl)⟩ ⟨Nat.zero_le _, Nat.zero_le _⟩ rfl hl.1 (rest := [.int r21, .ref (eP E 34)]) rfl (Nat.le_of_ble_eq_true rfl) dX7_court_106 (st1 := [.int r23, .int r21, .ref (eP E 34)]) rfl (fun H locs hw => ?_)
        refine lv_aload X.1 X.2.1 dX7_court_109 (lv_at hl 5 rfl) ?_
        refine lv_iload X.1 X.2.1 dX7_court_111 (lv_at hl 7 rfl) ?_
        refine lv_iconst (v := 2) X.1 X.2.1 dX7_court_113 (by decide) ?_
        refine lv_iadd X.1 X.2.1 dX7_court_114 ?_
        obtain ⟨r25, h24, hf⟩ := b_bd1 hf
        refine r_callV X hw (k_X4_get hE ho55 h24) (spS0 hE ho55) (C := RX4) (T := TX4) (N := 3) rfl qw742 qw743 qw744 qw78 qw745 okX4_get ⟨rfl, rfl⟩ ⟨(Nat.le_of_ble_eq_true rfl), (Nat.le_of_ble_eq_true rfl)⟩ ⟨Nat.zero_le _, Nat.zero_le _⟩ rfl hl.1 (rest := [.int r23, .int r21, .ref (eP E 34)]) rfl (Nat.le_of_ble_eq_true rfl) dX7_court_115 (st1 := [.int r25, .int r23, .int r21, .ref (eP E 34)]) rfl (fun H locs hw => ?_)
        obtain ⟨r27, σ28, h26, hf⟩ := b_bd2 hf
        refine r_callV X hw (k_X1_come hE (Or.inl rfl) h26) (spP0 hE (Or.inl rfl)) (C := RX1) (T := TX1) (N := 10) rfl qw480 qw481 qw482 qw76 qw483 okX1_come ⟨rfl, rfl⟩ ⟨(Nat.le_of_ble_eq_true rfl), (Nat.le_of_ble_eq_true rfl)⟩ ⟨Nat.zero_le _, Nat.zero_le _⟩ rfl hl.1 (rest := []) rfl (Nat.le_of_ble_eq_true rfl) dX7_court_118 (st1 := [.int r27]) rfl (fun H locs hw => ?_)
        refine lv_if_lt (tgt := 127) X.1 X.2.1 dX7_court_121 (by decide) (fun c29 => ?_) (fun c29 => ?_)
        · have hf := if_t hf c29
          obtain ⟨v30, e31, hf⟩ := b_bnd hf
          refine lv_iinc (v := v30) (k := 7) (lv' := [(7, .int v30), (0, .ref (eP E 0)), (1, .int u1), (2, .int u2), (3, .int u3), (4, .int u4), (5, .ref (eP E o55)), (6, .int w6), (8, .int w8)]) X.1 X.2.1 dX7_court_127 hl rfl (by rw [e31]; exact congrArg _ (by decide)) (by decide) rfl (fun ls hl => ?_)
          obtain ⟨v32, e33, hf⟩ := b_bnd hf
          refine lv_iinc (v := v32) (k := 8) (lv' := [(8, .int v32), (7, .int v30), (0, .ref (eP E 0)), (1, .int u1), (2, .int u2), (3, .int u3), (4, .int u4), (5, .ref (eP E o55)), (6, .int w6)]) X.1 X.2.1 dX7_court_130 hl rfl (by rw [e33]; exact congrArg _ (by decide)) (by decide) rfl (fun ls hl => ?_)
          refine lv_goto (tgt := 68) X.1 X.2.1 dX7_court_133 (by decide) ?_
          obtain rfl := Option.some.inj hf
          exact ih _ _ _ _ (hr1 _ rfl) _ _ _ hw (lv_sub hl [2, 3, 4, 5, 6, 7, 8, 1, 0] rfl) K1 K2
        · have hf := if_e hf c29
          obtain ⟨v34, e35, hf⟩ := b_bnd hf
          refine lv_iinc (v := v34) (k := 6) (lv' := [(6, .int v34), (0, .ref (eP E 0)), (1, .int u1), (2, .int u2), (3, .int u3), (4, .int u4), (5, .ref (eP E o55)), (7, .int w7), (8, .int w8)]) X.1 X.2.1 dX7_court_124 hl rfl (by rw [e35]; exact congrArg _ (by decide)) (by decide) rfl (fun ls hl => ?_)
          obtain ⟨v36, e37, hf⟩ := b_bnd hf
          refine lv_iinc (v := v36) (k := 7) (lv' := [(7, .int v36), (6, .int v34), (0, .ref (eP E 0)), (1, .int u1), (2, .int u2), (3, .int u3), (4, .int u4), (5, .ref (eP E o55)), (8, .int w8)]) X.1 X.2.1 dX7_court_127 hl rfl (by rw [e37]; exact congrArg _ (by decide)) (by decide) rfl (fun ls hl => ?_)
          obtain ⟨v38, e39, hf⟩ := b_bnd hf
          refine lv_iinc (v := v38) (k := 8) (lv' := [(8, .int v38), (7, .int v36), (6, .int v34), (0, .ref (eP E 0)), (1, .int u1), (2, .int u2), (3, .int u3), (4, .int u4), (5, .ref (eP E o55))]) X.1 X.2.1 dX7_court_130 hl rfl (by rw [e39]; exact congrArg _ (by decide)) (by decide) rfl (fun ls hl => ?_)
          refine lv_goto (tgt := 68) X.1 X.2.1 dX7_court_133 (by decide) ?_
          obtain rfl := Option.some.inj hf
          exact ih _ _ _ _ (hr1 _ rfl) _ _ _ hw (lv_sub hl [3, 4, 5, 6, 7, 8, 2, 1, 0] rfl) K1 K2
      · have hf := if_t hf c19
        refine lv_bipush (v := (-12)) X.1 X.2.1 dX7_court_86 (by decide) ?_
        obtain rfl := Option.some.inj hf
        obtain rfl := hr2 _ rfl
        rw [K2 _ _ rfl]
        exact r_iret X hw dX7_court_88
