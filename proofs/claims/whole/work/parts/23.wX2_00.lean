abbrev rm_X2_add : Room := { frames := 0, cells := 0, slots := 0, locals := 0 }
set_option maxHeartbeats 4000000 in
set_option maxRecDepth 100000 in
theorem k_X2_add {l : Launch} {E : en_T} (hR : ShR E) {x1 : Int32} {σ : sg_T} {r : Int32} {σ' : sg_T} (hf : f_X2_add x1 σ = some (r, σ')) : Ct l yX2_add cX2_add 2 (some .boolean) rm_X2_add E [.ref (eP E 1), .int x1] σ (some (.int r)) σ' := by
  refine Ct.start (by decide) hR.1 (Nat.le_of_ble_eq_true rfl) ?_
  intro p e s m below meth c X hw ls hl
  have X : Cx E p s m _ meth c cX2_add 2 RX2 (some .boolean) := X
  have hl : lv_has ls 2 [(0, .ref (eP E 1)), (1, .int x1)] := hl
  unfold f_X2_add at hf
  refine lv_aload_n X.1 X.2.1 dX2_add_0 rfl (lv_at hl 0 rfl) ?_
  refine r_get X hw (sp1 hR) (C := RX2) (T := TX2) (N := 8) rfl iwX2 1 (by decide) (Nat.le_of_ble_eq_true rfl) qw99 (v := .int (σ 1 1)) rfl dX2_add_1 ?_
  refine lv_sipush (v := 160) X.1 X.2.1 dX2_add_4 (by decide) ?_
  refine lv_icmp_lt (tgt := 12) X.1 X.2.1 dX2_add_7 (by decide) (fun c1 => ?_) (fun c1 => ?_)
  · have hf := if_t hf c1
    refine lv_aload_n X.1 X.2.1 dX2_add_12 rfl (lv_at hl 0 rfl) ?_
    refine r_get X hw (sp1 hR) (C := RX2) (T := TX2) (N := 8) rfl iwX2 0 (by decide) (Nat.le_of_ble_eq_true rfl) qw98 (v := .ref (eP E 2)) rfl dX2_add_13 ?_
    refine lv_aload_n X.1 X.2.1 dX2_add_16 rfl (lv_at hl 0 rfl) ?_
    refine r_get X hw (sp1 hR) (C := RX2) (T := TX2) (N := 8) rfl iwX2 1 (by decide) (Nat.le_of_ble_eq_true rfl) qw99 (v := .int (σ 1 1)) rfl dX2_add_17 ?_
    refine lv_iload_n X.1 X.2.1 dX2_add_20 rfl (lv_at hl 1 rfl) ?_
    obtain ⟨h2, hf⟩ := b_ck hf
    refine r_iast X hw (sp2 hR) h2 dX2_add_21 (fun H locs hw => ?_)
    obtain ⟨σ3, e4, hf⟩ := b_bnd hf
    rw [← e4] at hw
    refine lv_aload_n X.1 X.2.1 dX2_add_22 rfl (lv_at hl 0 rfl) ?_
    refine lv_dup X.1 X.2.1 dX2_add_23 rfl ?_
    refine r_get X hw (sp1 hR) (C := RX2) (T := TX2) (N := 8) rfl iwX2 1 (by decide) (Nat.le_of_ble_eq_true rfl) qw99 (v := .int (σ3 1 1)) rfl dX2_add_24 ?_
    refine lv_iconst (v := 1) X.1 X.2.1 dX2_add_27 (by decide) ?_
    refine lv_iadd X.1 X.2.1 dX2_add_28 ?_
    refine r_put X hw (sp1 hR) (C := RX2) (T := TX2) (N := 8) rfl iwX2 tyX2 tyX2_ok nmX2 1 (by decide) (Nat.le_of_ble_eq_true rfl) qw99 rfl (v := .int ((σ3 1 1) + 1)) rfl rfl (x := ((σ3 1 1) + 1)) rfl dX2_add_29 (fun H locs hw => ?_)
    obtain ⟨σ5, e6, hf⟩ := b_bnd hf
    rw [← e6] at hw
    refine lv_iconst (v := 1) X.1 X.2.1 dX2_add_32 (by decide) ?_
    obtain ⟨rfl, rfl⟩ := Prod.mk.inj (Option.some.inj hf)
    exact r_zret X hw (by decide) dX2_add_33
  · have hf := if_e hf c1
    refine lv_iconst (v := 0) X.1 X.2.1 dX2_add_10 (by decide) ?_
    obtain ⟨rfl, rfl⟩ := Prod.mk.inj (Option.some.inj hf)
    exact r_zret X hw (by decide) dX2_add_11
abbrev rm_X2_isLetter : Room := { frames := 0, cells := 0, slots := 0, locals := 0 }
set_option maxHeartbeats 4000000 in
set_option maxRecDepth 100000 in
theorem k_X2_isLetter {l : Launch} {E : en_T} (hR : ShR E) {x1 : Int32} {σ : sg_T} {r : Int32} (hf : f_X2_isLetter x1 σ = some r) : Ct l yX2_isLetter cX2_isLetter 1 (some .boolean) rm_X2_isLetter E [.int x1] σ (some (.int r)) σ := by
  refine Ct.start (by decide) hR.1 (Nat.le_of_ble_eq_true rfl) ?_
  intro p e s m below meth c X hw ls hl
  have X : Cx E p s m _ meth c cX2_isLetter 1 RX2 (some .boolean) := X
  have hl : lv_has ls 1 [(0, .int x1)] := hl
  unfold f_X2_isLetter at hf
  refine lv_iload_n X.1 X.2.1 dX2_isLetter_0 rfl (lv_at hl 0 rfl) ?_
  refine lv_bipush (v := 97) X.1 X.2.1 dX2_isLetter_1 (by decide) ?_
  refine lv_icmp_lt (tgt := 16) X.1 X.2.1 dX2_isLetter_3 (by decide) (fun c1 => ?_) (fun c1 => ?_)
  · have hf := if_t hf c1
    refine lv_iconst (v := 0) X.1 X.2.1 dX2_isLetter_16 (by decide) ?_
    obtain rfl := Option.some.inj hf
    exact r_zret X hw (by decide) dX2_isLetter_17
  · have hf := if_e hf c1
    refine lv_iload_n X.1 X.2.1 dX2_isLetter_6 rfl (lv_at hl 0 rfl) ?_
    refine lv_bipush (v := 122) X.1 X.2.1 dX2_isLetter_7 (by decide) ?_
    obtain ⟨v3, e4, hf⟩ := b_bnd hf
    refine r_join (g2 := F0 m 17 ls [.int v3]) ?_ (fun hj => ?_)
    · obtain ⟨h5, hf⟩ := b_cz hf
      obtain rfl := Option.some.inj hf
      exact r_zret X hw (cz_and h5) dX2_isLetter_17
    · refine lv_icmp_gt (tgt := 16) X.1 X.2.1 dX2_isLetter_9 (by decide) (fun c2 => ?_) (fun c2 => ?_)
      · rw [e4, if_pos c2] at hj
        refine lv_iconst (v := 0) X.1 X.2.1 dX2_isLetter_16 (by decide) ?_
        exact hj
      · rw [e4, if_neg c2] at hj
        refine lv_iconst (v := 1) X.1 X.2.1 dX2_isLetter_12 (by decide) ?_
        refine lv_goto (tgt := 17) X.1 X.2.1 dX2_isLetter_13 (by decide) ?_
        exact hj
abbrev rm_X2_addToken : Room := { frames := 0, cells := 0, slots := 0, locals := 0 }
set_option maxHeartbeats 4000000 in
set_option maxRecDepth 100000 in
theorem k_X2_addToken {l : Launch} {E : en_T} (hR : ShR E) {x1 : Int32} {x2 : Int32} {x3 : Int32} {σ : sg_T}  {σ' : sg_T} (hf : f_X2_addToken x1 x2 x3 σ = some σ') : Ct l yX2_addToken cX2_addToken 4 none rm_X2_addToken E [.ref (eP E 1), .int x1, .int x2, .int x3] σ none σ' := by
  refine Ct.start (by decide) hR.1 (Nat.le_of_ble_eq_true rfl) ?_
  intro p e s m below meth c X hw ls hl
  have X : Cx E p s m _ meth c cX2_addToken 4 RX2 none := X
  have hl : lv_has ls 4 [(0, .ref (eP E 1)), (1, .int x1), (2, .int x2), (3, .int x3)] := hl
  unfold f_X2_addToken at hf
  refine lv_aload_n X.1 X.2.1 dX2_addToken_0 rfl (lv_at hl 0 rfl) ?_
  refine r_get X hw (sp1 hR) (C := RX2) (T := TX2) (N := 8) rfl iwX2 5 (by decide) (Nat.le_of_ble_eq_true rfl) qw103 (v := .int (σ 1 5)) rfl dX2_addToken_1 ?_
  refine lv_sipush (v := 160) X.1 X.2.1 dX2_addToken_4 (by decide) ?_
  refine lv_icmp_gt (tgt := 50) X.1 X.2.1 dX2_addToken_7 (by decide) (fun c1 => ?_) (fun c1 => ?_)
  · have hf := if_t hf c1
    obtain rfl := Option.some.inj hf
    exact r_vret X hw dX2_addToken_50
  · have hf := if_e hf c1
    refine lv_aload_n X.1 X.2.1 dX2_addToken_10 rfl (lv_at hl 0 rfl) ?_
    refine r_get X hw (sp1 hR) (C := RX2) (T := TX2) (N := 8) rfl iwX2 2 (by decide) (Nat.le_of_ble_eq_true rfl) qw100 (v := .ref (eP E 3)) rfl dX2_addToken_11 ?_
    refine lv_aload_n X.1 X.2.1 dX2_addToken_14 rfl (lv_at hl 0 rfl) ?_
    refine r_get X hw (sp1 hR) (C := RX2) (T := TX2) (N := 8) rfl iwX2 5 (by decide) (Nat.le_of_ble_eq_true rfl) qw103 (v := .int (σ 1 5)) rfl dX2_addToken_15 ?_
    refine lv_iload_n X.1 X.2.1 dX2_addToken_18 rfl (lv_at hl 1 rfl) ?_
    obtain ⟨h2, hf⟩ := b_ck hf
    refine r_iast X hw (sp3 hR) h2 dX2_addToken_19 (fun H locs hw => ?_)
    obtain ⟨σ3, e4, hf⟩ := b_bnd hf
    rw [← e4] at hw
    refine lv_aload_n X.1 X.2.1 dX2_addToken_20 rfl (lv_at hl 0 rfl) ?_
    refine r_get X hw (sp1 hR) (C := RX2) (T := TX2) (N := 8) rfl iwX2 3 (by decide) (Nat.le_of_ble_eq_true rfl) qw101 (v := .ref (eP E 4)) rfl dX2_addToken_21 ?_
    refine lv_aload_n X.1 X.2.1 dX2_addToken_24 rfl (lv_at hl 0 rfl) ?_
    refine r_get X hw (sp1 hR) (C := RX2) (T := TX2) (N := 8) rfl iwX2 5 (by decide) (Nat.le_of_ble_eq_true rfl) qw103 (v := .int (σ3 1 5)) rfl dX2_addToken_25 ?_
    refine lv_iload_n X.1 X.2.1 dX2_addToken_28 rfl (lv_at hl 2 rfl) ?_
    obtain ⟨h5, hf⟩ := b_ck hf
    refine r_iast X hw (sp4 hR) h5 dX2_addToken_29 (fun H locs hw => ?_)
    obtain ⟨σ6, e7, hf⟩ := b_bnd hf
    rw [← e7] at hw
    refine lv_aload_n X.1 X.2.1 dX2_addToken_30 rfl (lv_at hl 0 rfl) ?_
    refine r_get X hw (sp1 hR) (C := RX2) (T := TX2) (N := 8) rfl iwX2 4 (by decide) (Nat.le_of_ble_eq_true rfl) qw102 (v := .ref (eP E 5)) rfl dX2_addToken_31 ?_
    refine lv_aload_n X.1 X.2.1 dX2_addToken_34 rfl (lv_at hl 0 rfl) ?_
    refine r_get X hw (sp1 hR) (C := RX2) (T := TX2) (N := 8) rfl iwX2 5 (by decide) (Nat.le_of_ble_eq_true rfl) qw103 (v := .int (σ6 1 5)) rfl dX2_addToken_35 ?_
    refine lv_iload_n X.1 X.2.1 dX2_addToken_38 rfl (lv_at hl 3 rfl) ?_
    obtain ⟨h8, hf⟩ := b_ck hf
    refine r_iast X hw (sp5 hR) h8 dX2_addToken_39 (fun H locs hw => ?_)
    obtain ⟨σ9, e10, hf⟩ := b_bnd hf
    rw [← e10] at hw
    refine lv_aload_n X.1 X.2.1 dX2_addToken_40 rfl (lv_at hl 0 rfl) ?_
    refine lv_dup X.1 X.2.1 dX2_addToken_41 rfl ?_
    refine r_get X hw (sp1 hR) (C := RX2) (T := TX2) (N := 8) rfl iwX2 5 (by decide) (Nat.le_of_ble_eq_true rfl) qw103 (v := .int (σ9 1 5)) rfl dX2_addToken_42 ?_
    refine lv_iconst (v := 1) X.1 X.2.1 dX2_addToken_45 (by decide) ?_
    refine lv_iadd X.1 X.2.1 dX2_addToken_46 ?_
    refine r_put X hw (sp1 hR) (C := RX2) (T := TX2) (N := 8) rfl iwX2 tyX2 tyX2_ok nmX2 5 (by decide) (Nat.le_of_ble_eq_true rfl) qw103 rfl (v := .int ((σ9 1 5) + 1)) rfl rfl (x := ((σ9 1 5) + 1)) rfl dX2_addToken_47 (fun H locs hw => ?_)
    obtain ⟨σ11, e12, hf⟩ := b_bnd hf
    rw [← e12] at hw
    obtain rfl := Option.some.inj hf
    exact r_vret X hw dX2_addToken_50
abbrev rm_X2_isDigit : Room := { frames := 0, cells := 0, slots := 0, locals := 0 }
set_option maxHeartbeats 4000000 in
set_option maxRecDepth 100000 in
theorem k_X2_isDigit {l : Launch} {E : en_T} (hR : ShR E) {x1 : Int32} {σ : sg_T} {r : Int32} (hf : f_X2_isDigit x1 σ = some r) : Ct l yX2_isDigit cX2_isDigit 1 (some .boolean) rm_X2_isDigit E [.int x1] σ (some (.int r)) σ := by
  refine Ct.start (by decide) hR.1 (Nat.le_of_ble_eq_true rfl) ?_
  intro p e s m below meth c X hw ls hl
  have X : Cx E p s m _ meth c cX2_isDigit 1 RX2 (some .boolean) := X
  have hl : lv_has ls 1 [(0, .int x1)] := hl
  unfold f_X2_isDigit at hf
  refine lv_iload_n X.1 X.2.1 dX2_isDigit_0 rfl (lv_at hl 0 rfl) ?_
  refine lv_bipush (v := 48) X.1 X.2.1 dX2_isDigit_1 (by decide) ?_
  refine lv_icmp_lt (tgt := 16) X.1 X.2.1 dX2_isDigit_3 (by decide) (fun c1 => ?_) (fun c1 => ?_)
  · have hf := if_t hf c1
    refine lv_iconst (v := 0) X.1 X.2.1 dX2_isDigit_16 (by decide) ?_
    obtain rfl := Option.some.inj hf
    exact r_zret X hw (by decide) dX2_isDigit_17
  · have hf := if_e hf c1
    refine lv_iload_n X.1 X.2.1 dX2_isDigit_6 rfl (lv_at hl 0 rfl) ?_
    refine lv_bipush (v := 57) X.1 X.2.1 dX2_isDigit_7 (by decide) ?_
    obtain ⟨v3, e4, hf⟩ := b_bnd hf
    refine r_join (g2 := F0 m 17 ls [.int v3]) ?_ (fun hj => ?_)
    · obtain ⟨h5, hf⟩ := b_cz hf
      obtain rfl := Option.some.inj hf
      exact r_zret X hw (cz_and h5) dX2_isDigit_17
    · refine lv_icmp_gt (tgt := 16) X.1 X.2.1 dX2_isDigit_9 (by decide) (fun c2 => ?_) (fun c2 => ?_)
      · rw [e4, if_pos c2] at hj
        refine lv_iconst (v := 0) X.1 X.2.1 dX2_isDigit_16 (by decide) ?_
        exact hj
      · rw [e4, if_neg c2] at hj
        refine lv_iconst (v := 1) X.1 X.2.1 dX2_isDigit_12 (by decide) ?_
        refine lv_goto (tgt := 17) X.1 X.2.1 dX2_isDigit_13 (by decide) ?_
        exact hj
abbrev rm_X2_addNumber : Room := { frames := 1, cells := 0, slots := 0, locals := 100 }
set_option maxHeartbeats 4000000 in
set_option maxRecDepth 100000 in
theorem w_X2_addNumber_22 {p : Program} {l : Launch} {e : Env} {s : State} {m : MethodId} {args : Array Value} {below : List Frame} {meth : Method} {c : Code} {Q : State → Prop} {E : en_T} (X : Cx E p s m args meth c cX2_addNumber 5 RX2 none) (hR : ShR E) {u1 : Int32} {u2 : Int32} {σ : sg_T} {res : Int32 × Int32} :
    ∀ (n : Nat) (w3 : Int32) (w4 : Int32), itr (fun q => b_X2_addNumber_22 u1 u2 q.1 q.2 σ) n (w3, w4) = some res → ∀ (H : Heap) (locs : List Loc) (ls : Array Slot), Hw E σ s H locs → lv_has ls 5 [(0, .ref (eP E 1)), (1, .int u1), (2, .int u2), (3, .int w3), (4, .int w4)] →
    (∀ (y3 : Int32) (y4 : Int32), res = (y3, y4) → ∀ (H : Heap) (locs : List Loc) (ls : Array Slot), Hw E σ s H locs → lv_has ls 5 [(0, .ref (eP E 1)), (1, .int u1), (2, .int u2), (3, .int y3), (4, .int y4)] → W p l e rm_X2_addNumber s m args below meth c H locs 0 0 Q (F0 m 50 ls [])) →
    W p l e rm_X2_addNumber s m args below meth c H locs 0 0 Q (F0 m 22 ls []) := by
  intro n
  induction n with
  | zero =>
    intro w3 w4 hf0
    exact (itr_0 hf0).elim
  | succ n ih =>
    intro w3 w4 hf0 H locs ls hw hl K1
    obtain ⟨r0, hf, hr1, hr2⟩ := itr_s hf0
    have hf : b_X2_addNumber_22 u1 u2 w3 w4 σ = some r0 := hf
    unfold b_X2_addNumber_22 at hf
    refine lv_iload X.1 X.2.1 dX2_addNumber_22 (lv_at hl 4 rfl) ?_
    refine lv_iload_n X.1 X.2.1 dX2_addNumber_24 rfl (lv_at hl 2 rfl) ?_
    refine lv_icmp_ge (tgt := 50) X.1 X.2.1 dX2_addNumber_25 (by decide) (fun c2 => ?_) (fun c2 => ?_)
    · have hf := if_t hf c2
      obtain rfl := Option.some.inj hf
      obtain rfl := hr2 _ rfl
      exact K1 _ _ rfl _ _ _ hw (lv_sub hl [0, 1, 2, 3, 4] rfl)
    · have hf := if_e hf c2
      refine lv_iload_n X.1 X.2.1 dX2_addNumber_28 rfl (lv_at hl 3 rfl) ?_
      refine lv_bipush (v := 10) X.1 X.2.1 dX2_addNumber_29 (by decide) ?_
      refine lv_imul X.1 X.2.1 dX2_addNumber_31 ?_
      refine lv_aload_n X.1 X.2.1 dX2_addNumber_32 rfl (lv_at hl 0 rfl) ?_
      refine r_get X hw (sp1 hR) (C := RX2) (T := TX2) (N := 8) rfl iwX2 0 (by decide) (Nat.le_of_ble_eq_true rfl) qw98 (v := .ref (eP E 2)) rfl dX2_addNumber_33 ?_
      refine lv_iload X.1 X.2.1 dX2_addNumber_36 (lv_at hl 4 rfl) ?_
      obtain ⟨h3, hf⟩ := b_ck hf
      refine r_iald X hw (sp2 hR) h3 dX2_addNumber_38 ?_
      refine lv_iadd X.1 X.2.1 dX2_addNumber_39 ?_
      refine lv_bipush (v := 48) X.1 X.2.1 dX2_addNumber_40 (by decide) ?_
      refine lv_isub X.1 X.2.1 dX2_addNumber_42 ?_
      refine r_bnd hf (fun v4 hf => ?_)
      refine lv_istore_n (lv' := [(3, .int v4), (0, .ref (eP E 1)), (1, .int u1), (2, .int u2), (4, .int w4)]) X.1 X.2.1 dX2_addNumber_43 rfl hl (by decide) rfl (fun ls hl => ?_)
      obtain ⟨v5, e6, hf⟩ := b_bnd hf
      refine lv_iinc (v := v5) (k := 4) (lv' := [(4, .int v5), (3, .int v4), (0, .ref (eP E 1)), (1, .int u1), (2, .int u2)]) X.1 X.2.1 dX2_addNumber_44 hl rfl (by rw [e6]; exact congrArg _ (by decide)) (by decide) rfl (fun ls hl => ?_)
      refine lv_goto (tgt := 22) X.1 X.2.1 dX2_addNumber_47 (by decide) ?_
      obtain rfl := Option.some.inj hf
      exact ih _ _ (hr1 _ rfl) _ _ _ hw (lv_sub hl [2, 3, 4, 1, 0] rfl) K1
set_option maxHeartbeats 4000000 in
set_option maxRecDepth 100000 in
theorem k_X2_addNumber {l : Launch} {E : en_T} (hR : ShR E) {x1 : Int32} {x2 : Int32} {σ : sg_T}  {σ' : sg_T} (hf : f_X2_addNumber x1 x2 σ = some σ') : Ct l yX2_addNumber cX2_addNumber 5 none rm_X2_addNumber E [.ref (eP E 1), .int x1, .int x2] σ none σ' := by
  refine Ct.start (by decide) hR.1 (Nat.le_of_ble_eq_true rfl) ?_
  intro p e s m below meth c X hw ls hl
  have X : Cx E p s m _ meth c cX2_addNumber 5 RX2 none := X
  have hl : lv_has ls 5 [(0, .ref (eP E 1)), (1, .int x1), (2, .int x2)] := hl
  unfold f_X2_addNumber at hf
  refine lv_iload_n X.1 X.2.1 dX2_addNumber_0 rfl (lv_at hl 2 rfl) ?_
  refine lv_iload_n X.1 X.2.1 dX2_addNumber_1 rfl (lv_at hl 1 rfl) ?_
  refine lv_isub X.1 X.2.1 dX2_addNumber_2 ?_
  refine lv_iconst (v := 4) X.1 X.2.1 dX2_addNumber_3 (by decide) ?_
  refine lv_icmp_le (tgt := 17) X.1 X.2.1 dX2_addNumber_4 (by decide) (fun c1 => ?_) (fun c1 => ?_)
  · have hf := if_t hf c1
    refine lv_iconst (v := 0) X.1 X.2.1 dX2_addNumber_17 (by decide) ?_
    refine lv_istore_n (lv' := [(3, .int 0), (0, .ref (eP E 1)), (1, .int x1), (2, .int x2)]) X.1 X.2.1 dX2_addNumber_18 rfl hl (by decide) rfl (fun ls hl => ?_)
    refine lv_iload_n X.1 X.2.1 dX2_addNumber_19 rfl (lv_at hl 2 rfl) ?_
    refine lv_istore (lv' := [(4, .int x1), (3, .int 0), (0, .ref (eP E 1)), (1, .int x1), (2, .int x2)]) X.1 X.2.1 dX2_addNumber_20 hl (by decide) rfl (fun ls hl => ?_)
    obtain ⟨v8, v9, h7, hf⟩ := b_bd2 hf
    refine w_X2_addNumber_22 X hR  lfu _ _ h7 _ _ _ hw (lv_sub hl [2, 3, 4, 1, 0] rfl) (fun yv8 yv9 hq H locs ls hw hl => ?_)
    cases hq
    refine lv_aload_n X.1 X.2.1 dX2_addNumber_50 rfl (lv_at hl 0 rfl) ?_
    refine lv_sipush (v := 300) X.1 X.2.1 dX2_addNumber_51 (by decide) ?_
    refine lv_iload_n X.1 X.2.1 dX2_addNumber_54 rfl (lv_at hl 1 rfl) ?_
    refine lv_iload_n X.1 X.2.1 dX2_addNumber_55 rfl (lv_at hl 3 rfl) ?_
    obtain ⟨σ11, h10, hf⟩ := b_bd1 hf
    refine r_callV X hw (k_X2_addToken hR  h10) (sp1 hR) (C := RX2) (T := TX2) (N := 8) rfl qw245 qw247 qw4 qw69 qw248 okX2_addToken ⟨rfl, rfl⟩ ⟨(Nat.le_of_ble_eq_true rfl), (Nat.le_of_ble_eq_true rfl)⟩ ⟨Nat.zero_le _, Nat.zero_le _⟩ rfl hl.1 (rest := []) rfl (Nat.le_of_ble_eq_true rfl) dX2_addNumber_56 (st1 := []) rfl (fun H locs hw => ?_)
    obtain rfl := Option.some.inj hf
    exact r_vret X hw dX2_addNumber_59
  · have hf := if_e hf c1
    refine lv_aload_n X.1 X.2.1 dX2_addNumber_7 rfl (lv_at hl 0 rfl) ?_
    refine lv_sipush (v := 302) X.1 X.2.1 dX2_addNumber_8 (by decide) ?_
    refine lv_iload_n X.1 X.2.1 dX2_addNumber_11 rfl (lv_at hl 1 rfl) ?_
    refine lv_iconst (v := 0) X.1 X.2.1 dX2_addNumber_12 (by decide) ?_
    obtain ⟨σ13, h12, hf⟩ := b_bd1 hf
    refine r_callV X hw (k_X2_addToken hR  h12) (sp1 hR) (C := RX2) (T := TX2) (N := 8) rfl qw245 qw247 qw4 qw69 qw248 okX2_addToken ⟨rfl, rfl⟩ ⟨(Nat.le_of_ble_eq_true rfl), (Nat.le_of_ble_eq_true rfl)⟩ ⟨Nat.zero_le _, Nat.zero_le _⟩ rfl hl.1 (rest := []) rfl (Nat.le_of_ble_eq_true rfl) dX2_addNumber_13 (st1 := []) rfl (fun H locs hw => ?_)
    obtain rfl := Option.some.inj hf
    exact r_vret X hw dX2_addNumber_16
abbrev rm_X2_isSign : Room := { frames := 0, cells := 0, slots := 0, locals := 0 }
set_option maxHeartbeats 4000000 in
set_option maxRecDepth 100000 in
theorem k_X2_isSign {l : Launch} {E : en_T} (hR : ShR E) {x1 : Int32} {σ : sg_T} {r : Int32} (hf : f_X2_isSign x1 σ = some r) : Ct l yX2_isSign cX2_isSign 1 (some .boolean) rm_X2_isSign E [.int x1] σ (some (.int r)) σ := by
  refine Ct.start (by decide) hR.1 (Nat.le_of_ble_eq_true rfl) ?_
  intro p e s m below meth c X hw ls hl
  have X : Cx E p s m _ meth c cX2_isSign 1 RX2 (some .boolean) := X
  have hl : lv_has ls 1 [(0, .int x1)] := hl
  unfold f_X2_isSign at hf
  refine lv_iload_n X.1 X.2.1 dX2_isSign_0 rfl (lv_at hl 0 rfl) ?_
  refine lv_bipush (v := 40) X.1 X.2.1 dX2_isSign_1 (by decide) ?_
  refine lv_icmp_eq (tgt := 48) X.1 X.2.1 dX2_isSign_3 (by decide) (fun c1 => ?_) (fun c1 => ?_)
  · have hf := if_t hf c1
    refine lv_iconst (v := 1) X.1 X.2.1 dX2_isSign_48 (by decide) ?_
    refine lv_goto (tgt := 53) X.1 X.2.1 dX2_isSign_49 (by decide) ?_
    obtain rfl := Option.some.inj hf
    exact r_zret X hw (by decide) dX2_isSign_53
  · have hf := if_e hf c1
    refine lv_iload_n X.1 X.2.1 dX2_isSign_6 rfl (lv_at hl 0 rfl) ?_
    refine lv_bipush (v := 41) X.1 X.2.1 dX2_isSign_7 (by decide) ?_
    refine lv_icmp_eq (tgt := 48) X.1 X.2.1 dX2_isSign_9 (by decide) (fun c2 => ?_) (fun c2 => ?_)
    · have hf := if_t hf c2
      refine lv_iconst (v := 1) X.1 X.2.1 dX2_isSign_48 (by decide) ?_
      refine lv_goto (tgt := 53) X.1 X.2.1 dX2_isSign_49 (by decide) ?_
      obtain rfl := Option.some.inj hf
      exact r_zret X hw (by decide) dX2_isSign_53
    · have hf := if_e hf c2
      refine lv_iload_n X.1 X.2.1 dX2_isSign_12 rfl (lv_at hl 0 rfl) ?_
      refine lv_bipush (v := 59) X.1 X.2.1 dX2_isSign_13 (by decide) ?_
      refine lv_icmp_eq (tgt := 48) X.1 X.2.1 dX2_isSign_15 (by decide) (fun c3 => ?_) (fun c3 => ?_)
      · have hf := if_t hf c3
        refine lv_iconst (v := 1) X.1 X.2.1 dX2_isSign_48 (by decide) ?_
        refine lv_goto (tgt := 53) X.1 X.2.1 dX2_isSign_49 (by decide) ?_
        obtain rfl := Option.some.inj hf
        exact r_zret X hw (by decide) dX2_isSign_53
      · have hf := if_e hf c3
        refine lv_iload_n X.1 X.2.1 dX2_isSign_18 rfl (lv_at hl 0 rfl) ?_
        refine lv_bipush (v := 43) X.1 X.2.1 dX2_isSign_19 (by decide) ?_
        refine lv_icmp_eq (tgt := 48) X.1 X.2.1 dX2_isSign_21 (by decide) (fun c4 => ?_) (fun c4 => ?_)
        · have hf := if_t hf c4
          refine lv_iconst (v := 1) X.1 X.2.1 dX2_isSign_48 (by decide) ?_
          refine lv_goto (tgt := 53) X.1 X.2.1 dX2_isSign_49 (by decide) ?_
          obtain rfl := Option.some.inj hf
          exact r_zret X hw (by decide) dX2_isSign_53
        · have hf := if_e hf c4
          refine lv_iload_n X.1 X.2.1 dX2_isSign_24 rfl (lv_at hl 0 rfl) ?_
          refine lv_bipush (v := 45) X.1 X.2.1 dX2_isSign_25 (by decide) ?_
          refine lv_icmp_eq (tgt := 48) X.1 X.2.1 dX2_isSign_27 (by decide) (fun c5 => ?_) (fun c5 => ?_)
          · have hf := if_t hf c5
            refine lv_iconst (v := 1) X.1 X.2.1 dX2_isSign_48 (by decide) ?_
            refine lv_goto (tgt := 53) X.1 X.2.1 dX2_isSign_49 (by decide) ?_
            obtain rfl := Option.some.inj hf
            exact r_zret X hw (by decide) dX2_isSign_53
          · have hf := if_e hf c5
            refine lv_iload_n X.1 X.2.1 dX2_isSign_30 rfl (lv_at hl 0 rfl) ?_
            refine lv_bipush (v := 42) X.1 X.2.1 dX2_isSign_31 (by decide) ?_
            refine lv_icmp_eq (tgt := 48) X.1 X.2.1 dX2_isSign_33 (by decide) (fun c6 => ?_) (fun c6 => ?_)
            · have hf := if_t hf c6
              refine lv_iconst (v := 1) X.1 X.2.1 dX2_isSign_48 (by decide) ?_
              refine lv_goto (tgt := 53) X.1 X.2.1 dX2_isSign_49 (by decide) ?_
              obtain rfl := Option.some.inj hf
              exact r_zret X hw (by decide) dX2_isSign_53
            · have hf := if_e hf c6
              refine lv_iload_n X.1 X.2.1 dX2_isSign_36 rfl (lv_at hl 0 rfl) ?_
              refine lv_bipush (v := 60) X.1 X.2.1 dX2_isSign_37 (by decide) ?_
              refine lv_icmp_eq (tgt := 48) X.1 X.2.1 dX2_isSign_39 (by decide) (fun c7 => ?_) (fun c7 => ?_)
              · have hf := if_t hf c7
                refine lv_iconst (v := 1) X.1 X.2.1 dX2_isSign_48 (by decide) ?_
                refine lv_goto (tgt := 53) X.1 X.2.1 dX2_isSign_49 (by decide) ?_
                obtain rfl := Option.some.inj hf
                exact r_zret X hw (by decide) dX2_isSign_53
              · have hf := if_e hf c7
                refine lv_iload_n X.1 X.2.1 dX2_isSign_42 rfl (lv_at hl 0 rfl) ?_
                refine lv_bipush (v := 61) X.1 X.2.1 dX2_isSign_43 (by decide) ?_
                obtain ⟨v9, e10, hf⟩ := b_bnd hf
                refine r_join (g2 := F0 m 53 ls [.int v9]) ?_ (fun hj => ?_)
                · obtain ⟨h11, hf⟩ := b_cz hf
                  obtain rfl := Option.some.inj hf
                  exact r_zret X hw (cz_and h11) dX2_isSign_53
                · refine lv_icmp_ne (tgt := 52) X.1 X.2.1 dX2_isSign_45 (by decide) (fun c8 => ?_) (fun c8 => ?_)
                  · rw [e10, if_neg c8] at hj
                    refine lv_iconst (v := 0) X.1 X.2.1 dX2_isSign_52 (by decide) ?_
                    exact hj
                  · rw [e10, if_pos c8] at hj
                    refine lv_iconst (v := 1) X.1 X.2.1 dX2_isSign_48 (by decide) ?_
                    refine lv_goto (tgt := 53) X.1 X.2.1 dX2_isSign_49 (by decide) ?_
                    exact hj
abbrev rm_X2_now : Room := { frames := 0, cells := 0, slots := 0, locals := 0 }
set_option maxHeartbeats 4000000 in
set_option maxRecDepth 100000 in
theorem k_X2_now {l : Launch} {E : en_T} (hR : ShR E)  {σ : sg_T} {r : Int32} (hf : f_X2_now  σ = some r) : Ct l yX2_now cX2_now 1 (some .int) rm_X2_now E [.ref (eP E 1)] σ (some (.int r)) σ := by
  refine Ct.start (by decide) hR.1 (Nat.le_of_ble_eq_true rfl) ?_
  intro p e s m below meth c X hw ls hl
  have X : Cx E p s m _ meth c cX2_now 1 RX2 (some .int) := X
  have hl : lv_has ls 1 [(0, .ref (eP E 1))] := hl
  unfold f_X2_now at hf
  refine lv_aload_n X.1 X.2.1 dX2_now_0 rfl (lv_at hl 0 rfl) ?_
  refine r_get X hw (sp1 hR) (C := RX2) (T := TX2) (N := 8) rfl iwX2 6 (by decide) (Nat.le_of_ble_eq_true rfl) qw104 (v := .int (σ 1 6)) rfl dX2_now_1 ?_
  refine lv_aload_n X.1 X.2.1 dX2_now_4 rfl (lv_at hl 0 rfl) ?_
  refine r_get X hw (sp1 hR) (C := RX2) (T := TX2) (N := 8) rfl iwX2 5 (by decide) (Nat.le_of_ble_eq_true rfl) qw103 (v := .int (σ 1 5)) rfl dX2_now_5 ?_
  refine lv_icmp_ge (tgt := 23) X.1 X.2.1 dX2_now_8 (by decide) (fun c1 => ?_) (fun c1 => ?_)
  · have hf := if_t hf c1
    refine lv_sipush (v := 301) X.1 X.2.1 dX2_now_23 (by decide) ?_
    obtain rfl := Option.some.inj hf
    exact r_iret X hw dX2_now_26
  · have hf := if_e hf c1
    refine lv_aload_n X.1 X.2.1 dX2_now_11 rfl (lv_at hl 0 rfl) ?_
    refine r_get X hw (sp1 hR) (C := RX2) (T := TX2) (N := 8) rfl iwX2 2 (by decide) (Nat.le_of_ble_eq_true rfl) qw100 (v := .ref (eP E 3)) rfl dX2_now_12 ?_
    refine lv_aload_n X.1 X.2.1 dX2_now_15 rfl (lv_at hl 0 rfl) ?_
    refine r_get X hw (sp1 hR) (C := RX2) (T := TX2) (N := 8) rfl iwX2 6 (by decide) (Nat.le_of_ble_eq_true rfl) qw104 (v := .int (σ 1 6)) rfl dX2_now_16 ?_
    obtain ⟨h2, hf⟩ := b_ck hf
    refine r_iald X hw (sp3 hR) h2 dX2_now_19 ?_
    refine lv_goto (tgt := 26) X.1 X.2.1 dX2_now_20 (by decide) ?_
    obtain rfl := Option.some.inj hf
    exact r_iret X hw dX2_now_26
abbrev rm_X2_pass : Room := { frames := 1, cells := 0, slots := 0, locals := 100 }
set_option maxHeartbeats 4000000 in
set_option maxRecDepth 100000 in
theorem k_X2_pass {l : Launch} {E : en_T} (hR : ShR E) {x1 : Int32} {σ : sg_T} {r : Int32} {σ' : sg_T} (hf : f_X2_pass x1 σ = some (r, σ')) : Ct l yX2_pass cX2_pass 2 (some .boolean) rm_X2_pass E [.ref (eP E 1), .int x1] σ (some (.int r)) σ' := by
  refine Ct.start (by decide) hR.1 (Nat.le_of_ble_eq_true rfl) ?_
  intro p e s m below meth c X hw ls hl
  have X : Cx E p s m _ meth c cX2_pass 2 RX2 (some .boolean) := X
  have hl : lv_has ls 2 [(0, .ref (eP E 1)), (1, .int x1)] := hl
  unfold f_X2_pass at hf
  refine lv_aload_n X.1 X.2.1 dX2_pass_0 rfl (lv_at hl 0 rfl) ?_
  obtain ⟨r2, h1, hf⟩ := b_bd1 hf
  refine r_callV X hw (k_X2_now hR  h1) (sp1 hR) (C := RX2) (T := TX2) (N := 8) rfl qw271 qw273 qw8 qw69 qw274 okX2_now ⟨rfl, rfl⟩ ⟨(Nat.le_of_ble_eq_true rfl), (Nat.le_of_ble_eq_true rfl)⟩ ⟨Nat.zero_le _, Nat.zero_le _⟩ rfl hl.1 (rest := []) rfl (Nat.le_of_ble_eq_true rfl) dX2_pass_1 (st1 := [.int r2]) rfl (fun H locs hw => ?_)
  refine lv_iload_n X.1 X.2.1 dX2_pass_4 rfl (lv_at hl 1 rfl) ?_
  refine lv_icmp_eq (tgt := 10) X.1 X.2.1 dX2_pass_5 (by decide) (fun c3 => ?_) (fun c3 => ?_)
  · have hf := if_t hf c3
    refine lv_aload_n X.1 X.2.1 dX2_pass_10 rfl (lv_at hl 0 rfl) ?_
    refine lv_dup X.1 X.2.1 dX2_pass_11 rfl ?_
    refine r_get X hw (sp1 hR) (C := RX2) (T := TX2) (N := 8) rfl iwX2 6 (by decide) (Nat.le_of_ble_eq_true rfl) qw104 (v := .int (σ 1 6)) rfl dX2_pass_12 ?_
    refine lv_iconst (v := 1) X.1 X.2.1 dX2_pass_15 (by decide) ?_
    refine lv_iadd X.1 X.2.1 dX2_pass_16 ?_
    refine r_put X hw (sp1 hR) (C := RX2) (T := TX2) (N := 8) rfl iwX2 tyX2 tyX2_ok nmX2 6 (by decide) (Nat.le_of_ble_eq_true rfl) qw104 rfl (v := .int ((σ 1 6) + 1)) rfl rfl (x := ((σ 1 6) + 1)) rfl dX2_pass_17 (fun H locs hw => ?_)
    obtain ⟨σ4, e5, hf⟩ := b_bnd hf
    rw [← e5] at hw
    refine lv_iconst (v := 1) X.1 X.2.1 dX2_pass_20 (by decide) ?_
    obtain ⟨rfl, rfl⟩ := Prod.mk.inj (Option.some.inj hf)
    exact r_zret X hw (by decide) dX2_pass_21
  · have hf := if_e hf c3
    refine lv_iconst (v := 0) X.1 X.2.1 dX2_pass_8 (by decide) ?_
    obtain ⟨rfl, rfl⟩ := Prod.mk.inj (Option.some.inj hf)
    exact r_zret X hw (by decide) dX2_pass_9
def rm_read (n : Nat) : Room := { frames := n + 40, cells := 0, slots := 0, locals := 60 * n + 4000 }
theorem rm_read_ok (n : Nat) {k : Nat} (h : k ≤ 40) : (rm_read n).frames + 1 ≤ (rm_read (n + 1)).frames ∧ 8 + (k + 11) + (rm_read n).locals ≤ (rm_read (n + 1)).locals := by
  refine ⟨?_, ?_⟩
  · show n + 40 + 1 ≤ n + 1 + 40
    omega
  · show 8 + (k + 11) + (60 * n + 4000) ≤ 60 * (n + 1) + 4000
    omega
set_option maxHeartbeats 4000000 in
set_option maxRecDepth 100000 in
theorem k_X2_readOne {l : Launch} {E : en_T} (hR : ShR E) {rec : Nat → Int32 → sg_T → Option (Int32 × sg_T)} {n0 : Nat} (ih_X2_readE : ∀ {x1 : Int32} {σ : sg_T} {r : Int32} {σ' : sg_T}, rec 0 x1 σ = some (r, σ') → Ct l yX2_readE cX2_readE 3 (some .boolean) (rm_read n0) E [.ref (eP E 1), .int x1] σ (some (.int r)) σ') (ih_X2_readAnd : ∀ {x1 : Int32} {σ : sg_T} {r : Int32} {σ' : sg_T}, rec 1 x1 σ = some (r, σ') → Ct l yX2_readAnd cX2_readAnd 3 (some .boolean) (rm_read n0) E [.ref (eP E 1), .int x1] σ (some (.int r)) σ') (ih_X2_readNot : ∀ {x1 : Int32} {σ : sg_T} {r : Int32} {σ' : sg_T}, rec 2 x1 σ = some (r, σ') → Ct l yX2_readNot cX2_readNot 4 (some .boolean) (rm_read n0) E [.ref (eP E 1), .int x1] σ (some (.int r)) σ') (ih_X2_readSum : ∀ {x1 : Int32} {σ : sg_T} {r : Int32} {σ' : sg_T}, rec 3 x1 σ = some (r, σ') → Ct l yX2_readSum cX2_readSum 4 (some .boolean) (rm_read n0) E [.ref (eP E 1), .int x1] σ (some (.int r)) σ') (ih_X2_readTerm : ∀ {x1 : Int32} {σ : sg_T} {r : Int32} {σ' : sg_T}, rec 4 x1 σ = some (r, σ') → Ct l yX2_readTerm cX2_readTerm 3 (some .boolean) (rm_read n0) E [.ref (eP E 1), .int x1] σ (some (.int r)) σ') (ih_X2_readOne : ∀ {x1 : Int32} {σ : sg_T} {r : Int32} {σ' : sg_T}, rec 5 x1 σ = some (r, σ') → Ct l yX2_readOne cX2_readOne 4 (some .boolean) (rm_read n0) E [.ref (eP E 1), .int x1] σ (some (.int r)) σ') {x1 : Int32} {σ : sg_T} {r : Int32} {σ' : sg_T} (hf : f_X2_readOne rec x1 σ = some (r, σ')) : Ct l yX2_readOne cX2_readOne 4 (some .boolean) (rm_read (n0 + 1)) E [.ref (eP E 1), .int x1] σ (some (.int r)) σ' := by
  refine Ct.start (by decide) hR.1 (Nat.le_of_ble_eq_true rfl) ?_
  intro p e s m below meth c X hw ls hl
  have X : Cx E p s m _ meth c cX2_readOne 4 RX2 (some .boolean) := X
  have hl : lv_has ls 4 [(0, .ref (eP E 1)), (1, .int x1)] := hl
  unfold f_X2_readOne at hf
  refine lv_aload_n X.1 X.2.1 dX2_readOne_0 rfl (lv_at hl 0 rfl) ?_
  obtain ⟨r2, h1, hf⟩ := b_bd1 hf
  refine r_callV X hw (k_X2_now hR  h1) (sp1 hR) (C := RX2) (T := TX2) (N := 8) rfl qw271 qw273 qw8 qw69 qw274 okX2_now ⟨rfl, rfl⟩ ⟨(Nat.le_trans (m := 40) (Nat.le_of_ble_eq_true rfl) (Nat.le_add_left _ _)), (Nat.le_trans (m := 4000) (Nat.le_of_ble_eq_true rfl) (Nat.le_add_left _ _))⟩ ⟨Nat.zero_le _, Nat.zero_le _⟩ rfl hl.1 (rest := []) rfl (Nat.le_of_ble_eq_true rfl) dX2_readOne_1 (st1 := [.int r2]) rfl (fun H locs hw => ?_)
  refine lv_istore_n (lv' := [(2, .int r2), (0, .ref (eP E 1)), (1, .int x1)]) X.1 X.2.1 dX2_readOne_4 rfl hl (by decide) rfl (fun ls hl => ?_)
  refine lv_iload_n X.1 X.2.1 dX2_readOne_5 rfl (lv_at hl 0 rfl) ?_
  refine lv_sipush (v := 300) X.1 X.2.1 dX2_readOne_6 (by decide) ?_
  refine lv_icmp_ne (tgt := 51) X.1 X.2.1 dX2_readOne_9 (by decide) (fun c3 => ?_) (fun c3 => ?_)
  · have hf := if_e hf c3
    refine lv_iload_n X.1 X.2.1 dX2_readOne_51 rfl (lv_at hl 0 rfl) ?_
    refine lv_if_lt (tgt := 81) X.1 X.2.1 dX2_readOne_52 (by decide) (fun c4 => ?_) (fun c4 => ?_)
    · have hf := if_t hf c4
      refine lv_iload_n X.1 X.2.1 dX2_readOne_81 rfl (lv_at hl 0 rfl) ?_
      refine lv_bipush (v := 40) X.1 X.2.1 dX2_readOne_82 (by decide) ?_
      refine lv_icmp_eq (tgt := 93) X.1 X.2.1 dX2_readOne_84 (by decide) (fun c5 => ?_) (fun c5 => ?_)
      · have hf := if_t hf c5
        refine lv_iload_n X.1 X.2.1 dX2_readOne_93 rfl (lv_at hl 2 rfl) ?_
        refine lv_iconst (v := 5) X.1 X.2.1 dX2_readOne_94 (by decide) ?_
        refine lv_icmp_lt (tgt := 100) X.1 X.2.1 dX2_readOne_95 (by decide) (fun c6 => ?_) (fun c6 => ?_)
        · have hf := if_t hf c6
          refine lv_aload_n X.1 X.2.1 dX2_readOne_100 rfl (lv_at hl 1 rfl) ?_
          refine lv_dup X.1 X.2.1 dX2_readOne_101 rfl ?_
          refine r_get X hw (sp1 hR) (C := RX2) (T := TX2) (N := 8) rfl iwX2 6 (by decide) (Nat.le_of_ble_eq_true rfl) qw104 (v := .int (σ 1 6)) rfl dX2_readOne_102 ?_
          refine lv_iconst (v := 1) X.1 X.2.1 dX2_readOne_105 (by decide) ?_
          refine lv_iadd X.1 X.2.1 dX2_readOne_106 ?_
          refine r_put X hw (sp1 hR) (C := RX2) (T := TX2) (N := 8) rfl iwX2 tyX2 tyX2_ok nmX2 6 (by decide) (Nat.le_of_ble_eq_true rfl) qw104 rfl (v := .int ((σ 1 6) + 1)) rfl rfl (x := ((σ 1 6) + 1)) rfl dX2_readOne_107 (fun H locs hw => ?_)
          obtain ⟨σ7, e8, hf⟩ := b_bnd hf
          rw [← e8] at hw
          refine lv_iload_n X.1 X.2.1 dX2_readOne_110 rfl (lv_at hl 0 rfl) ?_
          refine lv_bipush (v := 40) X.1 X.2.1 dX2_readOne_111 (by decide) ?_
          refine lv_icmp_ne (tgt := 141) X.1 X.2.1 dX2_readOne_113 (by decide) (fun c9 => ?_) (fun c9 => ?_)
          · have hf := if_e hf c9
            refine lv_aload_n X.1 X.2.1 dX2_readOne_141 rfl (lv_at hl 1 rfl) ?_
            refine lv_iload_n X.1 X.2.1 dX2_readOne_142 rfl (lv_at hl 2 rfl) ?_
            refine lv_iconst (v := 1) X.1 X.2.1 dX2_readOne_143 (by decide) ?_
            refine lv_iadd X.1 X.2.1 dX2_readOne_144 ?_
            obtain ⟨r11, σ12, h10, hf⟩ := b_bd2 hf
            refine r_callV X hw (ih_X2_readOne  h10) (sp1 hR) (C := RX2) (T := TX2) (N := 8) rfl qw303 qw305 qw14 qw69 qw306 okX2_readOne ⟨rfl, rfl⟩ (rm_read_ok n0 (by decide)) ⟨Nat.zero_le _, Nat.zero_le _⟩ rfl hl.1 (rest := []) rfl (Nat.le_of_ble_eq_true rfl) dX2_readOne_145 (st1 := [.int r11]) rfl (fun H locs hw => ?_)
            refine lv_istore_n (lv' := [(3, .int r11), (2, .int r2), (0, .ref (eP E 1)), (1, .int x1)]) X.1 X.2.1 dX2_readOne_148 rfl hl (by decide) rfl (fun ls hl => ?_)
            refine lv_aload_n X.1 X.2.1 dX2_readOne_149 rfl (lv_at hl 2 rfl) ?_
            obtain ⟨h13, h14, hf⟩ := b_cT hf
            refine r_get X hw (sp1 hR) (C := RX2) (T := TX2) (N := 8) rfl iwX2 7 (by decide) (Nat.le_of_ble_eq_true rfl) qw105 (v := .ref (eP E ((σ12 1 7).toNatClampNeg))) (fv_dyn h14) dX2_readOne_150 ?_
            refine lv_bipush (v := 20) X.1 X.2.1 dX2_readOne_153 (by decide) ?_
            obtain ⟨σ16, h15, hf⟩ := b_bd1 hf
            refine r_callV X hw (k_X5_addStep hR h13 h15) (spT0 hR h13) (C := RX5) (T := TX5) (N := 3) rfl qw287 qw288 qw289 qw71 qw290 okX5_addStep ⟨rfl, rfl⟩ ⟨(Nat.le_trans (m := 40) (Nat.le_of_ble_eq_true rfl) (Nat.le_add_left _ _)), (Nat.le_trans (m := 4000) (Nat.le_of_ble_eq_true rfl) (Nat.le_add_left _ _))⟩ ⟨Nat.zero_le _, Nat.zero_le _⟩ rfl hl.1 (rest := []) rfl (Nat.le_of_ble_eq_true rfl) dX2_readOne_155 (st1 := []) rfl (fun H locs hw => ?_)
            refine lv_iload_n X.1 X.2.1 dX2_readOne_158 rfl (lv_at hl 0 rfl) ?_
            obtain ⟨h17, hf⟩ := b_cz hf
            obtain ⟨rfl, rfl⟩ := Prod.mk.inj (Option.some.inj hf)
            exact r_zret X hw (cz_and h17) dX2_readOne_159
          · have hf := if_t hf c9
            refine lv_aload_n X.1 X.2.1 dX2_readOne_116 rfl (lv_at hl 1 rfl) ?_
            refine lv_iload_n X.1 X.2.1 dX2_readOne_117 rfl (lv_at hl 2 rfl) ?_
            refine lv_iconst (v := 1) X.1 X.2.1 dX2_readOne_118 (by decide) ?_
            refine lv_iadd X.1 X.2.1 dX2_readOne_119 ?_
            obtain ⟨r19, σ20, h18, hf⟩ := b_bd2 hf
            refine r_callV X hw (ih_X2_readE  h18) (sp1 hR) (C := RX2) (T := TX2) (N := 8) rfl qw275 qw277 qw9 qw69 qw278 okX2_readE ⟨rfl, rfl⟩ (rm_read_ok n0 (by decide)) ⟨Nat.zero_le _, Nat.zero_le _⟩ rfl hl.1 (rest := []) rfl (Nat.le_of_ble_eq_true rfl) dX2_readOne_120 (st1 := [.int r19]) rfl (fun H locs hw => ?_)
            refine lv_if_eq (tgt := 139) X.1 X.2.1 dX2_readOne_123 (by decide) (fun c21 => ?_) (fun c21 => ?_)
            · have hf := if_t hf c21
              refine lv_iconst (v := 0) X.1 X.2.1 dX2_readOne_139 (by decide) ?_
              obtain ⟨rfl, rfl⟩ := Prod.mk.inj (Option.some.inj hf)
              exact r_zret X hw (by decide) dX2_readOne_140
            · have hf := if_e hf c21
              refine lv_aload_n X.1 X.2.1 dX2_readOne_126 rfl (lv_at hl 1 rfl) ?_
              refine lv_bipush (v := 41) X.1 X.2.1 dX2_readOne_127 (by decide) ?_
              obtain ⟨r23, σ24, h22, hf⟩ := b_bd2 hf
              refine r_callV X hw (k_X2_pass hR  h22) (sp1 hR) (C := RX2) (T := TX2) (N := 8) rfl qw267 qw269 qw7 qw69 qw270 okX2_pass ⟨rfl, rfl⟩ ⟨(Nat.le_trans (m := 40) (Nat.le_of_ble_eq_true rfl) (Nat.le_add_left _ _)), (Nat.le_trans (m := 4000) (Nat.le_of_ble_eq_true rfl) (Nat.le_add_left _ _))⟩ ⟨Nat.zero_le _, Nat.zero_le _⟩ rfl hl.1 (rest := []) rfl (Nat.le_of_ble_eq_true rfl) dX2_readOne_129 (st1 := [.int r23]) rfl (fun H locs hw => ?_)
              obtain ⟨v26, e27, hf⟩ := b_bnd hf
              refine r_join (g2 := F0 m 140 ls [.int v26]) ?_ (fun hj => ?_)
              · obtain ⟨h28, hf⟩ := b_cz hf
                obtain ⟨rfl, rfl⟩ := Prod.mk.inj (Option.some.inj hf)
                exact r_zret X hw (cz_and h28) dX2_readOne_140
              · refine lv_if_eq (tgt := 139) X.1 X.2.1 dX2_readOne_132 (by decide) (fun c25 => ?_) (fun c25 => ?_)
                · rw [e27, if_pos c25] at hj
                  refine lv_iconst (v := 0) X.1 X.2.1 dX2_readOne_139 (by decide) ?_
                  exact hj
                · rw [e27, if_neg c25] at hj
                  refine lv_iconst (v := 1) X.1 X.2.1 dX2_readOne_135 (by decide) ?_
                  refine lv_goto (tgt := 140) X.1 X.2.1 dX2_readOne_136 (by decide) ?_
                  exact hj
        · have hf := if_e hf c6
          refine lv_iconst (v := 0) X.1 X.2.1 dX2_readOne_98 (by decide) ?_
          obtain ⟨rfl, rfl⟩ := Prod.mk.inj (Option.some.inj hf)
          exact r_zret X hw (by decide) dX2_readOne_99
      · have hf := if_e hf c5
        refine lv_iload_n X.1 X.2.1 dX2_readOne_87 rfl (lv_at hl 0 rfl) ?_
        refine lv_bipush (v := 45) X.1 X.2.1 dX2_readOne_88 (by decide) ?_
        refine lv_icmp_ne (tgt := 98) X.1 X.2.1 dX2_readOne_90 (by decide) (fun c29 => ?_) (fun c29 => ?_)
        · have hf := if_e hf c29
          refine lv_iconst (v := 0) X.1 X.2.1 dX2_readOne_98 (by decide) ?_
          obtain ⟨rfl, rfl⟩ := Prod.mk.inj (Option.some.inj hf)
          exact r_zret X hw (by decide) dX2_readOne_99
        · have hf := if_t hf c29
          refine lv_iload_n X.1 X.2.1 dX2_readOne_93 rfl (lv_at hl 2 rfl) ?_
          refine lv_iconst (v := 5) X.1 X.2.1 dX2_readOne_94 (by decide) ?_
          refine lv_icmp_lt (tgt := 100) X.1 X.2.1 dX2_readOne_95 (by decide) (fun c30 => ?_) (fun c30 => ?_)
          · have hf := if_t hf c30
            refine lv_aload_n X.1 X.2.1 dX2_readOne_100 rfl (lv_at hl 1 rfl) ?_
            refine lv_dup X.1 X.2.1 dX2_readOne_101 rfl ?_
            refine r_get X hw (sp1 hR) (C := RX2) (T := TX2) (N := 8) rfl iwX2 6 (by decide) (Nat.le_of_ble_eq_true rfl) qw104 (v := .int (σ 1 6)) rfl dX2_readOne_102 ?_
            refine lv_iconst (v := 1) X.1 X.2.1 dX2_readOne_105 (by decide) ?_
            refine lv_iadd X.1 X.2.1 dX2_readOne_106 ?_
            refine r_put X hw (sp1 hR) (C := RX2) (T := TX2) (N := 8) rfl iwX2 tyX2 tyX2_ok nmX2 6 (by decide) (Nat.le_of_ble_eq_true rfl) qw104 rfl (v := .int ((σ 1 6) + 1)) rfl rfl (x := ((σ 1 6) + 1)) rfl dX2_readOne_107 (fun H locs hw => ?_)
            obtain ⟨σ31, e32, hf⟩ := b_bnd hf
            rw [← e32] at hw
            refine lv_iload_n X.1 X.2.1 dX2_readOne_110 rfl (lv_at hl 0 rfl) ?_
            refine lv_bipush (v := 40) X.1 X.2.1 dX2_readOne_111 (by decide) ?_
            refine lv_icmp_ne (tgt := 141) X.1 X.2.1 dX2_readOne_113 (by decide) (fun c33 => ?_) (fun c33 => ?_)
            · have hf := if_e hf c33
              refine lv_aload_n X.1 X.2.1 dX2_readOne_141 rfl (lv_at hl 1 rfl) ?_
              refine lv_iload_n X.1 X.2.1 dX2_readOne_142 rfl (lv_at hl 2 rfl) ?_
              refine lv_iconst (v := 1) X.1 X.2.1 dX2_readOne_143 (by decide) ?_
              refine lv_iadd X.1 X.2.1 dX2_readOne_144 ?_
              obtain ⟨r35, σ36, h34, hf⟩ := b_bd2 hf
              refine r_callV X hw (ih_X2_readOne  h34) (sp1 hR) (C := RX2) (T := TX2) (N := 8) rfl qw303 qw305 qw14 qw69 qw306 okX2_readOne ⟨rfl, rfl⟩ (rm_read_ok n0 (by decide)) ⟨Nat.zero_le _, Nat.zero_le _⟩ rfl hl.1 (rest := []) rfl (Nat.le_of_ble_eq_true rfl) dX2_readOne_145 (st1 := [.int r35]) rfl (fun H locs hw => ?_)
              refine lv_istore_n (lv' := [(3, .int r35), (2, .int r2), (0, .ref (eP E 1)), (1, .int x1)]) X.1 X.2.1 dX2_readOne_148 rfl hl (by decide) rfl (fun ls hl => ?_)
              refine lv_aload_n X.1 X.2.1 dX2_readOne_149 rfl (lv_at hl 2 rfl) ?_
              obtain ⟨h37, h38, hf⟩ := b_cT hf
              refine r_get X hw (sp1 hR) (C := RX2) (T := TX2) (N := 8) rfl iwX2 7 (by decide) (Nat.le_of_ble_eq_true rfl) qw105 (v := .ref (eP E ((σ36 1 7).toNatClampNeg))) (fv_dyn h38) dX2_readOne_150 ?_
              refine lv_bipush (v := 20) X.1 X.2.1 dX2_readOne_153 (by decide) ?_
              obtain ⟨σ40, h39, hf⟩ := b_bd1 hf
              refine r_callV X hw (k_X5_addStep hR h37 h39) (spT0 hR h37) (C := RX5) (T := TX5) (N := 3) rfl qw287 qw288 qw289 qw71 qw290 okX5_addStep ⟨rfl, rfl⟩ ⟨(Nat.le_trans (m := 40) (Nat.le_of_ble_eq_true rfl) (Nat.le_add_left _ _)), (Nat.le_trans (m := 4000) (Nat.le_of_ble_eq_true rfl) (Nat.le_add_left _ _))⟩ ⟨Nat.zero_le _, Nat.zero_le _⟩ rfl hl.1 (rest := []) rfl (Nat.le_of_ble_eq_true rfl) dX2_readOne_155 (st1 := []) rfl (fun H locs hw => ?_)
              refine lv_iload_n X.1 X.2.1 dX2_readOne_158 rfl (lv_at hl 0 rfl) ?_
              obtain ⟨h41, hf⟩ := b_cz hf
              obtain ⟨rfl, rfl⟩ := Prod.mk.inj (Option.some.inj hf)
              exact r_zret X hw (cz_and h41) dX2_readOne_159
            · have hf := if_t hf c33
              refine lv_aload_n X.1 X.2.1 dX2_readOne_116 rfl (lv_at hl 1 rfl) ?_
              refine lv_iload_n X.1 X.2.1 dX2_readOne_117 rfl (lv_at hl 2 rfl) ?_
              refine lv_iconst (v := 1) X.1 X.2.1 dX2_readOne_118 (by decide) ?_
              refine lv_iadd X.1 X.2.1 dX2_readOne_119 ?_
              obtain ⟨r43, σ44, h42, hf⟩ := b_bd2 hf
              refine r_callV X hw (ih_X2_readE  h42) (sp1 hR) (C := RX2) (T := TX2) (N := 8) rfl qw275 qw277 qw9 qw69 qw278 okX2_readE ⟨rfl, rfl⟩ (rm_read_ok n0 (by decide)) ⟨Nat.zero_le _, Nat.zero_le _⟩ rfl hl.1 (rest := []) rfl (Nat.le_of_ble_eq_true rfl) dX2_readOne_120 (st1 := [.int r43]) rfl (fun H locs hw => ?_)
              refine lv_if_eq (tgt := 139) X.1 X.2.1 dX2_readOne_123 (by decide) (fun c45 => ?_) (fun c45 => ?_)
              · have hf := if_t hf c45
                refine lv_iconst (v := 0) X.1 X.2.1 dX2_readOne_139 (by decide) ?_
                obtain ⟨rfl, rfl⟩ := Prod.mk.inj (Option.some.inj hf)
                exact r_zret X hw (by decide) dX2_readOne_140
              · have hf := if_e hf c45
                refine lv_aload_n X.1 X.2.1 dX2_readOne_126 rfl (lv_at hl 1 rfl) ?_
                refine lv_bipush (v := 41) X.1 X.2.1 dX2_readOne_127 (by decide) ?_
                obtain ⟨r47, σ48, h46, hf⟩ := b_bd2 hf
                refine r_callV X hw (k_X2_pass hR  h46) (sp1 hR) (C := RX2) (T := TX2) (N := 8) rfl qw267 qw269 qw7 qw69 qw270 okX2_pass ⟨rfl, rfl⟩ ⟨(Nat.le_trans (m := 40) (Nat.le_of_ble_eq_true rfl) (Nat.le_add_left _ _)), (Nat.le_trans (m := 4000) (Nat.le_of_ble_eq_true rfl) (Nat.le_add_left _ _))⟩ ⟨Nat.zero_le _, Nat.zero_le _⟩ rfl hl.1 (rest := []) rfl (Nat.le_of_ble_eq_true rfl) dX2_readOne_129 (st1 := [.int r47]) rfl (fun H locs hw => ?_)
                obtain ⟨v50, e51, hf⟩ := b_bnd hf
                refine r_join (g2 := F0 m 140 ls [.int v50]) ?_ (fun hj => ?_)
                · obtain ⟨h52, hf⟩ := b_cz hf
                  obtain ⟨rfl, rfl⟩ := Prod.mk.inj (Option.some.inj hf)
                  exact r_zret X hw (cz_and h52) dX2_readOne_140
                · refine lv_if_eq (tgt := 139) X.1 X.2.1 dX2_readOne_132 (by decide) (fun c49 => ?_) (fun c49 => ?_)
                  · rw [e51, if_pos c49] at hj
                    refine lv_iconst (v := 0) X.1 X.2.1 dX2_readOne_139 (by decide) ?_
                    exact hj
                  · rw [e51, if_neg c49] at hj
                    refine lv_iconst (v := 1) X.1 X.2.1 dX2_readOne_135 (by decide) ?_
                    refine lv_goto (tgt := 140) X.1 X.2.1 dX2_readOne_136 (by decide) ?_
                    exact hj
          · have hf := if_e hf c30
            refine lv_iconst (v := 0) X.1 X.2.1 dX2_readOne_98 (by decide) ?_
            obtain ⟨rfl, rfl⟩ := Prod.mk.inj (Option.some.inj hf)
            exact r_zret X hw (by decide) dX2_readOne_99
    · have hf := if_e hf c4
      refine lv_iload_n X.1 X.2.1 dX2_readOne_55 rfl (lv_at hl 0 rfl) ?_
      refine lv_bipush (v := 6) X.1 X.2.1 dX2_readOne_56 (by decide) ?_
      refine lv_icmp_ge (tgt := 81) X.1 X.2.1 dX2_readOne_58 (by decide) (fun c53 => ?_) (fun c53 => ?_)
      · have hf := if_t hf c53
        refine lv_iload_n X.1 X.2.1 dX2_readOne_81 rfl (lv_at hl 0 rfl) ?_
        refine lv_bipush (v := 40) X.1 X.2.1 dX2_readOne_82 (by decide) ?_
        refine lv_icmp_eq (tgt := 93) X.1 X.2.1 dX2_readOne_84 (by decide) (fun c54 => ?_) (fun c54 => ?_)
        · have hf := if_t hf c54
          refine lv_iload_n X.1 X.2.1 dX2_readOne_93 rfl (lv_at hl 2 rfl) ?_
          refine lv_iconst (v := 5) X.1 X.2.1 dX2_readOne_94 (by decide) ?_
          refine lv_icmp_lt (tgt := 100) X.1 X.2.1 dX2_readOne_95 (by decide) (fun c55 => ?_) (fun c55 => ?_)
          · have hf := if_t hf c55
            refine lv_aload_n X.1 X.2.1 dX2_readOne_100 rfl (lv_at hl 1 rfl) ?_
            refine lv_dup X.1 X.2.1 dX2_readOne_101 rfl ?_
            refine r_get X hw (sp1 hR) (C := RX2) (T := TX2) (N := 8) rfl iwX2 6 (by decide) (Nat.le_of_ble_eq_true rfl) qw104 (v := .int (σ 1 6)) rfl dX2_readOne_102 ?_
            refine lv_iconst (v := 1) X.1 X.2.1 dX2_readOne_105 (by decide) ?_
            refine lv_iadd X.1 X.2.1 dX2_readOne_106 ?_
            refine r_put X hw (sp1 hR) (C := RX2) (T := TX2) (N := 8) rfl iwX2 tyX2 tyX2_ok nmX2 6 (by decide) (Nat.le_of_ble_eq_true rfl) qw104 rfl (v := .int ((σ 1 6) + 1)) rfl rfl (x := ((σ 1 6) + 1)) rfl dX2_readOne_107 (fun H locs hw => ?_)
            obtain ⟨σ56, e57, hf⟩ := b_bnd hf
            rw [← e57] at hw
            refine lv_iload_n X.1 X.2.1 dX2_readOne_110 rfl (lv_at hl 0 rfl) ?_
            refine lv_bipush (v := 40) X.1 X.2.1 dX2_readOne_111 (by decide) ?_
            refine lv_icmp_ne (tgt := 141) X.1 X.2.1 dX2_readOne_113 (by decide) (fun c58 => ?_) (fun c58 => ?_)
            · have hf := if_e hf c58
              refine lv_aload_n X.1 X.2.1 dX2_readOne_141 rfl (lv_at hl 1 rfl) ?_
              refine lv_iload_n X.1 X.2.1 dX2_readOne_142 rfl (lv_at hl 2 rfl) ?_
              refine lv_iconst (v := 1) X.1 X.2.1 dX2_readOne_143 (by decide) ?_
              refine lv_iadd X.1 X.2.1 dX2_readOne_144 ?_
              obtain ⟨r60, σ61, h59, hf⟩ := b_bd2 hf
              refine r_callV X hw (ih_X2_readOne  h59) (sp1 hR) (C := RX2) (T := TX2) (N := 8) rfl qw303 qw305 qw14 qw69 qw306 okX2_readOne ⟨rfl, rfl⟩ (rm_read_ok n0 (by decide)) ⟨Nat.zero_le _, Nat.zero_le _⟩ rfl hl.1 (rest := []) rfl (Nat.le_of_ble_eq_true rfl) dX2_readOne_145 (st1 := [.int r60]) rfl (fun H locs hw => ?_)
              refine lv_istore_n (lv' := [(3, .int r60), (2, .int r2), (0, .ref (eP E 1)), (1, .int x1)]) X.1 X.2.1 dX2_readOne_148 rfl hl (by decide) rfl (fun ls hl => ?_)
              refine lv_aload_n X.1 X.2.1 dX2_readOne_149 rfl (lv_at hl 2 rfl) ?_
              obtain ⟨h62, h63, hf⟩ := b_cT hf
              refine r_get X hw (sp1 hR) (C := RX2) (T := TX2) (N := 8) rfl iwX2 7 (by decide) (Nat.le_of_ble_eq_true rfl) qw105 (v := .ref (eP E ((σ61 1 7).toNatClampNeg))) (fv_dyn h63) dX2_readOne_150 ?_
              refine lv_bipush (v := 20) X.1 X.2.1 dX2_readOne_153 (by decide) ?_
              obtain ⟨σ65, h64, hf⟩ := b_bd1 hf
              refine r_callV X hw (k_X5_addStep hR h62 h64) (spT0 hR h62) (C := RX5) (T := TX5) (N := 3) rfl qw287 qw288 qw289 qw71 qw290 okX5_addStep ⟨rfl, rfl⟩ ⟨(Nat.le_trans (m := 40) (Nat.le_of_ble_eq_true rfl) (Nat.le_add_left _ _)), (Nat.le_trans (m := 4000) (Nat.le_of_ble_eq_true rfl) (Nat.le_add_left _ _))⟩ ⟨Nat.zero_le _, Nat.zero_le _⟩ rfl hl.1 (rest := []) rfl (Nat.le_of_ble_eq_true rfl) dX2_readOne_155 (st1 := []) rfl (fun H locs hw => ?_)
              refine lv_iload_n X.1 X.2.1 dX2_readOne_158 rfl (lv_at hl 0 rfl) ?_
              obtain ⟨h66, hf⟩ := b_cz hf
              obtain ⟨rfl, rfl⟩ := Prod.mk.inj (Option.some.inj hf)
              exact r_zret X hw (cz_and h66) dX2_readOne_159
            · have hf := if_t hf c58
              refine lv_aload_n X.1 X.2.1 dX2_readOne_116 rfl (lv_at hl 1 rfl) ?_
              refine lv_iload_n X.1 X.2.1 dX2_readOne_117 rfl (lv_at hl 2 rfl) ?_
              refine lv_iconst (v := 1) X.1 X.2.1 dX2_readOne_118 (by decide) ?_
              refine lv_iadd X.1 X.2.1 dX2_readOne_119 ?_
              obtain ⟨r68, σ69, h67, hf⟩ := b_bd2 hf
              refine r_callV X hw (ih_X2_readE  h67) (sp1 hR) (C := RX2) (T := TX2) (N := 8) rfl qw275 qw277 qw9 qw69 qw278 okX2_readE ⟨rfl, rfl⟩ (rm_read_ok n0 (by decide)) ⟨Nat.zero_le _, Nat.zero_le _⟩ rfl hl.1 (rest := []) rfl (Nat.le_of_ble_eq_true rfl) dX2_readOne_120 (st1 := [.int r68]) rfl (fun H locs hw => ?_)
              refine lv_if_eq (tgt := 139) X.1 X.2.1 dX2_readOne_123 (by decide) (fun c70 => ?_) (fun c70 => ?_)
              · have hf := if_t hf c70
                refine lv_iconst (v := 0) X.1 X.2.1 dX2_readOne_139 (by decide) ?_
                obtain ⟨rfl, rfl⟩ := Prod.mk.inj (Option.some.inj hf)
                exact r_zret X hw (by decide) dX2_readOne_140
              · have hf := if_e hf c70
                refine lv_aload_n X.1 X.2.1 dX2_readOne_126 rfl (lv_at hl 1 rfl) ?_
                refine lv_bipush (v := 41) X.1 X.2.1 dX2_readOne_127 (by decide) ?_
                obtain ⟨r72, σ73, h71, hf⟩ := b_bd2 hf
                refine r_callV X hw (k_X2_pass hR  h71) (sp1 hR) (C := RX2) (T := TX2) (N := 8) rfl qw267 qw269 qw7 qw69 qw270 okX2_pass ⟨rfl, rfl⟩ ⟨(Nat.le_trans (m := 40) (Nat.le_of_ble_eq_true rfl) (Nat.le_add_left _ _)), (Nat.le_trans (m := 4000) (Nat.le_of_ble_eq_true rfl) (Nat.le_add_left _ _))⟩ ⟨Nat.zero_le _, Nat.zero_le _⟩ rfl hl.1 (rest := []) rfl (Nat.le_of_ble_eq_true rfl) dX2_readOne_129 (st1 := [.int r72]) rfl (fun H locs hw => ?_)
                obtain ⟨v75, e76, hf⟩ := b_bnd hf
                refine r_join (g2 := F0 m 140 ls [.int v75]) ?_ (fun hj => ?_)
                · obtain ⟨h77, hf⟩ := b_cz hf
                  obtain ⟨rfl, rfl⟩ := Prod.mk.inj (Option.some.inj hf)
                  exact r_zret X hw (cz_and h77) dX2_readOne_140
                · refine lv_if_eq (tgt := 139) X.1 X.2.1 dX2_readOne_132 (by decide) (fun c74 => ?_) (fun c74 => ?_)
                  · rw [e76, if_pos c74] at hj
                    refine lv_iconst (v := 0) X.1 X.2.1 dX2_readOne_139 (by decide) ?_
                    exact hj
                  · rw [e76, if_neg c74] at hj
                    refine lv_iconst (v := 1) X.1 X.2.1 dX2_readOne_135 (by decide) ?_
                    refine lv_goto (tgt := 140) X.1 X.2.1 dX2_readOne_136 (by decide) ?_
                    exact hj
          · have hf := if_e hf c55
            refine lv_iconst (v := 0) X.1 X.2.1 dX2_readOne_98 (by decide) ?_
            obtain ⟨rfl, rfl⟩ := Prod.mk.inj (Option.some.inj hf)
            exact r_zret X hw (by decide) dX2_readOne_99
        · have hf := if_e hf c54
          refine lv_iload_n X.1 X.2.1 dX2_readOne_87 rfl (lv_at hl 0 rfl) ?_
          refine lv_bipush (v := 45) X.1 X.2.1 dX2_readOne_88 (by decide) ?_
          refine lv_icmp_ne (tgt := 98) X.1 X.2.1 dX2_readOne_90 (by decide) (fun c78 => ?_) (fun c78 => ?_)
          · have hf := if_e hf c78
            refine lv_iconst (v := 0) X.1 X.2.1 dX2_readOne_98 (by decide) ?_
            obtain ⟨rfl, rfl⟩ := Prod.mk.inj (Option.some.inj hf)
            exact r_zret X hw (by decide) dX2_readOne_99
          · have hf := if_t hf c78
            refine lv_iload_n X.1 X.2.1 dX2_readOne_93 rfl (lv_at hl 2 rfl) ?_
            refine lv_iconst (v := 5) X.1 X.2.1 dX2_readOne_94 (by decide) ?_
            refine lv_icmp_lt (tgt := 100) X.1 X.2.1 dX2_readOne_95 (by decide) (fun c79 => ?_) (fun c79 => ?_)
            · have hf := if_t hf c79
              refine lv_aload_n X.1 X.2.1 dX2_readOne_100 rfl (lv_at hl 1 rfl) ?_
              refine lv_dup X.1 X.2.1 dX2_readOne_101 rfl ?_
              refine r_get X hw (sp1 hR) (C := RX2) (T := TX2) (N := 8) rfl iwX2 6 (by decide) (Nat.le_of_ble_eq_true rfl) qw104 (v := .int (σ 1 6)) rfl dX2_readOne_102 ?_
              refine lv_iconst (v := 1) X.1 X.2.1 dX2_readOne_105 (by decide) ?_
              refine lv_iadd X.1 X.2.1 dX2_readOne_106 ?_
              refine r_put X hw (sp1 hR) (C := RX2) (T := TX2) (N := 8) rfl iwX2 tyX2 tyX2_ok nmX2 6 (by decide) (Nat.le_of_ble_eq_true rfl) qw104 rfl (v := .int ((σ 1 6) + 1)) rfl rfl (x := ((σ 1 6) + 1)) rfl dX2_readOne_107 (fun H locs hw => ?_)
              obtain ⟨σ80, e81, hf⟩ := b_bnd hf
              rw [← e81] at hw
              refine lv_iload_n X.1 X.2.1 dX2_readOne_110 rfl (lv_at hl 0 rfl) ?_
              refine lv_bipush (v := 40) X.1 X.2.1 dX2_readOne_111 (by decide) ?_
              refine lv_icmp_ne (tgt := 141) X.1 X.2.1 dX2_readOne_113 (by decide) (fun c82 => ?_) (fun c82 => ?_)
              · have hf := if_e hf c82
                refine lv_aload_n X.1 X.2.1 dX2_readOne_141 rfl (lv_at hl 1 rfl) ?_
                refine lv_iload_n X.1 X.2.1 dX2_readOne_142 rfl (lv_at hl 2 rfl) ?_
                refine lv_iconst (v := 1) X.1 X.2.1 dX2_readOne_143 (by decide) ?_
                refine lv_iadd X.1 X.2.1 dX2_readOne_144 ?_
                obtain ⟨r84, σ85, h83, hf⟩ := b_bd2 hf
                refine r_callV X hw (ih_X2_readOne  h83) (sp1 hR) (C := RX2) (T := TX2) (N := 8) rfl qw303 qw305 qw14 qw69 qw306 okX2_readOne ⟨rfl, rfl⟩ (rm_read_ok n0 (by decide)) ⟨Nat.zero_le _, Nat.zero_le _⟩ rfl hl.1 (rest := []) rfl (Nat.le_of_ble_eq_true rfl) dX2_readOne_145 (st1 := [.int r84]) rfl (fun H locs hw => ?_)
                refine lv_istore_n (lv' := [(3, .int r84), (2, .int r2), (0, .ref (eP E 1)), (1, .int x1)]) X.1 X.2.1 dX2_readOne_148 rfl hl (by decide) rfl (fun ls hl => ?_)
                refine lv_aload_n X.1 X.2.1 dX2_readOne_149 rfl (lv_at hl 2 rfl) ?_
                obtain ⟨h86, h87, hf⟩ := b_cT hf
                refine r_get X hw (sp1 hR) (C := RX2) (T := TX2) (N := 8) rfl iwX2 7 (by decide) (Nat.le_of_ble_eq_true rfl) qw105 (v := .ref (eP E ((σ85 1 7).toNatClampNeg))) (fv_dyn h87) dX2_readOne_150 ?_
                refine lv_bipush (v := 20) X.1 X.2.1 dX2_readOne_153 (by decide) ?_
                obtain ⟨σ89, h88, hf⟩ := b_bd1 hf
                refine r_callV X hw (k_X5_addStep hR h86 h88) (spT0 hR h86) (C := RX5) (T := TX5) (N := 3) rfl qw287 qw288 qw289 qw71 qw290 okX5_addStep ⟨rfl, rfl⟩ ⟨(Nat.le_trans (m := 40) (Nat.le_of_ble_eq_true rfl) (Nat.le_add_left _ _)), (Nat.le_trans (m := 4000) (Nat.le_of_ble_eq_true rfl) (Nat.le_add_left _ _))⟩ ⟨Nat.zero_le _, Nat.zero_le _⟩ rfl hl.1 (rest := []) rfl (Nat.le_of_ble_eq_true rfl) dX2_readOne_155 (st1 := []) rfl (fun H locs hw => ?_)
                refine lv_iload_n X.1 X.2.1 dX2_readOne_158 rfl (lv_at hl 0 rfl) ?_
                obtain ⟨h90, hf⟩ := b_cz hf
                obtain ⟨rfl, rfl⟩ := Prod.mk.inj (Option.some.inj hf)
                exact r_zret X hw (cz_and h90) dX2_readOne_159
              · have hf := if_t hf c82
                refine lv_aload_n X.1 X.2.1 dX2_readOne_116 rfl (lv_at hl 1 rfl) ?_
                refine lv_iload_n X.1 X.2.1 dX2_readOne_117 rfl (lv_at hl 2 rfl) ?_
                refine lv_iconst (v := 1) X.1 X.2.1 dX2_readOne_118 (by decide) ?_
                refine lv_iadd X.1 X.2.1 dX2_readOne_119 ?_
                obtain ⟨r92, σ93, h91, hf⟩ := b_bd2 hf
                refine r_callV X hw (ih_X2_readE  h91) (sp1 hR) (C := RX2) (T := TX2) (N := 8) rfl qw275 qw277 qw9 qw69 qw278 okX2_readE ⟨rfl, rfl⟩ (rm_read_ok n0 (by decide)) ⟨Nat.zero_le _, Nat.zero_le _⟩ rfl hl.1 (rest := []) rfl (Nat.le_of_ble_eq_true rfl) dX2_readOne_120 (st1 := [.int r92]) rfl (fun H locs hw => ?_)
                refine lv_if_eq (tgt := 139) X.1 X.2.1 dX2_readOne_123 (by decide) (fun c94 => ?_) (fun c94 => ?_)
                · have hf := if_t hf c94
                  refine lv_iconst (v := 0) X.1 X.2.1 dX2_readOne_139 (by decide) ?_
                  obtain ⟨rfl, rfl⟩ := Prod.mk.inj (Option.some.inj hf)
                  exact r_zret X hw (by decide) dX2_readOne_140
                · have hf := if_e hf c94
                  refine lv_aload_n X.1 X.2.1 dX2_readOne_126 rfl (lv_at hl 1 rfl) ?_
                  refine lv_bipush (v := 41) X.1 X.2.1 dX2_readOne_127 (by decide) ?_
                  obtain ⟨r96, σ97, h95, hf⟩ := b_bd2 hf
                  refine r_callV X hw (k_X2_pass hR  h95) (sp1 hR) (C := RX2) (T := TX2) (N := 8) rfl qw267 qw269 qw7 qw69 qw270 okX2_pass ⟨rfl, rfl⟩ ⟨(Nat.le_trans (m := 40) (Nat.le_of_ble_eq_true rfl) (Nat.le_add_left _ _)), (Nat.le_trans (m := 4000) (Nat.le_of_ble_eq_true rfl) (Nat.le_add_left _ _))⟩ ⟨Nat.zero_le _, Nat.zero_le _⟩ rfl hl.1 (rest := []) rfl (Nat.le_of_ble_eq_true rfl) dX2_readOne_129 (st1 := [.int r96]) rfl (fun H locs hw => ?_)
                  obtain ⟨v99, e100, hf⟩ := b_bnd hf
                  refine r_join (g2 := F0 m 140 ls [.int v99]) ?_ (fun hj => ?_)
                  · obtain ⟨h101, hf⟩ := b_cz hf
                    obtain ⟨rfl, rfl⟩ := Prod.mk.inj (Option.some.inj hf)
                    exact r_zret X hw (cz_and h101) dX2_readOne_140
                  · refine lv_if_eq (tgt := 139) X.1 X.2.1 dX2_readOne_132 (by decide) (fun c98 => ?_) (fun c98 => ?_)
                    · rw [e100, if_pos c98] at hj
                      refine lv_iconst (v := 0) X.1 X.2.1 dX2_readOne_139 (by decide) ?_
                      exact hj
                    · rw [e100, if_neg c98] at hj
                      refine lv_iconst (v := 1) X.1 X.2.1 dX2_readOne_135 (by decide) ?_
                      refine lv_goto (tgt := 140) X.1 X.2.1 dX2_readOne_136 (by decide) ?_
                      exact hj
            · have hf := if_e hf c79
              refine lv_iconst (v := 0) X.1 X.2.1 dX2_readOne_98 (by decide) ?_
              obtain ⟨rfl, rfl⟩ := Prod.mk.inj (Option.some.inj hf)
              exact r_zret X hw (by decide) dX2_readOne_99
      · have hf := if_e hf c53
        refine lv_aload_n X.1 X.2.1 dX2_readOne_61 rfl (lv_at hl 1 rfl) ?_
        obtain ⟨h102, h103, hf⟩ := b_cT hf
        refine r_get X hw (sp1 hR) (C := RX2) (T := TX2) (N := 8) rfl iwX2 7 (by decide) (Nat.le_of_ble_eq_true rfl) qw105 (v := .ref (eP E ((σ 1 7).toNatClampNeg))) (fv_dyn h103) dX2_readOne_62 ?_
        refine lv_iload_n X.1 X.2.1 dX2_readOne_65 rfl (lv_at hl 0 rfl) ?_
        obtain ⟨σ105, h104, hf⟩ := b_bd1 hf
        refine r_callV X hw (k_X5_addStep hR h102 h104) (spT0 hR h102) (C := RX5) (T := TX5) (N := 3) rfl qw287 qw288 qw289 qw71 qw290 okX5_addStep ⟨rfl, rfl⟩ ⟨(Nat.le_trans (m := 40) (Nat.le_of_ble_eq_true rfl) (Nat.le_add_left _ _)), (Nat.le_trans (m := 4000) (Nat.le_of_ble_eq_true rfl) (Nat.le_add_left _ _))⟩ ⟨Nat.zero_le _, Nat.zero_le _⟩ rfl hl.1 (rest := []) rfl (Nat.le_of_ble_eq_true rfl) dX2_readOne_66 (st1 := []) rfl (fun H locs hw => ?_)
        refine lv_aload_n X.1 X.2.1 dX2_readOne_69 rfl (lv_at hl 1 rfl) ?_
        refine lv_dup X.1 X.2.1 dX2_readOne_70 rfl ?_
        refine r_get X hw (sp1 hR) (C := RX2) (T := TX2) (N := 8) rfl iwX2 6 (by decide) (Nat.le_of_ble_eq_true rfl) qw104 (v := .int (σ105 1 6)) rfl dX2_readOne_71 ?_
        refine lv_iconst (v := 1) X.1 X.2.1 dX2_readOne_74 (by decide) ?_
        refine lv_iadd X.1 X.2.1 dX2_readOne_75 ?_
        refine r_put X hw (sp1 hR) (C := RX2) (T := TX2) (N := 8) rfl iwX2 tyX2 tyX2_ok nmX2 6 (by decide) (Nat.le_of_ble_eq_true rfl) qw104 rfl (v := .int ((σ105 1 6) + 1)) rfl rfl (x := ((σ105 1 6) + 1)) rfl dX2_readOne_76 (fun H locs hw => ?_)
        obtain ⟨σ106, e107, hf⟩ := b_bnd hf
        rw [← e107] at hw
        refine lv_iconst (v := 1) X.1 X.2.1 dX2_readOne_79 (by decide) ?_
        obtain ⟨rfl, rfl⟩ := Prod.mk.inj (Option.some.inj hf)
        exact r_zret X hw (by decide) dX2_readOne_80
  · have hf := if_t hf c3
    refine lv_aload_n X.1 X.2.1 dX2_readOne_12 rfl (lv_at hl 1 rfl) ?_
    refine r_get X hw (sp1 hR) (C := RX2) (T := TX2) (N := 8) rfl iwX2 6 (by decide) (Nat.le_of_ble_eq_true rfl) qw104 (v := .int (σ 1 6)) rfl dX2_readOne_13 ?_
    refine lv_aload_n X.1 X.2.1 dX2_readOne_16 rfl (lv_at hl 1 rfl) ?_
    refine r_get X hw (sp1 hR) (C := RX2) (T := TX2) (N := 8) rfl iwX2 5 (by decide) (Nat.le_of_ble_eq_true rfl) qw103 (v := .int (σ 1 5)) rfl dX2_readOne_17 ?_
    refine lv_icmp_ge (tgt := 51) X.1 X.2.1 dX2_readOne_20 (by decide) (fun c108 => ?_) (fun c108 => ?_)
    · have hf := if_t hf c108
      refine lv_iload_n X.1 X.2.1 dX2_readOne_51 rfl (lv_at hl 0 rfl) ?_
      refine lv_if_lt (tgt := 81) X.1 X.2.1 dX2_readOne_52 (by decide) (fun c109 => ?_) (fun c109 => ?_)
      · have hf := if_t hf c109
        refine lv_iload_n X.1 X.2.1 dX2_readOne_81 rfl (lv_at hl 0 rfl) ?_
        refine lv_bipush (v := 40) X.1 X.2.1 dX2_readOne_82 (by decide) ?_
        refine lv_icmp_eq (tgt := 93) X.1 X.2.1 dX2_readOne_84 (by decide) (fun c110 => ?_) (fun c110 => ?_)
        · have hf := if_t hf c110
          refine lv_iload_n X.1 X.2.1 dX2_readOne_93 rfl (lv_at hl 2 rfl) ?_
          refine lv_iconst (v := 5) X.1 X.2.1 dX2_readOne_94 (by decide) ?_
          refine lv_icmp_lt (tgt := 100) X.1 X.2.1 dX2_readOne_95 (by decide) (fun c111 => ?_) (fun c111 => ?_)
          · have hf := if_t hf c111
            refine lv_aload_n X.1 X.2.1 dX2_readOne_100 rfl (lv_at hl 1 rfl) ?_
            refine lv_dup X.1 X.2.1 dX2_readOne_101 rfl ?_
            refine r_get X hw (sp1 hR) (C := RX2) (T := TX2) (N := 8) rfl iwX2 6 (by decide) (Nat.le_of_ble_eq_true rfl) qw104 (v := .int (σ 1 6)) rfl dX2_readOne_102 ?_
            refine lv_iconst (v := 1) X.1 X.2.1 dX2_readOne_105 (by decide) ?_
            refine lv_iadd X.1 X.2.1 dX2_readOne_106 ?_
            refine r_put X hw (sp1 hR) (C := RX2) (T := TX2) (N := 8) rfl iwX2 tyX2 tyX2_ok nmX2 6 (by decide) (Nat.le_of_ble_eq_true rfl) qw104 rfl (v := .int ((σ 1 6) + 1)) rfl rfl (x := ((σ 1 6) + 1)) rfl dX2_readOne_107 (fun H locs hw => ?_)
            obtain ⟨σ112, e113, hf⟩ := b_bnd hf
            rw [← e113] at hw
            refine lv_iload_n X.1 X.2.1 dX2_readOne_110 rfl (lv_at hl 0 rfl) ?_
            refine lv_bipush (v := 40) X.1 X.2.1 dX2_readOne_111 (by decide) ?_
            refine lv_icmp_ne (tgt := 141) X.1 X.2.1 dX2_readOne_113 (by decide) (fun c114 => ?_) (fun c114 => ?_)
            · have hf := if_e hf c114
              refine lv_aload_n X.1 X.2.1 dX2_readOne_141 rfl (lv_at hl 1 rfl) ?_
              refine lv_iload_n X.1 X.2.1 dX2_readOne_142 rfl (lv_at hl 2 rfl) ?_
              refine lv_iconst (v := 1) X.1 X.2.1 dX2_readOne_143 (by decide) ?_
              refine lv_iadd X.1 X.2.1 dX2_readOne_144 ?_
              obtain ⟨r116, σ117, h115, hf⟩ := b_bd2 hf
              refine r_callV X hw (ih_X2_readOne  h115) (sp1 hR) (C := RX2) (T := TX2) (N := 8) rfl qw303 qw305 qw14 qw69 qw306 okX2_readOne ⟨rfl, rfl⟩ (rm_read_ok n0 (by decide)) ⟨Nat.zero_le _, Nat.zero_le _⟩ rfl hl.1 (rest := []) rfl (Nat.le_of_ble_eq_true rfl) dX2_readOne_145 (st1 := [.int r116]) rfl (fun H locs hw => ?_)
              refine lv_istore_n (lv' := [(3, .int r116), (2, .int r2), (0, .ref (eP E 1)), (1, .int x1)]) X.1 X.2.1 dX2_readOne_148 rfl hl (by decide) rfl (fun ls hl => ?_)
              refine lv_aload_n X.1 X.2.1 dX2_readOne_149 rfl (lv_at hl 2 rfl) ?_
              obtain ⟨h118, h119, hf⟩ := b_cT hf
              refine r_get X hw (sp1 hR) (C := RX2) (T := TX2) (N := 8) rfl iwX2 7 (by decide) (Nat.le_of_ble_eq_true rfl) qw105 (v := .ref (eP E ((σ117 1 7).toNatClampNeg))) (fv_dyn h119) dX2_readOne_150 ?_
              refine lv_bipush (v := 20) X.1 X.2.1 dX2_readOne_153 (by decide) ?_
              obtain ⟨σ121, h120, hf⟩ := b_bd1 hf
              refine r_callV X hw (k_X5_addStep hR h118 h120) (spT0 hR h118) (C := RX5) (T := TX5) (N := 3) rfl qw287 qw288 qw289 qw71 qw290 okX5_addStep ⟨rfl, rfl⟩ ⟨(Nat.le_trans (m := 40) (Nat.le_of_ble_eq_true rfl) (Nat.le_add_left _ _)), (Nat.le_trans (m := 4000) (Nat.le_of_ble_eq_true rfl) (Nat.le_add_left _ _))⟩ ⟨Nat.zero_le _, Nat.zero_le _⟩ rfl hl.1 (rest := []) rfl (Nat.le_of_ble_eq_true rfl) dX2_readOne_155 (st1 := []) rfl (fun H locs hw => ?_)
              refine lv_iload_n X.1 X.2.1 dX2_readOne_158 rfl (lv_at hl 0 rfl) ?_
              obtain ⟨h122, hf⟩ := b_cz hf
              obtain ⟨rfl, rfl⟩ := Prod.mk.inj (Option.some.inj hf)
              exact r_zret X hw (cz_and h122) dX2_readOne_159
            · have hf := if_t hf c114
              refine lv_aload_n X.1 X.2.1 dX2_readOne_116 rfl (lv_at hl 1 rfl) ?_
              refine lv_iload_n X.1 X.2.1 dX2_readOne_117 rfl (lv_at hl 2 rfl) ?_
              refine lv_iconst (v := 1) X.1 X.2.1 dX2_readOne_118 (by decide) ?_
              refine lv_iadd X.1 X.2.1 dX2_readOne_119 ?_
              obtain ⟨r124, σ125, h123, hf⟩ := b_bd2 hf
              refine r_callV X hw (ih_X2_readE  h123) (sp1 hR) (C := RX2) (T := TX2) (N := 8) rfl qw275 qw277 qw9 qw69 qw278 okX2_readE ⟨rfl, rfl⟩ (rm_read_ok n0 (by decide)) ⟨Nat.zero_le _, Nat.zero_le _⟩ rfl hl.1 (rest := []) rfl (Nat.le_of_ble_eq_true rfl) dX2_readOne_120 (st1 := [.int r124]) rfl (fun H locs hw => ?_)
              refine lv_if_eq (tgt := 139) X.1 X.2.1 dX2_readOne_123 (by decide) (fun c126 => ?_) (fun c126 => ?_)
              · have hf := if_t hf c126
                refine lv_iconst (v := 0) X.1 X.2.1 dX2_readOne_139 (by decide) ?_
                obtain ⟨rfl, rfl⟩ := Prod.mk.inj (Option.some.inj hf)
                exact r_zret X hw (by decide) dX2_readOne_140
              · have hf := if_e hf c126
                refine lv_aload_n X.1 X.2.1 dX2_readOne_126 rfl (lv_at hl 1 rfl) ?_
                refine lv_bipush (v := 41) X.1 X.2.1 dX2_readOne_127 (by decide) ?_
                obtain ⟨r128, σ129, h127, hf⟩ := b_bd2 hf
                refine r_callV X hw (k_X2_pass hR  h127) (sp1 hR) (C := RX2) (T := TX2) (N := 8) rfl qw267 qw269 qw7 qw69 qw270 okX2_pass ⟨rfl, rfl⟩ ⟨(Nat.le_trans (m := 40) (Nat.le_of_ble_eq_true rfl) (Nat.le_add_left _ _)), (Nat.le_trans (m := 4000) (Nat.le_of_ble_eq_true rfl) (Nat.le_add_left _ _))⟩ ⟨Nat.zero_le _, Nat.zero_le _⟩ rfl hl.1 (rest := []) rfl (Nat.le_of_ble_eq_true rfl) dX2_readOne_129 (st1 := [.int r128]) rfl (fun H locs hw => ?_)
                obtain ⟨v131, e132, hf⟩ := b_bnd hf
                refine r_join (g2 := F0 m 140 ls [.int v131]) ?_ (fun hj => ?_)
                · obtain ⟨h133, hf⟩ := b_cz hf
                  obtain ⟨rfl, rfl⟩ := Prod.mk.inj (Option.some.inj hf)
                  exact r_zret X hw (cz_and h133) dX2_readOne_140
                · refine lv_if_eq (tgt := 139) X.1 X.2.1 dX2_readOne_132 (by decide) (fun c130 => ?_) (fun c130 => ?_)
                  · rw [e132, if_pos c130] at hj
                    refine lv_iconst (v := 0) X.1 X.2.1 dX2_readOne_139 (by decide) ?_
                    exact hj
                  · rw [e132, if_neg c130] at hj
                    refine lv_iconst (v := 1) X.1 X.2.1 dX2_readOne_135 (by decide) ?_
                    refine lv_goto (tgt := 140) X.1 X.2.1 dX2_readOne_136 (by decide) ?_
                    exact hj
          · have hf := if_e hf c111
            refine lv_iconst (v := 0) X.1 X.2.1 dX2_readOne_98 (by decide) ?_
            obtain ⟨rfl, rfl⟩ := Prod.mk.inj (Option.some.inj hf)
            exact r_zret X hw (by decide) dX2_readOne_99
        · have hf := if_e hf c110
          refine lv_iload_n X.1 X.2.1 dX2_readOne_87 rfl (lv_at hl 0 rfl) ?_
          refine lv_bipush (v := 45) X.1 X.2.1 dX2_readOne_88 (by decide) ?_
          refine lv_icmp_ne (tgt := 98) X.1 X.2.1 dX2_readOne_90 (by decide) (fun c134 => ?_) (fun c134 => ?_)
          · have hf := if_e hf c134
            refine lv_iconst (v := 0) X.1 X.2.1 dX2_readOne_98 (by decide) ?_
            obtain ⟨rfl, rfl⟩ := Prod.mk.inj (Option.some.inj hf)
            exact r_zret X hw (by decide) dX2_readOne_99
          · have hf := if_t hf c134
            refine lv_iload_n X.1 X.2.1 dX2_readOne_93 rfl (lv_at hl 2 rfl) ?_
            refine lv_iconst (v := 5) X.1 X.2.1 dX2_readOne_94 (by decide) ?_
            refine lv_icmp_lt (tgt := 100) X.1 X.2.1 dX2_readOne_95 (by decide) (fun c135 => ?_) (fun c135 => ?_)
            · have hf := if_t hf c135
              refine lv_aload_n X.1 X.2.1 dX2_readOne_100 rfl (lv_at hl 1 rfl) ?_
              refine lv_dup X.1 X.2.1 dX2_readOne_101 rfl ?_
              refine r_get X hw (sp1 hR) (C := RX2) (T := TX2) (N := 8) rfl iwX2 6 (by decide) (Nat.le_of_ble_eq_true rfl) qw104 (v := .int (σ 1 6)) rfl dX2_readOne_102 ?_
              refine lv_iconst (v := 1) X.1 X.2.1 dX2_readOne_105 (by decide) ?_
              refine lv_iadd X.1 X.2.1 dX2_readOne_106 ?_
              refine r_put X hw (sp1 hR) (C := RX2) (T := TX2) (N := 8) rfl iwX2 tyX2 tyX2_ok nmX2 6 (by decide) (Nat.le_of_ble_eq_true rfl) qw104 rfl (v := .int ((σ 1 6) + 1)) rfl rfl (x := ((σ 1 6) + 1)) rfl dX2_readOne_107 (fun H locs hw => ?_)
              obtain ⟨σ136, e137, hf⟩ := b_bnd hf
              rw [← e137] at hw
              refine lv_iload_n X.1 X.2.1 dX2_readOne_110 rfl (lv_at hl 0 rfl) ?_
              refine lv_bipush (v := 40) X.1 X.2.1 dX2_readOne_111 (by decide) ?_
              refine lv_icmp_ne (tgt := 141) X.1 X.2.1 dX2_readOne_113 (by decide) (fun c138 => ?_) (fun c138 => ?_)
              · have hf := if_e hf c138
                refine lv_aload_n X.1 X.2.1 dX2_readOne_141 rfl (lv_at hl 1 rfl) ?_
                refine lv_iload_n X.1 X.2.1 dX2_readOne_142 rfl (lv_at hl 2 rfl) ?_
                refine lv_iconst (v := 1) X.1 X.2.1 dX2_readOne_143 (by decide) ?_
                refine lv_iadd X.1 X.2.1 dX2_readOne_144 ?_
                obtain ⟨r140, σ141, h139, hf⟩ := b_bd2 hf
                refine r_callV X hw (ih_X2_readOne  h139) (sp1 hR) (C := RX2) (T := TX2) (N := 8) rfl qw303 qw305 qw14 qw69 qw306 okX2_readOne ⟨rfl, rfl⟩ (rm_read_ok n0 (by decide)) ⟨Nat.zero_le _, Nat.zero_le _⟩ rfl hl.1 (rest := []) rfl (Nat.le_of_ble_eq_true rfl) dX2_readOne_145 (st1 := [.int r140]) rfl (fun H locs hw => ?_)
                refine lv_istore_n (lv' := [(3, .int r140), (2, .int r2), (0, .ref (eP E 1)), (1, .int x1)]) X.1 X.2.1 dX2_readOne_148 rfl hl (by decide) rfl (fun ls hl => ?_)
                refine lv_aload_n X.1 X.2.1 dX2_readOne_149 rfl (lv_at hl 2 rfl) ?_
                obtain ⟨h142, h143, hf⟩ := b_cT hf
                refine r_get X hw (sp1 hR) (C := RX2) (T := TX2) (N := 8) rfl iwX2 7 (by decide) (Nat.le_of_ble_eq_true rfl) qw105 (v := .ref (eP E ((σ141 1 7).toNatClampNeg))) (fv_dyn h143) dX2_readOne_150 ?_
                refine lv_bipush (v := 20) X.1 X.2.1 dX2_readOne_153 (by decide) ?_
                obtain ⟨σ145, h144, hf⟩ := b_bd1 hf
                refine r_callV X hw (k_X5_addStep hR h142 h144) (spT0 hR h142) (C := RX5) (T := TX5) (N := 3) rfl qw287 qw288 qw289 qw71 qw290 okX5_addStep ⟨rfl, rfl⟩ ⟨(Nat.le_trans (m := 40) (Nat.le_of_ble_eq_true rfl) (Nat.le_add_left _ _)), (Nat.le_trans (m := 4000) (Nat.le_of_ble_eq_true rfl) (Nat.le_add_left _ _))⟩ ⟨Nat.zero_le _, Nat.zero_le _⟩ rfl hl.1 (rest := []) rfl (Nat.le_of_ble_eq_true rfl) dX2_readOne_155 (st1 := []) rfl (fun H locs hw => ?_)
                refine lv_iload_n X.1 X.2.1 dX2_readOne_158 rfl (lv_at hl 0 rfl) ?_
                obtain ⟨h146, hf⟩ := b_cz hf
                obtain ⟨rfl, rfl⟩ := Prod.mk.inj (Option.some.inj hf)
                exact r_zret X hw (cz_and h146) dX2_readOne_159
              · have hf := if_t hf c138
                refine lv_aload_n X.1 X.2.1 dX2_readOne_116 rfl (lv_at hl 1 rfl) ?_
                refine lv_iload_n X.1 X.2.1 dX2_readOne_117 rfl (lv_at hl 2 rfl) ?_
                refine lv_iconst (v := 1) X.1 X.2.1 dX2_readOne_118 (by decide) ?_
                refine lv_iadd X.1 X.2.1 dX2_readOne_119 ?_
                obtain ⟨r148, σ149, h147, hf⟩ := b_bd2 hf
                refine r_callV X hw (ih_X2_readE  h147) (sp1 hR) (C := RX2) (T := TX2) (N := 8) rfl qw275 qw277 qw9 qw69 qw278 okX2_readE ⟨rfl, rfl⟩ (rm_read_ok n0 (by decide)) ⟨Nat.zero_le _, Nat.zero_le _⟩ rfl hl.1 (rest := []) rfl (Nat.le_of_ble_eq_true rfl) dX2_readOne_120 (st1 := [.int r148]) rfl (fun H locs hw => ?_)
                refine lv_if_eq (tgt := 139) X.1 X.2.1 dX2_readOne_123 (by decide) (fun c150 => ?_) (fun c150 => ?_)
                · have hf := if_t hf c150
                  refine lv_iconst (v := 0) X.1 X.2.1 dX2_readOne_139 (by decide) ?_
                  obtain ⟨rfl, rfl⟩ := Prod.mk.inj (Option.some.inj hf)
                  exact r_zret X hw (by decide) dX2_readOne_140
                · have hf := if_e hf c150
                  refine lv_aload_n X.1 X.2.1 dX2_readOne_126 rfl (lv_at hl 1 rfl) ?_
                  refine lv_bipush (v := 41) X.1 X.2.1 dX2_readOne_127 (by decide) ?_
                  obtain ⟨r152, σ153, h151, hf⟩ := b_bd2 hf
                  refine r_callV X hw (k_X2_pass hR  h151) (sp1 hR) (C := RX2) (T := TX2) (N := 8) rfl qw267 qw269 qw7 qw69 qw270 okX2_pass ⟨rfl, rfl⟩ ⟨(Nat.le_trans (m := 40) (Nat.le_of_ble_eq_true rfl) (Nat.le_add_left _ _)), (Nat.le_trans (m := 4000) (Nat.le_of_ble_eq_true rfl) (Nat.le_add_left _ _))⟩ ⟨Nat.zero_le _, Nat.zero_le _⟩ rfl hl.1 (rest := []) rfl (Nat.le_of_ble_eq_true rfl) dX2_readOne_129 (st1 := [.int r152]) rfl (fun H locs hw => ?_)
                  obtain ⟨v155, e156, hf⟩ := b_bnd hf
                  refine r_join (g2 := F0 m 140 ls [.int v155]) ?_ (fun hj => ?_)
                  · obtain ⟨h157, hf⟩ := b_cz hf
                    obtain ⟨rfl, rfl⟩ := Prod.mk.inj (Option.some.inj hf)
                    exact r_zret X hw (cz_and h157) dX2_readOne_140
                  · refine lv_if_eq (tgt := 139) X.1 X.2.1 dX2_readOne_132 (by decide) (fun c154 => ?_) (fun c154 => ?_)
                    · rw [e156, if_pos c154] at hj
                      refine lv_iconst (v := 0) X.1 X.2.1 dX2_readOne_139 (by decide) ?_
                      exact hj
                    · rw [e156, if_neg c154] at hj
                      refine lv_iconst (v := 1) X.1 X.2.1 dX2_readOne_135 (by decide) ?_
                      refine lv_goto (tgt := 140) X.1 X.2.1 dX2_readOne_136 (by decide) ?_
                      exact hj
            · have hf := if_e hf c135
              refine lv_iconst (v := 0) X.1 X.2.1 dX2_readOne_98 (by decide) ?_
              obtain ⟨rfl, rfl⟩ := Prod.mk.inj (Option.some.inj hf)
              exact r_zret X hw (by decide) dX2_readOne_99
      · have hf := if_e hf c109
        refine lv_iload_n X.1 X.2.1 dX2_readOne_55 rfl (lv_at hl 0 rfl) ?_
        refine lv_bipush (v := 6) X.1 X.2.1 dX2_readOne_56 (by decide) ?_
        refine lv_icmp_ge (tgt := 81) X.1 X.2.1 dX2_readOne_58 (by decide) (fun c158 => ?_) (fun c158 => ?_)
        · have hf := if_t hf c158
          refine lv_iload_n X.1 X.2.1 dX2_readOne_81 rfl (lv_at hl 0 rfl) ?_
          refine lv_bipush (v := 40) X.1 X.2.1 dX2_readOne_82 (by decide) ?_
          refine lv_icmp_eq (tgt := 93) X.1 X.2.1 dX2_readOne_84 (by decide) (fun c159 => ?_) (fun c159 => ?_)
          · have hf := if_t hf c159
            refine lv_iload_n X.1 X.2.1 dX2_readOne_93 rfl (lv_at hl 2 rfl) ?_
            refine lv_iconst (v := 5) X.1 X.2.1 dX2_readOne_94 (by decide) ?_
            refine lv_icmp_lt (tgt := 100) X.1 X.2.1 dX2_readOne_95 (by decide) (fun c160 => ?_) (fun c160 => ?_)
            · have hf := if_t hf c160
              refine lv_aload_n X.1 X.2.1 dX2_readOne_100 rfl (lv_at hl 1 rfl) ?_
              refine lv_dup X.1 X.2.1 dX2_readOne_101 rfl ?_
              refine r_get X hw (sp1 hR) (C := RX2) (T := TX2) (N := 8) rfl iwX2 6 (by decide) (Nat.le_of_ble_eq_true rfl) qw104 (v := .int (σ 1 6)) rfl dX2_readOne_102 ?_
              refine lv_iconst (v := 1) X.1 X.2.1 dX2_readOne_105 (by decide) ?_
              refine lv_iadd X.1 X.2.1 dX2_readOne_106 ?_
              refine r_put X hw (sp1 hR) (C := RX2) (T := TX2) (N := 8) rfl iwX2 tyX2 tyX2_ok nmX2 6 (by decide) (Nat.le_of_ble_eq_true rfl) qw104 rfl (v := .int ((σ 1 6) + 1)) rfl rfl (x := ((σ 1 6) + 1)) rfl dX2_readOne_107 (fun H locs hw => ?_)
              obtain ⟨σ161, e162, hf⟩ := b_bnd hf
              rw [← e162] at hw
              refine lv_iload_n X.1 X.2.1 dX2_readOne_110 rfl (lv_at hl 0 rfl) ?_
              refine lv_bipush (v := 40) X.1 X.2.1 dX2_readOne_111 (by decide) ?_
              refine lv_icmp_ne (tgt := 141) X.1 X.2.1 dX2_readOne_113 (by decide) (fun c163 => ?_) (fun c163 => ?_)
              · have hf := if_e hf c163
                refine lv_aload_n X.1 X.2.1 dX2_readOne_141 rfl (lv_at hl 1 rfl) ?_
                refine lv_iload_n X.1 X.2.1 dX2_readOne_142 rfl (lv_at hl 2 rfl) ?_
                refine lv_iconst (v := 1) X.1 X.2.1 dX2_readOne_143 (by decide) ?_
                refine lv_iadd X.1 X.2.1 dX2_readOne_144 ?_
                obtain ⟨r165, σ166, h164, hf⟩ := b_bd2 hf
                refine r_callV X hw (ih_X2_readOne  h164) (sp1 hR) (C := RX2) (T := TX2) (N := 8) rfl qw303 qw305 qw14 qw69 qw306 okX2_readOne ⟨rfl, rfl⟩ (rm_read_ok n0 (by decide)) ⟨Nat.zero_le _, Nat.zero_le _⟩ rfl hl.1 (rest := []) rfl (Nat.le_of_ble_eq_true rfl) dX2_readOne_145 (st1 := [.int r165]) rfl (fun H locs hw => ?_)
                refine lv_istore_n (lv' := [(3, .int r165), (2, .int r2), (0, .ref (eP E 1)), (1, .int x1)]) X.1 X.2.1 dX2_readOne_148 rfl hl (by decide) rfl (fun ls hl => ?_)
                refine lv_aload_n X.1 X.2.1 dX2_readOne_149 rfl (lv_at hl 2 rfl) ?_
                obtain ⟨h167, h168, hf⟩ := b_cT hf
                refine r_get X hw (sp1 hR) (C := RX2) (T := TX2) (N := 8) rfl iwX2 7 (by decide) (Nat.le_of_ble_eq_true rfl) qw105 (v := .ref (eP E ((σ166 1 7).toNatClampNeg))) (fv_dyn h168) dX2_readOne_150 ?_
                refine lv_bipush (v := 20) X.1 X.2.1 dX2_readOne_153 (by decide) ?_
                obtain ⟨σ170, h169, hf⟩ := b_bd1 hf
                refine r_callV X hw (k_X5_addStep hR h167 h169) (spT0 hR h167) (C := RX5) (T := TX5) (N := 3) rfl qw287 qw288 qw289 qw71 qw290 okX5_addStep ⟨rfl, rfl⟩ ⟨(Nat.le_trans (m := 40) (Nat.le_of_ble_eq_true rfl) (Nat.le_add_left _ _)), (Nat.le_trans (m := 4000) (Nat.le_of_ble_eq_true rfl) (Nat.le_add_left _ _))⟩ ⟨Nat.zero_le _, Nat.zero_le _⟩ rfl hl.1 (rest := []) rfl (Nat.le_of_ble_eq_true rfl) dX2_readOne_155 (st1 := []) rfl (fun H locs hw => ?_)
                refine lv_iload_n X.1 X.2.1 dX2_readOne_158 rfl (lv_at hl 0 rfl) ?_
                obtain ⟨h171, hf⟩ := b_cz hf
                obtain ⟨rfl, rfl⟩ := Prod.mk.inj (Option.some.inj hf)
                exact r_zret X hw (cz_and h171) dX2_readOne_159
              · have hf := if_t hf c163
                refine lv_aload_n X.1 X.2.1 dX2_readOne_116 rfl (lv_at hl 1 rfl) ?_
                refine lv_iload_n X.1 X.2.1 dX2_readOne_117 rfl (lv_at hl 2 rfl) ?_
                refine lv_iconst (v := 1) X.1 X.2.1 dX2_readOne_118 (by decide) ?_
                refine lv_iadd X.1 X.2.1 dX2_readOne_119 ?_
                obtain ⟨r173, σ174, h172, hf⟩ := b_bd2 hf
                refine r_callV X hw (ih_X2_readE  h172) (sp1 hR) (C := RX2) (T := TX2) (N := 8) rfl qw275 qw277 qw9 qw69 qw278 okX2_readE ⟨rfl, rfl⟩ (rm_read_ok n0 (by decide)) ⟨Nat.zero_le _, Nat.zero_le _⟩ rfl hl.1 (rest := []) rfl (Nat.le_of_ble_eq_true rfl) dX2_readOne_120 (st1 := [.int r173]) rfl (fun H locs hw => ?_)
                refine lv_if_eq (tgt := 139) X.1 X.2.1 dX2_readOne_123 (by decide) (fun c175 => ?_) (fun c175 => ?_)
                · have hf := if_t hf c175
                  refine lv_iconst (v := 0) X.1 X.2.1 dX2_readOne_139 (by decide) ?_
                  obtain ⟨rfl, rfl⟩ := Prod.mk.inj (Option.some.inj hf)
                  exact r_zret X hw (by decide) dX2_readOne_140
                · have hf := if_e hf c175
                  refine lv_aload_n X.1 X.2.1 dX2_readOne_126 rfl (lv_at hl 1 rfl) ?_
                  refine lv_bipush (v := 41) X.1 X.2.1 dX2_readOne_127 (by decide) ?_
                  obtain ⟨r177, σ178, h176, hf⟩ := b_bd2 hf
                  refine r_callV X hw (k_X2_pass hR  h176) (sp1 hR) (C := RX2) (T := TX2) (N := 8) rfl qw267 qw269 qw7 qw69 qw270 okX2_pass ⟨rfl, rfl⟩ ⟨(Nat.le_trans (m := 40) (Nat.le_of_ble_eq_true rfl) (Nat.le_add_left _ _)), (Nat.le_trans (m := 4000) (Nat.le_of_ble_eq_true rfl) (Nat.le_add_left _ _))⟩ ⟨Nat.zero_le _, Nat.zero_le _⟩ rfl hl.1 (rest := []) rfl (Nat.le_of_ble_eq_true rfl) dX2_readOne_129 (st1 := [.int r177]) rfl (fun H locs hw => ?_)
                  obtain ⟨v180, e181, hf⟩ := b_bnd hf
                  refine r_join (g2 := F0 m 140 ls [.int v180]) ?_ (fun hj => ?_)
                  · obtain ⟨h182, hf⟩ := b_cz hf
                    obtain ⟨rfl, rfl⟩ := Prod.mk.inj (Option.some.inj hf)
                    exact r_zret X hw (cz_and h182) dX2_readOne_140
                  · refine lv_if_eq (tgt := 139) X.1 X.2.1 dX2_readOne_132 (by decide) (fun c179 => ?_) (fun c179 => ?_)
                    · rw [e181, if_pos c179] at hj
                      refine lv_iconst (v := 0) X.1 X.2.1 dX2_readOne_139 (by decide) ?_
                      exact hj
                    · rw [e181, if_neg c179] at hj
                      refine lv_iconst (v := 1) X.1 X.2.1 dX2_readOne_135 (by decide) ?_
                      refine lv_goto (tgt := 140) X.1 X.2.1 dX2_readOne_136 (by decide) ?_
                      exact hj
            · have hf := if_e hf c160
              refine lv_iconst (v := 0) X.1 X.2.1 dX2_readOne_98 (by decide) ?_
              obtain ⟨rfl, rfl⟩ := Prod.mk.inj (Option.some.inj hf)
              exact r_zret X hw (by decide) dX2_readOne_99
          · have hf := if_e hf c159
            refine lv_iload_n X.1 X.2.1 dX2_readOne_87 rfl (lv_at hl 0 rfl) ?_
            refine lv_bipush (v := 45) X.1 X.2.1 dX2_readOne_88 (by decide) ?_
            refine lv_icmp_ne (tgt := 98) X.1 X.2.1 dX2_readOne_90 (by decide) (fun c183 => ?_) (fun c183 => ?_)
            · have hf := if_e hf c183
              refine lv_iconst (v := 0) X.1 X.2.1 dX2_readOne_98 (by decide) ?_
              obtain ⟨rfl, rfl⟩ := Prod.mk.inj (Option.some.inj hf)
              exact r_zret X hw (by decide) dX2_readOne_99
            · have hf := if_t hf c183
              refine lv_iload_n X.1 X.2.1 dX2_readOne_93 rfl (lv_at hl 2 rfl) ?_
              refine lv_iconst (v := 5) X.1 X.2.1 dX2_readOne_94 (by decide) ?_
              refine lv_icmp_lt (tgt := 100) X.1 X.2.1 dX2_readOne_95 (by decide) (fun c184 => ?_) (fun c184 => ?_)
              · have hf := if_t hf c184
                refine lv_aload_n X.1 X.2.1 dX2_readOne_100 rfl (lv_at hl 1 rfl) ?_
                refine lv_dup X.1 X.2.1 dX2_readOne_101 rfl ?_
                refine r_get X hw (sp1 hR) (C := RX2) (T := TX2) (N := 8) rfl iwX2 6 (by decide) (Nat.le_of_ble_eq_true rfl) qw104 (v := .int (σ 1 6)) rfl dX2_readOne_102 ?_
                refine lv_iconst (v := 1) X.1 X.2.1 dX2_readOne_105 (by decide) ?_
                refine lv_iadd X.1 X.2.1 dX2_readOne_106 ?_
                refine r_put X hw (sp1 hR) (C := RX2) (T := TX2) (N := 8) rfl iwX2 tyX2 tyX2_ok nmX2 6 (by decide) (Nat.le_of_ble_eq_true rfl) qw104 rfl (v := .int ((σ 1 6) + 1)) rfl rfl (x := ((σ 1 6) + 1)) rfl dX2_readOne_107 (fun H locs hw => ?_)
                obtain ⟨σ185, e186, hf⟩ := b_bnd hf
                rw [← e186] at hw
                refine lv_iload_n X.1 X.2.1 dX2_readOne_110 rfl (lv_at hl 0 rfl) ?_
                refine lv_bipush (v := 40) X.1 X.2.1 dX2_readOne_111 (by decide) ?_
                refine lv_icmp_ne (tgt := 141) X.1 X.2.1 dX2_readOne_113 (by decide) (fun c187 => ?_) (fun c187 => ?_)
                · have hf := if_e hf c187
                  refine lv_aload_n X.1 X.2.1 dX2_readOne_141 rfl (lv_at hl 1 rfl) ?_
                  refine lv_iload_n X.1 X.2.1 dX2_readOne_142 rfl (lv_at hl 2 rfl) ?_
                  refine lv_iconst (v := 1) X.1 X.2.1 dX2_readOne_143 (by decide) ?_
                  refine lv_iadd X.1 X.2.1 dX2_readOne_144 ?_
                  obtain ⟨r189, σ190, h188, hf⟩ := b_bd2 hf
                  refine r_callV X hw (ih_X2_readOne  h188) (sp1 hR) (C := RX2) (T := TX2) (N := 8) rfl qw303 qw305 qw14 qw69 qw306 okX2_readOne ⟨rfl, rfl⟩ (rm_read_ok n0 (by decide)) ⟨Nat.zero_le _, Nat.zero_le _⟩ rfl hl.1 (rest := []) rfl (Nat.le_of_ble_eq_true rfl) dX2_readOne_145 (st1 := [.int r189]) rfl (fun H locs hw => ?_)
                  refine lv_istore_n (lv' := [(3, .int r189), (2, .int r2), (0, .ref (eP E 1)), (1, .int x1)]) X.1 X.2.1 dX2_readOne_148 rfl hl (by decide) rfl (fun ls hl => ?_)
                  refine lv_aload_n X.1 X.2.1 dX2_readOne_149 rfl (lv_at hl 2 rfl) ?_
                  obtain ⟨h191, h192, hf⟩ := b_cT hf
                  refine r_get X hw (sp1 hR) (C := RX2) (T := TX2) (N := 8) rfl iwX2 7 (by decide) (Nat.le_of_ble_eq_true rfl) qw105 (v := .ref (eP E ((σ190 1 7).toNatClampNeg))) (fv_dyn h192) dX2_readOne_150 ?_
                  refine lv_bipush (v := 20) X.1 X.2.1 dX2_readOne_153 (by decide) ?_
                  obtain ⟨σ194, h193, hf⟩ := b_bd1 hf
                  refine r_callV X hw (k_X5_addStep hR h191 h193) (spT0 hR h191) (C := RX5) (T := TX5) (N := 3) rfl qw287 qw288 qw289 qw71 qw290 okX5_addStep ⟨rfl, rfl⟩ ⟨(Nat.le_trans (m := 40) (Nat.le_of_ble_eq_true rfl) (Nat.le_add_left _ _)), (Nat.le_trans (m := 4000) (Nat.le_of_ble_eq_true rfl) (Nat.le_add_left _ _))⟩ ⟨Nat.zero_le _, Nat.zero_le _⟩ rfl hl.1 (rest := []) rfl (Nat.le_of_ble_eq_true rfl) dX2_readOne_155 (st1 := []) rfl (fun H locs hw => ?_)
                  refine lv_iload_n X.1 X.2.1 dX2_readOne_158 rfl (lv_at hl 0 rfl) ?_
                  obtain ⟨h195, hf⟩ := b_cz hf
                  obtain ⟨rfl, rfl⟩ := Prod.mk.inj (Option.some.inj hf)
                  exact r_zret X hw (cz_and h195) dX2_readOne_159
                · have hf := if_t hf c187
                  refine lv_aload_n X.1 X.2.1 dX2_readOne_116 rfl (lv_at hl 1 rfl) ?_
                  refine lv_iload_n X.1 X.2.1 dX2_readOne_117 rfl (lv_at hl 2 rfl) ?_
                  refine lv_iconst (v := 1) X.1 X.2.1 dX2_readOne_118 (by decide) ?_
                  refine lv_iadd X.1 X.2.1 dX2_readOne_119 ?_
                  obtain ⟨r197, σ198, h196, hf⟩ := b_bd2 hf
                  refine r_callV X hw (ih_X2_readE  h196) (sp1 hR) (C := RX2) (T := TX2) (N := 8) rfl qw275 qw277 qw9 qw69 qw278 okX2_readE ⟨rfl, rfl⟩ (rm_read_ok n0 (by decide)) ⟨Nat.zero_le _, Nat.zero_le _⟩ rfl hl.1 (rest := []) rfl (Nat.le_of_ble_eq_true rfl) dX2_readOne_120 (st1 := [.int r197]) rfl (fun H locs hw => ?_)
                  refine lv_if_eq (tgt := 139) X.1 X.2.1 dX2_readOne_123 (by decide) (fun c199 => ?_) (fun c199 => ?_)
                  · have hf := if_t hf c199
                    refine lv_iconst (v := 0) X.1 X.2.1 dX2_readOne_139 (by decide) ?_
                    obtain ⟨rfl, rfl⟩ := Prod.mk.inj (Option.some.inj hf)
                    exact r_zret X hw (by decide) dX2_readOne_140
                  · have hf := if_e hf c199
                    refine lv_aload_n X.1 X.2.1 dX2_readOne_126 rfl (lv_at hl 1 rfl) ?_
                    refine lv_bipush (v := 41) X.1 X.2.1 dX2_readOne_127 (by decide) ?_
                    obtain ⟨r201, σ202, h200, hf⟩ := b_bd2 hf
                    refine r_callV X hw (k_X2_pass hR  h200) (sp1 hR) (C := RX2) (T := TX2) (N := 8) rfl qw267 qw269 qw7 qw69 qw270 okX2_pass ⟨rfl, rfl⟩ ⟨(Nat.le_trans (m := 40) (Nat.le_of_ble_eq_true rfl) (Nat.le_add_left _ _)), (Nat.le_trans (m := 4000) (Nat.le_of_ble_eq_true rfl) (Nat.le_add_left _ _))⟩ ⟨Nat.zero_le _, Nat.zero_le _⟩ rfl hl.1 (rest := []) rfl (Nat.le_of_ble_eq_true rfl) dX2_readOne_129 (st1 := [.int r201]) rfl (fun H locs hw => ?_)
                    obtain ⟨v204, e205, hf⟩ := b_bnd hf
                    refine r_join (g2 := F0 m 140 ls [.int v204]) ?_ (fun hj => ?_)
                    · obtain ⟨h206, hf⟩ := b_cz hf
                      obtain ⟨rfl, rfl⟩ := Prod.mk.inj (Option.some.inj hf)
                      exact r_zret X hw (cz_and h206) dX2_readOne_140
                    · refine lv_if_eq (tgt := 139) X.1 X.2.1 dX2_readOne_132 (by decide) (fun c203 => ?_) (fun c203 => ?_)
                      · rw [e205, if_pos c203] at hj
                        refine lv_iconst (v := 0) X.1 X.2.1 dX2_readOne_139 (by decide) ?_
                        exact hj
                      · rw [e205, if_neg c203] at hj
                        refine lv_iconst (v := 1) X.1 X.2.1 dX2_readOne_135 (by decide) ?_
                        refine lv_goto (tgt := 140) X.1 X.2.1 dX2_readOne_136 (by decide) ?_
                        exact hj
              · have hf := if_e hf c184
                refine lv_iconst (v := 0) X.1 X.2.1 dX2_readOne_98 (by decide) ?_
                obtain ⟨rfl, rfl⟩ := Prod.mk.inj (Option.some.inj hf)
                exact r_zret X hw (by decide) dX2_readOne_99
        · have hf := if_e hf c158
          refine lv_aload_n X.1 X.2.1 dX2_readOne_61 rfl (lv_at hl 1 rfl) ?_
          obtain ⟨h207, h208, hf⟩ := b_cT hf
          refine r_get X hw (sp1 hR) (C := RX2) (T := TX2) (N := 8) rfl iwX2 7 (by decide) (Nat.le_of_ble_eq_true rfl) qw105 (v := .ref (eP E ((σ 1 7).toNatClampNeg))) (fv_dyn h208) dX2_readOne_62 ?_
          refine lv_iload_n X.1 X.2.1 dX2_readOne_65 rfl (lv_at hl 0 rfl) ?_
          obtain ⟨σ210, h209, hf⟩ := b_bd1 hf
          refine r_callV X hw (k_X5_addStep hR h207 h209) (spT0 hR h207) (C := RX5) (T := TX5) (N := 3) rfl qw287 qw288 qw289 qw71 qw290 okX5_addStep ⟨rfl, rfl⟩ ⟨(Nat.le_trans (m := 40) (Nat.le_of_ble_eq_true rfl) (Nat.le_add_left _ _)), (Nat.le_trans (m := 4000) (Nat.le_of_ble_eq_true rfl) (Nat.le_add_left _ _))⟩ ⟨Nat.zero_le _, Nat.zero_le _⟩ rfl hl.1 (rest := []) rfl (Nat.le_of_ble_eq_true rfl) dX2_readOne_66 (st1 := []) rfl (fun H locs hw => ?_)
          refine lv_aload_n X.1 X.2.1 dX2_readOne_69 rfl (lv_at hl 1 rfl) ?_
          refine lv_dup X.1 X.2.1 dX2_readOne_70 rfl ?_
          refine r_get X hw (sp1 hR) (C := RX2) (T := TX2) (N := 8) rfl iwX2 6 (by decide) (Nat.le_of_ble_eq_true rfl) qw104 (v := .int (σ210 1 6)) rfl dX2_readOne_71 ?_
          refine lv_iconst (v := 1) X.1 X.2.1 dX2_readOne_74 (by decide) ?_
          refine lv_iadd X.1 X.2.1 dX2_readOne_75 ?_
          refine r_put X hw (sp1 hR) (C := RX2) (T := TX2) (N := 8) rfl iwX2 tyX2 tyX2_ok nmX2 6 (by decide) (Nat.le_of_ble_eq_true rfl) qw104 rfl (v := .int ((σ210 1 6) + 1)) rfl rfl (x := ((σ210 1 6) + 1)) rfl dX2_readOne_76 (fun H locs hw => ?_)
          obtain ⟨σ211, e212, hf⟩ := b_bnd hf
          rw [← e212] at hw
          refine lv_iconst (v := 1) X.1 X.2.1 dX2_readOne_79 (by decide) ?_
          obtain ⟨rfl, rfl⟩ := Prod.mk.inj (Option.some.inj hf)
          exact r_zret X hw (by decide) dX2_readOne_80
    · have hf := if_e hf c108
      refine lv_aload_n X.1 X.2.1 dX2_readOne_23 rfl (lv_at hl 1 rfl) ?_
      obtain ⟨h213, h214, hf⟩ := b_cT hf
      refine r_get X hw (sp1 hR) (C := RX2) (T := TX2) (N := 8) rfl iwX2 7 (by decide) (Nat.le_of_ble_eq_true rfl) qw105 (v := .ref (eP E ((σ 1 7).toNatClampNeg))) (fv_dyn h214) dX2_readOne_24 ?_
      refine lv_aload_n X.1 X.2.1 dX2_readOne_27 rfl (lv_at hl 1 rfl) ?_
      refine r_get X hw (sp1 hR) (C := RX2) (T := TX2) (N := 8) rfl iwX2 4 (by decide) (Nat.le_of_ble_eq_true rfl) qw102 (v := .ref (eP E 5)) rfl dX2_readOne_28 ?_
      refine lv_aload_n X.1 X.2.1 dX2_readOne_31 rfl (lv_at hl 1 rfl) ?_
      refine r_get X hw (sp1 hR) (C := RX2) (T := TX2) (N := 8) rfl iwX2 6 (by decide) (Nat.le_of_ble_eq_true rfl) qw104 (v := .int (σ 1 6)) rfl dX2_readOne_32 ?_
      obtain ⟨h215, hf⟩ := b_ck hf
      refine r_iald X hw (sp5 hR) h215 dX2_readOne_35 ?_
      obtain ⟨σ217, h216, hf⟩ := b_bd1 hf
      refine r_callV X hw (k_X5_addNumber hR h213 h216) (spT0 hR h213) (C := RX5) (T := TX5) (N := 3) rfl qw307 qw292 qw293 qw71 qw294 okX5_addNumber ⟨rfl, rfl⟩ ⟨(Nat.le_trans (m := 40) (Nat.le_of_ble_eq_true rfl) (Nat.le_add_left _ _)), (Nat.le_trans (m := 4000) (Nat.le_of_ble_eq_true rfl) (Nat.le_add_left _ _))⟩ ⟨Nat.zero_le _, Nat.zero_le _⟩ rfl hl.1 (rest := []) rfl (Nat.le_of_ble_eq_true rfl) dX2_readOne_36 (st1 := []) rfl (fun H locs hw => ?_)
      refine lv_aload_n X.1 X.2.1 dX2_readOne_39 rfl (lv_at hl 1 rfl) ?_
      refine lv_dup X.1 X.2.1 dX2_readOne_40 rfl ?_
      refine r_get X hw (sp1 hR) (C := RX2) (T := TX2) (N := 8) rfl iwX2 6 (by decide) (Nat.le_of_ble_eq_true rfl) qw104 (v := .int (σ217 1 6)) rfl dX2_readOne_41 ?_
      refine lv_iconst (v := 1) X.1 X.2.1 dX2_readOne_44 (by decide) ?_
      refine lv_iadd X.1 X.2.1 dX2_readOne_45 ?_
      refine r_put X hw (sp1 hR) (C := RX2) (T := TX2) (N := 8) rfl iwX2 tyX2 tyX2_ok nmX2 6 (by decide) (Nat.le_of_ble_eq_true rfl) qw104 rfl (v := .int ((σ217 1 6) + 1)) rfl rfl (x := ((σ217 1 6) + 1)) rfl dX2_readOne_46 (fun H locs hw => ?_)
      obtain ⟨σ218, e219, hf⟩ := b_bnd hf
      rw [← e219] at hw
      refine lv_iconst (v := 1) X.1 X.2.1 dX2_readOne_49 (by decide) ?_
      obtain ⟨rfl, rfl⟩ := Prod.mk.inj (Option.some.inj hf)
      exact r_zret X hw (by decide) dX2_readOne_50
set_option maxHeartbeats 4000000 in
set_option maxRecDepth 100000 in
theorem w_X2_readTerm_15 {p : Program} {l : Launch} {e : Env} {s : State} {m : MethodId} {args : Array Value} {below : List Frame} {meth : Method} {c : Code} {Q : State → Prop} {E : en_T} (X : Cx E p s m args meth c cX2_readTerm 3 RX2 (some .boolean)) (hR : ShR E) {rec : Nat → Int32 → sg_T → Option (Int32 × sg_T)} {n0 : Nat} (ih_X2_readE : ∀ {x1 : Int32} {σ : sg_T} {r : Int32} {σ' : sg_T}, rec 0 x1 σ = some (r, σ') → Ct l yX2_readE cX2_readE 3 (some .boolean) (rm_read n0) E [.ref (eP E 1), .int x1] σ (some (.int r)) σ') (ih_X2_readAnd : ∀ {x1 : Int32} {σ : sg_T} {r : Int32} {σ' : sg_T}, rec 1 x1 σ = some (r, σ') → Ct l yX2_readAnd cX2_readAnd 3 (some .boolean) (rm_read n0) E [.ref (eP E 1), .int x1] σ (some (.int r)) σ') (ih_X2_readNot : ∀ {x1 : Int32} {σ : sg_T} {r : Int32} {σ' : sg_T}, rec 2 x1 σ = some (r, σ') → Ct l yX2_readNot cX2_readNot 4 (some .boolean) (rm_read n0) E [.ref (eP E 1), .int x1] σ (some (.int r)) σ') (ih_X2_readSum : ∀ {x1 : Int32} {σ : sg_T} {r : Int32} {σ' : sg_T}, rec 3 x1 σ = some (r, σ') → Ct l yX2_readSum cX2_readSum 4 (some .boolean) (rm_read n0) E [.ref (eP E 1), .int x1] σ (some (.int r)) σ') (ih_X2_readTerm : ∀ {x1 : Int32} {σ : sg_T} {r : Int32} {σ' : sg_T}, rec 4 x1 σ = some (r, σ') → Ct l yX2_readTerm cX2_readTerm 3 (some .boolean) (rm_read n0) E [.ref (eP E 1), .int x1] σ (some (.int r)) σ') (ih_X2_readOne : ∀ {x1 : Int32} {σ : sg_T} {r : Int32} {σ' : sg_T}, rec 5 x1 σ = some (r, σ') → Ct l yX2_readOne cX2_readOne 4 (some .boolean) (rm_read n0) E [.ref (eP E 1), .int x1] σ (some (.int r)) σ') {u1 : Int32}  {res : (Int32 × sg_T) ⊕ (Int32 × sg_T)} :
    ∀ (n : Nat) (w2 : Int32) (σ : sg_T), itr (fun q => b_X2_readTerm_15 rec u1 q.1 q.2) n (w2, σ) = some res → ∀ (H : Heap) (locs : List Loc) (ls : Array Slot), Hw E σ s H locs → lv_has ls 3 [(0, .ref (eP E 1)), (1, .int u1), (2, .int w2)] →
    (∀ (y2 : Int32) (τ : sg_T), res = .inl (y2, τ) → ∀ (H : Heap) (locs : List Loc) (ls : Array Slot), Hw E τ s H locs → lv_has ls 3 [(0, .ref (eP E 1)), (1, .int u1), (2, .int y2)] → W p l e (rm_read (n0 + 1)) s m args below meth c H locs 0 0 Q (F0 m 53 ls [])) →
    (∀ (r : Int32) (σ' : sg_T), res = .inr (r, σ') → Q = MQ below (Qf E (some (.int r)) σ') args s 0 0 (en_A E)) →
    W p l e (rm_read (n0 + 1)) s m args below meth c H locs 0 0 Q (F0 m 15 ls []) := by
  intro n
  induction n with
  | zero =>
    intro w2 σ hf0
    exact (itr_0 hf0).elim
  | succ n ih =>
    intro w2 σ hf0 H locs ls hw hl K1 K2
    obtain ⟨r0, hf, hr1, hr2⟩ := itr_s hf0
    have hf : b_X2_readTerm_15 rec u1 w2 σ = some r0 := hf
    unfold b_X2_readTerm_15 at hf
    refine lv_iload_n X.1 X.2.1 dX2_readTerm_15 rfl (lv_at hl 2 rfl) ?_
    refine lv_if_le (tgt := 53) X.1 X.2.1 dX2_readTerm_16 (by decide) (fun c6 => ?_) (fun c6 => ?_)
    · have hf := if_t hf c6
      obtain rfl := Option.some.inj hf
      obtain rfl := hr2 _ rfl
      exact K1 _ _ rfl _ _ _ hw (lv_sub hl [0, 1, 2] rfl)
    · have hf := if_e hf c6
      refine lv_aload_n X.1 X.2.1 dX2_readTerm_19 rfl (lv_at hl 0 rfl) ?_
      refine lv_bipush (v := 42) X.1 X.2.1 dX2_readTerm_20 (by decide) ?_
      obtain ⟨r8, σ9, h7, hf⟩ := b_bd2 hf
      refine r_callV X hw (k_X2_pass hR  h7) (sp1 hR) (C := RX2) (T := TX2) (N := 8) rfl qw267 qw269 qw7 qw69 qw270 okX2_pass ⟨rfl, rfl⟩ ⟨(Nat.le_trans (m := 40) (Nat.le_of_ble_eq_true rfl) (Nat.le_add_left _ _)), (Nat.le_trans (m := 4000) (Nat.le_of_ble_eq_true rfl) (Nat.le_add_left _ _))⟩ ⟨Nat.zero_le _, Nat.zero_le _⟩ rfl hl.1 (rest := []) rfl (Nat.le_of_ble_eq_true rfl) dX2_readTerm_22 (st1 := [.int r8]) rfl (fun H locs hw => ?_)
      refine lv_if_eq (tgt := 53) X.1 X.2.1 dX2_readTerm_25 (by decide) (fun c10 => ?_) (fun c10 => ?_)
      · have hf := if_t hf c10
        obtain rfl := Option.some.inj hf
        obtain rfl := hr2 _ rfl
        exact K1 _ _ rfl _ _ _ hw (lv_sub hl [0, 1, 2] rfl)
      · have hf := if_e hf c10
        refine lv_aload_n X.1 X.2.1 dX2_readTerm_28 rfl (lv_at hl 0 rfl) ?_
        refine lv_iload_n X.1 X.2.1 dX2_readTerm_29 rfl (lv_at hl 1 rfl) ?_
        obtain ⟨r12, σ13, h11, hf⟩ := b_bd2 hf
        refine r_callV X hw (ih_X2_readOne  h11) (sp1 hR) (C := RX2) (T := TX2) (N := 8) rfl qw303 qw305 qw14 qw69 qw306 okX2_readOne ⟨rfl, rfl⟩ (rm_read_ok n0 (by decide)) ⟨Nat.zero_le _, Nat.zero_le _⟩ rfl hl.1 (rest := []) rfl (Nat.le_of_ble_eq_true rfl) dX2_readTerm_30 (st1 := [.int r12]) rfl (fun H locs hw => ?_)
        refine lv_if_ne (tgt := 38) X.1 X.2.1 dX2_readTerm_33 (by decide) (fun c14 => ?_) (fun c14 => ?_)
        · have hf := if_e hf c14
          refine lv_aload_n X.1 X.2.1 dX2_readTerm_38 rfl (lv_at hl 0 rfl) ?_
          obtain ⟨h15, h16, hf⟩ := b_cT hf
          refine r_get X hw (sp1 hR) (C := RX2) (T := TX2) (N := 8) rfl iwX2 7 (by decide) (Nat.le_of_ble_eq_true rfl) qw105 (v := .ref (eP E ((σ13 1 7).toNatClampNeg))) (fv_dyn h16) dX2_readTerm_39 ?_
          refine lv_bipush (v := 42) X.1 X.2.1 dX2_readTerm_42 (by decide) ?_
          obtain ⟨σ18, h17, hf⟩ := b_bd1 hf
          refine r_callV X hw (k_X5_addStep hR h15 h17) (spT0 hR h15) (C := RX5) (T := TX5) (N := 3) rfl qw287 qw288 qw289 qw71 qw290 okX5_addStep ⟨rfl, rfl⟩ ⟨(Nat.le_trans (m := 40) (Nat.le_of_ble_eq_true rfl) (Nat.le_add_left _ _)), (Nat.le_trans (m := 4000) (Nat.le_of_ble_eq_true rfl) (Nat.le_add_left _ _))⟩ ⟨Nat.zero_le _, Nat.zero_le _⟩ rfl hl.1 (rest := []) rfl (Nat.le_of_ble_eq_true rfl) dX2_readTerm_44 (st1 := []) rfl (fun H locs hw => ?_)
          obtain ⟨v19, e20, hf⟩ := b_bnd hf
          refine lv_iinc (v := v19) (k := 2) (lv' := [(2, .int v19), (0, .ref (eP E 1)), (1, .int u1)]) X.1 X.2.1 dX2_readTerm_47 hl rfl (by rw [e20]; exact congrArg _ (by decide)) (by decide) rfl (fun ls hl => ?_)
          refine lv_goto (tgt := 15) X.1 X.2.1 dX2_readTerm_50 (by decide) ?_
          obtain rfl := Option.some.inj hf
          exact ih _ _ (hr1 _ rfl) _ _ _ hw (lv_sub hl [1, 2, 0] rfl) K1 K2
        · have hf := if_t hf c14
          refine lv_iconst (v := 0) X.1 X.2.1 dX2_readTerm_36 (by decide) ?_
          obtain rfl := Option.some.inj hf
          obtain rfl := hr2 _ rfl
          rw [K2 _ _ rfl]
          exact r_zret X hw (by decide) dX2_readTerm_37
set_option maxHeartbeats 4000000 in
set_option maxRecDepth 100000 in
theorem k_X2_readTerm {l : Launch} {E : en_T} (hR : ShR E) {rec : Nat → Int32 → sg_T → Option (Int32 × sg_T)} {n0 : Nat} (ih_X2_readE : ∀ {x1 : Int32} {σ : sg_T} {r : Int32} {σ' : sg_T}, rec 0 x1 σ = some (r, σ') → Ct l yX2_readE cX2_readE 3 (some .boolean) (rm_read n0) E [.ref (eP E 1), .int x1] σ (some (.int r)) σ') (ih_X2_readAnd : ∀ {x1 : Int32} {σ : sg_T} {r : Int32} {σ' : sg_T}, rec 1 x1 σ = some (r, σ') → Ct l yX2_readAnd cX2_readAnd 3 (some .boolean) (rm_read n0) E [.ref (eP E 1), .int x1] σ (some (.int r)) σ') (ih_X2_readNot : ∀ {x1 : Int32} {σ : sg_T} {r : Int32} {σ' : sg_T}, rec 2 x1 σ = some (r, σ') → Ct l yX2_readNot cX2_readNot 4 (some .boolean) (rm_read n0) E [.ref (eP E 1), .int x1] σ (some (.int r)) σ') (ih_X2_readSum : ∀ {x1 : Int32} {σ : sg_T} {r : Int32} {σ' : sg_T}, rec 3 x1 σ = some (r, σ') → Ct l yX2_readSum cX2_readSum 4 (some .boolean) (rm_read n0) E [.ref (eP E 1), .int x1] σ (some (.int r)) σ') (ih_X2_readTerm : ∀ {x1 : Int32} {σ : sg_T} {r : Int32} {σ' : sg_T}, rec 4 x1 σ = some (r, σ') → Ct l yX2_readTerm cX2_readTerm 3 (some .boolean) (rm_read n0) E [.ref (eP E 1), .int x1] σ (some (.int r)) σ') (ih_X2_readOne : ∀ {x1 : Int32} {σ : sg_T} {r : Int32} {σ' : sg_T}, rec 5 x1 σ = some (r, σ') → Ct l yX2_readOne cX2_readOne 4 (some .boolean) (rm_read n0) E [.ref (eP E 1), .int x1] σ (some (.int r)) σ') {x1 : Int32} {σ : sg_T} {r : Int32} {σ' : sg_T} (hf : f_X2_readTerm rec x1 σ = some (r, σ')) : Ct l yX2_readTerm cX2_readTerm 3 (some .boolean) (rm_read (n0 + 1)) E [.ref (eP E 1), .int x1] σ (some (.int r)) σ' := by
  refine Ct.start (by decide) hR.1 (Nat.le_of_ble_eq_true rfl) ?_
  intro p e s m below meth c X hw ls hl
  have X : Cx E p s m _ meth c cX2_readTerm 3 RX2 (some .boolean) := X
  have hl : lv_has ls 3 [(0, .ref (eP E 1)), (1, .int x1)] := hl
  unfold f_X2_readTerm at hf
  refine lv_aload_n X.1 X.2.1 dX2_readTerm_0 rfl (lv_at hl 0 rfl) ?_
  refine lv_iload_n X.1 X.2.1 dX2_readTerm_1 rfl (lv_at hl 1 rfl) ?_
  obtain ⟨r2, σ3, h1, hf⟩ := b_bd2 hf
  refine r_callV X hw (ih_X2_readOne  h1) (sp1 hR) (C := RX2) (T := TX2) (N := 8) rfl qw303 qw305 qw14 qw69 qw306 okX2_readOne ⟨rfl, rfl⟩ (rm_read_ok n0 (by decide)) ⟨Nat.zero_le _, Nat.zero_le _⟩ rfl hl.1 (rest := []) rfl (Nat.le_of_ble_eq_true rfl) dX2_readTerm_2 (st1 := [.int r2]) rfl (fun H locs hw => ?_)
  refine lv_if_ne (tgt := 10) X.1 X.2.1 dX2_readTerm_5 (by decide) (fun c4 => ?_) (fun c4 => ?_)
  · have hf := if_e hf c4
    refine lv_aload_n X.1 X.2.1 dX2_readTerm_10 rfl (lv_at hl 0 rfl) ?_
    refine r_get X hw (sp1 hR) (C := RX2) (T := TX2) (N := 8) rfl iwX2 5 (by decide) (Nat.le_of_ble_eq_true rfl) qw103 (v := .int (σ3 1 5)) rfl dX2_readTerm_11 ?_
    refine r_bnd hf (fun v5 hf => ?_)
    refine lv_istore_n (lv' := [(2, .int v5), (0, .ref (eP E 1)), (1, .int x1)]) X.1 X.2.1 dX2_readTerm_14 rfl hl (by decide) rfl (fun ls hl => ?_)
    obtain ⟨r24, h21, hf⟩ := b_bs hf
    rcases hf with ⟨⟨v22, σ23⟩, rfl, hf⟩ | ⟨⟨r25, σ26⟩, rfl, hf⟩
    · refine w_X2_readTerm_15 X hR ih_X2_readE ih_X2_readAnd ih_X2_readNot ih_X2_readSum ih_X2_readTerm ih_X2_readOne  lfu _ _ h21 _ _ _ hw (lv_sub hl [1, 2, 0] rfl) (fun yv22 yσ23 hq H locs ls hw hl => ?_) (fun _ _ hq => by cases hq)
      cases hq
      dsimp only at hf
      refine lv_iconst (v := 1) X.1 X.2.1 dX2_readTerm_53 (by decide) ?_
      obtain ⟨rfl, rfl⟩ := Prod.mk.inj (Option.some.inj hf)
      exact r_zret X hw (by decide) dX2_readTerm_54
    · refine w_X2_readTerm_15 X hR ih_X2_readE ih_X2_readAnd ih_X2_readNot ih_X2_readSum ih_X2_readTerm ih_X2_readOne  lfu _ _ h21 _ _ _ hw (lv_sub hl [1, 2, 0] rfl) (fun _ _ hq => by cases hq) (fun _ _ hq => ?_)
      cases hq
      cases hf
      rfl
  · have hf := if_t hf c4
    refine lv_iconst (v := 0) X.1 X.2.1 dX2_readTerm_8 (by decide) ?_
    obtain ⟨rfl, rfl⟩ := Prod.mk.inj (Option.some.inj hf)
    exact r_zret X hw (by decide) dX2_readTerm_9
set_option maxHeartbeats 4000000 in
set_option maxRecDepth 100000 in
theorem w_X2_readSum_15 {p : Program} {l : Launch} {e : Env} {s : State} {m : MethodId} {args : Array Value} {below : List Frame} {meth : Method} {c : Code} {Q : State → Prop} {E : en_T} (X : Cx E p s m args meth c cX2_readSum 4 RX2 (some .boolean)) (hR : ShR E) {rec : Nat → Int32 → sg_T → Option (Int32 × sg_T)} {n0 : Nat} (ih_X2_readE : ∀ {x1 : Int32} {σ : sg_T} {r : Int32} {σ' : sg_T}, rec 0 x1 σ = some (r, σ') → Ct l yX2_readE cX2_readE 3 (some .boolean) (rm_read n0) E [.ref (eP E 1), .int x1] σ (some (.int r)) σ') (ih_X2_readAnd : ∀ {x1 : Int32} {σ : sg_T} {r : Int32} {σ' : sg_T}, rec 1 x1 σ = some (r, σ') → Ct l yX2_readAnd cX2_readAnd 3 (some .boolean) (rm_read n0) E [.ref (eP E 1), .int x1] σ (some (.int r)) σ') (ih_X2_readNot : ∀ {x1 : Int32} {σ : sg_T} {r : Int32} {σ' : sg_T}, rec 2 x1 σ = some (r, σ') → Ct l yX2_readNot cX2_readNot 4 (some .boolean) (rm_read n0) E [.ref (eP E 1), .int x1] σ (some (.int r)) σ') (ih_X2_readSum : ∀ {x1 : Int32} {σ : sg_T} {r : Int32} {σ' : sg_T}, rec 3 x1 σ = some (r, σ') → Ct l yX2_readSum cX2_readSum 4 (some .boolean) (rm_read n0) E [.ref (eP E 1), .int x1] σ (some (.int r)) σ') (ih_X2_readTerm : ∀ {x1 : Int32} {σ : sg_T} {r : Int32} {σ' : sg_T}, rec 4 x1 σ = some (r, σ') → Ct l yX2_readTerm cX2_readTerm 3 (some .boolean) (rm_read n0) E [.ref (eP E 1), .int x1] σ (some (.int r)) σ') (ih_X2_readOne : ∀ {x1 : Int32} {σ : sg_T} {r : Int32} {σ' : sg_T}, rec 5 x1 σ = some (r, σ') → Ct l yX2_readOne cX2_readOne 4 (some .boolean) (rm_read n0) E [.ref (eP E 1), .int x1] σ (some (.int r)) σ') {u1 : Int32}  {res : (Int32 × sg_T) ⊕ (Int32 × sg_T)} :
    ∀ (n : Nat) (w2 : Int32) (σ : sg_T), itr (fun q => b_X2_readSum_15 rec u1 q.1 q.2) n (w2, σ) = some res → ∀ (H : Heap) (locs : List Loc) (ls : Array Slot), Hw E σ s H locs → lv_has ls 4 [(0, .ref (eP E 1)), (1, .int u1), (2, .int w2)] →
    (∀ (y2 : Int32) (τ : sg_T), res = .inl (y2, τ) → ∀ (H : Heap) (locs : List Loc) (ls : Array Slot), Hw E τ s H locs → lv_has ls 4 [(0, .ref (eP E 1)), (1, .int u1), (2, .int y2)] → W p l e (rm_read (n0 + 1)) s m args below meth c H locs 0 0 Q (F0 m 76 ls [])) →
    (∀ (r : Int32) (σ' : sg_T), res = .inr (r, σ') → Q = MQ below (Qf E (some (.int r)) σ') args s 0 0 (en_A E)) →
    W p l e (rm_read (n0 + 1)) s m args below meth c H locs 0 0 Q (F0 m 15 ls []) := by
  intro n
  induction n with
  | zero =>
    intro w2 σ hf0
    exact (itr_0 hf0).elim
  | succ n ih =>
    intro w2 σ hf0 H locs ls hw hl K1 K2
    obtain ⟨r0, hf, hr1, hr2⟩ := itr_s hf0
    have hf : b_X2_readSum_15 rec u1 w2 σ = some r0 := hf
    unfold b_X2_readSum_15 at hf
    refine lv_iload_n X.1 X.2.1 dX2_readSum_15 rfl (lv_at hl 2 rfl) ?_
    refine lv_if_le (tgt := 76) X.1 X.2.1 dX2_readSum_16 (by decide) (fun c6 => ?_) (fun c6 => ?_)
    · have hf := if_t hf c6
      obtain rfl := Option.some.inj hf
      obtain rfl := hr2 _ rfl
      exact K1 _ _ rfl _ _ _ hw (lv_sub hl [0, 1, 2] rfl)
    · have hf := if_e hf c6
      refine lv_aload_n X.1 X.2.1 dX2_readSum_19 rfl (lv_at hl 0 rfl) ?_
      obtain ⟨r8, h7, hf⟩ := b_bd1 hf
      refine r_callV X hw (k_X2_now hR  h7) (sp1 hR) (C := RX2) (T := TX2) (N := 8) rfl qw271 qw273 qw8 qw69 qw274 okX2_now ⟨rfl, rfl⟩ ⟨(Nat.le_trans (m := 40) (Nat.le_of_ble_eq_true rfl) (Nat.le_add_left _ _)), (Nat.le_trans (m := 4000) (Nat.le_of_ble_eq_true rfl) (Nat.le_add_left _ _))⟩ ⟨Nat.zero_le _, Nat.zero_le _⟩ rfl hl.1 (rest := []) rfl (Nat.le_of_ble_eq_true rfl) dX2_readSum_20 (st1 := [.int r8]) rfl (fun H locs hw => ?_)
      refine lv_bipush (v := 43) X.1 X.2.1 dX2_readSum_23 (by decide) ?_
      refine lv_icmp_eq (tgt := 37) X.1 X.2.1 dX2_readSum_25 (by decide) (fun c9 => ?_) (fun c9 => ?_)
      · have hf := if_t hf c9
        refine lv_aload_n X.1 X.2.1 dX2_readSum_37 rfl (lv_at hl 0 rfl) ?_
        obtain ⟨r11, h10, hf⟩ := b_bd1 hf
        refine r_callV X hw (k_X2_now hR  h10) (sp1 hR) (C := RX2) (T := TX2) (N := 8) rfl qw271 qw273 qw8 qw69 qw274 okX2_now ⟨rfl, rfl⟩ ⟨(Nat.le_trans (m := 40) (Nat.le_of_ble_eq_true rfl) (Nat.le_add_left _ _)), (Nat.le_trans (m := 4000) (Nat.le_of_ble_eq_true rfl) (Nat.le_add_left _ _))⟩ ⟨Nat.zero_le _, Nat.zero_le _⟩ rfl hl.1 (rest := []) rfl (Nat.le_of_ble_eq_true rfl) dX2_readSum_38 (st1 := [.int r11]) rfl (fun H locs hw => ?_)
        refine lv_istore_n (lv' := [(3, .int r11), (0, .ref (eP E 1)), (1, .int u1), (2, .int w2)]) X.1 X.2.1 dX2_readSum_41 rfl hl (by decide) rfl (fun ls hl => ?_)
        refine lv_aload_n X.1 X.2.1 dX2_readSum_42 rfl (lv_at hl 1 rfl) ?_
        refine lv_dup X.1 X.2.1 dX2_readSum_43 rfl ?_
        refine r_get X hw (sp1 hR) (C := RX2) (T := TX2) (N := 8) rfl iwX2 6 (by decide) (Nat.le_of_ble_eq_true rfl) qw104 (v := .int (σ 1 6)) rfl dX2_readSum_44 ?_
        refine lv_iconst (v := 1) X.1 X.2.1 dX2_readSum_47 (by decide) ?_
        refine lv_iadd X.1 X.2.1 dX2_readSum_48 ?_
        refine r_put X hw (sp1 hR) (C := RX2) (T := TX2) (N := 8) rfl iwX2 tyX2 tyX2_ok nmX2 6 (by decide) (Nat.le_of_ble_eq_true rfl) qw104 rfl (v := .int ((σ 1 6) + 1)) rfl rfl (x := ((σ 1 6) + 1)) rfl dX2_readSum_49 (fun H locs hw => ?_)
        obtain ⟨σ12, e13, hf⟩ := b_bnd hf
        rw [← e13] at hw
        refine lv_aload_n X.1 X.2.1 dX2_readSum_52 rfl (lv_at hl 1 rfl) ?_
        refine lv_iload_n X.1 X.2.1 dX2_readSum_53 rfl (lv_at hl 2 rfl) ?_
        obtain ⟨r15, σ16, h14, hf⟩ := b_bd2 hf
        refine r_callV X hw (ih_X2_readTerm  h14) (sp1 hR) (C := RX2) (T := TX2) (N := 8) rfl qw299 qw301 qw13 qw69 qw302 okX2_readTerm ⟨rfl, rfl⟩ (rm_read_ok n0 (by decide)) ⟨Nat.zero_le _, Nat.zero_le _⟩ rfl hl.1 (rest := []) rfl (Nat.le_of_ble_eq_true rfl) dX2_readSum_54 (st1 := [.int r15]) rfl (fun H locs hw => ?_)
        refine lv_if_ne (tgt := 62) X.1 X.2.1 dX2_readSum_57 (by decide) (fun c17 => ?_) (fun c17 => ?_)
        · have hf := if_e hf c17
          refine lv_aload_n X.1 X.2.1 dX2_readSum_62 rfl (lv_at hl 1 rfl) ?_
          obtain ⟨h18, h19, hf⟩ := b_cT hf
          refine r_get X hw (sp1 hR) (C := RX2) (T := TX2) (N := 8) rfl iwX2 7 (by decide) (Nat.le_of_ble_eq_true rfl) qw105 (v := .ref (eP E ((σ16 1 7).toNatClampNeg))) (fv_dyn h19) dX2_readSum_63 ?_
          refine lv_iload_n X.1 X.2.1 dX2_readSum_66 rfl (lv_at hl 0 rfl) ?_
          obtain ⟨σ21, h20, hf⟩ := b_bd1 hf
          refine r_callV X hw (k_X5_addStep hR h18 h20) (spT0 hR h18) (C := RX5) (T := TX5) (N := 3) rfl qw287 qw288 qw289 qw71 qw290 okX5_addStep ⟨rfl, rfl⟩ ⟨(Nat.le_trans (m := 40) (Nat.le_of_ble_eq_true rfl) (Nat.le_add_left _ _)), (Nat.le_trans (m := 4000) (Nat.le_of_ble_eq_true rfl) (Nat.le_add_left _ _))⟩ ⟨Nat.zero_le _, Nat.zero_le _⟩ rfl hl.1 (rest := []) rfl (Nat.le_of_ble_eq_true rfl) dX2_readSum_67 (st1 := []) rfl (fun H locs hw => ?_)
          obtain ⟨v22, e23, hf⟩ := b_bnd hf
          refine lv_iinc (v := v22) (k := 3) (lv' := [(2, .int v22), (3, .int r11), (0, .ref (eP E 1)), (1, .int u1)]) X.1 X.2.1 dX2_readSum_70 hl rfl (by rw [e23]; exact congrArg _ (by decide)) (by decide) rfl (fun ls hl => ?_)
          refine lv_goto (tgt := 15) X.1 X.2.1 dX2_readSum_73 (by decide) ?_
          obtain rfl := Option.some.inj hf
          exact ih _ _ (hr1 _ rfl) _ _ _ hw (lv_sub hl [2, 3, 0] rfl) K1 K2
        · have hf := if_t hf c17
          refine lv_iconst (v := 0) X.1 X.2.1 dX2_readSum_60 (by decide) ?_
          obtain rfl := Option.some.inj hf
          obtain rfl := hr2 _ rfl
          rw [K2 _ _ rfl]
          exact r_zret X hw (by decide) dX2_readSum_61
      · have hf := if_e hf c9
        refine lv_aload_n X.1 X.2.1 dX2_readSum_28 rfl (lv_at hl 0 rfl) ?_
        obtain ⟨r25, h24, hf⟩ := b_bd1 hf
        refine r_callV X hw (k_X2_now hR  h24) (sp1 hR) (C := RX2) (T := TX2) (N := 8) rfl qw271 qw273 qw8 qw69 qw274 okX2_now ⟨rfl, rfl⟩ ⟨(Nat.le_trans (m := 40) (Nat.le_of_ble_eq_true rfl) (Nat.le_add_left _ _)), (Nat.le_trans (m := 4000) (Nat.le_of_ble_eq_true rfl) (Nat.le_add_left _ _))⟩ ⟨Nat.zero_le _, Nat.zero_le _⟩ rfl hl.1 (rest := []) rfl (Nat.le_of_ble_eq_true rfl) dX2_readSum_29 (st1 := [.int r25]) rfl (fun H locs hw => ?_)
        refine lv_bipush (v := 45) X.1 X.2.1 dX2_readSum_32 (by decide) ?_
        refine lv_icmp_ne (tgt := 76) X.1 X.2.1 dX2_readSum_34 (by decide) (fun c26 => ?_) (fun c26 => ?_)
        · have hf := if_e hf c26
          obtain rfl := Option.some.inj hf
          obtain rfl := hr2 _ rfl
          exact K1 _ _ rfl _ _ _ hw (lv_sub hl [0, 1, 2] rfl)
        · have hf := if_t hf c26
          refine lv_aload_n X.1 X.2.1 dX2_readSum_37 rfl (lv_at hl 0 rfl) ?_
          obtain ⟨r28, h27, hf⟩ := b_bd1 hf
          refine r_callV X hw (k_X2_now hR  h27) (sp1 hR) (C := RX2) (T := TX2) (N := 8) rfl qw271 qw273 qw8 qw69 qw274 okX2_now ⟨rfl, rfl⟩ ⟨(Nat.le_trans (m := 40) (Nat.le_of_ble_eq_true rfl) (Nat.le_add_left _ _)), (Nat.le_trans (m := 4000) (Nat.le_of_ble_eq_true rfl) (Nat.le_add_left _ _))⟩ ⟨Nat.zero_le _, Nat.zero_le _⟩ rfl hl.1 (rest := []) rfl (Nat.le_of_ble_eq_true rfl) dX2_readSum_38 (st1 := [.int r28]) rfl (fun H locs hw => ?_)
          refine lv_istore_n (lv' := [(3, .int r28), (0, .ref (eP E 1)), (1, .int u1), (2, .int w2)]) X.1 X.2.1 dX2_readSum_41 rfl hl (by decide) rfl (fun ls hl => ?_)
          refine lv_aload_n X.1 X.2.1 dX2_readSum_42 rfl (lv_at hl 1 rfl) ?_
          refine lv_dup X.1 X.2.1 dX2_readSum_43 rfl ?_
          refine r_get X hw (sp1 hR) (C := RX2) (T := TX2) (N := 8) rfl iwX2 6 (by decide) (Nat.le_of_ble_eq_true rfl) qw104 (v := .int (σ 1 6)) rfl dX2_readSum_44 ?_
          refine lv_iconst (v := 1) X.1 X.2.1 dX2_readSum_47 (by decide) ?_
          refine lv_iadd X.1 X.2.1 dX2_readSum_48 ?_
          refine r_put X hw (sp1 hR) (C := RX2) (T := TX2) (N := 8) rfl iwX2 tyX2 tyX2_ok nmX2 6 (by decide) (Nat.le_of_ble_eq_true rfl) qw104 rfl (v := .int ((σ 1 6) + 1)) rfl rfl (x := ((σ 1 6) + 1)) rfl dX2_readSum_49 (fun H locs hw => ?_)
          obtain ⟨σ29, e30, hf⟩ := b_bnd hf
          rw [← e30] at hw
          refine lv_aload_n X.1 X.2.1 dX2_readSum_52 rfl (lv_at hl 1 rfl) ?_
          refine lv_iload_n X.1 X.2.1 dX2_readSum_53 rfl (lv_at hl 2 rfl) ?_
          obtain ⟨r32, σ33, h31, hf⟩ := b_bd2 hf
          refine r_callV X hw (ih_X2_readTerm  h31) (sp1 hR) (C := RX2) (T := TX2) (N := 8) rfl qw299 qw301 qw13 qw69 qw302 okX2_readTerm ⟨rfl, rfl⟩ (rm_read_ok n0 (by decide)) ⟨Nat.zero_le _, Nat.zero_le _⟩ rfl hl.1 (rest := []) rfl (Nat.le_of_ble_eq_true rfl) dX2_readSum_54 (st1 := [.int r32]) rfl (fun H locs hw => ?_)
          refine lv_if_ne (tgt := 62) X.1 X.2.1 dX2_readSum_57 (by decide) (fun c34 => ?_) (fun c34 => ?_)
          · have hf := if_e hf c34
            refine lv_aload_n X.1 X.2.1 dX2_readSum_62 rfl (lv_at hl 1 rfl) ?_
            obtain ⟨h35, h36, hf⟩ := b_cT hf
            refine r_get X hw (sp1 hR) (C := RX2) (T := TX2) (N := 8) rfl iwX2 7 (by decide) (Nat.le_of_ble_eq_true rfl) qw105 (v := .ref (eP E ((σ33 1 7).toNatClampNeg))) (fv_dyn h36) dX2_readSum_63 ?_
            refine lv_iload_n X.1 X.2.1 dX2_readSum_66 rfl (lv_at hl 0 rfl) ?_
            obtain ⟨σ38, h37, hf⟩ := b_bd1 hf
            refine r_callV X hw (k_X5_addStep hR h35 h37) (spT0 hR h35) (C := RX5) (T := TX5) (N := 3) rfl qw287 qw288 qw289 qw71 qw290 okX5_addStep ⟨rfl, rfl⟩ ⟨(Nat.le_trans (m := 40) (Nat.le_of_ble_eq_true rfl) (Nat.le_add_left _ _)), (Nat.le_trans (m := 4000) (Nat.le_of_ble_eq_true rfl) (Nat.le_add_left _ _))⟩ ⟨Nat.zero_le _, Nat.zero_le _⟩ rfl hl.1 (rest := []) rfl (Nat.le_of_ble_eq_true rfl) dX2_readSum_67 (st1 := []) rfl (fun H locs hw => ?_)
            obtain ⟨v39, e40, hf⟩ := b_bnd hf
            refine lv_iinc (v := v39) (k := 3) (lv' := [(2, .int v39), (3, .int r28), (0, .ref (eP E 1)), (1, .int u1)]) X.1 X.2.1 dX2_readSum_70 hl rfl (by rw [e40]; exact congrArg _ (by decide)) (by decide) rfl (fun ls hl => ?_)
            refine lv_goto (tgt := 15) X.1 X.2.1 dX2_readSum_73 (by decide) ?_
            obtain rfl := Option.some.inj hf
            exact ih _ _ (hr1 _ rfl) _ _ _ hw (lv_sub hl [2, 3, 0] rfl) K1 K2
          · have hf := if_t hf c34
            refine lv_iconst (v := 0) X.1 X.2.1 dX2_readSum_60 (by decide) ?_
            obtain rfl := Option.some.inj hf
            obtain rfl := hr2 _ rfl
            rw [K2 _ _ rfl]
            exact r_zret X hw (by decide) dX2_readSum_61
set_option maxHeartbeats 4000000 in
set_option maxRecDepth 100000 in
theorem k_X2_readSum {l : Launch} {E : en_T} (hR : ShR E) {rec : Nat → Int32 → sg_T → Option (Int32 × sg_T)} {n0 : Nat} (ih_X2_readE : ∀ {x1 : Int32} {σ : sg_T} {r : Int32} {σ' : sg_T}, rec 0 x1 σ = some (r, σ') → Ct l yX2_readE cX2_readE 3 (some .boolean) (rm_read n0) E [.ref (eP E 1), .int x1] σ (some (.int r)) σ') (ih_X2_readAnd : ∀ {x1 : Int32} {σ : sg_T} {r : Int32} {σ' : sg_T}, rec 1 x1 σ = some (r, σ') → Ct l yX2_readAnd cX2_readAnd 3 (some .boolean) (rm_read n0) E [.ref (eP E 1), .int x1] σ (some (.int r)) σ') (ih_X2_readNot : ∀ {x1 : Int32} {σ : sg_T} {r : Int32} {σ' : sg_T}, rec 2 x1 σ = some (r, σ') → Ct l yX2_readNot cX2_readNot 4 (some .boolean) (rm_read n0) E [.ref (eP E 1), .int x1] σ (some (.int r)) σ') (ih_X2_readSum : ∀ {x1 : Int32} {σ : sg_T} {r : Int32} {σ' : sg_T}, rec 3 x1 σ = some (r, σ') → Ct l yX2_readSum cX2_readSum 4 (some .boolean) (rm_read n0) E [.ref (eP E 1), .int x1] σ (some (.int r)) σ') (ih_X2_readTerm : ∀ {x1 : Int32} {σ : sg_T} {r : Int32} {σ' : sg_T}, rec 4 x1 σ = some (r, σ') → Ct l yX2_readTerm cX2_readTerm 3 (some .boolean) (rm_read n0) E [.ref (eP E 1), .int x1] σ (some (.int r)) σ') (ih_X2_readOne : ∀ {x1 : Int32} {σ : sg_T} {r : Int32} {σ' : sg_T}, rec 5 x1 σ = some (r, σ') → Ct l yX2_readOne cX2_readOne 4 (some .boolean) (rm_read n0) E [.ref (eP E 1), .int x1] σ (some (.int r)) σ') {x1 : Int32} {σ : sg_T} {r : Int32} {σ' : sg_T} (hf : f_X2_readSum rec x1 σ = some (r, σ')) : Ct l yX2_readSum cX2_readSum 4 (some .boolean) (rm_read (n0 + 1)) E [.ref (eP E 1), .int x1] σ (some (.int r)) σ' := by
  refine Ct.start (by decide) hR.1 (Nat.le_of_ble_eq_true rfl) ?_
  intro p e s m below meth c X hw ls hl
  have X : Cx E p s m _ meth c cX2_readSum 4 RX2 (some .boolean) := X
  have hl : lv_has ls 4 [(0, .ref (eP E 1)), (1, .int x1)] := hl
  unfold f_X2_readSum at hf
  refine lv_aload_n X.1 X.2.1 dX2_readSum_0 rfl (lv_at hl 0 rfl) ?_
  refine lv_iload_n X.1 X.2.1 dX2_readSum_1 rfl (lv_at hl 1 rfl) ?_
  obtain ⟨r2, σ3, h1, hf⟩ := b_bd2 hf
  refine r_callV X hw (ih_X2_readTerm  h1) (sp1 hR) (C := RX2) (T := TX2) (N := 8) rfl qw299 qw301 qw13 qw69 qw302 okX2_readTerm ⟨rfl, rfl⟩ (rm_read_ok n0 (by decide)) ⟨Nat.zero_le _, Nat.zero_le _⟩ rfl hl.1 (rest := []) rfl (Nat.le_of_ble_eq_true rfl) dX2_readSum_2 (st1 := [.int r2]) rfl (fun H locs hw => ?_)
  refine lv_if_ne (tgt := 10) X.1 X.2.1 dX2_readSum_5 (by decide) (fun c4 => ?_) (fun c4 => ?_)
  · have hf := if_e hf c4
    refine lv_aload_n X.1 X.2.1 dX2_readSum_10 rfl (lv_at hl 0 rfl) ?_
    refine r_get X hw (sp1 hR) (C := RX2) (T := TX2) (N := 8) rfl iwX2 5 (by decide) (Nat.le_of_ble_eq_true rfl) qw103 (v := .int (σ3 1 5)) rfl dX2_readSum_11 ?_
    refine r_bnd hf (fun v5 hf => ?_)
    refine lv_istore_n (lv' := [(2, .int v5), (0, .ref (eP E 1)), (1, .int x1)]) X.1 X.2.1 dX2_readSum_14 rfl hl (by decide) rfl (fun ls hl => ?_)
    obtain ⟨r44, h41, hf⟩ := b_bs hf
    rcases hf with ⟨⟨v42, σ43⟩, rfl, hf⟩ | ⟨⟨r45, σ46⟩, rfl, hf⟩
    · refine w_X2_readSum_15 X hR ih_X2_readE ih_X2_readAnd ih_X2_readNot ih_X2_readSum ih_X2_readTerm ih_X2_readOne  lfu _ _ h41 _ _ _ hw (lv_sub hl [1, 2, 0] rfl) (fun yv42 yσ43 hq H locs ls hw hl => ?_) (fun _ _ hq => by cases hq)
      cases hq
      dsimp only at hf
      refine lv_iconst (v := 1) X.1 X.2.1 dX2_readSum_76 (by decide) ?_
      obtain ⟨rfl, rfl⟩ := Prod.mk.inj (Option.some.inj hf)
      exact r_zret X hw (by decide) dX2_readSum_77
    · refine w_X2_readSum_15 X hR ih_X2_readE ih_X2_readAnd ih_X2_readNot ih_X2_readSum ih_X2_readTerm ih_X2_readOne  lfu _ _ h41 _ _ _ hw (lv_sub hl [1, 2, 0] rfl) (fun _ _ hq => by cases hq) (fun _ _ hq => ?_)
      cases hq
      cases hf
      rfl
  · have hf := if_t hf c4
    refine lv_iconst (v := 0) X.1 X.2.1 dX2_readSum_8 (by decide) ?_
    obtain ⟨rfl, rfl⟩ := Prod.mk.inj (Option.some.inj hf)
    exact r_zret X hw (by decide) dX2_readSum_9
set_option maxHeartbeats 4000000 in
set_option maxRecDepth 100000 in
theorem k_X2_readNot {l : Launch} {E : en_T} (hR : ShR E) {rec : Nat → Int32 → sg_T → Option (Int32 × sg_T)} {n0 : Nat} (ih_X2_readE : ∀ {x1 : Int32} {σ : sg_T} {r : Int32} {σ' : sg_T}, rec 0 x1 σ = some (r, σ') → Ct l yX2_readE cX2_readE 3 (some .boolean) (rm_read n0) E [.ref (eP E 1), .int x1] σ (some (.int r)) σ') (ih_X2_readAnd : ∀ {x1 : Int32} {σ : sg_T} {r : Int32} {σ' : sg_T}, rec 1 x1 σ = some (r, σ') → Ct l yX2_readAnd cX2_readAnd 3 (some .boolean) (rm_read n0) E [.ref (eP E 1), .int x1] σ (some (.int r)) σ') (ih_X2_readNot : ∀ {x1 : Int32} {σ : sg_T} {r : Int32} {σ' : sg_T}, rec 2 x1 σ = some (r, σ') → Ct l yX2_readNot cX2_readNot 4 (some .boolean) (rm_read n0) E [.ref (eP E 1), .int x1] σ (some (.int r)) σ') (ih_X2_readSum : ∀ {x1 : Int32} {σ : sg_T} {r : Int32} {σ' : sg_T}, rec 3 x1 σ = some (r, σ') → Ct l yX2_readSum cX2_readSum 4 (some .boolean) (rm_read n0) E [.ref (eP E 1), .int x1] σ (some (.int r)) σ') (ih_X2_readTerm : ∀ {x1 : Int32} {σ : sg_T} {r : Int32} {σ' : sg_T}, rec 4 x1 σ = some (r, σ') → Ct l yX2_readTerm cX2_readTerm 3 (some .boolean) (rm_read n0) E [.ref (eP E 1), .int x1] σ (some (.int r)) σ') (ih_X2_readOne : ∀ {x1 : Int32} {σ : sg_T} {r : Int32} {σ' : sg_T}, rec 5 x1 σ = some (r, σ') → Ct l yX2_readOne cX2_readOne 4 (some .boolean) (rm_read n0) E [.ref (eP E 1), .int x1] σ (some (.int r)) σ') {x1 : Int32} {σ : sg_T} {r : Int32} {σ' : sg_T} (hf : f_X2_readNot rec x1 σ = some (r, σ')) : Ct l yX2_readNot cX2_readNot 4 (some .boolean) (rm_read (n0 + 1)) E [.ref (eP E 1), .int x1] σ (some (.int r)) σ' := by
  refine Ct.start (by decide) hR.1 (Nat.le_of_ble_eq_true rfl) ?_
  intro p e s m below meth c X hw ls hl
  have X : Cx E p s m _ meth c cX2_readNot 4 RX2 (some .boolean) := X
  have hl : lv_has ls 4 [(0, .ref (eP E 1)), (1, .int x1)] := hl
  unfold f_X2_readNot at hf
  refine lv_aload_n X.1 X.2.1 dX2_readNot_0 rfl (lv_at hl 0 rfl) ?_
  obtain ⟨r2, h1, hf⟩ := b_bd1 hf
  refine r_callV X hw (k_X2_now hR  h1) (sp1 hR) (C := RX2) (T := TX2) (N := 8) rfl qw271 qw273 qw8 qw69 qw274 okX2_now ⟨rfl, rfl⟩ ⟨(Nat.le_trans (m := 40) (Nat.le_of_ble_eq_true rfl) (Nat.le_add_left _ _)), (Nat.le_trans (m := 4000) (Nat.le_of_ble_eq_true rfl) (Nat.le_add_left _ _))⟩ ⟨Nat.zero_le _, Nat.zero_le _⟩ rfl hl.1 (rest := []) rfl (Nat.le_of_ble_eq_true rfl) dX2_readNot_1 (st1 := [.int r2]) rfl (fun H locs hw => ?_)
  refine lv_bipush (v := 11) X.1 X.2.1 dX2_readNot_4 (by decide) ?_
  refine lv_icmp_ne (tgt := 45) X.1 X.2.1 dX2_readNot_6 (by decide) (fun c3 => ?_) (fun c3 => ?_)
  · have hf := if_e hf c3
    refine lv_aload_n X.1 X.2.1 dX2_readNot_45 rfl (lv_at hl 0 rfl) ?_
    refine lv_iload_n X.1 X.2.1 dX2_readNot_46 rfl (lv_at hl 1 rfl) ?_
    obtain ⟨r5, σ6, h4, hf⟩ := b_bd2 hf
    refine r_callV X hw (ih_X2_readSum  h4) (sp1 hR) (C := RX2) (T := TX2) (N := 8) rfl qw295 qw297 qw12 qw69 qw298 okX2_readSum ⟨rfl, rfl⟩ (rm_read_ok n0 (by decide)) ⟨Nat.zero_le _, Nat.zero_le _⟩ rfl hl.1 (rest := []) rfl (Nat.le_of_ble_eq_true rfl) dX2_readNot_47 (st1 := [.int r5]) rfl (fun H locs hw => ?_)
    refine lv_if_ne (tgt := 55) X.1 X.2.1 dX2_readNot_50 (by decide) (fun c7 => ?_) (fun c7 => ?_)
    · have hf := if_e hf c7
      refine lv_aload_n X.1 X.2.1 dX2_readNot_55 rfl (lv_at hl 0 rfl) ?_
      obtain ⟨r9, h8, hf⟩ := b_bd1 hf
      refine r_callV X hw (k_X2_now hR  h8) (sp1 hR) (C := RX2) (T := TX2) (N := 8) rfl qw271 qw273 qw8 qw69 qw274 okX2_now ⟨rfl, rfl⟩ ⟨(Nat.le_trans (m := 40) (Nat.le_of_ble_eq_true rfl) (Nat.le_add_left _ _)), (Nat.le_trans (m := 4000) (Nat.le_of_ble_eq_true rfl) (Nat.le_add_left _ _))⟩ ⟨Nat.zero_le _, Nat.zero_le _⟩ rfl hl.1 (rest := []) rfl (Nat.le_of_ble_eq_true rfl) dX2_readNot_56 (st1 := [.int r9]) rfl (fun H locs hw => ?_)
      refine lv_istore_n (lv' := [(2, .int r9), (0, .ref (eP E 1)), (1, .int x1)]) X.1 X.2.1 dX2_readNot_59 rfl hl (by decide) rfl (fun ls hl => ?_)
      refine lv_iload_n X.1 X.2.1 dX2_readNot_60 rfl (lv_at hl 0 rfl) ?_
      refine lv_bipush (v := 60) X.1 X.2.1 dX2_readNot_61 (by decide) ?_
      refine lv_icmp_eq (tgt := 72) X.1 X.2.1 dX2_readNot_63 (by decide) (fun c10 => ?_) (fun c10 => ?_)
      · have hf := if_t hf c10
        refine lv_aload_n X.1 X.2.1 dX2_readNot_72 rfl (lv_at hl 1 rfl) ?_
        refine lv_dup X.1 X.2.1 dX2_readNot_73 rfl ?_
        refine r_get X hw (sp1 hR) (C := RX2) (T := TX2) (N := 8) rfl iwX2 6 (by decide) (Nat.le_of_ble_eq_true rfl) qw104 (v := .int (σ6 1 6)) rfl dX2_readNot_74 ?_
        refine lv_iconst (v := 1) X.1 X.2.1 dX2_readNot_77 (by decide) ?_
        refine lv_iadd X.1 X.2.1 dX2_readNot_78 ?_
        refine r_put X hw (sp1 hR) (C := RX2) (T := TX2) (N := 8) rfl iwX2 tyX2 tyX2_ok nmX2 6 (by decide) (Nat.le_of_ble_eq_true rfl) qw104 rfl (v := .int ((σ6 1 6) + 1)) rfl rfl (x := ((σ6 1 6) + 1)) rfl dX2_readNot_79 (fun H locs hw => ?_)
        obtain ⟨σ11, e12, hf⟩ := b_bnd hf
        rw [← e12] at hw
        refine lv_aload_n X.1 X.2.1 dX2_readNot_82 rfl (lv_at hl 1 rfl) ?_
        refine lv_iload_n X.1 X.2.1 dX2_readNot_83 rfl (lv_at hl 2 rfl) ?_
        obtain ⟨r14, σ15, h13, hf⟩ := b_bd2 hf
        refine r_callV X hw (ih_X2_readSum  h13) (sp1 hR) (C := RX2) (T := TX2) (N := 8) rfl qw295 qw297 qw12 qw69 qw298 okX2_readSum ⟨rfl, rfl⟩ (rm_read_ok n0 (by decide)) ⟨Nat.zero_le _, Nat.zero_le _⟩ rfl hl.1 (rest := []) rfl (Nat.le_of_ble_eq_true rfl) dX2_readNot_84 (st1 := [.int r14]) rfl (fun H locs hw => ?_)
        refine lv_istore_n (lv' := [(3, .int r14), (2, .int r9), (0, .ref (eP E 1)), (1, .int x1)]) X.1 X.2.1 dX2_readNot_87 rfl hl (by decide) rfl (fun ls hl => ?_)
        refine lv_aload_n X.1 X.2.1 dX2_readNot_88 rfl (lv_at hl 2 rfl) ?_
        obtain ⟨h16, h17, hf⟩ := b_cT hf
        refine r_get X hw (sp1 hR) (C := RX2) (T := TX2) (N := 8) rfl iwX2 7 (by decide) (Nat.le_of_ble_eq_true rfl) qw105 (v := .ref (eP E ((σ15 1 7).toNatClampNeg))) (fv_dyn h17) dX2_readNot_89 ?_
        refine lv_iload_n X.1 X.2.1 dX2_readNot_92 rfl (lv_at hl 1 rfl) ?_
        obtain ⟨σ19, h18, hf⟩ := b_bd1 hf
        refine r_callV X hw (k_X5_addStep hR h16 h18) (spT0 hR h16) (C := RX5) (T := TX5) (N := 3) rfl qw287 qw288 qw289 qw71 qw290 okX5_addStep ⟨rfl, rfl⟩ ⟨(Nat.le_trans (m := 40) (Nat.le_of_ble_eq_true rfl) (Nat.le_add_left _ _)), (Nat.le_trans (m := 4000) (Nat.le_of_ble_eq_true rfl) (Nat.le_add_left _ _))⟩ ⟨Nat.zero_le _, Nat.zero_le _⟩ rfl hl.1 (rest := []) rfl (Nat.le_of_ble_eq_true rfl) dX2_readNot_93 (st1 := []) rfl (fun H locs hw => ?_)
        refine lv_iload_n X.1 X.2.1 dX2_readNot_96 rfl (lv_at hl 0 rfl) ?_
        obtain ⟨h20, hf⟩ := b_cz hf
        obtain ⟨rfl, rfl⟩ := Prod.mk.inj (Option.some.inj hf)
        exact r_zret X hw (cz_and h20) dX2_readNot_97
      · have hf := if_e hf c10
        refine lv_iload_n X.1 X.2.1 dX2_readNot_66 rfl (lv_at hl 0 rfl) ?_
        refine lv_bipush (v := 61) X.1 X.2.1 dX2_readNot_67 (by decide) ?_
        refine lv_icmp_ne (tgt := 98) X.1 X.2.1 dX2_readNot_69 (by decide) (fun c21 => ?_) (fun c21 => ?_)
        · have hf := if_e hf c21
          refine lv_iconst (v := 1) X.1 X.2.1 dX2_readNot_98 (by decide) ?_
          obtain ⟨rfl, rfl⟩ := Prod.mk.inj (Option.some.inj hf)
          exact r_zret X hw (by decide) dX2_readNot_99
        · have hf := if_t hf c21
          refine lv_aload_n X.1 X.2.1 dX2_readNot_72 rfl (lv_at hl 1 rfl) ?_
          refine lv_dup X.1 X.2.1 dX2_readNot_73 rfl ?_
          refine r_get X hw (sp1 hR) (C := RX2) (T := TX2) (N := 8) rfl iwX2 6 (by decide) (Nat.le_of_ble_eq_true rfl) qw104 (v := .int (σ6 1 6)) rfl dX2_readNot_74 ?_
          refine lv_iconst (v := 1) X.1 X.2.1 dX2_readNot_77 (by decide) ?_
          refine lv_iadd X.1 X.2.1 dX2_readNot_78 ?_
          refine r_put X hw (sp1 hR) (C := RX2) (T := TX2) (N := 8) rfl iwX2 tyX2 tyX2_ok nmX2 6 (by decide) (Nat.le_of_ble_eq_true rfl) qw104 rfl (v := .int ((σ6 1 6) + 1)) rfl rfl (x := ((σ6 1 6) + 1)) rfl dX2_readNot_79 (fun H locs hw => ?_)
          obtain ⟨σ22, e23, hf⟩ := b_bnd hf
          rw [← e23] at hw
          refine lv_aload_n X.1 X.2.1 dX2_readNot_82 rfl (lv_at hl 1 rfl) ?_
          refine lv_iload_n X.1 X.2.1 dX2_readNot_83 rfl (lv_at hl 2 rfl) ?_
          obtain ⟨r25, σ26, h24, hf⟩ := b_bd2 hf
          refine r_callV X hw (ih_X2_readSum  h24) (sp1 hR) (C := RX2) (T := TX2) (N := 8) rfl qw295 qw297 qw12 qw69 qw298 okX2_readSum ⟨rfl, rfl⟩ (rm_read_ok n0 (by decide)) ⟨Nat.zero_le _, Nat.zero_le _⟩ rfl hl.1 (rest := []) rfl (Nat.le_of_ble_eq_true rfl) dX2_readNot_84 (st1 := [.int r25]) rfl (fun H locs hw => ?_)
          refine lv_istore_n (lv' := [(3, .int r25), (2, .int r9), (0, .ref (eP E 1)), (1, .int x1)]) X.1 X.2.1 dX2_readNot_87 rfl hl (by decide) rfl (fun ls hl => ?_)
          refine lv_aload_n X.1 X.2.1 dX2_readNot_88 rfl (lv_at hl 2 rfl) ?_
          obtain ⟨h27, h28, hf⟩ := b_cT hf
          refine r_get X hw (sp1 hR) (C := RX2) (T := TX2) (N := 8) rfl iwX2 7 (by decide) (Nat.le_of_ble_eq_true rfl) qw105 (v := .ref (eP E ((σ26 1 7).toNatClampNeg))) (fv_dyn h28) dX2_readNot_89 ?_
          refine lv_iload_n X.1 X.2.1 dX2_readNot_92 rfl (lv_at hl 1 rfl) ?_
          obtain ⟨σ30, h29, hf⟩ := b_bd1 hf
          refine r_callV X hw (k_X5_addStep hR h27 h29) (spT0 hR h27) (C := RX5) (T := TX5) (N := 3) rfl qw287 qw288 qw289 qw71 qw290 okX5_addStep ⟨rfl, rfl⟩ ⟨(Nat.le_trans (m := 40) (Nat.le_of_ble_eq_true rfl) (Nat.le_add_left _ _)), (Nat.le_trans (m := 4000) (Nat.le_of_ble_eq_true rfl) (Nat.le_add_left _ _))⟩ ⟨Nat.zero_le _, Nat.zero_le _⟩ rfl hl.1 (rest := []) rfl (Nat.le_of_ble_eq_true rfl) dX2_readNot_93 (st1 := []) rfl (fun H locs hw => ?_)
          refine lv_iload_n X.1 X.2.1 dX2_readNot_96 rfl (lv_at hl 0 rfl) ?_
          obtain ⟨h31, hf⟩ := b_cz hf
          obtain ⟨rfl, rfl⟩ := Prod.mk.inj (Option.some.inj hf)
          exact r_zret X hw (cz_and h31) dX2_readNot_97
    · have hf := if_t hf c7
      refine lv_iconst (v := 0) X.1 X.2.1 dX2_readNot_53 (by decide) ?_
      obtain ⟨rfl, rfl⟩ := Prod.mk.inj (Option.some.inj hf)
      exact r_zret X hw (by decide) dX2_readNot_54
  · have hf := if_t hf c3
    refine lv_iload_n X.1 X.2.1 dX2_readNot_9 rfl (lv_at hl 1 rfl) ?_
    refine lv_iconst (v := 5) X.1 X.2.1 dX2_readNot_10 (by decide) ?_
    refine lv_icmp_lt (tgt := 16) X.1 X.2.1 dX2_readNot_11 (by decide) (fun c32 => ?_) (fun c32 => ?_)
    · have hf := if_t hf c32
      refine lv_aload_n X.1 X.2.1 dX2_readNot_16 rfl (lv_at hl 0 rfl) ?_
      refine lv_dup X.1 X.2.1 dX2_readNot_17 rfl ?_
      refine r_get X hw (sp1 hR) (C := RX2) (T := TX2) (N := 8) rfl iwX2 6 (by decide) (Nat.le_of_ble_eq_true rfl) qw104 (v := .int (σ 1 6)) rfl dX2_readNot_18 ?_
      refine lv_iconst (v := 1) X.1 X.2.1 dX2_readNot_21 (by decide) ?_
      refine lv_iadd X.1 X.2.1 dX2_readNot_22 ?_
      refine r_put X hw (sp1 hR) (C := RX2) (T := TX2) (N := 8) rfl iwX2 tyX2 tyX2_ok nmX2 6 (by decide) (Nat.le_of_ble_eq_true rfl) qw104 rfl (v := .int ((σ 1 6) + 1)) rfl rfl (x := ((σ 1 6) + 1)) rfl dX2_readNot_23 (fun H locs hw => ?_)
      obtain ⟨σ33, e34, hf⟩ := b_bnd hf
      rw [← e34] at hw
      refine lv_aload_n X.1 X.2.1 dX2_readNot_26 rfl (lv_at hl 0 rfl) ?_
      refine lv_iload_n X.1 X.2.1 dX2_readNot_27 rfl (lv_at hl 1 rfl) ?_
      refine lv_iconst (v := 1) X.1 X.2.1 dX2_readNot_28 (by decide) ?_
      refine lv_iadd X.1 X.2.1 dX2_readNot_29 ?_
      obtain ⟨r36, σ37, h35, hf⟩ := b_bd2 hf
      refine r_callV X hw (ih_X2_readNot  h35) (sp1 hR) (C := RX2) (T := TX2) (N := 8) rfl qw283 qw285 qw11 qw69 qw286 okX2_readNot ⟨rfl, rfl⟩ (rm_read_ok n0 (by decide)) ⟨Nat.zero_le _, Nat.zero_le _⟩ rfl hl.1 (rest := []) rfl (Nat.le_of_ble_eq_true rfl) dX2_readNot_30 (st1 := [.int r36]) rfl (fun H locs hw => ?_)
      refine lv_istore_n (lv' := [(2, .int r36), (0, .ref (eP E 1)), (1, .int x1)]) X.1 X.2.1 dX2_readNot_33 rfl hl (by decide) rfl (fun ls hl => ?_)
      refine lv_aload_n X.1 X.2.1 dX2_readNot_34 rfl (lv_at hl 1 rfl) ?_
      obtain ⟨h38, h39, hf⟩ := b_cT hf
      refine r_get X hw (sp1 hR) (C := RX2) (T := TX2) (N := 8) rfl iwX2 7 (by decide) (Nat.le_of_ble_eq_true rfl) qw105 (v := .ref (eP E ((σ37 1 7).toNatClampNeg))) (fv_dyn h39) dX2_readNot_35 ?_
      refine lv_bipush (v := 11) X.1 X.2.1 dX2_readNot_38 (by decide) ?_
      obtain ⟨σ41, h40, hf⟩ := b_bd1 hf
      refine r_callV X hw (k_X5_addStep hR h38 h40) (spT0 hR h38) (C := RX5) (T := TX5) (N := 3) rfl qw287 qw288 qw289 qw71 qw290 okX5_addStep ⟨rfl, rfl⟩ ⟨(Nat.le_trans (m := 40) (Nat.le_of_ble_eq_true rfl) (Nat.le_add_left _ _)), (Nat.le_trans (m := 4000) (Nat.le_of_ble_eq_true rfl) (Nat.le_add_left _ _))⟩ ⟨Nat.zero_le _, Nat.zero_le _⟩ rfl hl.1 (rest := []) rfl (Nat.le_of_ble_eq_true rfl) dX2_readNot_40 (st1 := []) rfl (fun H locs hw => ?_)
      refine lv_iload_n X.1 X.2.1 dX2_readNot_43 rfl (lv_at hl 0 rfl) ?_
      obtain ⟨h42, hf⟩ := b_cz hf
      obtain ⟨rfl, rfl⟩ := Prod.mk.inj (Option.some.inj hf)
      exact r_zret X hw (cz_and h42) dX2_readNot_44
    · have hf := if_e hf c32
      refine lv_iconst (v := 0) X.1 X.2.1 dX2_readNot_14 (by decide) ?_
      obtain ⟨rfl, rfl⟩ := Prod.mk.inj (Option.some.inj hf)
      exact r_zret X hw (by decide) dX2_readNot_15
set_option maxHeartbeats 4000000 in
set_option maxRecDepth 100000 in
theorem w_X2_readAnd_15 {p : Program} {l : Launch} {e : Env} {s : State} {m : MethodId} {args : Array Value} {below : List Frame} {meth : Method} {c : Code} {Q : State → Prop} {E : en_T} (X : Cx E p s m args meth c cX2_readAnd 3 RX2 (some .boolean)) (hR : ShR E) {rec : Nat → Int32 → sg_T → Option (Int32 × sg_T)} {n0 : Nat} (ih_X2_readE : ∀ {x1 : Int32} {σ : sg_T} {r : Int32} {σ' : sg_T}, rec 0 x1 σ = some (r, σ') → Ct l yX2_readE cX2_readE 3 (some .boolean) (rm_read n0) E [.ref (eP E 1), .int x1] σ (some (.int r)) σ') (ih_X2_readAnd : ∀ {x1 : Int32} {σ : sg_T} {r : Int32} {σ' : sg_T}, rec 1 x1 σ = some (r, σ') → Ct l yX2_readAnd cX2_readAnd 3 (some .boolean) (rm_read n0) E [.ref (eP E 1), .int x1] σ (some (.int r)) σ') (ih_X2_readNot : ∀ {x1 : Int32} {σ : sg_T} {r : Int32} {σ' : sg_T}, rec 2 x1 σ = some (r, σ') → Ct l yX2_readNot cX2_readNot 4 (some .boolean) (rm_read n0) E [.ref (eP E 1), .int x1] σ (some (.int r)) σ') (ih_X2_readSum : ∀ {x1 : Int32} {σ : sg_T} {r : Int32} {σ' : sg_T}, rec 3 x1 σ = some (r, σ') → Ct l yX2_readSum cX2_readSum 4 (some .boolean) (rm_read n0) E [.ref (eP E 1), .int x1] σ (some (.int r)) σ') (ih_X2_readTerm : ∀ {x1 : Int32} {σ : sg_T} {r : Int32} {σ' : sg_T}, rec 4 x1 σ = some (r, σ') → Ct l yX2_readTerm cX2_readTerm 3 (some .boolean) (rm_read n0) E [.ref (eP E 1), .int x1] σ (some (.int r)) σ') (ih_X2_readOne : ∀ {x1 : Int32} {σ : sg_T} {r : Int32} {σ' : sg_T}, rec 5 x1 σ = some (r, σ') → Ct l yX2_readOne cX2_readOne 4 (some .boolean) (rm_read n0) E [.ref (eP E 1), .int x1] σ (some (.int r)) σ') {u1 : Int32}  {res : (Int32 × sg_T) ⊕ (Int32 × sg_T)} :
    ∀ (n : Nat) (w2 : Int32) (σ : sg_T), itr (fun q => b_X2_readAnd_15 rec u1 q.1 q.2) n (w2, σ) = some res → ∀ (H : Heap) (locs : List Loc) (ls : Array Slot), Hw E σ s H locs → lv_has ls 3 [(0, .ref (eP E 1)), (1, .int u1), (2, .int w2)] →
    (∀ (y2 : Int32) (τ : sg_T), res = .inl (y2, τ) → ∀ (H : Heap) (locs : List Loc) (ls : Array Slot), Hw E τ s H locs → lv_has ls 3 [(0, .ref (eP E 1)), (1, .int u1), (2, .int y2)] → W p l e (rm_read (n0 + 1)) s m args below meth c H locs 0 0 Q (F0 m 53 ls [])) →
    (∀ (r : Int32) (σ' : sg_T), res = .inr (r, σ') → Q = MQ below (Qf E (some (.int r)) σ') args s 0 0 (en_A E)) →
    W p l e (rm_read (n0 + 1)) s m args below meth c H locs 0 0 Q (F0 m 15 ls []) := by
  intro n
  induction n with
  | zero =>
    intro w2 σ hf0
    exact (itr_0 hf0).elim
  | succ n ih =>
    intro w2 σ hf0 H locs ls hw hl K1 K2
    obtain ⟨r0, hf, hr1, hr2⟩ := itr_s hf0
    have hf : b_X2_readAnd_15 rec u1 w2 σ = some r0 := hf
    unfold b_X2_readAnd_15 at hf
    refine lv_iload_n X.1 X.2.1 dX2_readAnd_15 rfl (lv_at hl 2 rfl) ?_
    refine lv_if_le (tgt := 53) X.1 X.2.1 dX2_readAnd_16 (by decide) (fun c6 => ?_) (fun c6 => ?_)
    · have hf := if_t hf c6
      obtain rfl := Option.some.inj hf
      obtain rfl := hr2 _ rfl
      exact K1 _ _ rfl _ _ _ hw (lv_sub hl [0, 1, 2] rfl)
    · have hf := if_e hf c6
      refine lv_aload_n X.1 X.2.1 dX2_readAnd_19 rfl (lv_at hl 0 rfl) ?_
      refine lv_bipush (v := 10) X.1 X.2.1 dX2_readAnd_20 (by decide) ?_
      obtain ⟨r8, σ9, h7, hf⟩ := b_bd2 hf
      refine r_callV X hw (k_X2_pass hR  h7) (sp1 hR) (C := RX2) (T := TX2) (N := 8) rfl qw267 qw269 qw7 qw69 qw270 okX2_pass ⟨rfl, rfl⟩ ⟨(Nat.le_trans (m := 40) (Nat.le_of_ble_eq_true rfl) (Nat.le_add_left _ _)), (Nat.le_trans (m := 4000) (Nat.le_of_ble_eq_true rfl) (Nat.le_add_left _ _))⟩ ⟨Nat.zero_le _, Nat.zero_le _⟩ rfl hl.1 (rest := []) rfl (Nat.le_of_ble_eq_true rfl) dX2_readAnd_22 (st1 := [.int r8]) rfl (fun H locs hw => ?_)
      refine lv_if_eq (tgt := 53) X.1 X.2.1 dX2_readAnd_25 (by decide) (fun c10 => ?_) (fun c10 => ?_)
      · have hf := if_t hf c10
        obtain rfl := Option.some.inj hf
        obtain rfl := hr2 _ rfl
        exact K1 _ _ rfl _ _ _ hw (lv_sub hl [0, 1, 2] rfl)
      · have hf := if_e hf c10
        refine lv_aload_n X.1 X.2.1 dX2_readAnd_28 rfl (lv_at hl 0 rfl) ?_
        refine lv_iload_n X.1 X.2.1 dX2_readAnd_29 rfl (lv_at hl 1 rfl) ?_
        obtain ⟨r12, σ13, h11, hf⟩ := b_bd2 hf
        refine r_callV X hw (ih_X2_readNot  h11) (sp1 hR) (C := RX2) (T := TX2) (N := 8) rfl qw283 qw285 qw11 qw69 qw286 okX2_readNot ⟨rfl, rfl⟩ (rm_read_ok n0 (by decide)) ⟨Nat.zero_le _, Nat.zero_le _⟩ rfl hl.1 (rest := []) rfl (Nat.le_of_ble_eq_true rfl) dX2_readAnd_30 (st1 := [.int r12]) rfl (fun H locs hw => ?_)
        refine lv_if_ne (tgt := 38) X.1 X.2.1 dX2_readAnd_33 (by decide) (fun c14 => ?_) (fun c14 => ?_)
        · have hf := if_e hf c14
          refine lv_aload_n X.1 X.2.1 dX2_readAnd_38 rfl (lv_at hl 0 rfl) ?_
          obtain ⟨h15, h16, hf⟩ := b_cT hf
          refine r_get X hw (sp1 hR) (C := RX2) (T := TX2) (N := 8) rfl iwX2 7 (by decide) (Nat.le_of_ble_eq_true rfl) qw105 (v := .ref (eP E ((σ13 1 7).toNatClampNeg))) (fv_dyn h16) dX2_readAnd_39 ?_
          refine lv_bipush (v := 10) X.1 X.2.1 dX2_readAnd_42 (by decide) ?_
          obtain ⟨σ18, h17, hf⟩ := b_bd1 hf
          refine r_callV X hw (k_X5_addStep hR h15 h17) (spT0 hR h15) (C := RX5) (T := TX5) (N := 3) rfl qw287 qw288 qw289 qw71 qw290 okX5_addStep ⟨rfl, rfl⟩ ⟨(Nat.le_trans (m := 40) (Nat.le_of_ble_eq_true rfl) (Nat.le_add_left _ _)), (Nat.le_trans (m := 4000) (Nat.le_of_ble_eq_true rfl) (Nat.le_add_left _ _))⟩ ⟨Nat.zero_le _, Nat.zero_le _⟩ rfl hl.1 (rest := []) rfl (Nat.le_of_ble_eq_true rfl) dX2_readAnd_44 (st1 := []) rfl (fun H locs hw => ?_)
          obtain ⟨v19, e20, hf⟩ := b_bnd hf
          refine lv_iinc (v := v19) (k := 2) (lv' := [(2, .int v19), (0, .ref (eP E 1)), (1, .int u1)]) X.1 X.2.1 dX2_readAnd_47 hl rfl (by rw [e20]; exact congrArg _ (by decide)) (by decide) rfl (fun ls hl => ?_)
          refine lv_goto (tgt := 15) X.1 X.2.1 dX2_readAnd_50 (by decide) ?_
          obtain rfl := Option.some.inj hf
          exact ih _ _ (hr1 _ rfl) _ _ _ hw (lv_sub hl [1, 2, 0] rfl) K1 K2
        · have hf := if_t hf c14
          refine lv_iconst (v := 0) X.1 X.2.1 dX2_readAnd_36 (by decide) ?_
          obtain rfl := Option.some.inj hf
          obtain rfl := hr2 _ rfl
          rw [K2 _ _ rfl]
          exact r_zret X hw (by decide) dX2_readAnd_37
set_option maxHeartbeats 4000000 in
set_option maxRecDepth 100000 in
theorem k_X2_readAnd {l : Launch} {E : en_T} (hR : ShR E) {rec : Nat → Int32 → sg_T → Option (Int32 × sg_T)} {n0 : Nat} (ih_X2_readE : ∀ {x1 : Int32} {σ : sg_T} {r : Int32} {σ' : sg_T}, rec 0 x1 σ = some (r, σ') → Ct l yX2_readE cX2_readE 3 (some .boolean) (rm_read n0) E [.ref (eP E 1), .int x1] σ (some (.int r)) σ') (ih_X2_readAnd : ∀ {x1 : Int32} {σ : sg_T} {r : Int32} {σ' : sg_T}, rec 1 x1 σ = some (r, σ') → Ct l yX2_readAnd cX2_readAnd 3 (some .boolean) (rm_read n0) E [.ref (eP E 1), .int x1] σ (some (.int r)) σ') (ih_X2_readNot : ∀ {x1 : Int32} {σ : sg_T} {r : Int32} {σ' : sg_T}, rec 2 x1 σ = some (r, σ') → Ct l yX2_readNot cX2_readNot 4 (some .boolean) (rm_read n0) E [.ref (eP E 1), .int x1] σ (some (.int r)) σ') (ih_X2_readSum : ∀ {x1 : Int32} {σ : sg_T} {r : Int32} {σ' : sg_T}, rec 3 x1 σ = some (r, σ') → Ct l yX2_readSum cX2_readSum 4 (some .boolean) (rm_read n0) E [.ref (eP E 1), .int x1] σ (some (.int r)) σ') (ih_X2_readTerm : ∀ {x1 : Int32} {σ : sg_T} {r : Int32} {σ' : sg_T}, rec 4 x1 σ = some (r, σ') → Ct l yX2_readTerm cX2_readTerm 3 (some .boolean) (rm_read n0) E [.ref (eP E 1), .int x1] σ (some (.int r)) σ') (ih_X2_readOne : ∀ {x1 : Int32} {σ : sg_T} {r : Int32} {σ' : sg_T}, rec 5 x1 σ = some (r, σ') → Ct l yX2_readOne cX2_readOne 4 (some .boolean) (rm_read n0) E [.ref (eP E 1), .int x1] σ (some (.int r)) σ') {x1 : Int32} {σ : sg_T} {r : Int32} {σ' : sg_T} (hf : f_X2_readAnd rec x1 σ = some (r, σ')) : Ct l yX2_readAnd cX2_readAnd 3 (some .boolean) (rm_read (n0 + 1)) E [.ref (eP E 1), .int x1] σ (some (.int r)) σ' := by
  refine Ct.start (by decide) hR.1 (Nat.le_of_ble_eq_true rfl) ?_
  intro p e s m below meth c X hw ls hl
  have X : Cx E p s m _ meth c cX2_readAnd 3 RX2 (some .boolean) := X
  have hl : lv_has ls 3 [(0, .ref (eP E 1)), (1, .int x1)] := hl
  unfold f_X2_readAnd at hf
  refine lv_aload_n X.1 X.2.1 dX2_readAnd_0 rfl (lv_at hl 0 rfl) ?_
  refine lv_iload_n X.1 X.2.1 dX2_readAnd_1 rfl (lv_at hl 1 rfl) ?_
  obtain ⟨r2, σ3, h1, hf⟩ := b_bd2 hf
  refine r_callV X hw (ih_X2_readNot  h1) (sp1 hR) (C := RX2) (T := TX2) (N := 8) rfl qw283 qw285 qw11 qw69 qw286 okX2_readNot ⟨rfl, rfl⟩ (rm_read_ok n0 (by decide)) ⟨Nat.zero_le _, Nat.zero_le _⟩ rfl hl.1 (rest := []) rfl (Nat.le_of_ble_eq_true rfl) dX2_readAnd_2 (st1 := [.int r2]) rfl (fun H locs hw => ?_)
  refine lv_if_ne (tgt := 10) X.1 X.2.1 dX2_readAnd_5 (by decide) (fun c4 => ?_) (fun c4 => ?_)
  · have hf := if_e hf c4
    refine lv_aload_n X.1 X.2.1 dX2_readAnd_10 rfl (lv_at hl 0 rfl) ?_
    refine r_get X hw (sp1 hR) (C := RX2) (T := TX2) (N := 8) rfl iwX2 5 (by decide) (Nat.le_of_ble_eq_true rfl) qw103 (v := .int (σ3 1 5)) rfl dX2_readAnd_11 ?_
    refine r_bnd hf (fun v5 hf => ?_)
    refine lv_istore_n (lv' := [(2, .int v5), (0, .ref (eP E 1)), (1, .int x1)]) X.1 X.2.1 dX2_readAnd_14 rfl hl (by decide) rfl (fun ls hl => ?_)
    obtain ⟨r24, h21, hf⟩ := b_bs hf
    rcases hf with ⟨⟨v22, σ23⟩, rfl, hf⟩ | ⟨⟨r25, σ26⟩, rfl, hf⟩
    · refine w_X2_readAnd_15 X hR ih_X2_readE ih_X2_readAnd ih_X2_readNot ih_X2_readSum ih_X2_readTerm ih_X2_readOne  lfu _ _ h21 _ _ _ hw (lv_sub hl [1, 2, 0] rfl) (fun yv22 yσ23 hq H locs ls hw hl => ?_) (fun _ _ hq => by cases hq)
      cases hq
      dsimp only at hf
      refine lv_iconst (v := 1) X.1 X.2.1 dX2_readAnd_53 (by decide) ?_
      obtain ⟨rfl, rfl⟩ := Prod.mk.inj (Option.some.inj hf)
      exact r_zret X hw (by decide) dX2_readAnd_54
    · refine w_X2_readAnd_15 X hR ih_X2_readE ih_X2_readAnd ih_X2_readNot ih_X2_readSum ih_X2_readTerm ih_X2_readOne  lfu _ _ h21 _ _ _ hw (lv_sub hl [1, 2, 0] rfl) (fun _ _ hq => by cases hq) (fun _ _ hq => ?_)
      cases hq
      cases hf
      rfl
  · have hf := if_t hf c4
    refine lv_iconst (v := 0) X.1 X.2.1 dX2_readAnd_8 (by decide) ?_
    obtain ⟨rfl, rfl⟩ := Prod.mk.inj (Option.some.inj hf)
    exact r_zret X hw (by decide) dX2_readAnd_9
set_option maxHeartbeats 4000000 in
set_option maxRecDepth 100000 in
theorem w_X2_readE_15 {p : Program} {l : Launch} {e : Env} {s : State} {m : MethodId} {args : Array Value} {below : List Frame} {meth : Method} {c : Code} {Q : State → Prop} {E : en_T} (X : Cx E p s m args meth c cX2_readE 3 RX2 (some .boolean)) (hR : ShR E) {rec : Nat → Int32 → sg_T → Option (Int32 × sg_T)} {n0 : Nat} (ih_X2_readE : ∀ {x1 : Int32} {σ : sg_T} {r : Int32} {σ' : sg_T}, rec 0 x1 σ = some (r, σ') → Ct l yX2_readE cX2_readE 3 (some .boolean) (rm_read n0) E [.ref (eP E 1), .int x1] σ (some (.int r)) σ') (ih_X2_readAnd : ∀ {x1 : Int32} {σ : sg_T} {r : Int32} {σ' : sg_T}, rec 1 x1 σ = some (r, σ') → Ct l yX2_readAnd cX2_readAnd 3 (some .boolean) (rm_read n0) E [.ref (eP E 1), .int x1] σ (some (.int r)) σ') (ih_X2_readNot : ∀ {x1 : Int32} {σ : sg_T} {r : Int32} {σ' : sg_T}, rec 2 x1 σ = some (r, σ') → Ct l yX2_readNot cX2_readNot 4 (some .boolean) (rm_read n0) E [.ref (eP E 1), .int x1] σ (some (.int r)) σ') (ih_X2_readSum : ∀ {x1 : Int32} {σ : sg_T} {r : Int32} {σ' : sg_T}, rec 3 x1 σ = some (r, σ') → Ct l yX2_readSum cX2_readSum 4 (some .boolean) (rm_read n0) E [.ref (eP E 1), .int x1] σ (some (.int r)) σ') (ih_X2_readTerm : ∀ {x1 : Int32} {σ : sg_T} {r : Int32} {σ' : sg_T}, rec 4 x1 σ = some (r, σ') → Ct l yX2_readTerm cX2_readTerm 3 (some .boolean) (rm_read n0) E [.ref (eP E 1), .int x1] σ (some (.int r)) σ') (ih_X2_readOne : ∀ {x1 : Int32} {σ : sg_T} {r : Int32} {σ' : sg_T}, rec 5 x1 σ = some (r, σ') → Ct l yX2_readOne cX2_readOne 4 (some .boolean) (rm_read n0) E [.ref (eP E 1), .int x1] σ (some (.int r)) σ') {u1 : Int32}  {res : (Int32 × sg_T) ⊕ (Int32 × sg_T)} :
    ∀ (n : Nat) (w2 : Int32) (σ : sg_T), itr (fun q => b_X2_readE_15 rec u1 q.1 q.2) n (w2, σ) = some res → ∀ (H : Heap) (locs : List Loc) (ls : Array Slot), Hw E σ s H locs → lv_has ls 3 [(0, .ref (eP E 1)), (1, .int u1), (2, .int w2)] →
    (∀ (y2 : Int32) (τ : sg_T), res = .inl (y2, τ) → ∀ (H : Heap) (locs : List Loc) (ls : Array Slot), Hw E τ s H locs → lv_has ls 3 [(0, .ref (eP E 1)), (1, .int u1), (2, .int y2)] → W p l e (rm_read (n0 + 1)) s m args below meth c H locs 0 0 Q (F0 m 53 ls [])) →
    (∀ (r : Int32) (σ' : sg_T), res = .inr (r, σ') → Q = MQ below (Qf E (some (.int r)) σ') args s 0 0 (en_A E)) →
    W p l e (rm_read (n0 + 1)) s m args below meth c H locs 0 0 Q (F0 m 15 ls []) := by
  intro n
  induction n with
  | zero =>
    intro w2 σ hf0
    exact (itr_0 hf0).elim
  | succ n ih =>
    intro w2 σ hf0 H locs ls hw hl K1 K2
    obtain ⟨r0, hf, hr1, hr2⟩ := itr_s hf0
    have hf : b_X2_readE_15 rec u1 w2 σ = some r0 := hf
    unfold b_X2_readE_15 at hf
    refine lv_iload_n X.1 X.2.1 dX2_readE_15 rfl (lv_at hl 2 rfl) ?_
    refine lv_if_le (tgt := 53) X.1 X.2.1 dX2_readE_16 (by decide) (fun c6 => ?_) (fun c6 => ?_)
    · have hf := if_t hf c6
      obtain rfl := Option.some.inj hf
      obtain rfl := hr2 _ rfl
      exact K1 _ _ rfl _ _ _ hw (lv_sub hl [0, 1, 2] rfl)
    · have hf := if_e hf c6
      refine lv_aload_n X.1 X.2.1 dX2_readE_19 rfl (lv_at hl 0 rfl) ?_
      refine lv_bipush (v := 9) X.1 X.2.1 dX2_readE_20 (by decide) ?_
      obtain ⟨r8, σ9, h7, hf⟩ := b_bd2 hf
      refine r_callV X hw (k_X2_pass hR  h7) (sp1 hR) (C := RX2) (T := TX2) (N := 8) rfl qw267 qw269 qw7 qw69 qw270 okX2_pass ⟨rfl, rfl⟩ ⟨(Nat.le_trans (m := 40) (Nat.le_of_ble_eq_true rfl) (Nat.le_add_left _ _)), (Nat.le_trans (m := 4000) (Nat.le_of_ble_eq_true rfl) (Nat.le_add_left _ _))⟩ ⟨Nat.zero_le _, Nat.zero_le _⟩ rfl hl.1 (rest := []) rfl (Nat.le_of_ble_eq_true rfl) dX2_readE_22 (st1 := [.int r8]) rfl (fun H locs hw => ?_)
      refine lv_if_eq (tgt := 53) X.1 X.2.1 dX2_readE_25 (by decide) (fun c10 => ?_) (fun c10 => ?_)
      · have hf := if_t hf c10
        obtain rfl := Option.some.inj hf
        obtain rfl := hr2 _ rfl
        exact K1 _ _ rfl _ _ _ hw (lv_sub hl [0, 1, 2] rfl)
      · have hf := if_e hf c10
        refine lv_aload_n X.1 X.2.1 dX2_readE_28 rfl (lv_at hl 0 rfl) ?_
        refine lv_iload_n X.1 X.2.1 dX2_readE_29 rfl (lv_at hl 1 rfl) ?_
        obtain ⟨r12, σ13, h11, hf⟩ := b_bd2 hf
        refine r_callV X hw (ih_X2_readAnd  h11) (sp1 hR) (C := RX2) (T := TX2) (N := 8) rfl qw279 qw281 qw10 qw69 qw282 okX2_readAnd ⟨rfl, rfl⟩ (rm_read_ok n0 (by decide)) ⟨Nat.zero_le _, Nat.zero_le _⟩ rfl hl.1 (rest := []) rfl (Nat.le_of_ble_eq_true rfl) dX2_readE_30 (st1 := [.int r12]) rfl (fun H locs hw => ?_)
        refine lv_if_ne (tgt := 38) X.1 X.2.1 dX2_readE_33 (by decide) (fun c14 => ?_) (fun c14 => ?_)
        · have hf := if_e hf c14
          refine lv_aload_n X.1 X.2.1 dX2_readE_38 rfl (lv_at hl 0 rfl) ?_
          obtain ⟨h15, h16, hf⟩ := b_cT hf
          refine r_get X hw (sp1 hR) (C := RX2) (T := TX2) (N := 8) rfl iwX2 7 (by decide) (Nat.le_of_ble_eq_true rfl) qw105 (v := .ref (eP E ((σ13 1 7).toNatClampNeg))) (fv_dyn h16) dX2_readE_39 ?_
          refine lv_bipush (v := 9) X.1 X.2.1 dX2_readE_42 (by decide) ?_
          obtain ⟨σ18, h17, hf⟩ := b_bd1 hf
          refine r_callV X hw (k_X5_addStep hR h15 h17) (spT0 hR h15) (C := RX5) (T := TX5) (N := 3) rfl qw287 qw288 qw289 qw71 qw290 okX5_addStep ⟨rfl, rfl⟩ ⟨(Nat.le_trans (m := 40) (Nat.le_of_ble_eq_true rfl) (Nat.le_add_left _ _)), (Nat.le_trans (m := 4000) (Nat.le_of_ble_eq_true rfl) (Nat.le_add_left _ _))⟩ ⟨Nat.zero_le _, Nat.zero_le _⟩ rfl hl.1 (rest := []) rfl (Nat.le_of_ble_eq_true rfl) dX2_readE_44 (st1 := []) rfl (fun H locs hw => ?_)
          obtain ⟨v19, e20, hf⟩ := b_bnd hf
          refine lv_iinc (v := v19) (k := 2) (lv' := [(2, .int v19), (0, .ref (eP E 1)), (1, .int u1)]) X.1 X.2.1 dX2_readE_47 hl rfl (by rw [e20]; exact congrArg _ (by decide)) (by decide) rfl (fun ls hl => ?_)
          refine lv_goto (tgt := 15) X.1 X.2.1 dX2_readE_50 (by decide) ?_
          obtain rfl := Option.some.inj hf
          exact ih _ _ (hr1 _ rfl) _ _ _ hw (lv_sub hl [1, 2, 0] rfl) K1 K2
        · have hf := if_t hf c14
          refine lv_iconst (v := 0) X.1 X.2.1 dX2_readE_36 (by decide) ?_
          obtain rfl := Option.some.inj hf
          obtain rfl := hr2 _ rfl
          rw [K2 _ _ rfl]
          exact r_zret X hw (by decide) dX2_readE_37
