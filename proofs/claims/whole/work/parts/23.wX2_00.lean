abbrev rm_X2_add : Room := { frames := 0, cells := 0, slots := 0, locals := 0 }
set_option maxHeartbeats 4000000 in
set_option maxRecDepth 100000 in
theorem k_X2_add {l : Launch} {E : en_T} (hR : ShR E) {x1 : Int32} {σ : sg_T} {r : Int32} {σ' : sg_T} (hf : f_X2_add x1 σ = some (r, σ')) : Ct l yX2_add cX2_add 2 (some .boolean) rm_X2_add E [.ref (eP E 1), .int x1] σ (some (.int r)) σ' := by
  refine Ct.start (by decide) hR.1 (Nat.le_of_ble_eq_true rfl) ?_
  intro p e s m below meth c X hw ls hl
  have X : Cx E p s m _ meth c cX2_add 2 RX2 (some .boolean) := X
  have hl : lv_has ls 2 [(0, .ref (eP E 1)), (1, .int x1)] := hl
  unfold f_X2_add at hf
  refine lv_aload_n X.1 X.2.1 dX2_add_0 rfl (lv_at hl 0 rfl) ?_
  refine r_get X hw (sp1 hR) (C := RX2) (T := TX2) (N := 8) rfl iwX2 1 (by decide) (Nat.le_of_ble_eq_true rfl) qw98 (v := .int (σ 1 1)) rfl dX2_add_1 ?_
  refine lv_sipush (v := 160) X.1 X.2.1 dX2_add_4 (by decide) ?_
  refine lv_icmp_lt (tgt := 12) X.1 X.2.1 dX2_add_7 (by decide) (fun c1 => ?_) (fun c1 => ?_)
  · have hf := if_t hf c1
    refine lv_aload_n X.1 X.2.1 dX2_add_12 rfl (lv_at hl 0 rfl) ?_
    refine r_get X hw (sp1 hR) (C := RX2) (T := TX2) (N := 8) rfl iwX2 0 (by decide) (Nat.le_of_ble_eq_true rfl) qw97 (v := .ref (eP E 2)) rfl dX2_add_13 ?_
    refine lv_aload_n X.1 X.2.1 dX2_add_16 rfl (lv_at hl 0 rfl) ?_
    refine r_get X hw (sp1 hR) (C := RX2) (T := TX2) (N := 8) rfl iwX2 1 (by decide) (Nat.le_of_ble_eq_true rfl) qw98 (v := .int (σ 1 1)) rfl dX2_add_17 ?_
    refine lv_iload_n X.1 X.2.1 dX2_add_20 rfl (lv_at hl 1 rfl) ?_
    obtain ⟨h2, hf⟩ := b_ck hf
    refine r_iast X hw (sp2 hR) h2 dX2_add_21 (fun H locs hw => ?_)
    obtain ⟨σ3, e4, hf⟩ := b_bnd hf
    rw [← e4] at hw
    refine lv_aload_n X.1 X.2.1 dX2_add_22 rfl (lv_at hl 0 rfl) ?_
    refine lv_dup X.1 X.2.1 dX2_add_23 rfl ?_
    refine r_get X hw (sp1 hR) (C := RX2) (T := TX2) (N := 8) rfl iwX2 1 (by decide) (Nat.le_of_ble_eq_true rfl) qw98 (v := .int (σ3 1 1)) rfl dX2_add_24 ?_
    refine lv_iconst (v := 1) X.1 X.2.1 dX2_add_27 (by decide) ?_
    refine lv_iadd X.1 X.2.1 dX2_add_28 ?_
    refine r_put X hw (sp1 hR) (C := RX2) (T := TX2) (N := 8) rfl iwX2 tyX2 tyX2_ok nmX2 1 (by decide) (Nat.le_of_ble_eq_true rfl) qw98 rfl (v := .int ((σ3 1 1) + 1)) rfl rfl (x := ((σ3 1 1) + 1)) rfl dX2_add_29 (fun H locs hw => ?_)
    obtain ⟨σ5, e6, hf⟩ := b_bnd hf
    rw [← e6] at hw
    refine lv_iconst (v := 1) X.1 X.2.1 dX2_add_32 (by decide) ?_
    obtain ⟨rfl, rfl⟩ := Prod.mk.inj (Option.some.inj hf)
    exact r_zret X hw (by decide) dX2_add_33
  · have hf := if_e hf c1
    refine lv_iconst (v := 0) X.1 X.2.1 dX2_add_10 (by decide) ?_
    obtain ⟨rfl, rfl⟩ := Prod.mk.inj (Option.some.inj hf)
    exact r_zret X hw (by decide) dX2_add_11
abbrev rm_X2_addAll : Room := { frames := 4, cells := 0, slots := 0, locals := 400 }
set_option maxHeartbeats 4000000 in
set_option maxRecDepth 100000 in
theorem w_X2_addAll_2 {p : Program} {l : Launch} {e : Env} {s : State} {m : MethodId} {args : Array Value} {below : List Frame} {meth : Method} {c : Code} {Q : State → Prop} {E : en_T} (X : Cx E p s m args meth c cX2_addAll 3 RX2 none) (hR : ShR E)   {res : Int32 × sg_T} :
    ∀ (n : Nat) (w2 : Int32) (σ : sg_T), itr (fun q => b_X2_addAll_2  q.1 q.2) n (w2, σ) = some res → ∀ (H : Heap) (locs : List Loc) (ls : Array Slot), Hw E σ s H locs → lv_has ls 3 [(0, .ref (eP E 1)), (1, .ref (eS E 2)), (2, .int w2)] →
    (∀ (y2 : Int32) (τ : sg_T), res = (y2, τ) → ∀ (H : Heap) (locs : List Loc) (ls : Array Slot), Hw E τ s H locs → lv_has ls 3 [(0, .ref (eP E 1)), (1, .ref (eS E 2)), (2, .int y2)] → W p l e rm_X2_addAll s m args below meth c H locs 0 0 Q (F0 m 26 ls [])) →
    W p l e rm_X2_addAll s m args below meth c H locs 0 0 Q (F0 m 2 ls []) := by
  intro n
  induction n with
  | zero =>
    intro w2 σ hf0
    exact (itr_0 hf0).elim
  | succ n ih =>
    intro w2 σ hf0 H locs ls hw hl K1
    obtain ⟨r0, hf, hr1, hr2⟩ := itr_s hf0
    have hf : b_X2_addAll_2  w2 σ = some r0 := hf
    unfold b_X2_addAll_2 at hf
    refine lv_iload_n X.1 X.2.1 dX2_addAll_2 rfl (lv_at hl 2 rfl) ?_
    refine lv_aload_n X.1 X.2.1 dX2_addAll_3 rfl (lv_at hl 1 rfl) ?_
    refine r_callT X hw (i := 0) (by decide) (k_J_len hR (by decide)) qw164 qw165 qw166 qw71 qw167 ok_len ⟨rfl, rfl⟩ ⟨(Nat.le_of_ble_eq_true rfl), (Nat.le_of_ble_eq_true rfl)⟩ ⟨Nat.zero_le _, Nat.zero_le _⟩ rfl hl.1 (rest := [.int w2]) rfl (Nat.le_of_ble_eq_true rfl) dX2_addAll_4 (st1 := [.int 35, .int w2]) rfl (fun H locs hw => ?_)
    refine lv_icmp_ge (tgt := 26) X.1 X.2.1 dX2_addAll_7 (by decide) (fun c1 => ?_) (fun c1 => ?_)
    · have hf := if_t hf c1
      obtain rfl := Option.some.inj hf
      obtain rfl := hr2 _ rfl
      exact K1 _ _ rfl _ _ _ hw (lv_sub hl [0, 1, 2] rfl)
    · have hf := if_e hf c1
      refine lv_aload_n X.1 X.2.1 dX2_addAll_10 rfl (lv_at hl 0 rfl) ?_
      refine lv_aload_n X.1 X.2.1 dX2_addAll_11 rfl (lv_at hl 1 rfl) ?_
      refine lv_iload_n X.1 X.2.1 dX2_addAll_12 rfl (lv_at hl 2 rfl) ?_
      obtain ⟨h2, hf⟩ := b_ck hf
      refine r_callT X hw (i := 0) (by decide) (k_J_charAt hR (by decide) h2) qw174 qw175 qw176 qw71 qw177 ok_charAt ⟨rfl, rfl⟩ ⟨(Nat.le_of_ble_eq_true rfl), (Nat.le_of_ble_eq_true rfl)⟩ ⟨Nat.zero_le _, Nat.zero_le _⟩ rfl hl.1 (rest := [.ref (eP E 1)]) rfl (Nat.le_of_ble_eq_true rfl) dX2_addAll_13 (st1 := [.int (tchN 0 w2.toNatClampNeg), .ref (eP E 1)]) rfl (fun H locs hw => ?_)
      obtain ⟨r4, σ5, h3, hf⟩ := b_bd2 hf
      refine r_callV X hw (k_X2_add hR  h3) (sp1 hR) (C := RX2) (T := TX2) (N := 8) rfl qw212 qw213 qw214 qw68 qw215 okX2_add ⟨rfl, rfl⟩ ⟨(Nat.le_of_ble_eq_true rfl), (Nat.le_of_ble_eq_true rfl)⟩ ⟨Nat.zero_le _, Nat.zero_le _⟩ rfl hl.1 (rest := []) rfl (Nat.le_of_ble_eq_true rfl) dX2_addAll_16 (st1 := [.int r4]) rfl (fun H locs hw => ?_)
      refine lv_pop X.1 X.2.1 dX2_addAll_19 rfl ?_
      obtain ⟨v6, e7, hf⟩ := b_bnd hf
      refine lv_iinc (v := v6) (k := 2) (lv' := [(2, .int v6), (0, .ref (eP E 1)), (1, .ref (eS E 2))]) X.1 X.2.1 dX2_addAll_20 hl rfl (by rw [e7]; exact congrArg _ (by decide)) (by decide) rfl (fun ls hl => ?_)
      refine lv_goto (tgt := 2) X.1 X.2.1 dX2_addAll_23 (by decide) ?_
      obtain rfl := Option.some.inj hf
      exact ih _ _ (hr1 _ rfl) _ _ _ hw (lv_sub hl [1, 2, 0] rfl) K1
set_option maxHeartbeats 4000000 in
set_option maxRecDepth 100000 in
theorem k_X2_addAll {l : Launch} {E : en_T} (hR : ShR E)  {σ : sg_T}  {σ' : sg_T} (hf : f_X2_addAll  σ = some σ') : Ct l yX2_addAll cX2_addAll 3 none rm_X2_addAll E [.ref (eP E 1), .ref (eS E 2)] σ none σ' := by
  refine Ct.start (by decide) hR.1 (Nat.le_of_ble_eq_true rfl) ?_
  intro p e s m below meth c X hw ls hl
  have X : Cx E p s m _ meth c cX2_addAll 3 RX2 none := X
  have hl : lv_has ls 3 [(0, .ref (eP E 1)), (1, .ref (eS E 2))] := hl
  unfold f_X2_addAll at hf
  refine lv_iconst (v := 0) X.1 X.2.1 dX2_addAll_0 (by decide) ?_
  refine lv_istore_n (lv' := [(2, .int 0), (0, .ref (eP E 1)), (1, .ref (eS E 2))]) X.1 X.2.1 dX2_addAll_1 rfl hl (by decide) rfl (fun ls hl => ?_)
  obtain ⟨v9, σ10, h8, hf⟩ := b_bd2 hf
  refine w_X2_addAll_2 X hR  lfu _ _ h8 _ _ _ hw (lv_sub hl [1, 2, 0] rfl) (fun yv9 yσ10 hq H locs ls hw hl => ?_)
  cases hq
  obtain rfl := Option.some.inj hf
  exact r_vret X hw dX2_addAll_26
abbrev rm_X2_isLetter : Room := { frames := 0, cells := 0, slots := 0, locals := 0 }
set_option maxHeartbeats 4000000 in
set_option maxRecDepth 100000 in
theorem k_X2_isLetter {l : Launch} {E : en_T} (hR : ShR E) {x1 : Int32} {σ : sg_T} {r : Int32} (hf : f_X2_isLetter x1 σ = some r) : Ct l yX2_isLetter cX2_isLetter 1 (some .boolean) rm_X2_isLetter E [.int x1] σ (some (.int r)) σ := by
  refine Ct.start (by decide) hR.1 (Nat.le_of_ble_eq_true rfl) ?_
  intro p e s m below meth c X hw ls hl
  have X : Cx E p s m _ meth c cX2_isLetter 1 RX2 (some .boolean) := X
  have hl : lv_has ls 1 [(0, .int x1)] := hl
  unfold f_X2_isLetter at hf
  refine lv_iload_n X.1 X.2.1 dX2_isLetter_0 rfl (lv_at hl 0 rfl) ?_
  refine lv_bipush (v := 97) X.1 X.2.1 dX2_isLetter_1 (by decide) ?_
  refine lv_icmp_lt (tgt := 16) X.1 X.2.1 dX2_isLetter_3 (by decide) (fun c1 => ?_) (fun c1 => ?_)
  · have hf := if_t hf c1
    refine lv_iconst (v := 0) X.1 X.2.1 dX2_isLetter_16 (by decide) ?_
    obtain rfl := Option.some.inj hf
    exact r_zret X hw (by decide) dX2_isLetter_17
  · have hf := if_e hf c1
    refine lv_iload_n X.1 X.2.1 dX2_isLetter_6 rfl (lv_at hl 0 rfl) ?_
    refine lv_bipush (v := 122) X.1 X.2.1 dX2_isLetter_7 (by decide) ?_
    obtain ⟨v3, e4, hf⟩ := b_bnd hf
    refine r_join (g2 := F0 m 17 ls [.int v3]) ?_ (fun hj => ?_)
    · obtain ⟨h5, hf⟩ := b_cz hf
      obtain rfl := Option.some.inj hf
      exact r_zret X hw (cz_and h5) dX2_isLetter_17
    · refine lv_icmp_gt (tgt := 16) X.1 X.2.1 dX2_isLetter_9 (by decide) (fun c2 => ?_) (fun c2 => ?_)
      · rw [e4, if_pos c2] at hj
        refine lv_iconst (v := 0) X.1 X.2.1 dX2_isLetter_16 (by decide) ?_
        exact hj
      · rw [e4, if_neg c2] at hj
        refine lv_iconst (v := 1) X.1 X.2.1 dX2_isLetter_12 (by decide) ?_
        refine lv_goto (tgt := 17) X.1 X.2.1 dX2_isLetter_13 (by decide) ?_
        exact hj
abbrev rm_X2_spells : Room := { frames := 4, cells := 0, slots := 0, locals := 400 }
set_option maxHeartbeats 4000000 in
set_option maxRecDepth 100000 in
theorem w_X2_spells_3 {p : Program} {l : Launch} {e : Env} {s : State} {m : MethodId} {args : Array Value} {below : List Frame} {meth : Method} {c : Code} {Q : State → Prop} {E : en_T} (X : Cx E p s m args meth c cX2_spells 6 RX2 (some .boolean)) (hR : ShR E) {u1 : Int32} {u2 : Int32} {u3 : Int32} {σ : sg_T} {res : (Int32) ⊕ (Int32)} :
    ∀ (n : Nat) (w4 : Int32), itr (fun q => b_X2_spells_3 u1 u2 u3 q σ) n w4 = some res → ∀ (H : Heap) (locs : List Loc) (ls : Array Slot), Hw E σ s H locs → lv_has ls 6 [(0, .ref (eP E 1)), (1, .int u1), (2, .int u2), (3, .int u3), (4, .int w4)] →
    (∀ (y4 : Int32), res = .inl y4 → ∀ (H : Heap) (locs : List Loc) (ls : Array Slot), Hw E σ s H locs → lv_has ls 6 [(0, .ref (eP E 1)), (1, .int u1), (2, .int u2), (3, .int u3), (4, .int y4)] → W p l e rm_X2_spells s m args below meth c H locs 0 0 Q (F0 m 59 ls [])) →
    (∀ (r : Int32), res = .inr r → Q = MQ below (Qf E (some (.int r)) σ) args s 0 0 (en_A E)) →
    W p l e rm_X2_spells s m args below meth c H locs 0 0 Q (F0 m 3 ls []) := by
  intro n
  induction n with
  | zero =>
    intro w4 hf0
    exact (itr_0 hf0).elim
  | succ n ih =>
    intro w4 hf0 H locs ls hw hl K1 K2
    obtain ⟨r0, hf, hr1, hr2⟩ := itr_s hf0
    have hf : b_X2_spells_3 u1 u2 u3 w4 σ = some r0 := hf
    unfold b_X2_spells_3 at hf
    refine lv_iload X.1 X.2.1 dX2_spells_3 (lv_at hl 4 rfl) ?_
    refine lv_bipush (v := 7) X.1 X.2.1 dX2_spells_5 (by decide) ?_
    refine lv_icmp_ge (tgt := 59) X.1 X.2.1 dX2_spells_7 (by decide) (fun c1 => ?_) (fun c1 => ?_)
    · have hf := if_t hf c1
      obtain rfl := Option.some.inj hf
      obtain rfl := hr2 _ rfl
      exact K1 _ rfl _ _ _ hw (lv_sub hl [0, 1, 2, 3, 4] rfl)
    · have hf := if_e hf c1
      refine lv_iload_n X.1 X.2.1 dX2_spells_10 rfl (lv_at hl 2 rfl) ?_
      refine lv_iload X.1 X.2.1 dX2_spells_11 (lv_at hl 4 rfl) ?_
      refine lv_iadd X.1 X.2.1 dX2_spells_13 ?_
      refine lv_iload_n X.1 X.2.1 dX2_spells_14 rfl (lv_at hl 3 rfl) ?_
      refine lv_icmp_ge (tgt := 30) X.1 X.2.1 dX2_spells_15 (by decide) (fun c2 => ?_) (fun c2 => ?_)
      · have hf := if_t hf c2
        refine lv_bipush (v := 32) X.1 X.2.1 dX2_spells_30 (by decide) ?_
        refine lv_istore (lv' := [(5, .int 32), (0, .ref (eP E 1)), (1, .int u1), (2, .int u2), (3, .int u3), (4, .int w4)]) X.1 X.2.1 dX2_spells_32 hl (by decide) rfl (fun ls hl => ?_)
        refine lv_iload X.1 X.2.1 dX2_spells_34 (lv_at hl 0 rfl) ?_
        refine r_ldcb X dX2_spells_36 ?_
        refine lv_iload_n X.1 X.2.1 dX2_spells_38 rfl (lv_at hl 2 rfl) ?_
        refine lv_bipush (v := 7) X.1 X.2.1 dX2_spells_39 (by decide) ?_
        refine lv_imul X.1 X.2.1 dX2_spells_41 ?_
        refine lv_iload X.1 X.2.1 dX2_spells_42 (lv_at hl 5 rfl) ?_
        refine lv_iadd X.1 X.2.1 dX2_spells_44 ?_
        obtain ⟨h3, hf⟩ := b_ck hf
        refine r_callT X hw (i := 1) (by decide) (k_J_charAt hR (by decide) h3) qw174 qw175 qw176 qw71 qw177 ok_charAt ⟨rfl, rfl⟩ ⟨(Nat.le_of_ble_eq_true rfl), (Nat.le_of_ble_eq_true rfl)⟩ ⟨Nat.zero_le _, Nat.zero_le _⟩ rfl hl.1 (rest := [.int 32]) rfl (Nat.le_of_ble_eq_true rfl) dX2_spells_45 (st1 := [.int (tchN 1 ((u1 * 7) + w4).toNatClampNeg), .int 32]) rfl (fun H locs hw => ?_)
        refine lv_icmp_eq (tgt := 53) X.1 X.2.1 dX2_spells_48 (by decide) (fun c4 => ?_) (fun c4 => ?_)
        · have hf := if_t hf c4
          obtain ⟨v5, e6, hf⟩ := b_bnd hf
          refine lv_iinc (v := v5) (k := 5) (lv' := [(4, .int v5), (5, .int 32), (0, .ref (eP E 1)), (1, .int u1), (2, .int u2), (3, .int u3)]) X.1 X.2.1 dX2_spells_53 hl rfl (by rw [e6]; exact congrArg _ (by decide)) (by decide) rfl (fun ls hl => ?_)
          refine lv_goto (tgt := 3) X.1 X.2.1 dX2_spells_56 (by decide) ?_
          obtain rfl := Option.some.inj hf
          exact ih _ (hr1 _ rfl) _ _ _ hw (lv_sub hl [2, 3, 4, 5, 0] rfl) K1 K2
        · have hf := if_e hf c4
          refine lv_iconst (v := 0) X.1 X.2.1 dX2_spells_51 (by decide) ?_
          obtain rfl := Option.some.inj hf
          obtain rfl := hr2 _ rfl
          rw [K2 _ rfl]
          exact r_zret X hw (by decide) dX2_spells_52
      · have hf := if_e hf c2
        refine lv_aload_n X.1 X.2.1 dX2_spells_18 rfl (lv_at hl 0 rfl) ?_
        refine r_get X hw (sp1 hR) (C := RX2) (T := TX2) (N := 8) rfl iwX2 0 (by decide) (Nat.le_of_ble_eq_true rfl) qw97 (v := .ref (eP E 2)) rfl dX2_spells_19 ?_
        refine lv_iload_n X.1 X.2.1 dX2_spells_22 rfl (lv_at hl 2 rfl) ?_
        refine lv_iload X.1 X.2.1 dX2_spells_23 (lv_at hl 4 rfl) ?_
        refine lv_iadd X.1 X.2.1 dX2_spells_25 ?_
        obtain ⟨h7, hf⟩ := b_ck hf
        refine r_iald X hw (sp2 hR) h7 dX2_spells_26 ?_
        refine lv_goto (tgt := 32) X.1 X.2.1 dX2_spells_27 (by decide) ?_
        refine r_bnd hf (fun v8 hf => ?_)
        refine lv_istore (lv' := [(5, .int v8), (0, .ref (eP E 1)), (1, .int u1), (2, .int u2), (3, .int u3), (4, .int w4)]) X.1 X.2.1 dX2_spells_32 hl (by decide) rfl (fun ls hl => ?_)
        refine lv_iload X.1 X.2.1 dX2_spells_34 (lv_at hl 0 rfl) ?_
        refine r_ldcb X dX2_spells_36 ?_
        refine lv_iload_n X.1 X.2.1 dX2_spells_38 rfl (lv_at hl 2 rfl) ?_
        refine lv_bipush (v := 7) X.1 X.2.1 dX2_spells_39 (by decide) ?_
        refine lv_imul X.1 X.2.1 dX2_spells_41 ?_
        refine lv_iload X.1 X.2.1 dX2_spells_42 (lv_at hl 5 rfl) ?_
        refine lv_iadd X.1 X.2.1 dX2_spells_44 ?_
        obtain ⟨h9, hf⟩ := b_ck hf
        refine r_callT X hw (i := 1) (by decide) (k_J_charAt hR (by decide) h9) qw174 qw175 qw176 qw71 qw177 ok_charAt ⟨rfl, rfl⟩ ⟨(Nat.le_of_ble_eq_true rfl), (Nat.le_of_ble_eq_true rfl)⟩ ⟨Nat.zero_le _, Nat.zero_le _⟩ rfl hl.1 (rest := [.int v8]) rfl (Nat.le_of_ble_eq_true rfl) dX2_spells_45 (st1 := [.int (tchN 1 ((u1 * 7) + w4).toNatClampNeg), .int v8]) rfl (fun H locs hw => ?_)
        refine lv_icmp_eq (tgt := 53) X.1 X.2.1 dX2_spells_48 (by decide) (fun c10 => ?_) (fun c10 => ?_)
        · have hf := if_t hf c10
          obtain ⟨v11, e12, hf⟩ := b_bnd hf
          refine lv_iinc (v := v11) (k := 5) (lv' := [(4, .int v11), (5, .int v8), (0, .ref (eP E 1)), (1, .int u1), (2, .int u2), (3, .int u3)]) X.1 X.2.1 dX2_spells_53 hl rfl (by rw [e12]; exact congrArg _ (by decide)) (by decide) rfl (fun ls hl => ?_)
          refine lv_goto (tgt := 3) X.1 X.2.1 dX2_spells_56 (by decide) ?_
          obtain rfl := Option.some.inj hf
          exact ih _ (hr1 _ rfl) _ _ _ hw (lv_sub hl [2, 3, 4, 5, 0] rfl) K1 K2
        · have hf := if_e hf c10
          refine lv_iconst (v := 0) X.1 X.2.1 dX2_spells_51 (by decide) ?_
          obtain rfl := Option.some.inj hf
          obtain rfl := hr2 _ rfl
          rw [K2 _ rfl]
          exact r_zret X hw (by decide) dX2_spells_52
set_option maxHeartbeats 4000000 in
set_option maxRecDepth 100000 in
theorem k_X2_spells {l : Launch} {E : en_T} (hR : ShR E) {x1 : Int32} {x2 : Int32} {x3 : Int32} {σ : sg_T} {r : Int32} (hf : f_X2_spells x1 x2 x3 σ = some r) : Ct l yX2_spells cX2_spells 6 (some .boolean) rm_X2_spells E [.ref (eP E 1), .int x1, .int x2, .int x3] σ (some (.int r)) σ := by
  refine Ct.start (by decide) hR.1 (Nat.le_of_ble_eq_true rfl) ?_
  intro p e s m below meth c X hw ls hl
  have X : Cx E p s m _ meth c cX2_spells 6 RX2 (some .boolean) := X
  have hl : lv_has ls 6 [(0, .ref (eP E 1)), (1, .int x1), (2, .int x2), (3, .int x3)] := hl
  unfold f_X2_spells at hf
  refine lv_iconst (v := 0) X.1 X.2.1 dX2_spells_0 (by decide) ?_
  refine lv_istore (lv' := [(4, .int 0), (0, .ref (eP E 1)), (1, .int x1), (2, .int x2), (3, .int x3)]) X.1 X.2.1 dX2_spells_1 hl (by decide) rfl (fun ls hl => ?_)
  obtain ⟨r15, h13, hf⟩ := b_bs hf
  rcases hf with ⟨v14, rfl, hf⟩ | ⟨r16, rfl, hf⟩
  · refine w_X2_spells_3 X hR  lfu _ h13 _ _ _ hw (lv_sub hl [1, 2, 3, 4, 0] rfl) (fun yv14 hq H locs ls hw hl => ?_) (fun _ hq => by cases hq)
    cases hq
    refine lv_iconst (v := 1) X.1 X.2.1 dX2_spells_59 (by decide) ?_
    obtain rfl := Option.some.inj hf
    exact r_zret X hw (by decide) dX2_spells_60
  · refine w_X2_spells_3 X hR  lfu _ h13 _ _ _ hw (lv_sub hl [1, 2, 3, 4, 0] rfl) (fun _ hq => by cases hq) (fun _ hq => ?_)
    cases hq
    cases hf
    rfl
abbrev rm_X2_wordAt : Room := { frames := 5, cells := 0, slots := 0, locals := 425 }
set_option maxHeartbeats 4000000 in
set_option maxRecDepth 100000 in
theorem w_X2_wordAt_2 {p : Program} {l : Launch} {e : Env} {s : State} {m : MethodId} {args : Array Value} {below : List Frame} {meth : Method} {c : Code} {Q : State → Prop} {E : en_T} (X : Cx E p s m args meth c cX2_wordAt 4 RX2 (some .int)) (hR : ShR E) {u1 : Int32} {u2 : Int32} {σ : sg_T} {res : (Int32) ⊕ (Int32)} :
    ∀ (n : Nat) (w3 : Int32), itr (fun q => b_X2_wordAt_2 u1 u2 q σ) n w3 = some res → ∀ (H : Heap) (locs : List Loc) (ls : Array Slot), Hw E σ s H locs → lv_has ls 4 [(0, .ref (eP E 1)), (1, .int u1), (2, .int u2), (3, .int w3)] →
    (∀ (y3 : Int32), res = .inl y3 → ∀ (H : Heap) (locs : List Loc) (ls : Array Slot), Hw E σ s H locs → lv_has ls 4 [(0, .ref (eP E 1)), (1, .int u1), (2, .int u2), (3, .int y3)] → W p l e rm_X2_wordAt s m args below meth c H locs 0 0 Q (F0 m 34 ls [])) →
    (∀ (r : Int32), res = .inr r → Q = MQ below (Qf E (some (.int r)) σ) args s 0 0 (en_A E)) →
    W p l e rm_X2_wordAt s m args below meth c H locs 0 0 Q (F0 m 2 ls []) := by
  intro n
  induction n with
  | zero =>
    intro w3 hf0
    exact (itr_0 hf0).elim
  | succ n ih =>
    intro w3 hf0 H locs ls hw hl K1 K2
    obtain ⟨r0, hf, hr1, hr2⟩ := itr_s hf0
    have hf : b_X2_wordAt_2 u1 u2 w3 σ = some r0 := hf
    unfold b_X2_wordAt_2 at hf
    refine lv_iload_n X.1 X.2.1 dX2_wordAt_2 rfl (lv_at hl 3 rfl) ?_
    refine lv_bipush (v := 12) X.1 X.2.1 dX2_wordAt_3 (by decide) ?_
    refine lv_icmp_ge (tgt := 34) X.1 X.2.1 dX2_wordAt_5 (by decide) (fun c1 => ?_) (fun c1 => ?_)
    · have hf := if_t hf c1
      obtain rfl := Option.some.inj hf
      obtain rfl := hr2 _ rfl
      exact K1 _ rfl _ _ _ hw (lv_sub hl [0, 1, 2, 3] rfl)
    · have hf := if_e hf c1
      refine lv_iload_n X.1 X.2.1 dX2_wordAt_8 rfl (lv_at hl 2 rfl) ?_
      refine lv_iload_n X.1 X.2.1 dX2_wordAt_9 rfl (lv_at hl 1 rfl) ?_
      refine lv_isub X.1 X.2.1 dX2_wordAt_10 ?_
      refine lv_bipush (v := 7) X.1 X.2.1 dX2_wordAt_11 (by decide) ?_
      refine lv_icmp_ge (tgt := 28) X.1 X.2.1 dX2_wordAt_13 (by decide) (fun c2 => ?_) (fun c2 => ?_)
      · have hf := if_t hf c2
        obtain ⟨v3, e4, hf⟩ := b_bnd hf
        refine lv_iinc (v := v3) (k := 3) (lv' := [(3, .int v3), (0, .ref (eP E 1)), (1, .int u1), (2, .int u2)]) X.1 X.2.1 dX2_wordAt_28 hl rfl (by rw [e4]; exact congrArg _ (by decide)) (by decide) rfl (fun ls hl => ?_)
        refine lv_goto (tgt := 2) X.1 X.2.1 dX2_wordAt_31 (by decide) ?_
        obtain rfl := Option.some.inj hf
        exact ih _ (hr1 _ rfl) _ _ _ hw (lv_sub hl [1, 2, 3, 0] rfl) K1 K2
      · have hf := if_e hf c2
        refine lv_aload_n X.1 X.2.1 dX2_wordAt_16 rfl (lv_at hl 0 rfl) ?_
        refine lv_iload_n X.1 X.2.1 dX2_wordAt_17 rfl (lv_at hl 3 rfl) ?_
        refine lv_iload_n X.1 X.2.1 dX2_wordAt_18 rfl (lv_at hl 1 rfl) ?_
        refine lv_iload_n X.1 X.2.1 dX2_wordAt_19 rfl (lv_at hl 2 rfl) ?_
        obtain ⟨r6, h5, hf⟩ := b_bd1 hf
        refine r_callV X hw (k_X2_spells hR  h5) (sp1 hR) (C := RX2) (T := TX2) (N := 8) rfl qw239 qw241 qw3 qw68 qw242 okX2_spells ⟨rfl, rfl⟩ ⟨(Nat.le_of_ble_eq_true rfl), (Nat.le_of_ble_eq_true rfl)⟩ ⟨Nat.zero_le _, Nat.zero_le _⟩ rfl hl.1 (rest := []) rfl (Nat.le_of_ble_eq_true rfl) dX2_wordAt_20 (st1 := [.int r6]) rfl (fun H locs hw => ?_)
        refine lv_if_eq (tgt := 28) X.1 X.2.1 dX2_wordAt_23 (by decide) (fun c7 => ?_) (fun c7 => ?_)
        · have hf := if_t hf c7
          obtain ⟨v8, e9, hf⟩ := b_bnd hf
          refine lv_iinc (v := v8) (k := 3) (lv' := [(3, .int v8), (0, .ref (eP E 1)), (1, .int u1), (2, .int u2)]) X.1 X.2.1 dX2_wordAt_28 hl rfl (by rw [e9]; exact congrArg _ (by decide)) (by decide) rfl (fun ls hl => ?_)
          refine lv_goto (tgt := 2) X.1 X.2.1 dX2_wordAt_31 (by decide) ?_
          obtain rfl := Option.some.inj hf
          exact ih _ (hr1 _ rfl) _ _ _ hw (lv_sub hl [1, 2, 3, 0] rfl) K1 K2
        · have hf := if_e hf c7
          refine lv_iload_n X.1 X.2.1 dX2_wordAt_26 rfl (lv_at hl 3 rfl) ?_
          obtain rfl := Option.some.inj hf
          obtain rfl := hr2 _ rfl
          rw [K2 _ rfl]
          exact r_iret X hw dX2_wordAt_27
set_option maxHeartbeats 4000000 in
set_option maxRecDepth 100000 in
theorem k_X2_wordAt {l : Launch} {E : en_T} (hR : ShR E) {x1 : Int32} {x2 : Int32} {σ : sg_T} {r : Int32} (hf : f_X2_wordAt x1 x2 σ = some r) : Ct l yX2_wordAt cX2_wordAt 4 (some .int) rm_X2_wordAt E [.ref (eP E 1), .int x1, .int x2] σ (some (.int r)) σ := by
  refine Ct.start (by decide) hR.1 (Nat.le_of_ble_eq_true rfl) ?_
  intro p e s m below meth c X hw ls hl
  have X : Cx E p s m _ meth c cX2_wordAt 4 RX2 (some .int) := X
  have hl : lv_has ls 4 [(0, .ref (eP E 1)), (1, .int x1), (2, .int x2)] := hl
  unfold f_X2_wordAt at hf
  refine lv_iconst (v := 0) X.1 X.2.1 dX2_wordAt_0 (by decide) ?_
  refine lv_istore_n (lv' := [(3, .int 0), (0, .ref (eP E 1)), (1, .int x1), (2, .int x2)]) X.1 X.2.1 dX2_wordAt_1 rfl hl (by decide) rfl (fun ls hl => ?_)
  obtain ⟨r12, h10, hf⟩ := b_bs hf
  rcases hf with ⟨v11, rfl, hf⟩ | ⟨r13, rfl, hf⟩
  · refine w_X2_wordAt_2 X hR  lfu _ h10 _ _ _ hw (lv_sub hl [1, 2, 3, 0] rfl) (fun yv11 hq H locs ls hw hl => ?_) (fun _ hq => by cases hq)
    cases hq
    refine lv_sipush (v := 302) X.1 X.2.1 dX2_wordAt_34 (by decide) ?_
    obtain rfl := Option.some.inj hf
    exact r_iret X hw dX2_wordAt_37
  · refine w_X2_wordAt_2 X hR  lfu _ h10 _ _ _ hw (lv_sub hl [1, 2, 3, 0] rfl) (fun _ hq => by cases hq) (fun _ hq => ?_)
    cases hq
    cases hf
    rfl
abbrev rm_X2_addToken : Room := { frames := 0, cells := 0, slots := 0, locals := 0 }
set_option maxHeartbeats 4000000 in
set_option maxRecDepth 100000 in
theorem k_X2_addToken {l : Launch} {E : en_T} (hR : ShR E) {x1 : Int32} {x2 : Int32} {x3 : Int32} {σ : sg_T}  {σ' : sg_T} (hf : f_X2_addToken x1 x2 x3 σ = some σ') : Ct l yX2_addToken cX2_addToken 4 none rm_X2_addToken E [.ref (eP E 1), .int x1, .int x2, .int x3] σ none σ' := by
  refine Ct.start (by decide) hR.1 (Nat.le_of_ble_eq_true rfl) ?_
  intro p e s m below meth c X hw ls hl
  have X : Cx E p s m _ meth c cX2_addToken 4 RX2 none := X
  have hl : lv_has ls 4 [(0, .ref (eP E 1)), (1, .int x1), (2, .int x2), (3, .int x3)] := hl
  unfold f_X2_addToken at hf
  refine lv_aload_n X.1 X.2.1 dX2_addToken_0 rfl (lv_at hl 0 rfl) ?_
  refine r_get X hw (sp1 hR) (C := RX2) (T := TX2) (N := 8) rfl iwX2 5 (by decide) (Nat.le_of_ble_eq_true rfl) qw102 (v := .int (σ 1 5)) rfl dX2_addToken_1 ?_
  refine lv_sipush (v := 160) X.1 X.2.1 dX2_addToken_4 (by decide) ?_
  refine lv_icmp_gt (tgt := 50) X.1 X.2.1 dX2_addToken_7 (by decide) (fun c1 => ?_) (fun c1 => ?_)
  · have hf := if_t hf c1
    obtain rfl := Option.some.inj hf
    exact r_vret X hw dX2_addToken_50
  · have hf := if_e hf c1
    refine lv_aload_n X.1 X.2.1 dX2_addToken_10 rfl (lv_at hl 0 rfl) ?_
    refine r_get X hw (sp1 hR) (C := RX2) (T := TX2) (N := 8) rfl iwX2 2 (by decide) (Nat.le_of_ble_eq_true rfl) qw99 (v := .ref (eP E 3)) rfl dX2_addToken_11 ?_
    refine lv_aload_n X.1 X.2.1 dX2_addToken_14 rfl (lv_at hl 0 rfl) ?_
    refine r_get X hw (sp1 hR) (C := RX2) (T := TX2) (N := 8) rfl iwX2 5 (by decide) (Nat.le_of_ble_eq_true rfl) qw102 (v := .int (σ 1 5)) rfl dX2_addToken_15 ?_
    refine lv_iload_n X.1 X.2.1 dX2_addToken_18 rfl (lv_at hl 1 rfl) ?_
    obtain ⟨h2, hf⟩ := b_ck hf
    refine r_iast X hw (sp3 hR) h2 dX2_addToken_19 (fun H locs hw => ?_)
    obtain ⟨σ3, e4, hf⟩ := b_bnd hf
    rw [← e4] at hw
    refine lv_aload_n X.1 X.2.1 dX2_addToken_20 rfl (lv_at hl 0 rfl) ?_
    refine r_get X hw (sp1 hR) (C := RX2) (T := TX2) (N := 8) rfl iwX2 3 (by decide) (Nat.le_of_ble_eq_true rfl) qw100 (v := .ref (eP E 4)) rfl dX2_addToken_21 ?_
    refine lv_aload_n X.1 X.2.1 dX2_addToken_24 rfl (lv_at hl 0 rfl) ?_
    refine r_get X hw (sp1 hR) (C := RX2) (T := TX2) (N := 8) rfl iwX2 5 (by decide) (Nat.le_of_ble_eq_true rfl) qw102 (v := .int (σ3 1 5)) rfl dX2_addToken_25 ?_
    refine lv_iload_n X.1 X.2.1 dX2_addToken_28 rfl (lv_at hl 2 rfl) ?_
    obtain ⟨h5, hf⟩ := b_ck hf
    refine r_iast X hw (sp4 hR) h5 dX2_addToken_29 (fun H locs hw => ?_)
    obtain ⟨σ6, e7, hf⟩ := b_bnd hf
    rw [← e7] at hw
    refine lv_aload_n X.1 X.2.1 dX2_addToken_30 rfl (lv_at hl 0 rfl) ?_
    refine r_get X hw (sp1 hR) (C := RX2) (T := TX2) (N := 8) rfl iwX2 4 (by decide) (Nat.le_of_ble_eq_true rfl) qw101 (v := .ref (eP E 5)) rfl dX2_addToken_31 ?_
    refine lv_aload_n X.1 X.2.1 dX2_addToken_34 rfl (lv_at hl 0 rfl) ?_
    refine r_get X hw (sp1 hR) (C := RX2) (T := TX2) (N := 8) rfl iwX2 5 (by decide) (Nat.le_of_ble_eq_true rfl) qw102 (v := .int (σ6 1 5)) rfl dX2_addToken_35 ?_
    refine lv_iload_n X.1 X.2.1 dX2_addToken_38 rfl (lv_at hl 3 rfl) ?_
    obtain ⟨h8, hf⟩ := b_ck hf
    refine r_iast X hw (sp5 hR) h8 dX2_addToken_39 (fun H locs hw => ?_)
    obtain ⟨σ9, e10, hf⟩ := b_bnd hf
    rw [← e10] at hw
    refine lv_aload_n X.1 X.2.1 dX2_addToken_40 rfl (lv_at hl 0 rfl) ?_
    refine lv_dup X.1 X.2.1 dX2_addToken_41 rfl ?_
    refine r_get X hw (sp1 hR) (C := RX2) (T := TX2) (N := 8) rfl iwX2 5 (by decide) (Nat.le_of_ble_eq_true rfl) qw102 (v := .int (σ9 1 5)) rfl dX2_addToken_42 ?_
    refine lv_iconst (v := 1) X.1 X.2.1 dX2_addToken_45 (by decide) ?_
    refine lv_iadd X.1 X.2.1 dX2_addToken_46 ?_
    refine r_put X hw (sp1 hR) (C := RX2) (T := TX2) (N := 8) rfl iwX2 tyX2 tyX2_ok nmX2 5 (by decide) (Nat.le_of_ble_eq_true rfl) qw102 rfl (v := .int ((σ9 1 5) + 1)) rfl rfl (x := ((σ9 1 5) + 1)) rfl dX2_addToken_47 (fun H locs hw => ?_)
    obtain ⟨σ11, e12, hf⟩ := b_bnd hf
    rw [← e12] at hw
    obtain rfl := Option.some.inj hf
    exact r_vret X hw dX2_addToken_50
abbrev rm_X2_isDigit : Room := { frames := 0, cells := 0, slots := 0, locals := 0 }
set_option maxHeartbeats 4000000 in
set_option maxRecDepth 100000 in
theorem k_X2_isDigit {l : Launch} {E : en_T} (hR : ShR E) {x1 : Int32} {σ : sg_T} {r : Int32} (hf : f_X2_isDigit x1 σ = some r) : Ct l yX2_isDigit cX2_isDigit 1 (some .boolean) rm_X2_isDigit E [.int x1] σ (some (.int r)) σ := by
  refine Ct.start (by decide) hR.1 (Nat.le_of_ble_eq_true rfl) ?_
  intro p e s m below meth c X hw ls hl
  have X : Cx E p s m _ meth c cX2_isDigit 1 RX2 (some .boolean) := X
  have hl : lv_has ls 1 [(0, .int x1)] := hl
  unfold f_X2_isDigit at hf
  refine lv_iload_n X.1 X.2.1 dX2_isDigit_0 rfl (lv_at hl 0 rfl) ?_
  refine lv_bipush (v := 48) X.1 X.2.1 dX2_isDigit_1 (by decide) ?_
  refine lv_icmp_lt (tgt := 16) X.1 X.2.1 dX2_isDigit_3 (by decide) (fun c1 => ?_) (fun c1 => ?_)
  · have hf := if_t hf c1
    refine lv_iconst (v := 0) X.1 X.2.1 dX2_isDigit_16 (by decide) ?_
    obtain rfl := Option.some.inj hf
    exact r_zret X hw (by decide) dX2_isDigit_17
  · have hf := if_e hf c1
    refine lv_iload_n X.1 X.2.1 dX2_isDigit_6 rfl (lv_at hl 0 rfl) ?_
    refine lv_bipush (v := 57) X.1 X.2.1 dX2_isDigit_7 (by decide) ?_
    obtain ⟨v3, e4, hf⟩ := b_bnd hf
    refine r_join (g2 := F0 m 17 ls [.int v3]) ?_ (fun hj => ?_)
    · obtain ⟨h5, hf⟩ := b_cz hf
      obtain rfl := Option.some.inj hf
      exact r_zret X hw (cz_and h5) dX2_isDigit_17
    · refine lv_icmp_gt (tgt := 16) X.1 X.2.1 dX2_isDigit_9 (by decide) (fun c2 => ?_) (fun c2 => ?_)
      · rw [e4, if_pos c2] at hj
        refine lv_iconst (v := 0) X.1 X.2.1 dX2_isDigit_16 (by decide) ?_
        exact hj
      · rw [e4, if_neg c2] at hj
        refine lv_iconst (v := 1) X.1 X.2.1 dX2_isDigit_12 (by decide) ?_
        refine lv_goto (tgt := 17) X.1 X.2.1 dX2_isDigit_13 (by decide) ?_
        exact hj
abbrev rm_X2_addNumber : Room := { frames := 1, cells := 0, slots := 0, locals := 100 }
set_option maxHeartbeats 4000000 in
set_option maxRecDepth 100000 in
theorem w_X2_addNumber_22 {p : Program} {l : Launch} {e : Env} {s : State} {m : MethodId} {args : Array Value} {below : List Frame} {meth : Method} {c : Code} {Q : State → Prop} {E : en_T} (X : Cx E p s m args meth c cX2_addNumber 5 RX2 none) (hR : ShR E) {u1 : Int32} {u2 : Int32} {σ : sg_T} {res : Int32 × Int32} :
    ∀ (n : Nat) (w3 : Int32) (w4 : Int32), itr (fun q => b_X2_addNumber_22 u1 u2 q.1 q.2 σ) n (w3, w4) = some res → ∀ (H : Heap) (locs : List Loc) (ls : Array Slot), Hw E σ s H locs → lv_has ls 5 [(0, .ref (eP E 1)), (1, .int u1), (2, .int u2), (3, .int w3), (4, .int w4)] →
    (∀ (y3 : Int32) (y4 : Int32), res = (y3, y4) → ∀ (H : Heap) (locs : List Loc) (ls : Array Slot), Hw E σ s H locs → lv_has ls 5 [(0, .ref (eP E 1)), (1, .int u1), (2, .int u2), (3, .int y3), (4, .int y4)] → W p l e rm_X2_addNumber s m args below meth c H locs 0 0 Q (F0 m 50 ls [])) →
    W p l e rm_X2_addNumber s m args below meth c H locs 0 0 Q (F0 m 22 ls []) := by
  intro n
  induction n with
  | zero =>
    intro w3 w4 hf0
    exact (itr_0 hf0).elim
  | succ n ih =>
    intro w3 w4 hf0 H locs ls hw hl K1
    obtain ⟨r0, hf, hr1, hr2⟩ := itr_s hf0
    have hf : b_X2_addNumber_22 u1 u2 w3 w4 σ = some r0 := hf
    unfold b_X2_addNumber_22 at hf
    refine lv_iload X.1 X.2.1 dX2_addNumber_22 (lv_at hl 4 rfl) ?_
    refine lv_iload_n X.1 X.2.1 dX2_addNumber_24 rfl (lv_at hl 2 rfl) ?_
    refine lv_icmp_ge (tgt := 50) X.1 X.2.1 dX2_addNumber_25 (by decide) (fun c2 => ?_) (fun c2 => ?_)
    · have hf := if_t hf c2
      obtain rfl := Option.some.inj hf
      obtain rfl := hr2 _ rfl
      exact K1 _ _ rfl _ _ _ hw (lv_sub hl [0, 1, 2, 3, 4] rfl)
    · have hf := if_e hf c2
      refine lv_iload_n X.1 X.2.1 dX2_addNumber_28 rfl (lv_at hl 3 rfl) ?_
      refine lv_bipush (v := 10) X.1 X.2.1 dX2_addNumber_29 (by decide) ?_
      refine lv_imul X.1 X.2.1 dX2_addNumber_31 ?_
      refine lv_aload_n X.1 X.2.1 dX2_addNumber_32 rfl (lv_at hl 0 rfl) ?_
      refine r_get X hw (sp1 hR) (C := RX2) (T := TX2) (N := 8) rfl iwX2 0 (by decide) (Nat.le_of_ble_eq_true rfl) qw97 (v := .ref (eP E 2)) rfl dX2_addNumber_33 ?_
      refine lv_iload X.1 X.2.1 dX2_addNumber_36 (lv_at hl 4 rfl) ?_
      obtain ⟨h3, hf⟩ := b_ck hf
      refine r_iald X hw (sp2 hR) h3 dX2_addNumber_38 ?_
      refine lv_iadd X.1 X.2.1 dX2_addNumber_39 ?_
      refine lv_bipush (v := 48) X.1 X.2.1 dX2_addNumber_40 (by decide) ?_
      refine lv_isub X.1 X.2.1 dX2_addNumber_42 ?_
      refine r_bnd hf (fun v4 hf => ?_)
      refine lv_istore_n (lv' := [(3, .int v4), (0, .ref (eP E 1)), (1, .int u1), (2, .int u2), (4, .int w4)]) X.1 X.2.1 dX2_addNumber_43 rfl hl (by decide) rfl (fun ls hl => ?_)
      obtain ⟨v5, e6, hf⟩ := b_bnd hf
      refine lv_iinc (v := v5) (k := 4) (lv' := [(4, .int v5), (3, .int v4), (0, .ref (eP E 1)), (1, .int u1), (2, .int u2)]) X.1 X.2.1 dX2_addNumber_44 hl rfl (by rw [e6]; exact congrArg _ (by decide)) (by decide) rfl (fun ls hl => ?_)
      refine lv_goto (tgt := 22) X.1 X.2.1 dX2_addNumber_47 (by decide) ?_
      obtain rfl := Option.some.inj hf
      exact ih _ _ (hr1 _ rfl) _ _ _ hw (lv_sub hl [2, 3, 4, 1, 0] rfl) K1
set_option maxHeartbeats 4000000 in
set_option maxRecDepth 100000 in
theorem k_X2_addNumber {l : Launch} {E : en_T} (hR : ShR E) {x1 : Int32} {x2 : Int32} {σ : sg_T}  {σ' : sg_T} (hf : f_X2_addNumber x1 x2 σ = some σ') : Ct l yX2_addNumber cX2_addNumber 5 none rm_X2_addNumber E [.ref (eP E 1), .int x1, .int x2] σ none σ' := by
  refine Ct.start (by decide) hR.1 (Nat.le_of_ble_eq_true rfl) ?_
  intro p e s m below meth c X hw ls hl
  have X : Cx E p s m _ meth c cX2_addNumber 5 RX2 none := X
  have hl : lv_has ls 5 [(0, .ref (eP E 1)), (1, .int x1), (2, .int x2)] := hl
  unfold f_X2_addNumber at hf
  refine lv_iload_n X.1 X.2.1 dX2_addNumber_0 rfl (lv_at hl 2 rfl) ?_
  refine lv_iload_n X.1 X.2.1 dX2_addNumber_1 rfl (lv_at hl 1 rfl) ?_
  refine lv_isub X.1 X.2.1 dX2_addNumber_2 ?_
  refine lv_iconst (v := 4) X.1 X.2.1 dX2_addNumber_3 (by decide) ?_
  refine lv_icmp_le (tgt := 17) X.1 X.2.1 dX2_addNumber_4 (by decide) (fun c1 => ?_) (fun c1 => ?_)
  · have hf := if_t hf c1
    refine lv_iconst (v := 0) X.1 X.2.1 dX2_addNumber_17 (by decide) ?_
    refine lv_istore_n (lv' := [(3, .int 0), (0, .ref (eP E 1)), (1, .int x1), (2, .int x2)]) X.1 X.2.1 dX2_addNumber_18 rfl hl (by decide) rfl (fun ls hl => ?_)
    refine lv_iload_n X.1 X.2.1 dX2_addNumber_19 rfl (lv_at hl 2 rfl) ?_
    refine lv_istore (lv' := [(4, .int x1), (3, .int 0), (0, .ref (eP E 1)), (1, .int x1), (2, .int x2)]) X.1 X.2.1 dX2_addNumber_20 hl (by decide) rfl (fun ls hl => ?_)
    obtain ⟨v8, v9, h7, hf⟩ := b_bd2 hf
    refine w_X2_addNumber_22 X hR  lfu _ _ h7 _ _ _ hw (lv_sub hl [2, 3, 4, 1, 0] rfl) (fun yv8 yv9 hq H locs ls hw hl => ?_)
    cases hq
    refine lv_aload_n X.1 X.2.1 dX2_addNumber_50 rfl (lv_at hl 0 rfl) ?_
    refine lv_sipush (v := 300) X.1 X.2.1 dX2_addNumber_51 (by decide) ?_
    refine lv_iload_n X.1 X.2.1 dX2_addNumber_54 rfl (lv_at hl 1 rfl) ?_
    refine lv_iload_n X.1 X.2.1 dX2_addNumber_55 rfl (lv_at hl 3 rfl) ?_
    obtain ⟨σ11, h10, hf⟩ := b_bd1 hf
    refine r_callV X hw (k_X2_addToken hR  h10) (sp1 hR) (C := RX2) (T := TX2) (N := 8) rfl qw244 qw246 qw4 qw68 qw247 okX2_addToken ⟨rfl, rfl⟩ ⟨(Nat.le_of_ble_eq_true rfl), (Nat.le_of_ble_eq_true rfl)⟩ ⟨Nat.zero_le _, Nat.zero_le _⟩ rfl hl.1 (rest := []) rfl (Nat.le_of_ble_eq_true rfl) dX2_addNumber_56 (st1 := []) rfl (fun H locs hw => ?_)
    obtain rfl := Option.some.inj hf
    exact r_vret X hw dX2_addNumber_59
  · have hf := if_e hf c1
    refine lv_aload_n X.1 X.2.1 dX2_addNumber_7 rfl (lv_at hl 0 rfl) ?_
    refine lv_sipush (v := 302) X.1 X.2.1 dX2_addNumber_8 (by decide) ?_
    refine lv_iload_n X.1 X.2.1 dX2_addNumber_11 rfl (lv_at hl 1 rfl) ?_
    refine lv_iconst (v := 0) X.1 X.2.1 dX2_addNumber_12 (by decide) ?_
    obtain ⟨σ13, h12, hf⟩ := b_bd1 hf
    refine r_callV X hw (k_X2_addToken hR  h12) (sp1 hR) (C := RX2) (T := TX2) (N := 8) rfl qw244 qw246 qw4 qw68 qw247 okX2_addToken ⟨rfl, rfl⟩ ⟨(Nat.le_of_ble_eq_true rfl), (Nat.le_of_ble_eq_true rfl)⟩ ⟨Nat.zero_le _, Nat.zero_le _⟩ rfl hl.1 (rest := []) rfl (Nat.le_of_ble_eq_true rfl) dX2_addNumber_13 (st1 := []) rfl (fun H locs hw => ?_)
    obtain rfl := Option.some.inj hf
    exact r_vret X hw dX2_addNumber_16
abbrev rm_X2_isSign : Room := { frames := 0, cells := 0, slots := 0, locals := 0 }
set_option maxHeartbeats 4000000 in
set_option maxRecDepth 100000 in
theorem k_X2_isSign {l : Launch} {E : en_T} (hR : ShR E) {x1 : Int32} {σ : sg_T} {r : Int32} (hf : f_X2_isSign x1 σ = some r) : Ct l yX2_isSign cX2_isSign 1 (some .boolean) rm_X2_isSign E [.int x1] σ (some (.int r)) σ := by
  refine Ct.start (by decide) hR.1 (Nat.le_of_ble_eq_true rfl) ?_
  intro p e s m below meth c X hw ls hl
  have X : Cx E p s m _ meth c cX2_isSign 1 RX2 (some .boolean) := X
  have hl : lv_has ls 1 [(0, .int x1)] := hl
  unfold f_X2_isSign at hf
  refine lv_iload_n X.1 X.2.1 dX2_isSign_0 rfl (lv_at hl 0 rfl) ?_
  refine lv_bipush (v := 40) X.1 X.2.1 dX2_isSign_1 (by decide) ?_
  refine lv_icmp_eq (tgt := 48) X.1 X.2.1 dX2_isSign_3 (by decide) (fun c1 => ?_) (fun c1 => ?_)
  · have hf := if_t hf c1
    refine lv_iconst (v := 1) X.1 X.2.1 dX2_isSign_48 (by decide) ?_
    refine lv_goto (tgt := 53) X.1 X.2.1 dX2_isSign_49 (by decide) ?_
    obtain rfl := Option.some.inj hf
    exact r_zret X hw (by decide) dX2_isSign_53
  · have hf := if_e hf c1
    refine lv_iload_n X.1 X.2.1 dX2_isSign_6 rfl (lv_at hl 0 rfl) ?_
    refine lv_bipush (v := 41) X.1 X.2.1 dX2_isSign_7 (by decide) ?_
    refine lv_icmp_eq (tgt := 48) X.1 X.2.1 dX2_isSign_9 (by decide) (fun c2 => ?_) (fun c2 => ?_)
    · have hf := if_t hf c2
      refine lv_iconst (v := 1) X.1 X.2.1 dX2_isSign_48 (by decide) ?_
      refine lv_goto (tgt := 53) X.1 X.2.1 dX2_isSign_49 (by decide) ?_
      obtain rfl := Option.some.inj hf
      exact r_zret X hw (by decide) dX2_isSign_53
    · have hf := if_e hf c2
      refine lv_iload_n X.1 X.2.1 dX2_isSign_12 rfl (lv_at hl 0 rfl) ?_
      refine lv_bipush (v := 59) X.1 X.2.1 dX2_isSign_13 (by decide) ?_
      refine lv_icmp_eq (tgt := 48) X.1 X.2.1 dX2_isSign_15 (by decide) (fun c3 => ?_) (fun c3 => ?_)
      · have hf := if_t hf c3
        refine lv_iconst (v := 1) X.1 X.2.1 dX2_isSign_48 (by decide) ?_
        refine lv_goto (tgt := 53) X.1 X.2.1 dX2_isSign_49 (by decide) ?_
        obtain rfl := Option.some.inj hf
        exact r_zret X hw (by decide) dX2_isSign_53
      · have hf := if_e hf c3
        refine lv_iload_n X.1 X.2.1 dX2_isSign_18 rfl (lv_at hl 0 rfl) ?_
        refine lv_bipush (v := 43) X.1 X.2.1 dX2_isSign_19 (by decide) ?_
        refine lv_icmp_eq (tgt := 48) X.1 X.2.1 dX2_isSign_21 (by decide) (fun c4 => ?_) (fun c4 => ?_)
        · have hf := if_t hf c4
          refine lv_iconst (v := 1) X.1 X.2.1 dX2_isSign_48 (by decide) ?_
          refine lv_goto (tgt := 53) X.1 X.2.1 dX2_isSign_49 (by decide) ?_
          obtain rfl := Option.some.inj hf
          exact r_zret X hw (by decide) dX2_isSign_53
        · have hf := if_e hf c4
          refine lv_iload_n X.1 X.2.1 dX2_isSign_24 rfl (lv_at hl 0 rfl) ?_
          refine lv_bipush (v := 45) X.1 X.2.1 dX2_isSign_25 (by decide) ?_
          refine lv_icmp_eq (tgt := 48) X.1 X.2.1 dX2_isSign_27 (by decide) (fun c5 => ?_) (fun c5 => ?_)
          · have hf := if_t hf c5
            refine lv_iconst (v := 1) X.1 X.2.1 dX2_isSign_48 (by decide) ?_
            refine lv_goto (tgt := 53) X.1 X.2.1 dX2_isSign_49 (by decide) ?_
            obtain rfl := Option.some.inj hf
            exact r_zret X hw (by decide) dX2_isSign_53
          · have hf := if_e hf c5
            refine lv_iload_n X.1 X.2.1 dX2_isSign_30 rfl (lv_at hl 0 rfl) ?_
            refine lv_bipush (v := 42) X.1 X.2.1 dX2_isSign_31 (by decide) ?_
            refine lv_icmp_eq (tgt := 48) X.1 X.2.1 dX2_isSign_33 (by decide) (fun c6 => ?_) (fun c6 => ?_)
            · have hf := if_t hf c6
              refine lv_iconst (v := 1) X.1 X.2.1 dX2_isSign_48 (by decide) ?_
              refine lv_goto (tgt := 53) X.1 X.2.1 dX2_isSign_49 (by decide) ?_
              obtain rfl := Option.some.inj hf
              exact r_zret X hw (by decide) dX2_isSign_53
            · have hf := if_e hf c6
              refine lv_iload_n X.1 X.2.1 dX2_isSign_36 rfl (lv_at hl 0 rfl) ?_
              refine lv_bipush (v := 60) X.1 X.2.1 dX2_isSign_37 (by decide) ?_
              refine lv_icmp_eq (tgt := 48) X.1 X.2.1 dX2_isSign_39 (by decide) (fun c7 => ?_) (fun c7 => ?_)
              · have hf := if_t hf c7
                refine lv_iconst (v := 1) X.1 X.2.1 dX2_isSign_48 (by decide) ?_
                refine lv_goto (tgt := 53) X.1 X.2.1 dX2_isSign_49 (by decide) ?_
                obtain rfl := Option.some.inj hf
                exact r_zret X hw (by decide) dX2_isSign_53
              · have hf := if_e hf c7
                refine lv_iload_n X.1 X.2.1 dX2_isSign_42 rfl (lv_at hl 0 rfl) ?_
                refine lv_bipush (v := 61) X.1 X.2.1 dX2_isSign_43 (by decide) ?_
                obtain ⟨v9, e10, hf⟩ := b_bnd hf
                refine r_join (g2 := F0 m 53 ls [.int v9]) ?_ (fun hj => ?_)
                · obtain ⟨h11, hf⟩ := b_cz hf
                  obtain rfl := Option.some.inj hf
                  exact r_zret X hw (cz_and h11) dX2_isSign_53
                · refine lv_icmp_ne (tgt := 52) X.1 X.2.1 dX2_isSign_45 (by decide) (fun c8 => ?_) (fun c8 => ?_)
                  · rw [e10, if_neg c8] at hj
                    refine lv_iconst (v := 0) X.1 X.2.1 dX2_isSign_52 (by decide) ?_
                    exact hj
                  · rw [e10, if_pos c8] at hj
                    refine lv_iconst (v := 1) X.1 X.2.1 dX2_isSign_48 (by decide) ?_
                    refine lv_goto (tgt := 53) X.1 X.2.1 dX2_isSign_49 (by decide) ?_
                    exact hj
abbrev rm_X2_splitOff : Room := { frames := 6, cells := 0, slots := 0, locals := 448 }
set_option maxHeartbeats 4000000 in
set_option maxRecDepth 100000 in
theorem w_X2_splitOff_69 {p : Program} {l : Launch} {e : Env} {s : State} {m : MethodId} {args : Array Value} {below : List Frame} {meth : Method} {c : Code} {Q : State → Prop} {E : en_T} (X : Cx E p s m args meth c cX2_splitOff 4 RX2 (some .int)) (hR : ShR E) {u1 : Int32} {u2 : Int32} {σ : sg_T} {res : Int32} :
    ∀ (n : Nat) (w3 : Int32), itr (fun q => b_X2_splitOff_69 u1 u2 q σ) n w3 = some res → ∀ (H : Heap) (locs : List Loc) (ls : Array Slot), Hw E σ s H locs → lv_has ls 4 [(0, .ref (eP E 1)), (1, .int u1), (2, .int u2), (3, .int w3)] →
    (∀ (y3 : Int32), res = y3 → ∀ (H : Heap) (locs : List Loc) (ls : Array Slot), Hw E σ s H locs → lv_has ls 4 [(0, .ref (eP E 1)), (1, .int u1), (2, .int u2), (3, .int y3)] → W p l e rm_X2_splitOff s m args below meth c H locs 0 0 Q (F0 m 95 ls [])) →
    W p l e rm_X2_splitOff s m args below meth c H locs 0 0 Q (F0 m 69 ls []) := by
  intro n
  induction n with
  | zero =>
    intro w3 hf0
    exact (itr_0 hf0).elim
  | succ n ih =>
    intro w3 hf0 H locs ls hw hl K1
    obtain ⟨r0, hf, hr1, hr2⟩ := itr_s hf0
    have hf : b_X2_splitOff_69 u1 u2 w3 σ = some r0 := hf
    unfold b_X2_splitOff_69 at hf
    refine lv_iload_n X.1 X.2.1 dX2_splitOff_69 rfl (lv_at hl 3 rfl) ?_
    refine lv_aload_n X.1 X.2.1 dX2_splitOff_70 rfl (lv_at hl 0 rfl) ?_
    refine r_get X hw (sp1 hR) (C := RX2) (T := TX2) (N := 8) rfl iwX2 1 (by decide) (Nat.le_of_ble_eq_true rfl) qw98 (v := .int (σ 1 1)) rfl dX2_splitOff_71 ?_
    refine lv_icmp_ge (tgt := 95) X.1 X.2.1 dX2_splitOff_74 (by decide) (fun c17 => ?_) (fun c17 => ?_)
    · have hf := if_t hf c17
      obtain rfl := Option.some.inj hf
      obtain rfl := hr2 _ rfl
      exact K1 _ rfl _ _ _ hw (lv_sub hl [0, 1, 2, 3] rfl)
    · have hf := if_e hf c17
      refine lv_aload_n X.1 X.2.1 dX2_splitOff_77 rfl (lv_at hl 0 rfl) ?_
      refine r_get X hw (sp1 hR) (C := RX2) (T := TX2) (N := 8) rfl iwX2 0 (by decide) (Nat.le_of_ble_eq_true rfl) qw97 (v := .ref (eP E 2)) rfl dX2_splitOff_78 ?_
      refine lv_iload_n X.1 X.2.1 dX2_splitOff_81 rfl (lv_at hl 3 rfl) ?_
      obtain ⟨h18, hf⟩ := b_ck hf
      refine r_iald X hw (sp2 hR) h18 dX2_splitOff_82 ?_
      obtain ⟨r20, h19, hf⟩ := b_bd1 hf
      refine r_callS X hw (k_X2_isDigit hR  h19) qw248 qw249 qw68 qw250 okX2_isDigit ⟨rfl, rfl⟩ ⟨(Nat.le_of_ble_eq_true rfl), (Nat.le_of_ble_eq_true rfl)⟩ ⟨Nat.zero_le _, Nat.zero_le _⟩ rfl hl.1 (rest := []) rfl (Nat.le_of_ble_eq_true rfl) dX2_splitOff_83 (st1 := [.int r20]) rfl (fun H locs hw => ?_)
      refine lv_if_eq (tgt := 95) X.1 X.2.1 dX2_splitOff_86 (by decide) (fun c21 => ?_) (fun c21 => ?_)
      · have hf := if_t hf c21
        obtain rfl := Option.some.inj hf
        obtain rfl := hr2 _ rfl
        exact K1 _ rfl _ _ _ hw (lv_sub hl [0, 1, 2, 3] rfl)
      · have hf := if_e hf c21
        obtain ⟨v22, e23, hf⟩ := b_bnd hf
        refine lv_iinc (v := v22) (k := 3) (lv' := [(3, .int v22), (0, .ref (eP E 1)), (1, .int u1), (2, .int u2)]) X.1 X.2.1 dX2_splitOff_89 hl rfl (by rw [e23]; exact congrArg _ (by decide)) (by decide) rfl (fun ls hl => ?_)
        refine lv_goto (tgt := 69) X.1 X.2.1 dX2_splitOff_92 (by decide) ?_
        obtain rfl := Option.some.inj hf
        exact ih _ (hr1 _ rfl) _ _ _ hw (lv_sub hl [1, 2, 3, 0] rfl) K1
set_option maxHeartbeats 4000000 in
set_option maxRecDepth 100000 in
theorem w_X2_splitOff_18 {p : Program} {l : Launch} {e : Env} {s : State} {m : MethodId} {args : Array Value} {below : List Frame} {meth : Method} {c : Code} {Q : State → Prop} {E : en_T} (X : Cx E p s m args meth c cX2_splitOff 4 RX2 (some .int)) (hR : ShR E) {u1 : Int32} {u2 : Int32} {σ : sg_T} {res : Int32} :
    ∀ (n : Nat) (w3 : Int32), itr (fun q => b_X2_splitOff_18 u1 u2 q σ) n w3 = some res → ∀ (H : Heap) (locs : List Loc) (ls : Array Slot), Hw E σ s H locs → lv_has ls 4 [(0, .ref (eP E 1)), (1, .int u1), (2, .int u2), (3, .int w3)] →
    (∀ (y3 : Int32), res = y3 → ∀ (H : Heap) (locs : List Loc) (ls : Array Slot), Hw E σ s H locs → lv_has ls 4 [(0, .ref (eP E 1)), (1, .int u1), (2, .int u2), (3, .int y3)] → W p l e rm_X2_splitOff s m args below meth c H locs 0 0 Q (F0 m 44 ls [])) →
    W p l e rm_X2_splitOff s m args below meth c H locs 0 0 Q (F0 m 18 ls []) := by
  intro n
  induction n with
  | zero =>
    intro w3 hf0
    exact (itr_0 hf0).elim
  | succ n ih =>
    intro w3 hf0 H locs ls hw hl K1
    obtain ⟨r0, hf, hr1, hr2⟩ := itr_s hf0
    have hf : b_X2_splitOff_18 u1 u2 w3 σ = some r0 := hf
    unfold b_X2_splitOff_18 at hf
    refine lv_iload_n X.1 X.2.1 dX2_splitOff_18 rfl (lv_at hl 3 rfl) ?_
    refine lv_aload_n X.1 X.2.1 dX2_splitOff_19 rfl (lv_at hl 0 rfl) ?_
    refine r_get X hw (sp1 hR) (C := RX2) (T := TX2) (N := 8) rfl iwX2 1 (by decide) (Nat.le_of_ble_eq_true rfl) qw98 (v := .int (σ 1 1)) rfl dX2_splitOff_20 ?_
    refine lv_icmp_ge (tgt := 44) X.1 X.2.1 dX2_splitOff_23 (by decide) (fun c29 => ?_) (fun c29 => ?_)
    · have hf := if_t hf c29
      obtain rfl := Option.some.inj hf
      obtain rfl := hr2 _ rfl
      exact K1 _ rfl _ _ _ hw (lv_sub hl [0, 1, 2, 3] rfl)
    · have hf := if_e hf c29
      refine lv_aload_n X.1 X.2.1 dX2_splitOff_26 rfl (lv_at hl 0 rfl) ?_
      refine r_get X hw (sp1 hR) (C := RX2) (T := TX2) (N := 8) rfl iwX2 0 (by decide) (Nat.le_of_ble_eq_true rfl) qw97 (v := .ref (eP E 2)) rfl dX2_splitOff_27 ?_
      refine lv_iload_n X.1 X.2.1 dX2_splitOff_30 rfl (lv_at hl 3 rfl) ?_
      obtain ⟨h30, hf⟩ := b_ck hf
      refine r_iald X hw (sp2 hR) h30 dX2_splitOff_31 ?_
      obtain ⟨r32, h31, hf⟩ := b_bd1 hf
      refine r_callS X hw (k_X2_isLetter hR  h31) qw232 qw233 qw68 qw234 okX2_isLetter ⟨rfl, rfl⟩ ⟨(Nat.le_of_ble_eq_true rfl), (Nat.le_of_ble_eq_true rfl)⟩ ⟨Nat.zero_le _, Nat.zero_le _⟩ rfl hl.1 (rest := []) rfl (Nat.le_of_ble_eq_true rfl) dX2_splitOff_32 (st1 := [.int r32]) rfl (fun H locs hw => ?_)
      refine lv_if_eq (tgt := 44) X.1 X.2.1 dX2_splitOff_35 (by decide) (fun c33 => ?_) (fun c33 => ?_)
      · have hf := if_t hf c33
        obtain rfl := Option.some.inj hf
        obtain rfl := hr2 _ rfl
        exact K1 _ rfl _ _ _ hw (lv_sub hl [0, 1, 2, 3] rfl)
      · have hf := if_e hf c33
        obtain ⟨v34, e35, hf⟩ := b_bnd hf
        refine lv_iinc (v := v34) (k := 3) (lv' := [(3, .int v34), (0, .ref (eP E 1)), (1, .int u1), (2, .int u2)]) X.1 X.2.1 dX2_splitOff_38 hl rfl (by rw [e35]; exact congrArg _ (by decide)) (by decide) rfl (fun ls hl => ?_)
        refine lv_goto (tgt := 18) X.1 X.2.1 dX2_splitOff_41 (by decide) ?_
        obtain rfl := Option.some.inj hf
        exact ih _ (hr1 _ rfl) _ _ _ hw (lv_sub hl [1, 2, 3, 0] rfl) K1
set_option maxHeartbeats 4000000 in
set_option maxRecDepth 100000 in
theorem k_X2_splitOff {l : Launch} {E : en_T} (hR : ShR E) {x1 : Int32} {σ : sg_T} {r : Int32} {σ' : sg_T} (hf : f_X2_splitOff x1 σ = some (r, σ')) : Ct l yX2_splitOff cX2_splitOff 4 (some .int) rm_X2_splitOff E [.ref (eP E 1), .int x1] σ (some (.int r)) σ' := by
  refine Ct.start (by decide) hR.1 (Nat.le_of_ble_eq_true rfl) ?_
  intro p e s m below meth c X hw ls hl
  have X : Cx E p s m _ meth c cX2_splitOff 4 RX2 (some .int) := X
  have hl : lv_has ls 4 [(0, .ref (eP E 1)), (1, .int x1)] := hl
  unfold f_X2_splitOff at hf
  refine lv_aload_n X.1 X.2.1 dX2_splitOff_0 rfl (lv_at hl 0 rfl) ?_
  refine r_get X hw (sp1 hR) (C := RX2) (T := TX2) (N := 8) rfl iwX2 0 (by decide) (Nat.le_of_ble_eq_true rfl) qw97 (v := .ref (eP E 2)) rfl dX2_splitOff_1 ?_
  refine lv_iload_n X.1 X.2.1 dX2_splitOff_4 rfl (lv_at hl 1 rfl) ?_
  obtain ⟨h1, hf⟩ := b_ck hf
  refine r_iald X hw (sp2 hR) h1 dX2_splitOff_5 ?_
  refine r_bnd hf (fun v2 hf => ?_)
  refine lv_istore_n (lv' := [(2, .int v2), (0, .ref (eP E 1)), (1, .int x1)]) X.1 X.2.1 dX2_splitOff_6 rfl hl (by decide) rfl (fun ls hl => ?_)
  refine lv_iload_n X.1 X.2.1 dX2_splitOff_7 rfl (lv_at hl 0 rfl) ?_
  obtain ⟨r4, h3, hf⟩ := b_bd1 hf
  refine r_callS X hw (k_X2_isLetter hR  h3) qw232 qw233 qw68 qw234 okX2_isLetter ⟨rfl, rfl⟩ ⟨(Nat.le_of_ble_eq_true rfl), (Nat.le_of_ble_eq_true rfl)⟩ ⟨Nat.zero_le _, Nat.zero_le _⟩ rfl hl.1 (rest := []) rfl (Nat.le_of_ble_eq_true rfl) dX2_splitOff_8 (st1 := [.int r4]) rfl (fun H locs hw => ?_)
  refine lv_if_eq (tgt := 58) X.1 X.2.1 dX2_splitOff_11 (by decide) (fun c5 => ?_) (fun c5 => ?_)
  · have hf := if_t hf c5
    refine lv_iload_n X.1 X.2.1 dX2_splitOff_58 rfl (lv_at hl 0 rfl) ?_
    obtain ⟨r7, h6, hf⟩ := b_bd1 hf
    refine r_callS X hw (k_X2_isDigit hR  h6) qw248 qw249 qw68 qw250 okX2_isDigit ⟨rfl, rfl⟩ ⟨(Nat.le_of_ble_eq_true rfl), (Nat.le_of_ble_eq_true rfl)⟩ ⟨Nat.zero_le _, Nat.zero_le _⟩ rfl hl.1 (rest := []) rfl (Nat.le_of_ble_eq_true rfl) dX2_splitOff_59 (st1 := [.int r7]) rfl (fun H locs hw => ?_)
    refine lv_if_eq (tgt := 103) X.1 X.2.1 dX2_splitOff_62 (by decide) (fun c8 => ?_) (fun c8 => ?_)
    · have hf := if_t hf c8
      refine lv_aload_n X.1 X.2.1 dX2_splitOff_103 rfl (lv_at hl 1 rfl) ?_
      refine lv_iload_n X.1 X.2.1 dX2_splitOff_104 rfl (lv_at hl 0 rfl) ?_
      obtain ⟨r10, h9, hf⟩ := b_bd1 hf
      refine r_callS X hw (k_X2_isSign hR  h9) qw255 qw256 qw68 qw257 okX2_isSign ⟨rfl, rfl⟩ ⟨(Nat.le_of_ble_eq_true rfl), (Nat.le_of_ble_eq_true rfl)⟩ ⟨Nat.zero_le _, Nat.zero_le _⟩ rfl hl.1 (rest := [.ref (eP E 1)]) rfl (Nat.le_of_ble_eq_true rfl) dX2_splitOff_105 (st1 := [.int r10, .ref (eP E 1)]) rfl (fun H locs hw => ?_)
      obtain ⟨v12, e13, hf⟩ := b_bnd hf
      refine r_join (g2 := F0 m 118 ls [.int v12, .ref (eP E 1)]) ?_ (fun hj => ?_)
      · refine lv_iload_n X.1 X.2.1 dX2_splitOff_118 rfl (lv_at hl 2 rfl) ?_
        refine lv_iconst (v := 0) X.1 X.2.1 dX2_splitOff_119 (by decide) ?_
        obtain ⟨σ15, h14, hf⟩ := b_bd1 hf
        refine r_callV X hw (k_X2_addToken hR  h14) (sp1 hR) (C := RX2) (T := TX2) (N := 8) rfl qw244 qw246 qw4 qw68 qw247 okX2_addToken ⟨rfl, rfl⟩ ⟨(Nat.le_of_ble_eq_true rfl), (Nat.le_of_ble_eq_true rfl)⟩ ⟨Nat.zero_le _, Nat.zero_le _⟩ rfl hl.1 (rest := []) rfl (Nat.le_of_ble_eq_true rfl) dX2_splitOff_120 (st1 := []) rfl (fun H locs hw => ?_)
        refine lv_iload_n X.1 X.2.1 dX2_splitOff_123 rfl (lv_at hl 2 rfl) ?_
        refine lv_iconst (v := 1) X.1 X.2.1 dX2_splitOff_124 (by decide) ?_
        refine lv_iadd X.1 X.2.1 dX2_splitOff_125 ?_
        obtain ⟨rfl, rfl⟩ := Prod.mk.inj (Option.some.inj hf)
        exact r_iret X hw dX2_splitOff_126
      · refine lv_if_eq (tgt := 115) X.1 X.2.1 dX2_splitOff_108 (by decide) (fun c11 => ?_) (fun c11 => ?_)
        · rw [e13, if_pos c11] at hj
          refine lv_sipush (v := 302) X.1 X.2.1 dX2_splitOff_115 (by decide) ?_
          exact hj
        · rw [e13, if_neg c11] at hj
          refine lv_iload_n X.1 X.2.1 dX2_splitOff_111 rfl (lv_at hl 0 rfl) ?_
          refine lv_goto (tgt := 118) X.1 X.2.1 dX2_splitOff_112 (by decide) ?_
          exact hj
    · have hf := if_e hf c8
      refine lv_iload_n X.1 X.2.1 dX2_splitOff_65 rfl (lv_at hl 2 rfl) ?_
      refine lv_iconst (v := 1) X.1 X.2.1 dX2_splitOff_66 (by decide) ?_
      refine lv_iadd X.1 X.2.1 dX2_splitOff_67 ?_
      refine r_bnd hf (fun v16 hf => ?_)
      refine lv_istore_n (lv' := [(3, .int v16), (2, .int v2), (0, .ref (eP E 1)), (1, .int x1)]) X.1 X.2.1 dX2_splitOff_68 rfl hl (by decide) rfl (fun ls hl => ?_)
      obtain ⟨v25, h24, hf⟩ := b_bd1 hf
      refine w_X2_splitOff_69 X hR  lfu _ h24 _ _ _ hw (lv_sub hl [2, 3, 1, 0] rfl) (fun yv25 hq H locs ls hw hl => ?_)
      cases hq
      refine lv_aload_n X.1 X.2.1 dX2_splitOff_95 rfl (lv_at hl 0 rfl) ?_
      refine lv_iload_n X.1 X.2.1 dX2_splitOff_96 rfl (lv_at hl 1 rfl) ?_
      refine lv_iload_n X.1 X.2.1 dX2_splitOff_97 rfl (lv_at hl 3 rfl) ?_
      obtain ⟨σ27, h26, hf⟩ := b_bd1 hf
      refine r_callV X hw (k_X2_addNumber hR  h26) (sp1 hR) (C := RX2) (T := TX2) (N := 8) rfl qw251 qw253 qw5 qw68 qw254 okX2_addNumber ⟨rfl, rfl⟩ ⟨(Nat.le_of_ble_eq_true rfl), (Nat.le_of_ble_eq_true rfl)⟩ ⟨Nat.zero_le _, Nat.zero_le _⟩ rfl hl.1 (rest := []) rfl (Nat.le_of_ble_eq_true rfl) dX2_splitOff_98 (st1 := []) rfl (fun H locs hw => ?_)
      refine lv_iload_n X.1 X.2.1 dX2_splitOff_101 rfl (lv_at hl 3 rfl) ?_
      obtain ⟨rfl, rfl⟩ := Prod.mk.inj (Option.some.inj hf)
      exact r_iret X hw dX2_splitOff_102
  · have hf := if_e hf c5
    refine lv_iload_n X.1 X.2.1 dX2_splitOff_14 rfl (lv_at hl 2 rfl) ?_
    refine lv_iconst (v := 1) X.1 X.2.1 dX2_splitOff_15 (by decide) ?_
    refine lv_iadd X.1 X.2.1 dX2_splitOff_16 ?_
    refine r_bnd hf (fun v28 hf => ?_)
    refine lv_istore_n (lv' := [(3, .int v28), (2, .int v2), (0, .ref (eP E 1)), (1, .int x1)]) X.1 X.2.1 dX2_splitOff_17 rfl hl (by decide) rfl (fun ls hl => ?_)
    obtain ⟨v37, h36, hf⟩ := b_bd1 hf
    refine w_X2_splitOff_18 X hR  lfu _ h36 _ _ _ hw (lv_sub hl [2, 3, 1, 0] rfl) (fun yv37 hq H locs ls hw hl => ?_)
    cases hq
    refine lv_aload_n X.1 X.2.1 dX2_splitOff_44 rfl (lv_at hl 0 rfl) ?_
    refine lv_aload_n X.1 X.2.1 dX2_splitOff_45 rfl (lv_at hl 0 rfl) ?_
    refine lv_iload_n X.1 X.2.1 dX2_splitOff_46 rfl (lv_at hl 1 rfl) ?_
    refine lv_iload_n X.1 X.2.1 dX2_splitOff_47 rfl (lv_at hl 3 rfl) ?_
    obtain ⟨r39, h38, hf⟩ := b_bd1 hf
    refine r_callV X hw (k_X2_wordAt hR  h38) (sp1 hR) (C := RX2) (T := TX2) (N := 8) rfl qw235 qw237 qw2 qw68 qw238 okX2_wordAt ⟨rfl, rfl⟩ ⟨(Nat.le_of_ble_eq_true rfl), (Nat.le_of_ble_eq_true rfl)⟩ ⟨Nat.zero_le _, Nat.zero_le _⟩ rfl hl.1 (rest := [.ref (eP E 1)]) rfl (Nat.le_of_ble_eq_true rfl) dX2_splitOff_48 (st1 := [.int r39, .ref (eP E 1)]) rfl (fun H locs hw => ?_)
    refine lv_iload_n X.1 X.2.1 dX2_splitOff_51 rfl (lv_at hl 1 rfl) ?_
    refine lv_iconst (v := 0) X.1 X.2.1 dX2_splitOff_52 (by decide) ?_
    obtain ⟨σ41, h40, hf⟩ := b_bd1 hf
    refine r_callV X hw (k_X2_addToken hR  h40) (sp1 hR) (C := RX2) (T := TX2) (N := 8) rfl qw244 qw246 qw4 qw68 qw247 okX2_addToken ⟨rfl, rfl⟩ ⟨(Nat.le_of_ble_eq_true rfl), (Nat.le_of_ble_eq_true rfl)⟩ ⟨Nat.zero_le _, Nat.zero_le _⟩ rfl hl.1 (rest := []) rfl (Nat.le_of_ble_eq_true rfl) dX2_splitOff_53 (st1 := []) rfl (fun H locs hw => ?_)
    refine lv_iload_n X.1 X.2.1 dX2_splitOff_56 rfl (lv_at hl 3 rfl) ?_
    obtain ⟨rfl, rfl⟩ := Prod.mk.inj (Option.some.inj hf)
    exact r_iret X hw dX2_splitOff_57
abbrev rm_X2_split : Room := { frames := 7, cells := 0, slots := 0, locals := 471 }
set_option maxHeartbeats 4000000 in
set_option maxRecDepth 100000 in
theorem w_X2_split_9 {p : Program} {l : Launch} {e : Env} {s : State} {m : MethodId} {args : Array Value} {below : List Frame} {meth : Method} {c : Code} {Q : State → Prop} {E : en_T} (X : Cx E p s m args meth c cX2_split 3 RX2 none) (hR : ShR E)   {res : Int32 × Int32 × sg_T} :
    ∀ (n : Nat) (w1 : Int32) (w2 : Int32) (σ : sg_T), itr (fun q => b_X2_split_9  q.1 q.2.1 q.2.2) n (w1, w2, σ) = some res → ∀ (H : Heap) (locs : List Loc) (ls : Array Slot), Hw E σ s H locs → lv_has ls 3 [(0, .ref (eP E 1)), (1, .int w1), (2, .int w2)] →
    (∀ (y1 : Int32) (y2 : Int32) (τ : sg_T), res = (y1, y2, τ) → ∀ (H : Heap) (locs : List Loc) (ls : Array Slot), Hw E τ s H locs → lv_has ls 3 [(0, .ref (eP E 1)), (1, .int y1), (2, .int y2)] → W p l e rm_X2_split s m args below meth c H locs 0 0 Q (F0 m 56 ls [])) →
    W p l e rm_X2_split s m args below meth c H locs 0 0 Q (F0 m 9 ls []) := by
  intro n
  induction n with
  | zero =>
    intro w1 w2 σ hf0
    exact (itr_0 hf0).elim
  | succ n ih =>
    intro w1 w2 σ hf0 H locs ls hw hl K1
    obtain ⟨r0, hf, hr1, hr2⟩ := itr_s hf0
    have hf : b_X2_split_9  w1 w2 σ = some r0 := hf
    unfold b_X2_split_9 at hf
    refine lv_iload_n X.1 X.2.1 dX2_split_9 rfl (lv_at hl 2 rfl) ?_
    refine lv_aload_n X.1 X.2.1 dX2_split_10 rfl (lv_at hl 0 rfl) ?_
    refine r_get X hw (sp1 hR) (C := RX2) (T := TX2) (N := 8) rfl iwX2 1 (by decide) (Nat.le_of_ble_eq_true rfl) qw98 (v := .int (σ 1 1)) rfl dX2_split_11 ?_
    refine lv_icmp_ge (tgt := 56) X.1 X.2.1 dX2_split_14 (by decide) (fun c3 => ?_) (fun c3 => ?_)
    · have hf := if_t hf c3
      obtain rfl := Option.some.inj hf
      obtain rfl := hr2 _ rfl
      exact K1 _ _ _ rfl _ _ _ hw (lv_sub hl [0, 1, 2] rfl)
    · have hf := if_e hf c3
      refine lv_iload_n X.1 X.2.1 dX2_split_17 rfl (lv_at hl 2 rfl) ?_
      refine lv_iload_n X.1 X.2.1 dX2_split_18 rfl (lv_at hl 1 rfl) ?_
      refine lv_icmp_lt (tgt := 50) X.1 X.2.1 dX2_split_19 (by decide) (fun c4 => ?_) (fun c4 => ?_)
      · have hf := if_t hf c4
        obtain ⟨v5, e6, hf⟩ := b_bnd hf
        refine lv_iinc (v := v5) (k := 2) (lv' := [(2, .int v5), (0, .ref (eP E 1)), (1, .int w1)]) X.1 X.2.1 dX2_split_50 hl rfl (by rw [e6]; exact congrArg _ (by decide)) (by decide) rfl (fun ls hl => ?_)
        refine lv_goto (tgt := 9) X.1 X.2.1 dX2_split_53 (by decide) ?_
        obtain rfl := Option.some.inj hf
        exact ih _ _ _ (hr1 _ rfl) _ _ _ hw (lv_sub hl [1, 2, 0] rfl) K1
      · have hf := if_e hf c4
        refine lv_aload_n X.1 X.2.1 dX2_split_22 rfl (lv_at hl 0 rfl) ?_
        refine r_get X hw (sp1 hR) (C := RX2) (T := TX2) (N := 8) rfl iwX2 0 (by decide) (Nat.le_of_ble_eq_true rfl) qw97 (v := .ref (eP E 2)) rfl dX2_split_23 ?_
        refine lv_iload_n X.1 X.2.1 dX2_split_26 rfl (lv_at hl 2 rfl) ?_
        obtain ⟨h7, hf⟩ := b_ck hf
        refine r_iald X hw (sp2 hR) h7 dX2_split_27 ?_
        refine lv_bipush (v := 32) X.1 X.2.1 dX2_split_28 (by decide) ?_
        refine lv_icmp_eq (tgt := 50) X.1 X.2.1 dX2_split_30 (by decide) (fun c8 => ?_) (fun c8 => ?_)
        · have hf := if_t hf c8
          obtain ⟨v9, e10, hf⟩ := b_bnd hf
          refine lv_iinc (v := v9) (k := 2) (lv' := [(2, .int v9), (0, .ref (eP E 1)), (1, .int w1)]) X.1 X.2.1 dX2_split_50 hl rfl (by rw [e10]; exact congrArg _ (by decide)) (by decide) rfl (fun ls hl => ?_)
          refine lv_goto (tgt := 9) X.1 X.2.1 dX2_split_53 (by decide) ?_
          obtain rfl := Option.some.inj hf
          exact ih _ _ _ (hr1 _ rfl) _ _ _ hw (lv_sub hl [1, 2, 0] rfl) K1
        · have hf := if_e hf c8
          refine lv_aload_n X.1 X.2.1 dX2_split_33 rfl (lv_at hl 0 rfl) ?_
          refine r_get X hw (sp1 hR) (C := RX2) (T := TX2) (N := 8) rfl iwX2 0 (by decide) (Nat.le_of_ble_eq_true rfl) qw97 (v := .ref (eP E 2)) rfl dX2_split_34 ?_
          refine lv_iload_n X.1 X.2.1 dX2_split_37 rfl (lv_at hl 2 rfl) ?_
          obtain ⟨h11, hf⟩ := b_ck hf
          refine r_iald X hw (sp2 hR) h11 dX2_split_38 ?_
          refine lv_bipush (v := 10) X.1 X.2.1 dX2_split_39 (by decide) ?_
          refine lv_icmp_eq (tgt := 50) X.1 X.2.1 dX2_split_41 (by decide) (fun c12 => ?_) (fun c12 => ?_)
          · have hf := if_t hf c12
            obtain ⟨v13, e14, hf⟩ := b_bnd hf
            refine lv_iinc (v := v13) (k := 2) (lv' := [(2, .int v13), (0, .ref (eP E 1)), (1, .int w1)]) X.1 X.2.1 dX2_split_50 hl rfl (by rw [e14]; exact congrArg _ (by decide)) (by decide) rfl (fun ls hl => ?_)
            refine lv_goto (tgt := 9) X.1 X.2.1 dX2_split_53 (by decide) ?_
            obtain rfl := Option.some.inj hf
            exact ih _ _ _ (hr1 _ rfl) _ _ _ hw (lv_sub hl [1, 2, 0] rfl) K1
          · have hf := if_e hf c12
            refine lv_aload_n X.1 X.2.1 dX2_split_44 rfl (lv_at hl 0 rfl) ?_
            refine lv_iload_n X.1 X.2.1 dX2_split_45 rfl (lv_at hl 2 rfl) ?_
            obtain ⟨r16, σ17, h15, hf⟩ := b_bd2 hf
            refine r_callV X hw (k_X2_splitOff hR  h15) (sp1 hR) (C := RX2) (T := TX2) (N := 8) rfl qw228 qw230 qw1 qw68 qw231 okX2_splitOff ⟨rfl, rfl⟩ ⟨(Nat.le_of_ble_eq_true rfl), (Nat.le_of_ble_eq_true rfl)⟩ ⟨Nat.zero_le _, Nat.zero_le _⟩ rfl hl.1 (rest := []) rfl (Nat.le_of_ble_eq_true rfl) dX2_split_46 (st1 := [.int r16]) rfl (fun H locs hw => ?_)
            refine lv_istore_n (lv' := [(1, .int r16), (0, .ref (eP E 1)), (2, .int w2)]) X.1 X.2.1 dX2_split_49 rfl hl (by decide) rfl (fun ls hl => ?_)
            obtain ⟨v18, e19, hf⟩ := b_bnd hf
            refine lv_iinc (v := v18) (k := 2) (lv' := [(2, .int v18), (1, .int r16), (0, .ref (eP E 1))]) X.1 X.2.1 dX2_split_50 hl rfl (by rw [e19]; exact congrArg _ (by decide)) (by decide) rfl (fun ls hl => ?_)
            refine lv_goto (tgt := 9) X.1 X.2.1 dX2_split_53 (by decide) ?_
            obtain rfl := Option.some.inj hf
            exact ih _ _ _ (hr1 _ rfl) _ _ _ hw (lv_sub hl [2, 1, 0] rfl) K1
set_option maxHeartbeats 4000000 in
set_option maxRecDepth 100000 in
theorem k_X2_split {l : Launch} {E : en_T} (hR : ShR E)  {σ : sg_T}  {σ' : sg_T} (hf : f_X2_split  σ = some σ') : Ct l yX2_split cX2_split 3 none rm_X2_split E [.ref (eP E 1)] σ none σ' := by
  refine Ct.start (by decide) hR.1 (Nat.le_of_ble_eq_true rfl) ?_
  intro p e s m below meth c X hw ls hl
  have X : Cx E p s m _ meth c cX2_split 3 RX2 none := X
  have hl : lv_has ls 3 [(0, .ref (eP E 1))] := hl
  unfold f_X2_split at hf
  refine lv_aload_n X.1 X.2.1 dX2_split_0 rfl (lv_at hl 0 rfl) ?_
  refine lv_iconst (v := 0) X.1 X.2.1 dX2_split_1 (by decide) ?_
  refine r_put X hw (sp1 hR) (C := RX2) (T := TX2) (N := 8) rfl iwX2 tyX2 tyX2_ok nmX2 5 (by decide) (Nat.le_of_ble_eq_true rfl) qw102 rfl (v := .int 0) rfl rfl (x := 0) rfl dX2_split_2 (fun H locs hw => ?_)
  obtain ⟨σ1, e2, hf⟩ := b_bnd hf
  rw [← e2] at hw
  refine lv_iconst (v := 0) X.1 X.2.1 dX2_split_5 (by decide) ?_
  refine lv_istore_n (lv' := [(1, .int 0), (0, .ref (eP E 1))]) X.1 X.2.1 dX2_split_6 rfl hl (by decide) rfl (fun ls hl => ?_)
  refine lv_iconst (v := 0) X.1 X.2.1 dX2_split_7 (by decide) ?_
  refine lv_istore_n (lv' := [(2, .int 0), (1, .int 0), (0, .ref (eP E 1))]) X.1 X.2.1 dX2_split_8 rfl hl (by decide) rfl (fun ls hl => ?_)
  obtain ⟨v21, v22, σ23, h20, hf⟩ := b_bd3 hf
  refine w_X2_split_9 X hR  lfu _ _ _ h20 _ _ _ hw (lv_sub hl [2, 1, 0] rfl) (fun yv21 yv22 yσ23 hq H locs ls hw hl => ?_)
  cases hq
  refine lv_aload_n X.1 X.2.1 dX2_split_56 rfl (lv_at hl 0 rfl) ?_
  refine lv_sipush (v := 301) X.1 X.2.1 dX2_split_57 (by decide) ?_
  refine lv_aload_n X.1 X.2.1 dX2_split_60 rfl (lv_at hl 0 rfl) ?_
  refine r_get X hw (sp1 hR) (C := RX2) (T := TX2) (N := 8) rfl iwX2 1 (by decide) (Nat.le_of_ble_eq_true rfl) qw98 (v := .int (σ23 1 1)) rfl dX2_split_61 ?_
  refine lv_iconst (v := 0) X.1 X.2.1 dX2_split_64 (by decide) ?_
  obtain ⟨σ25, h24, hf⟩ := b_bd1 hf
  refine r_callV X hw (k_X2_addToken hR  h24) (sp1 hR) (C := RX2) (T := TX2) (N := 8) rfl qw244 qw246 qw4 qw68 qw247 okX2_addToken ⟨rfl, rfl⟩ ⟨(Nat.le_of_ble_eq_true rfl), (Nat.le_of_ble_eq_true rfl)⟩ ⟨Nat.zero_le _, Nat.zero_le _⟩ rfl hl.1 (rest := []) rfl (Nat.le_of_ble_eq_true rfl) dX2_split_65 (st1 := []) rfl (fun H locs hw => ?_)
  obtain rfl := Option.some.inj hf
  exact r_vret X hw dX2_split_68
abbrev rm_X2_now : Room := { frames := 0, cells := 0, slots := 0, locals := 0 }
set_option maxHeartbeats 4000000 in
set_option maxRecDepth 100000 in
theorem k_X2_now {l : Launch} {E : en_T} (hR : ShR E)  {σ : sg_T} {r : Int32} (hf : f_X2_now  σ = some r) : Ct l yX2_now cX2_now 1 (some .int) rm_X2_now E [.ref (eP E 1)] σ (some (.int r)) σ := by
  refine Ct.start (by decide) hR.1 (Nat.le_of_ble_eq_true rfl) ?_
  intro p e s m below meth c X hw ls hl
  have X : Cx E p s m _ meth c cX2_now 1 RX2 (some .int) := X
  have hl : lv_has ls 1 [(0, .ref (eP E 1))] := hl
  unfold f_X2_now at hf
  refine lv_aload_n X.1 X.2.1 dX2_now_0 rfl (lv_at hl 0 rfl) ?_
  refine r_get X hw (sp1 hR) (C := RX2) (T := TX2) (N := 8) rfl iwX2 6 (by decide) (Nat.le_of_ble_eq_true rfl) qw103 (v := .int (σ 1 6)) rfl dX2_now_1 ?_
  refine lv_aload_n X.1 X.2.1 dX2_now_4 rfl (lv_at hl 0 rfl) ?_
  refine r_get X hw (sp1 hR) (C := RX2) (T := TX2) (N := 8) rfl iwX2 5 (by decide) (Nat.le_of_ble_eq_true rfl) qw102 (v := .int (σ 1 5)) rfl dX2_now_5 ?_
  refine lv_icmp_ge (tgt := 23) X.1 X.2.1 dX2_now_8 (by decide) (fun c1 => ?_) (fun c1 => ?_)
  · have hf := if_t hf c1
    refine lv_sipush (v := 301) X.1 X.2.1 dX2_now_23 (by decide) ?_
    obtain rfl := Option.some.inj hf
    exact r_iret X hw dX2_now_26
  · have hf := if_e hf c1
    refine lv_aload_n X.1 X.2.1 dX2_now_11 rfl (lv_at hl 0 rfl) ?_
    refine r_get X hw (sp1 hR) (C := RX2) (T := TX2) (N := 8) rfl iwX2 2 (by decide) (Nat.le_of_ble_eq_true rfl) qw99 (v := .ref (eP E 3)) rfl dX2_now_12 ?_
    refine lv_aload_n X.1 X.2.1 dX2_now_15 rfl (lv_at hl 0 rfl) ?_
    refine r_get X hw (sp1 hR) (C := RX2) (T := TX2) (N := 8) rfl iwX2 6 (by decide) (Nat.le_of_ble_eq_true rfl) qw103 (v := .int (σ 1 6)) rfl dX2_now_16 ?_
    obtain ⟨h2, hf⟩ := b_ck hf
    refine r_iald X hw (sp3 hR) h2 dX2_now_19 ?_
    refine lv_goto (tgt := 26) X.1 X.2.1 dX2_now_20 (by decide) ?_
    obtain rfl := Option.some.inj hf
    exact r_iret X hw dX2_now_26
abbrev rm_X2_pass : Room := { frames := 1, cells := 0, slots := 0, locals := 100 }
set_option maxHeartbeats 4000000 in
set_option maxRecDepth 100000 in
theorem k_X2_pass {l : Launch} {E : en_T} (hR : ShR E) {x1 : Int32} {σ : sg_T} {r : Int32} {σ' : sg_T} (hf : f_X2_pass x1 σ = some (r, σ')) : Ct l yX2_pass cX2_pass 2 (some .boolean) rm_X2_pass E [.ref (eP E 1), .int x1] σ (some (.int r)) σ' := by
  refine Ct.start (by decide) hR.1 (Nat.le_of_ble_eq_true rfl) ?_
  intro p e s m below meth c X hw ls hl
  have X : Cx E p s m _ meth c cX2_pass 2 RX2 (some .boolean) := X
  have hl : lv_has ls 2 [(0, .ref (eP E 1)), (1, .int x1)] := hl
  unfold f_X2_pass at hf
  refine lv_aload_n X.1 X.2.1 dX2_pass_0 rfl (lv_at hl 0 rfl) ?_
  obtain ⟨r2, h1, hf⟩ := b_bd1 hf
  refine r_callV X hw (k_X2_now hR  h1) (sp1 hR) (C := RX2) (T := TX2) (N := 8) rfl qw270 qw272 qw8 qw68 qw273 okX2_now ⟨rfl, rfl⟩ ⟨(Nat.le_of_ble_eq_true rfl), (Nat.le_of_ble_eq_true rfl)⟩ ⟨Nat.zero_le _, Nat.zero_le _⟩ rfl hl.1 (rest := []) rfl (Nat.le_of_ble_eq_true rfl) dX2_pass_1 (st1 := [.int r2]) rfl (fun H locs hw => ?_)
  refine lv_iload_n X.1 X.2.1 dX2_pass_4 rfl (lv_at hl 1 rfl) ?_
  refine lv_icmp_eq (tgt := 10) X.1 X.2.1 dX2_pass_5 (by decide) (fun c3 => ?_) (fun c3 => ?_)
  · have hf := if_t hf c3
    refine lv_aload_n X.1 X.2.1 dX2_pass_10 rfl (lv_at hl 0 rfl) ?_
    refine lv_dup X.1 X.2.1 dX2_pass_11 rfl ?_
    refine r_get X hw (sp1 hR) (C := RX2) (T := TX2) (N := 8) rfl iwX2 6 (by decide) (Nat.le_of_ble_eq_true rfl) qw103 (v := .int (σ 1 6)) rfl dX2_pass_12 ?_
    refine lv_iconst (v := 1) X.1 X.2.1 dX2_pass_15 (by decide) ?_
    refine lv_iadd X.1 X.2.1 dX2_pass_16 ?_
    refine r_put X hw (sp1 hR) (C := RX2) (T := TX2) (N := 8) rfl iwX2 tyX2 tyX2_ok nmX2 6 (by decide) (Nat.le_of_ble_eq_true rfl) qw103 rfl (v := .int ((σ 1 6) + 1)) rfl rfl (x := ((σ 1 6) + 1)) rfl dX2_pass_17 (fun H locs hw => ?_)
    obtain ⟨σ4, e5, hf⟩ := b_bnd hf
    rw [← e5] at hw
    refine lv_iconst (v := 1) X.1 X.2.1 dX2_pass_20 (by decide) ?_
    obtain ⟨rfl, rfl⟩ := Prod.mk.inj (Option.some.inj hf)
    exact r_zret X hw (by decide) dX2_pass_21
  · have hf := if_e hf c3
    refine lv_iconst (v := 0) X.1 X.2.1 dX2_pass_8 (by decide) ?_
    obtain ⟨rfl, rfl⟩ := Prod.mk.inj (Option.some.inj hf)
    exact r_zret X hw (by decide) dX2_pass_9
def rm_read (n : Nat) : Room := { frames := n + 40, cells := 0, slots := 0, locals := 60 * n + 4000 }
theorem rm_read_ok (n : Nat) {k : Nat} (h : k ≤ 40) : (rm_read n).frames + 1 ≤ (rm_read (n + 1)).frames ∧ 8 + (k + 11) + (rm_read n).locals ≤ (rm_read (n + 1)).locals := by
  refine ⟨?_, ?_⟩
  · show n + 40 + 1 ≤ n + 1 + 40
    omega
  · show 8 + (k + 11) + (60 * n + 4000) ≤ 60 * (n + 1) + 4000
    omega
set_option maxHeartbeats 4000000 in
set_option maxRecDepth 100000 in
theorem k_X2_readOne {l : Launch} {E : en_T} (hR : ShR E) {rec : Nat → Int32 → sg_T → Option (Int32 × sg_T)} {n0 : Nat} (ih_X2_readE : ∀ {x1 : Int32} {σ : sg_T} {r : Int32} {σ' : sg_T}, rec 0 x1 σ = some (r, σ') → Ct l yX2_readE cX2_readE 3 (some .boolean) (rm_read n0) E [.ref (eP E 1), .int x1] σ (some (.int r)) σ') (ih_X2_readAnd : ∀ {x1 : Int32} {σ : sg_T} {r : Int32} {σ' : sg_T}, rec 1 x1 σ = some (r, σ') → Ct l yX2_readAnd cX2_readAnd 3 (some .boolean) (rm_read n0) E [.ref (eP E 1), .int x1] σ (some (.int r)) σ') (ih_X2_readNot : ∀ {x1 : Int32} {σ : sg_T} {r : Int32} {σ' : sg_T}, rec 2 x1 σ = some (r, σ') → Ct l yX2_readNot cX2_readNot 4 (some .boolean) (rm_read n0) E [.ref (eP E 1), .int x1] σ (some (.int r)) σ') (ih_X2_readSum : ∀ {x1 : Int32} {σ : sg_T} {r : Int32} {σ' : sg_T}, rec 3 x1 σ = some (r, σ') → Ct l yX2_readSum cX2_readSum 4 (some .boolean) (rm_read n0) E [.ref (eP E 1), .int x1] σ (some (.int r)) σ') (ih_X2_readTerm : ∀ {x1 : Int32} {σ : sg_T} {r : Int32} {σ' : sg_T}, rec 4 x1 σ = some (r, σ') → Ct l yX2_readTerm cX2_readTerm 3 (some .boolean) (rm_read n0) E [.ref (eP E 1), .int x1] σ (some (.int r)) σ') (ih_X2_readOne : ∀ {x1 : Int32} {σ : sg_T} {r : Int32} {σ' : sg_T}, rec 5 x1 σ = some (r, σ') → Ct l yX2_readOne cX2_readOne 4 (some .boolean) (rm_read n0) E [.ref (eP E 1), .int x1] σ (some (.int r)) σ') {x1 : Int32} {σ : sg_T} {r : Int32} {σ' : sg_T} (hf : f_X2_readOne rec x1 σ = some (r, σ')) : Ct l yX2_readOne cX2_readOne 4 (some .boolean) (rm_read (n0 + 1)) E [.ref (eP E 1), .int x1] σ (some (.int r)) σ' := by
  refine Ct.start (by decide) hR.1 (Nat.le_of_ble_eq_true rfl) ?_
  intro p e s m below meth c X hw ls hl
  have X : Cx E p s m _ meth c cX2_readOne 4 RX2 (some .boolean) := X
  have hl : lv_has ls 4 [(0, .ref (eP E 1)), (1, .int x1)] := hl
  unfold f_X2_readOne at hf
  refine lv_aload_n X.1 X.2.1 dX2_readOne_0 rfl (lv_at hl 0 rfl) ?_
  obtain ⟨r2, h1, hf⟩ := b_bd1 hf
  refine r_callV X hw (k_X2_now hR  h1) (sp1 hR) (C := RX2) (T := TX2) (N := 8) rfl qw270 qw272 qw8 qw68 qw273 okX2_now ⟨rfl, rfl⟩ ⟨(Nat.le_trans (m := 40) (Nat.le_of_ble_eq_true rfl) (Nat.le_add_left _ _)), (Nat.le_trans (m := 4000) (Nat.le_of_ble_eq_true rfl) (Nat.le_add_left _ _))⟩ ⟨Nat.zero_le _, Nat.zero_le _⟩ rfl hl.1 (rest := []) rfl (Nat.le_of_ble_eq_true rfl) dX2_readOne_1 (st1 := [.int r2]) rfl (fun H locs hw => ?_)
  refine lv_istore_n (lv' := [(2, .int r2), (0, .ref (eP E 1)), (1, .int x1)]) X.1 X.2.1 dX2_readOne_4 rfl hl (by decide) rfl (fun ls hl => ?_)
  refine lv_iload_n X.1 X.2.1 dX2_readOne_5 rfl (lv_at hl 0 rfl) ?_
  refine lv_sipush (v := 300) X.1 X.2.1 dX2_readOne_6 (by decide) ?_
  refine lv_icmp_ne (tgt := 51) X.1 X.2.1 dX2_readOne_9 (by decide) (fun c3 => ?_) (fun c3 => ?_)
  · have hf := if_e hf c3
    refine lv_iload_n X.1 X.2.1 dX2_readOne_51 rfl (lv_at hl 0 rfl) ?_
    refine lv_if_lt (tgt := 81) X.1 X.2.1 dX2_readOne_52 (by decide) (fun c4 => ?_) (fun c4 => ?_)
    · have hf := if_t hf c4
      refine lv_iload_n X.1 X.2.1 dX2_readOne_81 rfl (lv_at hl 0 rfl) ?_
      refine lv_bipush (v := 40) X.1 X.2.1 dX2_readOne_82 (by decide) ?_
      refine lv_icmp_eq (tgt := 93) X.1 X.2.1 dX2_readOne_84 (by decide) (fun c5 => ?_) (fun c5 => ?_)
      · have hf := if_t hf c5
        refine lv_iload_n X.1 X.2.1 dX2_readOne_93 rfl (lv_at hl 2 rfl) ?_
        refine lv_iconst (v := 5) X.1 X.2.1 dX2_readOne_94 (by decide) ?_
        refine lv_icmp_lt (tgt := 100) X.1 X.2.1 dX2_readOne_95 (by decide) (fun c6 => ?_) (fun c6 => ?_)
        · have hf := if_t hf c6
          refine lv_aload_n X.1 X.2.1 dX2_readOne_100 rfl (lv_at hl 1 rfl) ?_
          refine lv_dup X.1 X.2.1 dX2_readOne_101 rfl ?_
          refine r_get X hw (sp1 hR) (C := RX2) (T := TX2) (N := 8) rfl iwX2 6 (by decide) (Nat.le_of_ble_eq_true rfl) qw103 (v := .int (σ 1 6)) rfl dX2_readOne_102 ?_
          refine lv_iconst (v := 1) X.1 X.2.1 dX2_readOne_105 (by decide) ?_
          refine lv_iadd X.1 X.2.1 dX2_readOne_106 ?_
          refine r_put X hw (sp1 hR) (C := RX2) (T := TX2) (N := 8) rfl iwX2 tyX2 tyX2_ok nmX2 6 (by decide) (Nat.le_of_ble_eq_true rfl) qw103 rfl (v := .int ((σ 1 6) + 1)) rfl rfl (x := ((σ 1 6) + 1)) rfl dX2_readOne_107 (fun H locs hw => ?_)
          obtain ⟨σ7, e8, hf⟩ := b_bnd hf
          rw [← e8] at hw
          refine lv_iload_n X.1 X.2.1 dX2_readOne_110 rfl (lv_at hl 0 rfl) ?_
          refine lv_bipush (v := 40) X.1 X.2.1 dX2_readOne_111 (by decide) ?_
          refine lv_icmp_ne (tgt := 141) X.1 X.2.1 dX2_readOne_113 (by decide) (fun c9 => ?_) (fun c9 => ?_)
          · have hf := if_e hf c9
            refine lv_aload_n X.1 X.2.1 dX2_readOne_141 rfl (lv_at hl 1 rfl) ?_
            refine lv_iload_n X.1 X.2.1 dX2_readOne_142 rfl (lv_at hl 2 rfl) ?_
            refine lv_iconst (v := 1) X.1 X.2.1 dX2_readOne_143 (by decide) ?_
            refine lv_iadd X.1 X.2.1 dX2_readOne_144 ?_
            obtain ⟨r11, σ12, h10, hf⟩ := b_bd2 hf
            refine r_callV X hw (ih_X2_readOne  h10) (sp1 hR) (C := RX2) (T := TX2) (N := 8) rfl qw302 qw304 qw14 qw68 qw305 okX2_readOne ⟨rfl, rfl⟩ (rm_read_ok n0 (by decide)) ⟨Nat.zero_le _, Nat.zero_le _⟩ rfl hl.1 (rest := []) rfl (Nat.le_of_ble_eq_true rfl) dX2_readOne_145 (st1 := [.int r11]) rfl (fun H locs hw => ?_)
            refine lv_istore_n (lv' := [(3, .int r11), (2, .int r2), (0, .ref (eP E 1)), (1, .int x1)]) X.1 X.2.1 dX2_readOne_148 rfl hl (by decide) rfl (fun ls hl => ?_)
            refine lv_aload_n X.1 X.2.1 dX2_readOne_149 rfl (lv_at hl 2 rfl) ?_
            obtain ⟨h13, h14, hf⟩ := b_cT hf
            refine r_get X hw (sp1 hR) (C := RX2) (T := TX2) (N := 8) rfl iwX2 7 (by decide) (Nat.le_of_ble_eq_true rfl) qw104 (v := .ref (eP E ((σ12 1 7).toNatClampNeg))) (fv_dyn h14) dX2_readOne_150 ?_
            refine lv_bipush (v := 20) X.1 X.2.1 dX2_readOne_153 (by decide) ?_
            obtain ⟨σ16, h15, hf⟩ := b_bd1 hf
            refine r_callV X hw (k_X5_addStep hR h13 h15) (spT0 hR h13) (C := RX5) (T := TX5) (N := 3) rfl qw286 qw287 qw288 qw70 qw289 okX5_addStep ⟨rfl, rfl⟩ ⟨(Nat.le_trans (m := 40) (Nat.le_of_ble_eq_true rfl) (Nat.le_add_left _ _)), (Nat.le_trans (m := 4000) (Nat.le_of_ble_eq_true rfl) (Nat.le_add_left _ _))⟩ ⟨Nat.zero_le _, Nat.zero_le _⟩ rfl hl.1 (rest := []) rfl (Nat.le_of_ble_eq_true rfl) dX2_readOne_155 (st1 := []) rfl (fun H locs hw => ?_)
            refine lv_iload_n X.1 X.2.1 dX2_readOne_158 rfl (lv_at hl 0 rfl) ?_
            obtain ⟨h17, hf⟩ := b_cz hf
            obtain ⟨rfl, rfl⟩ := Prod.mk.inj (Option.some.inj hf)
            exact r_zret X hw (cz_and h17) dX2_readOne_159
          · have hf := if_t hf c9
            refine lv_aload_n X.1 X.2.1 dX2_readOne_116 rfl (lv_at hl 1 rfl) ?_
            refine lv_iload_n X.1 X.2.1 dX2_readOne_117 rfl (lv_at hl 2 rfl) ?_
            refine lv_iconst (v := 1) X.1 X.2.1 dX2_readOne_118 (by decide) ?_
            refine lv_iadd X.1 X.2.1 dX2_readOne_119 ?_
            obtain ⟨r19, σ20, h18, hf⟩ := b_bd2 hf
            refine r_callV X hw (ih_X2_readE  h18) (sp1 hR) (C := RX2) (T := TX2) (N := 8) rfl qw274 qw276 qw9 qw68 qw277 okX2_readE ⟨rfl, rfl⟩ (rm_read_ok n0 (by decide)) ⟨Nat.zero_le _, Nat.zero_le _⟩ rfl hl.1 (rest := []) rfl (Nat.le_of_ble_eq_true rfl) dX2_readOne_120 (st1 := [.int r19]) rfl (fun H locs hw => ?_)
            refine lv_if_eq (tgt := 139) X.1 X.2.1 dX2_readOne_123 (by decide) (fun c21 => ?_) (fun c21 => ?_)
            · have hf := if_t hf c21
              refine lv_iconst (v := 0) X.1 X.2.1 dX2_readOne_139 (by decide) ?_
              obtain ⟨rfl, rfl⟩ := Prod.mk.inj (Option.some.inj hf)
              exact r_zret X hw (by decide) dX2_readOne_140
            · have hf := if_e hf c21
              refine lv_aload_n X.1 X.2.1 dX2_readOne_126 rfl (lv_at hl 1 rfl) ?_
              refine lv_bipush (v := 41) X.1 X.2.1 dX2_readOne_127 (by decide) ?_
              obtain ⟨r23, σ24, h22, hf⟩ := b_bd2 hf
              refine r_callV X hw (k_X2_pass hR  h22) (sp1 hR) (C := RX2) (T := TX2) (N := 8) rfl qw266 qw268 qw7 qw68 qw269 okX2_pass ⟨rfl, rfl⟩ ⟨(Nat.le_trans (m := 40) (Nat.le_of_ble_eq_true rfl) (Nat.le_add_left _ _)), (Nat.le_trans (m := 4000) (Nat.le_of_ble_eq_true rfl) (Nat.le_add_left _ _))⟩ ⟨Nat.zero_le _, Nat.zero_le _⟩ rfl hl.1 (rest := []) rfl (Nat.le_of_ble_eq_true rfl) dX2_readOne_129 (st1 := [.int r23]) rfl (fun H locs hw => ?_)
              obtain ⟨v26, e27, hf⟩ := b_bnd hf
              refine r_join (g2 := F0 m 140 ls [.int v26]) ?_ (fun hj => ?_)
              · obtain ⟨h28, hf⟩ := b_cz hf
                obtain ⟨rfl, rfl⟩ := Prod.mk.inj (Option.some.inj hf)
                exact r_zret X hw (cz_and h28) dX2_readOne_140
              · refine lv_if_eq (tgt := 139) X.1 X.2.1 dX2_readOne_132 (by decide) (fun c25 => ?_) (fun c25 => ?_)
                · rw [e27, if_pos c25] at hj
                  refine lv_iconst (v := 0) X.1 X.2.1 dX2_readOne_139 (by decide) ?_
                  exact hj
                · rw [e27, if_neg c25] at hj
                  refine lv_iconst (v := 1) X.1 X.2.1 dX2_readOne_135 (by decide) ?_
                  refine lv_goto (tgt := 140) X.1 X.2.1 dX2_readOne_136 (by decide) ?_
                  exact hj
        · have hf := if_e hf c6
          refine lv_iconst (v := 0) X.1 X.2.1 dX2_readOne_98 (by decide) ?_
          obtain ⟨rfl, rfl⟩ := Prod.mk.inj (Option.some.inj hf)
          exact r_zret X hw (by decide) dX2_readOne_99
      · have hf := if_e hf c5
        refine lv_iload_n X.1 X.2.1 dX2_readOne_87 rfl (lv_at hl 0 rfl) ?_
        refine lv_bipush (v := 45) X.1 X.2.1 dX2_readOne_88 (by decide) ?_
        refine lv_icmp_ne (tgt := 98) X.1 X.2.1 dX2_readOne_90 (by decide) (fun c29 => ?_) (fun c29 => ?_)
        · have hf := if_e hf c29
          refine lv_iconst (v := 0) X.1 X.2.1 dX2_readOne_98 (by decide) ?_
          obtain ⟨rfl, rfl⟩ := Prod.mk.inj (Option.some.inj hf)
          exact r_zret X hw (by decide) dX2_readOne_99
        · have hf := if_t hf c29
          refine lv_iload_n X.1 X.2.1 dX2_readOne_93 rfl (lv_at hl 2 rfl) ?_
          refine lv_iconst (v := 5) X.1 X.2.1 dX2_readOne_94 (by decide) ?_
          refine lv_icmp_lt (tgt := 100) X.1 X.2.1 dX2_readOne_95 (by decide) (fun c30 => ?_) (fun c30 => ?_)
          · have hf := if_t hf c30
            refine lv_aload_n X.1 X.2.1 dX2_readOne_100 rfl (lv_at hl 1 rfl) ?_
            refine lv_dup X.1 X.2.1 dX2_readOne_101 rfl ?_
            refine r_get X hw (sp1 hR) (C := RX2) (T := TX2) (N := 8) rfl iwX2 6 (by decide) (Nat.le_of_ble_eq_true rfl) qw103 (v := .int (σ 1 6)) rfl dX2_readOne_102 ?_
            refine lv_iconst (v := 1) X.1 X.2.1 dX2_readOne_105 (by decide) ?_
            refine lv_iadd X.1 X.2.1 dX2_readOne_106 ?_
            refine r_put X hw (sp1 hR) (C := RX2) (T := TX2) (N := 8) rfl iwX2 tyX2 tyX2_ok nmX2 6 (by decide) (Nat.le_of_ble_eq_true rfl) qw103 rfl (v := .int ((σ 1 6) + 1)) rfl rfl (x := ((σ 1 6) + 1)) rfl dX2_readOne_107 (fun H locs hw => ?_)
            obtain ⟨σ31, e32, hf⟩ := b_bnd hf
            rw [← e32] at hw
            refine lv_iload_n X.1 X.2.1 dX2_readOne_110 rfl (lv_at hl 0 rfl) ?_
            refine lv_bipush (v := 40) X.1 X.2.1 dX2_readOne_111 (by decide) ?_
            refine lv_icmp_ne (tgt := 141) X.1 X.2.1 dX2_readOne_113 (by decide) (fun c33 => ?_) (fun c33 => ?_)
            · have hf := if_e hf c33
              refine lv_aload_n X.1 X.2.1 dX2_readOne_141 rfl (lv_at hl 1 rfl) ?_
              refine lv_iload_n X.1 X.2.1 dX2_readOne_142 rfl (lv_at hl 2 rfl) ?_
              refine lv_iconst (v := 1) X.1 X.2.1 dX2_readOne_143 (by decide) ?_
              refine lv_iadd X.1 X.2.1 dX2_readOne_144 ?_
              obtain ⟨r35, σ36, h34, hf⟩ := b_bd2 hf
              refine r_callV X hw (ih_X2_readOne  h34) (sp1 hR) (C := RX2) (T := TX2) (N := 8) rfl qw302 qw304 qw14 qw68 qw305 okX2_readOne ⟨rfl, rfl⟩ (rm_read_ok n0 (by decide)) ⟨Nat.zero_le _, Nat.zero_le _⟩ rfl hl.1 (rest := []) rfl (Nat.le_of_ble_eq_true rfl) dX2_readOne_145 (st1 := [.int r35]) rfl (fun H locs hw => ?_)
              refine lv_istore_n (lv' := [(3, .int r35), (2, .int r2), (0, .ref (eP E 1)), (1, .int x1)]) X.1 X.2.1 dX2_readOne_148 rfl hl (by decide) rfl (fun ls hl => ?_)
              refine lv_aload_n X.1 X.2.1 dX2_readOne_149 rfl (lv_at hl 2 rfl) ?_
              obtain ⟨h37, h38, hf⟩ := b_cT hf
              refine r_get X hw (sp1 hR) (C := RX2) (T := TX2) (N := 8) rfl iwX2 7 (by decide) (Nat.le_of_ble_eq_true rfl) qw104 (v := .ref (eP E ((σ36 1 7).toNatClampNeg))) (fv_dyn h38) dX2_readOne_150 ?_
              refine lv_bipush (v := 20) X.1 X.2.1 dX2_readOne_153 (by decide) ?_
              obtain ⟨σ40, h39, hf⟩ := b_bd1 hf
              refine r_callV X hw (k_X5_addStep hR h37 h39) (spT0 hR h37) (C := RX5) (T := TX5) (N := 3) rfl qw286 qw287 qw288 qw70 qw289 okX5_addStep ⟨rfl, rfl⟩ ⟨(Nat.le_trans (m := 40) (Nat.le_of_ble_eq_true rfl) (Nat.le_add_left _ _)), (Nat.le_trans (m := 4000) (Nat.le_of_ble_eq_true rfl) (Nat.le_add_left _ _))⟩ ⟨Nat.zero_le _, Nat.zero_le _⟩ rfl hl.1 (rest := []) rfl (Nat.le_of_ble_eq_true rfl) dX2_readOne_155 (st1 := []) rfl (fun H locs hw => ?_)
              refine lv_iload_n X.1 X.2.1 dX2_readOne_158 rfl (lv_at hl 0 rfl) ?_
              obtain ⟨h41, hf⟩ := b_cz hf
              obtain ⟨rfl, rfl⟩ := Prod.mk.inj (Option.some.inj hf)
              exact r_zret X hw (cz_and h41) dX2_readOne_159
            · have hf := if_t hf c33
              refine lv_aload_n X.1 X.2.1 dX2_readOne_116 rfl (lv_at hl 1 rfl) ?_
              refine lv_iload_n X.1 X.2.1 dX2_readOne_117 rfl (lv_at hl 2 rfl) ?_
              refine lv_iconst (v := 1) X.1 X.2.1 dX2_readOne_118 (by decide) ?_
              refine lv_iadd X.1 X.2.1 dX2_readOne_119 ?_
              obtain ⟨r43, σ44, h42, hf⟩ := b_bd2 hf
              refine r_callV X hw (ih_X2_readE  h42) (sp1 hR) (C := RX2) (T := TX2) (N := 8) rfl qw274 qw276 qw9 qw68 qw277 okX2_readE ⟨rfl, rfl⟩ (rm_read_ok n0 (by decide)) ⟨Nat.zero_le _, Nat.zero_le _⟩ rfl hl.1 (rest := []) rfl (Nat.le_of_ble_eq_true rfl) dX2_readOne_120 (st1 := [.int r43]) rfl (fun H locs hw => ?_)
              refine lv_if_eq (tgt := 139) X.1 X.2.1 dX2_readOne_123 (by decide) (fun c45 => ?_) (fun c45 => ?_)
              · have hf := if_t hf c45
                refine lv_iconst (v := 0) X.1 X.2.1 dX2_readOne_139 (by decide) ?_
                obtain ⟨rfl, rfl⟩ := Prod.mk.inj (Option.some.inj hf)
                exact r_zret X hw (by decide) dX2_readOne_140
              · have hf := if_e hf c45
                refine lv_aload_n X.1 X.2.1 dX2_readOne_126 rfl (lv_at hl 1 rfl) ?_
                refine lv_bipush (v := 41) X.1 X.2.1 dX2_readOne_127 (by decide) ?_
                obtain ⟨r47, σ48, h46, hf⟩ := b_bd2 hf
                refine r_callV X hw (k_X2_pass hR  h46) (sp1 hR) (C := RX2) (T := TX2) (N := 8) rfl qw266 qw268 qw7 qw68 qw269 okX2_pass ⟨rfl, rfl⟩ ⟨(Nat.le_trans (m := 40) (Nat.le_of_ble_eq_true rfl) (Nat.le_add_left _ _)), (Nat.le_trans (m := 4000) (Nat.le_of_ble_eq_true rfl) (Nat.le_add_left _ _))⟩ ⟨Nat.zero_le _, Nat.zero_le _⟩ rfl hl.1 (rest := []) rfl (Nat.le_of_ble_eq_true rfl) dX2_readOne_129 (st1 := [.int r47]) rfl (fun H locs hw => ?_)
                obtain ⟨v50, e51, hf⟩ := b_bnd hf
                refine r_join (g2 := F0 m 140 ls [.int v50]) ?_ (fun hj => ?_)
                · obtain ⟨h52, hf⟩ := b_cz hf
                  obtain ⟨rfl, rfl⟩ := Prod.mk.inj (Option.some.inj hf)
                  exact r_zret X hw (cz_and h52) dX2_readOne_140
                · refine lv_if_eq (tgt := 139) X.1 X.2.1 dX2_readOne_132 (by decide) (fun c49 => ?_) (fun c49 => ?_)
                  · rw [e51, if_pos c49] at hj
                    refine lv_iconst (v := 0) X.1 X.2.1 dX2_readOne_139 (by decide) ?_
                    exact hj
                  · rw [e51, if_neg c49] at hj
                    refine lv_iconst (v := 1) X.1 X.2.1 dX2_readOne_135 (by decide) ?_
                    refine lv_goto (tgt := 140) X.1 X.2.1 dX2_readOne_136 (by decide) ?_
                    exact hj
          · have hf := if_e hf c30
            refine lv_iconst (v := 0) X.1 X.2.1 dX2_readOne_98 (by decide) ?_
            obtain ⟨rfl, rfl⟩ := Prod.mk.inj (Option.some.inj hf)
            exact r_zret X hw (by decide) dX2_readOne_99
    · have hf := if_e hf c4
      refine lv_iload_n X.1 X.2.1 dX2_readOne_55 rfl (lv_at hl 0 rfl) ?_
      refine lv_bipush (v := 6) X.1 X.2.1 dX2_readOne_56 (by decide) ?_
      refine lv_icmp_ge (tgt := 81) X.1 X.2.1 dX2_readOne_58 (by decide) (fun c53 => ?_) (fun c53 => ?_)
      · have hf := if_t hf c53
        refine lv_iload_n X.1 X.2.1 dX2_readOne_81 rfl (lv_at hl 0 rfl) ?_
        refine lv_bipush (v := 40) X.1 X.2.1 dX2_readOne_82 (by decide) ?_
        refine lv_icmp_eq (tgt := 93) X.1 X.2.1 dX2_readOne_84 (by decide) (fun c54 => ?_) (fun c54 => ?_)
        · have hf := if_t hf c54
          refine lv_iload_n X.1 X.2.1 dX2_readOne_93 rfl (lv_at hl 2 rfl) ?_
          refine lv_iconst (v := 5) X.1 X.2.1 dX2_readOne_94 (by decide) ?_
          refine lv_icmp_lt (tgt := 100) X.1 X.2.1 dX2_readOne_95 (by decide) (fun c55 => ?_) (fun c55 => ?_)
          · have hf := if_t hf c55
            refine lv_aload_n X.1 X.2.1 dX2_readOne_100 rfl (lv_at hl 1 rfl) ?_
            refine lv_dup X.1 X.2.1 dX2_readOne_101 rfl ?_
            refine r_get X hw (sp1 hR) (C := RX2) (T := TX2) (N := 8) rfl iwX2 6 (by decide) (Nat.le_of_ble_eq_true rfl) qw103 (v := .int (σ 1 6)) rfl dX2_readOne_102 ?_
            refine lv_iconst (v := 1) X.1 X.2.1 dX2_readOne_105 (by decide) ?_
            refine lv_iadd X.1 X.2.1 dX2_readOne_106 ?_
            refine r_put X hw (sp1 hR) (C := RX2) (T := TX2) (N := 8) rfl iwX2 tyX2 tyX2_ok nmX2 6 (by decide) (Nat.le_of_ble_eq_true rfl) qw103 rfl (v := .int ((σ 1 6) + 1)) rfl rfl (x := ((σ 1 6) + 1)) rfl dX2_readOne_107 (fun H locs hw => ?_)
            obtain ⟨σ56, e57, hf⟩ := b_bnd hf
            rw [← e57] at hw
            refine lv_iload_n X.1 X.2.1 dX2_readOne_110 rfl (lv_at hl 0 rfl) ?_
            refine lv_bipush (v := 40) X.1 X.2.1 dX2_readOne_111 (by decide) ?_
            refine lv_icmp_ne (tgt := 141) X.1 X.2.1 dX2_readOne_113 (by decide) (fun c58 => ?_) (fun c58 => ?_)
            · have hf := if_e hf c58
              refine lv_aload_n X.1 X.2.1 dX2_readOne_141 rfl (lv_at hl 1 rfl) ?_
              refine lv_iload_n X.1 X.2.1 dX2_readOne_142 rfl (lv_at hl 2 rfl) ?_
              refine lv_iconst (v := 1) X.1 X.2.1 dX2_readOne_143 (by decide) ?_
              refine lv_iadd X.1 X.2.1 dX2_readOne_144 ?_
              obtain ⟨r60, σ61, h59, hf⟩ := b_bd2 hf
              refine r_callV X hw (ih_X2_readOne  h59) (sp1 hR) (C := RX2) (T := TX2) (N := 8) rfl qw302 qw304 qw14 qw68 qw305 okX2_readOne ⟨rfl, rfl⟩ (rm_read_ok n0 (by decide)) ⟨Nat.zero_le _, Nat.zero_le _⟩ rfl hl.1 (rest := []) rfl (Nat.le_of_ble_eq_true rfl) dX2_readOne_145 (st1 := [.int r60]) rfl (fun H locs hw => ?_)
              refine lv_istore_n (lv' := [(3, .int r60), (2, .int r2), (0, .ref (eP E 1)), (1, .int x1)]) X.1 X.2.1 dX2_readOne_148 rfl hl (by decide) rfl (fun ls hl => ?_)
              refine lv_aload_n X.1 X.2.1 dX2_readOne_149 rfl (lv_at hl 2 rfl) ?_
              obtain ⟨h62, h63, hf⟩ := b_cT hf
              refine r_get X hw (sp1 hR) (C := RX2) (T := TX2) (N := 8) rfl iwX2 7 (by decide) (Nat.le_of_ble_eq_true rfl) qw104 (v := .ref (eP E ((σ61 1 7).toNatClampNeg))) (fv_dyn h63) dX2_readOne_150 ?_
              refine lv_bipush (v := 20) X.1 X.2.1 dX2_readOne_153 (by decide) ?_
              obtain ⟨σ65, h64, hf⟩ := b_bd1 hf
              refine r_callV X hw (k_X5_addStep hR h62 h64) (spT0 hR h62) (C := RX5) (T := TX5) (N := 3) rfl qw286 qw287 qw288 qw70 qw289 okX5_addStep ⟨rfl, rfl⟩ ⟨(Nat.le_trans (m := 40) (Nat.le_of_ble_eq_true rfl) (Nat.le_add_left _ _)), (Nat.le_trans (m := 4000) (Nat.le_of_ble_eq_true rfl) (Nat.le_add_left _ _))⟩ ⟨Nat.zero_le _, Nat.zero_le _⟩ rfl hl.1 (rest := []) rfl (Nat.le_of_ble_eq_true rfl) dX2_readOne_155 (st1 := []) rfl (fun H locs hw => ?_)
              refine lv_iload_n X.1 X.2.1 dX2_readOne_158 rfl (lv_at hl 0 rfl) ?_
              obtain ⟨h66, hf⟩ := b_cz hf
              obtain ⟨rfl, rfl⟩ := Prod.mk.inj (Option.some.inj hf)
              exact r_zret X hw (cz_and h66) dX2_readOne_159
            · have hf := if_t hf c58
              refine lv_aload_n X.1 X.2.1 dX2_readOne_116 rfl (lv_at hl 1 rfl) ?_
              refine lv_iload_n X.1 X.2.1 dX2_readOne_117 rfl (lv_at hl 2 rfl) ?_
              refine lv_iconst (v := 1) X.1 X.2.1 dX2_readOne_118 (by decide) ?_
              refine lv_iadd X.1 X.2.1 dX2_readOne_119 ?_
              obtain ⟨r68, σ69, h67, hf⟩ := b_bd2 hf
              refine r_callV X hw (ih_X2_readE  h67) (sp1 hR) (C := RX2) (T := TX2) (N := 8) rfl qw274 qw276 qw9 qw68 qw277 okX2_readE ⟨rfl, rfl⟩ (rm_read_ok n0 (by decide)) ⟨Nat.zero_le _, Nat.zero_le _⟩ rfl hl.1 (rest := []) rfl (Nat.le_of_ble_eq_true rfl) dX2_readOne_120 (st1 := [.int r68]) rfl (fun H locs hw => ?_)
              refine lv_if_eq (tgt := 139) X.1 X.2.1 dX2_readOne_123 (by decide) (fun c70 => ?_) (fun c70 => ?_)
              · have hf := if_t hf c70
                refine lv_iconst (v := 0) X.1 X.2.1 dX2_readOne_139 (by decide) ?_
                obtain ⟨rfl, rfl⟩ := Prod.mk.inj (Option.some.inj hf)
                exact r_zret X hw (by decide) dX2_readOne_140
              · have hf := if_e hf c70
                refine lv_aload_n X.1 X.2.1 dX2_readOne_126 rfl (lv_at hl 1 rfl) ?_
                refine lv_bipush (v := 41) X.1 X.2.1 dX2_readOne_127 (by decide) ?_
                obtain ⟨r72, σ73, h71, hf⟩ := b_bd2 hf
                refine r_callV X hw (k_X2_pass hR  h71) (sp1 hR) (C := RX2) (T := TX2) (N := 8) rfl qw266 qw268 qw7 qw68 qw269 okX2_pass ⟨rfl, rfl⟩ ⟨(Nat.le_trans (m := 40) (Nat.le_of_ble_eq_true rfl) (Nat.le_add_left _ _)), (Nat.le_trans (m := 4000) (Nat.le_of_ble_eq_true rfl) (Nat.le_add_left _ _))⟩ ⟨Nat.zero_le _, Nat.zero_le _⟩ rfl hl.1 (rest := []) rfl (Nat.le_of_ble_eq_true rfl) dX2_readOne_129 (st1 := [.int r72]) rfl (fun H locs hw => ?_)
                obtain ⟨v75, e76, hf⟩ := b_bnd hf
                refine r_join (g2 := F0 m 140 ls [.int v75]) ?_ (fun hj => ?_)
                · obtain ⟨h77, hf⟩ := b_cz hf
                  obtain ⟨rfl, rfl⟩ := Prod.mk.inj (Option.some.inj hf)
                  exact r_zret X hw (cz_and h77) dX2_readOne_140
                · refine lv_if_eq (tgt := 139) X.1 X.2.1 dX2_readOne_132 (by decide) (fun c74 => ?_) (fun c74 => ?_)
                  · rw [e76, if_pos c74] at hj
                    refine lv_iconst (v := 0) X.1 X.2.1 dX2_readOne_139 (by decide) ?_
                    exact hj
                  · rw [e76, if_neg c74] at hj
                    refine lv_iconst (v := 1) X.1 X.2.1 dX2_readOne_135 (by decide) ?_
                    refine lv_goto (tgt := 140) X.1 X.2.1 dX2_readOne_136 (by decide) ?_
                    exact hj
          · have hf := if_e hf c55
            refine lv_iconst (v := 0) X.1 X.2.1 dX2_readOne_98 (by decide) ?_
            obtain ⟨rfl, rfl⟩ := Prod.mk.inj (Option.some.inj hf)
            exact r_zret X hw (by decide) dX2_readOne_99
        · have hf := if_e hf c54
          refine lv_iload_n X.1 X.2.1 dX2_readOne_87 rfl (lv_at hl 0 rfl) ?_
          refine lv_bipush (v := 45) X.1 X.2.1 dX2_readOne_88 (by decide) ?_
          refine lv_icmp_ne (tgt := 98) X.1 X.2.1 dX2_readOne_90 (by decide) (fun c78 => ?_) (fun c78 => ?_)
          · have hf := if_e hf c78
            refine lv_iconst (v := 0) X.1 X.2.1 dX2_readOne_98 (by decide) ?_
            obtain ⟨rfl, rfl⟩ := Prod.mk.inj (Option.some.inj hf)
            exact r_zret X hw (by decide) dX2_readOne_99
          · have hf := if_t hf c78
            refine lv_iload_n X.1 X.2.1 dX2_readOne_93 rfl (lv_at hl 2 rfl) ?_
            refine lv_iconst (v := 5) X.1 X.2.1 dX2_readOne_94 (by decide) ?_
            refine lv_icmp_lt (tgt := 100) X.1 X.2.1 dX2_readOne_95 (by decide) (fun c79 => ?_) (fun c79 => ?_)
            · have hf := if_t hf c79
              refine lv_aload_n X.1 X.2.1 dX2_readOne_100 rfl (lv_at hl 1 rfl) ?_
              refine lv_dup X.1 X.2.1 dX2_readOne_101 rfl ?_
              refine r_get X hw (sp1 hR) (C := RX2) (T := TX2) (N := 8) rfl iwX2 6 (by decide) (Nat.le_of_ble_eq_true rfl) qw103 (v := .int (σ 1 6)) rfl dX2_readOne_102 ?_
              refine lv_iconst (v := 1) X.1 X.2.1 dX2_readOne_105 (by decide) ?_
              refine lv_iadd X.1 X.2.1 dX2_readOne_106 ?_
              refine r_put X hw (sp1 hR) (C := RX2) (T := TX2) (N := 8) rfl iwX2 tyX2 tyX2_ok nmX2 6 (by decide) (Nat.le_of_ble_eq_true rfl) qw103 rfl (v := .int ((σ 1 6) + 1)) rfl rfl (x := ((σ 1 6) + 1)) rfl dX2_readOne_107 (fun H locs hw => ?_)
              obtain ⟨σ80, e81, hf⟩ := b_bnd hf
              rw [← e81] at hw
              refine lv_iload_n X.1 X.2.1 dX2_readOne_110 rfl (lv_at hl 0 rfl) ?_
              refine lv_bipush (v := 40) X.1 X.2.1 dX2_readOne_111 (by decide) ?_
              refine lv_icmp_ne (tgt := 141) X.1 X.2.1 dX2_readOne_113 (by decide) (fun c82 => ?_) (fun c82 => ?_)
              · have hf := if_e hf c82
                refine lv_aload_n X.1 X.2.1 dX2_readOne_141 rfl (lv_at hl 1 rfl) ?_
                refine lv_iload_n X.1 X.2.1 dX2_readOne_142 rfl (lv_at hl 2 rfl) ?_
                refine lv_iconst (v := 1) X.1 X.2.1 dX2_readOne_143 (by decide) ?_
                refine lv_iadd X.1 X.2.1 dX2_readOne_144 ?_
                obtain ⟨r84, σ85, h83, hf⟩ := b_bd2 hf
                refine r_callV X hw (ih_X2_readOne  h83) (sp1 hR) (C := RX2) (T := TX2) (N := 8) rfl qw302 qw304 qw14 qw68 qw305 okX2_readOne ⟨rfl, rfl⟩ (rm_read_ok n0 (by decide)) ⟨Nat.zero_le _, Nat.zero_le _⟩ rfl hl.1 (rest := []) rfl (Nat.le_of_ble_eq_true rfl) dX2_readOne_145 (st1 := [.int r84]) rfl (fun H locs hw => ?_)
                refine lv_istore_n (lv' := [(3, .int r84), (2, .int r2), (0, .ref (eP E 1)), (1, .int x1)]) X.1 X.2.1 dX2_readOne_148 rfl hl (by decide) rfl (fun ls hl => ?_)
                refine lv_aload_n X.1 X.2.1 dX2_readOne_149 rfl (lv_at hl 2 rfl) ?_
                obtain ⟨h86, h87, hf⟩ := b_cT hf
                refine r_get X hw (sp1 hR) (C := RX2) (T := TX2) (N := 8) rfl iwX2 7 (by decide) (Nat.le_of_ble_eq_true rfl) qw104 (v := .ref (eP E ((σ85 1 7).toNatClampNeg))) (fv_dyn h87) dX2_readOne_150 ?_
                refine lv_bipush (v := 20) X.1 X.2.1 dX2_readOne_153 (by decide) ?_
                obtain ⟨σ89, h88, hf⟩ := b_bd1 hf
                refine r_callV X hw (k_X5_addStep hR h86 h88) (spT0 hR h86) (C := RX5) (T := TX5) (N := 3) rfl qw286 qw287 qw288 qw70 qw289 okX5_addStep ⟨rfl, rfl⟩ ⟨(Nat.le_trans (m := 40) (Nat.le_of_ble_eq_true rfl) (Nat.le_add_left _ _)), (Nat.le_trans (m := 4000) (Nat.le_of_ble_eq_true rfl) (Nat.le_add_left _ _))⟩ ⟨Nat.zero_le _, Nat.zero_le _⟩ rfl hl.1 (rest := []) rfl (Nat.le_of_ble_eq_true rfl) dX2_readOne_155 (st1 := []) rfl (fun H locs hw => ?_)
                refine lv_iload_n X.1 X.2.1 dX2_readOne_158 rfl (lv_at hl 0 rfl) ?_
                obtain ⟨h90, hf⟩ := b_cz hf
                obtain ⟨rfl, rfl⟩ := Prod.mk.inj (Option.some.inj hf)
                exact r_zret X hw (cz_and h90) dX2_readOne_159
              · have hf := if_t hf c82
                refine lv_aload_n X.1 X.2.1 dX2_readOne_116 rfl (lv_at hl 1 rfl) ?_
                refine lv_iload_n X.1 X.2.1 dX2_readOne_117 rfl (lv_at hl 2 rfl) ?_
                refine lv_iconst (v := 1) X.1 X.2.1 dX2_readOne_118 (by decide) ?_
                refine lv_iadd X.1 X.2.1 dX2_readOne_119 ?_
                obtain ⟨r92, σ93, h91, hf⟩ := b_bd2 hf
                refine r_callV X hw (ih_X2_readE  h91) (sp1 hR) (C := RX2) (T := TX2) (N := 8) rfl qw274 qw276 qw9 qw68 qw277 okX2_readE ⟨rfl, rfl⟩ (rm_read_ok n0 (by decide)) ⟨Nat.zero_le _, Nat.zero_le _⟩ rfl hl.1 (rest := []) rfl (Nat.le_of_ble_eq_true rfl) dX2_readOne_120 (st1 := [.int r92]) rfl (fun H locs hw => ?_)
                refine lv_if_eq (tgt := 139) X.1 X.2.1 dX2_readOne_123 (by decide) (fun c94 => ?_) (fun c94 => ?_)
                · have hf := if_t hf c94
                  refine lv_iconst (v := 0) X.1 X.2.1 dX2_readOne_139 (by decide) ?_
                  obtain ⟨rfl, rfl⟩ := Prod.mk.inj (Option.some.inj hf)
                  exact r_zret X hw (by decide) dX2_readOne_140
                · have hf := if_e hf c94
                  refine lv_aload_n X.1 X.2.1 dX2_readOne_126 rfl (lv_at hl 1 rfl) ?_
                  refine lv_bipush (v := 41) X.1 X.2.1 dX2_readOne_127 (by decide) ?_
                  obtain ⟨r96, σ97, h95, hf⟩ := b_bd2 hf
                  refine r_callV X hw (k_X2_pass hR  h95) (sp1 hR) (C := RX2) (T := TX2) (N := 8) rfl qw266 qw268 qw7 qw68 qw269 okX2_pass ⟨rfl, rfl⟩ ⟨(Nat.le_trans (m := 40) (Nat.le_of_ble_eq_true rfl) (Nat.le_add_left _ _)), (Nat.le_trans (m := 4000) (Nat.le_of_ble_eq_true rfl) (Nat.le_add_left _ _))⟩ ⟨Nat.zero_le _, Nat.zero_le _⟩ rfl hl.1 (rest := []) rfl (Nat.le_of_ble_eq_true rfl) dX2_readOne_129 (st1 := [.int r96]) rfl (fun H locs hw => ?_)
                  obtain ⟨v99, e100, hf⟩ := b_bnd hf
                  refine r_join (g2 := F0 m 140 ls [.int v99]) ?_ (fun hj => ?_)
                  · obtain ⟨h101, hf⟩ := b_cz hf
                    obtain ⟨rfl, rfl⟩ := Prod.mk.inj (Option.some.inj hf)
                    exact r_zret X hw (cz_and h101) dX2_readOne_140
                  · refine lv_if_eq (tgt := 139) X.1 X.2.1 dX2_readOne_132 (by decide) (fun c98 => ?_) (fun c98 => ?_)
                    · rw [e100, if_pos c98] at hj
                      refine lv_iconst (v := 0) X.1 X.2.1 dX2_readOne_139 (by decide) ?_
                      exact hj
                    · rw [e100, if_neg c98] at hj
                      refine lv_iconst (v := 1) X.1 X.2.1 dX2_readOne_135 (by decide) ?_
                      refine lv_goto (tgt := 140) X.1 X.2.1 dX2_readOne_136 (by decide) ?_
                      exact hj
            · have hf := if_e hf c79
              refine lv_iconst (v := 0) X.1 X.2.1 dX2_readOne_98 (by decide) ?_
              obtain ⟨rfl, rfl⟩ := Prod.mk.inj (Option.some.inj hf)
              exact r_zret X hw (by decide) dX2_readOne_99
      · have hf := if_e hf c53
        refine lv_aload_n X.1 X.2.1 dX2_readOne_61 rfl (lv_at hl 1 rfl) ?_
        obtain ⟨h102, h103, hf⟩ := b_cT hf
        refine r_get X hw (sp1 hR) (C := RX2) (T := TX2) (N := 8) rfl iwX2 7 (by decide) (Nat.le_of_ble_eq_true rfl) qw104 (v := .ref (eP E ((σ 1 7).toNatClampNeg))) (fv_dyn h103) dX2_readOne_62 ?_
        refine lv_iload_n X.1 X.2.1 dX2_readOne_65 rfl (lv_at hl 0 rfl) ?_
        obtain ⟨σ105, h104, hf⟩ := b_bd1 hf
        refine r_callV X hw (k_X5_addStep hR h102 h104) (spT0 hR h102) (C := RX5) (T := TX5) (N := 3) rfl qw286 qw287 qw288 qw70 qw289 okX5_addStep ⟨rfl, rfl⟩ ⟨(Nat.le_trans (m := 40) (Nat.le_of_ble_eq_true rfl) (Nat.le_add_left _ _)), (Nat.le_trans (m := 4000) (Nat.le_of_ble_eq_true rfl) (Nat.le_add_left _ _))⟩ ⟨Nat.zero_le _, Nat.zero_le _⟩ rfl hl.1 (rest := []) rfl (Nat.le_of_ble_eq_true rfl) dX2_readOne_66 (st1 := []) rfl (fun H locs hw => ?_)
        refine lv_aload_n X.1 X.2.1 dX2_readOne_69 rfl (lv_at hl 1 rfl) ?_
        refine lv_dup X.1 X.2.1 dX2_readOne_70 rfl ?_
        refine r_get X hw (sp1 hR) (C := RX2) (T := TX2) (N := 8) rfl iwX2 6 (by decide) (Nat.le_of_ble_eq_true rfl) qw103 (v := .int (σ105 1 6)) rfl dX2_readOne_71 ?_
        refine lv_iconst (v := 1) X.1 X.2.1 dX2_readOne_74 (by decide) ?_
        refine lv_iadd X.1 X.2.1 dX2_readOne_75 ?_
        refine r_put X hw (sp1 hR) (C := RX2) (T := TX2) (N := 8) rfl iwX2 tyX2 tyX2_ok nmX2 6 (by decide) (Nat.le_of_ble_eq_true rfl) qw103 rfl (v := .int ((σ105 1 6) + 1)) rfl rfl (x := ((σ105 1 6) + 1)) rfl dX2_readOne_76 (fun H locs hw => ?_)
        obtain ⟨σ106, e107, hf⟩ := b_bnd hf
        rw [← e107] at hw
        refine lv_iconst (v := 1) X.1 X.2.1 dX2_readOne_79 (by decide) ?_
        obtain ⟨rfl, rfl⟩ := Prod.mk.inj (Option.some.inj hf)
        exact r_zret X hw (by decide) dX2_readOne_80
  · have hf := if_t hf c3
    refine lv_aload_n X.1 X.2.1 dX2_readOne_12 rfl (lv_at hl 1 rfl) ?_
    refine r_get X hw (sp1 hR) (C := RX2) (T := TX2) (N := 8) rfl iwX2 6 (by decide) (Nat.le_of_ble_eq_true rfl) qw103 (v := .int (σ 1 6)) rfl dX2_readOne_13 ?_
    refine lv_aload_n X.1 X.2.1 dX2_readOne_16 rfl (lv_at hl 1 rfl) ?_
    refine r_get X hw (sp1 hR) (C := RX2) (T := TX2) (N := 8) rfl iwX2 5 (by decide) (Nat.le_of_ble_eq_true rfl) qw102 (v := .int (σ 1 5)) rfl dX2_readOne_17 ?_
    refine lv_icmp_ge (tgt := 51) X.1 X.2.1 dX2_readOne_20 (by decide) (fun c108 => ?_) (fun c108 => ?_)
    · have hf := if_t hf c108
      refine lv_iload_n X.1 X.2.1 dX2_readOne_51 rfl (lv_at hl 0 rfl) ?_
      refine lv_if_lt (tgt := 81) X.1 X.2.1 dX2_readOne_52 (by decide) (fun c109 => ?_) (fun c109 => ?_)
      · have hf := if_t hf c109
        refine lv_iload_n X.1 X.2.1 dX2_readOne_81 rfl (lv_at hl 0 rfl) ?_
        refine lv_bipush (v := 40) X.1 X.2.1 dX2_readOne_82 (by decide) ?_
        refine lv_icmp_eq (tgt := 93) X.1 X.2.1 dX2_readOne_84 (by decide) (fun c110 => ?_) (fun c110 => ?_)
        · have hf := if_t hf c110
          refine lv_iload_n X.1 X.2.1 dX2_readOne_93 rfl (lv_at hl 2 rfl) ?_
          refine lv_iconst (v := 5) X.1 X.2.1 dX2_readOne_94 (by decide) ?_
          refine lv_icmp_lt (tgt := 100) X.1 X.2.1 dX2_readOne_95 (by decide) (fun c111 => ?_) (fun c111 => ?_)
          · have hf := if_t hf c111
            refine lv_aload_n X.1 X.2.1 dX2_readOne_100 rfl (lv_at hl 1 rfl) ?_
            refine lv_dup X.1 X.2.1 dX2_readOne_101 rfl ?_
            refine r_get X hw (sp1 hR) (C := RX2) (T := TX2) (N := 8) rfl iwX2 6 (by decide) (Nat.le_of_ble_eq_true rfl) qw103 (v := .int (σ 1 6)) rfl dX2_readOne_102 ?_
            refine lv_iconst (v := 1) X.1 X.2.1 dX2_readOne_105 (by decide) ?_
            refine lv_iadd X.1 X.2.1 dX2_readOne_106 ?_
            refine r_put X hw (sp1 hR) (C := RX2) (T := TX2) (N := 8) rfl iwX2 tyX2 tyX2_ok nmX2 6 (by decide) (Nat.le_of_ble_eq_true rfl) qw103 rfl (v := .int ((σ 1 6) + 1)) rfl rfl (x := ((σ 1 6) + 1)) rfl dX2_readOne_107 (fun H locs hw => ?_)
            obtain ⟨σ112, e113, hf⟩ := b_bnd hf
            rw [← e113] at hw
            refine lv_iload_n X.1 X.2.1 dX2_readOne_110 rfl (lv_at hl 0 rfl) ?_
            refine lv_bipush (v := 40) X.1 X.2.1 dX2_readOne_111 (by decide) ?_
            refine lv_icmp_ne (tgt := 141) X.1 X.2.1 dX2_readOne_113 (by decide) (fun c114 => ?_) (fun c114 => ?_)
            · have hf := if_e hf c114
              refine lv_aload_n X.1 X.2.1 dX2_readOne_141 rfl (lv_at hl 1 rfl) ?_
              refine lv_iload_n X.1 X.2.1 dX2_readOne_142 rfl (lv_at hl 2 rfl) ?_
              refine lv_iconst (v := 1) X.1 X.2.1 dX2_readOne_143 (by decide) ?_
              refine lv_iadd X.1 X.2.1 dX2_readOne_144 ?_
              obtain ⟨r116, σ117, h115, hf⟩ := b_bd2 hf
              refine r_callV X hw (ih_X2_readOne  h115) (sp1 hR) (C := RX2) (T := TX2) (N := 8) rfl qw302 qw304 qw14 qw68 qw305 okX2_readOne ⟨rfl, rfl⟩ (rm_read_ok n0 (by decide)) ⟨Nat.zero_le _, Nat.zero_le _⟩ rfl hl.1 (rest := []) rfl (Nat.le_of_ble_eq_true rfl) dX2_readOne_145 (st1 := [.int r116]) rfl (fun H locs hw => ?_)
              refine lv_istore_n (lv' := [(3, .int r116), (2, .int r2), (0, .ref (eP E 1)), (1, .int x1)]) X.1 X.2.1 dX2_readOne_148 rfl hl (by decide) rfl (fun ls hl => ?_)
              refine lv_aload_n X.1 X.2.1 dX2_readOne_149 rfl (lv_at hl 2 rfl) ?_
              obtain ⟨h118, h119, hf⟩ := b_cT hf
              refine r_get X hw (sp1 hR) (C := RX2) (T := TX2) (N := 8) rfl iwX2 7 (by decide) (Nat.le_of_ble_eq_true rfl) qw104 (v := .ref (eP E ((σ117 1 7).toNatClampNeg))) (fv_dyn h119) dX2_readOne_150 ?_
              refine lv_bipush (v := 20) X.1 X.2.1 dX2_readOne_153 (by decide) ?_
              obtain ⟨σ121, h120, hf⟩ := b_bd1 hf
              refine r_callV X hw (k_X5_addStep hR h118 h120) (spT0 hR h118) (C := RX5) (T := TX5) (N := 3) rfl qw286 qw287 qw288 qw70 qw289 okX5_addStep ⟨rfl, rfl⟩ ⟨(Nat.le_trans (m := 40) (Nat.le_of_ble_eq_true rfl) (Nat.le_add_left _ _)), (Nat.le_trans (m := 4000) (Nat.le_of_ble_eq_true rfl) (Nat.le_add_left _ _))⟩ ⟨Nat.zero_le _, Nat.zero_le _⟩ rfl hl.1 (rest := []) rfl (Nat.le_of_ble_eq_true rfl) dX2_readOne_155 (st1 := []) rfl (fun H locs hw => ?_)
              refine lv_iload_n X.1 X.2.1 dX2_readOne_158 rfl (lv_at hl 0 rfl) ?_
              obtain ⟨h122, hf⟩ := b_cz hf
              obtain ⟨rfl, rfl⟩ := Prod.mk.inj (Option.some.inj hf)
              exact r_zret X hw (cz_and h122) dX2_readOne_159
            · have hf := if_t hf c114
              refine lv_aload_n X.1 X.2.1 dX2_readOne_116 rfl (lv_at hl 1 rfl) ?_
              refine lv_iload_n X.1 X.2.1 dX2_readOne_117 rfl (lv_at hl 2 rfl) ?_
              refine lv_iconst (v := 1) X.1 X.2.1 dX2_readOne_118 (by decide) ?_
              refine lv_iadd X.1 X.2.1 dX2_readOne_119 ?_
              obtain ⟨r124, σ125, h123, hf⟩ := b_bd2 hf
              refine r_callV X hw (ih_X2_readE  h123) (sp1 hR) (C := RX2) (T := TX2) (N := 8) rfl qw274 qw276 qw9 qw68 qw277 okX2_readE ⟨rfl, rfl⟩ (rm_read_ok n0 (by decide)) ⟨Nat.zero_le _, Nat.zero_le _⟩ rfl hl.1 (rest := []) rfl (Nat.le_of_ble_eq_true rfl) dX2_readOne_120 (st1 := [.int r124]) rfl (fun H locs hw => ?_)
              refine lv_if_eq (tgt := 139) X.1 X.2.1 dX2_readOne_123 (by decide) (fun c126 => ?_) (fun c126 => ?_)
              · have hf := if_t hf c126
                refine lv_iconst (v := 0) X.1 X.2.1 dX2_readOne_139 (by decide) ?_
                obtain ⟨rfl, rfl⟩ := Prod.mk.inj (Option.some.inj hf)
                exact r_zret X hw (by decide) dX2_readOne_140
              · have hf := if_e hf c126
                refine lv_aload_n X.1 X.2.1 dX2_readOne_126 rfl (lv_at hl 1 rfl) ?_
                refine lv_bipush (v := 41) X.1 X.2.1 dX2_readOne_127 (by decide) ?_
                obtain ⟨r128, σ129, h127, hf⟩ := b_bd2 hf
                refine r_callV X hw (k_X2_pass hR  h127) (sp1 hR) (C := RX2) (T := TX2) (N := 8) rfl qw266 qw268 qw7 qw68 qw269 okX2_pass ⟨rfl, rfl⟩ ⟨(Nat.le_trans (m := 40) (Nat.le_of_ble_eq_true rfl) (Nat.le_add_left _ _)), (Nat.le_trans (m := 4000) (Nat.le_of_ble_eq_true rfl) (Nat.le_add_left _ _))⟩ ⟨Nat.zero_le _, Nat.zero_le _⟩ rfl hl.1 (rest := []) rfl (Nat.le_of_ble_eq_true rfl) dX2_readOne_129 (st1 := [.int r128]) rfl (fun H locs hw => ?_)
                obtain ⟨v131, e132, hf⟩ := b_bnd hf
                refine r_join (g2 := F0 m 140 ls [.int v131]) ?_ (fun hj => ?_)
                · obtain ⟨h133, hf⟩ := b_cz hf
                  obtain ⟨rfl, rfl⟩ := Prod.mk.inj (Option.some.inj hf)
                  exact r_zret X hw (cz_and h133) dX2_readOne_140
                · refine lv_if_eq (tgt := 139) X.1 X.2.1 dX2_readOne_132 (by decide) (fun c130 => ?_) (fun c130 => ?_)
                  · rw [e132, if_pos c130] at hj
                    refine lv_iconst (v := 0) X.1 X.2.1 dX2_readOne_139 (by decide) ?_
                    exact hj
                  · rw [e132, if_neg c130] at hj
                    refine lv_iconst (v := 1) X.1 X.2.1 dX2_readOne_135 (by decide) ?_
                    refine lv_goto (tgt := 140) X.1 X.2.1 dX2_readOne_136 (by decide) ?_
                    exact hj
          · have hf := if_e hf c111
            refine lv_iconst (v := 0) X.1 X.2.1 dX2_readOne_98 (by decide) ?_
            obtain ⟨rfl, rfl⟩ := Prod.mk.inj (Option.some.inj hf)
            exact r_zret X hw (by decide) dX2_readOne_99
        · have hf := if_e hf c110
          refine lv_iload_n X.1 X.2.1 dX2_readOne_87 rfl (lv_at hl 0 rfl) ?_
          refine lv_bipush (v := 45) X.1 X.2.1 dX2_readOne_88 (by decide) ?_
          refine lv_icmp_ne (tgt := 98) X.1 X.2.1 dX2_readOne_90 (by decide) (fun c134 => ?_) (fun c134 => ?_)
          · have hf := if_e hf c134
            refine lv_iconst (v := 0) X.1 X.2.1 dX2_readOne_98 (by decide) ?_
            obtain ⟨rfl, rfl⟩ := Prod.mk.inj (Option.some.inj hf)
            exact r_zret X hw (by decide) dX2_readOne_99
          · have hf := if_t hf c134
            refine lv_iload_n X.1 X.2.1 dX2_readOne_93 rfl (lv_at hl 2 rfl) ?_
            refine lv_iconst (v := 5) X.1 X.2.1 dX2_readOne_94 (by decide) ?_
            refine lv_icmp_lt (tgt := 100) X.1 X.2.1 dX2_readOne_95 (by decide) (fun c135 => ?_) (fun c135 => ?_)
            · have hf := if_t hf c135
              refine lv_aload_n X.1 X.2.1 dX2_readOne_100 rfl (lv_at hl 1 rfl) ?_
              refine lv_dup X.1 X.2.1 dX2_readOne_101 rfl ?_
              refine r_get X hw (sp1 hR) (C := RX2) (T := TX2) (N := 8) rfl iwX2 6 (by decide) (Nat.le_of_ble_eq_true rfl) qw103 (v := .int (σ 1 6)) rfl dX2_readOne_102 ?_
              refine lv_iconst (v := 1) X.1 X.2.1 dX2_readOne_105 (by decide) ?_
              refine lv_iadd X.1 X.2.1 dX2_readOne_106 ?_
              refine r_put X hw (sp1 hR) (C := RX2) (T := TX2) (N := 8) rfl iwX2 tyX2 tyX2_ok nmX2 6 (by decide) (Nat.le_of_ble_eq_true rfl) qw103 rfl (v := .int ((σ 1 6) + 1)) rfl rfl (x := ((σ 1 6) + 1)) rfl dX2_readOne_107 (fun H locs hw => ?_)
              obtain ⟨σ136, e137, hf⟩ := b_bnd hf
              rw [← e137] at hw
              refine lv_iload_n X.1 X.2.1 dX2_readOne_110 rfl (lv_at hl 0 rfl) ?_
              refine lv_bipush (v := 40) X.1 X.2.1 dX2_readOne_111 (by decide) ?_
              refine lv_icmp_ne (tgt := 141) X.1 X.2.1 dX2_readOne_113 (by decide) (fun c138 => ?_) (fun c138 => ?_)
              · have hf := if_e hf c138
                refine lv_aload_n X.1 X.2.1 dX2_readOne_141 rfl (lv_at hl 1 rfl) ?_
                refine lv_iload_n X.1 X.2.1 dX2_readOne_142 rfl (lv_at hl 2 rfl) ?_
                refine lv_iconst (v := 1) X.1 X.2.1 dX2_readOne_143 (by decide) ?_
                refine lv_iadd X.1 X.2.1 dX2_readOne_144 ?_
                obtain ⟨r140, σ141, h139, hf⟩ := b_bd2 hf
                refine r_callV X hw (ih_X2_readOne  h139) (sp1 hR) (C := RX2) (T := TX2) (N := 8) rfl qw302 qw304 qw14 qw68 qw305 okX2_readOne ⟨rfl, rfl⟩ (rm_read_ok n0 (by decide)) ⟨Nat.zero_le _, Nat.zero_le _⟩ rfl hl.1 (rest := []) rfl (Nat.le_of_ble_eq_true rfl) dX2_readOne_145 (st1 := [.int r140]) rfl (fun H locs hw => ?_)
                refine lv_istore_n (lv' := [(3, .int r140), (2, .int r2), (0, .ref (eP E 1)), (1, .int x1)]) X.1 X.2.1 dX2_readOne_148 rfl hl (by decide) rfl (fun ls hl => ?_)
                refine lv_aload_n X.1 X.2.1 dX2_readOne_149 rfl (lv_at hl 2 rfl) ?_
                obtain ⟨h142, h143, hf⟩ := b_cT hf
                refine r_get X hw (sp1 hR) (C := RX2) (T := TX2) (N := 8) rfl iwX2 7 (by decide) (Nat.le_of_ble_eq_true rfl) qw104 (v := .ref (eP E ((σ141 1 7).toNatClampNeg))) (fv_dyn h143) dX2_readOne_150 ?_
                refine lv_bipush (v := 20) X.1 X.2.1 dX2_readOne_153 (by decide) ?_
                obtain ⟨σ145, h144, hf⟩ := b_bd1 hf
                refine r_callV X hw (k_X5_addStep hR h142 h144) (spT0 hR h142) (C := RX5) (T := TX5) (N := 3) rfl qw286 qw287 qw288 qw70 qw289 okX5_addStep ⟨rfl, rfl⟩ ⟨(Nat.le_trans (m := 40) (Nat.le_of_ble_eq_true rfl) (Nat.le_add_left _ _)), (Nat.le_trans (m := 4000) (Nat.le_of_ble_eq_true rfl) (Nat.le_add_left _ _))⟩ ⟨Nat.zero_le _, Nat.zero_le _⟩ rfl hl.1 (rest := []) rfl (Nat.le_of_ble_eq_true rfl) dX2_readOne_155 (st1 := []) rfl (fun H locs hw => ?_)
                refine lv_iload_n X.1 X.2.1 dX2_readOne_158 rfl (lv_at hl 0 rfl) ?_
                obtain ⟨h146, hf⟩ := b_cz hf
                obtain ⟨rfl, rfl⟩ := Prod.mk.inj (Option.some.inj hf)
                exact r_zret X hw (cz_and h146) dX2_readOne_159
              · have hf := if_t hf c138
                refine lv_aload_n X.1 X.2.1 dX2_readOne_116 rfl (lv_at hl 1 rfl) ?_
                refine lv_iload_n X.1 X.2.1 dX2_readOne_117 rfl (lv_at hl 2 rfl) ?_
                refine lv_iconst (v := 1) X.1 X.2.1 dX2_readOne_118 (by decide) ?_
                refine lv_iadd X.1 X.2.1 dX2_readOne_119 ?_
                obtain ⟨r148, σ149, h147, hf⟩ := b_bd2 hf
                refine r_callV X hw (ih_X2_readE  h147) (sp1 hR) (C := RX2) (T := TX2) (N := 8) rfl qw274 qw276 qw9 qw68 qw277 okX2_readE ⟨rfl, rfl⟩ (rm_read_ok n0 (by decide)) ⟨Nat.zero_le _, Nat.zero_le _⟩ rfl hl.1 (rest := []) rfl (Nat.le_of_ble_eq_true rfl) dX2_readOne_120 (st1 := [.int r148]) rfl (fun H locs hw => ?_)
                refine lv_if_eq (tgt := 139) X.1 X.2.1 dX2_readOne_123 (by decide) (fun c150 => ?_) (fun c150 => ?_)
                · have hf := if_t hf c150
                  refine lv_iconst (v := 0) X.1 X.2.1 dX2_readOne_139 (by decide) ?_
                  obtain ⟨rfl, rfl⟩ := Prod.mk.inj (Option.some.inj hf)
                  exact r_zret X hw (by decide) dX2_readOne_140
                · have hf := if_e hf c150
                  refine lv_aload_n X.1 X.2.1 dX2_readOne_126 rfl (lv_at hl 1 rfl) ?_
                  refine lv_bipush (v := 41) X.1 X.2.1 dX2_readOne_127 (by decide) ?_
                  obtain ⟨r152, σ153, h151, hf⟩ := b_bd2 hf
                  refine r_callV X hw (k_X2_pass hR  h151) (sp1 hR) (C := RX2) (T := TX2) (N := 8) rfl qw266 qw268 qw7 qw68 qw269 okX2_pass ⟨rfl, rfl⟩ ⟨(Nat.le_trans (m := 40) (Nat.le_of_ble_eq_true rfl) (Nat.le_add_left _ _)), (Nat.le_trans (m := 4000) (Nat.le_of_ble_eq_true rfl) (Nat.le_add_left _ _))⟩ ⟨Nat.zero_le _, Nat.zero_le _⟩ rfl hl.1 (rest := []) rfl (Nat.le_of_ble_eq_true rfl) dX2_readOne_129 (st1 := [.int r152]) rfl (fun H locs hw => ?_)
                  obtain ⟨v155, e156, hf⟩ := b_bnd hf
                  refine r_join (g2 := F0 m 140 ls [.int v155]) ?_ (fun hj => ?_)
                  · obtain ⟨h157, hf⟩ := b_cz hf
                    obtain ⟨rfl, rfl⟩ := Prod.mk.inj (Option.some.inj hf)
                    exact r_zret X hw (cz_and h157) dX2_readOne_140
                  · refine lv_if_eq (tgt := 139) X.1 X.2.1 dX2_readOne_132 (by decide) (fun c154 => ?_) (fun c154 => ?_)
                    · rw [e156, if_pos c154] at hj
                      refine lv_iconst (v := 0) X.1 X.2.1 dX2_readOne_139 (by decide) ?_
                      exact hj
                    · rw [e156, if_neg c154] at hj
                      refine lv_iconst (v := 1) X.1 X.2.1 dX2_readOne_135 (by decide) ?_
                      refine lv_goto (tgt := 140) X.1 X.2.1 dX2_readOne_136 (by decide) ?_
                      exact hj
            · have hf := if_e hf c135
              refine lv_iconst (v := 0) X.1 X.2.1 dX2_readOne_98 (by decide) ?_
              obtain ⟨rfl, rfl⟩ := Prod.mk.inj (Option.some.inj hf)
              exact r_zret X hw (by decide) dX2_readOne_99
      · have hf := if_e hf c109
        refine lv_iload_n X.1 X.2.1 dX2_readOne_55 rfl (lv_at hl 0 rfl) ?_
        refine lv_bipush (v := 6) X.1 X.2.1 dX2_readOne_56 (by decide) ?_
        refine lv_icmp_ge (tgt := 81) X.1 X.2.1 dX2_readOne_58 (by decide) (fun c158 => ?_) (fun c158 => ?_)
        · have hf := if_t hf c158
          refine lv_iload_n X.1 X.2.1 dX2_readOne_81 rfl (lv_at hl 0 rfl) ?_
          refine lv_bipush (v := 40) X.1 X.2.1 dX2_readOne_82 (by decide) ?_
          refine lv_icmp_eq (tgt := 93) X.1 X.2.1 dX2_readOne_84 (by decide) (fun c159 => ?_) (fun c159 => ?_)
          · have hf := if_t hf c159
            refine lv_iload_n X.1 X.2.1 dX2_readOne_93 rfl (lv_at hl 2 rfl) ?_
            refine lv_iconst (v := 5) X.1 X.2.1 dX2_readOne_94 (by decide) ?_
            refine lv_icmp_lt (tgt := 100) X.1 X.2.1 dX2_readOne_95 (by decide) (fun c160 => ?_) (fun c160 => ?_)
            · have hf := if_t hf c160
              refine lv_aload_n X.1 X.2.1 dX2_readOne_100 rfl (lv_at hl 1 rfl) ?_
              refine lv_dup X.1 X.2.1 dX2_readOne_101 rfl ?_
              refine r_get X hw (sp1 hR) (C := RX2) (T := TX2) (N := 8) rfl iwX2 6 (by decide) (Nat.le_of_ble_eq_true rfl) qw103 (v := .int (σ 1 6)) rfl dX2_readOne_102 ?_
              refine lv_iconst (v := 1) X.1 X.2.1 dX2_readOne_105 (by decide) ?_
              refine lv_iadd X.1 X.2.1 dX2_readOne_106 ?_
              refine r_put X hw (sp1 hR) (C := RX2) (T := TX2) (N := 8) rfl iwX2 tyX2 tyX2_ok nmX2 6 (by decide) (Nat.le_of_ble_eq_true rfl) qw103 rfl (v := .int ((σ 1 6) + 1)) rfl rfl (x := ((σ 1 6) + 1)) rfl dX2_readOne_107 (fun H locs hw => ?_)
              obtain ⟨σ161, e162, hf⟩ := b_bnd hf
              rw [← e162] at hw
              refine lv_iload_n X.1 X.2.1 dX2_readOne_110 rfl (lv_at hl 0 rfl) ?_
              refine lv_bipush (v := 40) X.1 X.2.1 dX2_readOne_111 (by decide) ?_
              refine lv_icmp_ne (tgt := 141) X.1 X.2.1 dX2_readOne_113 (by decide) (fun c163 => ?_) (fun c163 => ?_)
              · have hf := if_e hf c163
                refine lv_aload_n X.1 X.2.1 dX2_readOne_141 rfl (lv_at hl 1 rfl) ?_
                refine lv_iload_n X.1 X.2.1 dX2_readOne_142 rfl (lv_at hl 2 rfl) ?_
                refine lv_iconst (v := 1) X.1 X.2.1 dX2_readOne_143 (by decide) ?_
                refine lv_iadd X.1 X.2.1 dX2_readOne_144 ?_
                obtain ⟨r165, σ166, h164, hf⟩ := b_bd2 hf
                refine r_callV X hw (ih_X2_readOne  h164) (sp1 hR) (C := RX2) (T := TX2) (N := 8) rfl qw302 qw304 qw14 qw68 qw305 okX2_readOne ⟨rfl, rfl⟩ (rm_read_ok n0 (by decide)) ⟨Nat.zero_le _, Nat.zero_le _⟩ rfl hl.1 (rest := []) rfl (Nat.le_of_ble_eq_true rfl) dX2_readOne_145 (st1 := [.int r165]) rfl (fun H locs hw => ?_)
                refine lv_istore_n (lv' := [(3, .int r165), (2, .int r2), (0, .ref (eP E 1)), (1, .int x1)]) X.1 X.2.1 dX2_readOne_148 rfl hl (by decide) rfl (fun ls hl => ?_)
                refine lv_aload_n X.1 X.2.1 dX2_readOne_149 rfl (lv_at hl 2 rfl) ?_
                obtain ⟨h167, h168, hf⟩ := b_cT hf
                refine r_get X hw (sp1 hR) (C := RX2) (T := TX2) (N := 8) rfl iwX2 7 (by decide) (Nat.le_of_ble_eq_true rfl) qw104 (v := .ref (eP E ((σ166 1 7).toNatClampNeg))) (fv_dyn h168) dX2_readOne_150 ?_
                refine lv_bipush (v := 20) X.1 X.2.1 dX2_readOne_153 (by decide) ?_
                obtain ⟨σ170, h169, hf⟩ := b_bd1 hf
                refine r_callV X hw (k_X5_addStep hR h167 h169) (spT0 hR h167) (C := RX5) (T := TX5) (N := 3) rfl qw286 qw287 qw288 qw70 qw289 okX5_addStep ⟨rfl, rfl⟩ ⟨(Nat.le_trans (m := 40) (Nat.le_of_ble_eq_true rfl) (Nat.le_add_left _ _)), (Nat.le_trans (m := 4000) (Nat.le_of_ble_eq_true rfl) (Nat.le_add_left _ _))⟩ ⟨Nat.zero_le _, Nat.zero_le _⟩ rfl hl.1 (rest := []) rfl (Nat.le_of_ble_eq_true rfl) dX2_readOne_155 (st1 := []) rfl (fun H locs hw => ?_)
                refine lv_iload_n X.1 X.2.1 dX2_readOne_158 rfl (lv_at hl 0 rfl) ?_
                obtain ⟨h171, hf⟩ := b_cz hf
                obtain ⟨rfl, rfl⟩ := Prod.mk.inj (Option.some.inj hf)
                exact r_zret X hw (cz_and h171) dX2_readOne_159
              · have hf := if_t hf c163
                refine lv_aload_n X.1 X.2.1 dX2_readOne_116 rfl (lv_at hl 1 rfl) ?_
                refine lv_iload_n X.1 X.2.1 dX2_readOne_117 rfl (lv_at hl 2 rfl) ?_
                refine lv_iconst (v := 1) X.1 X.2.1 dX2_readOne_118 (by decide) ?_
                refine lv_iadd X.1 X.2.1 dX2_readOne_119 ?_
                obtain ⟨r173, σ174, h172, hf⟩ := b_bd2 hf
                refine r_callV X hw (ih_X2_readE  h172) (sp1 hR) (C := RX2) (T := TX2) (N := 8) rfl qw274 qw276 qw9 qw68 qw277 okX2_readE ⟨rfl, rfl⟩ (rm_read_ok n0 (by decide)) ⟨Nat.zero_le _, Nat.zero_le _⟩ rfl hl.1 (rest := []) rfl (Nat.le_of_ble_eq_true rfl) dX2_readOne_120 (st1 := [.int r173]) rfl (fun H locs hw => ?_)
                refine lv_if_eq (tgt := 139) X.1 X.2.1 dX2_readOne_123 (by decide) (fun c175 => ?_) (fun c175 => ?_)
                · have hf := if_t hf c175
                  refine lv_iconst (v := 0) X.1 X.2.1 dX2_readOne_139 (by decide) ?_
                  obtain ⟨rfl, rfl⟩ := Prod.mk.inj (Option.some.inj hf)
                  exact r_zret X hw (by decide) dX2_readOne_140
                · have hf := if_e hf c175
                  refine lv_aload_n X.1 X.2.1 dX2_readOne_126 rfl (lv_at hl 1 rfl) ?_
                  refine lv_bipush (v := 41) X.1 X.2.1 dX2_readOne_127 (by decide) ?_
                  obtain ⟨r177, σ178, h176, hf⟩ := b_bd2 hf
                  refine r_callV X hw (k_X2_pass hR  h176) (sp1 hR) (C := RX2) (T := TX2) (N := 8) rfl qw266 qw268 qw7 qw68 qw269 okX2_pass ⟨rfl, rfl⟩ ⟨(Nat.le_trans (m := 40) (Nat.le_of_ble_eq_true rfl) (Nat.le_add_left _ _)), (Nat.le_trans (m := 4000) (Nat.le_of_ble_eq_true rfl) (Nat.le_add_left _ _))⟩ ⟨Nat.zero_le _, Nat.zero_le _⟩ rfl hl.1 (rest := []) rfl (Nat.le_of_ble_eq_true rfl) dX2_readOne_129 (st1 := [.int r177]) rfl (fun H locs hw => ?_)
                  obtain ⟨v180, e181, hf⟩ := b_bnd hf
                  refine r_join (g2 := F0 m 140 ls [.int v180]) ?_ (fun hj => ?_)
                  · obtain ⟨h182, hf⟩ := b_cz hf
                    obtain ⟨rfl, rfl⟩ := Prod.mk.inj (Option.some.inj hf)
                    exact r_zret X hw (cz_and h182) dX2_readOne_140
                  · refine lv_if_eq (tgt := 139) X.1 X.2.1 dX2_readOne_132 (by decide) (fun c179 => ?_) (fun c179 => ?_)
                    · rw [e181, if_pos c179] at hj
                      refine lv_iconst (v := 0) X.1 X.2.1 dX2_readOne_139 (by decide) ?_
                      exact hj
                    · rw [e181, if_neg c179] at hj
                      refine lv_iconst (v := 1) X.1 X.2.1 dX2_readOne_135 (by decide) ?_
                      refine lv_goto (tgt := 140) X.1 X.2.1 dX2_readOne_136 (by decide) ?_
                      exact hj
            · have hf := if_e hf c160
              refine lv_iconst (v := 0) X.1 X.2.1 dX2_readOne_98 (by decide) ?_
              obtain ⟨rfl, rfl⟩ := Prod.mk.inj (Option.some.inj hf)
              exact r_zret X hw (by decide) dX2_readOne_99
          · have hf := if_e hf c159
            refine lv_iload_n X.1 X.2.1 dX2_readOne_87 rfl (lv_at hl 0 rfl) ?_
            refine lv_bipush (v := 45) X.1 X.2.1 dX2_readOne_88 (by decide) ?_
            refine lv_icmp_ne (tgt := 98) X.1 X.2.1 dX2_readOne_90 (by decide) (fun c183 => ?_) (fun c183 => ?_)
            · have hf := if_e hf c183
              refine lv_iconst (v := 0) X.1 X.2.1 dX2_readOne_98 (by decide) ?_
              obtain ⟨rfl, rfl⟩ := Prod.mk.inj (Option.some.inj hf)
              exact r_zret X hw (by decide) dX2_readOne_99
            · have hf := if_t hf c183
              refine lv_iload_n X.1 X.2.1 dX2_readOne_93 rfl (lv_at hl 2 rfl) ?_
              refine lv_iconst (v := 5) X.1 X.2.1 dX2_readOne_94 (by decide) ?_
              refine lv_icmp_lt (tgt := 100) X.1 X.2.1 dX2_readOne_95 (by decide) (fun c184 => ?_) (fun c184 => ?_)
              · have hf := if_t hf c184
                refine lv_aload_n X.1 X.2.1 dX2_readOne_100 rfl (lv_at hl 1 rfl) ?_
                refine lv_dup X.1 X.2.1 dX2_readOne_101 rfl ?_
                refine r_get X hw (sp1 hR) (C := RX2) (T := TX2) (N := 8) rfl iwX2 6 (by decide) (Nat.le_of_ble_eq_true rfl) qw103 (v := .int (σ 1 6)) rfl dX2_readOne_102 ?_
                refine lv_iconst (v := 1) X.1 X.2.1 dX2_readOne_105 (by decide) ?_
                refine lv_iadd X.1 X.2.1 dX2_readOne_106 ?_
                refine r_put X hw (sp1 hR) (C := RX2) (T := TX2) (N := 8) rfl iwX2 tyX2 tyX2_ok nmX2 6 (by decide) (Nat.le_of_ble_eq_true rfl) qw103 rfl (v := .int ((σ 1 6) + 1)) rfl rfl (x := ((σ 1 6) + 1)) rfl dX2_readOne_107 (fun H locs hw => ?_)
                obtain ⟨σ185, e186, hf⟩ := b_bnd hf
                rw [← e186] at hw
                refine lv_iload_n X.1 X.2.1 dX2_readOne_110 rfl (lv_at hl 0 rfl) ?_
                refine lv_bipush (v := 40) X.1 X.2.1 dX2_readOne_111 (by decide) ?_
                refine lv_icmp_ne (tgt := 141) X.1 X.2.1 dX2_readOne_113 (by decide) (fun c187 => ?_) (fun c187 => ?_)
                · have hf := if_e hf c187
                  refine lv_aload_n X.1 X.2.1 dX2_readOne_141 rfl (lv_at hl 1 rfl) ?_
                  refine lv_iload_n X.1 X.2.1 dX2_readOne_142 rfl (lv_at hl 2 rfl) ?_
                  refine lv_iconst (v := 1) X.1 X.2.1 dX2_readOne_143 (by decide) ?_
                  refine lv_iadd X.1 X.2.1 dX2_readOne_144 ?_
                  obtain ⟨r189, σ190, h188, hf⟩ := b_bd2 hf
                  refine r_callV X hw (ih_X2_readOne  h188) (sp1 hR) (C := RX2) (T := TX2) (N := 8) rfl qw302 qw304 qw14 qw68 qw305 okX2_readOne ⟨rfl, rfl⟩ (rm_read_ok n0 (by decide)) ⟨Nat.zero_le _, Nat.zero_le _⟩ rfl hl.1 (rest := []) rfl (Nat.le_of_ble_eq_true rfl) dX2_readOne_145 (st1 := [.int r189]) rfl (fun H locs hw => ?_)
                  refine lv_istore_n (lv' := [(3, .int r189), (2, .int r2), (0, .ref (eP E 1)), (1, .int x1)]) X.1 X.2.1 dX2_readOne_148 rfl hl (by decide) rfl (fun ls hl => ?_)
                  refine lv_aload_n X.1 X.2.1 dX2_readOne_149 rfl (lv_at hl 2 rfl) ?_
                  obtain ⟨h191, h192, hf⟩ := b_cT hf
                  refine r_get X hw (sp1 hR) (C := RX2) (T := TX2) (N := 8) rfl iwX2 7 (by decide) (Nat.le_of_ble_eq_true rfl) qw104 (v := .ref (eP E ((σ190 1 7).toNatClampNeg))) (fv_dyn h192) dX2_readOne_150 ?_
                  refine lv_bipush (v := 20) X.1 X.2.1 dX2_readOne_153 (by decide) ?_
                  obtain ⟨σ194, h193, hf⟩ := b_bd1 hf
                  refine r_callV X hw (k_X5_addStep hR h191 h193) (spT0 hR h191) (C := RX5) (T := TX5) (N := 3) rfl qw286 qw287 qw288 qw70 qw289 okX5_addStep ⟨rfl, rfl⟩ ⟨(Nat.le_trans (m := 40) (Nat.le_of_ble_eq_true rfl) (Nat.le_add_left _ _)), (Nat.le_trans (m := 4000) (Nat.le_of_ble_eq_true rfl) (Nat.le_add_left _ _))⟩ ⟨Nat.zero_le _, Nat.zero_le _⟩ rfl hl.1 (rest := []) rfl (Nat.le_of_ble_eq_true rfl) dX2_readOne_155 (st1 := []) rfl (fun H locs hw => ?_)
                  refine lv_iload_n X.1 X.2.1 dX2_readOne_158 rfl (lv_at hl 0 rfl) ?_
                  obtain ⟨h195, hf⟩ := b_cz hf
                  obtain ⟨rfl, rfl⟩ := Prod.mk.inj (Option.some.inj hf)
                  exact r_zret X hw (cz_and h195) dX2_readOne_159
                · have hf := if_t hf c187
                  refine lv_aload_n X.1 X.2.1 dX2_readOne_116 rfl (lv_at hl 1 rfl) ?_
                  refine lv_iload_n X.1 X.2.1 dX2_readOne_117 rfl (lv_at hl 2 rfl) ?_
                  refine lv_iconst (v := 1) X.1 X.2.1 dX2_readOne_118 (by decide) ?_
                  refine lv_iadd X.1 X.2.1 dX2_readOne_119 ?_
                  obtain ⟨r197, σ198, h196, hf⟩ := b_bd2 hf
                  refine r_callV X hw (ih_X2_readE  h196) (sp1 hR) (C := RX2) (T := TX2) (N := 8) rfl qw274 qw276 qw9 qw68 qw277 okX2_readE ⟨rfl, rfl⟩ (rm_read_ok n0 (by decide)) ⟨Nat.zero_le _, Nat.zero_le _⟩ rfl hl.1 (rest := []) rfl (Nat.le_of_ble_eq_true rfl) dX2_readOne_120 (st1 := [.int r197]) rfl (fun H locs hw => ?_)
                  refine lv_if_eq (tgt := 139) X.1 X.2.1 dX2_readOne_123 (by decide) (fun c199 => ?_) (fun c199 => ?_)
                  · have hf := if_t hf c199
                    refine lv_iconst (v := 0) X.1 X.2.1 dX2_readOne_139 (by decide) ?_
                    obtain ⟨rfl, rfl⟩ := Prod.mk.inj (Option.some.inj hf)
                    exact r_zret X hw (by decide) dX2_readOne_140
                  · have hf := if_e hf c199
                    refine lv_aload_n X.1 X.2.1 dX2_readOne_126 rfl (lv_at hl 1 rfl) ?_
                    refine lv_bipush (v := 41) X.1 X.2.1 dX2_readOne_127 (by decide) ?_
                    obtain ⟨r201, σ202, h200, hf⟩ := b_bd2 hf
                    refine r_callV X hw (k_X2_pass hR  h200) (sp1 hR) (C := RX2) (T := TX2) (N := 8) rfl qw266 qw268 qw7 qw68 qw269 okX2_pass ⟨rfl, rfl⟩ ⟨(Nat.le_trans (m := 40) (Nat.le_of_ble_eq_true rfl) (Nat.le_add_left _ _)), (Nat.le_trans (m := 4000) (Nat.le_of_ble_eq_true rfl) (Nat.le_add_left _ _))⟩ ⟨Nat.zero_le _, Nat.zero_le _⟩ rfl hl.1 (rest := []) rfl (Nat.le_of_ble_eq_true rfl) dX2_readOne_129 (st1 := [.int r201]) rfl (fun H locs hw => ?_)
                    obtain ⟨v204, e205, hf⟩ := b_bnd hf
                    refine r_join (g2 := F0 m 140 ls [.int v204]) ?_ (fun hj => ?_)
                    · obtain ⟨h206, hf⟩ := b_cz hf
                      obtain ⟨rfl, rfl⟩ := Prod.mk.inj (Option.some.inj hf)
                      exact r_zret X hw (cz_and h206) dX2_readOne_140
                    · refine lv_if_eq (tgt := 139) X.1 X.2.1 dX2_readOne_132 (by decide) (fun c203 => ?_) (fun c203 => ?_)
                      · rw [e205, if_pos c203] at hj
                        refine lv_iconst (v := 0) X.1 X.2.1 dX2_readOne_139 (by decide) ?_
                        exact hj
                      · rw [e205, if_neg c203] at hj
                        refine lv_iconst (v := 1) X.1 X.2.1 dX2_readOne_135 (by decide) ?_
                        refine lv_goto (tgt := 140) X.1 X.2.1 dX2_readOne_136 (by decide) ?_
                        exact hj
              · have hf := if_e hf c184
                refine lv_iconst (v := 0) X.1 X.2.1 dX2_readOne_98 (by decide) ?_
                obtain ⟨rfl, rfl⟩ := Prod.mk.inj (Option.some.inj hf)
                exact r_zret X hw (by decide) dX2_readOne_99
        · have hf := if_e hf c158
          refine lv_aload_n X.1 X.2.1 dX2_readOne_61 rfl (lv_at hl 1 rfl) ?_
          obtain ⟨h207, h208, hf⟩ := b_cT hf
          refine r_get X hw (sp1 hR) (C := RX2) (T := TX2) (N := 8) rfl iwX2 7 (by decide) (Nat.le_of_ble_eq_true rfl) qw104 (v := .ref (eP E ((σ 1 7).toNatClampNeg))) (fv_dyn h208) dX2_readOne_62 ?_
          refine lv_iload_n X.1 X.2.1 dX2_readOne_65 rfl (lv_at hl 0 rfl) ?_
          obtain ⟨σ210, h209, hf⟩ := b_bd1 hf
          refine r_callV X hw (k_X5_addStep hR h207 h209) (spT0 hR h207) (C := RX5) (T := TX5) (N := 3) rfl qw286 qw287 qw288 qw70 qw289 okX5_addStep ⟨rfl, rfl⟩ ⟨(Nat.le_trans (m := 40) (Nat.le_of_ble_eq_true rfl) (Nat.le_add_left _ _)), (Nat.le_trans (m := 4000) (Nat.le_of_ble_eq_true rfl) (Nat.le_add_left _ _))⟩ ⟨Nat.zero_le _, Nat.zero_le _⟩ rfl hl.1 (rest := []) rfl (Nat.le_of_ble_eq_true rfl) dX2_readOne_66 (st1 := []) rfl (fun H locs hw => ?_)
          refine lv_aload_n X.1 X.2.1 dX2_readOne_69 rfl (lv_at hl 1 rfl) ?_
          refine lv_dup X.1 X.2.1 dX2_readOne_70 rfl ?_
          refine r_get X hw (sp1 hR) (C := RX2) (T := TX2) (N := 8) rfl iwX2 6 (by decide) (Nat.le_of_ble_eq_true rfl) qw103 (v := .int (σ210 1 6)) rfl dX2_readOne_71 ?_
          refine lv_iconst (v := 1) X.1 X.2.1 dX2_readOne_74 (by decide) ?_
          refine lv_iadd X.1 X.2.1 dX2_readOne_75 ?_
          refine r_put X hw (sp1 hR) (C := RX2) (T := TX2) (N := 8) rfl iwX2 tyX2 tyX2_ok nmX2 6 (by decide) (Nat.le_of_ble_eq_true rfl) qw103 rfl (v := .int ((σ210 1 6) + 1)) rfl rfl (x := ((σ210 1 6) + 1)) rfl dX2_readOne_76 (fun H locs hw => ?_)
          obtain ⟨σ211, e212, hf⟩ := b_bnd hf
          rw [← e212] at hw
          refine lv_iconst (v := 1) X.1 X.2.1 dX2_readOne_79 (by decide) ?_
          obtain ⟨rfl, rfl⟩ := Prod.mk.inj (Option.some.inj hf)
          exact r_zret X hw (by decide) dX2_readOne_80
    · have hf := if_e hf c108
      refine lv_aload_n X.1 X.2.1 dX2_readOne_23 rfl (lv_at hl 1 rfl) ?_
      obtain ⟨h213, h214, hf⟩ := b_cT hf
      refine r_get X hw (sp1 hR) (C := RX2) (T := TX2) (N := 8) rfl iwX2 7 (by decide) (Nat.le_of_ble_eq_true rfl) qw104 (v := .ref (eP E ((σ 1 7).toNatClampNeg))) (fv_dyn h214) dX2_readOne_24 ?_
      refine lv_aload_n X.1 X.2.1 dX2_readOne_27 rfl (lv_at hl 1 rfl) ?_
      refine r_get X hw (sp1 hR) (C := RX2) (T := TX2) (N := 8) rfl iwX2 4 (by decide) (Nat.le_of_ble_eq_true rfl) qw101 (v := .ref (eP E 5)) rfl dX2_readOne_28 ?_
      refine lv_aload_n X.1 X.2.1 dX2_readOne_31 rfl (lv_at hl 1 rfl) ?_
      refine r_get X hw (sp1 hR) (C := RX2) (T := TX2) (N := 8) rfl iwX2 6 (by decide) (Nat.le_of_ble_eq_true rfl) qw103 (v := .int (σ 1 6)) rfl dX2_readOne_32 ?_
      obtain ⟨h215, hf⟩ := b_ck hf
      refine r_iald X hw (sp5 hR) h215 dX2_readOne_35 ?_
      obtain ⟨σ217, h216, hf⟩ := b_bd1 hf
      refine r_callV X hw (k_X5_addNumber hR h213 h216) (spT0 hR h213) (C := RX5) (T := TX5) (N := 3) rfl qw306 qw291 qw292 qw70 qw293 okX5_addNumber ⟨rfl, rfl⟩ ⟨(Nat.le_trans (m := 40) (Nat.le_of_ble_eq_true rfl) (Nat.le_add_left _ _)), (Nat.le_trans (m := 4000) (Nat.le_of_ble_eq_true rfl) (Nat.le_add_left _ _))⟩ ⟨Nat.zero_le _, Nat.zero_le _⟩ rfl hl.1 (rest := []) rfl (Nat.le_of_ble_eq_true rfl) dX2_readOne_36 (st1 := []) rfl (fun H locs hw => ?_)
      refine lv_aload_n X.1 X.2.1 dX2_readOne_39 rfl (lv_at hl 1 rfl) ?_
      refine lv_dup X.1 X.2.1 dX2_readOne_40 rfl ?_
      refine r_get X hw (sp1 hR) (C := RX2) (T := TX2) (N := 8) rfl iwX2 6 (by decide) (Nat.le_of_ble_eq_true rfl) qw103 (v := .int (σ217 1 6)) rfl dX2_readOne_41 ?_
      refine lv_iconst (v := 1) X.1 X.2.1 dX2_readOne_44 (by decide) ?_
      refine lv_iadd X.1 X.2.1 dX2_readOne_45 ?_
      refine r_put X hw (sp1 hR) (C := RX2) (T := TX2) (N := 8) rfl iwX2 tyX2 tyX2_ok nmX2 6 (by decide) (Nat.le_of_ble_eq_true rfl) qw103 rfl (v := .int ((σ217 1 6) + 1)) rfl rfl (x := ((σ217 1 6) + 1)) rfl dX2_readOne_46 (fun H locs hw => ?_)
      obtain ⟨σ218, e219, hf⟩ := b_bnd hf
      rw [← e219] at hw
      refine lv_iconst (v := 1) X.1 X.2.1 dX2_readOne_49 (by decide) ?_
      obtain ⟨rfl, rfl⟩ := Prod.mk.inj (Option.some.inj hf)
      exact r_zret X hw (by decide) dX2_readOne_50
