abbrev rm_X4_isMissing : Room := { frames := 0, cells := 0, slots := 0, locals := 0 }
set_option maxHeartbeats 4000000 in
set_option maxRecDepth 100000 in
theorem k_X4_isMissing {l : Launch} {E : en_T} (hE : ShF E) {o : Nat} (ho : isS o) {σ : sg_T} {r : Int32} (hf : f_X4_isMissing o σ = some r) : Ct l yX4_isMissing cX4_isMissing 1 (some .boolean) rm_X4_isMissing E [.ref (eP E o)] σ (some (.int r)) σ := by
  refine Ct.start (by decide) hE.1 (Nat.le_of_ble_eq_true rfl) ?_
  intro p e s m below meth c X hw ls hl
  have X : Cx E p s m _ meth c cX4_isMissing 1 RX4 (some .boolean) := X
  have hR : ShR E := hE.r
  have hl : lv_has ls 1 [(0, .ref (eP E o))] := hl
  unfold f_X4_isMissing at hf
  refine lv_aload_n X.1 X.2.1 dX4_isMissing_0 rfl (lv_at hl 0 rfl) ?_
  refine r_get X hw (spS0 hE ho) (C := RX4) (T := TX4) (N := 3) rfl iwX4 1 (by decide) (Nat.le_of_ble_eq_true rfl) qw409 (v := .int (σ o 1)) rfl dX4_isMissing_1 ?_
  refine lv_iconst (v := (-1)) X.1 X.2.1 dX4_isMissing_4 (by decide) ?_
  obtain ⟨v2, e3, hf⟩ := b_bnd hf
  refine r_join (g2 := F0 m 13 ls [.int v2]) ?_ (fun hj => ?_)
  · obtain ⟨h4, hf⟩ := b_cz hf
    obtain rfl := Option.some.inj hf
    exact r_zret X hw (cz_and h4) dX4_isMissing_13
  · refine lv_icmp_ne (tgt := 12) X.1 X.2.1 dX4_isMissing_5 (by decide) (fun c1 => ?_) (fun c1 => ?_)
    · rw [e3, if_neg c1] at hj
      refine lv_iconst (v := 0) X.1 X.2.1 dX4_isMissing_12 (by decide) ?_
      exact hj
    · rw [e3, if_pos c1] at hj
      refine lv_iconst (v := 1) X.1 X.2.1 dX4_isMissing_8 (by decide) ?_
      refine lv_goto (tgt := 13) X.1 X.2.1 dX4_isMissing_9 (by decide) ?_
      exact hj
abbrev rm_X4_size : Room := { frames := 0, cells := 0, slots := 0, locals := 0 }
set_option maxHeartbeats 4000000 in
set_option maxRecDepth 100000 in
theorem k_X4_size {l : Launch} {E : en_T} (hE : ShF E) {o : Nat} (ho : isS o) {σ : sg_T} {r : Int32} (hf : f_X4_size o σ = some r) : Ct l yX4_size cX4_size 1 (some .int) rm_X4_size E [.ref (eP E o)] σ (some (.int r)) σ := by
  refine Ct.start (by decide) hE.1 (Nat.le_of_ble_eq_true rfl) ?_
  intro p e s m below meth c X hw ls hl
  have X : Cx E p s m _ meth c cX4_size 1 RX4 (some .int) := X
  have hR : ShR E := hE.r
  have hl : lv_has ls 1 [(0, .ref (eP E o))] := hl
  unfold f_X4_size at hf
  refine lv_aload_n X.1 X.2.1 dX4_size_0 rfl (lv_at hl 0 rfl) ?_
  refine r_get X hw (spS0 hE ho) (C := RX4) (T := TX4) (N := 3) rfl iwX4 2 (by decide) (Nat.le_of_ble_eq_true rfl) qw410 (v := .int (σ o 2)) rfl dX4_size_1 ?_
  obtain rfl := Option.some.inj hf
  exact r_iret X hw dX4_size_4
abbrev rm_X4_get : Room := { frames := 0, cells := 0, slots := 0, locals := 0 }
set_option maxHeartbeats 4000000 in
set_option maxRecDepth 100000 in
theorem k_X4_get {l : Launch} {E : en_T} (hE : ShF E) {o : Nat} (ho : isS o) {x1 : Int32} {σ : sg_T} {r : Int32} (hf : f_X4_get o x1 σ = some r) : Ct l yX4_get cX4_get 2 (some .int) rm_X4_get E [.ref (eP E o), .int x1] σ (some (.int r)) σ := by
  refine Ct.start (by decide) hE.1 (Nat.le_of_ble_eq_true rfl) ?_
  intro p e s m below meth c X hw ls hl
  have X : Cx E p s m _ meth c cX4_get 2 RX4 (some .int) := X
  have hR : ShR E := hE.r
  have hl : lv_has ls 2 [(0, .ref (eP E o)), (1, .int x1)] := hl
  unfold f_X4_get at hf
  refine lv_iload_n X.1 X.2.1 dX4_get_0 rfl (lv_at hl 1 rfl) ?_
  refine lv_if_lt (tgt := 21) X.1 X.2.1 dX4_get_1 (by decide) (fun c1 => ?_) (fun c1 => ?_)
  · have hf := if_t hf c1
    refine lv_iconst (v := 0) X.1 X.2.1 dX4_get_21 (by decide) ?_
    obtain rfl := Option.some.inj hf
    exact r_iret X hw dX4_get_22
  · have hf := if_e hf c1
    refine lv_iload_n X.1 X.2.1 dX4_get_4 rfl (lv_at hl 1 rfl) ?_
    refine lv_aload_n X.1 X.2.1 dX4_get_5 rfl (lv_at hl 0 rfl) ?_
    refine r_get X hw (spS0 hE ho) (C := RX4) (T := TX4) (N := 3) rfl iwX4 2 (by decide) (Nat.le_of_ble_eq_true rfl) qw410 (v := .int (σ o 2)) rfl dX4_get_6 ?_
    refine lv_icmp_ge (tgt := 21) X.1 X.2.1 dX4_get_9 (by decide) (fun c2 => ?_) (fun c2 => ?_)
    · have hf := if_t hf c2
      refine lv_iconst (v := 0) X.1 X.2.1 dX4_get_21 (by decide) ?_
      obtain rfl := Option.some.inj hf
      exact r_iret X hw dX4_get_22
    · have hf := if_e hf c2
      refine lv_aload_n X.1 X.2.1 dX4_get_12 rfl (lv_at hl 0 rfl) ?_
      refine r_get X hw (spS0 hE ho) (C := RX4) (T := TX4) (N := 3) rfl iwX4 0 (by decide) (Nat.le_of_ble_eq_true rfl) qw408 (v := .ref (eP E (o + 1))) rfl dX4_get_13 ?_
      refine lv_iload_n X.1 X.2.1 dX4_get_16 rfl (lv_at hl 1 rfl) ?_
      obtain ⟨h3, hf⟩ := b_ck hf
      refine r_iald X hw (spS1 hE ho) h3 dX4_get_17 ?_
      refine lv_goto (tgt := 22) X.1 X.2.1 dX4_get_18 (by decide) ?_
      obtain rfl := Option.some.inj hf
      exact r_iret X hw dX4_get_22
abbrev rm_X4_become : Room := { frames := 3, cells := 0, slots := 0, locals := 122 }
set_option maxHeartbeats 4000000 in
set_option maxRecDepth 100000 in
theorem w_X4_become_18 {p : Program} {l : Launch} {e : Env} {s : State} {m : MethodId} {args : Array Value} {below : List Frame} {meth : Method} {c : Code} {Q : State → Prop} {E : en_T} (X : Cx E p s m args meth c cX4_become 4 RX4 none) (hE : ShF E) {o50 : Nat} (ho50 : isS o50) {u1 : Int32} {u2 : Int32}  {res : Int32 × sg_T} :
    ∀ (n : Nat) (w3 : Int32) (σ : sg_T), itr (fun q => b_X4_become_18 o50 u1 u2 q.1 q.2) n (w3, σ) = some res → ∀ (H : Heap) (locs : List Loc) (ls : Array Slot), Hw E σ s H locs → lv_has ls 4 [(0, .ref (eP E o50)), (1, .int u1), (2, .int u2), (3, .int w3)] →
    (∀ (y3 : Int32) (τ : sg_T), res = (y3, τ) → ∀ (H : Heap) (locs : List Loc) (ls : Array Slot), Hw E τ s H locs → lv_has ls 4 [(0, .ref (eP E o50)), (1, .int u1), (2, .int u2), (3, .int y3)] → W p l e rm_X4_become s m args below meth c H locs 0 0 Q (F0 m 39 ls [])) →
    W p l e rm_X4_become s m args below meth c H locs 0 0 Q (F0 m 18 ls []) := by
  have hR : ShR E := hE.r
  intro n
  induction n with
  | zero =>
    intro w3 σ hf0
    exact (itr_0 hf0).elim
  | succ n ih =>
    intro w3 σ hf0 H locs ls hw hl K1
    obtain ⟨r0, hf, hr1, hr2⟩ := itr_s hf0
    have hf : b_X4_become_18 o50 u1 u2 w3 σ = some r0 := hf
    unfold b_X4_become_18 at hf
    refine lv_iload_n X.1 X.2.1 dX4_become_18 rfl (lv_at hl 3 rfl) ?_
    refine lv_aload_n X.1 X.2.1 dX4_become_19 rfl (lv_at hl 0 rfl) ?_
    refine r_get X hw (spS0 hE ho50) (C := RX4) (T := TX4) (N := 3) rfl iwX4 2 (by decide) (Nat.le_of_ble_eq_true rfl) qw410 (v := .int (σ o50 2)) rfl dX4_become_20 ?_
    refine lv_icmp_ge (tgt := 39) X.1 X.2.1 dX4_become_23 (by decide) (fun c7 => ?_) (fun c7 => ?_)
    · have hf := if_t hf c7
      obtain rfl := Option.some.inj hf
      obtain rfl := hr2 _ rfl
      exact K1 _ _ rfl _ _ _ hw (lv_sub hl [0, 1, 2, 3] rfl)
    · have hf := if_e hf c7
      refine lv_aload_n X.1 X.2.1 dX4_become_26 rfl (lv_at hl 0 rfl) ?_
      refine r_get X hw (spS0 hE ho50) (C := RX4) (T := TX4) (N := 3) rfl iwX4 0 (by decide) (Nat.le_of_ble_eq_true rfl) qw408 (v := .ref (eP E (o50 + 1))) rfl dX4_become_27 ?_
      refine lv_iload_n X.1 X.2.1 dX4_become_30 rfl (lv_at hl 3 rfl) ?_
      refine lv_iconst (v := 0) X.1 X.2.1 dX4_become_31 (by decide) ?_
      obtain ⟨h8, hf⟩ := b_ck hf
      refine r_iast X hw (spS1 hE ho50) h8 dX4_become_32 (fun H locs hw => ?_)
      obtain ⟨σ9, e10, hf⟩ := b_bnd hf
      rw [← e10] at hw
      obtain ⟨v11, e12, hf⟩ := b_bnd hf
      refine lv_iinc (v := v11) (k := 3) (lv' := [(3, .int v11), (0, .ref (eP E o50)), (1, .int u1), (2, .int u2)]) X.1 X.2.1 dX4_become_33 hl rfl (by rw [e12]; exact congrArg _ (by decide)) (by decide) rfl (fun ls hl => ?_)
      refine lv_goto (tgt := 18) X.1 X.2.1 dX4_become_36 (by decide) ?_
      obtain rfl := Option.some.inj hf
      exact ih _ _ (hr1 _ rfl) _ _ _ hw (lv_sub hl [1, 2, 3, 0] rfl) K1
set_option maxHeartbeats 4000000 in
set_option maxRecDepth 100000 in
theorem k_X4_become {l : Launch} {E : en_T} (hE : ShF E) {o : Nat} (ho : isS o) {x1 : Int32} {x2 : Int32} {σ : sg_T}  {σ' : sg_T} (hf : f_X4_become o x1 x2 σ = some σ') : Ct l yX4_become cX4_become 4 none rm_X4_become E [.ref (eP E o), .int x1, .int x2] σ none σ' := by
  refine Ct.start (by decide) hE.1 (Nat.le_of_ble_eq_true rfl) ?_
  intro p e s m below meth c X hw ls hl
  have X : Cx E p s m _ meth c cX4_become 4 RX4 none := X
  have hR : ShR E := hE.r
  have hl : lv_has ls 4 [(0, .ref (eP E o)), (1, .int x1), (2, .int x2)] := hl
  unfold f_X4_become at hf
  refine lv_aload_n X.1 X.2.1 dX4_become_0 rfl (lv_at hl 0 rfl) ?_
  refine lv_iload_n X.1 X.2.1 dX4_become_1 rfl (lv_at hl 1 rfl) ?_
  refine r_put X hw (spS0 hE ho) (C := RX4) (T := TX4) (N := 3) rfl iwX4 tyX4 tyX4_ok nmX4 1 (by decide) (Nat.le_of_ble_eq_true rfl) qw409 rfl (v := .int x1) rfl rfl (x := x1) rfl dX4_become_2 (fun H locs hw => ?_)
  obtain ⟨σ1, e2, hf⟩ := b_bnd hf
  rw [← e2] at hw
  refine lv_aload_n X.1 X.2.1 dX4_become_5 rfl (lv_at hl 0 rfl) ?_
  refine lv_iload_n X.1 X.2.1 dX4_become_6 rfl (lv_at hl 2 rfl) ?_
  refine lv_iconst (v := 0) X.1 X.2.1 dX4_become_7 (by decide) ?_
  refine lv_bipush (v := 40) X.1 X.2.1 dX4_become_8 (by decide) ?_
  obtain ⟨r4, h3, hf⟩ := b_bd1 hf
  refine r_callSN X hw (k_X7_bound hE  h3) (host := RX7) (by simp [lw_nest]) qw531 qw67 qw532 okX7_bound ⟨rfl, rfl⟩ ⟨(Nat.le_of_ble_eq_true rfl), (Nat.le_of_ble_eq_true rfl)⟩ ⟨Nat.zero_le _, Nat.zero_le _⟩ rfl hl.1 (rest := [.ref (eP E o)]) rfl (Nat.le_of_ble_eq_true rfl) dX4_become_10 (st1 := [.int r4, .ref (eP E o)]) rfl (fun H locs hw => ?_)
  refine r_put X hw (spS0 hE ho) (C := RX4) (T := TX4) (N := 3) rfl iwX4 tyX4 tyX4_ok nmX4 2 (by decide) (Nat.le_of_ble_eq_true rfl) qw410 rfl (v := .int r4) rfl rfl (x := r4) rfl dX4_become_13 (fun H locs hw => ?_)
  obtain ⟨σ5, e6, hf⟩ := b_bnd hf
  rw [← e6] at hw
  refine lv_iconst (v := 0) X.1 X.2.1 dX4_become_16 (by decide) ?_
  refine lv_istore_n (lv' := [(3, .int 0), (0, .ref (eP E o)), (1, .int x1), (2, .int x2)]) X.1 X.2.1 dX4_become_17 rfl hl (by decide) rfl (fun ls hl => ?_)
  obtain ⟨v14, σ15, h13, hf⟩ := b_bd2 hf
  refine w_X4_become_18 X hE ho lfu _ _ h13 _ _ _ hw (lv_sub hl [1, 2, 3, 0] rfl) (fun yv14 yσ15 hq H locs ls hw hl => ?_)
  cases hq
  obtain rfl := Option.some.inj hf
  exact r_vret X hw dX4_become_39
abbrev rm_X4_put : Room := { frames := 0, cells := 0, slots := 0, locals := 0 }
set_option maxHeartbeats 4000000 in
set_option maxRecDepth 100000 in
theorem k_X4_put {l : Launch} {E : en_T} (hE : ShF E) {o : Nat} (ho : isS o) {x1 : Int32} {x2 : Int32} {σ : sg_T}  {σ' : sg_T} (hf : f_X4_put o x1 x2 σ = some σ') : Ct l yX4_put cX4_put 3 none rm_X4_put E [.ref (eP E o), .int x1, .int x2] σ none σ' := by
  refine Ct.start (by decide) hE.1 (Nat.le_of_ble_eq_true rfl) ?_
  intro p e s m below meth c X hw ls hl
  have X : Cx E p s m _ meth c cX4_put 3 RX4 none := X
  have hR : ShR E := hE.r
  have hl : lv_has ls 3 [(0, .ref (eP E o)), (1, .int x1), (2, .int x2)] := hl
  unfold f_X4_put at hf
  refine lv_iload_n X.1 X.2.1 dX4_put_0 rfl (lv_at hl 1 rfl) ?_
  refine lv_if_lt (tgt := 44) X.1 X.2.1 dX4_put_1 (by decide) (fun c1 => ?_) (fun c1 => ?_)
  · have hf := if_t hf c1
    obtain rfl := Option.some.inj hf
    exact r_vret X hw dX4_put_44
  · have hf := if_e hf c1
    refine lv_iload_n X.1 X.2.1 dX4_put_4 rfl (lv_at hl 1 rfl) ?_
    refine lv_aload_n X.1 X.2.1 dX4_put_5 rfl (lv_at hl 0 rfl) ?_
    refine r_get X hw (spS0 hE ho) (C := RX4) (T := TX4) (N := 3) rfl iwX4 2 (by decide) (Nat.le_of_ble_eq_true rfl) qw410 (v := .int (σ o 2)) rfl dX4_put_6 ?_
    refine lv_icmp_ge (tgt := 44) X.1 X.2.1 dX4_put_9 (by decide) (fun c2 => ?_) (fun c2 => ?_)
    · have hf := if_t hf c2
      obtain rfl := Option.some.inj hf
      exact r_vret X hw dX4_put_44
    · have hf := if_e hf c2
      refine lv_aload_n X.1 X.2.1 dX4_put_12 rfl (lv_at hl 0 rfl) ?_
      refine r_get X hw (spS0 hE ho) (C := RX4) (T := TX4) (N := 3) rfl iwX4 0 (by decide) (Nat.le_of_ble_eq_true rfl) qw408 (v := .ref (eP E (o + 1))) rfl dX4_put_13 ?_
      refine lv_iload_n X.1 X.2.1 dX4_put_16 rfl (lv_at hl 1 rfl) ?_
      refine lv_aload_n X.1 X.2.1 dX4_put_17 rfl (lv_at hl 0 rfl) ?_
      refine r_get X hw (spS0 hE ho) (C := RX4) (T := TX4) (N := 3) rfl iwX4 1 (by decide) (Nat.le_of_ble_eq_true rfl) qw409 (v := .int (σ o 1)) rfl dX4_put_18 ?_
      refine lv_if_ne (tgt := 29) X.1 X.2.1 dX4_put_21 (by decide) (fun c3 => ?_) (fun c3 => ?_)
      · have hf := if_e hf c3
        refine lv_aload_n X.1 X.2.1 dX4_put_29 rfl (lv_at hl 0 rfl) ?_
        refine r_get X hw (spS0 hE ho) (C := RX4) (T := TX4) (N := 3) rfl iwX4 1 (by decide) (Nat.le_of_ble_eq_true rfl) qw409 (v := .int (σ o 1)) rfl dX4_put_30 ?_
        refine lv_iconst (v := 1) X.1 X.2.1 dX4_put_33 (by decide) ?_
        refine lv_icmp_ne (tgt := 42) X.1 X.2.1 dX4_put_34 (by decide) (fun c4 => ?_) (fun c4 => ?_)
        · have hf := if_e hf c4
          refine lv_iload_n X.1 X.2.1 dX4_put_42 rfl (lv_at hl 2 rfl) ?_
          obtain ⟨h5, hf⟩ := b_ck hf
          refine r_iast X hw (spS1 hE ho) h5 dX4_put_43 (fun H locs hw => ?_)
          obtain ⟨σ6, e7, hf⟩ := b_bnd hf
          rw [← e7] at hw
          obtain rfl := Option.some.inj hf
          exact r_vret X hw dX4_put_44
        · have hf := if_t hf c4
          refine lv_iload_n X.1 X.2.1 dX4_put_37 rfl (lv_at hl 2 rfl) ?_
          refine lv_i2s (v := (x2).toInt16.toInt32) X.1 X.2.1 dX4_put_38 rfl ?_
          refine lv_goto (tgt := 43) X.1 X.2.1 dX4_put_39 (by decide) ?_
          obtain ⟨h8, hf⟩ := b_ck hf
          refine r_iast X hw (spS1 hE ho) h8 dX4_put_43 (fun H locs hw => ?_)
          obtain ⟨σ9, e10, hf⟩ := b_bnd hf
          rw [← e10] at hw
          obtain rfl := Option.some.inj hf
          exact r_vret X hw dX4_put_44
      · have hf := if_t hf c3
        refine lv_iload_n X.1 X.2.1 dX4_put_24 rfl (lv_at hl 2 rfl) ?_
        refine lv_i2b (v := (x2).toInt8.toInt32) X.1 X.2.1 dX4_put_25 rfl ?_
        refine lv_goto (tgt := 43) X.1 X.2.1 dX4_put_26 (by decide) ?_
        obtain ⟨h11, hf⟩ := b_ck hf
        refine r_iast X hw (spS1 hE ho) h11 dX4_put_43 (fun H locs hw => ?_)
        obtain ⟨σ12, e13, hf⟩ := b_bnd hf
        rw [← e13] at hw
        obtain rfl := Option.some.inj hf
        exact r_vret X hw dX4_put_44
abbrev rm_X4_hasRange : Room := { frames := 0, cells := 0, slots := 0, locals := 0 }
set_option maxHeartbeats 4000000 in
set_option maxRecDepth 100000 in
theorem k_X4_hasRange {l : Launch} {E : en_T} (hE : ShF E) {o : Nat} (ho : isS o) {x1 : Int32} {x2 : Int32} {σ : sg_T} {r : Int32} (hf : f_X4_hasRange o x1 x2 σ = some r) : Ct l yX4_hasRange cX4_hasRange 3 (some .boolean) rm_X4_hasRange E [.ref (eP E o), .int x1, .int x2] σ (some (.int r)) σ := by
  refine Ct.start (by decide) hE.1 (Nat.le_of_ble_eq_true rfl) ?_
  intro p e s m below meth c X hw ls hl
  have X : Cx E p s m _ meth c cX4_hasRange 3 RX4 (some .boolean) := X
  have hR : ShR E := hE.r
  have hl : lv_has ls 3 [(0, .ref (eP E o)), (1, .int x1), (2, .int x2)] := hl
  unfold f_X4_hasRange at hf
  refine lv_iload_n X.1 X.2.1 dX4_hasRange_0 rfl (lv_at hl 1 rfl) ?_
  refine lv_if_lt (tgt := 30) X.1 X.2.1 dX4_hasRange_1 (by decide) (fun c1 => ?_) (fun c1 => ?_)
  · have hf := if_t hf c1
    refine lv_iconst (v := 0) X.1 X.2.1 dX4_hasRange_30 (by decide) ?_
    obtain rfl := Option.some.inj hf
    exact r_zret X hw (by decide) dX4_hasRange_31
  · have hf := if_e hf c1
    refine lv_iload_n X.1 X.2.1 dX4_hasRange_4 rfl (lv_at hl 2 rfl) ?_
    refine lv_if_lt (tgt := 30) X.1 X.2.1 dX4_hasRange_5 (by decide) (fun c2 => ?_) (fun c2 => ?_)
    · have hf := if_t hf c2
      refine lv_iconst (v := 0) X.1 X.2.1 dX4_hasRange_30 (by decide) ?_
      obtain rfl := Option.some.inj hf
      exact r_zret X hw (by decide) dX4_hasRange_31
    · have hf := if_e hf c2
      refine lv_iload_n X.1 X.2.1 dX4_hasRange_8 rfl (lv_at hl 1 rfl) ?_
      refine lv_aload_n X.1 X.2.1 dX4_hasRange_9 rfl (lv_at hl 0 rfl) ?_
      refine r_get X hw (spS0 hE ho) (C := RX4) (T := TX4) (N := 3) rfl iwX4 2 (by decide) (Nat.le_of_ble_eq_true rfl) qw410 (v := .int (σ o 2)) rfl dX4_hasRange_10 ?_
      refine lv_icmp_gt (tgt := 30) X.1 X.2.1 dX4_hasRange_13 (by decide) (fun c3 => ?_) (fun c3 => ?_)
      · have hf := if_t hf c3
        refine lv_iconst (v := 0) X.1 X.2.1 dX4_hasRange_30 (by decide) ?_
        obtain rfl := Option.some.inj hf
        exact r_zret X hw (by decide) dX4_hasRange_31
      · have hf := if_e hf c3
        refine lv_iload_n X.1 X.2.1 dX4_hasRange_16 rfl (lv_at hl 2 rfl) ?_
        refine lv_aload_n X.1 X.2.1 dX4_hasRange_17 rfl (lv_at hl 0 rfl) ?_
        refine r_get X hw (spS0 hE ho) (C := RX4) (T := TX4) (N := 3) rfl iwX4 2 (by decide) (Nat.le_of_ble_eq_true rfl) qw410 (v := .int (σ o 2)) rfl dX4_hasRange_18 ?_
        refine lv_iload_n X.1 X.2.1 dX4_hasRange_21 rfl (lv_at hl 1 rfl) ?_
        refine lv_isub X.1 X.2.1 dX4_hasRange_22 ?_
        obtain ⟨v5, e6, hf⟩ := b_bnd hf
        refine r_join (g2 := F0 m 31 ls [.int v5]) ?_ (fun hj => ?_)
        · obtain ⟨h7, hf⟩ := b_cz hf
          obtain rfl := Option.some.inj hf
          exact r_zret X hw (cz_and h7) dX4_hasRange_31
        · refine lv_icmp_gt (tgt := 30) X.1 X.2.1 dX4_hasRange_23 (by decide) (fun c4 => ?_) (fun c4 => ?_)
          · rw [e6, if_pos c4] at hj
            refine lv_iconst (v := 0) X.1 X.2.1 dX4_hasRange_30 (by decide) ?_
            exact hj
          · rw [e6, if_neg c4] at hj
            refine lv_iconst (v := 1) X.1 X.2.1 dX4_hasRange_26 (by decide) ?_
            refine lv_goto (tgt := 31) X.1 X.2.1 dX4_hasRange_27 (by decide) ?_
            exact hj
abbrev rm_X4_sort : Room := { frames := 0, cells := 0, slots := 0, locals := 0 }
set_option maxHeartbeats 4000000 in
set_option maxRecDepth 100000 in
theorem k_X4_sort {l : Launch} {E : en_T} (hE : ShF E) {o : Nat} (ho : isS o) {σ : sg_T} {r : Int32} (hf : f_X4_sort o σ = some r) : Ct l yX4_sort cX4_sort 1 (some .int) rm_X4_sort E [.ref (eP E o)] σ (some (.int r)) σ := by
  refine Ct.start (by decide) hE.1 (Nat.le_of_ble_eq_true rfl) ?_
  intro p e s m below meth c X hw ls hl
  have X : Cx E p s m _ meth c cX4_sort 1 RX4 (some .int) := X
  have hR : ShR E := hE.r
  have hl : lv_has ls 1 [(0, .ref (eP E o))] := hl
  unfold f_X4_sort at hf
  refine lv_aload_n X.1 X.2.1 dX4_sort_0 rfl (lv_at hl 0 rfl) ?_
  refine r_get X hw (spS0 hE ho) (C := RX4) (T := TX4) (N := 3) rfl iwX4 1 (by decide) (Nat.le_of_ble_eq_true rfl) qw409 (v := .int (σ o 1)) rfl dX4_sort_1 ?_
  obtain rfl := Option.some.inj hf
  exact r_iret X hw dX4_sort_4
abbrev rm_X4_takeFrom : Room := { frames := 2, cells := 0, slots := 0, locals := 100 }
set_option maxHeartbeats 4000000 in
set_option maxRecDepth 100000 in
theorem k_X4_takeFrom {l : Launch} {E : en_T} (hE : ShF E) {o : Nat} (ho : isS o) {o1 : Nat} (ho1 : isS o1) {x2 : Int32} {x3 : Int32} {x4 : Int32} {σ : sg_T}  {σ' : sg_T} (hf : f_X4_takeFrom o o1 x2 x3 x4 σ = some σ') : Ct l yX4_takeFrom cX4_takeFrom 5 none rm_X4_takeFrom E [.ref (eP E o), .ref (eP E o1), .int x2, .int x3, .int x4] σ none σ' := by
  refine Ct.start (by decide) hE.1 (Nat.le_of_ble_eq_true rfl) ?_
  intro p e s m below meth c X hw ls hl
  have X : Cx E p s m _ meth c cX4_takeFrom 5 RX4 none := X
  have hR : ShR E := hE.r
  have hl : lv_has ls 5 [(0, .ref (eP E o)), (1, .ref (eP E o1)), (2, .int x2), (3, .int x3), (4, .int x4)] := hl
  unfold f_X4_takeFrom at hf
  refine lv_aload_n X.1 X.2.1 dX4_takeFrom_0 rfl (lv_at hl 1 rfl) ?_
  refine lv_iload_n X.1 X.2.1 dX4_takeFrom_1 rfl (lv_at hl 2 rfl) ?_
  refine lv_iload X.1 X.2.1 dX4_takeFrom_2 (lv_at hl 4 rfl) ?_
  obtain ⟨r2, h1, hf⟩ := b_bd1 hf
  refine r_callV X hw (k_X4_hasRange hE ho1 h1) (spS0 hE ho1) (C := RX4) (T := TX4) (N := 3) rfl qw841 qw826 qw827 qw78 qw828 okX4_hasRange ⟨rfl, rfl⟩ ⟨(Nat.le_of_ble_eq_true rfl), (Nat.le_of_ble_eq_true rfl)⟩ ⟨Nat.zero_le _, Nat.zero_le _⟩ rfl hl.1 (rest := []) rfl (Nat.le_of_ble_eq_true rfl) dX4_takeFrom_4 (st1 := [.int r2]) rfl (fun H locs hw => ?_)
  refine lv_if_eq (tgt := 35) X.1 X.2.1 dX4_takeFrom_7 (by decide) (fun c3 => ?_) (fun c3 => ?_)
  · have hf := if_t hf c3
    obtain rfl := Option.some.inj hf
    exact r_vret X hw dX4_takeFrom_35
  · have hf := if_e hf c3
    refine lv_aload_n X.1 X.2.1 dX4_takeFrom_10 rfl (lv_at hl 0 rfl) ?_
    refine lv_iload_n X.1 X.2.1 dX4_takeFrom_11 rfl (lv_at hl 3 rfl) ?_
    refine lv_iload X.1 X.2.1 dX4_takeFrom_12 (lv_at hl 4 rfl) ?_
    obtain ⟨r5, h4, hf⟩ := b_bd1 hf
    refine r_callV X hw (k_X4_hasRange hE ho h4) (spS0 hE ho) (C := RX4) (T := TX4) (N := 3) rfl qw841 qw826 qw827 qw78 qw828 okX4_hasRange ⟨rfl, rfl⟩ ⟨(Nat.le_of_ble_eq_true rfl), (Nat.le_of_ble_eq_true rfl)⟩ ⟨Nat.zero_le _, Nat.zero_le _⟩ rfl hl.1 (rest := []) rfl (Nat.le_of_ble_eq_true rfl) dX4_takeFrom_14 (st1 := [.int r5]) rfl (fun H locs hw => ?_)
    refine lv_if_eq (tgt := 35) X.1 X.2.1 dX4_takeFrom_17 (by decide) (fun c6 => ?_) (fun c6 => ?_)
    · have hf := if_t hf c6
      obtain rfl := Option.some.inj hf
      exact r_vret X hw dX4_takeFrom_35
    · have hf := if_e hf c6
      refine lv_aload_n X.1 X.2.1 dX4_takeFrom_20 rfl (lv_at hl 1 rfl) ?_
      refine r_get X hw (spS0 hE ho1) (C := RX4) (T := TX4) (N := 3) rfl iwX4 0 (by decide) (Nat.le_of_ble_eq_true rfl) qw408 (v := .ref (eP E (o1 + 1))) rfl dX4_takeFrom_21 ?_
      refine lv_iload_n X.1 X.2.1 dX4_takeFrom_24 rfl (lv_at hl 2 rfl) ?_
      refine lv_aload_n X.1 X.2.1 dX4_takeFrom_25 rfl (lv_at hl 0 rfl) ?_
      refine r_get X hw (spS0 hE ho) (C := RX4) (T := TX4) (N := 3) rfl iwX4 0 (by decide) (Nat.le_of_ble_eq_true rfl) qw408 (v := .ref (eP E (o + 1))) rfl dX4_takeFrom_26 ?_
      refine lv_iload_n X.1 X.2.1 dX4_takeFrom_29 rfl (lv_at hl 3 rfl) ?_
      refine lv_iload X.1 X.2.1 dX4_takeFrom_30 (lv_at hl 4 rfl) ?_
      obtain ⟨h7, hf⟩ := b_cy hf
      refine r_copy X hw hl.1 qw842 qw653 qw652 qw81 (spS1 hE ho1) (spS1 hE ho) h7 (Nat.le_of_ble_eq_true rfl) (Nat.le_of_ble_eq_true rfl) dX4_takeFrom_32 (fun H locs hw => ?_)
      obtain ⟨σ8, e9, hf⟩ := b_bnd hf
      rw [← e9] at hw
      obtain rfl := Option.some.inj hf
      exact r_vret X hw dX4_takeFrom_35
