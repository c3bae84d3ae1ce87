abbrev rm_X8_write : Room := { frames := 0, cells := 0, slots := 0, locals := 0 }
set_option maxHeartbeats 4000000 in
set_option maxRecDepth 100000 in
theorem k_X8_write {l : Launch} {E : en_T} (hE : ShF E) {x1 : Int32} {σ : sg_T}  {σ' : sg_T} (hf : f_X8_write x1 σ = some σ') : Ct l yX8_write cX8_write 2 none rm_X8_write E [.ref (eP E 69), .int x1] σ none σ' := by
  refine Ct.start (by decide) hE.1 (Nat.le_of_ble_eq_true rfl) ?_
  intro p e s m below meth c X hw ls hl
  have X : Cx E p s m _ meth c cX8_write 2 RX8 none := X
  have hR : ShR E := hE.r
  have hl : lv_has ls 2 [(0, .ref (eP E 69)), (1, .int x1)] := hl
  unfold f_X8_write at hf
  refine lv_aload_n X.1 X.2.1 dX8_write_0 rfl (lv_at hl 0 rfl) ?_
  refine r_get X hw (sp69 hE) (C := RX8) (T := TX8) (N := 31) rfl iwX8 11 (by decide) (Nat.le_of_ble_eq_true rfl) qw877 (v := .ref (eP E 75)) rfl dX8_write_1 ?_
  refine lv_sipush (v := 160) X.1 X.2.1 dX8_write_4 (by decide) ?_
  refine lv_aload_n X.1 X.2.1 dX8_write_7 rfl (lv_at hl 0 rfl) ?_
  refine r_get X hw (sp69 hE) (C := RX8) (T := TX8) (N := 31) rfl iwX8 13 (by decide) (Nat.le_of_ble_eq_true rfl) qw879 (v := .int (σ 69 13)) rfl dX8_write_8 ?_
  refine lv_imul X.1 X.2.1 dX8_write_11 ?_
  refine lv_aload_n X.1 X.2.1 dX8_write_12 rfl (lv_at hl 0 rfl) ?_
  refine r_get X hw (sp69 hE) (C := RX8) (T := TX8) (N := 31) rfl iwX8 14 (by decide) (Nat.le_of_ble_eq_true rfl) qw880 (v := .int (σ 69 14)) rfl dX8_write_13 ?_
  refine lv_iadd X.1 X.2.1 dX8_write_16 ?_
  refine lv_iload_n X.1 X.2.1 dX8_write_17 rfl (lv_at hl 1 rfl) ?_
  obtain ⟨h1, hf⟩ := b_ck hf
  refine r_iast X hw (sp75 hE) h1 dX8_write_18 (fun H locs hw => ?_)
  obtain ⟨σ2, e3, hf⟩ := b_bnd hf
  rw [← e3] at hw
  refine lv_aload_n X.1 X.2.1 dX8_write_19 rfl (lv_at hl 0 rfl) ?_
  refine lv_dup X.1 X.2.1 dX8_write_20 rfl ?_
  refine r_get X hw (sp69 hE) (C := RX8) (T := TX8) (N := 31) rfl iwX8 14 (by decide) (Nat.le_of_ble_eq_true rfl) qw880 (v := .int (σ2 69 14)) rfl dX8_write_21 ?_
  refine lv_iconst (v := 1) X.1 X.2.1 dX8_write_24 (by decide) ?_
  refine lv_iadd X.1 X.2.1 dX8_write_25 ?_
  refine r_put X hw (sp69 hE) (C := RX8) (T := TX8) (N := 31) rfl iwX8 tyX8 tyX8_ok nmX8 14 (by decide) (Nat.le_of_ble_eq_true rfl) qw880 rfl (v := .int ((σ2 69 14) + 1)) rfl rfl (x := ((σ2 69 14) + 1)) rfl dX8_write_26 (fun H locs hw => ?_)
  obtain ⟨σ4, e5, hf⟩ := b_bnd hf
  rw [← e5] at hw
  obtain rfl := Option.some.inj hf
  exact r_vret X hw dX8_write_29
abbrev rm_X8_rank : Room := { frames := 0, cells := 0, slots := 0, locals := 0 }
set_option maxHeartbeats 4000000 in
set_option maxRecDepth 100000 in
theorem k_X8_rank {l : Launch} {E : en_T} (hE : ShF E) {x1 : Int32} {σ : sg_T} {r : Int32} (hf : f_X8_rank x1 σ = some r) : Ct l yX8_rank cX8_rank 1 (some .int) rm_X8_rank E [.int x1] σ (some (.int r)) σ := by
  refine Ct.start (by decide) hE.1 (Nat.le_of_ble_eq_true rfl) ?_
  intro p e s m below meth c X hw ls hl
  have X : Cx E p s m _ meth c cX8_rank 1 RX8 (some .int) := X
  have hR : ShR E := hE.r
  have hl : lv_has ls 1 [(0, .int x1)] := hl
  unfold f_X8_rank at hf
  refine lv_iload_n X.1 X.2.1 dX8_rank_0 rfl (lv_at hl 0 rfl) ?_
  refine lv_if_ne (tgt := 8) X.1 X.2.1 dX8_rank_1 (by decide) (fun c1 => ?_) (fun c1 => ?_)
  · have hf := if_e hf c1
    refine lv_iload_n X.1 X.2.1 dX8_rank_8 rfl (lv_at hl 0 rfl) ?_
    refine lv_bipush (v := (-20)) X.1 X.2.1 dX8_rank_9 (by decide) ?_
    refine lv_icmp_ne (tgt := 18) X.1 X.2.1 dX8_rank_11 (by decide) (fun c2 => ?_) (fun c2 => ?_)
    · have hf := if_e hf c2
      refine lv_iload_n X.1 X.2.1 dX8_rank_18 rfl (lv_at hl 0 rfl) ?_
      refine lv_bipush (v := (-21)) X.1 X.2.1 dX8_rank_19 (by decide) ?_
      refine lv_icmp_ne (tgt := 28) X.1 X.2.1 dX8_rank_21 (by decide) (fun c3 => ?_) (fun c3 => ?_)
      · have hf := if_e hf c3
        refine lv_iload_n X.1 X.2.1 dX8_rank_28 rfl (lv_at hl 0 rfl) ?_
        refine lv_bipush (v := (-22)) X.1 X.2.1 dX8_rank_29 (by decide) ?_
        refine lv_icmp_ne (tgt := 38) X.1 X.2.1 dX8_rank_31 (by decide) (fun c4 => ?_) (fun c4 => ?_)
        · have hf := if_e hf c4
          refine lv_iload_n X.1 X.2.1 dX8_rank_38 rfl (lv_at hl 0 rfl) ?_
          refine lv_bipush (v := (-23)) X.1 X.2.1 dX8_rank_39 (by decide) ?_
          refine lv_icmp_eq (tgt := 50) X.1 X.2.1 dX8_rank_41 (by decide) (fun c5 => ?_) (fun c5 => ?_)
          · have hf := if_t hf c5
            refine lv_iconst (v := 4) X.1 X.2.1 dX8_rank_50 (by decide) ?_
            refine lv_goto (tgt := 77) X.1 X.2.1 dX8_rank_51 (by decide) ?_
            obtain rfl := Option.some.inj hf
            exact r_iret X hw dX8_rank_77
          · have hf := if_e hf c5
            refine lv_iload_n X.1 X.2.1 dX8_rank_44 rfl (lv_at hl 0 rfl) ?_
            refine lv_bipush (v := (-24)) X.1 X.2.1 dX8_rank_45 (by decide) ?_
            refine lv_icmp_ne (tgt := 54) X.1 X.2.1 dX8_rank_47 (by decide) (fun c6 => ?_) (fun c6 => ?_)
            · have hf := if_e hf c6
              refine lv_iload_n X.1 X.2.1 dX8_rank_54 rfl (lv_at hl 0 rfl) ?_
              refine lv_bipush (v := (-27)) X.1 X.2.1 dX8_rank_55 (by decide) ?_
              refine lv_icmp_ne (tgt := 65) X.1 X.2.1 dX8_rank_57 (by decide) (fun c7 => ?_) (fun c7 => ?_)
              · have hf := if_e hf c7
                refine lv_iload_n X.1 X.2.1 dX8_rank_65 rfl (lv_at hl 0 rfl) ?_
                refine lv_bipush (v := (-28)) X.1 X.2.1 dX8_rank_66 (by decide) ?_
                obtain ⟨v9, e10, hf⟩ := b_bnd hf
                refine r_join (g2 := F0 m 77 ls [.int v9]) ?_ (fun hj => ?_)
                · obtain rfl := Option.some.inj hf
                  exact r_iret X hw dX8_rank_77
                · refine lv_icmp_ne (tgt := 76) X.1 X.2.1 dX8_rank_68 (by decide) (fun c8 => ?_) (fun c8 => ?_)
                  · rw [e10, if_neg c8] at hj
                    refine lv_iconst (v := 5) X.1 X.2.1 dX8_rank_76 (by decide) ?_
                    exact hj
                  · rw [e10, if_pos c8] at hj
                    refine lv_bipush (v := 7) X.1 X.2.1 dX8_rank_71 (by decide) ?_
                    refine lv_goto (tgt := 77) X.1 X.2.1 dX8_rank_73 (by decide) ?_
                    exact hj
              · have hf := if_t hf c7
                refine lv_bipush (v := 6) X.1 X.2.1 dX8_rank_60 (by decide) ?_
                refine lv_goto (tgt := 77) X.1 X.2.1 dX8_rank_62 (by decide) ?_
                obtain rfl := Option.some.inj hf
                exact r_iret X hw dX8_rank_77
            · have hf := if_t hf c6
              refine lv_iconst (v := 4) X.1 X.2.1 dX8_rank_50 (by decide) ?_
              refine lv_goto (tgt := 77) X.1 X.2.1 dX8_rank_51 (by decide) ?_
              obtain rfl := Option.some.inj hf
              exact r_iret X hw dX8_rank_77
        · have hf := if_t hf c4
          refine lv_iconst (v := 3) X.1 X.2.1 dX8_rank_34 (by decide) ?_
          refine lv_goto (tgt := 77) X.1 X.2.1 dX8_rank_35 (by decide) ?_
          obtain rfl := Option.some.inj hf
          exact r_iret X hw dX8_rank_77
      · have hf := if_t hf c3
        refine lv_iconst (v := 2) X.1 X.2.1 dX8_rank_24 (by decide) ?_
        refine lv_goto (tgt := 77) X.1 X.2.1 dX8_rank_25 (by decide) ?_
        obtain rfl := Option.some.inj hf
        exact r_iret X hw dX8_rank_77
    · have hf := if_t hf c2
      refine lv_iconst (v := 1) X.1 X.2.1 dX8_rank_14 (by decide) ?_
      refine lv_goto (tgt := 77) X.1 X.2.1 dX8_rank_15 (by decide) ?_
      obtain rfl := Option.some.inj hf
      exact r_iret X hw dX8_rank_77
  · have hf := if_t hf c1
    refine lv_iconst (v := 0) X.1 X.2.1 dX8_rank_4 (by decide) ?_
    refine lv_goto (tgt := 77) X.1 X.2.1 dX8_rank_5 (by decide) ?_
    obtain rfl := Option.some.inj hf
    exact r_iret X hw dX8_rank_77
abbrev rm_X8_await : Room := { frames := 0, cells := 0, slots := 0, locals := 0 }
set_option maxHeartbeats 4000000 in
set_option maxRecDepth 100000 in
theorem k_X8_await {l : Launch} {E : en_T} (hE : ShF E) {x1 : Int32} {σ : sg_T}  {σ' : sg_T} (hf : f_X8_await x1 σ = some σ') : Ct l yX8_await cX8_await 2 none rm_X8_await E [.ref (eP E 69), .int x1] σ none σ' := by
  refine Ct.start (by decide) hE.1 (Nat.le_of_ble_eq_true rfl) ?_
  intro p e s m below meth c X hw ls hl
  have X : Cx E p s m _ meth c cX8_await 2 RX8 none := X
  have hR : ShR E := hE.r
  have hl : lv_has ls 2 [(0, .ref (eP E 69)), (1, .int x1)] := hl
  unfold f_X8_await at hf
  refine lv_aload_n X.1 X.2.1 dX8_await_0 rfl (lv_at hl 0 rfl) ?_
  refine r_get X hw (sp69 hE) (C := RX8) (T := TX8) (N := 31) rfl iwX8 16 (by decide) (Nat.le_of_ble_eq_true rfl) qw882 (v := .ref (eP E 78)) rfl dX8_await_1 ?_
  refine lv_aload_n X.1 X.2.1 dX8_await_4 rfl (lv_at hl 0 rfl) ?_
  refine r_get X hw (sp69 hE) (C := RX8) (T := TX8) (N := 31) rfl iwX8 17 (by decide) (Nat.le_of_ble_eq_true rfl) qw883 (v := .int (σ 69 17)) rfl dX8_await_5 ?_
  refine lv_iload_n X.1 X.2.1 dX8_await_8 rfl (lv_at hl 1 rfl) ?_
  obtain ⟨h1, hf⟩ := b_ck hf
  refine r_iast X hw (sp78 hE) h1 dX8_await_9 (fun H locs hw => ?_)
  obtain ⟨σ2, e3, hf⟩ := b_bnd hf
  rw [← e3] at hw
  refine lv_aload_n X.1 X.2.1 dX8_await_10 rfl (lv_at hl 0 rfl) ?_
  refine lv_dup X.1 X.2.1 dX8_await_11 rfl ?_
  refine r_get X hw (sp69 hE) (C := RX8) (T := TX8) (N := 31) rfl iwX8 17 (by decide) (Nat.le_of_ble_eq_true rfl) qw883 (v := .int (σ2 69 17)) rfl dX8_await_12 ?_
  refine lv_iconst (v := 1) X.1 X.2.1 dX8_await_15 (by decide) ?_
  refine lv_iadd X.1 X.2.1 dX8_await_16 ?_
  refine r_put X hw (sp69 hE) (C := RX8) (T := TX8) (N := 31) rfl iwX8 tyX8 tyX8_ok nmX8 17 (by decide) (Nat.le_of_ble_eq_true rfl) qw883 rfl (v := .int ((σ2 69 17) + 1)) rfl rfl (x := ((σ2 69 17) + 1)) rfl dX8_await_17 (fun H locs hw => ?_)
  obtain ⟨σ4, e5, hf⟩ := b_bnd hf
  rw [← e5] at hw
  obtain rfl := Option.some.inj hf
  exact r_vret X hw dX8_await_20
abbrev rm_X8_last : Room := { frames := 1, cells := 0, slots := 0, locals := 100 }
set_option maxHeartbeats 4000000 in
set_option maxRecDepth 100000 in
theorem k_X8_last {l : Launch} {E : en_T} (hE : ShF E)  {σ : sg_T} {r : Int32} (hf : f_X8_last  σ = some r) : Ct l yX8_last cX8_last 1 (some .int) rm_X8_last E [.ref (eP E 69)] σ (some (.int r)) σ := by
  refine Ct.start (by decide) hE.1 (Nat.le_of_ble_eq_true rfl) ?_
  intro p e s m below meth c X hw ls hl
  have X : Cx E p s m _ meth c cX8_last 1 RX8 (some .int) := X
  have hR : ShR E := hE.r
  have hl : lv_has ls 1 [(0, .ref (eP E 69))] := hl
  unfold f_X8_last at hf
  refine lv_aload_n X.1 X.2.1 dX8_last_0 rfl (lv_at hl 0 rfl) ?_
  refine r_get X hw (sp69 hE) (C := RX8) (T := TX8) (N := 31) rfl iwX8 17 (by decide) (Nat.le_of_ble_eq_true rfl) qw883 (v := .int (σ 69 17)) rfl dX8_last_1 ?_
  refine lv_if_ne (tgt := 11) X.1 X.2.1 dX8_last_4 (by decide) (fun c1 => ?_) (fun c1 => ?_)
  · have hf := if_e hf c1
    refine lv_aload_n X.1 X.2.1 dX8_last_11 rfl (lv_at hl 0 rfl) ?_
    refine r_get X hw (sp69 hE) (C := RX8) (T := TX8) (N := 31) rfl iwX8 16 (by decide) (Nat.le_of_ble_eq_true rfl) qw882 (v := .ref (eP E 78)) rfl dX8_last_12 ?_
    refine lv_aload_n X.1 X.2.1 dX8_last_15 rfl (lv_at hl 0 rfl) ?_
    refine r_get X hw (sp69 hE) (C := RX8) (T := TX8) (N := 31) rfl iwX8 17 (by decide) (Nat.le_of_ble_eq_true rfl) qw883 (v := .int (σ 69 17)) rfl dX8_last_16 ?_
    refine lv_iconst (v := 1) X.1 X.2.1 dX8_last_19 (by decide) ?_
    refine lv_isub X.1 X.2.1 dX8_last_20 ?_
    obtain ⟨h2, hf⟩ := b_ck hf
    refine r_iald X hw (sp78 hE) h2 dX8_last_21 ?_
    obtain ⟨r4, h3, hf⟩ := b_bd1 hf
    refine r_callS X hw (k_X8_rank hE  h3) qw1096 qw1097 qw79 qw1098 okX8_rank ⟨rfl, rfl⟩ ⟨(Nat.le_of_ble_eq_true rfl), (Nat.le_of_ble_eq_true rfl)⟩ ⟨Nat.zero_le _, Nat.zero_le _⟩ rfl hl.1 (rest := []) rfl (Nat.le_of_ble_eq_true rfl) dX8_last_22 (st1 := [.int r4]) rfl (fun H locs hw => ?_)
    obtain rfl := Option.some.inj hf
    exact r_iret X hw dX8_last_25
  · have hf := if_t hf c1
    refine lv_iconst (v := 0) X.1 X.2.1 dX8_last_7 (by decide) ?_
    refine lv_goto (tgt := 25) X.1 X.2.1 dX8_last_8 (by decide) ?_
    obtain rfl := Option.some.inj hf
    exact r_iret X hw dX8_last_25
abbrev rm_X8_settle : Room := { frames := 2, cells := 0, slots := 0, locals := 120 }
set_option maxHeartbeats 4000000 in
set_option maxRecDepth 100000 in
theorem w_X8_settle_0 {p : Program} {l : Launch} {e : Env} {s : State} {m : MethodId} {args : Array Value} {below : List Frame} {meth : Method} {c : Code} {Q : State → Prop} {E : en_T} (X : Cx E p s m args meth c cX8_settle 2 RX8 none) (hE : ShF E) {u1 : Int32}  {res : sg_T} :
    ∀ (n : Nat) (σ : sg_T), itr (fun q => b_X8_settle_0 u1 q) n σ = some res → ∀ (H : Heap) (locs : List Loc) (ls : Array Slot), Hw E σ s H locs → lv_has ls 2 [(0, .ref (eP E 69)), (1, .int u1)] →
    (∀ (τ : sg_T), res = τ → ∀ (H : Heap) (locs : List Loc) (ls : Array Slot), Hw E τ s H locs → lv_has ls 2 [(0, .ref (eP E 69)), (1, .int u1)] → W p l e rm_X8_settle s m args below meth c H locs 0 0 Q (F0 m 83 ls [])) →
    W p l e rm_X8_settle s m args below meth c H locs 0 0 Q (F0 m 0 ls []) := by
  have hR : ShR E := hE.r
  intro n
  induction n with
  | zero =>
    intro σ hf0
    exact (itr_0 hf0).elim
  | succ n ih =>
    intro σ hf0 H locs ls hw hl K1
    obtain ⟨r0, hf, hr1, hr2⟩ := itr_s hf0
    have hf : b_X8_settle_0 u1 σ = some r0 := hf
    unfold b_X8_settle_0 at hf
    refine lv_aload_n X.1 X.2.1 dX8_settle_0 rfl (lv_at hl 0 rfl) ?_
    obtain ⟨r2, h1, hf⟩ := b_bd1 hf
    refine r_callV X hw (k_X8_last hE  h1) (sp69 hE) (C := RX8) (T := TX8) (N := 31) rfl qw1092 qw1094 qw50 qw79 qw1095 okX8_last ⟨rfl, rfl⟩ ⟨(Nat.le_of_ble_eq_true rfl), (Nat.le_of_ble_eq_true rfl)⟩ ⟨Nat.zero_le _, Nat.zero_le _⟩ rfl hl.1 (rest := []) rfl (Nat.le_of_ble_eq_true rfl) dX8_settle_1 (st1 := [.int r2]) rfl (fun H locs hw => ?_)
    refine lv_if_le (tgt := 83) X.1 X.2.1 dX8_settle_4 (by decide) (fun c3 => ?_) (fun c3 => ?_)
    · have hf := if_t hf c3
      obtain rfl := Option.some.inj hf
      obtain rfl := hr2 _ rfl
      exact K1 _ rfl _ _ _ hw (lv_sub hl [0, 1] rfl)
    · have hf := if_e hf c3
      refine lv_aload_n X.1 X.2.1 dX8_settle_7 rfl (lv_at hl 0 rfl) ?_
      obtain ⟨r5, h4, hf⟩ := b_bd1 hf
      refine r_callV X hw (k_X8_last hE  h4) (sp69 hE) (C := RX8) (T := TX8) (N := 31) rfl qw1092 qw1094 qw50 qw79 qw1095 okX8_last ⟨rfl, rfl⟩ ⟨(Nat.le_of_ble_eq_true rfl), (Nat.le_of_ble_eq_true rfl)⟩ ⟨Nat.zero_le _, Nat.zero_le _⟩ rfl hl.1 (rest := []) rfl (Nat.le_of_ble_eq_true rfl) dX8_settle_8 (st1 := [.int r5]) rfl (fun H locs hw => ?_)
      refine lv_iload_n X.1 X.2.1 dX8_settle_11 rfl (lv_at hl 1 rfl) ?_
      refine lv_icmp_lt (tgt := 83) X.1 X.2.1 dX8_settle_12 (by decide) (fun c6 => ?_) (fun c6 => ?_)
      · have hf := if_t hf c6
        obtain rfl := Option.some.inj hf
        obtain rfl := hr2 _ rfl
        exact K1 _ rfl _ _ _ hw (lv_sub hl [0, 1] rfl)
      · have hf := if_e hf c6
        refine lv_aload_n X.1 X.2.1 dX8_settle_15 rfl (lv_at hl 0 rfl) ?_
        refine lv_dup X.1 X.2.1 dX8_settle_16 rfl ?_
        refine r_get X hw (sp69 hE) (C := RX8) (T := TX8) (N := 31) rfl iwX8 17 (by decide) (Nat.le_of_ble_eq_true rfl) qw883 (v := .int (σ 69 17)) rfl dX8_settle_17 ?_
        refine lv_iconst (v := 1) X.1 X.2.1 dX8_settle_20 (by decide) ?_
        refine lv_isub X.1 X.2.1 dX8_settle_21 ?_
        refine r_put X hw (sp69 hE) (C := RX8) (T := TX8) (N := 31) rfl iwX8 tyX8 tyX8_ok nmX8 17 (by decide) (Nat.le_of_ble_eq_true rfl) qw883 rfl (v := .int ((σ 69 17) - 1)) rfl rfl (x := ((σ 69 17) - 1)) rfl dX8_settle_22 (fun H locs hw => ?_)
        obtain ⟨σ7, e8, hf⟩ := b_bnd hf
        rw [← e8] at hw
        refine lv_aload_n X.1 X.2.1 dX8_settle_25 rfl (lv_at hl 0 rfl) ?_
        refine lv_aload_n X.1 X.2.1 dX8_settle_26 rfl (lv_at hl 0 rfl) ?_
        refine r_get X hw (sp69 hE) (C := RX8) (T := TX8) (N := 31) rfl iwX8 16 (by decide) (Nat.le_of_ble_eq_true rfl) qw882 (v := .ref (eP E 78)) rfl dX8_settle_27 ?_
        refine lv_aload_n X.1 X.2.1 dX8_settle_30 rfl (lv_at hl 0 rfl) ?_
        refine r_get X hw (sp69 hE) (C := RX8) (T := TX8) (N := 31) rfl iwX8 17 (by decide) (Nat.le_of_ble_eq_true rfl) qw883 (v := .int (σ7 69 17)) rfl dX8_settle_31 ?_
        obtain ⟨h9, hf⟩ := b_ck hf
        refine r_iald X hw (sp78 hE) h9 dX8_settle_34 ?_
        obtain ⟨σ11, h10, hf⟩ := b_bd1 hf
        refine r_callV X hw (k_X8_write hE  h10) (sp69 hE) (C := RX8) (T := TX8) (N := 31) rfl qw1080 qw1082 qw47 qw79 qw1083 okX8_write ⟨rfl, rfl⟩ ⟨(Nat.le_of_ble_eq_true rfl), (Nat.le_of_ble_eq_true rfl)⟩ ⟨Nat.zero_le _, Nat.zero_le _⟩ rfl hl.1 (rest := []) rfl (Nat.le_of_ble_eq_true rfl) dX8_settle_35 (st1 := []) rfl (fun H locs hw => ?_)
        refine lv_aload_n X.1 X.2.1 dX8_settle_38 rfl (lv_at hl 0 rfl) ?_
        refine lv_dup X.1 X.2.1 dX8_settle_39 rfl ?_
        refine r_get X hw (sp69 hE) (C := RX8) (T := TX8) (N := 31) rfl iwX8 10 (by decide) (Nat.le_of_ble_eq_true rfl) qw876 (v := .int (σ11 69 10)) rfl dX8_settle_40 ?_
        refine lv_aload_n X.1 X.2.1 dX8_settle_43 rfl (lv_at hl 0 rfl) ?_
        refine r_get X hw (sp69 hE) (C := RX8) (T := TX8) (N := 31) rfl iwX8 16 (by decide) (Nat.le_of_ble_eq_true rfl) qw882 (v := .ref (eP E 78)) rfl dX8_settle_44 ?_
        refine lv_aload_n X.1 X.2.1 dX8_settle_47 rfl (lv_at hl 0 rfl) ?_
        refine r_get X hw (sp69 hE) (C := RX8) (T := TX8) (N := 31) rfl iwX8 17 (by decide) (Nat.le_of_ble_eq_true rfl) qw883 (v := .int (σ11 69 17)) rfl dX8_settle_48 ?_
        obtain ⟨h12, hf⟩ := b_ck hf
        refine r_iald X hw (sp78 hE) h12 dX8_settle_51 ?_
        refine lv_bipush (v := (-22)) X.1 X.2.1 dX8_settle_52 (by decide) ?_
        refine lv_icmp_eq (tgt := 71) X.1 X.2.1 dX8_settle_54 (by decide) (fun c13 => ?_) (fun c13 => ?_)
        · have hf := if_t hf c13
          refine lv_iconst (v := 1) X.1 X.2.1 dX8_settle_71 (by decide) ?_
          refine lv_goto (tgt := 76) X.1 X.2.1 dX8_settle_72 (by decide) ?_
          refine lv_isub X.1 X.2.1 dX8_settle_76 ?_
          refine r_put X hw (sp69 hE) (C := RX8) (T := TX8) (N := 31) rfl iwX8 tyX8 tyX8_ok nmX8 10 (by decide) (Nat.le_of_ble_eq_true rfl) qw876 rfl (v := .int ((σ11 69 10) - 1)) rfl rfl (x := ((σ11 69 10) - 1)) rfl dX8_settle_77 (fun H locs hw => ?_)
          obtain ⟨σ14, e15, hf⟩ := b_bnd hf
          rw [← e15] at hw
          refine lv_goto (tgt := 0) X.1 X.2.1 dX8_settle_80 (by decide) ?_
          obtain rfl := Option.some.inj hf
          exact ih _ (hr1 _ rfl) _ _ _ hw (lv_sub hl [0, 1] rfl) K1
        · have hf := if_e hf c13
          refine lv_aload_n X.1 X.2.1 dX8_settle_57 rfl (lv_at hl 0 rfl) ?_
          refine r_get X hw (sp69 hE) (C := RX8) (T := TX8) (N := 31) rfl iwX8 16 (by decide) (Nat.le_of_ble_eq_true rfl) qw882 (v := .ref (eP E 78)) rfl dX8_settle_58 ?_
          refine lv_aload_n X.1 X.2.1 dX8_settle_61 rfl (lv_at hl 0 rfl) ?_
          refine r_get X hw (sp69 hE) (C := RX8) (T := TX8) (N := 31) rfl iwX8 17 (by decide) (Nat.le_of_ble_eq_true rfl) qw883 (v := .int (σ11 69 17)) rfl dX8_settle_62 ?_
          obtain ⟨h16, hf⟩ := b_ck hf
          refine r_iald X hw (sp78 hE) h16 dX8_settle_65 ?_
          refine lv_bipush (v := (-28)) X.1 X.2.1 dX8_settle_66 (by decide) ?_
          obtain ⟨v18, e19, hf⟩ := b_bnd hf
          refine r_join (g2 := F0 m 76 ls [.int v18, .int (σ11 69 10), .ref (eP E 69)]) ?_ (fun hj => ?_)
          · refine lv_isub X.1 X.2.1 dX8_settle_76 ?_
            refine r_put X hw (sp69 hE) (C := RX8) (T := TX8) (N := 31) rfl iwX8 tyX8 tyX8_ok nmX8 10 (by decide) (Nat.le_of_ble_eq_true rfl) qw876 rfl (v := .int ((σ11 69 10) - v18)) rfl rfl (x := ((σ11 69 10) - v18)) rfl dX8_settle_77 (fun H locs hw => ?_)
            obtain ⟨σ20, e21, hf⟩ := b_bnd hf
            rw [← e21] at hw
            refine lv_goto (tgt := 0) X.1 X.2.1 dX8_settle_80 (by decide) ?_
            obtain rfl := Option.some.inj hf
            exact ih _ (hr1 _ rfl) _ _ _ hw (lv_sub hl [0, 1] rfl) K1
          · refine lv_icmp_ne (tgt := 75) X.1 X.2.1 dX8_settle_68 (by decide) (fun c17 => ?_) (fun c17 => ?_)
            · rw [e19, if_neg c17] at hj
              refine lv_iconst (v := 0) X.1 X.2.1 dX8_settle_75 (by decide) ?_
              exact hj
            · rw [e19, if_pos c17] at hj
              refine lv_iconst (v := 1) X.1 X.2.1 dX8_settle_71 (by decide) ?_
              refine lv_goto (tgt := 76) X.1 X.2.1 dX8_settle_72 (by decide) ?_
              exact hj
set_option maxHeartbeats 4000000 in
set_option maxRecDepth 100000 in
theorem k_X8_settle {l : Launch} {E : en_T} (hE : ShF E) {x1 : Int32} {σ : sg_T}  {σ' : sg_T} (hf : f_X8_settle x1 σ = some σ') : Ct l yX8_settle cX8_settle 2 none rm_X8_settle E [.ref (eP E 69), .int x1] σ none σ' := by
  refine Ct.start (by decide) hE.1 (Nat.le_of_ble_eq_true rfl) ?_
  intro p e s m below meth c X hw ls hl
  have X : Cx E p s m _ meth c cX8_settle 2 RX8 none := X
  have hR : ShR E := hE.r
  have hl : lv_has ls 2 [(0, .ref (eP E 69)), (1, .int x1)] := hl
  unfold f_X8_settle at hf
  obtain ⟨σ23, h22, hf⟩ := b_bd1 hf
  refine w_X8_settle_0 X hE  lfu _ h22 _ _ _ hw (lv_sub hl [0, 1] rfl) (fun yσ23 hq H locs ls hw hl => ?_)
  cases hq
  obtain rfl := Option.some.inj hf
  exact r_vret X hw dX8_settle_83
abbrev rm_X8_between : Room := { frames := 1, cells := 0, slots := 0, locals := 100 }
set_option maxHeartbeats 4000000 in
set_option maxRecDepth 100000 in
theorem k_X8_between {l : Launch} {E : en_T} (hE : ShF E)  {σ : sg_T} {r : Int32} (hf : f_X8_between  σ = some r) : Ct l yX8_between cX8_between 2 (some .int) rm_X8_between E [.ref (eP E 69)] σ (some (.int r)) σ := by
  refine Ct.start (by decide) hE.1 (Nat.le_of_ble_eq_true rfl) ?_
  intro p e s m below meth c X hw ls hl
  have X : Cx E p s m _ meth c cX8_between 2 RX8 (some .int) := X
  have hR : ShR E := hE.r
  have hl : lv_has ls 2 [(0, .ref (eP E 69))] := hl
  unfold f_X8_between at hf
  refine lv_aload_n X.1 X.2.1 dX8_between_0 rfl (lv_at hl 0 rfl) ?_
  obtain ⟨r2, h1, hf⟩ := b_bd1 hf
  refine r_callV X hw (k_X8_word hE  h1) (sp69 hE) (C := RX8) (T := TX8) (N := 31) rfl qw1068 qw1070 qw44 qw79 qw1071 okX8_word ⟨rfl, rfl⟩ ⟨(Nat.le_of_ble_eq_true rfl), (Nat.le_of_ble_eq_true rfl)⟩ ⟨Nat.zero_le _, Nat.zero_le _⟩ rfl hl.1 (rest := []) rfl (Nat.le_of_ble_eq_true rfl) dX8_between_1 (st1 := [.int r2]) rfl (fun H locs hw => ?_)
  refine lv_istore_n (lv' := [(1, .int r2), (0, .ref (eP E 69))]) X.1 X.2.1 dX8_between_4 rfl hl (by decide) rfl (fun ls hl => ?_)
  refine lv_iload_n X.1 X.2.1 dX8_between_5 rfl (lv_at hl 0 rfl) ?_
  refine lv_bipush (v := 9) X.1 X.2.1 dX8_between_6 (by decide) ?_
  refine lv_icmp_ne (tgt := 16) X.1 X.2.1 dX8_between_8 (by decide) (fun c3 => ?_) (fun c3 => ?_)
  · have hf := if_e hf c3
    refine lv_iload_n X.1 X.2.1 dX8_between_16 rfl (lv_at hl 0 rfl) ?_
    refine lv_bipush (v := 10) X.1 X.2.1 dX8_between_17 (by decide) ?_
    refine lv_icmp_ne (tgt := 27) X.1 X.2.1 dX8_between_19 (by decide) (fun c4 => ?_) (fun c4 => ?_)
    · have hf := if_e hf c4
      refine lv_aload_n X.1 X.2.1 dX8_between_27 rfl (lv_at hl 1 rfl) ?_
      refine lv_bipush (v := 60) X.1 X.2.1 dX8_between_28 (by decide) ?_
      obtain ⟨r6, h5, hf⟩ := b_bd1 hf
      refine r_callV X hw (k_X8_isSign hE  h5) (sp69 hE) (C := RX8) (T := TX8) (N := 31) rfl qw1088 qw1090 qw49 qw79 qw1091 okX8_isSign ⟨rfl, rfl⟩ ⟨(Nat.le_of_ble_eq_true rfl), (Nat.le_of_ble_eq_true rfl)⟩ ⟨Nat.zero_le _, Nat.zero_le _⟩ rfl hl.1 (rest := []) rfl (Nat.le_of_ble_eq_true rfl) dX8_between_30 (st1 := [.int r6]) rfl (fun H locs hw => ?_)
      refine lv_if_eq (tgt := 41) X.1 X.2.1 dX8_between_33 (by decide) (fun c7 => ?_) (fun c7 => ?_)
      · have hf := if_t hf c7
        refine lv_aload_n X.1 X.2.1 dX8_between_41 rfl (lv_at hl 1 rfl) ?_
        refine lv_bipush (v := 61) X.1 X.2.1 dX8_between_42 (by decide) ?_
        obtain ⟨r9, h8, hf⟩ := b_bd1 hf
        refine r_callV X hw (k_X8_isSign hE  h8) (sp69 hE) (C := RX8) (T := TX8) (N := 31) rfl qw1088 qw1090 qw49 qw79 qw1091 okX8_isSign ⟨rfl, rfl⟩ ⟨(Nat.le_of_ble_eq_true rfl), (Nat.le_of_ble_eq_true rfl)⟩ ⟨Nat.zero_le _, Nat.zero_le _⟩ rfl hl.1 (rest := []) rfl (Nat.le_of_ble_eq_true rfl) dX8_between_44 (st1 := [.int r9]) rfl (fun H locs hw => ?_)
        refine lv_if_eq (tgt := 55) X.1 X.2.1 dX8_between_47 (by decide) (fun c10 => ?_) (fun c10 => ?_)
        · have hf := if_t hf c10
          refine lv_aload_n X.1 X.2.1 dX8_between_55 rfl (lv_at hl 1 rfl) ?_
          refine lv_bipush (v := 43) X.1 X.2.1 dX8_between_56 (by decide) ?_
          obtain ⟨r12, h11, hf⟩ := b_bd1 hf
          refine r_callV X hw (k_X8_isSign hE  h11) (sp69 hE) (C := RX8) (T := TX8) (N := 31) rfl qw1088 qw1090 qw49 qw79 qw1091 okX8_isSign ⟨rfl, rfl⟩ ⟨(Nat.le_of_ble_eq_true rfl), (Nat.le_of_ble_eq_true rfl)⟩ ⟨Nat.zero_le _, Nat.zero_le _⟩ rfl hl.1 (rest := []) rfl (Nat.le_of_ble_eq_true rfl) dX8_between_58 (st1 := [.int r12]) rfl (fun H locs hw => ?_)
          refine lv_if_eq (tgt := 69) X.1 X.2.1 dX8_between_61 (by decide) (fun c13 => ?_) (fun c13 => ?_)
          · have hf := if_t hf c13
            refine lv_aload_n X.1 X.2.1 dX8_between_69 rfl (lv_at hl 1 rfl) ?_
            refine lv_bipush (v := 45) X.1 X.2.1 dX8_between_70 (by decide) ?_
            obtain ⟨r15, h14, hf⟩ := b_bd1 hf
            refine r_callV X hw (k_X8_isSign hE  h14) (sp69 hE) (C := RX8) (T := TX8) (N := 31) rfl qw1088 qw1090 qw49 qw79 qw1091 okX8_isSign ⟨rfl, rfl⟩ ⟨(Nat.le_of_ble_eq_true rfl), (Nat.le_of_ble_eq_true rfl)⟩ ⟨Nat.zero_le _, Nat.zero_le _⟩ rfl hl.1 (rest := []) rfl (Nat.le_of_ble_eq_true rfl) dX8_between_72 (st1 := [.int r15]) rfl (fun H locs hw => ?_)
            refine lv_if_eq (tgt := 83) X.1 X.2.1 dX8_between_75 (by decide) (fun c16 => ?_) (fun c16 => ?_)
            · have hf := if_t hf c16
              refine lv_aload_n X.1 X.2.1 dX8_between_83 rfl (lv_at hl 1 rfl) ?_
              refine lv_bipush (v := 42) X.1 X.2.1 dX8_between_84 (by decide) ?_
              obtain ⟨r18, h17, hf⟩ := b_bd1 hf
              refine r_callV X hw (k_X8_isSign hE  h17) (sp69 hE) (C := RX8) (T := TX8) (N := 31) rfl qw1088 qw1090 qw49 qw79 qw1091 okX8_isSign ⟨rfl, rfl⟩ ⟨(Nat.le_of_ble_eq_true rfl), (Nat.le_of_ble_eq_true rfl)⟩ ⟨Nat.zero_le _, Nat.zero_le _⟩ rfl hl.1 (rest := []) rfl (Nat.le_of_ble_eq_true rfl) dX8_between_86 (st1 := [.int r18]) rfl (fun H locs hw => ?_)
              obtain ⟨v20, e21, hf⟩ := b_bnd hf
              refine r_join (g2 := F0 m 98 ls [.int v20]) ?_ (fun hj => ?_)
              · obtain rfl := Option.some.inj hf
                exact r_iret X hw dX8_between_98
              · refine lv_if_eq (tgt := 97) X.1 X.2.1 dX8_between_89 (by decide) (fun c19 => ?_) (fun c19 => ?_)
                · rw [e21, if_pos c19] at hj
                  refine lv_iconst (v := 0) X.1 X.2.1 dX8_between_97 (by decide) ?_
                  exact hj
                · rw [e21, if_neg c19] at hj
                  refine lv_bipush (v := (-27)) X.1 X.2.1 dX8_between_92 (by decide) ?_
                  refine lv_goto (tgt := 98) X.1 X.2.1 dX8_between_94 (by decide) ?_
                  exact hj
            · have hf := if_e hf c16
              refine lv_bipush (v := (-26)) X.1 X.2.1 dX8_between_78 (by decide) ?_
              refine lv_goto (tgt := 98) X.1 X.2.1 dX8_between_80 (by decide) ?_
              obtain rfl := Option.some.inj hf
              exact r_iret X hw dX8_between_98
          · have hf := if_e hf c13
            refine lv_bipush (v := (-25)) X.1 X.2.1 dX8_between_64 (by decide) ?_
            refine lv_goto (tgt := 98) X.1 X.2.1 dX8_between_66 (by decide) ?_
            obtain rfl := Option.some.inj hf
            exact r_iret X hw dX8_between_98
        · have hf := if_e hf c10
          refine lv_bipush (v := (-24)) X.1 X.2.1 dX8_between_50 (by decide) ?_
          refine lv_goto (tgt := 98) X.1 X.2.1 dX8_between_52 (by decide) ?_
          obtain rfl := Option.some.inj hf
          exact r_iret X hw dX8_between_98
      · have hf := if_e hf c7
        refine lv_bipush (v := (-23)) X.1 X.2.1 dX8_between_36 (by decide) ?_
        refine lv_goto (tgt := 98) X.1 X.2.1 dX8_between_38 (by decide) ?_
        obtain rfl := Option.some.inj hf
        exact r_iret X hw dX8_between_98
    · have hf := if_t hf c4
      refine lv_bipush (v := (-21)) X.1 X.2.1 dX8_between_22 (by decide) ?_
      refine lv_goto (tgt := 98) X.1 X.2.1 dX8_between_24 (by decide) ?_
      obtain rfl := Option.some.inj hf
      exact r_iret X hw dX8_between_98
  · have hf := if_t hf c3
    refine lv_bipush (v := (-20)) X.1 X.2.1 dX8_between_11 (by decide) ?_
    refine lv_goto (tgt := 98) X.1 X.2.1 dX8_between_13 (by decide) ?_
    obtain rfl := Option.some.inj hf
    exact r_iret X hw dX8_between_98
abbrev rm_X8_numberThere : Room := { frames := 0, cells := 0, slots := 0, locals := 0 }
set_option maxHeartbeats 4000000 in
set_option maxRecDepth 100000 in
theorem w_X8_numberThere_7 {p : Program} {l : Launch} {e : Env} {s : State} {m : MethodId} {args : Array Value} {below : List Frame} {meth : Method} {c : Code} {Q : State → Prop} {E : en_T} (X : Cx E p s m args meth c cX8_numberThere 3 RX8 (some .int)) (hE : ShF E)  {σ : sg_T} {res : Int32 × Int32} :
    ∀ (n : Nat) (w1 : Int32) (w2 : Int32), itr (fun q => b_X8_numberThere_7  q.1 q.2 σ) n (w1, w2) = some res → ∀ (H : Heap) (locs : List Loc) (ls : Array Slot), Hw E σ s H locs → lv_has ls 3 [(0, .ref (eP E 69)), (1, .int w1), (2, .int w2)] →
    (∀ (y1 : Int32) (y2 : Int32), res = (y1, y2) → ∀ (H : Heap) (locs : List Loc) (ls : Array Slot), Hw E σ s H locs → lv_has ls 3 [(0, .ref (eP E 69)), (1, .int y1), (2, .int y2)] → W p l e rm_X8_numberThere s m args below meth c H locs 0 0 Q (F0 m 36 ls [])) →
    W p l e rm_X8_numberThere s m args below meth c H locs 0 0 Q (F0 m 7 ls []) := by
  have hR : ShR E := hE.r
  intro n
  induction n with
  | zero =>
    intro w1 w2 hf0
    exact (itr_0 hf0).elim
  | succ n ih =>
    intro w1 w2 hf0 H locs ls hw hl K1
    obtain ⟨r0, hf, hr1, hr2⟩ := itr_s hf0
    have hf : b_X8_numberThere_7  w1 w2 σ = some r0 := hf
    unfold b_X8_numberThere_7 at hf
    refine lv_iload_n X.1 X.2.1 dX8_numberThere_7 rfl (lv_at hl 2 rfl) ?_
    refine lv_aload_n X.1 X.2.1 dX8_numberThere_8 rfl (lv_at hl 0 rfl) ?_
    refine r_get X hw (sp69 hE) (C := RX8) (T := TX8) (N := 31) rfl iwX8 7 (by decide) (Nat.le_of_ble_eq_true rfl) qw873 (v := .int (σ 69 7)) rfl dX8_numberThere_9 ?_
    refine lv_icmp_ge (tgt := 36) X.1 X.2.1 dX8_numberThere_12 (by decide) (fun c2 => ?_) (fun c2 => ?_)
    · have hf := if_t hf c2
      obtain rfl := Option.some.inj hf
      obtain rfl := hr2 _ rfl
      exact K1 _ _ rfl _ _ _ hw (lv_sub hl [0, 1, 2] rfl)
    · have hf := if_e hf c2
      refine lv_bipush (v := 10) X.1 X.2.1 dX8_numberThere_15 (by decide) ?_
      refine lv_iload_n X.1 X.2.1 dX8_numberThere_17 rfl (lv_at hl 1 rfl) ?_
      refine lv_imul X.1 X.2.1 dX8_numberThere_18 ?_
      refine lv_aload_n X.1 X.2.1 dX8_numberThere_19 rfl (lv_at hl 0 rfl) ?_
      refine r_get X hw (sp69 hE) (C := RX8) (T := TX8) (N := 31) rfl iwX8 5 (by decide) (Nat.le_of_ble_eq_true rfl) qw871 (v := .ref (eP E 74)) rfl dX8_numberThere_20 ?_
      refine lv_iload_n X.1 X.2.1 dX8_numberThere_23 rfl (lv_at hl 2 rfl) ?_
      obtain ⟨h3, hf⟩ := b_ck hf
      refine r_iald X hw (sp74 hE) h3 dX8_numberThere_24 ?_
      refine lv_iadd X.1 X.2.1 dX8_numberThere_25 ?_
      refine lv_bipush (v := 48) X.1 X.2.1 dX8_numberThere_26 (by decide) ?_
      refine lv_isub X.1 X.2.1 dX8_numberThere_28 ?_
      refine r_bnd hf (fun v4 hf => ?_)
      refine lv_istore_n (lv' := [(1, .int v4), (0, .ref (eP E 69)), (2, .int w2)]) X.1 X.2.1 dX8_numberThere_29 rfl hl (by decide) rfl (fun ls hl => ?_)
      obtain ⟨v5, e6, hf⟩ := b_bnd hf
      refine lv_iinc (v := v5) (k := 2) (lv' := [(2, .int v5), (1, .int v4), (0, .ref (eP E 69))]) X.1 X.2.1 dX8_numberThere_30 hl rfl (by rw [e6]; exact congrArg _ (by decide)) (by decide) rfl (fun ls hl => ?_)
      refine lv_goto (tgt := 7) X.1 X.2.1 dX8_numberThere_33 (by decide) ?_
      obtain rfl := Option.some.inj hf
      exact ih _ _ (hr1 _ rfl) _ _ _ hw (lv_sub hl [2, 1, 0] rfl) K1
set_option maxHeartbeats 4000000 in
set_option maxRecDepth 100000 in
theorem k_X8_numberThere {l : Launch} {E : en_T} (hE : ShF E)  {σ : sg_T} {r : Int32} (hf : f_X8_numberThere  σ = some r) : Ct l yX8_numberThere cX8_numberThere 3 (some .int) rm_X8_numberThere E [.ref (eP E 69)] σ (some (.int r)) σ := by
  refine Ct.start (by decide) hE.1 (Nat.le_of_ble_eq_true rfl) ?_
  intro p e s m below meth c X hw ls hl
  have X : Cx E p s m _ meth c cX8_numberThere 3 RX8 (some .int) := X
  have hR : ShR E := hE.r
  have hl : lv_has ls 3 [(0, .ref (eP E 69))] := hl
  unfold f_X8_numberThere at hf
  refine lv_iconst (v := 0) X.1 X.2.1 dX8_numberThere_0 (by decide) ?_
  refine lv_istore_n (lv' := [(1, .int 0), (0, .ref (eP E 69))]) X.1 X.2.1 dX8_numberThere_1 rfl hl (by decide) rfl (fun ls hl => ?_)
  refine lv_aload_n X.1 X.2.1 dX8_numberThere_2 rfl (lv_at hl 1 rfl) ?_
  refine r_get X hw (sp69 hE) (C := RX8) (T := TX8) (N := 31) rfl iwX8 8 (by decide) (Nat.le_of_ble_eq_true rfl) qw874 (v := .int (σ 69 8)) rfl dX8_numberThere_3 ?_
  refine r_bnd hf (fun v1 hf => ?_)
  refine lv_istore_n (lv' := [(2, .int v1), (1, .int 0), (0, .ref (eP E 69))]) X.1 X.2.1 dX8_numberThere_6 rfl hl (by decide) rfl (fun ls hl => ?_)
  obtain ⟨v8, v9, h7, hf⟩ := b_bd2 hf
  refine w_X8_numberThere_7 X hE  lfu _ _ h7 _ _ _ hw (lv_sub hl [2, 1, 0] rfl) (fun yv8 yv9 hq H locs ls hw hl => ?_)
  cases hq
  refine lv_iload_n X.1 X.2.1 dX8_numberThere_36 rfl (lv_at hl 1 rfl) ?_
  obtain rfl := Option.some.inj hf
  exact r_iret X hw dX8_numberThere_37
abbrev rm_X8_begin : Room := { frames := 2, cells := 0, slots := 0, locals := 120 }
set_option maxHeartbeats 4000000 in
set_option maxRecDepth 100000 in
theorem k_X8_begin {l : Launch} {E : en_T} (hE : ShF E)  {σ : sg_T} {r : Int32} {σ' : sg_T} (hf : f_X8_begin  σ = some (r, σ')) : Ct l yX8_begin cX8_begin 3 (some .int) rm_X8_begin E [.ref (eP E 69)] σ (some (.int r)) σ' := by
  refine Ct.start (by decide) hE.1 (Nat.le_of_ble_eq_true rfl) ?_
  intro p e s m below meth c X hw ls hl
  have X : Cx E p s m _ meth c cX8_begin 3 RX8 (some .int) := X
  have hR : ShR E := hE.r
  have hl : lv_has ls 3 [(0, .ref (eP E 69))] := hl
  unfold f_X8_begin at hf
  refine lv_aload_n X.1 X.2.1 dX8_begin_0 rfl (lv_at hl 0 rfl) ?_
  obtain ⟨r2, h1, hf⟩ := b_bd1 hf
  refine r_callV X hw (k_X8_word hE  h1) (sp69 hE) (C := RX8) (T := TX8) (N := 31) rfl qw1068 qw1070 qw44 qw79 qw1071 okX8_word ⟨rfl, rfl⟩ ⟨(Nat.le_of_ble_eq_true rfl), (Nat.le_of_ble_eq_true rfl)⟩ ⟨Nat.zero_le _, Nat.zero_le _⟩ rfl hl.1 (rest := []) rfl (Nat.le_of_ble_eq_true rfl) dX8_begin_1 (st1 := [.int r2]) rfl (fun H locs hw => ?_)
  refine lv_istore_n (lv' := [(1, .int r2), (0, .ref (eP E 69))]) X.1 X.2.1 dX8_begin_4 rfl hl (by decide) rfl (fun ls hl => ?_)
  refine lv_iload_n X.1 X.2.1 dX8_begin_5 rfl (lv_at hl 0 rfl) ?_
  refine lv_iconst (v := 0) X.1 X.2.1 dX8_begin_6 (by decide) ?_
  refine lv_iconst (v := 5) X.1 X.2.1 dX8_begin_7 (by decide) ?_
  obtain ⟨r4, h3, hf⟩ := b_bd1 hf
  refine r_callS X hw (k_X8_isIn hE  h3) qw966 qw967 qw79 qw968 okX8_isIn ⟨rfl, rfl⟩ ⟨(Nat.le_of_ble_eq_true rfl), (Nat.le_of_ble_eq_true rfl)⟩ ⟨Nat.zero_le _, Nat.zero_le _⟩ rfl hl.1 (rest := []) rfl (Nat.le_of_ble_eq_true rfl) dX8_begin_8 (st1 := [.int r4]) rfl (fun H locs hw => ?_)
  refine lv_if_eq (tgt := 24) X.1 X.2.1 dX8_begin_11 (by decide) (fun c5 => ?_) (fun c5 => ?_)
  · have hf := if_t hf c5
    refine lv_aload_n X.1 X.2.1 dX8_begin_24 rfl (lv_at hl 1 rfl) ?_
    refine r_get X hw (sp69 hE) (C := RX8) (T := TX8) (N := 31) rfl iwX8 9 (by decide) (Nat.le_of_ble_eq_true rfl) qw875 (v := .int (σ 69 9)) rfl dX8_begin_25 ?_
    refine lv_iconst (v := 2) X.1 X.2.1 dX8_begin_28 (by decide) ?_
    refine lv_icmp_ne (tgt := 55) X.1 X.2.1 dX8_begin_29 (by decide) (fun c6 => ?_) (fun c6 => ?_)
    · have hf := if_e hf c6
      refine lv_aload_n X.1 X.2.1 dX8_begin_55 rfl (lv_at hl 1 rfl) ?_
      refine lv_bipush (v := 40) X.1 X.2.1 dX8_begin_56 (by decide) ?_
      obtain ⟨r8, h7, hf⟩ := b_bd1 hf
      refine r_callV X hw (k_X8_isSign hE  h7) (sp69 hE) (C := RX8) (T := TX8) (N := 31) rfl qw1088 qw1090 qw49 qw79 qw1091 okX8_isSign ⟨rfl, rfl⟩ ⟨(Nat.le_of_ble_eq_true rfl), (Nat.le_of_ble_eq_true rfl)⟩ ⟨Nat.zero_le _, Nat.zero_le _⟩ rfl hl.1 (rest := []) rfl (Nat.le_of_ble_eq_true rfl) dX8_begin_58 (st1 := [.int r8]) rfl (fun H locs hw => ?_)
      refine lv_if_eq (tgt := 68) X.1 X.2.1 dX8_begin_61 (by decide) (fun c9 => ?_) (fun c9 => ?_)
      · have hf := if_t hf c9
        refine lv_aload_n X.1 X.2.1 dX8_begin_68 rfl (lv_at hl 1 rfl) ?_
        refine lv_bipush (v := 45) X.1 X.2.1 dX8_begin_69 (by decide) ?_
        obtain ⟨r11, h10, hf⟩ := b_bd1 hf
        refine r_callV X hw (k_X8_isSign hE  h10) (sp69 hE) (C := RX8) (T := TX8) (N := 31) rfl qw1088 qw1090 qw49 qw79 qw1091 okX8_isSign ⟨rfl, rfl⟩ ⟨(Nat.le_of_ble_eq_true rfl), (Nat.le_of_ble_eq_true rfl)⟩ ⟨Nat.zero_le _, Nat.zero_le _⟩ rfl hl.1 (rest := []) rfl (Nat.le_of_ble_eq_true rfl) dX8_begin_71 (st1 := [.int r11]) rfl (fun H locs hw => ?_)
        refine lv_if_eq (tgt := 82) X.1 X.2.1 dX8_begin_74 (by decide) (fun c12 => ?_) (fun c12 => ?_)
        · have hf := if_t hf c12
          refine lv_iload_n X.1 X.2.1 dX8_begin_82 rfl (lv_at hl 0 rfl) ?_
          refine lv_bipush (v := 11) X.1 X.2.1 dX8_begin_83 (by decide) ?_
          refine lv_icmp_ne (tgt := 101) X.1 X.2.1 dX8_begin_85 (by decide) (fun c13 => ?_) (fun c13 => ?_)
          · have hf := if_e hf c13
            refine lv_bipush (v := (-25)) X.1 X.2.1 dX8_begin_101 (by decide) ?_
            refine lv_istore_n (lv' := [(2, .int (-25)), (1, .int r2), (0, .ref (eP E 69))]) X.1 X.2.1 dX8_begin_103 rfl hl (by decide) rfl (fun ls hl => ?_)
            refine lv_iload_n X.1 X.2.1 dX8_begin_104 rfl (lv_at hl 0 rfl) ?_
            refine lv_bipush (v := (-25)) X.1 X.2.1 dX8_begin_105 (by decide) ?_
            refine lv_icmp_eq (tgt := 118) X.1 X.2.1 dX8_begin_107 (by decide) (fun c14 => ?_) (fun c14 => ?_)
            · have hf := if_t hf c14
              refine lv_iconst (v := 0) X.1 X.2.1 dX8_begin_118 (by decide) ?_
              obtain ⟨rfl, rfl⟩ := Prod.mk.inj (Option.some.inj hf)
              exact r_iret X hw dX8_begin_119
            · have hf := if_e hf c14
              refine lv_aload_n X.1 X.2.1 dX8_begin_110 rfl (lv_at hl 2 rfl) ?_
              refine r_get X hw (sp69 hE) (C := RX8) (T := TX8) (N := 31) rfl iwX8 10 (by decide) (Nat.le_of_ble_eq_true rfl) qw876 (v := .int (σ 69 10)) rfl dX8_begin_111 ?_
              refine lv_iconst (v := 5) X.1 X.2.1 dX8_begin_114 (by decide) ?_
              refine lv_icmp_ne (tgt := 120) X.1 X.2.1 dX8_begin_115 (by decide) (fun c15 => ?_) (fun c15 => ?_)
              · have hf := if_e hf c15
                refine lv_aload_n X.1 X.2.1 dX8_begin_120 rfl (lv_at hl 2 rfl) ?_
                refine lv_dup X.1 X.2.1 dX8_begin_121 rfl ?_
                refine r_get X hw (sp69 hE) (C := RX8) (T := TX8) (N := 31) rfl iwX8 10 (by decide) (Nat.le_of_ble_eq_true rfl) qw876 (v := .int (σ 69 10)) rfl dX8_begin_122 ?_
                refine lv_iconst (v := 1) X.1 X.2.1 dX8_begin_125 (by decide) ?_
                refine lv_iadd X.1 X.2.1 dX8_begin_126 ?_
                refine r_put X hw (sp69 hE) (C := RX8) (T := TX8) (N := 31) rfl iwX8 tyX8 tyX8_ok nmX8 10 (by decide) (Nat.le_of_ble_eq_true rfl) qw876 rfl (v := .int ((σ 69 10) + 1)) rfl rfl (x := ((σ 69 10) + 1)) rfl dX8_begin_127 (fun H locs hw => ?_)
                obtain ⟨σ16, e17, hf⟩ := b_bnd hf
                rw [← e17] at hw
                refine lv_aload_n X.1 X.2.1 dX8_begin_130 rfl (lv_at hl 2 rfl) ?_
                refine lv_iload_n X.1 X.2.1 dX8_begin_131 rfl (lv_at hl 0 rfl) ?_
                obtain ⟨σ19, h18, hf⟩ := b_bd1 hf
                refine r_callV X hw (k_X8_await hE  h18) (sp69 hE) (C := RX8) (T := TX8) (N := 31) rfl qw1099 qw1101 qw51 qw79 qw1102 okX8_await ⟨rfl, rfl⟩ ⟨(Nat.le_of_ble_eq_true rfl), (Nat.le_of_ble_eq_true rfl)⟩ ⟨Nat.zero_le _, Nat.zero_le _⟩ rfl hl.1 (rest := []) rfl (Nat.le_of_ble_eq_true rfl) dX8_begin_132 (st1 := []) rfl (fun H locs hw => ?_)
                refine lv_iconst (v := 2) X.1 X.2.1 dX8_begin_135 (by decide) ?_
                obtain ⟨rfl, rfl⟩ := Prod.mk.inj (Option.some.inj hf)
                exact r_iret X hw dX8_begin_136
              · have hf := if_t hf c15
                refine lv_iconst (v := 0) X.1 X.2.1 dX8_begin_118 (by decide) ?_
                obtain ⟨rfl, rfl⟩ := Prod.mk.inj (Option.some.inj hf)
                exact r_iret X hw dX8_begin_119
          · have hf := if_t hf c13
            refine lv_aload_n X.1 X.2.1 dX8_begin_88 rfl (lv_at hl 1 rfl) ?_
            obtain ⟨r21, h20, hf⟩ := b_bd1 hf
            refine r_callV X hw (k_X8_last hE  h20) (sp69 hE) (C := RX8) (T := TX8) (N := 31) rfl qw1092 qw1094 qw50 qw79 qw1095 okX8_last ⟨rfl, rfl⟩ ⟨(Nat.le_of_ble_eq_true rfl), (Nat.le_of_ble_eq_true rfl)⟩ ⟨Nat.zero_le _, Nat.zero_le _⟩ rfl hl.1 (rest := []) rfl (Nat.le_of_ble_eq_true rfl) dX8_begin_89 (st1 := [.int r21]) rfl (fun H locs hw => ?_)
            refine lv_iconst (v := 3) X.1 X.2.1 dX8_begin_92 (by decide) ?_
            obtain ⟨v23, e24, hf⟩ := b_bnd hf
            refine r_join (g2 := F0 m 103 ls [.int v23]) ?_ (fun hj => ?_)
            · refine lv_istore_n (lv' := [(2, .int v23), (1, .int r2), (0, .ref (eP E 69))]) X.1 X.2.1 dX8_begin_103 rfl hl (by decide) rfl (fun ls hl => ?_)
              refine lv_iload_n X.1 X.2.1 dX8_begin_104 rfl (lv_at hl 0 rfl) ?_
              refine lv_bipush (v := (-25)) X.1 X.2.1 dX8_begin_105 (by decide) ?_
              refine lv_icmp_eq (tgt := 118) X.1 X.2.1 dX8_begin_107 (by decide) (fun c25 => ?_) (fun c25 => ?_)
              · have hf := if_t hf c25
                refine lv_iconst (v := 0) X.1 X.2.1 dX8_begin_118 (by decide) ?_
                obtain ⟨rfl, rfl⟩ := Prod.mk.inj (Option.some.inj hf)
                exact r_iret X hw dX8_begin_119
              · have hf := if_e hf c25
                refine lv_aload_n X.1 X.2.1 dX8_begin_110 rfl (lv_at hl 2 rfl) ?_
                refine r_get X hw (sp69 hE) (C := RX8) (T := TX8) (N := 31) rfl iwX8 10 (by decide) (Nat.le_of_ble_eq_true rfl) qw876 (v := .int (σ 69 10)) rfl dX8_begin_111 ?_
                refine lv_iconst (v := 5) X.1 X.2.1 dX8_begin_114 (by decide) ?_
                refine lv_icmp_ne (tgt := 120) X.1 X.2.1 dX8_begin_115 (by decide) (fun c26 => ?_) (fun c26 => ?_)
                · have hf := if_e hf c26
                  refine lv_aload_n X.1 X.2.1 dX8_begin_120 rfl (lv_at hl 2 rfl) ?_
                  refine lv_dup X.1 X.2.1 dX8_begin_121 rfl ?_
                  refine r_get X hw (sp69 hE) (C := RX8) (T := TX8) (N := 31) rfl iwX8 10 (by decide) (Nat.le_of_ble_eq_true rfl) qw876 (v := .int (σ 69 10)) rfl dX8_begin_122 ?_
                  refine lv_iconst (v := 1) X.1 X.2.1 dX8_begin_125 (by decide) ?_
                  refine lv_iadd X.1 X.2.1 dX8_begin_126 ?_
                  refine r_put X hw (sp69 hE) (C := RX8) (T := TX8) (N := 31) rfl iwX8 tyX8 tyX8_ok nmX8 10 (by decide) (Nat.le_of_ble_eq_true rfl) qw876 rfl (v := .int ((σ 69 10) + 1)) rfl rfl (x := ((σ 69 10) + 1)) rfl dX8_begin_127 (fun H locs hw => ?_)
                  obtain ⟨σ27, e28, hf⟩ := b_bnd hf
                  rw [← e28] at hw
                  refine lv_aload_n X.1 X.2.1 dX8_begin_130 rfl (lv_at hl 2 rfl) ?_
                  refine lv_iload_n X.1 X.2.1 dX8_begin_131 rfl (lv_at hl 0 rfl) ?_
                  obtain ⟨σ30, h29, hf⟩ := b_bd1 hf
                  refine r_callV X hw (k_X8_await hE  h29) (sp69 hE) (C := RX8) (T := TX8) (N := 31) rfl qw1099 qw1101 qw51 qw79 qw1102 okX8_await ⟨rfl, rfl⟩ ⟨(Nat.le_of_ble_eq_true rfl), (Nat.le_of_ble_eq_true rfl)⟩ ⟨Nat.zero_le _, Nat.zero_le _⟩ rfl hl.1 (rest := []) rfl (Nat.le_of_ble_eq_true rfl) dX8_begin_132 (st1 := []) rfl (fun H locs hw => ?_)
                  refine lv_iconst (v := 2) X.1 X.2.1 dX8_begin_135 (by decide) ?_
                  obtain ⟨rfl, rfl⟩ := Prod.mk.inj (Option.some.inj hf)
                  exact r_iret X hw dX8_begin_136
                · have hf := if_t hf c26
                  refine lv_iconst (v := 0) X.1 X.2.1 dX8_begin_118 (by decide) ?_
                  obtain ⟨rfl, rfl⟩ := Prod.mk.inj (Option.some.inj hf)
                  exact r_iret X hw dX8_begin_119
            · refine lv_icmp_gt (tgt := 101) X.1 X.2.1 dX8_begin_93 (by decide) (fun c22 => ?_) (fun c22 => ?_)
              · rw [e24, if_pos c22] at hj
                refine lv_bipush (v := (-25)) X.1 X.2.1 dX8_begin_101 (by decide) ?_
                exact hj
              · rw [e24, if_neg c22] at hj
                refine lv_bipush (v := (-22)) X.1 X.2.1 dX8_begin_96 (by decide) ?_
                refine lv_goto (tgt := 103) X.1 X.2.1 dX8_begin_98 (by decide) ?_
                exact hj
        · have hf := if_e hf c12
          refine lv_bipush (v := (-28)) X.1 X.2.1 dX8_begin_77 (by decide) ?_
          refine lv_goto (tgt := 103) X.1 X.2.1 dX8_begin_79 (by decide) ?_
          refine lv_istore_n (lv' := [(2, .int (-28)), (1, .int r2), (0, .ref (eP E 69))]) X.1 X.2.1 dX8_begin_103 rfl hl (by decide) rfl (fun ls hl => ?_)
          refine lv_iload_n X.1 X.2.1 dX8_begin_104 rfl (lv_at hl 0 rfl) ?_
          refine lv_bipush (v := (-25)) X.1 X.2.1 dX8_begin_105 (by decide) ?_
          refine lv_icmp_eq (tgt := 118) X.1 X.2.1 dX8_begin_107 (by decide) (fun c31 => ?_) (fun c31 => ?_)
          · have hf := if_t hf c31
            refine lv_iconst (v := 0) X.1 X.2.1 dX8_begin_118 (by decide) ?_
            obtain ⟨rfl, rfl⟩ := Prod.mk.inj (Option.some.inj hf)
            exact r_iret X hw dX8_begin_119
          · have hf := if_e hf c31
            refine lv_aload_n X.1 X.2.1 dX8_begin_110 rfl (lv_at hl 2 rfl) ?_
            refine r_get X hw (sp69 hE) (C := RX8) (T := TX8) (N := 31) rfl iwX8 10 (by decide) (Nat.le_of_ble_eq_true rfl) qw876 (v := .int (σ 69 10)) rfl dX8_begin_111 ?_
            refine lv_iconst (v := 5) X.1 X.2.1 dX8_begin_114 (by decide) ?_
            refine lv_icmp_ne (tgt := 120) X.1 X.2.1 dX8_begin_115 (by decide) (fun c32 => ?_) (fun c32 => ?_)
            · have hf := if_e hf c32
              refine lv_aload_n X.1 X.2.1 dX8_begin_120 rfl (lv_at hl 2 rfl) ?_
              refine lv_dup X.1 X.2.1 dX8_begin_121 rfl ?_
              refine r_get X hw (sp69 hE) (C := RX8) (T := TX8) (N := 31) rfl iwX8 10 (by decide) (Nat.le_of_ble_eq_true rfl) qw876 (v := .int (σ 69 10)) rfl dX8_begin_122 ?_
              refine lv_iconst (v := 1) X.1 X.2.1 dX8_begin_125 (by decide) ?_
              refine lv_iadd X.1 X.2.1 dX8_begin_126 ?_
              refine r_put X hw (sp69 hE) (C := RX8) (T := TX8) (N := 31) rfl iwX8 tyX8 tyX8_ok nmX8 10 (by decide) (Nat.le_of_ble_eq_true rfl) qw876 rfl (v := .int ((σ 69 10) + 1)) rfl rfl (x := ((σ 69 10) + 1)) rfl dX8_begin_127 (fun H locs hw => ?_)
              obtain ⟨σ33, e34, hf⟩ := b_bnd hf
              rw [← e34] at hw
              refine lv_aload_n X.1 X.2.1 dX8_begin_130 rfl (lv_at hl 2 rfl) ?_
              refine lv_iload_n X.1 X.2.1 dX8_begin_131 rfl (lv_at hl 0 rfl) ?_
              obtain ⟨σ36, h35, hf⟩ := b_bd1 hf
              refine r_callV X hw (k_X8_await hE  h35) (sp69 hE) (C := RX8) (T := TX8) (N := 31) rfl qw1099 qw1101 qw51 qw79 qw1102 okX8_await ⟨rfl, rfl⟩ ⟨(Nat.le_of_ble_eq_true rfl), (Nat.le_of_ble_eq_true rfl)⟩ ⟨Nat.zero_le _, Nat.zero_le _⟩ rfl hl.1 (rest := []) rfl (Nat.le_of_ble_eq_true rfl) dX8_begin_132 (st1 := []) rfl (fun H locs hw => ?_)
              refine lv_iconst (v := 2) X.1 X.2.1 dX8_begin_135 (by decide) ?_
              obtain ⟨rfl, rfl⟩ := Prod.mk.inj (Option.some.inj hf)
              exact r_iret X hw dX8_begin_136
            · have hf := if_t hf c32
              refine lv_iconst (v := 0) X.1 X.2.1 dX8_begin_118 (by decide) ?_
              obtain ⟨rfl, rfl⟩ := Prod.mk.inj (Option.some.inj hf)
              exact r_iret X hw dX8_begin_119
      · have hf := if_e hf c9
        refine lv_iconst (v := 0) X.1 X.2.1 dX8_begin_64 (by decide) ?_
        refine lv_goto (tgt := 103) X.1 X.2.1 dX8_begin_65 (by decide) ?_
        refine lv_istore_n (lv' := [(2, .int 0), (1, .int r2), (0, .ref (eP E 69))]) X.1 X.2.1 dX8_begin_103 rfl hl (by decide) rfl (fun ls hl => ?_)
        refine lv_iload_n X.1 X.2.1 dX8_begin_104 rfl (lv_at hl 0 rfl) ?_
        refine lv_bipush (v := (-25)) X.1 X.2.1 dX8_begin_105 (by decide) ?_
        refine lv_icmp_eq (tgt := 118) X.1 X.2.1 dX8_begin_107 (by decide) (fun c37 => ?_) (fun c37 => ?_)
        · have hf := if_t hf c37
          refine lv_iconst (v := 0) X.1 X.2.1 dX8_begin_118 (by decide) ?_
          obtain ⟨rfl, rfl⟩ := Prod.mk.inj (Option.some.inj hf)
          exact r_iret X hw dX8_begin_119
        · have hf := if_e hf c37
          refine lv_aload_n X.1 X.2.1 dX8_begin_110 rfl (lv_at hl 2 rfl) ?_
          refine r_get X hw (sp69 hE) (C := RX8) (T := TX8) (N := 31) rfl iwX8 10 (by decide) (Nat.le_of_ble_eq_true rfl) qw876 (v := .int (σ 69 10)) rfl dX8_begin_111 ?_
          refine lv_iconst (v := 5) X.1 X.2.1 dX8_begin_114 (by decide) ?_
          refine lv_icmp_ne (tgt := 120) X.1 X.2.1 dX8_begin_115 (by decide) (fun c38 => ?_) (fun c38 => ?_)
          · have hf := if_e hf c38
            refine lv_aload_n X.1 X.2.1 dX8_begin_120 rfl (lv_at hl 2 rfl) ?_
            refine lv_dup X.1 X.2.1 dX8_begin_121 rfl ?_
            refine r_get X hw (sp69 hE) (C := RX8) (T := TX8) (N := 31) rfl iwX8 10 (by decide) (Nat.le_of_ble_eq_true rfl) qw876 (v := .int (σ 69 10)) rfl dX8_begin_122 ?_
            refine lv_iconst (v := 1) X.1 X.2.1 dX8_begin_125 (by decide) ?_
            refine lv_iadd X.1 X.2.1 dX8_begin_126 ?_
            refine r_put X hw (sp69 hE) (C := RX8) (T := TX8) (N := 31) rfl iwX8 tyX8 tyX8_ok nmX8 10 (by decide) (Nat.le_of_ble_eq_true rfl) qw876 rfl (v := .int ((σ 69 10) + 1)) rfl rfl (x := ((σ 69 10) + 1)) rfl dX8_begin_127 (fun H locs hw => ?_)
            obtain ⟨σ39, e40, hf⟩ := b_bnd hf
            rw [← e40] at hw
            refine lv_aload_n X.1 X.2.1 dX8_begin_130 rfl (lv_at hl 2 rfl) ?_
            refine lv_iload_n X.1 X.2.1 dX8_begin_131 rfl (lv_at hl 0 rfl) ?_
            obtain ⟨σ42, h41, hf⟩ := b_bd1 hf
            refine r_callV X hw (k_X8_await hE  h41) (sp69 hE) (C := RX8) (T := TX8) (N := 31) rfl qw1099 qw1101 qw51 qw79 qw1102 okX8_await ⟨rfl, rfl⟩ ⟨(Nat.le_of_ble_eq_true rfl), (Nat.le_of_ble_eq_true rfl)⟩ ⟨Nat.zero_le _, Nat.zero_le _⟩ rfl hl.1 (rest := []) rfl (Nat.le_of_ble_eq_true rfl) dX8_begin_132 (st1 := []) rfl (fun H locs hw => ?_)
            refine lv_iconst (v := 2) X.1 X.2.1 dX8_begin_135 (by decide) ?_
            obtain ⟨rfl, rfl⟩ := Prod.mk.inj (Option.some.inj hf)
            exact r_iret X hw dX8_begin_136
          · have hf := if_t hf c38
            refine lv_iconst (v := 0) X.1 X.2.1 dX8_begin_118 (by decide) ?_
            obtain ⟨rfl, rfl⟩ := Prod.mk.inj (Option.some.inj hf)
            exact r_iret X hw dX8_begin_119
    · have hf := if_t hf c6
      refine lv_aload_n X.1 X.2.1 dX8_begin_32 rfl (lv_at hl 1 rfl) ?_
      refine r_get X hw (sp69 hE) (C := RX8) (T := TX8) (N := 31) rfl iwX8 7 (by decide) (Nat.le_of_ble_eq_true rfl) qw873 (v := .int (σ 69 7)) rfl dX8_begin_33 ?_
      refine lv_aload_n X.1 X.2.1 dX8_begin_36 rfl (lv_at hl 1 rfl) ?_
      refine r_get X hw (sp69 hE) (C := RX8) (T := TX8) (N := 31) rfl iwX8 8 (by decide) (Nat.le_of_ble_eq_true rfl) qw874 (v := .int (σ 69 8)) rfl dX8_begin_37 ?_
      refine lv_isub X.1 X.2.1 dX8_begin_40 ?_
      refine lv_iconst (v := 4) X.1 X.2.1 dX8_begin_41 (by decide) ?_
      refine lv_icmp_gt (tgt := 55) X.1 X.2.1 dX8_begin_42 (by decide) (fun c43 => ?_) (fun c43 => ?_)
      · have hf := if_t hf c43
        refine lv_aload_n X.1 X.2.1 dX8_begin_55 rfl (lv_at hl 1 rfl) ?_
        refine lv_bipush (v := 40) X.1 X.2.1 dX8_begin_56 (by decide) ?_
        obtain ⟨r45, h44, hf⟩ := b_bd1 hf
        refine r_callV X hw (k_X8_isSign hE  h44) (sp69 hE) (C := RX8) (T := TX8) (N := 31) rfl qw1088 qw1090 qw49 qw79 qw1091 okX8_isSign ⟨rfl, rfl⟩ ⟨(Nat.le_of_ble_eq_true rfl), (Nat.le_of_ble_eq_true rfl)⟩ ⟨Nat.zero_le _, Nat.zero_le _⟩ rfl hl.1 (rest := []) rfl (Nat.le_of_ble_eq_true rfl) dX8_begin_58 (st1 := [.int r45]) rfl (fun H locs hw => ?_)
        refine lv_if_eq (tgt := 68) X.1 X.2.1 dX8_begin_61 (by decide) (fun c46 => ?_) (fun c46 => ?_)
        · have hf := if_t hf c46
          refine lv_aload_n X.1 X.2.1 dX8_begin_68 rfl (lv_at hl 1 rfl) ?_
          refine lv_bipush (v := 45) X.1 X.2.1 dX8_begin_69 (by decide) ?_
          obtain ⟨r48, h47, hf⟩ := b_bd1 hf
          refine r_callV X hw (k_X8_isSign hE  h47) (sp69 hE) (C := RX8) (T := TX8) (N := 31) rfl qw1088 qw1090 qw49 qw79 qw1091 okX8_isSign ⟨rfl, rfl⟩ ⟨(Nat.le_of_ble_eq_true rfl), (Nat.le_of_ble_eq_true rfl)⟩ ⟨Nat.zero_le _, Nat.zero_le _⟩ rfl hl.1 (rest := []) rfl (Nat.le_of_ble_eq_true rfl) dX8_begin_71 (st1 := [.int r48]) rfl (fun H locs hw => ?_)
          refine lv_if_eq (tgt := 82) X.1 X.2.1 dX8_begin_74 (by decide) (fun c49 => ?_) (fun c49 => ?_)
          · have hf := if_t hf c49
            refine lv_iload_n X.1 X.2.1 dX8_begin_82 rfl (lv_at hl 0 rfl) ?_
            refine lv_bipush (v := 11) X.1 X.2.1 dX8_begin_83 (by decide) ?_
            refine lv_icmp_ne (tgt := 101) X.1 X.2.1 dX8_begin_85 (by decide) (fun c50 => ?_) (fun c50 => ?_)
            · have hf := if_e hf c50
              refine lv_bipush (v := (-25)) X.1 X.2.1 dX8_begin_101 (by decide) ?_
              refine lv_istore_n (lv' := [(2, .int (-25)), (1, .int r2), (0, .ref (eP E 69))]) X.1 X.2.1 dX8_begin_103 rfl hl (by decide) rfl (fun ls hl => ?_)
              refine lv_iload_n X.1 X.2.1 dX8_begin_104 rfl (lv_at hl 0 rfl) ?_
              refine lv_bipush (v := (-25)) X.1 X.2.1 dX8_begin_105 (by decide) ?_
              refine lv_icmp_eq (tgt := 118) X.1 X.2.1 dX8_begin_107 (by decide) (fun c51 => ?_) (fun c51 => ?_)
              · have hf := if_t hf c51
                refine lv_iconst (v := 0) X.1 X.2.1 dX8_begin_118 (by decide) ?_
                obtain ⟨rfl, rfl⟩ := Prod.mk.inj (Option.some.inj hf)
                exact r_iret X hw dX8_begin_119
              · have hf := if_e hf c51
                refine lv_aload_n X.1 X.2.1 dX8_begin_110 rfl (lv_at hl 2 rfl) ?_
                refine r_get X hw (sp69 hE) (C := RX8) (T := TX8) (N := 31) rfl iwX8 10 (by decide) (Nat.le_of_ble_eq_true rfl) qw876 (v := .int (σ 69 10)) rfl dX8_begin_111 ?_
                refine lv_iconst (v := 5) X.1 X.2.1 dX8_begin_114 (by decide) ?_
                refine lv_icmp_ne (tgt := 120) X.1 X.2.1 dX8_begin_115 (by decide) (fun c52 => ?_) (fun c52 => ?_)
                · have hf := if_e hf c52
                  refine lv_aload_n X.1 X.2.1 dX8_begin_120 rfl (lv_at hl 2 rfl) ?_
                  refine lv_dup X.1 X.2.1 dX8_begin_121 rfl ?_
                  refine r_get X hw (sp69 hE) (C := RX8) (T := TX8) (N := 31) rfl iwX8 10 (by decide) (Nat.le_of_ble_eq_true rfl) qw876 (v := .int (σ 69 10)) rfl dX8_begin_122 ?_
                  refine lv_iconst (v := 1) X.1 X.2.1 dX8_begin_125 (by decide) ?_
                  refine lv_iadd X.1 X.2.1 dX8_begin_126 ?_
                  refine r_put X hw (sp69 hE) (C := RX8) (T := TX8) (N := 31) rfl iwX8 tyX8 tyX8_ok nmX8 10 (by decide) (Nat.le_of_ble_eq_true rfl) qw876 rfl (v := .int ((σ 69 10) + 1)) rfl rfl (x := ((σ 69 10) + 1)) rfl dX8_begin_127 (fun H locs hw => ?_)
                  obtain ⟨σ53, e54, hf⟩ := b_bnd hf
                  rw [← e54] at hw
                  refine lv_aload_n X.1 X.2.1 dX8_begin_130 rfl (lv_at hl 2 rfl) ?_
                  refine lv_iload_n X.1 X.2.1 dX8_begin_131 rfl (lv_at hl 0 rfl) ?_
                  obtain ⟨σ56, h55, hf⟩ := b_bd1 hf
                  refine r_callV X hw (k_X8_await hE  h55) (sp69 hE) (C := RX8) (T := TX8) (N := 31) rfl qw1099 qw1101 qw51 qw79 qw1102 okX8_await ⟨rfl, rfl⟩ ⟨(Nat.le_of_ble_eq_true rfl), (Nat.le_of_ble_eq_true rfl)⟩ ⟨Nat.zero_le _, Nat.zero_le _⟩ rfl hl.1 (rest := []) rfl (Nat.le_of_ble_eq_true rfl) dX8_begin_132 (st1 := []) rfl (fun H locs hw => ?_)
                  refine lv_iconst (v := 2) X.1 X.2.1 dX8_begin_135 (by decide) ?_
                  obtain ⟨rfl, rfl⟩ := Prod.mk.inj (Option.some.inj hf)
                  exact r_iret X hw dX8_begin_136
                · have hf := if_t hf c52
                  refine lv_iconst (v := 0) X.1 X.2.1 dX8_begin_118 (by decide) ?_
                  obtain ⟨rfl, rfl⟩ := Prod.mk.inj (Option.some.inj hf)
                  exact r_iret X hw dX8_begin_119
            · have hf := if_t hf c50
              refine lv_aload_n X.1 X.2.1 dX8_begin_88 rfl (lv_at hl 1 rfl) ?_
              obtain ⟨r58, h57, hf⟩ := b_bd1 hf
              refine r_callV X hw (k_X8_last hE  h57) (sp69 hE) (C := RX8) (T := TX8) (N := 31) rfl qw1092 qw1094 qw50 qw79 qw1095 okX8_last ⟨rfl, rfl⟩ ⟨(Nat.le_of_ble_eq_true rfl), (Nat.le_of_ble_eq_true rfl)⟩ ⟨Nat.zero_le _, Nat.zero_le _⟩ rfl hl.1 (rest := []) rfl (Nat.le_of_ble_eq_true rfl) dX8_begin_89 (st1 := [.int r58]) rfl (fun H locs hw => ?_)
              refine lv_iconst (v := 3) X.1 X.2.1 dX8_begin_92 (by decide) ?_
              obtain ⟨v60, e61, hf⟩ := b_bnd hf
              refine r_join (g2 := F0 m 103 ls [.int v60]) ?_ (fun hj => ?_)
              · refine lv_istore_n (lv' := [(2, .int v60), (1, .int r2), (0, .ref (eP E 69))]) X.1 X.2.1 dX8_begin_103 rfl hl (by decide) rfl (fun ls hl => ?_)
                refine lv_iload_n X.1 X.2.1 dX8_begin_104 rfl (lv_at hl 0 rfl) ?_
                refine lv_bipush (v := (-25)) X.1 X.2.1 dX8_begin_105 (by decide) ?_
                refine lv_icmp_eq (tgt := 118) X.1 X.2.1 dX8_begin_107 (by decide) (fun c62 => ?_) (fun c62 => ?_)
                · have hf := if_t hf c62
                  refine lv_iconst (v := 0) X.1 X.2.1 dX8_begin_118 (by decide) ?_
                  obtain ⟨rfl, rfl⟩ := Prod.mk.inj (Option.some.inj hf)
                  exact r_iret X hw dX8_begin_119
                · have hf := if_e hf c62
                  refine lv_aload_n X.1 X.2.1 dX8_begin_110 rfl (lv_at hl 2 rfl) ?_
                  refine r_get X hw (sp69 hE) (C := RX8) (T := TX8) (N := 31) rfl iwX8 10 (by decide) (Nat.le_of_ble_eq_true rfl) qw876 (v := .int (σ 69 10)) rfl dX8_begin_111 ?_
                  refine lv_iconst (v := 5) X.1 X.2.1 dX8_begin_114 (by decide) ?_
                  refine lv_icmp_ne (tgt := 120) X.1 X.2.1 dX8_begin_115 (by decide) (fun c63 => ?_) (fun c63 => ?_)
                  · have hf := if_e hf c63
                    refine lv_aload_n X.1 X.2.1 dX8_begin_120 rfl (lv_at hl 2 rfl) ?_
                    refine lv_dup X.1 X.2.1 dX8_begin_121 rfl ?_
                    refine r_get X hw (sp69 hE) (C := RX8) (T := TX8) (N := 31) rfl iwX8 10 (by decide) (Nat.le_of_ble_eq_true rfl) qw876 (v := .int (σ 69 10)) rfl dX8_begin_122 ?_
                    refine lv_iconst (v := 1) X.1 X.2.1 dX8_begin_125 (by decide) ?_
                    refine lv_iadd X.1 X.2.1 dX8_begin_126 ?_
                    refine r_put X hw (sp69 hE) (C := RX8) (T := TX8) (N := 31) rfl iwX8 tyX8 tyX8_ok nmX8 10 (by decide) (Nat.le_of_ble_eq_true rfl) qw876 rfl (v := .int ((σ 69 10) + 1)) rfl rfl (x := ((σ 69 10) + 1)) rfl dX8_begin_127 (fun H locs hw => ?_)
                    obtain ⟨σ64, e65, hf⟩ := b_bnd hf
                    rw [← e65] at hw
                    refine lv_aload_n X.1 X.2.1 dX8_begin_130 rfl (lv_at hl 2 rfl) ?_
                    refine lv_iload_n X.1 X.2.1 dX8_begin_131 rfl (lv_at hl 0 rfl) ?_
                    obtain ⟨σ67, h66, hf⟩ := b_bd1 hf
                    refine r_callV X hw (k_X8_await hE  h66) (sp69 hE) (C := RX8) (T := TX8) (N := 31) rfl qw1099 qw1101 qw51 qw79 qw1102 okX8_await ⟨rfl, rfl⟩ ⟨(Nat.le_of_ble_eq_true rfl), (Nat.le_of_ble_eq_true rfl)⟩ ⟨Nat.zero_le _, Nat.zero_le _⟩ rfl hl.1 (rest := []) rfl (Nat.le_of_ble_eq_true rfl) dX8_begin_132 (st1 := []) rfl (fun H locs hw => ?_)
                    refine lv_iconst (v := 2) X.1 X.2.1 dX8_begin_135 (by decide) ?_
                    obtain ⟨rfl, rfl⟩ := Prod.mk.inj (Option.some.inj hf)
                    exact r_iret X hw dX8_begin_136
                  · have hf := if_t hf c63
                    refine lv_iconst (v := 0) X.1 X.2.1 dX8_begin_118 (by decide) ?_
                    obtain ⟨rfl, rfl⟩ := Prod.mk.inj (Option.some.inj hf)
                    exact r_iret X hw dX8_begin_119
              · refine lv_icmp_gt (tgt := 101) X.1 X.2.1 dX8_begin_93 (by decide) (fun c59 => ?_) (fun c59 => ?_)
                · rw [e61, if_pos c59] at hj
                  refine lv_bipush (v := (-25)) X.1 X.2.1 dX8_begin_101 (by decide) ?_
                  exact hj
                · rw [e61, if_neg c59] at hj
                  refine lv_bipush (v := (-22)) X.1 X.2.1 dX8_begin_96 (by decide) ?_
                  refine lv_goto (tgt := 103) X.1 X.2.1 dX8_begin_98 (by decide) ?_
                  exact hj
          · have hf := if_e hf c49
            refine lv_bipush (v := (-28)) X.1 X.2.1 dX8_begin_77 (by decide) ?_
            refine lv_goto (tgt := 103) X.1 X.2.1 dX8_begin_79 (by decide) ?_
            refine lv_istore_n (lv' := [(2, .int (-28)), (1, .int r2), (0, .ref (eP E 69))]) X.1 X.2.1 dX8_begin_103 rfl hl (by decide) rfl (fun ls hl => ?_)
            refine lv_iload_n X.1 X.2.1 dX8_begin_104 rfl (lv_at hl 0 rfl) ?_
            refine lv_bipush (v := (-25)) X.1 X.2.1 dX8_begin_105 (by decide) ?_
            refine lv_icmp_eq (tgt := 118) X.1 X.2.1 dX8_begin_107 (by decide) (fun c68 => ?_) (fun c68 => ?_)
            · have hf := if_t hf c68
              refine lv_iconst (v := 0) X.1 X.2.1 dX8_begin_118 (by decide) ?_
              obtain ⟨rfl, rfl⟩ := Prod.mk.inj (Option.some.inj hf)
              exact r_iret X hw dX8_begin_119
            · have hf := if_e hf c68
              refine lv_aload_n X.1 X.2.1 dX8_begin_110 rfl (lv_at hl 2 rfl) ?_
              refine r_get X hw (sp69 hE) (C := RX8) (T := TX8) (N := 31) rfl iwX8 10 (by decide) (Nat.le_of_ble_eq_true rfl) qw876 (v := .int (σ 69 10)) rfl dX8_begin_111 ?_
              refine lv_iconst (v := 5) X.1 X.2.1 dX8_begin_114 (by decide) ?_
              refine lv_icmp_ne (tgt := 120) X.1 X.2.1 dX8_begin_115 (by decide) (fun c69 => ?_) (fun c69 => ?_)
              · have hf := if_e hf c69
                refine lv_aload_n X.1 X.2.1 dX8_begin_120 rfl (lv_at hl 2 rfl) ?_
                refine lv_dup X.1 X.2.1 dX8_begin_121 rfl ?_
                refine r_get X hw (sp69 hE) (C := RX8) (T := TX8) (N := 31) rfl iwX8 10 (by decide) (Nat.le_of_ble_eq_true rfl) qw876 (v := .int (σ 69 10)) rfl dX8_begin_122 ?_
                refine lv_iconst (v := 1) X.1 X.2.1 dX8_begin_125 (by decide) ?_
                refine lv_iadd X.1 X.2.1 dX8_begin_126 ?_
                refine r_put X hw (sp69 hE) (C := RX8) (T := TX8) (N := 31) rfl iwX8 tyX8 tyX8_ok nmX8 10 (by decide) (Nat.le_of_ble_eq_true rfl) qw876 rfl (v := .int ((σ 69 10) + 1)) rfl rfl (x := ((σ 69 10) + 1)) rfl dX8_begin_127 (fun H locs hw => ?_)
                obtain ⟨σ70, e71, hf⟩ := b_bnd hf
                rw [← e71] at hw
                refine lv_aload_n X.1 X.2.1 dX8_begin_130 rfl (lv_at hl 2 rfl) ?_
                refine lv_iload_n X.1 X.2.1 dX8_begin_131 rfl (lv_at hl 0 rfl) ?_
                obtain ⟨σ73, h72, hf⟩ := b_bd1 hf
                refine r_callV X hw (k_X8_await hE  h72) (sp69 hE) (C := RX8) (T := TX8) (N := 31) rfl qw1099 qw1101 qw51 qw79 qw1102 okX8_await ⟨rfl, rfl⟩ ⟨(Nat.le_of_ble_eq_true rfl), (Nat.le_of_ble_eq_true rfl)⟩ ⟨Nat.zero_le _, Nat.zero_le _⟩ rfl hl.1 (rest := []) rfl (Nat.le_of_ble_eq_true rfl) dX8_begin_132 (st1 := []) rfl (fun H locs hw => ?_)
                refine lv_iconst (v := 2) X.1 X.2.1 dX8_begin_135 (by decide) ?_
                obtain ⟨rfl, rfl⟩ := Prod.mk.inj (Option.some.inj hf)
                exact r_iret X hw dX8_begin_136
              · have hf := if_t hf c69
                refine lv_iconst (v := 0) X.1 X.2.1 dX8_begin_118 (by decide) ?_
                obtain ⟨rfl, rfl⟩ := Prod.mk.inj (Option.some.inj hf)
                exact r_iret X hw dX8_begin_119
        · have hf := if_e hf c46
          refine lv_iconst (v := 0) X.1 X.2.1 dX8_begin_64 (by decide) ?_
          refine lv_goto (tgt := 103) X.1 X.2.1 dX8_begin_65 (by decide) ?_
          refine lv_istore_n (lv' := [(2, .int 0), (1, .int r2), (0, .ref (eP E 69))]) X.1 X.2.1 dX8_begin_103 rfl hl (by decide) rfl (fun ls hl => ?_)
          refine lv_iload_n X.1 X.2.1 dX8_begin_104 rfl (lv_at hl 0 rfl) ?_
          refine lv_bipush (v := (-25)) X.1 X.2.1 dX8_begin_105 (by decide) ?_
          refine lv_icmp_eq (tgt := 118) X.1 X.2.1 dX8_begin_107 (by decide) (fun c74 => ?_) (fun c74 => ?_)
          · have hf := if_t hf c74
            refine lv_iconst (v := 0) X.1 X.2.1 dX8_begin_118 (by decide) ?_
            obtain ⟨rfl, rfl⟩ := Prod.mk.inj (Option.some.inj hf)
            exact r_iret X hw dX8_begin_119
          · have hf := if_e hf c74
            refine lv_aload_n X.1 X.2.1 dX8_begin_110 rfl (lv_at hl 2 rfl) ?_
            refine r_get X hw (sp69 hE) (C := RX8) (T := TX8) (N := 31) rfl iwX8 10 (by decide) (Nat.le_of_ble_eq_true rfl) qw876 (v := .int (σ 69 10)) rfl dX8_begin_111 ?_
            refine lv_iconst (v := 5) X.1 X.2.1 dX8_begin_114 (by decide) ?_
            refine lv_icmp_ne (tgt := 120) X.1 X.2.1 dX8_begin_115 (by decide) (fun c75 => ?_) (fun c75 => ?_)
            · have hf := if_e hf c75
              refine lv_aload_n X.1 X.2.1 dX8_begin_120 rfl (lv_at hl 2 rfl) ?_
              refine lv_dup X.1 X.2.1 dX8_begin_121 rfl ?_
              refine r_get X hw (sp69 hE) (C := RX8) (T := TX8) (N := 31) rfl iwX8 10 (by decide) (Nat.le_of_ble_eq_true rfl) qw876 (v := .int (σ 69 10)) rfl dX8_begin_122 ?_
              refine lv_iconst (v := 1) X.1 X.2.1 dX8_begin_125 (by decide) ?_
              refine lv_iadd X.1 X.2.1 dX8_begin_126 ?_
              refine r_put X hw (sp69 hE) (C := RX8) (T := TX8) (N := 31) rfl iwX8 tyX8 tyX8_ok nmX8 10 (by decide) (Nat.le_of_ble_eq_true rfl) qw876 rfl (v := .int ((σ 69 10) + 1)) rfl rfl (x := ((σ 69 10) + 1)) rfl dX8_begin_127 (fun H locs hw => ?_)
              obtain ⟨σ76, e77, hf⟩ := b_bnd hf
              rw [← e77] at hw
              refine lv_aload_n X.1 X.2.1 dX8_begin_130 rfl (lv_at hl 2 rfl) ?_
              refine lv_iload_n X.1 X.2.1 dX8_begin_131 rfl (lv_at hl 0 rfl) ?_
              obtain ⟨σ79, h78, hf⟩ := b_bd1 hf
              refine r_callV X hw (k_X8_await hE  h78) (sp69 hE) (C := RX8) (T := TX8) (N := 31) rfl qw1099 qw1101 qw51 qw79 qw1102 okX8_await ⟨rfl, rfl⟩ ⟨(Nat.le_of_ble_eq_true rfl), (Nat.le_of_ble_eq_true rfl)⟩ ⟨Nat.zero_le _, Nat.zero_le _⟩ rfl hl.1 (rest := []) rfl (Nat.le_of_ble_eq_true rfl) dX8_begin_132 (st1 := []) rfl (fun H locs hw => ?_)
              refine lv_iconst (v := 2) X.1 X.2.1 dX8_begin_135 (by decide) ?_
              obtain ⟨rfl, rfl⟩ := Prod.mk.inj (Option.some.inj hf)
              exact r_iret X hw dX8_begin_136
            · have hf := if_t hf c75
              refine lv_iconst (v := 0) X.1 X.2.1 dX8_begin_118 (by decide) ?_
              obtain ⟨rfl, rfl⟩ := Prod.mk.inj (Option.some.inj hf)
              exact r_iret X hw dX8_begin_119
      · have hf := if_e hf c43
        refine lv_aload_n X.1 X.2.1 dX8_begin_45 rfl (lv_at hl 1 rfl) ?_
        refine lv_aload_n X.1 X.2.1 dX8_begin_46 rfl (lv_at hl 1 rfl) ?_
        obtain ⟨r81, h80, hf⟩ := b_bd1 hf
        refine r_callV X hw (k_X8_numberThere hE  h80) (sp69 hE) (C := RX8) (T := TX8) (N := 31) rfl qw1084 qw1086 qw48 qw79 qw1087 okX8_numberThere ⟨rfl, rfl⟩ ⟨(Nat.le_of_ble_eq_true rfl), (Nat.le_of_ble_eq_true rfl)⟩ ⟨Nat.zero_le _, Nat.zero_le _⟩ rfl hl.1 (rest := [.ref (eP E 69)]) rfl (Nat.le_of_ble_eq_true rfl) dX8_begin_47 (st1 := [.int r81, .ref (eP E 69)]) rfl (fun H locs hw => ?_)
        obtain ⟨σ83, h82, hf⟩ := b_bd1 hf
        refine r_callV X hw (k_X8_write hE  h82) (sp69 hE) (C := RX8) (T := TX8) (N := 31) rfl qw1080 qw1082 qw47 qw79 qw1083 okX8_write ⟨rfl, rfl⟩ ⟨(Nat.le_of_ble_eq_true rfl), (Nat.le_of_ble_eq_true rfl)⟩ ⟨Nat.zero_le _, Nat.zero_le _⟩ rfl hl.1 (rest := []) rfl (Nat.le_of_ble_eq_true rfl) dX8_begin_50 (st1 := []) rfl (fun H locs hw => ?_)
        refine lv_iconst (v := 1) X.1 X.2.1 dX8_begin_53 (by decide) ?_
        obtain ⟨rfl, rfl⟩ := Prod.mk.inj (Option.some.inj hf)
        exact r_iret X hw dX8_begin_54
  · have hf := if_e hf c5
    refine lv_aload_n X.1 X.2.1 dX8_begin_14 rfl (lv_at hl 1 rfl) ?_
    refine lv_bipush (v := (-10)) X.1 X.2.1 dX8_begin_15 (by decide) ?_
    refine lv_iload_n X.1 X.2.1 dX8_begin_17 rfl (lv_at hl 0 rfl) ?_
    refine lv_isub X.1 X.2.1 dX8_begin_18 ?_
    obtain ⟨σ85, h84, hf⟩ := b_bd1 hf
    refine r_callV X hw (k_X8_write hE  h84) (sp69 hE) (C := RX8) (T := TX8) (N := 31) rfl qw1080 qw1082 qw47 qw79 qw1083 okX8_write ⟨rfl, rfl⟩ ⟨(Nat.le_of_ble_eq_true rfl), (Nat.le_of_ble_eq_true rfl)⟩ ⟨Nat.zero_le _, Nat.zero_le _⟩ rfl hl.1 (rest := []) rfl (Nat.le_of_ble_eq_true rfl) dX8_begin_19 (st1 := []) rfl (fun H locs hw => ?_)
    refine lv_iconst (v := 1) X.1 X.2.1 dX8_begin_22 (by decide) ?_
    obtain ⟨rfl, rfl⟩ := Prod.mk.inj (Option.some.inj hf)
    exact r_iret X hw dX8_begin_23
abbrev rm_X8_isE : Room := { frames := 3, cells := 0, slots := 0, locals := 142 }
set_option maxHeartbeats 4000000 in
set_option maxRecDepth 100000 in
theorem w_X8_isE_10 {p : Program} {l : Launch} {e : Env} {s : State} {m : MethodId} {args : Array Value} {below : List Frame} {meth : Method} {c : Code} {Q : State → Prop} {E : en_T} (X : Cx E p s m args meth c cX8_isE 3 RX8 (some .boolean)) (hE : ShF E)   {res : Int32 × sg_T} :
    ∀ (n : Nat) (w1 : Int32) (σ : sg_T), itr (fun q => b_X8_isE_10  q.1 q.2) n (w1, σ) = some res → ∀ (H : Heap) (locs : List Loc) (ls : Array Slot), Hw E σ s H locs → lv_has ls 3 [(0, .ref (eP E 69)), (1, .int w1)] →
    (∀ (y1 : Int32) (τ : sg_T), res = (y1, τ) → ∀ (H : Heap) (locs : List Loc) (ls : Array Slot), Hw E τ s H locs → lv_has ls 3 [(0, .ref (eP E 69)), (1, .int y1)] → W p l e rm_X8_isE s m args below meth c H locs 0 0 Q (F0 m 27 ls [])) →
    W p l e rm_X8_isE s m args below meth c H locs 0 0 Q (F0 m 10 ls []) := by
  have hR : ShR E := hE.r
  intro n
  induction n with
  | zero =>
    intro w1 σ hf0
    exact (itr_0 hf0).elim
  | succ n ih =>
    intro w1 σ hf0 H locs ls hw hl K1
    obtain ⟨r0, hf, hr1, hr2⟩ := itr_s hf0
    have hf : b_X8_isE_10  w1 σ = some r0 := hf
    unfold b_X8_isE_10 at hf
    refine lv_iload_n X.1 X.2.1 dX8_isE_10 rfl (lv_at hl 1 rfl) ?_
    refine lv_iconst (v := 2) X.1 X.2.1 dX8_isE_11 (by decide) ?_
    refine lv_icmp_ne (tgt := 27) X.1 X.2.1 dX8_isE_12 (by decide) (fun c6 => ?_) (fun c6 => ?_)
    · have hf := if_e hf c6
      obtain rfl := Option.some.inj hf
      obtain rfl := hr2 _ rfl
      exact K1 _ _ rfl _ _ _ hw (lv_sub hl [0, 1] rfl)
    · have hf := if_t hf c6
      refine lv_aload_n X.1 X.2.1 dX8_isE_15 rfl (lv_at hl 0 rfl) ?_
      obtain ⟨σ8, h7, hf⟩ := b_bd1 hf
      refine r_callV X hw (k_X8_next hE  h7) (sp69 hE) (C := RX8) (T := TX8) (N := 31) rfl qw1060 qw1062 qw42 qw79 qw1063 okX8_next ⟨rfl, rfl⟩ ⟨(Nat.le_of_ble_eq_true rfl), (Nat.le_of_ble_eq_true rfl)⟩ ⟨Nat.zero_le _, Nat.zero_le _⟩ rfl hl.1 (rest := []) rfl (Nat.le_of_ble_eq_true rfl) dX8_isE_16 (st1 := []) rfl (fun H locs hw => ?_)
      refine lv_aload_n X.1 X.2.1 dX8_isE_19 rfl (lv_at hl 0 rfl) ?_
      obtain ⟨r10, σ11, h9, hf⟩ := b_bd2 hf
      refine r_callV X hw (k_X8_begin hE  h9) (sp69 hE) (C := RX8) (T := TX8) (N := 31) rfl qw1076 qw1078 qw46 qw79 qw1079 okX8_begin ⟨rfl, rfl⟩ ⟨(Nat.le_of_ble_eq_true rfl), (Nat.le_of_ble_eq_true rfl)⟩ ⟨Nat.zero_le _, Nat.zero_le _⟩ rfl hl.1 (rest := []) rfl (Nat.le_of_ble_eq_true rfl) dX8_isE_20 (st1 := [.int r10]) rfl (fun H locs hw => ?_)
      refine lv_istore_n (lv' := [(1, .int r10), (0, .ref (eP E 69))]) X.1 X.2.1 dX8_isE_23 rfl hl (by decide) rfl (fun ls hl => ?_)
      refine lv_goto (tgt := 10) X.1 X.2.1 dX8_isE_24 (by decide) ?_
      obtain rfl := Option.some.inj hf
      exact ih _ _ (hr1 _ rfl) _ _ _ hw (lv_sub hl [1, 0] rfl) K1
set_option maxHeartbeats 4000000 in
set_option maxRecDepth 100000 in
theorem w_X8_isE_43 {p : Program} {l : Launch} {e : Env} {s : State} {m : MethodId} {args : Array Value} {below : List Frame} {meth : Method} {c : Code} {Q : State → Prop} {E : en_T} (X : Cx E p s m args meth c cX8_isE 3 RX8 (some .boolean)) (hE : ShF E) {u1 : Int32}  {res : (sg_T) ⊕ (Int32 × sg_T)} :
    ∀ (n : Nat) (σ : sg_T), itr (fun q => b_X8_isE_43 u1 q) n σ = some res → ∀ (H : Heap) (locs : List Loc) (ls : Array Slot), Hw E σ s H locs → lv_has ls 3 [(0, .ref (eP E 69)), (1, .int u1)] →
    (∀ (τ : sg_T), res = .inl τ → ∀ (H : Heap) (locs : List Loc) (ls : Array Slot), Hw E τ s H locs → lv_has ls 3 [(0, .ref (eP E 69)), (1, .int u1)] → W p l e rm_X8_isE s m args below meth c H locs 0 0 Q (F0 m 99 ls [])) →
    (∀ (r : Int32) (σ' : sg_T), res = .inr (r, σ') → Q = MQ below (Qf E (some (.int r)) σ') args s 0 0 (en_A E)) →
    W p l e rm_X8_isE s m args below meth c H locs 0 0 Q (F0 m 43 ls []) := by
  have hR : ShR E := hE.r
  intro n
  induction n with
  | zero =>
    intro σ hf0
    exact (itr_0 hf0).elim
  | succ n ih =>
    intro σ hf0 H locs ls hw hl K1 K2
    obtain ⟨r0, hf, hr1, hr2⟩ := itr_s hf0
    have hf : b_X8_isE_43 u1 σ = some r0 := hf
    unfold b_X8_isE_43 at hf
    refine lv_aload_n X.1 X.2.1 dX8_isE_43 rfl (lv_at hl 0 rfl) ?_
    refine lv_bipush (v := 41) X.1 X.2.1 dX8_isE_44 (by decide) ?_
    obtain ⟨r21, h20, hf⟩ := b_bd1 hf
    refine r_callV X hw (k_X8_isSign hE  h20) (sp69 hE) (C := RX8) (T := TX8) (N := 31) rfl qw1088 qw1090 qw49 qw79 qw1091 okX8_isSign ⟨rfl, rfl⟩ ⟨(Nat.le_of_ble_eq_true rfl), (Nat.le_of_ble_eq_true rfl)⟩ ⟨Nat.zero_le _, Nat.zero_le _⟩ rfl hl.1 (rest := []) rfl (Nat.le_of_ble_eq_true rfl) dX8_isE_46 (st1 := [.int r21]) rfl (fun H locs hw => ?_)
    refine lv_if_eq (tgt := 99) X.1 X.2.1 dX8_isE_49 (by decide) (fun c22 => ?_) (fun c22 => ?_)
    · have hf := if_t hf c22
      obtain rfl := Option.some.inj hf
      obtain rfl := hr2 _ rfl
      exact K1 _ rfl _ _ _ hw (lv_sub hl [0, 1] rfl)
    · have hf := if_e hf c22
      refine lv_aload_n X.1 X.2.1 dX8_isE_52 rfl (lv_at hl 0 rfl) ?_
      refine lv_iconst (v := 1) X.1 X.2.1 dX8_isE_53 (by decide) ?_
      obtain ⟨σ24, h23, hf⟩ := b_bd1 hf
      refine r_callV X hw (k_X8_settle hE  h23) (sp69 hE) (C := RX8) (T := TX8) (N := 31) rfl qw1103 qw1105 qw52 qw79 qw1106 okX8_settle ⟨rfl, rfl⟩ ⟨(Nat.le_of_ble_eq_true rfl), (Nat.le_of_ble_eq_true rfl)⟩ ⟨Nat.zero_le _, Nat.zero_le _⟩ rfl hl.1 (rest := []) rfl (Nat.le_of_ble_eq_true rfl) dX8_isE_54 (st1 := []) rfl (fun H locs hw => ?_)
      refine lv_aload_n X.1 X.2.1 dX8_isE_57 rfl (lv_at hl 0 rfl) ?_
      refine r_get X hw (sp69 hE) (C := RX8) (T := TX8) (N := 31) rfl iwX8 17 (by decide) (Nat.le_of_ble_eq_true rfl) qw883 (v := .int (σ24 69 17)) rfl dX8_isE_58 ?_
      refine lv_if_ne (tgt := 66) X.1 X.2.1 dX8_isE_61 (by decide) (fun c25 => ?_) (fun c25 => ?_)
      · have hf := if_e hf c25
        refine lv_aload_n X.1 X.2.1 dX8_isE_66 rfl (lv_at hl 0 rfl) ?_
        refine lv_dup X.1 X.2.1 dX8_isE_67 rfl ?_
        refine r_get X hw (sp69 hE) (C := RX8) (T := TX8) (N := 31) rfl iwX8 17 (by decide) (Nat.le_of_ble_eq_true rfl) qw883 (v := .int (σ24 69 17)) rfl dX8_isE_68 ?_
        refine lv_iconst (v := 1) X.1 X.2.1 dX8_isE_71 (by decide) ?_
        refine lv_isub X.1 X.2.1 dX8_isE_72 ?_
        refine r_put X hw (sp69 hE) (C := RX8) (T := TX8) (N := 31) rfl iwX8 tyX8 tyX8_ok nmX8 17 (by decide) (Nat.le_of_ble_eq_true rfl) qw883 rfl (v := .int ((σ24 69 17) - 1)) rfl rfl (x := ((σ24 69 17) - 1)) rfl dX8_isE_73 (fun H locs hw => ?_)
        obtain ⟨σ26, e27, hf⟩ := b_bnd hf
        rw [← e27] at hw
        refine lv_aload_n X.1 X.2.1 dX8_isE_76 rfl (lv_at hl 0 rfl) ?_
        refine lv_dup X.1 X.2.1 dX8_isE_77 rfl ?_
        refine r_get X hw (sp69 hE) (C := RX8) (T := TX8) (N := 31) rfl iwX8 10 (by decide) (Nat.le_of_ble_eq_true rfl) qw876 (v := .int (σ26 69 10)) rfl dX8_isE_78 ?_
        refine lv_iconst (v := 1) X.1 X.2.1 dX8_isE_81 (by decide) ?_
        refine lv_isub X.1 X.2.1 dX8_isE_82 ?_
        refine r_put X hw (sp69 hE) (C := RX8) (T := TX8) (N := 31) rfl iwX8 tyX8 tyX8_ok nmX8 10 (by decide) (Nat.le_of_ble_eq_true rfl) qw876 rfl (v := .int ((σ26 69 10) - 1)) rfl rfl (x := ((σ26 69 10) - 1)) rfl dX8_isE_83 (fun H locs hw => ?_)
        obtain ⟨σ28, e29, hf⟩ := b_bnd hf
        rw [← e29] at hw
        refine lv_aload_n X.1 X.2.1 dX8_isE_86 rfl (lv_at hl 0 rfl) ?_
        refine lv_bipush (v := 7) X.1 X.2.1 dX8_isE_87 (by decide) ?_
        obtain ⟨σ31, h30, hf⟩ := b_bd1 hf
        refine r_callV X hw (k_X8_settle hE  h30) (sp69 hE) (C := RX8) (T := TX8) (N := 31) rfl qw1103 qw1105 qw52 qw79 qw1106 okX8_settle ⟨rfl, rfl⟩ ⟨(Nat.le_of_ble_eq_true rfl), (Nat.le_of_ble_eq_true rfl)⟩ ⟨Nat.zero_le _, Nat.zero_le _⟩ rfl hl.1 (rest := []) rfl (Nat.le_of_ble_eq_true rfl) dX8_isE_89 (st1 := []) rfl (fun H locs hw => ?_)
        refine lv_aload_n X.1 X.2.1 dX8_isE_92 rfl (lv_at hl 0 rfl) ?_
        obtain ⟨σ33, h32, hf⟩ := b_bd1 hf
        refine r_callV X hw (k_X8_next hE  h32) (sp69 hE) (C := RX8) (T := TX8) (N := 31) rfl qw1060 qw1062 qw42 qw79 qw1063 okX8_next ⟨rfl, rfl⟩ ⟨(Nat.le_of_ble_eq_true rfl), (Nat.le_of_ble_eq_true rfl)⟩ ⟨Nat.zero_le _, Nat.zero_le _⟩ rfl hl.1 (rest := []) rfl (Nat.le_of_ble_eq_true rfl) dX8_isE_93 (st1 := []) rfl (fun H locs hw => ?_)
        refine lv_goto (tgt := 43) X.1 X.2.1 dX8_isE_96 (by decide) ?_
        obtain rfl := Option.some.inj hf
        exact ih _ (hr1 _ rfl) _ _ _ hw (lv_sub hl [0, 1] rfl) K1 K2
      · have hf := if_t hf c25
        refine lv_iconst (v := 0) X.1 X.2.1 dX8_isE_64 (by decide) ?_
        obtain rfl := Option.some.inj hf
        obtain rfl := hr2 _ rfl
        rw [K2 _ _ rfl]
        exact r_zret X hw (by decide) dX8_isE_65
set_option maxHeartbeats 4000000 in
set_option maxRecDepth 100000 in
theorem w_X8_isE_5 {p : Program} {l : Launch} {e : Env} {s : State} {m : MethodId} {args : Array Value} {below : List Frame} {meth : Method} {c : Code} {Q : State → Prop} {E : en_T} (X : Cx E p s m args meth c cX8_isE 3 RX8 (some .boolean)) (hE : ShF E)   {res : Int32 × sg_T} :
    ∀ (n : Nat) (σ : sg_T), itr (fun q => b_X8_isE_5  q) n σ = some res → ∀ (H : Heap) (locs : List Loc) (ls : Array Slot), Hw E σ s H locs → lv_has ls 3 [(0, .ref (eP E 69))] →
    (∀ (r : Int32) (σ' : sg_T), res = (r, σ') → Q = MQ below (Qf E (some (.int r)) σ') args s 0 0 (en_A E)) →
    W p l e rm_X8_isE s m args below meth c H locs 0 0 Q (F0 m 5 ls []) := by
  have hR : ShR E := hE.r
  intro n
  induction n with
  | zero =>
    intro σ hf0
    exact (itr_0 hf0).elim
  | succ n ih =>
    intro σ hf0 H locs ls hw hl K2
    obtain ⟨r0, hf, hr1, hr2⟩ := itr_s hf0
    have hf : b_X8_isE_5  σ = some r0 := hf
    unfold b_X8_isE_5 at hf
    refine lv_aload_n X.1 X.2.1 dX8_isE_5 rfl (lv_at hl 0 rfl) ?_
    obtain ⟨r4, σ5, h3, hf⟩ := b_bd2 hf
    refine r_callV X hw (k_X8_begin hE  h3) (sp69 hE) (C := RX8) (T := TX8) (N := 31) rfl qw1076 qw1078 qw46 qw79 qw1079 okX8_begin ⟨rfl, rfl⟩ ⟨(Nat.le_of_ble_eq_true rfl), (Nat.le_of_ble_eq_true rfl)⟩ ⟨Nat.zero_le _, Nat.zero_le _⟩ rfl hl.1 (rest := []) rfl (Nat.le_of_ble_eq_true rfl) dX8_isE_6 (st1 := [.int r4]) rfl (fun H locs hw => ?_)
    refine lv_istore_n (lv' := [(1, .int r4), (0, .ref (eP E 69))]) X.1 X.2.1 dX8_isE_9 rfl hl (by decide) rfl (fun ls hl => ?_)
    obtain ⟨v13, σ14, h12, hf⟩ := b_bd2 hf
    refine w_X8_isE_10 X hE  lfu _ _ h12 _ _ _ hw (lv_sub hl [1, 0] rfl) (fun yv13 yσ14 hq H locs ls hw hl => ?_)
    cases hq
    refine lv_iload_n X.1 X.2.1 dX8_isE_27 rfl (lv_at hl 1 rfl) ?_
    refine lv_if_ne (tgt := 33) X.1 X.2.1 dX8_isE_28 (by decide) (fun c15 => ?_) (fun c15 => ?_)
    · have hf := if_e hf c15
      refine lv_aload_n X.1 X.2.1 dX8_isE_33 rfl (lv_at hl 0 rfl) ?_
      refine lv_bipush (v := 7) X.1 X.2.1 dX8_isE_34 (by decide) ?_
      obtain ⟨σ17, h16, hf⟩ := b_bd1 hf
      refine r_callV X hw (k_X8_settle hE  h16) (sp69 hE) (C := RX8) (T := TX8) (N := 31) rfl qw1103 qw1105 qw52 qw79 qw1106 okX8_settle ⟨rfl, rfl⟩ ⟨(Nat.le_of_ble_eq_true rfl), (Nat.le_of_ble_eq_true rfl)⟩ ⟨Nat.zero_le _, Nat.zero_le _⟩ rfl hl.1 (rest := []) rfl (Nat.le_of_ble_eq_true rfl) dX8_isE_36 (st1 := []) rfl (fun H locs hw => ?_)
      refine lv_aload_n X.1 X.2.1 dX8_isE_39 rfl (lv_at hl 0 rfl) ?_
      obtain ⟨σ19, h18, hf⟩ := b_bd1 hf
      refine r_callV X hw (k_X8_next hE  h18) (sp69 hE) (C := RX8) (T := TX8) (N := 31) rfl qw1060 qw1062 qw42 qw79 qw1063 okX8_next ⟨rfl, rfl⟩ ⟨(Nat.le_of_ble_eq_true rfl), (Nat.le_of_ble_eq_true rfl)⟩ ⟨Nat.zero_le _, Nat.zero_le _⟩ rfl hl.1 (rest := []) rfl (Nat.le_of_ble_eq_true rfl) dX8_isE_40 (st1 := []) rfl (fun H locs hw => ?_)
      obtain ⟨r36, h34, hf⟩ := b_bs hf
      rcases hf with ⟨σ35, rfl, hf⟩ | ⟨⟨r37, σ38⟩, rfl, hf⟩
      · refine w_X8_isE_43 X hE  lfu _ h34 _ _ _ hw (lv_sub hl [0, 1] rfl) (fun yσ35 hq H locs ls hw hl => ?_) (fun _ _ hq => by cases hq)
        cases hq
        refine lv_aload_n X.1 X.2.1 dX8_isE_99 rfl (lv_at hl 0 rfl) ?_
        obtain ⟨r40, h39, hf⟩ := b_bd1 hf
        refine r_callV X hw (k_X8_between hE  h39) (sp69 hE) (C := RX8) (T := TX8) (N := 31) rfl qw1107 qw1109 qw53 qw79 qw1110 okX8_between ⟨rfl, rfl⟩ ⟨(Nat.le_of_ble_eq_true rfl), (Nat.le_of_ble_eq_true rfl)⟩ ⟨Nat.zero_le _, Nat.zero_le _⟩ rfl hl.1 (rest := []) rfl (Nat.le_of_ble_eq_true rfl) dX8_isE_100 (st1 := [.int r40]) rfl (fun H locs hw => ?_)
        refine lv_istore_n (lv' := [(2, .int r40), (0, .ref (eP E 69)), (1, .int v13)]) X.1 X.2.1 dX8_isE_103 rfl hl (by decide) rfl (fun ls hl => ?_)
        refine lv_iload_n X.1 X.2.1 dX8_isE_104 rfl (lv_at hl 0 rfl) ?_
        refine lv_if_ne (tgt := 126) X.1 X.2.1 dX8_isE_105 (by decide) (fun c41 => ?_) (fun c41 => ?_)
        · have hf := if_e hf c41
          refine lv_aload_n X.1 X.2.1 dX8_isE_126 rfl (lv_at hl 1 rfl) ?_
          refine lv_iload_n X.1 X.2.1 dX8_isE_127 rfl (lv_at hl 0 rfl) ?_
          obtain ⟨r43, h42, hf⟩ := b_bd1 hf
          refine r_callS X hw (k_X8_rank hE  h42) qw1096 qw1097 qw79 qw1098 okX8_rank ⟨rfl, rfl⟩ ⟨(Nat.le_of_ble_eq_true rfl), (Nat.le_of_ble_eq_true rfl)⟩ ⟨Nat.zero_le _, Nat.zero_le _⟩ rfl hl.1 (rest := [.ref (eP E 69)]) rfl (Nat.le_of_ble_eq_true rfl) dX8_isE_128 (st1 := [.int r43, .ref (eP E 69)]) rfl (fun H locs hw => ?_)
          refine lv_iconst (v := 4) X.1 X.2.1 dX8_isE_131 (by decide) ?_
          refine lv_icmp_ne (tgt := 139) X.1 X.2.1 dX8_isE_132 (by decide) (fun c44 => ?_) (fun c44 => ?_)
          · have hf := if_e hf c44
            refine lv_iload_n X.1 X.2.1 dX8_isE_139 rfl (lv_at hl 0 rfl) ?_
            obtain ⟨r46, h45, hf⟩ := b_bd1 hf
            refine r_callS X hw (k_X8_rank hE  h45) qw1096 qw1097 qw79 qw1098 okX8_rank ⟨rfl, rfl⟩ ⟨(Nat.le_of_ble_eq_true rfl), (Nat.le_of_ble_eq_true rfl)⟩ ⟨Nat.zero_le _, Nat.zero_le _⟩ rfl hl.1 (rest := [.ref (eP E 69)]) rfl (Nat.le_of_ble_eq_true rfl) dX8_isE_140 (st1 := [.int r46, .ref (eP E 69)]) rfl (fun H locs hw => ?_)
            obtain ⟨σ48, h47, hf⟩ := b_bd1 hf
            refine r_callV X hw (k_X8_settle hE  h47) (sp69 hE) (C := RX8) (T := TX8) (N := 31) rfl qw1103 qw1105 qw52 qw79 qw1106 okX8_settle ⟨rfl, rfl⟩ ⟨(Nat.le_of_ble_eq_true rfl), (Nat.le_of_ble_eq_true rfl)⟩ ⟨Nat.zero_le _, Nat.zero_le _⟩ rfl hl.1 (rest := []) rfl (Nat.le_of_ble_eq_true rfl) dX8_isE_143 (st1 := []) rfl (fun H locs hw => ?_)
            refine lv_iload_n X.1 X.2.1 dX8_isE_146 rfl (lv_at hl 0 rfl) ?_
            obtain ⟨r50, h49, hf⟩ := b_bd1 hf
            refine r_callS X hw (k_X8_rank hE  h49) qw1096 qw1097 qw79 qw1098 okX8_rank ⟨rfl, rfl⟩ ⟨(Nat.le_of_ble_eq_true rfl), (Nat.le_of_ble_eq_true rfl)⟩ ⟨Nat.zero_le _, Nat.zero_le _⟩ rfl hl.1 (rest := []) rfl (Nat.le_of_ble_eq_true rfl) dX8_isE_147 (st1 := [.int r50]) rfl (fun H locs hw => ?_)
            refine lv_iconst (v := 4) X.1 X.2.1 dX8_isE_150 (by decide) ?_
            refine lv_icmp_ne (tgt := 164) X.1 X.2.1 dX8_isE_151 (by decide) (fun c51 => ?_) (fun c51 => ?_)
            · have hf := if_e hf c51
              refine lv_aload_n X.1 X.2.1 dX8_isE_164 rfl (lv_at hl 1 rfl) ?_
              refine lv_iload_n X.1 X.2.1 dX8_isE_165 rfl (lv_at hl 0 rfl) ?_
              obtain ⟨σ53, h52, hf⟩ := b_bd1 hf
              refine r_callV X hw (k_X8_await hE  h52) (sp69 hE) (C := RX8) (T := TX8) (N := 31) rfl qw1099 qw1101 qw51 qw79 qw1102 okX8_await ⟨rfl, rfl⟩ ⟨(Nat.le_of_ble_eq_true rfl), (Nat.le_of_ble_eq_true rfl)⟩ ⟨Nat.zero_le _, Nat.zero_le _⟩ rfl hl.1 (rest := []) rfl (Nat.le_of_ble_eq_true rfl) dX8_isE_166 (st1 := []) rfl (fun H locs hw => ?_)
              refine lv_aload_n X.1 X.2.1 dX8_isE_169 rfl (lv_at hl 1 rfl) ?_
              obtain ⟨σ55, h54, hf⟩ := b_bd1 hf
              refine r_callV X hw (k_X8_next hE  h54) (sp69 hE) (C := RX8) (T := TX8) (N := 31) rfl qw1060 qw1062 qw42 qw79 qw1063 okX8_next ⟨rfl, rfl⟩ ⟨(Nat.le_of_ble_eq_true rfl), (Nat.le_of_ble_eq_true rfl)⟩ ⟨Nat.zero_le _, Nat.zero_le _⟩ rfl hl.1 (rest := []) rfl (Nat.le_of_ble_eq_true rfl) dX8_isE_170 (st1 := []) rfl (fun H locs hw => ?_)
              refine lv_goto (tgt := 5) X.1 X.2.1 dX8_isE_173 (by decide) ?_
              obtain rfl := Option.some.inj hf
              exact ih _ (hr1 _ rfl) _ _ _ hw (lv_sub hl [1] rfl) K2
            · have hf := if_t hf c51
              refine lv_aload_n X.1 X.2.1 dX8_isE_154 rfl (lv_at hl 1 rfl) ?_
              obtain ⟨r57, h56, hf⟩ := b_bd1 hf
              refine r_callV X hw (k_X8_last hE  h56) (sp69 hE) (C := RX8) (T := TX8) (N := 31) rfl qw1092 qw1094 qw50 qw79 qw1095 okX8_last ⟨rfl, rfl⟩ ⟨(Nat.le_of_ble_eq_true rfl), (Nat.le_of_ble_eq_true rfl)⟩ ⟨Nat.zero_le _, Nat.zero_le _⟩ rfl hl.1 (rest := []) rfl (Nat.le_of_ble_eq_true rfl) dX8_isE_155 (st1 := [.int r57]) rfl (fun H locs hw => ?_)
              refine lv_iconst (v := 4) X.1 X.2.1 dX8_isE_158 (by decide) ?_
              refine lv_icmp_ne (tgt := 164) X.1 X.2.1 dX8_isE_159 (by decide) (fun c58 => ?_) (fun c58 => ?_)
              · have hf := if_e hf c58
                refine lv_aload_n X.1 X.2.1 dX8_isE_164 rfl (lv_at hl 1 rfl) ?_
                refine lv_iload_n X.1 X.2.1 dX8_isE_165 rfl (lv_at hl 0 rfl) ?_
                obtain ⟨σ60, h59, hf⟩ := b_bd1 hf
                refine r_callV X hw (k_X8_await hE  h59) (sp69 hE) (C := RX8) (T := TX8) (N := 31) rfl qw1099 qw1101 qw51 qw79 qw1102 okX8_await ⟨rfl, rfl⟩ ⟨(Nat.le_of_ble_eq_true rfl), (Nat.le_of_ble_eq_true rfl)⟩ ⟨Nat.zero_le _, Nat.zero_le _⟩ rfl hl.1 (rest := []) rfl (Nat.le_of_ble_eq_true rfl) dX8_isE_166 (st1 := []) rfl (fun H locs hw => ?_)
                refine lv_aload_n X.1 X.2.1 dX8_isE_169 rfl (lv_at hl 1 rfl) ?_
                obtain ⟨σ62, h61, hf⟩ := b_bd1 hf
                refine r_callV X hw (k_X8_next hE  h61) (sp69 hE) (C := RX8) (T := TX8) (N := 31) rfl qw1060 qw1062 qw42 qw79 qw1063 okX8_next ⟨rfl, rfl⟩ ⟨(Nat.le_of_ble_eq_true rfl), (Nat.le_of_ble_eq_true rfl)⟩ ⟨Nat.zero_le _, Nat.zero_le _⟩ rfl hl.1 (rest := []) rfl (Nat.le_of_ble_eq_true rfl) dX8_isE_170 (st1 := []) rfl (fun H locs hw => ?_)
                refine lv_goto (tgt := 5) X.1 X.2.1 dX8_isE_173 (by decide) ?_
                obtain rfl := Option.some.inj hf
                exact ih _ (hr1 _ rfl) _ _ _ hw (lv_sub hl [1] rfl) K2
              · have hf := if_t hf c58
                refine lv_iconst (v := 0) X.1 X.2.1 dX8_isE_162 (by decide) ?_
                obtain rfl := Option.some.inj hf
                obtain rfl := hr2 _ rfl
                rw [K2 _ _ rfl]
                exact r_zret X hw (by decide) dX8_isE_163
          · have hf := if_t hf c44
            refine lv_iconst (v := 5) X.1 X.2.1 dX8_isE_135 (by decide) ?_
            refine lv_goto (tgt := 143) X.1 X.2.1 dX8_isE_136 (by decide) ?_
            obtain ⟨σ64, h63, hf⟩ := b_bd1 hf
            refine r_callV X hw (k_X8_settle hE  h63) (sp69 hE) (C := RX8) (T := TX8) (N := 31) rfl qw1103 qw1105 qw52 qw79 qw1106 okX8_settle ⟨rfl, rfl⟩ ⟨(Nat.le_of_ble_eq_true rfl), (Nat.le_of_ble_eq_true rfl)⟩ ⟨Nat.zero_le _, Nat.zero_le _⟩ rfl hl.1 (rest := []) rfl (Nat.le_of_ble_eq_true rfl) dX8_isE_143 (st1 := []) rfl (fun H locs hw => ?_)
            refine lv_iload_n X.1 X.2.1 dX8_isE_146 rfl (lv_at hl 0 rfl) ?_
            obtain ⟨r66, h65, hf⟩ := b_bd1 hf
            refine r_callS X hw (k_X8_rank hE  h65) qw1096 qw1097 qw79 qw1098 okX8_rank ⟨rfl, rfl⟩ ⟨(Nat.le_of_ble_eq_true rfl), (Nat.le_of_ble_eq_true rfl)⟩ ⟨Nat.zero_le _, Nat.zero_le _⟩ rfl hl.1 (rest := []) rfl (Nat.le_of_ble_eq_true rfl) dX8_isE_147 (st1 := [.int r66]) rfl (fun H locs hw => ?_)
            refine lv_iconst (v := 4) X.1 X.2.1 dX8_isE_150 (by decide) ?_
            refine lv_icmp_ne (tgt := 164) X.1 X.2.1 dX8_isE_151 (by decide) (fun c67 => ?_) (fun c67 => ?_)
            · have hf := if_e hf c67
              refine lv_aload_n X.1 X.2.1 dX8_isE_164 rfl (lv_at hl 1 rfl) ?_
              refine lv_iload_n X.1 X.2.1 dX8_isE_165 rfl (lv_at hl 0 rfl) ?_
              obtain ⟨σ69, h68, hf⟩ := b_bd1 hf
              refine r_callV X hw (k_X8_await hE  h68) (sp69 hE) (C := RX8) (T := TX8) (N := 31) rfl qw1099 qw1101 qw51 qw79 qw1102 okX8_await ⟨rfl, rfl⟩ ⟨(Nat.le_of_ble_eq_true rfl), (Nat.le_of_ble_eq_true rfl)⟩ ⟨Nat.zero_le _, Nat.zero_le _⟩ rfl hl.1 (rest := []) rfl (Nat.le_of_ble_eq_true rfl) dX8_isE_166 (st1 := []) rfl (fun H locs hw => ?_)
              refine lv_aload_n X.1 X.2.1 dX8_isE_169 rfl (lv_at hl 1 rfl) ?_
              obtain ⟨σ71, h70, hf⟩ := b_bd1 hf
              refine r_callV X hw (k_X8_next hE  h70) (sp69 hE) (C := RX8) (T := TX8) (N := 31) rfl qw1060 qw1062 qw42 qw79 qw1063 okX8_next ⟨rfl, rfl⟩ ⟨(Nat.le_of_ble_eq_true rfl), (Nat.le_of_ble_eq_true rfl)⟩ ⟨Nat.zero_le _, Nat.zero_le _⟩ rfl hl.1 (rest := []) rfl (Nat.le_of_ble_eq_true rfl) dX8_isE_170 (st1 := []) rfl (fun H locs hw => ?_)
              refine lv_goto (tgt := 5) X.1 X.2.1 dX8_isE_173 (by decide) ?_
              obtain rfl := Option.some.inj hf
              exact ih _ (hr1 _ rfl) _ _ _ hw (lv_sub hl [1] rfl) K2
            · have hf := if_t hf c67
              refine lv_aload_n X.1 X.2.1 dX8_isE_154 rfl (lv_at hl 1 rfl) ?_
              obtain ⟨r73, h72, hf⟩ := b_bd1 hf
              refine r_callV X hw (k_X8_last hE  h72) (sp69 hE) (C := RX8) (T := TX8) (N := 31) rfl qw1092 qw1094 qw50 qw79 qw1095 okX8_last ⟨rfl, rfl⟩ ⟨(Nat.le_of_ble_eq_true rfl), (Nat.le_of_ble_eq_true rfl)⟩ ⟨Nat.zero_le _, Nat.zero_le _⟩ rfl hl.1 (rest := []) rfl (Nat.le_of_ble_eq_true rfl) dX8_isE_155 (st1 := [.int r73]) rfl (fun H locs hw => ?_)
              refine lv_iconst (v := 4) X.1 X.2.1 dX8_isE_158 (by decide) ?_
              refine lv_icmp_ne (tgt := 164) X.1 X.2.1 dX8_isE_159 (by decide) (fun c74 => ?_) (fun c74 => ?_)
              · have hf := if_e hf c74
                refine lv_aload_n X.1 X.2.1 dX8_isE_164 rfl (lv_at hl 1 rfl) ?_
                refine lv_iload_n X.1 X.2.1 dX8_isE_165 rfl (lv_at hl 0 rfl) ?_
                obtain ⟨σ76, h75, hf⟩ := b_bd1 hf
                refine r_callV X hw (k_X8_await hE  h75) (sp69 hE) (C := RX8) (T := TX8) (N := 31) rfl qw1099 qw1101 qw51 qw79 qw1102 okX8_await ⟨rfl, rfl⟩ ⟨(Nat.le_of_ble_eq_true rfl), (Nat.le_of_ble_eq_true rfl)⟩ ⟨Nat.zero_le _, Nat.zero_le _⟩ rfl hl.1 (rest := []) rfl (Nat.le_of_ble_eq_true rfl) dX8_isE_166 (st1 := []) rfl (fun H locs hw => ?_)
                refine lv_aload_n X.1 X.2.1 dX8_isE_169 rfl (lv_at hl 1 rfl) ?_
                obtain ⟨σ78, h77, hf⟩ := b_bd1 hf
                refine r_callV X hw (k_X8_next hE  h77) (sp69 hE) (C := RX8) (T := TX8) (N := 31) rfl qw1060 qw1062 qw42 qw79 qw1063 okX8_next ⟨rfl, rfl⟩ ⟨(Nat.le_of_ble_eq_true rfl), (Nat.le_of_ble_eq_true rfl)⟩ ⟨Nat.zero_le _, Nat.zero_le _⟩ rfl hl.1 (rest := []) rfl (Nat.le_of_ble_eq_true rfl) dX8_isE_170 (st1 := []) rfl (fun H locs hw => ?_)
                refine lv_goto (tgt := 5) X.1 X.2.1 dX8_isE_173 (by decide) ?_
                obtain rfl := Option.some.inj hf
                exact ih _ (hr1 _ rfl) _ _ _ hw (lv_sub hl [1] rfl) K2
              · have hf := if_t hf c74
                refine lv_iconst (v := 0) X.1 X.2.1 dX8_isE_162 (by decide) ?_
                obtain rfl := Option.some.inj hf
                obtain rfl := hr2 _ rfl
                rw [K2 _ _ rfl]
                exact r_zret X hw (by decide) dX8_isE_163
        · have hf := if_t hf c41
          refine lv_aload_n X.1 X.2.1 dX8_isE_108 rfl (lv_at hl 1 rfl) ?_
          refine lv_iconst (v := 1) X.1 X.2.1 dX8_isE_109 (by decide) ?_
          obtain ⟨σ80, h79, hf⟩ := b_bd1 hf
          refine r_callV X hw (k_X8_settle hE  h79) (sp69 hE) (C := RX8) (T := TX8) (N := 31) rfl qw1103 qw1105 qw52 qw79 qw1106 okX8_settle ⟨rfl, rfl⟩ ⟨(Nat.le_of_ble_eq_true rfl), (Nat.le_of_ble_eq_true rfl)⟩ ⟨Nat.zero_le _, Nat.zero_le _⟩ rfl hl.1 (rest := []) rfl (Nat.le_of_ble_eq_true rfl) dX8_isE_110 (st1 := []) rfl (fun H locs hw => ?_)
          refine lv_aload_n X.1 X.2.1 dX8_isE_113 rfl (lv_at hl 1 rfl) ?_
          refine r_get X hw (sp69 hE) (C := RX8) (T := TX8) (N := 31) rfl iwX8 17 (by decide) (Nat.le_of_ble_eq_true rfl) qw883 (v := .int (σ80 69 17)) rfl dX8_isE_114 ?_
          obtain ⟨v82, e83, hf⟩ := b_bnd hf
          refine r_join (g2 := F0 m 125 ls [.int v82]) ?_ (fun hj => ?_)
          · obtain ⟨h84, hf⟩ := b_cz hf
            obtain rfl := Option.some.inj hf
            obtain rfl := hr2 _ rfl
            rw [K2 _ _ rfl]
            exact r_zret X hw (cz_and h84) dX8_isE_125
          · refine lv_if_ne (tgt := 124) X.1 X.2.1 dX8_isE_117 (by decide) (fun c81 => ?_) (fun c81 => ?_)
            · rw [e83, if_neg c81] at hj
              refine lv_iconst (v := 0) X.1 X.2.1 dX8_isE_124 (by decide) ?_
              exact hj
            · rw [e83, if_pos c81] at hj
              refine lv_iconst (v := 1) X.1 X.2.1 dX8_isE_120 (by decide) ?_
              refine lv_goto (tgt := 125) X.1 X.2.1 dX8_isE_121 (by decide) ?_
              exact hj
      · obtain rfl := Option.some.inj hf
        obtain rfl := hr2 _ rfl
        refine w_X8_isE_43 X hE  lfu _ h34 _ _ _ hw (lv_sub hl [0, 1] rfl) (fun _ hq => by cases hq) (fun _ _ hq => ?_)
        cases hq
        exact K2 _ _ rfl
    · have hf := if_t hf c15
      refine lv_iconst (v := 0) X.1 X.2.1 dX8_isE_31 (by decide) ?_
      obtain rfl := Option.some.inj hf
      obtain rfl := hr2 _ rfl
      rw [K2 _ _ rfl]
      exact r_zret X hw (by decide) dX8_isE_32
set_option maxHeartbeats 4000000 in
set_option maxRecDepth 100000 in
theorem k_X8_isE {l : Launch} {E : en_T} (hE : ShF E)  {σ : sg_T} {r : Int32} {σ' : sg_T} (hf : f_X8_isE  σ = some (r, σ')) : Ct l yX8_isE cX8_isE 3 (some .boolean) rm_X8_isE E [.ref (eP E 69)] σ (some (.int r)) σ' := by
  refine Ct.start (by decide) hE.1 (Nat.le_of_ble_eq_true rfl) ?_
  intro p e s m below meth c X hw ls hl
  have X : Cx E p s m _ meth c cX8_isE 3 RX8 (some .boolean) := X
  have hR : ShR E := hE.r
  have hl : lv_has ls 3 [(0, .ref (eP E 69))] := hl
  unfold f_X8_isE at hf
  refine lv_aload_n X.1 X.2.1 dX8_isE_0 rfl (lv_at hl 0 rfl) ?_
  refine lv_iconst (v := 0) X.1 X.2.1 dX8_isE_1 (by decide) ?_
  refine r_put X hw (sp69 hE) (C := RX8) (T := TX8) (N := 31) rfl iwX8 tyX8 tyX8_ok nmX8 17 (by decide) (Nat.le_of_ble_eq_true rfl) qw883 rfl (v := .int 0) rfl rfl (x := 0) rfl dX8_isE_2 (fun H locs hw => ?_)
  obtain ⟨σ1, e2, hf⟩ := b_bnd hf
  rw [← e2] at hw
  refine w_X8_isE_5 X hE  lfu _ hf _ _ _ hw (lv_sub hl [0] rfl) (fun _ _ hq => ?_)
  cases hq
  rfl
abbrev rm_X8_isText : Room := { frames := 4, cells := 0, slots := 0, locals := 164 }
set_option maxHeartbeats 4000000 in
set_option maxRecDepth 100000 in
theorem w_X8_isText_6 {p : Program} {l : Launch} {e : Env} {s : State} {m : MethodId} {args : Array Value} {below : List Frame} {meth : Method} {c : Code} {Q : State → Prop} {E : en_T} (X : Cx E p s m args meth c cX8_isText 2 RX8 (some .boolean)) (hE : ShF E)   {res : (Int32 × sg_T) ⊕ (Int32 × sg_T)} :
    ∀ (n : Nat) (w1 : Int32) (σ : sg_T), itr (fun q => b_X8_isText_6  q.1 q.2) n (w1, σ) = some res → ∀ (H : Heap) (locs : List Loc) (ls : Array Slot), Hw E σ s H locs → lv_has ls 2 [(0, .ref (eP E 69)), (1, .int w1)] →
    (∀ (y1 : Int32) (τ : sg_T), res = .inl (y1, τ) → ∀ (H : Heap) (locs : List Loc) (ls : Array Slot), Hw E τ s H locs → lv_has ls 2 [(0, .ref (eP E 69)), (1, .int y1)] → W p l e rm_X8_isText s m args below meth c H locs 0 0 Q (F0 m 73 ls [])) →
    (∀ (r : Int32) (σ' : sg_T), res = .inr (r, σ') → Q = MQ below (Qf E (some (.int r)) σ') args s 0 0 (en_A E)) →
    W p l e rm_X8_isText s m args below meth c H locs 0 0 Q (F0 m 6 ls []) := by
  have hR : ShR E := hE.r
  intro n
  induction n with
  | zero =>
    intro w1 σ hf0
    exact (itr_0 hf0).elim
  | succ n ih =>
    intro w1 σ hf0 H locs ls hw hl K1 K2
    obtain ⟨r0, hf, hr1, hr2⟩ := itr_s hf0
    have hf : b_X8_isText_6  w1 σ = some r0 := hf
    unfold b_X8_isText_6 at hf
    refine lv_iload_n X.1 X.2.1 dX8_isText_6 rfl (lv_at hl 1 rfl) ?_
    refine lv_iconst (v := 3) X.1 X.2.1 dX8_isText_7 (by decide) ?_
    refine lv_icmp_ge (tgt := 73) X.1 X.2.1 dX8_isText_8 (by decide) (fun c3 => ?_) (fun c3 => ?_)
    · have hf := if_t hf c3
      obtain rfl := Option.some.inj hf
      obtain rfl := hr2 _ rfl
      exact K1 _ _ rfl _ _ _ hw (lv_sub hl [0, 1] rfl)
    · have hf := if_e hf c3
      refine lv_aload_n X.1 X.2.1 dX8_isText_11 rfl (lv_at hl 0 rfl) ?_
      obtain ⟨r5, h4, hf⟩ := b_bd1 hf
      refine r_callV X hw (k_X8_word hE  h4) (sp69 hE) (C := RX8) (T := TX8) (N := 31) rfl qw1068 qw1070 qw44 qw79 qw1071 okX8_word ⟨rfl, rfl⟩ ⟨(Nat.le_of_ble_eq_true rfl), (Nat.le_of_ble_eq_true rfl)⟩ ⟨Nat.zero_le _, Nat.zero_le _⟩ rfl hl.1 (rest := []) rfl (Nat.le_of_ble_eq_true rfl) dX8_isText_12 (st1 := [.int r5]) rfl (fun H locs hw => ?_)
      refine lv_bipush (v := 6) X.1 X.2.1 dX8_isText_15 (by decide) ?_
      refine lv_iload_n X.1 X.2.1 dX8_isText_17 rfl (lv_at hl 1 rfl) ?_
      refine lv_iadd X.1 X.2.1 dX8_isText_18 ?_
      refine lv_icmp_eq (tgt := 24) X.1 X.2.1 dX8_isText_19 (by decide) (fun c6 => ?_) (fun c6 => ?_)
      · have hf := if_t hf c6
        refine lv_aload_n X.1 X.2.1 dX8_isText_24 rfl (lv_at hl 0 rfl) ?_
        obtain ⟨σ8, h7, hf⟩ := b_bd1 hf
        refine r_callV X hw (k_X8_next hE  h7) (sp69 hE) (C := RX8) (T := TX8) (N := 31) rfl qw1060 qw1062 qw42 qw79 qw1063 okX8_next ⟨rfl, rfl⟩ ⟨(Nat.le_of_ble_eq_true rfl), (Nat.le_of_ble_eq_true rfl)⟩ ⟨Nat.zero_le _, Nat.zero_le _⟩ rfl hl.1 (rest := []) rfl (Nat.le_of_ble_eq_true rfl) dX8_isText_25 (st1 := []) rfl (fun H locs hw => ?_)
        refine lv_aload_n X.1 X.2.1 dX8_isText_28 rfl (lv_at hl 0 rfl) ?_
        obtain ⟨r10, σ11, h9, hf⟩ := b_bd2 hf
        refine r_callV X hw (k_X8_isE hE  h9) (sp69 hE) (C := RX8) (T := TX8) (N := 31) rfl qw1072 qw1074 qw45 qw79 qw1075 okX8_isE ⟨rfl, rfl⟩ ⟨(Nat.le_of_ble_eq_true rfl), (Nat.le_of_ble_eq_true rfl)⟩ ⟨Nat.zero_le _, Nat.zero_le _⟩ rfl hl.1 (rest := []) rfl (Nat.le_of_ble_eq_true rfl) dX8_isText_29 (st1 := [.int r10]) rfl (fun H locs hw => ?_)
        refine lv_if_eq (tgt := 44) X.1 X.2.1 dX8_isText_32 (by decide) (fun c12 => ?_) (fun c12 => ?_)
        · have hf := if_t hf c12
          refine lv_iconst (v := 0) X.1 X.2.1 dX8_isText_44 (by decide) ?_
          obtain rfl := Option.some.inj hf
          obtain rfl := hr2 _ rfl
          rw [K2 _ _ rfl]
          exact r_zret X hw (by decide) dX8_isText_45
        · have hf := if_e hf c12
          refine lv_aload_n X.1 X.2.1 dX8_isText_35 rfl (lv_at hl 0 rfl) ?_
          refine lv_bipush (v := 59) X.1 X.2.1 dX8_isText_36 (by decide) ?_
          obtain ⟨r14, h13, hf⟩ := b_bd1 hf
          refine r_callV X hw (k_X8_isSign hE  h13) (sp69 hE) (C := RX8) (T := TX8) (N := 31) rfl qw1088 qw1090 qw49 qw79 qw1091 okX8_isSign ⟨rfl, rfl⟩ ⟨(Nat.le_of_ble_eq_true rfl), (Nat.le_of_ble_eq_true rfl)⟩ ⟨Nat.zero_le _, Nat.zero_le _⟩ rfl hl.1 (rest := []) rfl (Nat.le_of_ble_eq_true rfl) dX8_isText_38 (st1 := [.int r14]) rfl (fun H locs hw => ?_)
          refine lv_if_ne (tgt := 46) X.1 X.2.1 dX8_isText_41 (by decide) (fun c15 => ?_) (fun c15 => ?_)
          · have hf := if_e hf c15
            refine lv_aload_n X.1 X.2.1 dX8_isText_46 rfl (lv_at hl 0 rfl) ?_
            refine r_get X hw (sp69 hE) (C := RX8) (T := TX8) (N := 31) rfl iwX8 12 (by decide) (Nat.le_of_ble_eq_true rfl) qw878 (v := .ref (eP E 76)) rfl dX8_isText_47 ?_
            refine lv_iconst (v := 3) X.1 X.2.1 dX8_isText_50 (by decide) ?_
            refine lv_aload_n X.1 X.2.1 dX8_isText_51 rfl (lv_at hl 0 rfl) ?_
            refine r_get X hw (sp69 hE) (C := RX8) (T := TX8) (N := 31) rfl iwX8 13 (by decide) (Nat.le_of_ble_eq_true rfl) qw879 (v := .int (σ11 69 13)) rfl dX8_isText_52 ?_
            refine lv_imul X.1 X.2.1 dX8_isText_55 ?_
            refine lv_iload_n X.1 X.2.1 dX8_isText_56 rfl (lv_at hl 1 rfl) ?_
            refine lv_iadd X.1 X.2.1 dX8_isText_57 ?_
            refine lv_aload_n X.1 X.2.1 dX8_isText_58 rfl (lv_at hl 0 rfl) ?_
            refine r_get X hw (sp69 hE) (C := RX8) (T := TX8) (N := 31) rfl iwX8 14 (by decide) (Nat.le_of_ble_eq_true rfl) qw880 (v := .int (σ11 69 14)) rfl dX8_isText_59 ?_
            obtain ⟨h16, hf⟩ := b_ck hf
            refine r_iast X hw (sp76 hE) h16 dX8_isText_62 (fun H locs hw => ?_)
            obtain ⟨σ17, e18, hf⟩ := b_bnd hf
            rw [← e18] at hw
            refine lv_aload_n X.1 X.2.1 dX8_isText_63 rfl (lv_at hl 0 rfl) ?_
            obtain ⟨σ20, h19, hf⟩ := b_bd1 hf
            refine r_callV X hw (k_X8_next hE  h19) (sp69 hE) (C := RX8) (T := TX8) (N := 31) rfl qw1060 qw1062 qw42 qw79 qw1063 okX8_next ⟨rfl, rfl⟩ ⟨(Nat.le_of_ble_eq_true rfl), (Nat.le_of_ble_eq_true rfl)⟩ ⟨Nat.zero_le _, Nat.zero_le _⟩ rfl hl.1 (rest := []) rfl (Nat.le_of_ble_eq_true rfl) dX8_isText_64 (st1 := []) rfl (fun H locs hw => ?_)
            obtain ⟨v21, e22, hf⟩ := b_bnd hf
            refine lv_iinc (v := v21) (k := 1) (lv' := [(1, .int v21), (0, .ref (eP E 69))]) X.1 X.2.1 dX8_isText_67 hl rfl (by rw [e22]; exact congrArg _ (by decide)) (by decide) rfl (fun ls hl => ?_)
            refine lv_goto (tgt := 6) X.1 X.2.1 dX8_isText_70 (by decide) ?_
            obtain rfl := Option.some.inj hf
            exact ih _ _ (hr1 _ rfl) _ _ _ hw (lv_sub hl [1, 0] rfl) K1 K2
          · have hf := if_t hf c15
            refine lv_iconst (v := 0) X.1 X.2.1 dX8_isText_44 (by decide) ?_
            obtain rfl := Option.some.inj hf
            obtain rfl := hr2 _ rfl
            rw [K2 _ _ rfl]
            exact r_zret X hw (by decide) dX8_isText_45
      · have hf := if_e hf c6
        refine lv_iconst (v := 0) X.1 X.2.1 dX8_isText_22 (by decide) ?_
        obtain rfl := Option.some.inj hf
        obtain rfl := hr2 _ rfl
        rw [K2 _ _ rfl]
        exact r_zret X hw (by decide) dX8_isText_23
set_option maxHeartbeats 4000000 in
set_option maxRecDepth 100000 in
theorem k_X8_isText {l : Launch} {E : en_T} (hE : ShF E)  {σ : sg_T} {r : Int32} {σ' : sg_T} (hf : f_X8_isText  σ = some (r, σ')) : Ct l yX8_isText cX8_isText 2 (some .boolean) rm_X8_isText E [.ref (eP E 69)] σ (some (.int r)) σ' := by
  refine Ct.start (by decide) hE.1 (Nat.le_of_ble_eq_true rfl) ?_
  intro p e s m below meth c X hw ls hl
  have X : Cx E p s m _ meth c cX8_isText 2 RX8 (some .boolean) := X
  have hR : ShR E := hE.r
  have hl : lv_has ls 2 [(0, .ref (eP E 69))] := hl
  unfold f_X8_isText at hf
  refine lv_aload_n X.1 X.2.1 dX8_isText_0 rfl (lv_at hl 0 rfl) ?_
  obtain ⟨σ2, h1, hf⟩ := b_bd1 hf
  refine r_callV X hw (k_X8_next hE  h1) (sp69 hE) (C := RX8) (T := TX8) (N := 31) rfl qw1060 qw1062 qw42 qw79 qw1063 okX8_next ⟨rfl, rfl⟩ ⟨(Nat.le_of_ble_eq_true rfl), (Nat.le_of_ble_eq_true rfl)⟩ ⟨Nat.zero_le _, Nat.zero_le _⟩ rfl hl.1 (rest := []) rfl (Nat.le_of_ble_eq_true rfl) dX8_isText_1 (st1 := []) rfl (fun H locs hw => ?_)
  refine lv_iconst (v := 0) X.1 X.2.1 dX8_isText_4 (by decide) ?_
  refine lv_istore_n (lv' := [(1, .int 0), (0, .ref (eP E 69))]) X.1 X.2.1 dX8_isText_5 rfl hl (by decide) rfl (fun ls hl => ?_)
  obtain ⟨r26, h23, hf⟩ := b_bs hf
  rcases hf with ⟨⟨v24, σ25⟩, rfl, hf⟩ | ⟨⟨r27, σ28⟩, rfl, hf⟩
  · refine w_X8_isText_6 X hE  lfu _ _ h23 _ _ _ hw (lv_sub hl [1, 0] rfl) (fun yv24 yσ25 hq H locs ls hw hl => ?_) (fun _ _ hq => by cases hq)
    cases hq
    dsimp only at hf
    refine lv_aload_n X.1 X.2.1 dX8_isText_73 rfl (lv_at hl 0 rfl) ?_
    refine r_get X hw (sp69 hE) (C := RX8) (T := TX8) (N := 31) rfl iwX8 9 (by decide) (Nat.le_of_ble_eq_true rfl) qw875 (v := .int (σ25 69 9)) rfl dX8_isText_74 ?_
    obtain ⟨v30, e31, hf⟩ := b_bnd hf
    refine r_join (g2 := F0 m 85 ls [.int v30]) ?_ (fun hj => ?_)
    · obtain ⟨h32, hf⟩ := b_cz hf
      obtain ⟨rfl, rfl⟩ := Prod.mk.inj (Option.some.inj hf)
      exact r_zret X hw (cz_and h32) dX8_isText_85
    · refine lv_if_ne (tgt := 84) X.1 X.2.1 dX8_isText_77 (by decide) (fun c29 => ?_) (fun c29 => ?_)
      · rw [e31, if_neg c29] at hj
        refine lv_iconst (v := 0) X.1 X.2.1 dX8_isText_84 (by decide) ?_
        exact hj
      · rw [e31, if_pos c29] at hj
        refine lv_iconst (v := 1) X.1 X.2.1 dX8_isText_80 (by decide) ?_
        refine lv_goto (tgt := 85) X.1 X.2.1 dX8_isText_81 (by decide) ?_
        exact hj
  · refine w_X8_isText_6 X hE  lfu _ _ h23 _ _ _ hw (lv_sub hl [1, 0] rfl) (fun _ _ hq => by cases hq) (fun _ _ hq => ?_)
    cases hq
    cases hf
    rfl
abbrev rm_X8_text : Room := { frames := 5, cells := 0, slots := 0, locals := 185 }
set_option maxHeartbeats 4000000 in
set_option maxRecDepth 100000 in
theorem k_X8_text {l : Launch} {E : en_T} (hE : ShF E)  {σ : sg_T} {r : Int32} {σ' : sg_T} (hf : f_X8_text  σ = some (r, σ')) : Ct l yX8_text cX8_text 2 (some .int) rm_X8_text E [.ref (eP E 69)] σ (some (.int r)) σ' := by
  refine Ct.start (by decide) hE.1 (Nat.le_of_ble_eq_true rfl) ?_
  intro p e s m below meth c X hw ls hl
  have X : Cx E p s m _ meth c cX8_text 2 RX8 (some .int) := X
  have hR : ShR E := hE.r
  have hl : lv_has ls 2 [(0, .ref (eP E 69))] := hl
  unfold f_X8_text at hf
  refine lv_aload_n X.1 X.2.1 dX8_text_0 rfl (lv_at hl 0 rfl) ?_
  refine r_get X hw (sp69 hE) (C := RX8) (T := TX8) (N := 31) rfl iwX8 13 (by decide) (Nat.le_of_ble_eq_true rfl) qw879 (v := .int (σ 69 13)) rfl dX8_text_1 ?_
  refine lv_bipush (v := 6) X.1 X.2.1 dX8_text_4 (by decide) ?_
  refine lv_icmp_ne (tgt := 12) X.1 X.2.1 dX8_text_6 (by decide) (fun c1 => ?_) (fun c1 => ?_)
  · have hf := if_e hf c1
    refine lv_aload_n X.1 X.2.1 dX8_text_12 rfl (lv_at hl 0 rfl) ?_
    refine lv_iconst (v := 0) X.1 X.2.1 dX8_text_13 (by decide) ?_
    refine r_put X hw (sp69 hE) (C := RX8) (T := TX8) (N := 31) rfl iwX8 tyX8 tyX8_ok nmX8 7 (by decide) (Nat.le_of_ble_eq_true rfl) qw873 rfl (v := .int 0) rfl rfl (x := 0) rfl dX8_text_14 (fun H locs hw => ?_)
    obtain ⟨σ2, e3, hf⟩ := b_bnd hf
    rw [← e3] at hw
    refine lv_aload_n X.1 X.2.1 dX8_text_17 rfl (lv_at hl 0 rfl) ?_
    refine lv_iconst (v := 0) X.1 X.2.1 dX8_text_18 (by decide) ?_
    refine r_put X hw (sp69 hE) (C := RX8) (T := TX8) (N := 31) rfl iwX8 tyX8 tyX8_ok nmX8 10 (by decide) (Nat.le_of_ble_eq_true rfl) qw876 rfl (v := .int 0) rfl rfl (x := 0) rfl dX8_text_19 (fun H locs hw => ?_)
    obtain ⟨σ4, e5, hf⟩ := b_bnd hf
    rw [← e5] at hw
    refine lv_aload_n X.1 X.2.1 dX8_text_22 rfl (lv_at hl 0 rfl) ?_
    refine lv_iconst (v := 0) X.1 X.2.1 dX8_text_23 (by decide) ?_
    refine r_put X hw (sp69 hE) (C := RX8) (T := TX8) (N := 31) rfl iwX8 tyX8 tyX8_ok nmX8 14 (by decide) (Nat.le_of_ble_eq_true rfl) qw880 rfl (v := .int 0) rfl rfl (x := 0) rfl dX8_text_24 (fun H locs hw => ?_)
    obtain ⟨σ6, e7, hf⟩ := b_bnd hf
    rw [← e7] at hw
    refine lv_aload_n X.1 X.2.1 dX8_text_27 rfl (lv_at hl 0 rfl) ?_
    obtain ⟨r9, σ10, h8, hf⟩ := b_bd2 hf
    refine r_callV X hw (k_X8_isText hE  h8) (sp69 hE) (C := RX8) (T := TX8) (N := 31) rfl qw1056 qw1058 qw41 qw79 qw1059 okX8_isText ⟨rfl, rfl⟩ ⟨(Nat.le_of_ble_eq_true rfl), (Nat.le_of_ble_eq_true rfl)⟩ ⟨Nat.zero_le _, Nat.zero_le _⟩ rfl hl.1 (rest := []) rfl (Nat.le_of_ble_eq_true rfl) dX8_text_28 (st1 := [.int r9]) rfl (fun H locs hw => ?_)
    refine lv_istore_n (lv' := [(1, .int r9), (0, .ref (eP E 69))]) X.1 X.2.1 dX8_text_31 rfl hl (by decide) rfl (fun ls hl => ?_)
    refine lv_aload_n X.1 X.2.1 dX8_text_32 rfl (lv_at hl 1 rfl) ?_
    refine lv_iconst (v := 0) X.1 X.2.1 dX8_text_33 (by decide) ?_
    refine r_put X hw (sp69 hE) (C := RX8) (T := TX8) (N := 31) rfl iwX8 tyX8 tyX8_ok nmX8 6 (by decide) (Nat.le_of_ble_eq_true rfl) qw872 rfl (v := .int 0) rfl rfl (x := 0) rfl dX8_text_34 (fun H locs hw => ?_)
    obtain ⟨σ11, e12, hf⟩ := b_bnd hf
    rw [← e12] at hw
    refine lv_iload_n X.1 X.2.1 dX8_text_37 rfl (lv_at hl 0 rfl) ?_
    refine lv_if_ne (tgt := 49) X.1 X.2.1 dX8_text_38 (by decide) (fun c13 => ?_) (fun c13 => ?_)
    · have hf := if_e hf c13
      refine lv_aload_n X.1 X.2.1 dX8_text_49 rfl (lv_at hl 1 rfl) ?_
      refine lv_dup X.1 X.2.1 dX8_text_50 rfl ?_
      refine r_get X hw (sp69 hE) (C := RX8) (T := TX8) (N := 31) rfl iwX8 13 (by decide) (Nat.le_of_ble_eq_true rfl) qw879 (v := .int (σ11 69 13)) rfl dX8_text_51 ?_
      refine lv_iconst (v := 1) X.1 X.2.1 dX8_text_54 (by decide) ?_
      refine lv_iadd X.1 X.2.1 dX8_text_55 ?_
      refine r_put X hw (sp69 hE) (C := RX8) (T := TX8) (N := 31) rfl iwX8 tyX8 tyX8_ok nmX8 13 (by decide) (Nat.le_of_ble_eq_true rfl) qw879 rfl (v := .int ((σ11 69 13) + 1)) rfl rfl (x := ((σ11 69 13) + 1)) rfl dX8_text_56 (fun H locs hw => ?_)
      obtain ⟨σ14, e15, hf⟩ := b_bnd hf
      rw [← e15] at hw
      refine lv_aload_n X.1 X.2.1 dX8_text_59 rfl (lv_at hl 1 rfl) ?_
      refine r_get X hw (sp69 hE) (C := RX8) (T := TX8) (N := 31) rfl iwX8 13 (by decide) (Nat.le_of_ble_eq_true rfl) qw879 (v := .int (σ14 69 13)) rfl dX8_text_60 ?_
      refine lv_iconst (v := 1) X.1 X.2.1 dX8_text_63 (by decide) ?_
      refine lv_isub X.1 X.2.1 dX8_text_64 ?_
      obtain ⟨rfl, rfl⟩ := Prod.mk.inj (Option.some.inj hf)
      exact r_iret X hw dX8_text_65
    · have hf := if_t hf c13
      refine lv_bipush (v := (-100)) X.1 X.2.1 dX8_text_41 (by decide) ?_
      refine lv_aload_n X.1 X.2.1 dX8_text_43 rfl (lv_at hl 1 rfl) ?_
      refine r_get X hw (sp69 hE) (C := RX8) (T := TX8) (N := 31) rfl iwX8 8 (by decide) (Nat.le_of_ble_eq_true rfl) qw874 (v := .int (σ11 69 8)) rfl dX8_text_44 ?_
      refine lv_isub X.1 X.2.1 dX8_text_47 ?_
      obtain ⟨rfl, rfl⟩ := Prod.mk.inj (Option.some.inj hf)
      exact r_iret X hw dX8_text_48
  · have hf := if_t hf c1
    refine lv_bipush (v := (-4)) X.1 X.2.1 dX8_text_9 (by decide) ?_
    obtain ⟨rfl, rfl⟩ := Prod.mk.inj (Option.some.inj hf)
    exact r_iret X hw dX8_text_11
abbrev rm_X8_force : Room := { frames := 1, cells := 0, slots := 0, locals := 100 }
set_option maxHeartbeats 4000000 in
set_option maxRecDepth 100000 in
theorem k_X8_force {l : Launch} {E : en_T} (hE : ShF E) {x1 : Int32} {σ : sg_T} {r : Int32} {σ' : sg_T} (hf : f_X8_force x1 σ = some (r, σ')) : Ct l yX8_force cX8_force 3 (some .int) rm_X8_force E [.ref (eP E 69), .int x1] σ (some (.int r)) σ' := by
  refine Ct.start (by decide) hE.1 (Nat.le_of_ble_eq_true rfl) ?_
  intro p e s m below meth c X hw ls hl
  have X : Cx E p s m _ meth c cX8_force 3 RX8 (some .int) := X
  have hR : ShR E := hE.r
  have hl : lv_has ls 3 [(0, .ref (eP E 69)), (1, .int x1)] := hl
  unfold f_X8_force at hf
  refine lv_iload_n X.1 X.2.1 dX8_force_0 rfl (lv_at hl 1 rfl) ?_
  refine lv_iconst (v := 0) X.1 X.2.1 dX8_force_1 (by decide) ?_
  refine lv_aload_n X.1 X.2.1 dX8_force_2 rfl (lv_at hl 0 rfl) ?_
  refine r_get X hw (sp69 hE) (C := RX8) (T := TX8) (N := 31) rfl iwX8 13 (by decide) (Nat.le_of_ble_eq_true rfl) qw879 (v := .int (σ 69 13)) rfl dX8_force_3 ?_
  refine lv_iconst (v := 1) X.1 X.2.1 dX8_force_6 (by decide) ?_
  refine lv_isub X.1 X.2.1 dX8_force_7 ?_
  obtain ⟨r2, h1, hf⟩ := b_bd1 hf
  refine r_callS X hw (k_X8_isIn hE  h1) qw966 qw967 qw79 qw968 okX8_isIn ⟨rfl, rfl⟩ ⟨(Nat.le_of_ble_eq_true rfl), (Nat.le_of_ble_eq_true rfl)⟩ ⟨Nat.zero_le _, Nat.zero_le _⟩ rfl hl.1 (rest := []) rfl (Nat.le_of_ble_eq_true rfl) dX8_force_8 (st1 := [.int r2]) rfl (fun H locs hw => ?_)
  refine lv_if_ne (tgt := 17) X.1 X.2.1 dX8_force_11 (by decide) (fun c3 => ?_) (fun c3 => ?_)
  · have hf := if_e hf c3
    refine lv_aload_n X.1 X.2.1 dX8_force_17 rfl (lv_at hl 0 rfl) ?_
    refine r_get X hw (sp69 hE) (C := RX8) (T := TX8) (N := 31) rfl iwX8 0 (by decide) (Nat.le_of_ble_eq_true rfl) qw866 (v := .ref (eP E 70)) rfl dX8_force_18 ?_
    refine lv_bipush (v := 57) X.1 X.2.1 dX8_force_21 (by decide) ?_
    obtain ⟨h4, hf⟩ := b_ck hf
    refine r_iald X hw (sp70 hE) h4 dX8_force_23 ?_
    refine r_bnd hf (fun v5 hf => ?_)
    refine lv_istore_n (lv' := [(2, .int v5), (0, .ref (eP E 69)), (1, .int x1)]) X.1 X.2.1 dX8_force_24 rfl hl (by decide) rfl (fun ls hl => ?_)
    refine lv_aload_n X.1 X.2.1 dX8_force_25 rfl (lv_at hl 1 rfl) ?_
    refine r_get X hw (sp69 hE) (C := RX8) (T := TX8) (N := 31) rfl iwX8 0 (by decide) (Nat.le_of_ble_eq_true rfl) qw866 (v := .ref (eP E 70)) rfl dX8_force_26 ?_
    refine lv_bipush (v := 57) X.1 X.2.1 dX8_force_29 (by decide) ?_
    refine lv_iload_n X.1 X.2.1 dX8_force_31 rfl (lv_at hl 2 rfl) ?_
    obtain ⟨h6, hf⟩ := b_ck hf
    refine r_iast X hw (sp70 hE) h6 dX8_force_32 (fun H locs hw => ?_)
    obtain ⟨σ7, e8, hf⟩ := b_bnd hf
    rw [← e8] at hw
    refine lv_iload_n X.1 X.2.1 dX8_force_33 rfl (lv_at hl 0 rfl) ?_
    obtain ⟨rfl, rfl⟩ := Prod.mk.inj (Option.some.inj hf)
    exact r_iret X hw dX8_force_34
  · have hf := if_t hf c3
    refine lv_bipush (v := (-2)) X.1 X.2.1 dX8_force_14 (by decide) ?_
    obtain ⟨rfl, rfl⟩ := Prod.mk.inj (Option.some.inj hf)
    exact r_iret X hw dX8_force_16
abbrev rm_X8_goDay : Room := { frames := 6, cells := 0, slots := 0, locals := 218 }
set_option maxHeartbeats 4000000 in
set_option maxRecDepth 100000 in
theorem w_X8_goDay_4 {p : Program} {l : Launch} {e : Env} {s : State} {m : MethodId} {args : Array Value} {below : List Frame} {meth : Method} {c : Code} {Q : State → Prop} {E : en_T} (X : Cx E p s m args meth c cX8_goDay 3 RX8 (some .int)) (hE : ShF E)   {res : Int32 × sg_T} :
    ∀ (n : Nat) (w2 : Int32) (σ : sg_T), itr (fun q => b_X8_goDay_4  q.1 q.2) n (w2, σ) = some res → ∀ (H : Heap) (locs : List Loc) (ls : Array Slot), Hw E σ s H locs → lv_has ls 3 [(0, .ref (eP E 69)), (1, .int 0), (2, .int w2)] →
    (∀ (y2 : Int32) (τ : sg_T), res = (y2, τ) → ∀ (H : Heap) (locs : List Loc) (ls : Array Slot), Hw E τ s H locs → lv_has ls 3 [(0, .ref (eP E 69)), (1, .int 0), (2, .int y2)] → W p l e rm_X8_goDay s m args below meth c H locs 0 0 Q (F0 m 115 ls [])) →
    W p l e rm_X8_goDay s m args below meth c H locs 0 0 Q (F0 m 4 ls []) := by
  have hR : ShR E := hE.r
  intro n
  induction n with
  | zero =>
    intro w2 σ hf0
    exact (itr_0 hf0).elim
  | succ n ih =>
    intro w2 σ hf0 H locs ls hw hl K1
    obtain ⟨r0, hf, hr1, hr2⟩ := itr_s hf0
    have hf : b_X8_goDay_4  w2 σ = some r0 := hf
    unfold b_X8_goDay_4 at hf
    refine lv_iload_n X.1 X.2.1 dX8_goDay_4 rfl (lv_at hl 2 rfl) ?_
    refine lv_aload_n X.1 X.2.1 dX8_goDay_5 rfl (lv_at hl 0 rfl) ?_
    obtain ⟨r2, h1, hf⟩ := b_bd1 hf
    refine r_callV X hw (k_X8_many hE  h1) (sp69 hE) (C := RX8) (T := TX8) (N := 31) rfl qw985 qw987 qw31 qw79 qw988 okX8_many ⟨rfl, rfl⟩ ⟨(Nat.le_of_ble_eq_true rfl), (Nat.le_of_ble_eq_true rfl)⟩ ⟨Nat.zero_le _, Nat.zero_le _⟩ rfl hl.1 (rest := [.int w2]) rfl (Nat.le_of_ble_eq_true rfl) dX8_goDay_6 (st1 := [.int r2, .int w2]) rfl (fun H locs hw => ?_)
    refine lv_icmp_ge (tgt := 115) X.1 X.2.1 dX8_goDay_9 (by decide) (fun c3 => ?_) (fun c3 => ?_)
    · have hf := if_t hf c3
      obtain rfl := Option.some.inj hf
      obtain rfl := hr2 _ rfl
      exact K1 _ _ rfl _ _ _ hw (lv_sub hl [0, 1, 2] rfl)
    · have hf := if_e hf c3
      refine lv_aload_n X.1 X.2.1 dX8_goDay_12 rfl (lv_at hl 0 rfl) ?_
      refine r_get X hw (sp69 hE) (C := RX8) (T := TX8) (N := 31) rfl iwX8 19 (by decide) (Nat.le_of_ble_eq_true rfl) qw885 (v := .ref (eP E 80)) rfl dX8_goDay_13 ?_
      refine lv_iload_n X.1 X.2.1 dX8_goDay_16 rfl (lv_at hl 2 rfl) ?_
      refine lv_aload_n X.1 X.2.1 dX8_goDay_17 rfl (lv_at hl 0 rfl) ?_
      refine lv_iload_n X.1 X.2.1 dX8_goDay_18 rfl (lv_at hl 2 rfl) ?_
      obtain ⟨r5, h4, hf⟩ := b_bd1 hf
      refine r_callV X hw (k_X8_setter hE  h4) (sp69 hE) (C := RX8) (T := TX8) (N := 31) rfl qw1001 qw1003 qw34 qw79 qw1004 okX8_setter ⟨rfl, rfl⟩ ⟨(Nat.le_of_ble_eq_true rfl), (Nat.le_of_ble_eq_true rfl)⟩ ⟨Nat.zero_le _, Nat.zero_le _⟩ rfl hl.1 (rest := [.int w2, .ref (eP E 80)]) rfl (Nat.le_of_ble_eq_true rfl) dX8_goDay_19 (st1 := [.int r5, .int w2, .ref (eP E 80)]) rfl (fun H locs hw => ?_)
      obtain ⟨h6, hf⟩ := b_ck hf
      refine r_iast X hw (sp80 hE) h6 dX8_goDay_22 (fun H locs hw => ?_)
      obtain ⟨σ7, e8, hf⟩ := b_bnd hf
      rw [← e8] at hw
      refine lv_aload_n X.1 X.2.1 dX8_goDay_23 rfl (lv_at hl 0 rfl) ?_
      refine r_get X hw (sp69 hE) (C := RX8) (T := TX8) (N := 31) rfl iwX8 20 (by decide) (Nat.le_of_ble_eq_true rfl) qw886 (v := .ref (eP E 81)) rfl dX8_goDay_24 ?_
      refine lv_iload_n X.1 X.2.1 dX8_goDay_27 rfl (lv_at hl 2 rfl) ?_
      refine lv_aload_n X.1 X.2.1 dX8_goDay_28 rfl (lv_at hl 0 rfl) ?_
      refine lv_iload_n X.1 X.2.1 dX8_goDay_29 rfl (lv_at hl 2 rfl) ?_
      obtain ⟨r10, σ11, h9, hf⟩ := b_bd2 hf
      refine r_callV X hw (k_X8_lateBy hE  h9) (sp69 hE) (C := RX8) (T := TX8) (N := 31) rfl qw1028 qw1030 qw38 qw79 qw1031 okX8_lateBy ⟨rfl, rfl⟩ ⟨(Nat.le_of_ble_eq_true rfl), (Nat.le_of_ble_eq_true rfl)⟩ ⟨Nat.zero_le _, Nat.zero_le _⟩ rfl hl.1 (rest := [.int w2, .ref (eP E 81)]) rfl (Nat.le_of_ble_eq_true rfl) dX8_goDay_30 (st1 := [.int r10, .int w2, .ref (eP E 81)]) rfl (fun H locs hw => ?_)
      obtain ⟨h12, hf⟩ := b_ck hf
      refine r_iast X hw (sp81 hE) h12 dX8_goDay_33 (fun H locs hw => ?_)
      obtain ⟨σ13, e14, hf⟩ := b_bnd hf
      rw [← e14] at hw
      refine lv_aload_n X.1 X.2.1 dX8_goDay_34 rfl (lv_at hl 0 rfl) ?_
      refine r_get X hw (sp69 hE) (C := RX8) (T := TX8) (N := 31) rfl iwX8 21 (by decide) (Nat.le_of_ble_eq_true rfl) qw887 (v := .ref (eP E 82)) rfl dX8_goDay_35 ?_
      refine lv_iload_n X.1 X.2.1 dX8_goDay_38 rfl (lv_at hl 2 rfl) ?_
      refine lv_aload_n X.1 X.2.1 dX8_goDay_39 rfl (lv_at hl 0 rfl) ?_
      refine r_get X hw (sp69 hE) (C := RX8) (T := TX8) (N := 31) rfl iwX8 19 (by decide) (Nat.le_of_ble_eq_true rfl) qw885 (v := .ref (eP E 80)) rfl dX8_goDay_40 ?_
      refine lv_iload_n X.1 X.2.1 dX8_goDay_43 rfl (lv_at hl 2 rfl) ?_
      obtain ⟨h15, hf⟩ := b_ck hf
      refine r_iald X hw (sp80 hE) h15 dX8_goDay_44 ?_
      refine lv_iconst (v := (-1)) X.1 X.2.1 dX8_goDay_45 (by decide) ?_
      refine lv_icmp_ne (tgt := 53) X.1 X.2.1 dX8_goDay_46 (by decide) (fun c16 => ?_) (fun c16 => ?_)
      · have hf := if_e hf c16
        refine lv_aload_n X.1 X.2.1 dX8_goDay_53 rfl (lv_at hl 0 rfl) ?_
        refine lv_iload_n X.1 X.2.1 dX8_goDay_54 rfl (lv_at hl 2 rfl) ?_
        refine lv_aload_n X.1 X.2.1 dX8_goDay_55 rfl (lv_at hl 0 rfl) ?_
        refine lv_iload_n X.1 X.2.1 dX8_goDay_56 rfl (lv_at hl 2 rfl) ?_
        obtain ⟨r18, σ19, h17, hf⟩ := b_bd2 hf
        refine r_callV X hw (k_X8_wakes hE  h17) (sp69 hE) (C := RX8) (T := TX8) (N := 31) rfl qw1005 qw1007 qw35 qw79 qw1008 okX8_wakes ⟨rfl, rfl⟩ ⟨(Nat.le_of_ble_eq_true rfl), (Nat.le_of_ble_eq_true rfl)⟩ ⟨Nat.zero_le _, Nat.zero_le _⟩ rfl hl.1 (rest := [.int w2, .ref (eP E 69), .int w2, .ref (eP E 82)]) rfl (Nat.le_of_ble_eq_true rfl) dX8_goDay_57 (st1 := [.int r18, .int w2, .ref (eP E 69), .int w2, .ref (eP E 82)]) rfl (fun H locs hw => ?_)
        obtain ⟨r21, σ22, h20, hf⟩ := b_bd2 hf
        refine r_callV X hw (k_X8_tires hE  h20) (sp69 hE) (C := RX8) (T := TX8) (N := 31) rfl qw1044 qw1046 qw40 qw79 qw1047 okX8_tires ⟨rfl, rfl⟩ ⟨(Nat.le_of_ble_eq_true rfl), (Nat.le_of_ble_eq_true rfl)⟩ ⟨Nat.zero_le _, Nat.zero_le _⟩ rfl hl.1 (rest := [.int w2, .ref (eP E 82)]) rfl (Nat.le_of_ble_eq_true rfl) dX8_goDay_60 (st1 := [.int r21, .int w2, .ref (eP E 82)]) rfl (fun H locs hw => ?_)
        obtain ⟨h23, hf⟩ := b_ck hf
        refine r_iast X hw (sp82 hE) h23 dX8_goDay_63 (fun H locs hw => ?_)
        obtain ⟨σ24, e25, hf⟩ := b_bnd hf
        rw [← e25] at hw
        refine lv_aload_n X.1 X.2.1 dX8_goDay_64 rfl (lv_at hl 0 rfl) ?_
        refine r_get X hw (sp69 hE) (C := RX8) (T := TX8) (N := 31) rfl iwX8 22 (by decide) (Nat.le_of_ble_eq_true rfl) qw888 (v := .ref (eP E 83)) rfl dX8_goDay_65 ?_
        refine lv_iload_n X.1 X.2.1 dX8_goDay_68 rfl (lv_at hl 2 rfl) ?_
        refine lv_aload_n X.1 X.2.1 dX8_goDay_69 rfl (lv_at hl 0 rfl) ?_
        refine r_get X hw (sp69 hE) (C := RX8) (T := TX8) (N := 31) rfl iwX8 19 (by decide) (Nat.le_of_ble_eq_true rfl) qw885 (v := .ref (eP E 80)) rfl dX8_goDay_70 ?_
        refine lv_iload_n X.1 X.2.1 dX8_goDay_73 rfl (lv_at hl 2 rfl) ?_
        obtain ⟨h26, hf⟩ := b_ck hf
        refine r_iald X hw (sp80 hE) h26 dX8_goDay_74 ?_
        refine lv_iconst (v := (-1)) X.1 X.2.1 dX8_goDay_75 (by decide) ?_
        refine lv_icmp_ne (tgt := 83) X.1 X.2.1 dX8_goDay_76 (by decide) (fun c27 => ?_) (fun c27 => ?_)
        · have hf := if_e hf c27
          refine lv_aload_n X.1 X.2.1 dX8_goDay_83 rfl (lv_at hl 0 rfl) ?_
          refine lv_aload_n X.1 X.2.1 dX8_goDay_84 rfl (lv_at hl 0 rfl) ?_
          refine r_get X hw (sp69 hE) (C := RX8) (T := TX8) (N := 31) rfl iwX8 19 (by decide) (Nat.le_of_ble_eq_true rfl) qw885 (v := .ref (eP E 80)) rfl dX8_goDay_85 ?_
          refine lv_iload_n X.1 X.2.1 dX8_goDay_88 rfl (lv_at hl 2 rfl) ?_
          obtain ⟨h28, hf⟩ := b_ck hf
          refine r_iald X hw (sp80 hE) h28 dX8_goDay_89 ?_
          refine lv_iload_n X.1 X.2.1 dX8_goDay_90 rfl (lv_at hl 2 rfl) ?_
          refine lv_aload_n X.1 X.2.1 dX8_goDay_91 rfl (lv_at hl 0 rfl) ?_
          refine r_get X hw (sp69 hE) (C := RX8) (T := TX8) (N := 31) rfl iwX8 20 (by decide) (Nat.le_of_ble_eq_true rfl) qw886 (v := .ref (eP E 81)) rfl dX8_goDay_92 ?_
          refine lv_iload_n X.1 X.2.1 dX8_goDay_95 rfl (lv_at hl 2 rfl) ?_
          obtain ⟨h29, hf⟩ := b_ck hf
          refine r_iald X hw (sp81 hE) h29 dX8_goDay_96 ?_
          obtain ⟨v31, e32, hf⟩ := b_bnd hf
          refine r_join (g2 := F0 m 105 ls [.int v31, .int w2, .int (σ24 80 w2.toNatClampNeg), .ref (eP E 69), .int w2, .ref (eP E 83)]) ?_ (fun hj => ?_)
          · obtain ⟨r34, σ35, h33, hf⟩ := b_bd2 hf
            refine r_callV X hw (k_X8_grows hE  h33) (sp69 hE) (C := RX8) (T := TX8) (N := 31) rfl qw1036 qw1038 qw39 qw79 qw1039 okX8_grows ⟨rfl, rfl⟩ ⟨(Nat.le_of_ble_eq_true rfl), (Nat.le_of_ble_eq_true rfl)⟩ ⟨Nat.zero_le _, Nat.zero_le _⟩ rfl hl.1 (rest := [.int w2, .ref (eP E 83)]) rfl (Nat.le_of_ble_eq_true rfl) dX8_goDay_105 (st1 := [.int r34, .int w2, .ref (eP E 83)]) rfl (fun H locs hw => ?_)
            obtain ⟨h36, hf⟩ := b_ck hf
            refine r_iast X hw (sp83 hE) h36 dX8_goDay_108 (fun H locs hw => ?_)
            obtain ⟨σ37, e38, hf⟩ := b_bnd hf
            rw [← e38] at hw
            obtain ⟨v39, e40, hf⟩ := b_bnd hf
            refine lv_iinc (v := v39) (k := 2) (lv' := [(2, .int v39), (0, .ref (eP E 69)), (1, .int 0)]) X.1 X.2.1 dX8_goDay_109 hl rfl (by rw [e40]; exact congrArg _ (by decide)) (by decide) rfl (fun ls hl => ?_)
            refine lv_goto (tgt := 4) X.1 X.2.1 dX8_goDay_112 (by decide) ?_
            obtain rfl := Option.some.inj hf
            exact ih _ _ (hr1 _ rfl) _ _ _ hw (lv_sub hl [1, 2, 0] rfl) K1
          · refine lv_if_le (tgt := 104) X.1 X.2.1 dX8_goDay_97 (by decide) (fun c30 => ?_) (fun c30 => ?_)
            · rw [e32, if_pos c30] at hj
              refine lv_iconst (v := 0) X.1 X.2.1 dX8_goDay_104 (by decide) ?_
              exact hj
            · rw [e32, if_neg c30] at hj
              refine lv_iconst (v := 1) X.1 X.2.1 dX8_goDay_100 (by decide) ?_
              refine lv_goto (tgt := 105) X.1 X.2.1 dX8_goDay_101 (by decide) ?_
              exact hj
        · have hf := if_t hf c27
          refine lv_iconst (v := 0) X.1 X.2.1 dX8_goDay_79 (by decide) ?_
          refine lv_goto (tgt := 108) X.1 X.2.1 dX8_goDay_80 (by decide) ?_
          obtain ⟨h41, hf⟩ := b_ck hf
          refine r_iast X hw (sp83 hE) h41 dX8_goDay_108 (fun H locs hw => ?_)
          obtain ⟨σ42, e43, hf⟩ := b_bnd hf
          rw [← e43] at hw
          obtain ⟨v44, e45, hf⟩ := b_bnd hf
          refine lv_iinc (v := v44) (k := 2) (lv' := [(2, .int v44), (0, .ref (eP E 69)), (1, .int 0)]) X.1 X.2.1 dX8_goDay_109 hl rfl (by rw [e45]; exact congrArg _ (by decide)) (by decide) rfl (fun ls hl => ?_)
          refine lv_goto (tgt := 4) X.1 X.2.1 dX8_goDay_112 (by decide) ?_
          obtain rfl := Option.some.inj hf
          exact ih _ _ (hr1 _ rfl) _ _ _ hw (lv_sub hl [1, 2, 0] rfl) K1
      · have hf := if_t hf c16
        refine lv_iconst (v := 0) X.1 X.2.1 dX8_goDay_49 (by decide) ?_
        refine lv_goto (tgt := 63) X.1 X.2.1 dX8_goDay_50 (by decide) ?_
        obtain ⟨h46, hf⟩ := b_ck hf
        refine r_iast X hw (sp82 hE) h46 dX8_goDay_63 (fun H locs hw => ?_)
        obtain ⟨σ47, e48, hf⟩ := b_bnd hf
        rw [← e48] at hw
        refine lv_aload_n X.1 X.2.1 dX8_goDay_64 rfl (lv_at hl 0 rfl) ?_
        refine r_get X hw (sp69 hE) (C := RX8) (T := TX8) (N := 31) rfl iwX8 22 (by decide) (Nat.le_of_ble_eq_true rfl) qw888 (v := .ref (eP E 83)) rfl dX8_goDay_65 ?_
        refine lv_iload_n X.1 X.2.1 dX8_goDay_68 rfl (lv_at hl 2 rfl) ?_
        refine lv_aload_n X.1 X.2.1 dX8_goDay_69 rfl (lv_at hl 0 rfl) ?_
        refine r_get X hw (sp69 hE) (C := RX8) (T := TX8) (N := 31) rfl iwX8 19 (by decide) (Nat.le_of_ble_eq_true rfl) qw885 (v := .ref (eP E 80)) rfl dX8_goDay_70 ?_
        refine lv_iload_n X.1 X.2.1 dX8_goDay_73 rfl (lv_at hl 2 rfl) ?_
        obtain ⟨h49, hf⟩ := b_ck hf
        refine r_iald X hw (sp80 hE) h49 dX8_goDay_74 ?_
        refine lv_iconst (v := (-1)) X.1 X.2.1 dX8_goDay_75 (by decide) ?_
        refine lv_icmp_ne (tgt := 83) X.1 X.2.1 dX8_goDay_76 (by decide) (fun c50 => ?_) (fun c50 => ?_)
        · have hf := if_e hf c50
          refine lv_aload_n X.1 X.2.1 dX8_goDay_83 rfl (lv_at hl 0 rfl) ?_
          refine lv_aload_n X.1 X.2.1 dX8_goDay_84 rfl (lv_at hl 0 rfl) ?_
          refine r_get X hw (sp69 hE) (C := RX8) (T := TX8) (N := 31) rfl iwX8 19 (by decide) (Nat.le_of_ble_eq_true rfl) qw885 (v := .ref (eP E 80)) rfl dX8_goDay_85 ?_
          refine lv_iload_n X.1 X.2.1 dX8_goDay_88 rfl (lv_at hl 2 rfl) ?_
          obtain ⟨h51, hf⟩ := b_ck hf
          refine r_iald X hw (sp80 hE) h51 dX8_goDay_89 ?_
          refine lv_iload_n X.1 X.2.1 dX8_goDay_90 rfl (lv_at hl 2 rfl) ?_
          refine lv_aload_n X.1 X.2.1 dX8_goDay_91 rfl (lv_at hl 0 rfl) ?_
          refine r_get X hw (sp69 hE) (C := RX8) (T := TX8) (N := 31) rfl iwX8 20 (by decide) (Nat.le_of_ble_eq_true rfl) qw886 (v := .ref (eP E 81)) rfl dX8_goDay_92 ?_
          refine lv_iload_n X.1 X.2.1 dX8_goDay_95 rfl (lv_at hl 2 rfl) ?_
          obtain ⟨h52, hf⟩ := b_ck hf
          refine r_iald X hw (sp81 hE) h52 dX8_goDay_96 ?_
          obtain ⟨v54, e55, hf⟩ := b_bnd hf
          refine r_join (g2 := F0 m 105 ls [.int v54, .int w2, .int (σ47 80 w2.toNatClampNeg), .ref (eP E 69), .int w2, .ref (eP E 83)]) ?_ (fun hj => ?_)
          · obtain ⟨r57, σ58, h56, hf⟩ := b_bd2 hf
            refine r_callV X hw (k_X8_grows hE  h56) (sp69 hE) (C := RX8) (T := TX8) (N := 31) rfl qw1036 qw1038 qw39 qw79 qw1039 okX8_grows ⟨rfl, rfl⟩ ⟨(Nat.le_of_ble_eq_true rfl), (Nat.le_of_ble_eq_true rfl)⟩ ⟨Nat.zero_le _, Nat.zero_le _⟩ rfl hl.1 (rest := [.int w2, .ref (eP E 83)]) rfl (Nat.le_of_ble_eq_true rfl) dX8_goDay_105 (st1 := [.int r57, .int w2, .ref (eP E 83)]) rfl (fun H locs hw => ?_)
            obtain ⟨h59, hf⟩ := b_ck hf
            refine r_iast X hw (sp83 hE) h59 dX8_goDay_108 (fun H locs hw => ?_)
            obtain ⟨σ60, e61, hf⟩ := b_bnd hf
            rw [← e61] at hw
            obtain ⟨v62, e63, hf⟩ := b_bnd hf
            refine lv_iinc (v := v62) (k := 2) (lv' := [(2, .int v62), (0, .ref (eP E 69)), (1, .int 0)]) X.1 X.2.1 dX8_goDay_109 hl rfl (by rw [e63]; exact congrArg _ (by decide)) (by decide) rfl (fun ls hl => ?_)
            refine lv_goto (tgt := 4) X.1 X.2.1 dX8_goDay_112 (by decide) ?_
            obtain rfl := Option.some.inj hf
            exact ih _ _ (hr1 _ rfl) _ _ _ hw (lv_sub hl [1, 2, 0] rfl) K1
          · refine lv_if_le (tgt := 104) X.1 X.2.1 dX8_goDay_97 (by decide) (fun c53 => ?_) (fun c53 => ?_)
            · rw [e55, if_pos c53] at hj
              refine lv_iconst (v := 0) X.1 X.2.1 dX8_goDay_104 (by decide) ?_
              exact hj
            · rw [e55, if_neg c53] at hj
              refine lv_iconst (v := 1) X.1 X.2.1 dX8_goDay_100 (by decide) ?_
              refine lv_goto (tgt := 105) X.1 X.2.1 dX8_goDay_101 (by decide) ?_
              exact hj
        · have hf := if_t hf c50
          refine lv_iconst (v := 0) X.1 X.2.1 dX8_goDay_79 (by decide) ?_
          refine lv_goto (tgt := 108) X.1 X.2.1 dX8_goDay_80 (by decide) ?_
          obtain ⟨h64, hf⟩ := b_ck hf
          refine r_iast X hw (sp83 hE) h64 dX8_goDay_108 (fun H locs hw => ?_)
          obtain ⟨σ65, e66, hf⟩ := b_bnd hf
          rw [← e66] at hw
          obtain ⟨v67, e68, hf⟩ := b_bnd hf
          refine lv_iinc (v := v67) (k := 2) (lv' := [(2, .int v67), (0, .ref (eP E 69)), (1, .int 0)]) X.1 X.2.1 dX8_goDay_109 hl rfl (by rw [e68]; exact congrArg _ (by decide)) (by decide) rfl (fun ls hl => ?_)
          refine lv_goto (tgt := 4) X.1 X.2.1 dX8_goDay_112 (by decide) ?_
          obtain rfl := Option.some.inj hf
          exact ih _ _ (hr1 _ rfl) _ _ _ hw (lv_sub hl [1, 2, 0] rfl) K1
