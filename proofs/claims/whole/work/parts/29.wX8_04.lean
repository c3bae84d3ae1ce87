abbrev rm_X8_cell : Room := { frames := 2, cells := 0, slots := 0, locals := 120 }
set_option maxHeartbeats 4000000 in
set_option maxRecDepth 100000 in
theorem k_X8_cell {l : Launch} {E : en_T} (hE : ShF E) {x1 : Int32} {x2 : Int32} {x3 : Int32} {σ : sg_T} {r : Int32} {σ' : sg_T} (hf : f_X8_cell x1 x2 x3 σ = some (r, σ')) : Ct l yX8_cell cX8_cell 4 (some .int) rm_X8_cell E [.ref (eP E 69), .int x1, .int x2, .int x3] σ (some (.int r)) σ' := by
  refine Ct.start (by decide) hE.1 (Nat.le_of_ble_eq_true rfl) ?_
  intro p e s m below meth c X hw ls hl
  have X : Cx E p s m _ meth c cX8_cell 4 RX8 (some .int) := X
  have hR : ShR E := hE.r
  have hl : lv_has ls 4 [(0, .ref (eP E 69)), (1, .int x1), (2, .int x2), (3, .int x3)] := hl
  unfold f_X8_cell at hf
  refine lv_iload_n X.1 X.2.1 dX8_cell_0 rfl (lv_at hl 1 rfl) ?_
  obtain ⟨r2, h1, hf⟩ := b_bd1 hf
  refine r_callS X hw (k_X8_isSheet hE  h1) qw1184 qw1185 qw79 qw1186 okX8_isSheet ⟨rfl, rfl⟩ ⟨(Nat.le_of_ble_eq_true rfl), (Nat.le_of_ble_eq_true rfl)⟩ ⟨Nat.zero_le _, Nat.zero_le _⟩ rfl hl.1 (rest := []) rfl (Nat.le_of_ble_eq_true rfl) dX8_cell_1 (st1 := [.int r2]) rfl (fun H locs hw => ?_)
  refine lv_if_ne (tgt := 10) X.1 X.2.1 dX8_cell_4 (by decide) (fun c3 => ?_) (fun c3 => ?_)
  · have hf := if_e hf c3
    refine lv_aload_n X.1 X.2.1 dX8_cell_10 rfl (lv_at hl 0 rfl) ?_
    refine r_get X hw (sp69 hE) (C := RX8) (T := TX8) (N := 31) rfl iwX8 25 (by decide) (Nat.le_of_ble_eq_true rfl) qw891 (v := .ref (eP E 84)) rfl dX8_cell_11 ?_
    refine lv_iload_n X.1 X.2.1 dX8_cell_14 rfl (lv_at hl 1 rfl) ?_
    obtain ⟨h4, hf⟩ := b_ck hf
    refine r_iald X hw (sp84 hE) h4 dX8_cell_15 ?_
    refine lv_iconst (v := (-1)) X.1 X.2.1 dX8_cell_16 (by decide) ?_
    refine lv_icmp_ne (tgt := 23) X.1 X.2.1 dX8_cell_17 (by decide) (fun c5 => ?_) (fun c5 => ?_)
    · have hf := if_e hf c5
      refine lv_iload_n X.1 X.2.1 dX8_cell_23 rfl (lv_at hl 2 rfl) ?_
      refine lv_iconst (v := 0) X.1 X.2.1 dX8_cell_24 (by decide) ?_
      refine lv_aload_n X.1 X.2.1 dX8_cell_25 rfl (lv_at hl 0 rfl) ?_
      refine r_get X hw (sp69 hE) (C := RX8) (T := TX8) (N := 31) rfl iwX8 26 (by decide) (Nat.le_of_ble_eq_true rfl) qw892 (v := .ref (eP E 85)) rfl dX8_cell_26 ?_
      refine lv_iload_n X.1 X.2.1 dX8_cell_29 rfl (lv_at hl 1 rfl) ?_
      obtain ⟨h6, hf⟩ := b_ck hf
      refine r_iald X hw (sp85 hE) h6 dX8_cell_30 ?_
      refine lv_iconst (v := 1) X.1 X.2.1 dX8_cell_31 (by decide) ?_
      refine lv_isub X.1 X.2.1 dX8_cell_32 ?_
      obtain ⟨r8, h7, hf⟩ := b_bd1 hf
      refine r_callS X hw (k_X8_isIn hE  h7) qw966 qw967 qw79 qw968 okX8_isIn ⟨rfl, rfl⟩ ⟨(Nat.le_of_ble_eq_true rfl), (Nat.le_of_ble_eq_true rfl)⟩ ⟨Nat.zero_le _, Nat.zero_le _⟩ rfl hl.1 (rest := []) rfl (Nat.le_of_ble_eq_true rfl) dX8_cell_33 (st1 := [.int r8]) rfl (fun H locs hw => ?_)
      refine lv_if_ne (tgt := 42) X.1 X.2.1 dX8_cell_36 (by decide) (fun c9 => ?_) (fun c9 => ?_)
      · have hf := if_e hf c9
        refine lv_aload_n X.1 X.2.1 dX8_cell_42 rfl (lv_at hl 0 rfl) ?_
        refine r_get X hw (sp69 hE) (C := RX8) (T := TX8) (N := 31) rfl iwX8 27 (by decide) (Nat.le_of_ble_eq_true rfl) qw893 (v := .ref (eP E 86)) rfl dX8_cell_43 ?_
        refine lv_bipush (v := 40) X.1 X.2.1 dX8_cell_46 (by decide) ?_
        refine lv_iload_n X.1 X.2.1 dX8_cell_48 rfl (lv_at hl 1 rfl) ?_
        refine lv_imul X.1 X.2.1 dX8_cell_49 ?_
        refine lv_iload_n X.1 X.2.1 dX8_cell_50 rfl (lv_at hl 2 rfl) ?_
        refine lv_iadd X.1 X.2.1 dX8_cell_51 ?_
        refine lv_aload_n X.1 X.2.1 dX8_cell_52 rfl (lv_at hl 0 rfl) ?_
        refine r_get X hw (sp69 hE) (C := RX8) (T := TX8) (N := 31) rfl iwX8 25 (by decide) (Nat.le_of_ble_eq_true rfl) qw891 (v := .ref (eP E 84)) rfl dX8_cell_53 ?_
        refine lv_iload_n X.1 X.2.1 dX8_cell_56 rfl (lv_at hl 1 rfl) ?_
        obtain ⟨h10, hf⟩ := b_ck hf
        refine r_iald X hw (sp84 hE) h10 dX8_cell_57 ?_
        refine lv_if_ne (tgt := 66) X.1 X.2.1 dX8_cell_58 (by decide) (fun c11 => ?_) (fun c11 => ?_)
        · have hf := if_e hf c11
          refine lv_aload_n X.1 X.2.1 dX8_cell_66 rfl (lv_at hl 0 rfl) ?_
          refine r_get X hw (sp69 hE) (C := RX8) (T := TX8) (N := 31) rfl iwX8 25 (by decide) (Nat.le_of_ble_eq_true rfl) qw891 (v := .ref (eP E 84)) rfl dX8_cell_67 ?_
          refine lv_iload_n X.1 X.2.1 dX8_cell_70 rfl (lv_at hl 1 rfl) ?_
          obtain ⟨h12, hf⟩ := b_ck hf
          refine r_iald X hw (sp84 hE) h12 dX8_cell_71 ?_
          refine lv_iconst (v := 1) X.1 X.2.1 dX8_cell_72 (by decide) ?_
          refine lv_icmp_ne (tgt := 81) X.1 X.2.1 dX8_cell_73 (by decide) (fun c13 => ?_) (fun c13 => ?_)
          · have hf := if_e hf c13
            refine lv_iload_n X.1 X.2.1 dX8_cell_81 rfl (lv_at hl 3 rfl) ?_
            obtain ⟨h14, hf⟩ := b_ck hf
            refine r_iast X hw (sp86 hE) h14 dX8_cell_82 (fun H locs hw => ?_)
            obtain ⟨σ15, e16, hf⟩ := b_bnd hf
            rw [← e16] at hw
            refine lv_iconst (v := 1) X.1 X.2.1 dX8_cell_83 (by decide) ?_
            obtain ⟨rfl, rfl⟩ := Prod.mk.inj (Option.some.inj hf)
            exact r_iret X hw dX8_cell_84
          · have hf := if_t hf c13
            refine lv_iload_n X.1 X.2.1 dX8_cell_76 rfl (lv_at hl 3 rfl) ?_
            refine lv_i2s (v := (x3).toInt16.toInt32) X.1 X.2.1 dX8_cell_77 rfl ?_
            refine lv_goto (tgt := 82) X.1 X.2.1 dX8_cell_78 (by decide) ?_
            obtain ⟨h17, hf⟩ := b_ck hf
            refine r_iast X hw (sp86 hE) h17 dX8_cell_82 (fun H locs hw => ?_)
            obtain ⟨σ18, e19, hf⟩ := b_bnd hf
            rw [← e19] at hw
            refine lv_iconst (v := 1) X.1 X.2.1 dX8_cell_83 (by decide) ?_
            obtain ⟨rfl, rfl⟩ := Prod.mk.inj (Option.some.inj hf)
            exact r_iret X hw dX8_cell_84
        · have hf := if_t hf c11
          refine lv_iload_n X.1 X.2.1 dX8_cell_61 rfl (lv_at hl 3 rfl) ?_
          refine lv_i2b (v := (x3).toInt8.toInt32) X.1 X.2.1 dX8_cell_62 rfl ?_
          refine lv_goto (tgt := 82) X.1 X.2.1 dX8_cell_63 (by decide) ?_
          obtain ⟨h20, hf⟩ := b_ck hf
          refine r_iast X hw (sp86 hE) h20 dX8_cell_82 (fun H locs hw => ?_)
          obtain ⟨σ21, e22, hf⟩ := b_bnd hf
          rw [← e22] at hw
          refine lv_iconst (v := 1) X.1 X.2.1 dX8_cell_83 (by decide) ?_
          obtain ⟨rfl, rfl⟩ := Prod.mk.inj (Option.some.inj hf)
          exact r_iret X hw dX8_cell_84
      · have hf := if_t hf c9
        refine lv_bipush (v := (-12)) X.1 X.2.1 dX8_cell_39 (by decide) ?_
        obtain ⟨rfl, rfl⟩ := Prod.mk.inj (Option.some.inj hf)
        exact r_iret X hw dX8_cell_41
    · have hf := if_t hf c5
      refine lv_bipush (v := (-11)) X.1 X.2.1 dX8_cell_20 (by decide) ?_
      obtain ⟨rfl, rfl⟩ := Prod.mk.inj (Option.some.inj hf)
      exact r_iret X hw dX8_cell_22
  · have hf := if_t hf c3
    refine lv_bipush (v := (-2)) X.1 X.2.1 dX8_cell_7 (by decide) ?_
    obtain ⟨rfl, rfl⟩ := Prod.mk.inj (Option.some.inj hf)
    exact r_iret X hw dX8_cell_9
abbrev rm_X8_copy : Room := { frames := 2, cells := 0, slots := 0, locals := 120 }
set_option maxHeartbeats 4000000 in
set_option maxRecDepth 100000 in
theorem w_X8_copy_105 {p : Program} {l : Launch} {e : Env} {s : State} {m : MethodId} {args : Array Value} {below : List Frame} {meth : Method} {c : Code} {Q : State → Prop} {E : en_T} (X : Cx E p s m args meth c cX8_copy 7 RX8 (some .int)) (hE : ShF E) {u1 : Int32} {u2 : Int32} {u3 : Int32} {u4 : Int32} {u5 : Int32}  {res : Int32 × sg_T} :
    ∀ (n : Nat) (w6 : Int32) (σ : sg_T), itr (fun q => b_X8_copy_105 u1 u2 u3 u4 u5 q.1 q.2) n (w6, σ) = some res → ∀ (H : Heap) (locs : List Loc) (ls : Array Slot), Hw E σ s H locs → lv_has ls 7 [(0, .ref (eP E 69)), (1, .int u1), (2, .int u2), (3, .int u3), (4, .int u4), (5, .int u5), (6, .int w6)] →
    (∀ (y6 : Int32) (τ : sg_T), res = (y6, τ) → ∀ (H : Heap) (locs : List Loc) (ls : Array Slot), Hw E τ s H locs → lv_has ls 7 [(0, .ref (eP E 69)), (1, .int u1), (2, .int u2), (3, .int u3), (4, .int u4), (5, .int u5), (6, .int y6)] → W p l e rm_X8_copy s m args below meth c H locs 0 0 Q (F0 m 139 ls [])) →
    W p l e rm_X8_copy s m args below meth c H locs 0 0 Q (F0 m 105 ls []) := by
  have hR : ShR E := hE.r
  intro n
  induction n with
  | zero =>
    intro w6 σ hf0
    exact (itr_0 hf0).elim
  | succ n ih =>
    intro w6 σ hf0 H locs ls hw hl K1
    obtain ⟨r0, hf, hr1, hr2⟩ := itr_s hf0
    have hf : b_X8_copy_105 u1 u2 u3 u4 u5 w6 σ = some r0 := hf
    unfold b_X8_copy_105 at hf
    refine lv_iload X.1 X.2.1 dX8_copy_105 (lv_at hl 6 rfl) ?_
    refine lv_iload X.1 X.2.1 dX8_copy_107 (lv_at hl 5 rfl) ?_
    refine lv_icmp_ge (tgt := 139) X.1 X.2.1 dX8_copy_109 (by decide) (fun c21 => ?_) (fun c21 => ?_)
    · have hf := if_t hf c21
      obtain rfl := Option.some.inj hf
      obtain rfl := hr2 _ rfl
      exact K1 _ _ rfl _ _ _ hw (lv_sub hl [0, 1, 2, 3, 4, 5, 6] rfl)
    · have hf := if_e hf c21
      refine lv_aload_n X.1 X.2.1 dX8_copy_112 rfl (lv_at hl 0 rfl) ?_
      refine r_get X hw (sp69 hE) (C := RX8) (T := TX8) (N := 31) rfl iwX8 28 (by decide) (Nat.le_of_ble_eq_true rfl) qw894 (v := .ref (eP E 87)) rfl dX8_copy_113 ?_
      refine lv_iload X.1 X.2.1 dX8_copy_116 (lv_at hl 6 rfl) ?_
      refine lv_aload_n X.1 X.2.1 dX8_copy_118 rfl (lv_at hl 0 rfl) ?_
      refine r_get X hw (sp69 hE) (C := RX8) (T := TX8) (N := 31) rfl iwX8 27 (by decide) (Nat.le_of_ble_eq_true rfl) qw893 (v := .ref (eP E 86)) rfl dX8_copy_119 ?_
      refine lv_bipush (v := 40) X.1 X.2.1 dX8_copy_122 (by decide) ?_
      refine lv_iload_n X.1 X.2.1 dX8_copy_124 rfl (lv_at hl 1 rfl) ?_
      refine lv_imul X.1 X.2.1 dX8_copy_125 ?_
      refine lv_iload_n X.1 X.2.1 dX8_copy_126 rfl (lv_at hl 2 rfl) ?_
      refine lv_iadd X.1 X.2.1 dX8_copy_127 ?_
      refine lv_iload X.1 X.2.1 dX8_copy_128 (lv_at hl 6 rfl) ?_
      refine lv_iadd X.1 X.2.1 dX8_copy_130 ?_
      obtain ⟨h22, hf⟩ := b_ck hf
      refine r_iald X hw (sp86 hE) h22 dX8_copy_131 ?_
      obtain ⟨h23, hf⟩ := b_ck hf
      refine r_iast X hw (sp87 hE) h23 dX8_copy_132 (fun H locs hw => ?_)
      obtain ⟨σ24, e25, hf⟩ := b_bnd hf
      rw [← e25] at hw
      obtain ⟨v26, e27, hf⟩ := b_bnd hf
      refine lv_iinc (v := v26) (k := 6) (lv' := [(6, .int v26), (0, .ref (eP E 69)), (1, .int u1), (2, .int u2), (3, .int u3), (4, .int u4), (5, .int u5)]) X.1 X.2.1 dX8_copy_133 hl rfl (by rw [e27]; exact congrArg _ (by decide)) (by decide) rfl (fun ls hl => ?_)
      refine lv_goto (tgt := 105) X.1 X.2.1 dX8_copy_136 (by decide) ?_
      obtain rfl := Option.some.inj hf
      exact ih _ _ (hr1 _ rfl) _ _ _ hw (lv_sub hl [1, 2, 3, 4, 5, 6, 0] rfl) K1
set_option maxHeartbeats 4000000 in
set_option maxRecDepth 100000 in
theorem w_X8_copy_142 {p : Program} {l : Launch} {e : Env} {s : State} {m : MethodId} {args : Array Value} {below : List Frame} {meth : Method} {c : Code} {Q : State → Prop} {E : en_T} (X : Cx E p s m args meth c cX8_copy 7 RX8 (some .int)) (hE : ShF E) {u1 : Int32} {u2 : Int32} {u3 : Int32} {u4 : Int32} {u5 : Int32}  {res : Int32 × sg_T} :
    ∀ (n : Nat) (w6 : Int32) (σ : sg_T), itr (fun q => b_X8_copy_142 u1 u2 u3 u4 u5 q.1 q.2) n (w6, σ) = some res → ∀ (H : Heap) (locs : List Loc) (ls : Array Slot), Hw E σ s H locs → lv_has ls 7 [(0, .ref (eP E 69)), (1, .int u1), (2, .int u2), (3, .int u3), (4, .int u4), (5, .int u5), (6, .int w6)] →
    (∀ (y6 : Int32) (τ : sg_T), res = (y6, τ) → ∀ (H : Heap) (locs : List Loc) (ls : Array Slot), Hw E τ s H locs → lv_has ls 7 [(0, .ref (eP E 69)), (1, .int u1), (2, .int u2), (3, .int u3), (4, .int u4), (5, .int u5), (6, .int y6)] → W p l e rm_X8_copy s m args below meth c H locs 0 0 Q (F0 m 177 ls [])) →
    W p l e rm_X8_copy s m args below meth c H locs 0 0 Q (F0 m 142 ls []) := by
  have hR : ShR E := hE.r
  intro n
  induction n with
  | zero =>
    intro w6 σ hf0
    exact (itr_0 hf0).elim
  | succ n ih =>
    intro w6 σ hf0 H locs ls hw hl K1
    obtain ⟨r0, hf, hr1, hr2⟩ := itr_s hf0
    have hf : b_X8_copy_142 u1 u2 u3 u4 u5 w6 σ = some r0 := hf
    unfold b_X8_copy_142 at hf
    refine lv_iload X.1 X.2.1 dX8_copy_142 (lv_at hl 6 rfl) ?_
    refine lv_iload X.1 X.2.1 dX8_copy_144 (lv_at hl 5 rfl) ?_
    refine lv_icmp_ge (tgt := 177) X.1 X.2.1 dX8_copy_146 (by decide) (fun c31 => ?_) (fun c31 => ?_)
    · have hf := if_t hf c31
      obtain rfl := Option.some.inj hf
      obtain rfl := hr2 _ rfl
      exact K1 _ _ rfl _ _ _ hw (lv_sub hl [0, 1, 2, 3, 4, 5, 6] rfl)
    · have hf := if_e hf c31
      refine lv_aload_n X.1 X.2.1 dX8_copy_149 rfl (lv_at hl 0 rfl) ?_
      refine r_get X hw (sp69 hE) (C := RX8) (T := TX8) (N := 31) rfl iwX8 27 (by decide) (Nat.le_of_ble_eq_true rfl) qw893 (v := .ref (eP E 86)) rfl dX8_copy_150 ?_
      refine lv_bipush (v := 40) X.1 X.2.1 dX8_copy_153 (by decide) ?_
      refine lv_iload_n X.1 X.2.1 dX8_copy_155 rfl (lv_at hl 3 rfl) ?_
      refine lv_imul X.1 X.2.1 dX8_copy_156 ?_
      refine lv_iload X.1 X.2.1 dX8_copy_157 (lv_at hl 4 rfl) ?_
      refine lv_iadd X.1 X.2.1 dX8_copy_159 ?_
      refine lv_iload X.1 X.2.1 dX8_copy_160 (lv_at hl 6 rfl) ?_
      refine lv_iadd X.1 X.2.1 dX8_copy_162 ?_
      refine lv_aload_n X.1 X.2.1 dX8_copy_163 rfl (lv_at hl 0 rfl) ?_
      refine r_get X hw (sp69 hE) (C := RX8) (T := TX8) (N := 31) rfl iwX8 28 (by decide) (Nat.le_of_ble_eq_true rfl) qw894 (v := .ref (eP E 87)) rfl dX8_copy_164 ?_
      refine lv_iload X.1 X.2.1 dX8_copy_167 (lv_at hl 6 rfl) ?_
      obtain ⟨h32, hf⟩ := b_ck hf
      refine r_iald X hw (sp87 hE) h32 dX8_copy_169 ?_
      obtain ⟨h33, hf⟩ := b_ck hf
      refine r_iast X hw (sp86 hE) h33 dX8_copy_170 (fun H locs hw => ?_)
      obtain ⟨σ34, e35, hf⟩ := b_bnd hf
      rw [← e35] at hw
      obtain ⟨v36, e37, hf⟩ := b_bnd hf
      refine lv_iinc (v := v36) (k := 6) (lv' := [(6, .int v36), (0, .ref (eP E 69)), (1, .int u1), (2, .int u2), (3, .int u3), (4, .int u4), (5, .int u5)]) X.1 X.2.1 dX8_copy_171 hl rfl (by rw [e37]; exact congrArg _ (by decide)) (by decide) rfl (fun ls hl => ?_)
      refine lv_goto (tgt := 142) X.1 X.2.1 dX8_copy_174 (by decide) ?_
      obtain rfl := Option.some.inj hf
      exact ih _ _ (hr1 _ rfl) _ _ _ hw (lv_sub hl [1, 2, 3, 4, 5, 6, 0] rfl) K1
set_option maxHeartbeats 4000000 in
set_option maxRecDepth 100000 in
theorem k_X8_copy {l : Launch} {E : en_T} (hE : ShF E) {x1 : Int32} {x2 : Int32} {x3 : Int32} {x4 : Int32} {x5 : Int32} {σ : sg_T} {r : Int32} {σ' : sg_T} (hf : f_X8_copy x1 x2 x3 x4 x5 σ = some (r, σ')) : Ct l yX8_copy cX8_copy 7 (some .int) rm_X8_copy E [.ref (eP E 69), .int x1, .int x2, .int x3, .int x4, .int x5] σ (some (.int r)) σ' := by
  refine Ct.start (by decide) hE.1 (Nat.le_of_ble_eq_true rfl) ?_
  intro p e s m below meth c X hw ls hl
  have X : Cx E p s m _ meth c cX8_copy 7 RX8 (some .int) := X
  have hR : ShR E := hE.r
  have hl : lv_has ls 7 [(0, .ref (eP E 69)), (1, .int x1), (2, .int x2), (3, .int x3), (4, .int x4), (5, .int x5)] := hl
  unfold f_X8_copy at hf
  refine lv_iload_n X.1 X.2.1 dX8_copy_0 rfl (lv_at hl 1 rfl) ?_
  obtain ⟨r2, h1, hf⟩ := b_bd1 hf
  refine r_callS X hw (k_X8_isSheet hE  h1) qw1184 qw1185 qw79 qw1186 okX8_isSheet ⟨rfl, rfl⟩ ⟨(Nat.le_of_ble_eq_true rfl), (Nat.le_of_ble_eq_true rfl)⟩ ⟨Nat.zero_le _, Nat.zero_le _⟩ rfl hl.1 (rest := []) rfl (Nat.le_of_ble_eq_true rfl) dX8_copy_1 (st1 := [.int r2]) rfl (fun H locs hw => ?_)
  refine lv_if_eq (tgt := 14) X.1 X.2.1 dX8_copy_4 (by decide) (fun c3 => ?_) (fun c3 => ?_)
  · have hf := if_t hf c3
    refine lv_bipush (v := (-2)) X.1 X.2.1 dX8_copy_14 (by decide) ?_
    obtain ⟨rfl, rfl⟩ := Prod.mk.inj (Option.some.inj hf)
    exact r_iret X hw dX8_copy_16
  · have hf := if_e hf c3
    refine lv_iload_n X.1 X.2.1 dX8_copy_7 rfl (lv_at hl 3 rfl) ?_
    obtain ⟨r5, h4, hf⟩ := b_bd1 hf
    refine r_callS X hw (k_X8_isSheet hE  h4) qw1184 qw1185 qw79 qw1186 okX8_isSheet ⟨rfl, rfl⟩ ⟨(Nat.le_of_ble_eq_true rfl), (Nat.le_of_ble_eq_true rfl)⟩ ⟨Nat.zero_le _, Nat.zero_le _⟩ rfl hl.1 (rest := []) rfl (Nat.le_of_ble_eq_true rfl) dX8_copy_8 (st1 := [.int r5]) rfl (fun H locs hw => ?_)
    refine lv_if_ne (tgt := 17) X.1 X.2.1 dX8_copy_11 (by decide) (fun c6 => ?_) (fun c6 => ?_)
    · have hf := if_e hf c6
      refine lv_aload_n X.1 X.2.1 dX8_copy_17 rfl (lv_at hl 0 rfl) ?_
      refine r_get X hw (sp69 hE) (C := RX8) (T := TX8) (N := 31) rfl iwX8 25 (by decide) (Nat.le_of_ble_eq_true rfl) qw891 (v := .ref (eP E 84)) rfl dX8_copy_18 ?_
      refine lv_iload_n X.1 X.2.1 dX8_copy_21 rfl (lv_at hl 1 rfl) ?_
      obtain ⟨h7, hf⟩ := b_ck hf
      refine r_iald X hw (sp84 hE) h7 dX8_copy_22 ?_
      refine lv_iconst (v := (-1)) X.1 X.2.1 dX8_copy_23 (by decide) ?_
      refine lv_icmp_eq (tgt := 37) X.1 X.2.1 dX8_copy_24 (by decide) (fun c8 => ?_) (fun c8 => ?_)
      · have hf := if_t hf c8
        refine lv_bipush (v := (-11)) X.1 X.2.1 dX8_copy_37 (by decide) ?_
        obtain ⟨rfl, rfl⟩ := Prod.mk.inj (Option.some.inj hf)
        exact r_iret X hw dX8_copy_39
      · have hf := if_e hf c8
        refine lv_aload_n X.1 X.2.1 dX8_copy_27 rfl (lv_at hl 0 rfl) ?_
        refine r_get X hw (sp69 hE) (C := RX8) (T := TX8) (N := 31) rfl iwX8 25 (by decide) (Nat.le_of_ble_eq_true rfl) qw891 (v := .ref (eP E 84)) rfl dX8_copy_28 ?_
        refine lv_iload_n X.1 X.2.1 dX8_copy_31 rfl (lv_at hl 3 rfl) ?_
        obtain ⟨h9, hf⟩ := b_ck hf
        refine r_iald X hw (sp84 hE) h9 dX8_copy_32 ?_
        refine lv_iconst (v := (-1)) X.1 X.2.1 dX8_copy_33 (by decide) ?_
        refine lv_icmp_ne (tgt := 40) X.1 X.2.1 dX8_copy_34 (by decide) (fun c10 => ?_) (fun c10 => ?_)
        · have hf := if_e hf c10
          refine lv_aload_n X.1 X.2.1 dX8_copy_40 rfl (lv_at hl 0 rfl) ?_
          refine r_get X hw (sp69 hE) (C := RX8) (T := TX8) (N := 31) rfl iwX8 25 (by decide) (Nat.le_of_ble_eq_true rfl) qw891 (v := .ref (eP E 84)) rfl dX8_copy_41 ?_
          refine lv_iload_n X.1 X.2.1 dX8_copy_44 rfl (lv_at hl 1 rfl) ?_
          obtain ⟨h11, hf⟩ := b_ck hf
          refine r_iald X hw (sp84 hE) h11 dX8_copy_45 ?_
          refine lv_aload_n X.1 X.2.1 dX8_copy_46 rfl (lv_at hl 0 rfl) ?_
          refine r_get X hw (sp69 hE) (C := RX8) (T := TX8) (N := 31) rfl iwX8 25 (by decide) (Nat.le_of_ble_eq_true rfl) qw891 (v := .ref (eP E 84)) rfl dX8_copy_47 ?_
          refine lv_iload_n X.1 X.2.1 dX8_copy_50 rfl (lv_at hl 3 rfl) ?_
          obtain ⟨h12, hf⟩ := b_ck hf
          refine r_iald X hw (sp84 hE) h12 dX8_copy_51 ?_
          refine lv_icmp_eq (tgt := 58) X.1 X.2.1 dX8_copy_52 (by decide) (fun c13 => ?_) (fun c13 => ?_)
          · have hf := if_t hf c13
            refine lv_iload X.1 X.2.1 dX8_copy_58 (lv_at hl 5 rfl) ?_
            refine lv_if_lt (tgt := 99) X.1 X.2.1 dX8_copy_60 (by decide) (fun c14 => ?_) (fun c14 => ?_)
            · have hf := if_t hf c14
              refine lv_bipush (v := (-12)) X.1 X.2.1 dX8_copy_99 (by decide) ?_
              obtain ⟨rfl, rfl⟩ := Prod.mk.inj (Option.some.inj hf)
              exact r_iret X hw dX8_copy_101
            · have hf := if_e hf c14
              refine lv_iload_n X.1 X.2.1 dX8_copy_63 rfl (lv_at hl 2 rfl) ?_
              refine lv_if_lt (tgt := 99) X.1 X.2.1 dX8_copy_64 (by decide) (fun c15 => ?_) (fun c15 => ?_)
              · have hf := if_t hf c15
                refine lv_bipush (v := (-12)) X.1 X.2.1 dX8_copy_99 (by decide) ?_
                obtain ⟨rfl, rfl⟩ := Prod.mk.inj (Option.some.inj hf)
                exact r_iret X hw dX8_copy_101
              · have hf := if_e hf c15
                refine lv_iload X.1 X.2.1 dX8_copy_67 (lv_at hl 4 rfl) ?_
                refine lv_if_lt (tgt := 99) X.1 X.2.1 dX8_copy_69 (by decide) (fun c16 => ?_) (fun c16 => ?_)
                · have hf := if_t hf c16
                  refine lv_bipush (v := (-12)) X.1 X.2.1 dX8_copy_99 (by decide) ?_
                  obtain ⟨rfl, rfl⟩ := Prod.mk.inj (Option.some.inj hf)
                  exact r_iret X hw dX8_copy_101
                · have hf := if_e hf c16
                  refine lv_iload X.1 X.2.1 dX8_copy_72 (lv_at hl 5 rfl) ?_
                  refine lv_aload_n X.1 X.2.1 dX8_copy_74 rfl (lv_at hl 0 rfl) ?_
                  refine r_get X hw (sp69 hE) (C := RX8) (T := TX8) (N := 31) rfl iwX8 26 (by decide) (Nat.le_of_ble_eq_true rfl) qw892 (v := .ref (eP E 85)) rfl dX8_copy_75 ?_
                  refine lv_iload_n X.1 X.2.1 dX8_copy_78 rfl (lv_at hl 1 rfl) ?_
                  obtain ⟨h17, hf⟩ := b_ck hf
                  refine r_iald X hw (sp85 hE) h17 dX8_copy_79 ?_
                  refine lv_iload_n X.1 X.2.1 dX8_copy_80 rfl (lv_at hl 2 rfl) ?_
                  refine lv_isub X.1 X.2.1 dX8_copy_81 ?_
                  refine lv_icmp_gt (tgt := 99) X.1 X.2.1 dX8_copy_82 (by decide) (fun c18 => ?_) (fun c18 => ?_)
                  · have hf := if_t hf c18
                    refine lv_bipush (v := (-12)) X.1 X.2.1 dX8_copy_99 (by decide) ?_
                    obtain ⟨rfl, rfl⟩ := Prod.mk.inj (Option.some.inj hf)
                    exact r_iret X hw dX8_copy_101
                  · have hf := if_e hf c18
                    refine lv_iload X.1 X.2.1 dX8_copy_85 (lv_at hl 5 rfl) ?_
                    refine lv_aload_n X.1 X.2.1 dX8_copy_87 rfl (lv_at hl 0 rfl) ?_
                    refine r_get X hw (sp69 hE) (C := RX8) (T := TX8) (N := 31) rfl iwX8 26 (by decide) (Nat.le_of_ble_eq_true rfl) qw892 (v := .ref (eP E 85)) rfl dX8_copy_88 ?_
                    refine lv_iload_n X.1 X.2.1 dX8_copy_91 rfl (lv_at hl 3 rfl) ?_
                    obtain ⟨h19, hf⟩ := b_ck hf
                    refine r_iald X hw (sp85 hE) h19 dX8_copy_92 ?_
                    refine lv_iload X.1 X.2.1 dX8_copy_93 (lv_at hl 4 rfl) ?_
                    refine lv_isub X.1 X.2.1 dX8_copy_95 ?_
                    refine lv_icmp_le (tgt := 102) X.1 X.2.1 dX8_copy_96 (by decide) (fun c20 => ?_) (fun c20 => ?_)
                    · have hf := if_t hf c20
                      refine lv_iconst (v := 0) X.1 X.2.1 dX8_copy_102 (by decide) ?_
                      refine lv_istore (lv' := [(6, .int 0), (0, .ref (eP E 69)), (1, .int x1), (2, .int x2), (3, .int x3), (4, .int x4), (5, .int x5)]) X.1 X.2.1 dX8_copy_103 hl (by decide) rfl (fun ls hl => ?_)
                      obtain ⟨v29, σ30, h28, hf⟩ := b_bd2 hf
                      refine w_X8_copy_105 X hE  lfu _ _ h28 _ _ _ hw (lv_sub hl [1, 2, 3, 4, 5, 6, 0] rfl) (fun yv29 yσ30 hq H locs ls hw hl => ?_)
                      cases hq
                      refine lv_iconst (v := 0) X.1 X.2.1 dX8_copy_139 (by decide) ?_
                      refine lv_istore (lv' := [(6, .int 0), (0, .ref (eP E 69)), (1, .int x1), (2, .int x2), (3, .int x3), (4, .int x4), (5, .int x5)]) X.1 X.2.1 dX8_copy_140 hl (by decide) rfl (fun ls hl => ?_)
                      obtain ⟨v39, σ40, h38, hf⟩ := b_bd2 hf
                      refine w_X8_copy_142 X hE  lfu _ _ h38 _ _ _ hw (lv_sub hl [1, 2, 3, 4, 5, 6, 0] rfl) (fun yv39 yσ40 hq H locs ls hw hl => ?_)
                      cases hq
                      refine lv_iload X.1 X.2.1 dX8_copy_177 (lv_at hl 5 rfl) ?_
                      obtain ⟨rfl, rfl⟩ := Prod.mk.inj (Option.some.inj hf)
                      exact r_iret X hw dX8_copy_179
                    · have hf := if_e hf c20
                      refine lv_bipush (v := (-12)) X.1 X.2.1 dX8_copy_99 (by decide) ?_
                      obtain ⟨rfl, rfl⟩ := Prod.mk.inj (Option.some.inj hf)
                      exact r_iret X hw dX8_copy_101
          · have hf := if_e hf c13
            refine lv_bipush (v := (-13)) X.1 X.2.1 dX8_copy_55 (by decide) ?_
            obtain ⟨rfl, rfl⟩ := Prod.mk.inj (Option.some.inj hf)
            exact r_iret X hw dX8_copy_57
        · have hf := if_t hf c10
          refine lv_bipush (v := (-11)) X.1 X.2.1 dX8_copy_37 (by decide) ?_
          obtain ⟨rfl, rfl⟩ := Prod.mk.inj (Option.some.inj hf)
          exact r_iret X hw dX8_copy_39
    · have hf := if_t hf c6
      refine lv_bipush (v := (-2)) X.1 X.2.1 dX8_copy_14 (by decide) ?_
      obtain ⟨rfl, rfl⟩ := Prod.mk.inj (Option.some.inj hf)
      exact r_iret X hw dX8_copy_16
abbrev rm_X8_court : Room := { frames := 2, cells := 0, slots := 0, locals := 125 }
set_option maxHeartbeats 4000000 in
set_option maxRecDepth 100000 in
theorem w_X8_court_61 {p : Program} {l : Launch} {e : Env} {s : State} {m : MethodId} {args : Array Value} {below : List Frame} {meth : Method} {c : Code} {Q : State → Prop} {E : en_T} (X : Cx E p s m args meth c cX8_court 9 RX8 (some .int)) (hE : ShF E) {u1 : Int32} {u2 : Int32} {u3 : Int32} {u4 : Int32}  {res : (Int32 × Int32 × sg_T) ⊕ (Int32 × sg_T)} :
    ∀ (n : Nat) (w5 : Int32) (w6 : Int32) (σ : sg_T), itr (fun q => b_X8_court_61 u1 u2 u3 u4 q.1 q.2.1 q.2.2) n (w5, w6, σ) = some res → ∀ (H : Heap) (locs : List Loc) (ls : Array Slot), Hw E σ s H locs → lv_has ls 9 [(0, .ref (eP E 69)), (1, .int u1), (2, .int u2), (3, .int u3), (4, .int u4), (5, .int w5), (6, .int w6)] →
    (∀ (y5 : Int32) (y6 : Int32) (τ : sg_T), res = .inl (y5, y6, τ) → ∀ (H : Heap) (locs : List Loc) (ls : Array Slot), Hw E τ s H locs → lv_has ls 9 [(0, .ref (eP E 69)), (1, .int u1), (2, .int u2), (3, .int u3), (4, .int u4), (5, .int y5), (6, .int y6)] → W p l e rm_X8_court s m args below meth c H locs 0 0 Q (F0 m 153 ls [])) →
    (∀ (r : Int32) (σ' : sg_T), res = .inr (r, σ') → Q = MQ below (Qf E (some (.int r)) σ') args s 0 0 (en_A E)) →
    W p l e rm_X8_court s m args below meth c H locs 0 0 Q (F0 m 61 ls []) := by
  have hR : ShR E := hE.r
  intro n
  induction n with
  | zero =>
    intro w5 w6 σ hf0
    exact (itr_0 hf0).elim
  | succ n ih =>
    intro w5 w6 σ hf0 H locs ls hw hl K1 K2
    obtain ⟨r0, hf, hr1, hr2⟩ := itr_s hf0
    have hf : b_X8_court_61 u1 u2 u3 u4 w5 w6 σ = some r0 := hf
    unfold b_X8_court_61 at hf
    refine lv_iload X.1 X.2.1 dX8_court_61 (lv_at hl 6 rfl) ?_
    refine lv_iload X.1 X.2.1 dX8_court_63 (lv_at hl 4 rfl) ?_
    refine lv_icmp_ge (tgt := 153) X.1 X.2.1 dX8_court_65 (by decide) (fun c14 => ?_) (fun c14 => ?_)
    · have hf := if_t hf c14
      obtain rfl := Option.some.inj hf
      obtain rfl := hr2 _ rfl
      exact K1 _ _ _ rfl _ _ _ hw (lv_sub hl [0, 1, 2, 3, 4, 5, 6] rfl)
    · have hf := if_e hf c14
      refine lv_iload_n X.1 X.2.1 dX8_court_68 rfl (lv_at hl 3 rfl) ?_
      refine lv_iconst (v := 3) X.1 X.2.1 dX8_court_69 (by decide) ?_
      refine lv_iload X.1 X.2.1 dX8_court_70 (lv_at hl 6 rfl) ?_
      refine lv_imul X.1 X.2.1 dX8_court_72 ?_
      refine lv_iadd X.1 X.2.1 dX8_court_73 ?_
      refine r_bnd hf (fun v15 hf => ?_)
      refine lv_istore (lv' := [(7, .int v15), (0, .ref (eP E 69)), (1, .int u1), (2, .int u2), (3, .int u3), (4, .int u4), (5, .int w5), (6, .int w6)]) X.1 X.2.1 dX8_court_74 hl (by decide) rfl (fun ls hl => ?_)
      refine lv_iload_n X.1 X.2.1 dX8_court_76 rfl (lv_at hl 4 rfl) ?_
      refine lv_if_lt (tgt := 93) X.1 X.2.1 dX8_court_77 (by decide) (fun c16 => ?_) (fun c16 => ?_)
      · have hf := if_t hf c16
        refine lv_bipush (v := (-12)) X.1 X.2.1 dX8_court_93 (by decide) ?_
        obtain rfl := Option.some.inj hf
        obtain rfl := hr2 _ rfl
        rw [K2 _ _ rfl]
        exact r_iret X hw dX8_court_95
      · have hf := if_e hf c16
        refine lv_iload X.1 X.2.1 dX8_court_80 (lv_at hl 0 rfl) ?_
        refine lv_aload_n X.1 X.2.1 dX8_court_82 rfl (lv_at hl 1 rfl) ?_
        refine r_get X hw (sp69 hE) (C := RX8) (T := TX8) (N := 31) rfl iwX8 26 (by decide) (Nat.le_of_ble_eq_true rfl) qw892 (v := .ref (eP E 85)) rfl dX8_court_83 ?_
        refine lv_iload_n X.1 X.2.1 dX8_court_86 rfl (lv_at hl 2 rfl) ?_
        obtain ⟨h17, hf⟩ := b_ck hf
        refine r_iald X hw (sp85 hE) h17 dX8_court_87 ?_
        refine lv_iconst (v := 3) X.1 X.2.1 dX8_court_88 (by decide) ?_
        refine lv_isub X.1 X.2.1 dX8_court_89 ?_
        refine lv_icmp_le (tgt := 96) X.1 X.2.1 dX8_court_90 (by decide) (fun c18 => ?_) (fun c18 => ?_)
        · have hf := if_t hf c18
          refine lv_bipush (v := 40) X.1 X.2.1 dX8_court_96 (by decide) ?_
          refine lv_iload_n X.1 X.2.1 dX8_court_98 rfl (lv_at hl 2 rfl) ?_
          refine lv_imul X.1 X.2.1 dX8_court_99 ?_
          refine lv_iload X.1 X.2.1 dX8_court_100 (lv_at hl 0 rfl) ?_
          refine lv_iadd X.1 X.2.1 dX8_court_102 ?_
          refine r_bnd hf (fun v19 hf => ?_)
          refine lv_istore (lv' := [(8, .int v19), (7, .int v15), (0, .ref (eP E 69)), (1, .int u1), (2, .int u2), (3, .int u3), (4, .int u4), (5, .int w5), (6, .int w6)]) X.1 X.2.1 dX8_court_103 hl (by decide) rfl (fun ls hl => ?_)
          refine lv_iload X.1 X.2.1 dX8_court_105 (lv_at hl 7 rfl) ?_
          refine lv_aload_n X.1 X.2.1 dX8_court_107 rfl (lv_at hl 2 rfl) ?_
          refine lv_aload_n X.1 X.2.1 dX8_court_108 rfl (lv_at hl 2 rfl) ?_
          refine r_get X hw (sp69 hE) (C := RX8) (T := TX8) (N := 31) rfl iwX8 27 (by decide) (Nat.le_of_ble_eq_true rfl) qw893 (v := .ref (eP E 86)) rfl dX8_court_109 ?_
          refine lv_iload X.1 X.2.1 dX8_court_112 (lv_at hl 0 rfl) ?_
          obtain ⟨h20, hf⟩ := b_ck hf
          refine r_iald X hw (sp86 hE) h20 dX8_court_114 ?_
          refine lv_aload_n X.1 X.2.1 dX8_court_115 rfl (lv_at hl 2 rfl) ?_
          refine r_get X hw (sp69 hE) (C := RX8) (T := TX8) (N := 31) rfl iwX8 27 (by decide) (Nat.le_of_ble_eq_true rfl) qw893 (v := .ref (eP E 86)) rfl dX8_court_116 ?_
          refine lv_iload X.1 X.2.1 dX8_court_119 (lv_at hl 0 rfl) ?_
          refine lv_iconst (v := 1) X.1 X.2.1 dX8_court_121 (by decide) ?_
          refine lv_iadd X.1 X.2.1 dX8_court_122 ?_
          obtain ⟨h21, hf⟩ := b_ck hf
          refine r_iald X hw (sp86 hE) h21 dX8_court_123 ?_
          refine lv_aload_n X.1 X.2.1 dX8_court_124 rfl (lv_at hl 2 rfl) ?_
          refine r_get X hw (sp69 hE) (C := RX8) (T := TX8) (N := 31) rfl iwX8 27 (by decide) (Nat.le_of_ble_eq_true rfl) qw893 (v := .ref (eP E 86)) rfl dX8_court_125 ?_
          refine lv_iload X.1 X.2.1 dX8_court_128 (lv_at hl 0 rfl) ?_
          refine lv_iconst (v := 2) X.1 X.2.1 dX8_court_130 (by decide) ?_
          refine lv_iadd X.1 X.2.1 dX8_court_131 ?_
          obtain ⟨h22, hf⟩ := b_ck hf
          refine r_iald X hw (sp86 hE) h22 dX8_court_132 ?_
          obtain ⟨r24, σ25, h23, hf⟩ := b_bd2 hf
          refine r_callV X hw (k_X8_person hE  h23) (sp69 hE) (C := RX8) (T := TX8) (N := 31) rfl qw1199 qw982 qw983 qw79 qw984 okX8_person ⟨rfl, rfl⟩ ⟨(Nat.le_of_ble_eq_true rfl), (Nat.le_of_ble_eq_true rfl)⟩ ⟨Nat.zero_le _, Nat.zero_le _⟩ rfl hl.1 (rest := [.int w5]) rfl (Nat.le_of_ble_eq_true rfl) dX8_court_133 (st1 := [.int r24, .int w5]) rfl (fun H locs hw => ?_)
          obtain ⟨v27, e28, hf⟩ := b_bnd hf
          refine r_join (g2 := F0 m 144 ls [.int v27, .int w5]) ?_ (fun hj => ?_)
          · refine lv_iadd X.1 X.2.1 dX8_court_144 ?_
            refine r_bnd hf (fun v29 hf => ?_)
            refine lv_istore (lv' := [(5, .int v29), (8, .int v19), (7, .int v15), (0, .ref (eP E 69)), (1, .int u1), (2, .int u2), (3, .int u3), (4, .int u4), (6, .int w6)]) X.1 X.2.1 dX8_court_145 hl (by decide) rfl (fun ls hl => ?_)
            obtain ⟨v30, e31, hf⟩ := b_bnd hf
            refine lv_iinc (v := v30) (k := 8) (lv' := [(6, .int v30), (5, .int v29), (8, .int v19), (7, .int v15), (0, .ref (eP E 69)), (1, .int u1), (2, .int u2), (3, .int u3), (4, .int u4)]) X.1 X.2.1 dX8_court_147 hl rfl (by rw [e31]; exact congrArg _ (by decide)) (by decide) rfl (fun ls hl => ?_)
            refine lv_goto (tgt := 61) X.1 X.2.1 dX8_court_150 (by decide) ?_
            obtain rfl := Option.some.inj hf
            exact ih _ _ _ (hr1 _ rfl) _ _ _ hw (lv_sub hl [4, 5, 6, 7, 8, 1, 0] rfl) K1 K2
          · refine lv_if_lt (tgt := 143) X.1 X.2.1 dX8_court_136 (by decide) (fun c26 => ?_) (fun c26 => ?_)
            · rw [e28, if_pos c26] at hj
              refine lv_iconst (v := 0) X.1 X.2.1 dX8_court_143 (by decide) ?_
              exact hj
            · rw [e28, if_neg c26] at hj
              refine lv_iconst (v := 1) X.1 X.2.1 dX8_court_139 (by decide) ?_
              refine lv_goto (tgt := 144) X.1 X.2.1 dX8_court_140 (by decide) ?_
              exact hj
        · have hf := if_e hf c18
          refine lv_bipush (v := (-12)) X.1 X.2.1 dX8_court_93 (by decide) ?_
          obtain rfl := Option.some.inj hf
          obtain rfl := hr2 _ rfl
          rw [K2 _ _ rfl]
          exact r_iret X hw dX8_court_95
set_option maxHeartbeats 4000000 in
set_option maxRecDepth 100000 in
theorem k_X8_court {l : Launch} {E : en_T} (hE : ShF E) {x1 : Int32} {x2 : Int32} {x3 : Int32} {x4 : Int32} {σ : sg_T} {r : Int32} {σ' : sg_T} (hf : f_X8_court x1 x2 x3 x4 σ = some (r, σ')) : Ct l yX8_court cX8_court 9 (some .int) rm_X8_court E [.ref (eP E 69), .int x1, .int x2, .int x3, .int x4] σ (some (.int r)) σ' := by
  refine Ct.start (by decide) hE.1 (Nat.le_of_ble_eq_true rfl) ?_
  intro p e s m below meth c X hw ls hl
  have X : Cx E p s m _ meth c cX8_court 9 RX8 (some .int) := X
  have hR : ShR E := hE.r
  have hl : lv_has ls 9 [(0, .ref (eP E 69)), (1, .int x1), (2, .int x2), (3, .int x3), (4, .int x4)] := hl
  unfold f_X8_court at hf
  refine lv_iload_n X.1 X.2.1 dX8_court_0 rfl (lv_at hl 1 rfl) ?_
  obtain ⟨r2, h1, hf⟩ := b_bd1 hf
  refine r_callS X hw (k_X8_isSheet hE  h1) qw1184 qw1185 qw79 qw1186 okX8_isSheet ⟨rfl, rfl⟩ ⟨(Nat.le_of_ble_eq_true rfl), (Nat.le_of_ble_eq_true rfl)⟩ ⟨Nat.zero_le _, Nat.zero_le _⟩ rfl hl.1 (rest := []) rfl (Nat.le_of_ble_eq_true rfl) dX8_court_1 (st1 := [.int r2]) rfl (fun H locs hw => ?_)
  refine lv_if_eq (tgt := 26) X.1 X.2.1 dX8_court_4 (by decide) (fun c3 => ?_) (fun c3 => ?_)
  · have hf := if_t hf c3
    refine lv_bipush (v := (-2)) X.1 X.2.1 dX8_court_26 (by decide) ?_
    obtain ⟨rfl, rfl⟩ := Prod.mk.inj (Option.some.inj hf)
    exact r_iret X hw dX8_court_28
  · have hf := if_e hf c3
    refine lv_iload_n X.1 X.2.1 dX8_court_7 rfl (lv_at hl 2 rfl) ?_
    refine lv_iconst (v := 0) X.1 X.2.1 dX8_court_8 (by decide) ?_
    refine lv_iconst (v := 2) X.1 X.2.1 dX8_court_9 (by decide) ?_
    obtain ⟨r5, h4, hf⟩ := b_bd1 hf
    refine r_callS X hw (k_X8_isIn hE  h4) qw966 qw967 qw79 qw968 okX8_isIn ⟨rfl, rfl⟩ ⟨(Nat.le_of_ble_eq_true rfl), (Nat.le_of_ble_eq_true rfl)⟩ ⟨Nat.zero_le _, Nat.zero_le _⟩ rfl hl.1 (rest := []) rfl (Nat.le_of_ble_eq_true rfl) dX8_court_10 (st1 := [.int r5]) rfl (fun H locs hw => ?_)
    refine lv_if_eq (tgt := 26) X.1 X.2.1 dX8_court_13 (by decide) (fun c6 => ?_) (fun c6 => ?_)
    · have hf := if_t hf c6
      refine lv_bipush (v := (-2)) X.1 X.2.1 dX8_court_26 (by decide) ?_
      obtain ⟨rfl, rfl⟩ := Prod.mk.inj (Option.some.inj hf)
      exact r_iret X hw dX8_court_28
    · have hf := if_e hf c6
      refine lv_iload X.1 X.2.1 dX8_court_16 (lv_at hl 4 rfl) ?_
      refine lv_iconst (v := 0) X.1 X.2.1 dX8_court_18 (by decide) ?_
      refine lv_iconst (v := 5) X.1 X.2.1 dX8_court_19 (by decide) ?_
      obtain ⟨r8, h7, hf⟩ := b_bd1 hf
      refine r_callS X hw (k_X8_isIn hE  h7) qw966 qw967 qw79 qw968 okX8_isIn ⟨rfl, rfl⟩ ⟨(Nat.le_of_ble_eq_true rfl), (Nat.le_of_ble_eq_true rfl)⟩ ⟨Nat.zero_le _, Nat.zero_le _⟩ rfl hl.1 (rest := []) rfl (Nat.le_of_ble_eq_true rfl) dX8_court_20 (st1 := [.int r8]) rfl (fun H locs hw => ?_)
      refine lv_if_ne (tgt := 29) X.1 X.2.1 dX8_court_23 (by decide) (fun c9 => ?_) (fun c9 => ?_)
      · have hf := if_e hf c9
        refine lv_aload_n X.1 X.2.1 dX8_court_29 rfl (lv_at hl 0 rfl) ?_
        refine r_get X hw (sp69 hE) (C := RX8) (T := TX8) (N := 31) rfl iwX8 25 (by decide) (Nat.le_of_ble_eq_true rfl) qw891 (v := .ref (eP E 84)) rfl dX8_court_30 ?_
        refine lv_iload_n X.1 X.2.1 dX8_court_33 rfl (lv_at hl 1 rfl) ?_
        obtain ⟨h10, hf⟩ := b_ck hf
        refine r_iald X hw (sp84 hE) h10 dX8_court_34 ?_
        refine lv_iconst (v := (-1)) X.1 X.2.1 dX8_court_35 (by decide) ?_
        refine lv_icmp_ne (tgt := 42) X.1 X.2.1 dX8_court_36 (by decide) (fun c11 => ?_) (fun c11 => ?_)
        · have hf := if_e hf c11
          refine lv_aload_n X.1 X.2.1 dX8_court_42 rfl (lv_at hl 0 rfl) ?_
          refine r_get X hw (sp69 hE) (C := RX8) (T := TX8) (N := 31) rfl iwX8 25 (by decide) (Nat.le_of_ble_eq_true rfl) qw891 (v := .ref (eP E 84)) rfl dX8_court_43 ?_
          refine lv_iload_n X.1 X.2.1 dX8_court_46 rfl (lv_at hl 1 rfl) ?_
          obtain ⟨h12, hf⟩ := b_ck hf
          refine r_iald X hw (sp84 hE) h12 dX8_court_47 ?_
          refine lv_iload_n X.1 X.2.1 dX8_court_48 rfl (lv_at hl 2 rfl) ?_
          refine lv_icmp_eq (tgt := 55) X.1 X.2.1 dX8_court_49 (by decide) (fun c13 => ?_) (fun c13 => ?_)
          · have hf := if_t hf c13
            refine lv_iconst (v := 0) X.1 X.2.1 dX8_court_55 (by decide) ?_
            refine lv_istore (lv' := [(5, .int 0), (0, .ref (eP E 69)), (1, .int x1), (2, .int x2), (3, .int x3), (4, .int x4)]) X.1 X.2.1 dX8_court_56 hl (by decide) rfl (fun ls hl => ?_)
            refine lv_iconst (v := 0) X.1 X.2.1 dX8_court_58 (by decide) ?_
            refine lv_istore (lv' := [(6, .int 0), (5, .int 0), (0, .ref (eP E 69)), (1, .int x1), (2, .int x2), (3, .int x3), (4, .int x4)]) X.1 X.2.1 dX8_court_59 hl (by decide) rfl (fun ls hl => ?_)
            obtain ⟨r36, h32, hf⟩ := b_bs hf
            rcases hf with ⟨⟨v33, v34, σ35⟩, rfl, hf⟩ | ⟨⟨r37, σ38⟩, rfl, hf⟩
            · refine w_X8_court_61 X hE  lfu _ _ _ h32 _ _ _ hw (lv_sub hl [2, 3, 4, 5, 6, 1, 0] rfl) (fun yv33 yv34 yσ35 hq H locs ls hw hl => ?_) (fun _ _ hq => by cases hq)
              cases hq
              dsimp only at hf
              refine lv_iload X.1 X.2.1 dX8_court_153 (lv_at hl 5 rfl) ?_
              obtain ⟨rfl, rfl⟩ := Prod.mk.inj (Option.some.inj hf)
              exact r_iret X hw dX8_court_155
            · refine w_X8_court_61 X hE  lfu _ _ _ h32 _ _ _ hw (lv_sub hl [2, 3, 4, 5, 6, 1, 0] rfl) (fun _ _ _ hq => by cases hq) (fun _ _ hq => ?_)
              cases hq
              cases hf
              rfl
          · have hf := if_e hf c13
            refine lv_bipush (v := (-13)) X.1 X.2.1 dX8_court_52 (by decide) ?_
            obtain ⟨rfl, rfl⟩ := Prod.mk.inj (Option.some.inj hf)
            exact r_iret X hw dX8_court_54
        · have hf := if_t hf c11
          refine lv_bipush (v := (-11)) X.1 X.2.1 dX8_court_39 (by decide) ?_
          obtain ⟨rfl, rfl⟩ := Prod.mk.inj (Option.some.inj hf)
          exact r_iret X hw dX8_court_41
      · have hf := if_t hf c9
        refine lv_bipush (v := (-2)) X.1 X.2.1 dX8_court_26 (by decide) ?_
        obtain ⟨rfl, rfl⟩ := Prod.mk.inj (Option.some.inj hf)
        exact r_iret X hw dX8_court_28
abbrev rm_X8_taken : Room := { frames := 2, cells := 0, slots := 0, locals := 121 }
set_option maxHeartbeats 4000000 in
set_option maxRecDepth 100000 in
theorem w_X8_taken_30 {p : Program} {l : Launch} {e : Env} {s : State} {m : MethodId} {args : Array Value} {below : List Frame} {meth : Method} {c : Code} {Q : State → Prop} {E : en_T} (X : Cx E p s m args meth c cX8_taken 4 RX8 (some .int)) (hE : ShF E) {u1 : Int32} {u2 : Int32} {σ : sg_T} {res : Int32} :
    ∀ (n : Nat) (w3 : Int32), itr (fun q => b_X8_taken_30 u1 u2 q σ) n w3 = some res → ∀ (H : Heap) (locs : List Loc) (ls : Array Slot), Hw E σ s H locs → lv_has ls 4 [(0, .ref (eP E 69)), (1, .int u1), (2, .int u2), (3, .int w3)] →
    (∀ (y3 : Int32), res = y3 → ∀ (H : Heap) (locs : List Loc) (ls : Array Slot), Hw E σ s H locs → lv_has ls 4 [(0, .ref (eP E 69)), (1, .int u1), (2, .int u2), (3, .int y3)] → W p l e rm_X8_taken s m args below meth c H locs 0 0 Q (F0 m 50 ls [])) →
    W p l e rm_X8_taken s m args below meth c H locs 0 0 Q (F0 m 30 ls []) := by
  have hR : ShR E := hE.r
  intro n
  induction n with
  | zero =>
    intro w3 hf0
    exact (itr_0 hf0).elim
  | succ n ih =>
    intro w3 hf0 H locs ls hw hl K1
    obtain ⟨r0, hf, hr1, hr2⟩ := itr_s hf0
    have hf : b_X8_taken_30 u1 u2 w3 σ = some r0 := hf
    unfold b_X8_taken_30 at hf
    refine lv_iload_n X.1 X.2.1 dX8_taken_30 rfl (lv_at hl 3 rfl) ?_
    refine lv_iconst (v := (-1)) X.1 X.2.1 dX8_taken_31 (by decide) ?_
    refine lv_icmp_eq (tgt := 50) X.1 X.2.1 dX8_taken_32 (by decide) (fun c9 => ?_) (fun c9 => ?_)
    · have hf := if_t hf c9
      obtain rfl := Option.some.inj hf
      obtain rfl := hr2 _ rfl
      exact K1 _ rfl _ _ _ hw (lv_sub hl [0, 1, 2, 3] rfl)
    · have hf := if_e hf c9
      refine lv_iload_n X.1 X.2.1 dX8_taken_35 rfl (lv_at hl 3 rfl) ?_
      refine lv_iload_n X.1 X.2.1 dX8_taken_36 rfl (lv_at hl 2 rfl) ?_
      refine lv_icmp_eq (tgt := 50) X.1 X.2.1 dX8_taken_37 (by decide) (fun c10 => ?_) (fun c10 => ?_)
      · have hf := if_t hf c10
        obtain rfl := Option.some.inj hf
        obtain rfl := hr2 _ rfl
        exact K1 _ rfl _ _ _ hw (lv_sub hl [0, 1, 2, 3] rfl)
      · have hf := if_e hf c10
        refine lv_aload_n X.1 X.2.1 dX8_taken_40 rfl (lv_at hl 0 rfl) ?_
        refine r_get X hw (sp69 hE) (C := RX8) (T := TX8) (N := 31) rfl iwX8 29 (by decide) (Nat.le_of_ble_eq_true rfl) qw895 (v := .ref (eP E 88)) rfl dX8_taken_41 ?_
        refine lv_iload_n X.1 X.2.1 dX8_taken_44 rfl (lv_at hl 3 rfl) ?_
        obtain ⟨h11, hf⟩ := b_ck hf
        refine r_iald X hw (sp88 hE) h11 dX8_taken_45 ?_
        refine r_bnd hf (fun v12 hf => ?_)
        refine lv_istore_n (lv' := [(3, .int v12), (0, .ref (eP E 69)), (1, .int u1), (2, .int u2)]) X.1 X.2.1 dX8_taken_46 rfl hl (by decide) rfl (fun ls hl => ?_)
        refine lv_goto (tgt := 30) X.1 X.2.1 dX8_taken_47 (by decide) ?_
        obtain rfl := Option.some.inj hf
        exact ih _ (hr1 _ rfl) _ _ _ hw (lv_sub hl [1, 2, 3, 0] rfl) K1
set_option maxHeartbeats 4000000 in
set_option maxRecDepth 100000 in
theorem k_X8_taken {l : Launch} {E : en_T} (hE : ShF E) {x1 : Int32} {x2 : Int32} {σ : sg_T} {r : Int32} (hf : f_X8_taken x1 x2 σ = some r) : Ct l yX8_taken cX8_taken 4 (some .int) rm_X8_taken E [.ref (eP E 69), .int x1, .int x2] σ (some (.int r)) σ := by
  refine Ct.start (by decide) hE.1 (Nat.le_of_ble_eq_true rfl) ?_
  intro p e s m below meth c X hw ls hl
  have X : Cx E p s m _ meth c cX8_taken 4 RX8 (some .int) := X
  have hR : ShR E := hE.r
  have hl : lv_has ls 4 [(0, .ref (eP E 69)), (1, .int x1), (2, .int x2)] := hl
  unfold f_X8_taken at hf
  refine lv_iload_n X.1 X.2.1 dX8_taken_0 rfl (lv_at hl 2 rfl) ?_
  refine lv_iconst (v := 0) X.1 X.2.1 dX8_taken_1 (by decide) ?_
  refine lv_iconst (v := 5) X.1 X.2.1 dX8_taken_2 (by decide) ?_
  obtain ⟨r2, h1, hf⟩ := b_bd1 hf
  refine r_callS X hw (k_X8_isIn hE  h1) qw966 qw967 qw79 qw968 okX8_isIn ⟨rfl, rfl⟩ ⟨(Nat.le_of_ble_eq_true rfl), (Nat.le_of_ble_eq_true rfl)⟩ ⟨Nat.zero_le _, Nat.zero_le _⟩ rfl hl.1 (rest := []) rfl (Nat.le_of_ble_eq_true rfl) dX8_taken_3 (st1 := [.int r2]) rfl (fun H locs hw => ?_)
  refine lv_if_ne (tgt := 12) X.1 X.2.1 dX8_taken_6 (by decide) (fun c3 => ?_) (fun c3 => ?_)
  · have hf := if_e hf c3
    refine lv_aload_n X.1 X.2.1 dX8_taken_12 rfl (lv_at hl 0 rfl) ?_
    refine lv_iload_n X.1 X.2.1 dX8_taken_13 rfl (lv_at hl 1 rfl) ?_
    obtain ⟨r5, h4, hf⟩ := b_bd1 hf
    refine r_callV X hw (k_X8_isOne hE  h4) (sp69 hE) (C := RX8) (T := TX8) (N := 31) rfl qw977 qw979 qw30 qw79 qw980 okX8_isOne ⟨rfl, rfl⟩ ⟨(Nat.le_of_ble_eq_true rfl), (Nat.le_of_ble_eq_true rfl)⟩ ⟨Nat.zero_le _, Nat.zero_le _⟩ rfl hl.1 (rest := []) rfl (Nat.le_of_ble_eq_true rfl) dX8_taken_14 (st1 := [.int r5]) rfl (fun H locs hw => ?_)
    refine lv_if_ne (tgt := 23) X.1 X.2.1 dX8_taken_17 (by decide) (fun c6 => ?_) (fun c6 => ?_)
    · have hf := if_e hf c6
      refine lv_aload_n X.1 X.2.1 dX8_taken_23 rfl (lv_at hl 0 rfl) ?_
      refine lv_iload_n X.1 X.2.1 dX8_taken_24 rfl (lv_at hl 1 rfl) ?_
      refine lv_iconst (v := 0) X.1 X.2.1 dX8_taken_25 (by decide) ?_
      obtain ⟨r8, h7, hf⟩ := b_bd1 hf
      refine r_callV X hw (k_X8_of hE  h7) (sp69 hE) (C := RX8) (T := TX8) (N := 31) rfl qw997 qw999 qw33 qw79 qw1000 okX8_of ⟨rfl, rfl⟩ ⟨(Nat.le_of_ble_eq_true rfl), (Nat.le_of_ble_eq_true rfl)⟩ ⟨Nat.zero_le _, Nat.zero_le _⟩ rfl hl.1 (rest := []) rfl (Nat.le_of_ble_eq_true rfl) dX8_taken_26 (st1 := [.int r8]) rfl (fun H locs hw => ?_)
      refine lv_istore_n (lv' := [(3, .int r8), (0, .ref (eP E 69)), (1, .int x1), (2, .int x2)]) X.1 X.2.1 dX8_taken_29 rfl hl (by decide) rfl (fun ls hl => ?_)
      obtain ⟨v14, h13, hf⟩ := b_bd1 hf
      refine w_X8_taken_30 X hE  lfu _ h13 _ _ _ hw (lv_sub hl [1, 2, 3, 0] rfl) (fun yv14 hq H locs ls hw hl => ?_)
      cases hq
      refine lv_iload_n X.1 X.2.1 dX8_taken_50 rfl (lv_at hl 3 rfl) ?_
      refine lv_iconst (v := (-1)) X.1 X.2.1 dX8_taken_51 (by decide) ?_
      refine lv_icmp_ne (tgt := 60) X.1 X.2.1 dX8_taken_52 (by decide) (fun c15 => ?_) (fun c15 => ?_)
      · have hf := if_e hf c15
        refine lv_aload_n X.1 X.2.1 dX8_taken_60 rfl (lv_at hl 0 rfl) ?_
        refine lv_iload_n X.1 X.2.1 dX8_taken_61 rfl (lv_at hl 1 rfl) ?_
        refine lv_iconst (v := 1) X.1 X.2.1 dX8_taken_62 (by decide) ?_
        obtain ⟨r17, h16, hf⟩ := b_bd1 hf
        refine r_callV X hw (k_X8_of hE  h16) (sp69 hE) (C := RX8) (T := TX8) (N := 31) rfl qw997 qw999 qw33 qw79 qw1000 okX8_of ⟨rfl, rfl⟩ ⟨(Nat.le_of_ble_eq_true rfl), (Nat.le_of_ble_eq_true rfl)⟩ ⟨Nat.zero_le _, Nat.zero_le _⟩ rfl hl.1 (rest := []) rfl (Nat.le_of_ble_eq_true rfl) dX8_taken_63 (st1 := [.int r17]) rfl (fun H locs hw => ?_)
        obtain rfl := Option.some.inj hf
        exact r_iret X hw dX8_taken_66
      · have hf := if_t hf c15
        refine lv_bipush (v := (-13)) X.1 X.2.1 dX8_taken_55 (by decide) ?_
        refine lv_goto (tgt := 66) X.1 X.2.1 dX8_taken_57 (by decide) ?_
        obtain rfl := Option.some.inj hf
        exact r_iret X hw dX8_taken_66
    · have hf := if_t hf c6
      refine lv_bipush (v := (-11)) X.1 X.2.1 dX8_taken_20 (by decide) ?_
      obtain rfl := Option.some.inj hf
      exact r_iret X hw dX8_taken_22
  · have hf := if_t hf c3
    refine lv_bipush (v := (-2)) X.1 X.2.1 dX8_taken_9 (by decide) ?_
    obtain rfl := Option.some.inj hf
    exact r_iret X hw dX8_taken_11
abbrev rm_X8_otherwise : Room := { frames := 7, cells := 0, slots := 0, locals := 240 }
set_option maxHeartbeats 4000000 in
set_option maxRecDepth 100000 in
theorem w_X8_otherwise_13 {p : Program} {l : Launch} {e : Env} {s : State} {m : MethodId} {args : Array Value} {below : List Frame} {meth : Method} {c : Code} {Q : State → Prop} {E : en_T} (X : Cx E p s m args meth c cX8_otherwise 5 RX8 (some .int)) (hE : ShF E) {u1 : Int32} {u2 : Int32}  {res : Int32 × Int32 × sg_T} :
    ∀ (n : Nat) (w3 : Int32) (w4 : Int32) (σ : sg_T), itr (fun q => b_X8_otherwise_13 u1 u2 q.1 q.2.1 q.2.2) n (w3, w4, σ) = some res → ∀ (H : Heap) (locs : List Loc) (ls : Array Slot), Hw E σ s H locs → lv_has ls 5 [(0, .ref (eP E 69)), (1, .int u1), (2, .int u2), (3, .int w3), (4, .int w4)] →
    (∀ (y3 : Int32) (y4 : Int32) (τ : sg_T), res = (y3, y4, τ) → ∀ (H : Heap) (locs : List Loc) (ls : Array Slot), Hw E τ s H locs → lv_has ls 5 [(0, .ref (eP E 69)), (1, .int u1), (2, .int u2), (3, .int y3), (4, .int y4)] → W p l e rm_X8_otherwise s m args below meth c H locs 0 0 Q (F0 m 67 ls [])) →
    W p l e rm_X8_otherwise s m args below meth c H locs 0 0 Q (F0 m 13 ls []) := by
  have hR : ShR E := hE.r
  intro n
  induction n with
  | zero =>
    intro w3 w4 σ hf0
    exact (itr_0 hf0).elim
  | succ n ih =>
    intro w3 w4 σ hf0 H locs ls hw hl K1
    obtain ⟨r0, hf, hr1, hr2⟩ := itr_s hf0
    have hf : b_X8_otherwise_13 u1 u2 w3 w4 σ = some r0 := hf
    unfold b_X8_otherwise_13 at hf
    refine lv_iload X.1 X.2.1 dX8_otherwise_13 (lv_at hl 4 rfl) ?_
    refine lv_aload_n X.1 X.2.1 dX8_otherwise_15 rfl (lv_at hl 0 rfl) ?_
    refine r_get X hw (sp69 hE) (C := RX8) (T := TX8) (N := 31) rfl iwX8 26 (by decide) (Nat.le_of_ble_eq_true rfl) qw892 (v := .ref (eP E 85)) rfl dX8_otherwise_16 ?_
    refine lv_iload_n X.1 X.2.1 dX8_otherwise_19 rfl (lv_at hl 1 rfl) ?_
    obtain ⟨h3, hf⟩ := b_ck hf
    refine r_iald X hw (sp85 hE) h3 dX8_otherwise_20 ?_
    refine lv_icmp_ge (tgt := 67) X.1 X.2.1 dX8_otherwise_21 (by decide) (fun c4 => ?_) (fun c4 => ?_)
    · have hf := if_t hf c4
      obtain rfl := Option.some.inj hf
      obtain rfl := hr2 _ rfl
      exact K1 _ _ _ rfl _ _ _ hw (lv_sub hl [0, 1, 2, 3, 4] rfl)
    · have hf := if_e hf c4
      refine lv_iload_n X.1 X.2.1 dX8_otherwise_24 rfl (lv_at hl 3 rfl) ?_
      refine lv_iconst (v := (-1)) X.1 X.2.1 dX8_otherwise_25 (by decide) ?_
      refine lv_icmp_ne (tgt := 67) X.1 X.2.1 dX8_otherwise_26 (by decide) (fun c5 => ?_) (fun c5 => ?_)
      · have hf := if_e hf c5
        obtain rfl := Option.some.inj hf
        obtain rfl := hr2 _ rfl
        exact K1 _ _ _ rfl _ _ _ hw (lv_sub hl [0, 1, 2, 3, 4] rfl)
      · have hf := if_t hf c5
        refine lv_aload_n X.1 X.2.1 dX8_otherwise_29 rfl (lv_at hl 0 rfl) ?_
        refine lv_iload_n X.1 X.2.1 dX8_otherwise_30 rfl (lv_at hl 2 rfl) ?_
        obtain ⟨r7, σ8, h6, hf⟩ := b_bd2 hf
        refine r_callV X hw (k_X8_wakes hE  h6) (sp69 hE) (C := RX8) (T := TX8) (N := 31) rfl qw1005 qw1007 qw35 qw79 qw1008 okX8_wakes ⟨rfl, rfl⟩ ⟨(Nat.le_of_ble_eq_true rfl), (Nat.le_of_ble_eq_true rfl)⟩ ⟨Nat.zero_le _, Nat.zero_le _⟩ rfl hl.1 (rest := []) rfl (Nat.le_of_ble_eq_true rfl) dX8_otherwise_31 (st1 := [.int r7]) rfl (fun H locs hw => ?_)
        refine lv_aload_n X.1 X.2.1 dX8_otherwise_34 rfl (lv_at hl 0 rfl) ?_
        refine r_get X hw (sp69 hE) (C := RX8) (T := TX8) (N := 31) rfl iwX8 27 (by decide) (Nat.le_of_ble_eq_true rfl) qw893 (v := .ref (eP E 86)) rfl dX8_otherwise_35 ?_
        refine lv_bipush (v := 40) X.1 X.2.1 dX8_otherwise_38 (by decide) ?_
        refine lv_iload_n X.1 X.2.1 dX8_otherwise_40 rfl (lv_at hl 1 rfl) ?_
        refine lv_imul X.1 X.2.1 dX8_otherwise_41 ?_
        refine lv_iload X.1 X.2.1 dX8_otherwise_42 (lv_at hl 4 rfl) ?_
        refine lv_iadd X.1 X.2.1 dX8_otherwise_44 ?_
        obtain ⟨h9, hf⟩ := b_ck hf
        refine r_iald X hw (sp86 hE) h9 dX8_otherwise_45 ?_
        obtain ⟨v11, e12, hf⟩ := b_bnd hf
        refine r_join (g2 := F0 m 55 ls [.int v11]) ?_ (fun hj => ?_)
        · refine lv_istore_n (lv' := [(3, .int v11), (0, .ref (eP E 69)), (1, .int u1), (2, .int u2), (4, .int w4)]) X.1 X.2.1 dX8_otherwise_55 rfl hl (by decide) rfl (fun ls hl => ?_)
          refine lv_aload_n X.1 X.2.1 dX8_otherwise_56 rfl (lv_at hl 1 rfl) ?_
          obtain ⟨r14, σ15, h13, hf⟩ := b_bd2 hf
          refine r_callV X hw (k_X8_goDay hE  h13) (sp69 hE) (C := RX8) (T := TX8) (N := 31) rfl qw1119 qw1121 qw54 qw79 qw1122 okX8_goDay ⟨rfl, rfl⟩ ⟨(Nat.le_of_ble_eq_true rfl), (Nat.le_of_ble_eq_true rfl)⟩ ⟨Nat.zero_le _, Nat.zero_le _⟩ rfl hl.1 (rest := []) rfl (Nat.le_of_ble_eq_true rfl) dX8_otherwise_57 (st1 := [.int r14]) rfl (fun H locs hw => ?_)
          refine lv_pop X.1 X.2.1 dX8_otherwise_60 rfl ?_
          obtain ⟨v16, e17, hf⟩ := b_bnd hf
          refine lv_iinc (v := v16) (k := 4) (lv' := [(4, .int v16), (3, .int v11), (0, .ref (eP E 69)), (1, .int u1), (2, .int u2)]) X.1 X.2.1 dX8_otherwise_61 hl rfl (by rw [e17]; exact congrArg _ (by decide)) (by decide) rfl (fun ls hl => ?_)
          refine lv_goto (tgt := 13) X.1 X.2.1 dX8_otherwise_64 (by decide) ?_
          obtain rfl := Option.some.inj hf
          exact ih _ _ _ (hr1 _ rfl) _ _ _ hw (lv_sub hl [2, 3, 4, 1, 0] rfl) K1
        · refine lv_icmp_ne (tgt := 53) X.1 X.2.1 dX8_otherwise_46 (by decide) (fun c10 => ?_) (fun c10 => ?_)
          · rw [e12, if_neg c10] at hj
            refine lv_iload X.1 X.2.1 dX8_otherwise_53 (lv_at hl 4 rfl) ?_
            exact hj
          · rw [e12, if_pos c10] at hj
            refine lv_iconst (v := (-1)) X.1 X.2.1 dX8_otherwise_49 (by decide) ?_
            refine lv_goto (tgt := 55) X.1 X.2.1 dX8_otherwise_50 (by decide) ?_
            exact hj
set_option maxHeartbeats 4000000 in
set_option maxRecDepth 100000 in
theorem k_X8_otherwise {l : Launch} {E : en_T} (hE : ShF E) {x1 : Int32} {x2 : Int32} {σ : sg_T} {r : Int32} {σ' : sg_T} (hf : f_X8_otherwise x1 x2 σ = some (r, σ')) : Ct l yX8_otherwise cX8_otherwise 5 (some .int) rm_X8_otherwise E [.ref (eP E 69), .int x1, .int x2] σ (some (.int r)) σ' := by
  refine Ct.start (by decide) hE.1 (Nat.le_of_ble_eq_true rfl) ?_
  intro p e s m below meth c X hw ls hl
  have X : Cx E p s m _ meth c cX8_otherwise 5 RX8 (some .int) := X
  have hR : ShR E := hE.r
  have hl : lv_has ls 5 [(0, .ref (eP E 69)), (1, .int x1), (2, .int x2)] := hl
  unfold f_X8_otherwise at hf
  refine lv_aload_n X.1 X.2.1 dX8_otherwise_0 rfl (lv_at hl 0 rfl) ?_
  refine lv_aload_n X.1 X.2.1 dX8_otherwise_1 rfl (lv_at hl 0 rfl) ?_
  refine r_get X hw (sp69 hE) (C := RX8) (T := TX8) (N := 31) rfl iwX8 2 (by decide) (Nat.le_of_ble_eq_true rfl) qw868 (v := .ref (eP E 72)) rfl dX8_otherwise_2 ?_
  obtain ⟨σ2, h1, hf⟩ := b_bd1 hf
  refine r_callV X hw (k_X8_keep hE (Or.inr rfl) h1) (sp69 hE) (C := RX8) (T := TX8) (N := 31) rfl qw1127 qw1129 qw55 qw79 qw1130 okX8_keep ⟨rfl, rfl⟩ ⟨(Nat.le_of_ble_eq_true rfl), (Nat.le_of_ble_eq_true rfl)⟩ ⟨Nat.zero_le _, Nat.zero_le _⟩ rfl hl.1 (rest := []) rfl (Nat.le_of_ble_eq_true rfl) dX8_otherwise_5 (st1 := []) rfl (fun H locs hw => ?_)
  refine lv_iconst (v := (-1)) X.1 X.2.1 dX8_otherwise_8 (by decide) ?_
  refine lv_istore_n (lv' := [(3, .int (-1)), (0, .ref (eP E 69)), (1, .int x1), (2, .int x2)]) X.1 X.2.1 dX8_otherwise_9 rfl hl (by decide) rfl (fun ls hl => ?_)
  refine lv_iconst (v := 0) X.1 X.2.1 dX8_otherwise_10 (by decide) ?_
  refine lv_istore (lv' := [(4, .int 0), (3, .int (-1)), (0, .ref (eP E 69)), (1, .int x1), (2, .int x2)]) X.1 X.2.1 dX8_otherwise_11 hl (by decide) rfl (fun ls hl => ?_)
  obtain ⟨v19, v20, σ21, h18, hf⟩ := b_bd3 hf
  refine w_X8_otherwise_13 X hE  lfu _ _ _ h18 _ _ _ hw (lv_sub hl [2, 3, 4, 1, 0] rfl) (fun yv19 yv20 yσ21 hq H locs ls hw hl => ?_)
  cases hq
  refine lv_aload_n X.1 X.2.1 dX8_otherwise_67 rfl (lv_at hl 0 rfl) ?_
  refine lv_aload_n X.1 X.2.1 dX8_otherwise_68 rfl (lv_at hl 0 rfl) ?_
  refine r_get X hw (sp69 hE) (C := RX8) (T := TX8) (N := 31) rfl iwX8 2 (by decide) (Nat.le_of_ble_eq_true rfl) qw868 (v := .ref (eP E 72)) rfl dX8_otherwise_69 ?_
  obtain ⟨σ23, h22, hf⟩ := b_bd1 hf
  refine r_callV X hw (k_X8_lay hE (Or.inr rfl) h22) (sp69 hE) (C := RX8) (T := TX8) (N := 31) rfl qw1143 qw1145 qw59 qw79 qw1146 okX8_lay ⟨rfl, rfl⟩ ⟨(Nat.le_of_ble_eq_true rfl), (Nat.le_of_ble_eq_true rfl)⟩ ⟨Nat.zero_le _, Nat.zero_le _⟩ rfl hl.1 (rest := []) rfl (Nat.le_of_ble_eq_true rfl) dX8_otherwise_72 (st1 := []) rfl (fun H locs hw => ?_)
  refine lv_iload_n X.1 X.2.1 dX8_otherwise_75 rfl (lv_at hl 3 rfl) ?_
  obtain ⟨rfl, rfl⟩ := Prod.mk.inj (Option.some.inj hf)
  exact r_iret X hw dX8_otherwise_76
abbrev rm_X8_fits : Room := { frames := 8, cells := 0, slots := 0, locals := 264 }
set_option maxHeartbeats 4000000 in
set_option maxRecDepth 100000 in
theorem w_X8_fits_14 {p : Program} {l : Launch} {e : Env} {s : State} {m : MethodId} {args : Array Value} {below : List Frame} {meth : Method} {c : Code} {Q : State → Prop} {E : en_T} (X : Cx E p s m args meth c cX8_fits 8 RX8 (some .int)) (hE : ShF E) {u1 : Int32} {u2 : Int32} {u3 : Int32} {u4 : Int32} {u5 : Int32}  {res : Int32 × Int32 × sg_T} :
    ∀ (n : Nat) (w6 : Int32) (w7 : Int32) (σ : sg_T), itr (fun q => b_X8_fits_14 u1 u2 u3 u4 u5 q.1 q.2.1 q.2.2) n (w6, w7, σ) = some res → ∀ (H : Heap) (locs : List Loc) (ls : Array Slot), Hw E σ s H locs → lv_has ls 8 [(0, .ref (eP E 69)), (1, .int u1), (2, .int u2), (3, .int u3), (4, .int u4), (5, .int u5), (6, .int w6), (7, .int w7)] →
    (∀ (y6 : Int32) (y7 : Int32) (τ : sg_T), res = (y6, y7, τ) → ∀ (H : Heap) (locs : List Loc) (ls : Array Slot), Hw E τ s H locs → lv_has ls 8 [(0, .ref (eP E 69)), (1, .int u1), (2, .int u2), (3, .int u3), (4, .int u4), (5, .int u5), (6, .int y6), (7, .int y7)] → W p l e rm_X8_fits s m args below meth c H locs 0 0 Q (F0 m 87 ls [])) →
    W p l e rm_X8_fits s m args below meth c H locs 0 0 Q (F0 m 14 ls []) := by
  have hR : ShR E := hE.r
  intro n
  induction n with
  | zero =>
    intro w6 w7 σ hf0
    exact (itr_0 hf0).elim
  | succ n ih =>
    intro w6 w7 σ hf0 H locs ls hw hl K1
    obtain ⟨r0, hf, hr1, hr2⟩ := itr_s hf0
    have hf : b_X8_fits_14 u1 u2 u3 u4 u5 w6 w7 σ = some r0 := hf
    unfold b_X8_fits_14 at hf
    refine lv_iload X.1 X.2.1 dX8_fits_14 (lv_at hl 7 rfl) ?_
    refine lv_iload X.1 X.2.1 dX8_fits_16 (lv_at hl 4 rfl) ?_
    refine lv_icmp_gt (tgt := 87) X.1 X.2.1 dX8_fits_18 (by decide) (fun c3 => ?_) (fun c3 => ?_)
    · have hf := if_t hf c3
      obtain rfl := Option.some.inj hf
      obtain rfl := hr2 _ rfl
      exact K1 _ _ _ rfl _ _ _ hw (lv_sub hl [0, 1, 2, 3, 4, 5, 6, 7] rfl)
    · have hf := if_e hf c3
      refine lv_aload_n X.1 X.2.1 dX8_fits_21 rfl (lv_at hl 0 rfl) ?_
      refine r_get X hw (sp69 hE) (C := RX8) (T := TX8) (N := 31) rfl iwX8 0 (by decide) (Nat.le_of_ble_eq_true rfl) qw866 (v := .ref (eP E 70)) rfl dX8_fits_22 ?_
      refine lv_iload_n X.1 X.2.1 dX8_fits_25 rfl (lv_at hl 3 rfl) ?_
      refine lv_iload X.1 X.2.1 dX8_fits_26 (lv_at hl 7 rfl) ?_
      obtain ⟨h4, hf⟩ := b_ck hf
      refine r_iast X hw (sp70 hE) h4 dX8_fits_28 (fun H locs hw => ?_)
      obtain ⟨σ5, e6, hf⟩ := b_bnd hf
      rw [← e6] at hw
      refine lv_aload_n X.1 X.2.1 dX8_fits_29 rfl (lv_at hl 0 rfl) ?_
      refine r_get X hw (sp69 hE) (C := RX8) (T := TX8) (N := 31) rfl iwX8 30 (by decide) (Nat.le_of_ble_eq_true rfl) qw896 (v := .ref (eP E 89)) rfl dX8_fits_30 ?_
      refine lv_iload X.1 X.2.1 dX8_fits_33 (lv_at hl 7 rfl) ?_
      refine lv_aload_n X.1 X.2.1 dX8_fits_35 rfl (lv_at hl 0 rfl) ?_
      refine lv_iload_n X.1 X.2.1 dX8_fits_36 rfl (lv_at hl 1 rfl) ?_
      refine lv_iload_n X.1 X.2.1 dX8_fits_37 rfl (lv_at hl 2 rfl) ?_
      obtain ⟨r8, σ9, h7, hf⟩ := b_bd2 hf
      refine r_callV X hw (k_X8_otherwise hE  h7) (sp69 hE) (C := RX8) (T := TX8) (N := 31) rfl qw1208 qw1210 qw62 qw79 qw1211 okX8_otherwise ⟨rfl, rfl⟩ ⟨(Nat.le_of_ble_eq_true rfl), (Nat.le_of_ble_eq_true rfl)⟩ ⟨Nat.zero_le _, Nat.zero_le _⟩ rfl hl.1 (rest := [.int w7, .ref (eP E 89)]) rfl (Nat.le_of_ble_eq_true rfl) dX8_fits_38 (st1 := [.int r8, .int w7, .ref (eP E 89)]) rfl (fun H locs hw => ?_)
      refine lv_iconst (v := (-1)) X.1 X.2.1 dX8_fits_41 (by decide) ?_
      obtain ⟨v11, e12, hf⟩ := b_bnd hf
      refine r_join (g2 := F0 m 50 ls [.int v11, .int w7, .ref (eP E 89)]) ?_ (fun hj => ?_)
      · obtain ⟨h13, hf⟩ := b_cz hf
        obtain ⟨h14, hf⟩ := b_ck hf
        refine r_zast X hw (sp89 hE) h13 h14 dX8_fits_50 (fun H locs hw => ?_)
        obtain ⟨σ15, e16, hf⟩ := b_bnd hf
        rw [← e16] at hw
        refine lv_iload X.1 X.2.1 dX8_fits_51 (lv_at hl 6 rfl) ?_
        refine lv_iload X.1 X.2.1 dX8_fits_53 (lv_at hl 7 rfl) ?_
        refine lv_bipush (v := 30) X.1 X.2.1 dX8_fits_55 (by decide) ?_
        refine lv_icmp_ge (tgt := 77) X.1 X.2.1 dX8_fits_57 (by decide) (fun c17 => ?_) (fun c17 => ?_)
        · have hf := if_t hf c17
          refine lv_iconst (v := 0) X.1 X.2.1 dX8_fits_77 (by decide) ?_
          refine lv_ior X.1 X.2.1 dX8_fits_78 ?_
          refine r_bnd hf (fun v18 hf => ?_)
          refine lv_istore (lv' := [(6, .int v18), (0, .ref (eP E 69)), (1, .int u1), (2, .int u2), (3, .int u3), (4, .int u4), (5, .int u5), (7, .int w7)]) X.1 X.2.1 dX8_fits_79 hl (by decide) rfl (fun ls hl => ?_)
          obtain ⟨v19, e20, hf⟩ := b_bnd hf
          refine lv_iinc (v := v19) (k := 7) (lv' := [(7, .int v19), (6, .int v18), (0, .ref (eP E 69)), (1, .int u1), (2, .int u2), (3, .int u3), (4, .int u4), (5, .int u5)]) X.1 X.2.1 dX8_fits_81 hl rfl (by rw [e20]; exact congrArg _ (by decide)) (by decide) rfl (fun ls hl => ?_)
          refine lv_goto (tgt := 14) X.1 X.2.1 dX8_fits_84 (by decide) ?_
          obtain rfl := Option.some.inj hf
          exact ih _ _ _ (hr1 _ rfl) _ _ _ hw (lv_sub hl [2, 3, 4, 5, 6, 7, 1, 0] rfl) K1
        · have hf := if_e hf c17
          refine lv_aload_n X.1 X.2.1 dX8_fits_60 rfl (lv_at hl 0 rfl) ?_
          refine r_get X hw (sp69 hE) (C := RX8) (T := TX8) (N := 31) rfl iwX8 30 (by decide) (Nat.le_of_ble_eq_true rfl) qw896 (v := .ref (eP E 89)) rfl dX8_fits_61 ?_
          refine lv_iload X.1 X.2.1 dX8_fits_64 (lv_at hl 7 rfl) ?_
          obtain ⟨h21, hf⟩ := b_ck hf
          refine r_zald X hw (sp89 hE) h21 dX8_fits_66 ?_
          obtain ⟨v23, e24, hf⟩ := b_bnd hf
          refine r_join (g2 := F0 m 78 ls [.int v23, .int w6]) ?_ (fun hj => ?_)
          · refine lv_ior X.1 X.2.1 dX8_fits_78 ?_
            refine r_bnd hf (fun v25 hf => ?_)
            refine lv_istore (lv' := [(6, .int v25), (0, .ref (eP E 69)), (1, .int u1), (2, .int u2), (3, .int u3), (4, .int u4), (5, .int u5), (7, .int w7)]) X.1 X.2.1 dX8_fits_79 hl (by decide) rfl (fun ls hl => ?_)
            obtain ⟨v26, e27, hf⟩ := b_bnd hf
            refine lv_iinc (v := v26) (k := 7) (lv' := [(7, .int v26), (6, .int v25), (0, .ref (eP E 69)), (1, .int u1), (2, .int u2), (3, .int u3), (4, .int u4), (5, .int u5)]) X.1 X.2.1 dX8_fits_81 hl rfl (by rw [e27]; exact congrArg _ (by decide)) (by decide) rfl (fun ls hl => ?_)
            refine lv_goto (tgt := 14) X.1 X.2.1 dX8_fits_84 (by decide) ?_
            obtain rfl := Option.some.inj hf
            exact ih _ _ _ (hr1 _ rfl) _ _ _ hw (lv_sub hl [2, 3, 4, 5, 6, 7, 1, 0] rfl) K1
          · refine lv_if_eq (tgt := 77) X.1 X.2.1 dX8_fits_67 (by decide) (fun c22 => ?_) (fun c22 => ?_)
            · rw [e24, if_pos c22] at hj
              refine lv_iconst (v := 0) X.1 X.2.1 dX8_fits_77 (by decide) ?_
              exact hj
            · rw [e24, if_neg c22] at hj
              refine lv_iconst (v := 1) X.1 X.2.1 dX8_fits_70 (by decide) ?_
              refine lv_iload X.1 X.2.1 dX8_fits_71 (lv_at hl 7 rfl) ?_
              refine lv_ishl X.1 X.2.1 dX8_fits_73 ?_
              refine lv_goto (tgt := 78) X.1 X.2.1 dX8_fits_74 (by decide) ?_
              exact hj
      · refine lv_icmp_ne (tgt := 49) X.1 X.2.1 dX8_fits_42 (by decide) (fun c10 => ?_) (fun c10 => ?_)
        · rw [e12, if_neg c10] at hj
          refine lv_iconst (v := 0) X.1 X.2.1 dX8_fits_49 (by decide) ?_
          exact hj
        · rw [e12, if_pos c10] at hj
          refine lv_iconst (v := 1) X.1 X.2.1 dX8_fits_45 (by decide) ?_
          refine lv_goto (tgt := 50) X.1 X.2.1 dX8_fits_46 (by decide) ?_
          exact hj
set_option maxHeartbeats 4000000 in
set_option maxRecDepth 100000 in
theorem k_X8_fits {l : Launch} {E : en_T} (hE : ShF E) {x1 : Int32} {x2 : Int32} {x3 : Int32} {x4 : Int32} {σ : sg_T} {r : Int32} {σ' : sg_T} (hf : f_X8_fits x1 x2 x3 x4 σ = some (r, σ')) : Ct l yX8_fits cX8_fits 8 (some .int) rm_X8_fits E [.ref (eP E 69), .int x1, .int x2, .int x3, .int x4] σ (some (.int r)) σ' := by
  refine Ct.start (by decide) hE.1 (Nat.le_of_ble_eq_true rfl) ?_
  intro p e s m below meth c X hw ls hl
  have X : Cx E p s m _ meth c cX8_fits 8 RX8 (some .int) := X
  have hR : ShR E := hE.r
  have hl : lv_has ls 8 [(0, .ref (eP E 69)), (1, .int x1), (2, .int x2), (3, .int x3), (4, .int x4)] := hl
  unfold f_X8_fits at hf
  refine lv_aload_n X.1 X.2.1 dX8_fits_0 rfl (lv_at hl 0 rfl) ?_
  refine r_get X hw (sp69 hE) (C := RX8) (T := TX8) (N := 31) rfl iwX8 0 (by decide) (Nat.le_of_ble_eq_true rfl) qw866 (v := .ref (eP E 70)) rfl dX8_fits_1 ?_
  refine lv_iload_n X.1 X.2.1 dX8_fits_4 rfl (lv_at hl 3 rfl) ?_
  obtain ⟨h1, hf⟩ := b_ck hf
  refine r_iald X hw (sp70 hE) h1 dX8_fits_5 ?_
  refine r_bnd hf (fun v2 hf => ?_)
  refine lv_istore (lv' := [(5, .int v2), (0, .ref (eP E 69)), (1, .int x1), (2, .int x2), (3, .int x3), (4, .int x4)]) X.1 X.2.1 dX8_fits_6 hl (by decide) rfl (fun ls hl => ?_)
  refine lv_iconst (v := 0) X.1 X.2.1 dX8_fits_8 (by decide) ?_
  refine lv_istore (lv' := [(6, .int 0), (5, .int v2), (0, .ref (eP E 69)), (1, .int x1), (2, .int x2), (3, .int x3), (4, .int x4)]) X.1 X.2.1 dX8_fits_9 hl (by decide) rfl (fun ls hl => ?_)
  refine lv_iconst (v := 0) X.1 X.2.1 dX8_fits_11 (by decide) ?_
  refine lv_istore (lv' := [(7, .int 0), (6, .int 0), (5, .int v2), (0, .ref (eP E 69)), (1, .int x1), (2, .int x2), (3, .int x3), (4, .int x4)]) X.1 X.2.1 dX8_fits_12 hl (by decide) rfl (fun ls hl => ?_)
  obtain ⟨v29, v30, σ31, h28, hf⟩ := b_bd3 hf
  refine w_X8_fits_14 X hE  lfu _ _ _ h28 _ _ _ hw (lv_sub hl [3, 4, 5, 6, 7, 2, 1, 0] rfl) (fun yv29 yv30 yσ31 hq H locs ls hw hl => ?_)
  cases hq
  refine lv_aload_n X.1 X.2.1 dX8_fits_87 rfl (lv_at hl 0 rfl) ?_
  refine r_get X hw (sp69 hE) (C := RX8) (T := TX8) (N := 31) rfl iwX8 0 (by decide) (Nat.le_of_ble_eq_true rfl) qw866 (v := .ref (eP E 70)) rfl dX8_fits_88 ?_
  refine lv_iload_n X.1 X.2.1 dX8_fits_91 rfl (lv_at hl 3 rfl) ?_
  refine lv_iload X.1 X.2.1 dX8_fits_92 (lv_at hl 5 rfl) ?_
  obtain ⟨h32, hf⟩ := b_ck hf
  refine r_iast X hw (sp70 hE) h32 dX8_fits_94 (fun H locs hw => ?_)
  obtain ⟨σ33, e34, hf⟩ := b_bnd hf
  rw [← e34] at hw
  refine lv_iload X.1 X.2.1 dX8_fits_95 (lv_at hl 6 rfl) ?_
  obtain ⟨rfl, rfl⟩ := Prod.mk.inj (Option.some.inj hf)
  exact r_iret X hw dX8_fits_97
abbrev rm_X8_tiredBy : Room := { frames := 9, cells := 0, slots := 0, locals := 291 }
set_option maxHeartbeats 4000000 in
set_option maxRecDepth 100000 in
theorem w_X8_tiredBy_25 {p : Program} {l : Launch} {e : Env} {s : State} {m : MethodId} {args : Array Value} {below : List Frame} {meth : Method} {c : Code} {Q : State → Prop} {E : en_T} (X : Cx E p s m args meth c cX8_tiredBy 8 RX8 (some .int)) (hE : ShF E) {u1 : Int32} {u2 : Int32} {u3 : Int32} {u4 : Int32} {σ : sg_T} {res : Int32 × Int32 × Int32} :
    ∀ (n : Nat) (w5 : Int32) (w6 : Int32) (w7 : Int32), itr (fun q => b_X8_tiredBy_25 u1 u2 u3 u4 q.1 q.2.1 q.2.2 σ) n (w5, w6, w7) = some res → ∀ (H : Heap) (locs : List Loc) (ls : Array Slot), Hw E σ s H locs → lv_has ls 8 [(0, .ref (eP E 69)), (1, .int u1), (2, .int u2), (3, .int u3), (4, .int u4), (5, .int w5), (6, .int w6), (7, .int w7)] →
    (∀ (y5 : Int32) (y6 : Int32) (y7 : Int32), res = (y5, y6, y7) → ∀ (H : Heap) (locs : List Loc) (ls : Array Slot), Hw E σ s H locs → lv_has ls 8 [(0, .ref (eP E 69)), (1, .int u1), (2, .int u2), (3, .int u3), (4, .int u4), (5, .int y5), (6, .int y6), (7, .int y7)] → W p l e rm_X8_tiredBy s m args below meth c H locs 0 0 Q (F0 m 75 ls [])) →
    W p l e rm_X8_tiredBy s m args below meth c H locs 0 0 Q (F0 m 25 ls []) := by
  have hR : ShR E := hE.r
  intro n
  induction n with
  | zero =>
    intro w5 w6 w7 hf0
    exact (itr_0 hf0).elim
  | succ n ih =>
    intro w5 w6 w7 hf0 H locs ls hw hl K1
    obtain ⟨r0, hf, hr1, hr2⟩ := itr_s hf0
    have hf : b_X8_tiredBy_25 u1 u2 u3 u4 w5 w6 w7 σ = some r0 := hf
    unfold b_X8_tiredBy_25 at hf
    refine lv_iload X.1 X.2.1 dX8_tiredBy_25 (lv_at hl 7 rfl) ?_
    refine lv_if_lt (tgt := 75) X.1 X.2.1 dX8_tiredBy_27 (by decide) (fun c4 => ?_) (fun c4 => ?_)
    · have hf := if_t hf c4
      obtain rfl := Option.some.inj hf
      obtain rfl := hr2 _ rfl
      exact K1 _ _ _ rfl _ _ _ hw (lv_sub hl [0, 1, 2, 3, 4, 5, 6, 7] rfl)
    · have hf := if_e hf c4
      refine lv_iload X.1 X.2.1 dX8_tiredBy_30 (lv_at hl 5 rfl) ?_
      refine lv_aload_n X.1 X.2.1 dX8_tiredBy_32 rfl (lv_at hl 0 rfl) ?_
      refine r_get X hw (sp69 hE) (C := RX8) (T := TX8) (N := 31) rfl iwX8 30 (by decide) (Nat.le_of_ble_eq_true rfl) qw896 (v := .ref (eP E 89)) rfl dX8_tiredBy_33 ?_
      refine lv_iload X.1 X.2.1 dX8_tiredBy_36 (lv_at hl 7 rfl) ?_
      obtain ⟨h5, hf⟩ := b_ck hf
      refine r_zald X hw (sp89 hE) h5 dX8_tiredBy_38 ?_
      obtain ⟨v7, e8, hf⟩ := b_bnd hf
      refine r_join (g2 := F0 m 47 ls [.int v7, .int w5]) ?_ (fun hj => ?_)
      · refine lv_iadd X.1 X.2.1 dX8_tiredBy_47 ?_
        refine r_bnd hf (fun v9 hf => ?_)
        refine lv_istore (lv' := [(5, .int v9), (0, .ref (eP E 69)), (1, .int u1), (2, .int u2), (3, .int u3), (4, .int u4), (6, .int w6), (7, .int w7)]) X.1 X.2.1 dX8_tiredBy_48 hl (by decide) rfl (fun ls hl => ?_)
        refine lv_aload_n X.1 X.2.1 dX8_tiredBy_50 rfl (lv_at hl 1 rfl) ?_
        refine r_get X hw (sp69 hE) (C := RX8) (T := TX8) (N := 31) rfl iwX8 30 (by decide) (Nat.le_of_ble_eq_true rfl) qw896 (v := .ref (eP E 89)) rfl dX8_tiredBy_51 ?_
        refine lv_iload X.1 X.2.1 dX8_tiredBy_54 (lv_at hl 7 rfl) ?_
        obtain ⟨h10, hf⟩ := b_ck hf
        refine r_zald X hw (sp89 hE) h10 dX8_tiredBy_56 ?_
        obtain ⟨v12, e13, hf⟩ := b_bnd hf
        refine r_join (g2 := F0 m 67 ls [.int v12]) ?_ (fun hj => ?_)
        · refine lv_istore (lv' := [(6, .int v12), (5, .int v9), (0, .ref (eP E 69)), (1, .int u1), (2, .int u2), (3, .int u3), (4, .int u4), (7, .int w7)]) X.1 X.2.1 dX8_tiredBy_67 hl (by decide) rfl (fun ls hl => ?_)
          obtain ⟨v14, e15, hf⟩ := b_bnd hf
          refine lv_iinc (v := v14) (k := 7) (lv' := [(7, .int v14), (6, .int v12), (5, .int v9), (0, .ref (eP E 69)), (1, .int u1), (2, .int u2), (3, .int u3), (4, .int u4)]) X.1 X.2.1 dX8_tiredBy_69 hl rfl (by rw [e15]; exact congrArg _ (by decide)) (by decide) rfl (fun ls hl => ?_)
          refine lv_goto (tgt := 25) X.1 X.2.1 dX8_tiredBy_72 (by decide) ?_
          obtain rfl := Option.some.inj hf
          exact ih _ _ _ (hr1 _ rfl) _ _ _ hw (lv_sub hl [3, 4, 5, 6, 7, 2, 1, 0] rfl) K1
        · refine lv_if_eq (tgt := 65) X.1 X.2.1 dX8_tiredBy_57 (by decide) (fun c11 => ?_) (fun c11 => ?_)
          · rw [e13, if_pos c11] at hj
            refine lv_iload X.1 X.2.1 dX8_tiredBy_65 (lv_at hl 6 rfl) ?_
            exact hj
          · rw [e13, if_neg c11] at hj
            refine lv_iload X.1 X.2.1 dX8_tiredBy_60 (lv_at hl 7 rfl) ?_
            refine lv_goto (tgt := 67) X.1 X.2.1 dX8_tiredBy_62 (by decide) ?_
            exact hj
      · refine lv_if_eq (tgt := 46) X.1 X.2.1 dX8_tiredBy_39 (by decide) (fun c6 => ?_) (fun c6 => ?_)
        · rw [e8, if_pos c6] at hj
          refine lv_iconst (v := 0) X.1 X.2.1 dX8_tiredBy_46 (by decide) ?_
          exact hj
        · rw [e8, if_neg c6] at hj
          refine lv_iconst (v := 1) X.1 X.2.1 dX8_tiredBy_42 (by decide) ?_
          refine lv_goto (tgt := 47) X.1 X.2.1 dX8_tiredBy_43 (by decide) ?_
          exact hj
set_option maxHeartbeats 4000000 in
set_option maxRecDepth 100000 in
theorem k_X8_tiredBy {l : Launch} {E : en_T} (hE : ShF E) {x1 : Int32} {x2 : Int32} {x3 : Int32} {x4 : Int32} {σ : sg_T} {r : Int32} {σ' : sg_T} (hf : f_X8_tiredBy x1 x2 x3 x4 σ = some (r, σ')) : Ct l yX8_tiredBy cX8_tiredBy 8 (some .int) rm_X8_tiredBy E [.ref (eP E 69), .int x1, .int x2, .int x3, .int x4] σ (some (.int r)) σ' := by
  refine Ct.start (by decide) hE.1 (Nat.le_of_ble_eq_true rfl) ?_
  intro p e s m below meth c X hw ls hl
  have X : Cx E p s m _ meth c cX8_tiredBy 8 RX8 (some .int) := X
  have hR : ShR E := hE.r
  have hl : lv_has ls 8 [(0, .ref (eP E 69)), (1, .int x1), (2, .int x2), (3, .int x3), (4, .int x4)] := hl
  unfold f_X8_tiredBy at hf
  refine lv_aload_n X.1 X.2.1 dX8_tiredBy_0 rfl (lv_at hl 0 rfl) ?_
  refine lv_iload_n X.1 X.2.1 dX8_tiredBy_1 rfl (lv_at hl 1 rfl) ?_
  refine lv_iload_n X.1 X.2.1 dX8_tiredBy_2 rfl (lv_at hl 2 rfl) ?_
  refine lv_bipush (v := 11) X.1 X.2.1 dX8_tiredBy_3 (by decide) ?_
  refine lv_iload_n X.1 X.2.1 dX8_tiredBy_5 rfl (lv_at hl 3 rfl) ?_
  refine lv_imul X.1 X.2.1 dX8_tiredBy_6 ?_
  refine lv_iconst (v := 3) X.1 X.2.1 dX8_tiredBy_7 (by decide) ?_
  refine lv_iadd X.1 X.2.1 dX8_tiredBy_8 ?_
  refine lv_bipush (v := 99) X.1 X.2.1 dX8_tiredBy_9 (by decide) ?_
  obtain ⟨r2, σ3, h1, hf⟩ := b_bd2 hf
  refine r_callV X hw (k_X8_fits hE  h1) (sp69 hE) (C := RX8) (T := TX8) (N := 31) rfl qw1212 qw1214 qw63 qw79 qw1215 okX8_fits ⟨rfl, rfl⟩ ⟨(Nat.le_of_ble_eq_true rfl), (Nat.le_of_ble_eq_true rfl)⟩ ⟨Nat.zero_le _, Nat.zero_le _⟩ rfl hl.1 (rest := []) rfl (Nat.le_of_ble_eq_true rfl) dX8_tiredBy_11 (st1 := [.int r2]) rfl (fun H locs hw => ?_)
  refine lv_pop X.1 X.2.1 dX8_tiredBy_14 rfl ?_
  refine lv_iconst (v := 0) X.1 X.2.1 dX8_tiredBy_15 (by decide) ?_
  refine lv_istore (lv' := [(5, .int 0), (0, .ref (eP E 69)), (1, .int x1), (2, .int x2), (3, .int x3), (4, .int x4)]) X.1 X.2.1 dX8_tiredBy_16 hl (by decide) rfl (fun ls hl => ?_)
  refine lv_iconst (v := (-1)) X.1 X.2.1 dX8_tiredBy_18 (by decide) ?_
  refine lv_istore (lv' := [(6, .int (-1)), (5, .int 0), (0, .ref (eP E 69)), (1, .int x1), (2, .int x2), (3, .int x3), (4, .int x4)]) X.1 X.2.1 dX8_tiredBy_19 hl (by decide) rfl (fun ls hl => ?_)
  refine lv_bipush (v := 99) X.1 X.2.1 dX8_tiredBy_21 (by decide) ?_
  refine lv_istore (lv' := [(7, .int 99), (6, .int (-1)), (5, .int 0), (0, .ref (eP E 69)), (1, .int x1), (2, .int x2), (3, .int x3), (4, .int x4)]) X.1 X.2.1 dX8_tiredBy_23 hl (by decide) rfl (fun ls hl => ?_)
  obtain ⟨v17, v18, v19, h16, hf⟩ := b_bd3 hf
  refine w_X8_tiredBy_25 X hE  lfu _ _ _ h16 _ _ _ hw (lv_sub hl [3, 4, 5, 6, 7, 2, 1, 0] rfl) (fun yv17 yv18 yv19 hq H locs ls hw hl => ?_)
  cases hq
  refine lv_iload X.1 X.2.1 dX8_tiredBy_75 (lv_at hl 4 rfl) ?_
  obtain ⟨v21, e22, hf⟩ := b_bnd hf
  refine r_join (g2 := F0 m 87 ls [.int v21]) ?_ (fun hj => ?_)
  · obtain ⟨rfl, rfl⟩ := Prod.mk.inj (Option.some.inj hf)
    exact r_iret X hw dX8_tiredBy_87
  · refine lv_if_eq (tgt := 85) X.1 X.2.1 dX8_tiredBy_77 (by decide) (fun c20 => ?_) (fun c20 => ?_)
    · rw [e22, if_pos c20] at hj
      refine lv_iload X.1 X.2.1 dX8_tiredBy_85 (lv_at hl 6 rfl) ?_
      exact hj
    · rw [e22, if_neg c20] at hj
      refine lv_iload X.1 X.2.1 dX8_tiredBy_80 (lv_at hl 5 rfl) ?_
      refine lv_goto (tgt := 87) X.1 X.2.1 dX8_tiredBy_82 (by decide) ?_
      exact hj
abbrev rm_X8_tells : Room := { frames := 10, cells := 0, slots := 0, locals := 318 }
set_option maxHeartbeats 4000000 in
set_option maxRecDepth 100000 in
theorem w_X8_tells_198 {p : Program} {l : Launch} {e : Env} {s : State} {m : MethodId} {args : Array Value} {below : List Frame} {meth : Method} {c : Code} {Q : State → Prop} {E : en_T} (X : Cx E p s m args meth c cX8_tells 7 RX8 (some .int)) (hE : ShF E) {u1 : Int32} {u2 : Int32} {u3 : Int32} {u4 : Int32}  {res : Int32 × Int32 × sg_T} :
    ∀ (n : Nat) (w5 : Int32) (w6 : Int32) (σ : sg_T), itr (fun q => b_X8_tells_198 u1 u2 u3 u4 q.1 q.2.1 q.2.2) n (w5, w6, σ) = some res → ∀ (H : Heap) (locs : List Loc) (ls : Array Slot), Hw E σ s H locs → lv_has ls 7 [(0, .ref (eP E 69)), (1, .int u1), (2, .int u2), (3, .int u3), (4, .int u4), (5, .int w5), (6, .int w6)] →
    (∀ (y5 : Int32) (y6 : Int32) (τ : sg_T), res = (y5, y6, τ) → ∀ (H : Heap) (locs : List Loc) (ls : Array Slot), Hw E τ s H locs → lv_has ls 7 [(0, .ref (eP E 69)), (1, .int u1), (2, .int u2), (3, .int u3), (4, .int u4), (5, .int y5), (6, .int y6)] → W p l e rm_X8_tells s m args below meth c H locs 0 0 Q (F0 m 237 ls [])) →
    W p l e rm_X8_tells s m args below meth c H locs 0 0 Q (F0 m 198 ls []) := by
  have hR : ShR E := hE.r
  intro n
  induction n with
  | zero =>
    intro w5 w6 σ hf0
    exact (itr_0 hf0).elim
  | succ n ih =>
    intro w5 w6 σ hf0 H locs ls hw hl K1
    obtain ⟨r0, hf, hr1, hr2⟩ := itr_s hf0
    have hf : b_X8_tells_198 u1 u2 u3 u4 w5 w6 σ = some r0 := hf
    unfold b_X8_tells_198 at hf
    refine lv_iload X.1 X.2.1 dX8_tells_198 (lv_at hl 6 rfl) ?_
    refine lv_aload_n X.1 X.2.1 dX8_tells_200 rfl (lv_at hl 0 rfl) ?_
    obtain ⟨r52, h51, hf⟩ := b_bd1 hf
    refine r_callV X hw (k_X8_many hE  h51) (sp69 hE) (C := RX8) (T := TX8) (N := 31) rfl qw985 qw987 qw31 qw79 qw988 okX8_many ⟨rfl, rfl⟩ ⟨(Nat.le_of_ble_eq_true rfl), (Nat.le_of_ble_eq_true rfl)⟩ ⟨Nat.zero_le _, Nat.zero_le _⟩ rfl hl.1 (rest := [.int w6]) rfl (Nat.le_of_ble_eq_true rfl) dX8_tells_201 (st1 := [.int r52, .int w6]) rfl (fun H locs hw => ?_)
    refine lv_icmp_ge (tgt := 237) X.1 X.2.1 dX8_tells_204 (by decide) (fun c53 => ?_) (fun c53 => ?_)
    · have hf := if_t hf c53
      obtain rfl := Option.some.inj hf
      obtain rfl := hr2 _ rfl
      exact K1 _ _ _ rfl _ _ _ hw (lv_sub hl [0, 1, 2, 3, 4, 5, 6] rfl)
    · have hf := if_e hf c53
      refine lv_iload X.1 X.2.1 dX8_tells_207 (lv_at hl 5 rfl) ?_
      refine lv_aload_n X.1 X.2.1 dX8_tells_209 rfl (lv_at hl 0 rfl) ?_
      refine lv_iload_n X.1 X.2.1 dX8_tells_210 rfl (lv_at hl 1 rfl) ?_
      refine lv_iload X.1 X.2.1 dX8_tells_211 (lv_at hl 6 rfl) ?_
      obtain ⟨r55, σ56, h54, hf⟩ := b_bd2 hf
      refine r_callV X hw (k_X8_otherwise hE  h54) (sp69 hE) (C := RX8) (T := TX8) (N := 31) rfl qw1208 qw1210 qw62 qw79 qw1211 okX8_otherwise ⟨rfl, rfl⟩ ⟨(Nat.le_of_ble_eq_true rfl), (Nat.le_of_ble_eq_true rfl)⟩ ⟨Nat.zero_le _, Nat.zero_le _⟩ rfl hl.1 (rest := [.int w5]) rfl (Nat.le_of_ble_eq_true rfl) dX8_tells_213 (st1 := [.int r55, .int w5]) rfl (fun H locs hw => ?_)
      refine lv_iconst (v := (-1)) X.1 X.2.1 dX8_tells_216 (by decide) ?_
      obtain ⟨v58, e59, hf⟩ := b_bnd hf
      refine r_join (g2 := F0 m 228 ls [.int v58, .int w5]) ?_ (fun hj => ?_)
      · refine lv_ior X.1 X.2.1 dX8_tells_228 ?_
        refine r_bnd hf (fun v60 hf => ?_)
        refine lv_istore (lv' := [(5, .int v60), (0, .ref (eP E 69)), (1, .int u1), (2, .int u2), (3, .int u3), (4, .int u4), (6, .int w6)]) X.1 X.2.1 dX8_tells_229 hl (by decide) rfl (fun ls hl => ?_)
        obtain ⟨v61, e62, hf⟩ := b_bnd hf
        refine lv_iinc (v := v61) (k := 6) (lv' := [(6, .int v61), (5, .int v60), (0, .ref (eP E 69)), (1, .int u1), (2, .int u2), (3, .int u3), (4, .int u4)]) X.1 X.2.1 dX8_tells_231 hl rfl (by rw [e62]; exact congrArg _ (by decide)) (by decide) rfl (fun ls hl => ?_)
        refine lv_goto (tgt := 198) X.1 X.2.1 dX8_tells_234 (by decide) ?_
        obtain rfl := Option.some.inj hf
        exact ih _ _ _ (hr1 _ rfl) _ _ _ hw (lv_sub hl [2, 3, 4, 5, 6, 1, 0] rfl) K1
      · refine lv_icmp_ne (tgt := 227) X.1 X.2.1 dX8_tells_217 (by decide) (fun c57 => ?_) (fun c57 => ?_)
        · rw [e59, if_neg c57] at hj
          refine lv_iconst (v := 0) X.1 X.2.1 dX8_tells_227 (by decide) ?_
          exact hj
        · rw [e59, if_pos c57] at hj
          refine lv_iconst (v := 1) X.1 X.2.1 dX8_tells_220 (by decide) ?_
          refine lv_iload X.1 X.2.1 dX8_tells_221 (lv_at hl 6 rfl) ?_
          refine lv_ishl X.1 X.2.1 dX8_tells_223 ?_
          refine lv_goto (tgt := 228) X.1 X.2.1 dX8_tells_224 (by decide) ?_
          exact hj
set_option maxHeartbeats 4000000 in
set_option maxRecDepth 100000 in
theorem k_X8_tells {l : Launch} {E : en_T} (hE : ShF E) {x1 : Int32} {x2 : Int32} {x3 : Int32} {x4 : Int32} {σ : sg_T} {r : Int32} {σ' : sg_T} (hf : f_X8_tells x1 x2 x3 x4 σ = some (r, σ')) : Ct l yX8_tells cX8_tells 7 (some .int) rm_X8_tells E [.ref (eP E 69), .int x1, .int x2, .int x3, .int x4] σ (some (.int r)) σ' := by
  refine Ct.start (by decide) hE.1 (Nat.le_of_ble_eq_true rfl) ?_
  intro p e s m below meth c X hw ls hl
  have X : Cx E p s m _ meth c cX8_tells 7 RX8 (some .int) := X
  have hR : ShR E := hE.r
  have hl : lv_has ls 7 [(0, .ref (eP E 69)), (1, .int x1), (2, .int x2), (3, .int x3), (4, .int x4)] := hl
  unfold f_X8_tells at hf
  refine lv_iload_n X.1 X.2.1 dX8_tells_0 rfl (lv_at hl 1 rfl) ?_
  obtain ⟨r2, h1, hf⟩ := b_bd1 hf
  refine r_callS X hw (k_X8_isSheet hE  h1) qw1184 qw1185 qw79 qw1186 okX8_isSheet ⟨rfl, rfl⟩ ⟨(Nat.le_of_ble_eq_true rfl), (Nat.le_of_ble_eq_true rfl)⟩ ⟨Nat.zero_le _, Nat.zero_le _⟩ rfl hl.1 (rest := []) rfl (Nat.le_of_ble_eq_true rfl) dX8_tells_1 (st1 := [.int r2]) rfl (fun H locs hw => ?_)
  refine lv_if_eq (tgt := 34) X.1 X.2.1 dX8_tells_4 (by decide) (fun c3 => ?_) (fun c3 => ?_)
  · have hf := if_t hf c3
    refine lv_bipush (v := (-2)) X.1 X.2.1 dX8_tells_34 (by decide) ?_
    obtain ⟨rfl, rfl⟩ := Prod.mk.inj (Option.some.inj hf)
    exact r_iret X hw dX8_tells_36
  · have hf := if_e hf c3
    refine lv_aload_n X.1 X.2.1 dX8_tells_7 rfl (lv_at hl 0 rfl) ?_
    refine lv_iload_n X.1 X.2.1 dX8_tells_8 rfl (lv_at hl 2 rfl) ?_
    obtain ⟨r5, h4, hf⟩ := b_bd1 hf
    refine r_callV X hw (k_X8_isOne hE  h4) (sp69 hE) (C := RX8) (T := TX8) (N := 31) rfl qw977 qw979 qw30 qw79 qw980 okX8_isOne ⟨rfl, rfl⟩ ⟨(Nat.le_of_ble_eq_true rfl), (Nat.le_of_ble_eq_true rfl)⟩ ⟨Nat.zero_le _, Nat.zero_le _⟩ rfl hl.1 (rest := []) rfl (Nat.le_of_ble_eq_true rfl) dX8_tells_9 (st1 := [.int r5]) rfl (fun H locs hw => ?_)
    refine lv_if_eq (tgt := 34) X.1 X.2.1 dX8_tells_12 (by decide) (fun c6 => ?_) (fun c6 => ?_)
    · have hf := if_t hf c6
      refine lv_bipush (v := (-2)) X.1 X.2.1 dX8_tells_34 (by decide) ?_
      obtain ⟨rfl, rfl⟩ := Prod.mk.inj (Option.some.inj hf)
      exact r_iret X hw dX8_tells_36
    · have hf := if_e hf c6
      refine lv_aload_n X.1 X.2.1 dX8_tells_15 rfl (lv_at hl 0 rfl) ?_
      refine lv_iload_n X.1 X.2.1 dX8_tells_16 rfl (lv_at hl 3 rfl) ?_
      obtain ⟨r8, h7, hf⟩ := b_bd1 hf
      refine r_callV X hw (k_X8_isOne hE  h7) (sp69 hE) (C := RX8) (T := TX8) (N := 31) rfl qw977 qw979 qw30 qw79 qw980 okX8_isOne ⟨rfl, rfl⟩ ⟨(Nat.le_of_ble_eq_true rfl), (Nat.le_of_ble_eq_true rfl)⟩ ⟨Nat.zero_le _, Nat.zero_le _⟩ rfl hl.1 (rest := []) rfl (Nat.le_of_ble_eq_true rfl) dX8_tells_17 (st1 := [.int r8]) rfl (fun H locs hw => ?_)
      refine lv_if_eq (tgt := 34) X.1 X.2.1 dX8_tells_20 (by decide) (fun c9 => ?_) (fun c9 => ?_)
      · have hf := if_t hf c9
        refine lv_bipush (v := (-2)) X.1 X.2.1 dX8_tells_34 (by decide) ?_
        obtain ⟨rfl, rfl⟩ := Prod.mk.inj (Option.some.inj hf)
        exact r_iret X hw dX8_tells_36
      · have hf := if_e hf c9
        refine lv_iload X.1 X.2.1 dX8_tells_23 (lv_at hl 4 rfl) ?_
        refine lv_iconst (v := 0) X.1 X.2.1 dX8_tells_25 (by decide) ?_
        refine lv_bipush (v := 7) X.1 X.2.1 dX8_tells_26 (by decide) ?_
        obtain ⟨r11, h10, hf⟩ := b_bd1 hf
        refine r_callS X hw (k_X8_isIn hE  h10) qw966 qw967 qw79 qw968 okX8_isIn ⟨rfl, rfl⟩ ⟨(Nat.le_of_ble_eq_true rfl), (Nat.le_of_ble_eq_true rfl)⟩ ⟨Nat.zero_le _, Nat.zero_le _⟩ rfl hl.1 (rest := []) rfl (Nat.le_of_ble_eq_true rfl) dX8_tells_28 (st1 := [.int r11]) rfl (fun H locs hw => ?_)
        refine lv_if_ne (tgt := 37) X.1 X.2.1 dX8_tells_31 (by decide) (fun c12 => ?_) (fun c12 => ?_)
        · have hf := if_e hf c12
          refine lv_aload_n X.1 X.2.1 dX8_tells_37 rfl (lv_at hl 0 rfl) ?_
          refine r_get X hw (sp69 hE) (C := RX8) (T := TX8) (N := 31) rfl iwX8 25 (by decide) (Nat.le_of_ble_eq_true rfl) qw891 (v := .ref (eP E 84)) rfl dX8_tells_38 ?_
          refine lv_iload_n X.1 X.2.1 dX8_tells_41 rfl (lv_at hl 1 rfl) ?_
          obtain ⟨h13, hf⟩ := b_ck hf
          refine r_iald X hw (sp84 hE) h13 dX8_tells_42 ?_
          refine lv_iconst (v := (-1)) X.1 X.2.1 dX8_tells_43 (by decide) ?_
          refine lv_icmp_ne (tgt := 50) X.1 X.2.1 dX8_tells_44 (by decide) (fun c14 => ?_) (fun c14 => ?_)
          · have hf := if_e hf c14
            refine lv_aload_n X.1 X.2.1 dX8_tells_50 rfl (lv_at hl 0 rfl) ?_
            refine r_get X hw (sp69 hE) (C := RX8) (T := TX8) (N := 31) rfl iwX8 26 (by decide) (Nat.le_of_ble_eq_true rfl) qw892 (v := .ref (eP E 85)) rfl dX8_tells_51 ?_
            refine lv_iload_n X.1 X.2.1 dX8_tells_54 rfl (lv_at hl 1 rfl) ?_
            obtain ⟨h15, hf⟩ := b_ck hf
            refine r_iald X hw (sp85 hE) h15 dX8_tells_55 ?_
            refine lv_bipush (v := 20) X.1 X.2.1 dX8_tells_56 (by decide) ?_
            refine lv_icmp_le (tgt := 64) X.1 X.2.1 dX8_tells_58 (by decide) (fun c16 => ?_) (fun c16 => ?_)
            · have hf := if_t hf c16
              refine lv_iconst (v := 0) X.1 X.2.1 dX8_tells_64 (by decide) ?_
              refine lv_istore (lv' := [(5, .int 0), (0, .ref (eP E 69)), (1, .int x1), (2, .int x2), (3, .int x3), (4, .int x4)]) X.1 X.2.1 dX8_tells_65 hl (by decide) rfl (fun ls hl => ?_)
              refine lv_iload X.1 X.2.1 dX8_tells_67 (lv_at hl 5 rfl) ?_
              by_cases c17 : x4 = 0
              · have hf := if_t hf c17
                refine lv_tableIn (x := x4) (tgt := 112) (off := 43) X.1 X.2.1 dX8_tells_69 (by rw [c17]; decide) (by rw [c17]; decide) (by rw [c17]; decide) (by decide) ?_
                refine lv_aload_n X.1 X.2.1 dX8_tells_112 rfl (lv_at hl 1 rfl) ?_
                refine lv_iload_n X.1 X.2.1 dX8_tells_113 rfl (lv_at hl 2 rfl) ?_
                refine lv_iload_n X.1 X.2.1 dX8_tells_114 rfl (lv_at hl 3 rfl) ?_
                obtain ⟨r19, σ20, h18, hf⟩ := b_bd2 hf
                refine r_callV X hw (k_X8_otherwise hE  h18) (sp69 hE) (C := RX8) (T := TX8) (N := 31) rfl qw1208 qw1210 qw62 qw79 qw1211 okX8_otherwise ⟨rfl, rfl⟩ ⟨(Nat.le_of_ble_eq_true rfl), (Nat.le_of_ble_eq_true rfl)⟩ ⟨Nat.zero_le _, Nat.zero_le _⟩ rfl hl.1 (rest := []) rfl (Nat.le_of_ble_eq_true rfl) dX8_tells_115 (st1 := [.int r19]) rfl (fun H locs hw => ?_)
                obtain ⟨rfl, rfl⟩ := Prod.mk.inj (Option.some.inj hf)
                exact r_iret X hw dX8_tells_118
              have hf := if_e hf c17
              by_cases c21 : x4 = 1
              · have hf := if_t hf c21
                refine lv_tableIn (x := x4) (tgt := 119) (off := 50) X.1 X.2.1 dX8_tells_69 (by rw [c21]; decide) (by rw [c21]; decide) (by rw [c21]; decide) (by decide) ?_
                refine lv_aload_n X.1 X.2.1 dX8_tells_119 rfl (lv_at hl 1 rfl) ?_
                refine lv_iload_n X.1 X.2.1 dX8_tells_120 rfl (lv_at hl 2 rfl) ?_
                refine lv_iload_n X.1 X.2.1 dX8_tells_121 rfl (lv_at hl 3 rfl) ?_
                refine lv_bipush (v := 11) X.1 X.2.1 dX8_tells_122 (by decide) ?_
                refine lv_iload_n X.1 X.2.1 dX8_tells_124 rfl (lv_at hl 4 rfl) ?_
                refine lv_imul X.1 X.2.1 dX8_tells_125 ?_
                refine lv_iconst (v := 5) X.1 X.2.1 dX8_tells_126 (by decide) ?_
                obtain ⟨r23, σ24, h22, hf⟩ := b_bd2 hf
                refine r_callV X hw (k_X8_fits hE  h22) (sp69 hE) (C := RX8) (T := TX8) (N := 31) rfl qw1212 qw1214 qw63 qw79 qw1215 okX8_fits ⟨rfl, rfl⟩ ⟨(Nat.le_of_ble_eq_true rfl), (Nat.le_of_ble_eq_true rfl)⟩ ⟨Nat.zero_le _, Nat.zero_le _⟩ rfl hl.1 (rest := []) rfl (Nat.le_of_ble_eq_true rfl) dX8_tells_127 (st1 := [.int r23]) rfl (fun H locs hw => ?_)
                obtain ⟨rfl, rfl⟩ := Prod.mk.inj (Option.some.inj hf)
                exact r_iret X hw dX8_tells_130
              have hf := if_e hf c21
              by_cases c25 : x4 = 2
              · have hf := if_t hf c25
                refine lv_tableIn (x := x4) (tgt := 131) (off := 62) X.1 X.2.1 dX8_tells_69 (by rw [c25]; decide) (by rw [c25]; decide) (by rw [c25]; decide) (by decide) ?_
                refine lv_aload_n X.1 X.2.1 dX8_tells_131 rfl (lv_at hl 1 rfl) ?_
                refine lv_iload_n X.1 X.2.1 dX8_tells_132 rfl (lv_at hl 2 rfl) ?_
                refine lv_iload_n X.1 X.2.1 dX8_tells_133 rfl (lv_at hl 3 rfl) ?_
                refine lv_bipush (v := 11) X.1 X.2.1 dX8_tells_134 (by decide) ?_
                refine lv_iload_n X.1 X.2.1 dX8_tells_136 rfl (lv_at hl 4 rfl) ?_
                refine lv_imul X.1 X.2.1 dX8_tells_137 ?_
                refine lv_iconst (v := 1) X.1 X.2.1 dX8_tells_138 (by decide) ?_
                refine lv_iadd X.1 X.2.1 dX8_tells_139 ?_
                refine lv_bipush (v := 9) X.1 X.2.1 dX8_tells_140 (by decide) ?_
                obtain ⟨r27, σ28, h26, hf⟩ := b_bd2 hf
                refine r_callV X hw (k_X8_fits hE  h26) (sp69 hE) (C := RX8) (T := TX8) (N := 31) rfl qw1212 qw1214 qw63 qw79 qw1215 okX8_fits ⟨rfl, rfl⟩ ⟨(Nat.le_of_ble_eq_true rfl), (Nat.le_of_ble_eq_true rfl)⟩ ⟨Nat.zero_le _, Nat.zero_le _⟩ rfl hl.1 (rest := []) rfl (Nat.le_of_ble_eq_true rfl) dX8_tells_142 (st1 := [.int r27]) rfl (fun H locs hw => ?_)
                obtain ⟨rfl, rfl⟩ := Prod.mk.inj (Option.some.inj hf)
                exact r_iret X hw dX8_tells_145
              have hf := if_e hf c25
              by_cases c29 : x4 = 3
              · have hf := if_t hf c29
                refine lv_tableIn (x := x4) (tgt := 146) (off := 77) X.1 X.2.1 dX8_tells_69 (by rw [c29]; decide) (by rw [c29]; decide) (by rw [c29]; decide) (by decide) ?_
                refine lv_aload_n X.1 X.2.1 dX8_tells_146 rfl (lv_at hl 1 rfl) ?_
                refine lv_iload_n X.1 X.2.1 dX8_tells_147 rfl (lv_at hl 2 rfl) ?_
                refine lv_iload_n X.1 X.2.1 dX8_tells_148 rfl (lv_at hl 3 rfl) ?_
                refine lv_iload_n X.1 X.2.1 dX8_tells_149 rfl (lv_at hl 4 rfl) ?_
                refine lv_iload X.1 X.2.1 dX8_tells_150 (lv_at hl 5 rfl) ?_
                refine lv_iconst (v := 3) X.1 X.2.1 dX8_tells_152 (by decide) ?_
                obtain ⟨v31, e32, hf⟩ := b_bnd hf
                refine r_join (g2 := F0 m 161 ls [.int v31, .int x3, .int x2, .int x1, .ref (eP E 69)]) ?_ (fun hj => ?_)
                · obtain ⟨r34, σ35, h33, hf⟩ := b_bd2 hf
                  refine r_callV X hw (k_X8_tiredBy hE  h33) (sp69 hE) (C := RX8) (T := TX8) (N := 31) rfl qw1216 qw1218 qw64 qw79 qw1219 okX8_tiredBy ⟨rfl, rfl⟩ ⟨(Nat.le_of_ble_eq_true rfl), (Nat.le_of_ble_eq_true rfl)⟩ ⟨Nat.zero_le _, Nat.zero_le _⟩ rfl hl.1 (rest := []) rfl (Nat.le_of_ble_eq_true rfl) dX8_tells_161 (st1 := [.int r34]) rfl (fun H locs hw => ?_)
                  obtain ⟨rfl, rfl⟩ := Prod.mk.inj (Option.some.inj hf)
                  exact r_iret X hw dX8_tells_164
                · refine lv_icmp_ne (tgt := 160) X.1 X.2.1 dX8_tells_153 (by decide) (fun c30 => ?_) (fun c30 => ?_)
                  · rw [e32, if_neg c30] at hj
                    refine lv_iconst (v := 0) X.1 X.2.1 dX8_tells_160 (by decide) ?_
                    exact hj
                  · rw [e32, if_pos c30] at hj
                    refine lv_iconst (v := 1) X.1 X.2.1 dX8_tells_156 (by decide) ?_
                    refine lv_goto (tgt := 161) X.1 X.2.1 dX8_tells_157 (by decide) ?_
                    exact hj
              have hf := if_e hf c29
              by_cases c36 : x4 = 4
              · have hf := if_t hf c36
                refine lv_tableIn (x := x4) (tgt := 146) (off := 77) X.1 X.2.1 dX8_tells_69 (by rw [c36]; decide) (by rw [c36]; decide) (by rw [c36]; decide) (by decide) ?_
                refine lv_aload_n X.1 X.2.1 dX8_tells_146 rfl (lv_at hl 1 rfl) ?_
                refine lv_iload_n X.1 X.2.1 dX8_tells_147 rfl (lv_at hl 2 rfl) ?_
                refine lv_iload_n X.1 X.2.1 dX8_tells_148 rfl (lv_at hl 3 rfl) ?_
                refine lv_iload_n X.1 X.2.1 dX8_tells_149 rfl (lv_at hl 4 rfl) ?_
                refine lv_iload X.1 X.2.1 dX8_tells_150 (lv_at hl 5 rfl) ?_
                refine lv_iconst (v := 3) X.1 X.2.1 dX8_tells_152 (by decide) ?_
                obtain ⟨v38, e39, hf⟩ := b_bnd hf
                refine r_join (g2 := F0 m 161 ls [.int v38, .int x3, .int x2, .int x1, .ref (eP E 69)]) ?_ (fun hj => ?_)
                · obtain ⟨r41, σ42, h40, hf⟩ := b_bd2 hf
                  refine r_callV X hw (k_X8_tiredBy hE  h40) (sp69 hE) (C := RX8) (T := TX8) (N := 31) rfl qw1216 qw1218 qw64 qw79 qw1219 okX8_tiredBy ⟨rfl, rfl⟩ ⟨(Nat.le_of_ble_eq_true rfl), (Nat.le_of_ble_eq_true rfl)⟩ ⟨Nat.zero_le _, Nat.zero_le _⟩ rfl hl.1 (rest := []) rfl (Nat.le_of_ble_eq_true rfl) dX8_tells_161 (st1 := [.int r41]) rfl (fun H locs hw => ?_)
                  obtain ⟨rfl, rfl⟩ := Prod.mk.inj (Option.some.inj hf)
                  exact r_iret X hw dX8_tells_164
                · refine lv_icmp_ne (tgt := 160) X.1 X.2.1 dX8_tells_153 (by decide) (fun c37 => ?_) (fun c37 => ?_)
                  · rw [e39, if_neg c37] at hj
                    refine lv_iconst (v := 0) X.1 X.2.1 dX8_tells_160 (by decide) ?_
                    exact hj
                  · rw [e39, if_pos c37] at hj
                    refine lv_iconst (v := 1) X.1 X.2.1 dX8_tells_156 (by decide) ?_
                    refine lv_goto (tgt := 161) X.1 X.2.1 dX8_tells_157 (by decide) ?_
                    exact hj
              have hf := if_e hf c36
              by_cases c43 : x4 = 5
              · have hf := if_t hf c43
                refine lv_tableIn (x := x4) (tgt := 165) (off := 96) X.1 X.2.1 dX8_tells_69 (by rw [c43]; decide) (by rw [c43]; decide) (by rw [c43]; decide) (by decide) ?_
                refine lv_aload_n X.1 X.2.1 dX8_tells_165 rfl (lv_at hl 1 rfl) ?_
                refine lv_iload_n X.1 X.2.1 dX8_tells_166 rfl (lv_at hl 2 rfl) ?_
                refine lv_iload_n X.1 X.2.1 dX8_tells_167 rfl (lv_at hl 3 rfl) ?_
                refine lv_bipush (v := 11) X.1 X.2.1 dX8_tells_168 (by decide) ?_
                refine lv_iload_n X.1 X.2.1 dX8_tells_170 rfl (lv_at hl 3 rfl) ?_
                refine lv_imul X.1 X.2.1 dX8_tells_171 ?_
                refine lv_iconst (v := 2) X.1 X.2.1 dX8_tells_172 (by decide) ?_
                refine lv_iadd X.1 X.2.1 dX8_tells_173 ?_
                refine lv_bipush (v := 23) X.1 X.2.1 dX8_tells_174 (by decide) ?_
                obtain ⟨r45, σ46, h44, hf⟩ := b_bd2 hf
                refine r_callV X hw (k_X8_fits hE  h44) (sp69 hE) (C := RX8) (T := TX8) (N := 31) rfl qw1212 qw1214 qw63 qw79 qw1215 okX8_fits ⟨rfl, rfl⟩ ⟨(Nat.le_of_ble_eq_true rfl), (Nat.le_of_ble_eq_true rfl)⟩ ⟨Nat.zero_le _, Nat.zero_le _⟩ rfl hl.1 (rest := []) rfl (Nat.le_of_ble_eq_true rfl) dX8_tells_176 (st1 := [.int r45]) rfl (fun H locs hw => ?_)
                obtain ⟨rfl, rfl⟩ := Prod.mk.inj (Option.some.inj hf)
                exact r_iret X hw dX8_tells_179
              have hf := if_e hf c43
              by_cases c47 : x4 = 6
              · have hf := if_t hf c47
                refine lv_tableIn (x := x4) (tgt := 180) (off := 111) X.1 X.2.1 dX8_tells_69 (by rw [c47]; decide) (by rw [c47]; decide) (by rw [c47]; decide) (by decide) ?_
                refine lv_aload_n X.1 X.2.1 dX8_tells_180 rfl (lv_at hl 1 rfl) ?_
                refine lv_iload_n X.1 X.2.1 dX8_tells_181 rfl (lv_at hl 2 rfl) ?_
                refine lv_iload_n X.1 X.2.1 dX8_tells_182 rfl (lv_at hl 3 rfl) ?_
                refine lv_bipush (v := 57) X.1 X.2.1 dX8_tells_183 (by decide) ?_
                refine lv_aload_n X.1 X.2.1 dX8_tells_185 rfl (lv_at hl 1 rfl) ?_
                refine r_get X hw (sp69 hE) (C := RX8) (T := TX8) (N := 31) rfl iwX8 13 (by decide) (Nat.le_of_ble_eq_true rfl) qw879 (v := .int (σ 69 13)) rfl dX8_tells_186 ?_
                refine lv_iconst (v := 1) X.1 X.2.1 dX8_tells_189 (by decide) ?_
                refine lv_isub X.1 X.2.1 dX8_tells_190 ?_
                obtain ⟨r49, σ50, h48, hf⟩ := b_bd2 hf
                refine r_callV X hw (k_X8_fits hE  h48) (sp69 hE) (C := RX8) (T := TX8) (N := 31) rfl qw1212 qw1214 qw63 qw79 qw1215 okX8_fits ⟨rfl, rfl⟩ ⟨(Nat.le_of_ble_eq_true rfl), (Nat.le_of_ble_eq_true rfl)⟩ ⟨Nat.zero_le _, Nat.zero_le _⟩ rfl hl.1 (rest := []) rfl (Nat.le_of_ble_eq_true rfl) dX8_tells_191 (st1 := [.int r49]) rfl (fun H locs hw => ?_)
                obtain ⟨rfl, rfl⟩ := Prod.mk.inj (Option.some.inj hf)
                exact r_iret X hw dX8_tells_194
              have hf := if_e hf c47
              have c17t := lv_neT (a := 0) c17 (by decide)
              have c21t := lv_neT (a := 1) c21 (by decide)
              have c25t := lv_neT (a := 2) c25 (by decide)
              have c29t := lv_neT (a := 3) c29 (by decide)
              have c36t := lv_neT (a := 4) c36 (by decide)
              have c43t := lv_neT (a := 5) c43 (by decide)
              have c47t := lv_neT (a := 6) c47 (by decide)
              refine lv_tableOut (x := x4) (tgt := 195) X.1 X.2.1 dX8_tells_69 (by omega) (by decide) ?_
              refine lv_iconst (v := 0) X.1 X.2.1 dX8_tells_195 (by decide) ?_
              refine lv_istore (lv' := [(6, .int 0), (5, .int 0), (0, .ref (eP E 69)), (1, .int x1), (2, .int x2), (3, .int x3), (4, .int x4)]) X.1 X.2.1 dX8_tells_196 hl (by decide) rfl (fun ls hl => ?_)
              obtain ⟨v64, v65, σ66, h63, hf⟩ := b_bd3 hf
              refine w_X8_tells_198 X hE  lfu _ _ _ h63 _ _ _ hw (lv_sub hl [2, 3, 4, 5, 6, 1, 0] rfl) (fun yv64 yv65 yσ66 hq H locs ls hw hl => ?_)
              cases hq
              refine lv_iload X.1 X.2.1 dX8_tells_237 (lv_at hl 5 rfl) ?_
              obtain ⟨rfl, rfl⟩ := Prod.mk.inj (Option.some.inj hf)
              exact r_iret X hw dX8_tells_239
            · have hf := if_e hf c16
              refine lv_bipush (v := (-2)) X.1 X.2.1 dX8_tells_61 (by decide) ?_
              obtain ⟨rfl, rfl⟩ := Prod.mk.inj (Option.some.inj hf)
              exact r_iret X hw dX8_tells_63
          · have hf := if_t hf c14
            refine lv_bipush (v := (-11)) X.1 X.2.1 dX8_tells_47 (by decide) ?_
            obtain ⟨rfl, rfl⟩ := Prod.mk.inj (Option.some.inj hf)
            exact r_iret X hw dX8_tells_49
        · have hf := if_t hf c12
          refine lv_bipush (v := (-2)) X.1 X.2.1 dX8_tells_34 (by decide) ?_
          obtain ⟨rfl, rfl⟩ := Prod.mk.inj (Option.some.inj hf)
          exact r_iret X hw dX8_tells_36
abbrev rm_X8_film : Room := { frames := 7, cells := 0, slots := 0, locals := 240 }
set_option maxHeartbeats 4000000 in
set_option maxRecDepth 100000 in
theorem w_X8_film_47 {p : Program} {l : Launch} {e : Env} {s : State} {m : MethodId} {args : Array Value} {below : List Frame} {meth : Method} {c : Code} {Q : State → Prop} {E : en_T} (X : Cx E p s m args meth c cX8_film 5 RX8 (some .int)) (hE : ShF E) {u1 : Int32} {u2 : Int32} {u3 : Int32}  {res : Int32 × sg_T} :
    ∀ (n : Nat) (w4 : Int32) (σ : sg_T), itr (fun q => b_X8_film_47 u1 u2 u3 q.1 q.2) n (w4, σ) = some res → ∀ (H : Heap) (locs : List Loc) (ls : Array Slot), Hw E σ s H locs → lv_has ls 5 [(0, .ref (eP E 69)), (1, .int u1), (2, .int u2), (3, .int u3), (4, .int w4)] →
    (∀ (y4 : Int32) (τ : sg_T), res = (y4, τ) → ∀ (H : Heap) (locs : List Loc) (ls : Array Slot), Hw E τ s H locs → lv_has ls 5 [(0, .ref (eP E 69)), (1, .int u1), (2, .int u2), (3, .int u3), (4, .int y4)] → W p l e rm_X8_film s m args below meth c H locs 0 0 Q (F0 m 81 ls [])) →
    W p l e rm_X8_film s m args below meth c H locs 0 0 Q (F0 m 47 ls []) := by
  have hR : ShR E := hE.r
  intro n
  induction n with
  | zero =>
    intro w4 σ hf0
    exact (itr_0 hf0).elim
  | succ n ih =>
    intro w4 σ hf0 H locs ls hw hl K1
    obtain ⟨r0, hf, hr1, hr2⟩ := itr_s hf0
    have hf : b_X8_film_47 u1 u2 u3 w4 σ = some r0 := hf
    unfold b_X8_film_47 at hf
    refine lv_iload X.1 X.2.1 dX8_film_47 (lv_at hl 4 rfl) ?_
    refine lv_iload_n X.1 X.2.1 dX8_film_49 rfl (lv_at hl 3 rfl) ?_
    refine lv_icmp_ge (tgt := 81) X.1 X.2.1 dX8_film_50 (by decide) (fun c15 => ?_) (fun c15 => ?_)
    · have hf := if_t hf c15
      obtain rfl := Option.some.inj hf
      obtain rfl := hr2 _ rfl
      exact K1 _ _ rfl _ _ _ hw (lv_sub hl [0, 1, 2, 3, 4] rfl)
    · have hf := if_e hf c15
      refine lv_aload_n X.1 X.2.1 dX8_film_53 rfl (lv_at hl 0 rfl) ?_
      refine r_get X hw (sp69 hE) (C := RX8) (T := TX8) (N := 31) rfl iwX8 27 (by decide) (Nat.le_of_ble_eq_true rfl) qw893 (v := .ref (eP E 86)) rfl dX8_film_54 ?_
      refine lv_bipush (v := 40) X.1 X.2.1 dX8_film_57 (by decide) ?_
      refine lv_iload_n X.1 X.2.1 dX8_film_59 rfl (lv_at hl 1 rfl) ?_
      refine lv_imul X.1 X.2.1 dX8_film_60 ?_
      refine lv_iload X.1 X.2.1 dX8_film_61 (lv_at hl 4 rfl) ?_
      refine lv_iadd X.1 X.2.1 dX8_film_63 ?_
      refine lv_aload_n X.1 X.2.1 dX8_film_64 rfl (lv_at hl 0 rfl) ?_
      refine lv_iload_n X.1 X.2.1 dX8_film_65 rfl (lv_at hl 2 rfl) ?_
      obtain ⟨r17, σ18, h16, hf⟩ := b_bd2 hf
      refine r_callV X hw (k_X8_wakes hE  h16) (sp69 hE) (C := RX8) (T := TX8) (N := 31) rfl qw1005 qw1007 qw35 qw79 qw1008 okX8_wakes ⟨rfl, rfl⟩ ⟨(Nat.le_of_ble_eq_true rfl), (Nat.le_of_ble_eq_true rfl)⟩ ⟨Nat.zero_le _, Nat.zero_le _⟩ rfl hl.1 (rest := [.int ((40 * u1) + w4), .ref (eP E 86)]) rfl (Nat.le_of_ble_eq_true rfl) dX8_film_66 (st1 := [.int r17, .int ((40 * u1) + w4), .ref (eP E 86)]) rfl (fun H locs hw => ?_)
      obtain ⟨h19, hf⟩ := b_ck hf
      refine r_iast X hw (sp86 hE) h19 dX8_film_69 (fun H locs hw => ?_)
      obtain ⟨σ20, e21, hf⟩ := b_bnd hf
      rw [← e21] at hw
      refine lv_aload_n X.1 X.2.1 dX8_film_70 rfl (lv_at hl 0 rfl) ?_
      obtain ⟨r23, σ24, h22, hf⟩ := b_bd2 hf
      refine r_callV X hw (k_X8_goDay hE  h22) (sp69 hE) (C := RX8) (T := TX8) (N := 31) rfl qw1119 qw1121 qw54 qw79 qw1122 okX8_goDay ⟨rfl, rfl⟩ ⟨(Nat.le_of_ble_eq_true rfl), (Nat.le_of_ble_eq_true rfl)⟩ ⟨Nat.zero_le _, Nat.zero_le _⟩ rfl hl.1 (rest := []) rfl (Nat.le_of_ble_eq_true rfl) dX8_film_71 (st1 := [.int r23]) rfl (fun H locs hw => ?_)
      refine lv_pop X.1 X.2.1 dX8_film_74 rfl ?_
      obtain ⟨v25, e26, hf⟩ := b_bnd hf
      refine lv_iinc (v := v25) (k := 4) (lv' := [(4, .int v25), (0, .ref (eP E 69)), (1, .int u1), (2, .int u2), (3, .int u3)]) X.1 X.2.1 dX8_film_75 hl rfl (by rw [e26]; exact congrArg _ (by decide)) (by decide) rfl (fun ls hl => ?_)
      refine lv_goto (tgt := 47) X.1 X.2.1 dX8_film_78 (by decide) ?_
      obtain rfl := Option.some.inj hf
      exact ih _ _ (hr1 _ rfl) _ _ _ hw (lv_sub hl [1, 2, 3, 4, 0] rfl) K1
set_option maxHeartbeats 4000000 in
set_option maxRecDepth 100000 in
theorem k_X8_film {l : Launch} {E : en_T} (hE : ShF E) {x1 : Int32} {x2 : Int32} {x3 : Int32} {σ : sg_T} {r : Int32} {σ' : sg_T} (hf : f_X8_film x1 x2 x3 σ = some (r, σ')) : Ct l yX8_film cX8_film 5 (some .int) rm_X8_film E [.ref (eP E 69), .int x1, .int x2, .int x3] σ (some (.int r)) σ' := by
  refine Ct.start (by decide) hE.1 (Nat.le_of_ble_eq_true rfl) ?_
  intro p e s m below meth c X hw ls hl
  have X : Cx E p s m _ meth c cX8_film 5 RX8 (some .int) := X
  have hR : ShR E := hE.r
  have hl : lv_has ls 5 [(0, .ref (eP E 69)), (1, .int x1), (2, .int x2), (3, .int x3)] := hl
  unfold f_X8_film at hf
  refine lv_iload_n X.1 X.2.1 dX8_film_0 rfl (lv_at hl 1 rfl) ?_
  obtain ⟨r2, h1, hf⟩ := b_bd1 hf
  refine r_callS X hw (k_X8_isSheet hE  h1) qw1184 qw1185 qw79 qw1186 okX8_isSheet ⟨rfl, rfl⟩ ⟨(Nat.le_of_ble_eq_true rfl), (Nat.le_of_ble_eq_true rfl)⟩ ⟨Nat.zero_le _, Nat.zero_le _⟩ rfl hl.1 (rest := []) rfl (Nat.le_of_ble_eq_true rfl) dX8_film_1 (st1 := [.int r2]) rfl (fun H locs hw => ?_)
  refine lv_if_eq (tgt := 25) X.1 X.2.1 dX8_film_4 (by decide) (fun c3 => ?_) (fun c3 => ?_)
  · have hf := if_t hf c3
    refine lv_bipush (v := (-2)) X.1 X.2.1 dX8_film_25 (by decide) ?_
    obtain ⟨rfl, rfl⟩ := Prod.mk.inj (Option.some.inj hf)
    exact r_iret X hw dX8_film_27
  · have hf := if_e hf c3
    refine lv_aload_n X.1 X.2.1 dX8_film_7 rfl (lv_at hl 0 rfl) ?_
    refine lv_iload_n X.1 X.2.1 dX8_film_8 rfl (lv_at hl 2 rfl) ?_
    obtain ⟨r5, h4, hf⟩ := b_bd1 hf
    refine r_callV X hw (k_X8_isOne hE  h4) (sp69 hE) (C := RX8) (T := TX8) (N := 31) rfl qw977 qw979 qw30 qw79 qw980 okX8_isOne ⟨rfl, rfl⟩ ⟨(Nat.le_of_ble_eq_true rfl), (Nat.le_of_ble_eq_true rfl)⟩ ⟨Nat.zero_le _, Nat.zero_le _⟩ rfl hl.1 (rest := []) rfl (Nat.le_of_ble_eq_true rfl) dX8_film_9 (st1 := [.int r5]) rfl (fun H locs hw => ?_)
    refine lv_if_eq (tgt := 25) X.1 X.2.1 dX8_film_12 (by decide) (fun c6 => ?_) (fun c6 => ?_)
    · have hf := if_t hf c6
      refine lv_bipush (v := (-2)) X.1 X.2.1 dX8_film_25 (by decide) ?_
      obtain ⟨rfl, rfl⟩ := Prod.mk.inj (Option.some.inj hf)
      exact r_iret X hw dX8_film_27
    · have hf := if_e hf c6
      refine lv_iload_n X.1 X.2.1 dX8_film_15 rfl (lv_at hl 3 rfl) ?_
      refine lv_iconst (v := 0) X.1 X.2.1 dX8_film_16 (by decide) ?_
      refine lv_bipush (v := 20) X.1 X.2.1 dX8_film_17 (by decide) ?_
      obtain ⟨r8, h7, hf⟩ := b_bd1 hf
      refine r_callS X hw (k_X8_isIn hE  h7) qw966 qw967 qw79 qw968 okX8_isIn ⟨rfl, rfl⟩ ⟨(Nat.le_of_ble_eq_true rfl), (Nat.le_of_ble_eq_true rfl)⟩ ⟨Nat.zero_le _, Nat.zero_le _⟩ rfl hl.1 (rest := []) rfl (Nat.le_of_ble_eq_true rfl) dX8_film_19 (st1 := [.int r8]) rfl (fun H locs hw => ?_)
      refine lv_if_ne (tgt := 28) X.1 X.2.1 dX8_film_22 (by decide) (fun c9 => ?_) (fun c9 => ?_)
      · have hf := if_e hf c9
        refine lv_aload_n X.1 X.2.1 dX8_film_28 rfl (lv_at hl 0 rfl) ?_
        refine lv_iload_n X.1 X.2.1 dX8_film_29 rfl (lv_at hl 1 rfl) ?_
        refine lv_iconst (v := 0) X.1 X.2.1 dX8_film_30 (by decide) ?_
        refine lv_iload_n X.1 X.2.1 dX8_film_31 rfl (lv_at hl 3 rfl) ?_
        obtain ⟨r11, σ12, h10, hf⟩ := b_bd2 hf
        refine r_callV X hw (k_X8_sheet hE  h10) (sp69 hE) (C := RX8) (T := TX8) (N := 31) rfl qw1224 qw1181 qw1182 qw79 qw1183 okX8_sheet ⟨rfl, rfl⟩ ⟨(Nat.le_of_ble_eq_true rfl), (Nat.le_of_ble_eq_true rfl)⟩ ⟨Nat.zero_le _, Nat.zero_le _⟩ rfl hl.1 (rest := []) rfl (Nat.le_of_ble_eq_true rfl) dX8_film_32 (st1 := [.int r11]) rfl (fun H locs hw => ?_)
        refine lv_pop X.1 X.2.1 dX8_film_35 rfl ?_
        refine lv_aload_n X.1 X.2.1 dX8_film_36 rfl (lv_at hl 0 rfl) ?_
        refine lv_aload_n X.1 X.2.1 dX8_film_37 rfl (lv_at hl 0 rfl) ?_
        refine r_get X hw (sp69 hE) (C := RX8) (T := TX8) (N := 31) rfl iwX8 2 (by decide) (Nat.le_of_ble_eq_true rfl) qw868 (v := .ref (eP E 72)) rfl dX8_film_38 ?_
        obtain ⟨σ14, h13, hf⟩ := b_bd1 hf
        refine r_callV X hw (k_X8_keep hE (Or.inr rfl) h13) (sp69 hE) (C := RX8) (T := TX8) (N := 31) rfl qw1127 qw1129 qw55 qw79 qw1130 okX8_keep ⟨rfl, rfl⟩ ⟨(Nat.le_of_ble_eq_true rfl), (Nat.le_of_ble_eq_true rfl)⟩ ⟨Nat.zero_le _, Nat.zero_le _⟩ rfl hl.1 (rest := []) rfl (Nat.le_of_ble_eq_true rfl) dX8_film_41 (st1 := []) rfl (fun H locs hw => ?_)
        refine lv_iconst (v := 0) X.1 X.2.1 dX8_film_44 (by decide) ?_
        refine lv_istore (lv' := [(4, .int 0), (0, .ref (eP E 69)), (1, .int x1), (2, .int x2), (3, .int x3)]) X.1 X.2.1 dX8_film_45 hl (by decide) rfl (fun ls hl => ?_)
        obtain ⟨v28, σ29, h27, hf⟩ := b_bd2 hf
        refine w_X8_film_47 X hE  lfu _ _ h27 _ _ _ hw (lv_sub hl [1, 2, 3, 4, 0] rfl) (fun yv28 yσ29 hq H locs ls hw hl => ?_)
        cases hq
        refine lv_aload_n X.1 X.2.1 dX8_film_81 rfl (lv_at hl 0 rfl) ?_
        refine lv_aload_n X.1 X.2.1 dX8_film_82 rfl (lv_at hl 0 rfl) ?_
        refine r_get X hw (sp69 hE) (C := RX8) (T := TX8) (N := 31) rfl iwX8 2 (by decide) (Nat.le_of_ble_eq_true rfl) qw868 (v := .ref (eP E 72)) rfl dX8_film_83 ?_
        obtain ⟨σ31, h30, hf⟩ := b_bd1 hf
        refine r_callV X hw (k_X8_lay hE (Or.inr rfl) h30) (sp69 hE) (C := RX8) (T := TX8) (N := 31) rfl qw1143 qw1145 qw59 qw79 qw1146 okX8_lay ⟨rfl, rfl⟩ ⟨(Nat.le_of_ble_eq_true rfl), (Nat.le_of_ble_eq_true rfl)⟩ ⟨Nat.zero_le _, Nat.zero_le _⟩ rfl hl.1 (rest := []) rfl (Nat.le_of_ble_eq_true rfl) dX8_film_86 (st1 := []) rfl (fun H locs hw => ?_)
        refine lv_iload_n X.1 X.2.1 dX8_film_89 rfl (lv_at hl 3 rfl) ?_
        obtain ⟨rfl, rfl⟩ := Prod.mk.inj (Option.some.inj hf)
        exact r_iret X hw dX8_film_90
      · have hf := if_t hf c9
        refine lv_bipush (v := (-2)) X.1 X.2.1 dX8_film_25 (by decide) ?_
        obtain ⟨rfl, rfl⟩ := Prod.mk.inj (Option.some.inj hf)
        exact r_iret X hw dX8_film_27
abbrev rm_X8_drawn : Room := { frames := 7, cells := 0, slots := 0, locals := 240 }
set_option maxHeartbeats 4000000 in
set_option maxRecDepth 100000 in
theorem w_X8_drawn_26 {p : Program} {l : Launch} {e : Env} {s : State} {m : MethodId} {args : Array Value} {below : List Frame} {meth : Method} {c : Code} {Q : State → Prop} {E : en_T} (X : Cx E p s m args meth c cX8_drawn 7 RX8 (some .int)) (hE : ShF E) {u1 : Int32} {u2 : Int32}  {res : Int32 × Int32 × sg_T} :
    ∀ (n : Nat) (w3 : Int32) (w4 : Int32) (σ : sg_T), itr (fun q => b_X8_drawn_26 u1 u2 q.1 q.2.1 q.2.2) n (w3, w4, σ) = some res → ∀ (H : Heap) (locs : List Loc) (ls : Array Slot), Hw E σ s H locs → lv_has ls 7 [(0, .ref (eP E 69)), (1, .int u1), (2, .int u2), (3, .int w3), (4, .int w4)] →
    (∀ (y3 : Int32) (y4 : Int32) (τ : sg_T), res = (y3, y4, τ) → ∀ (H : Heap) (locs : List Loc) (ls : Array Slot), Hw E τ s H locs → lv_has ls 7 [(0, .ref (eP E 69)), (1, .int u1), (2, .int u2), (3, .int y3), (4, .int y4)] → W p l e rm_X8_drawn s m args below meth c H locs 0 0 Q (F0 m 104 ls [])) →
    W p l e rm_X8_drawn s m args below meth c H locs 0 0 Q (F0 m 26 ls []) := by
  have hR : ShR E := hE.r
  intro n
  induction n with
  | zero =>
    intro w3 w4 σ hf0
    exact (itr_0 hf0).elim
  | succ n ih =>
    intro w3 w4 σ hf0 H locs ls hw hl K1
    obtain ⟨r0, hf, hr1, hr2⟩ := itr_s hf0
    have hf : b_X8_drawn_26 u1 u2 w3 w4 σ = some r0 := hf
    unfold b_X8_drawn_26 at hf
    refine lv_iload X.1 X.2.1 dX8_drawn_26 (lv_at hl 4 rfl) ?_
    refine lv_iload_n X.1 X.2.1 dX8_drawn_28 rfl (lv_at hl 2 rfl) ?_
    refine lv_icmp_ge (tgt := 104) X.1 X.2.1 dX8_drawn_29 (by decide) (fun c6 => ?_) (fun c6 => ?_)
    · have hf := if_t hf c6
      obtain rfl := Option.some.inj hf
      obtain rfl := hr2 _ rfl
      exact K1 _ _ _ rfl _ _ _ hw (lv_sub hl [0, 1, 2, 3, 4] rfl)
    · have hf := if_e hf c6
      refine lv_iload_n X.1 X.2.1 dX8_drawn_32 rfl (lv_at hl 3 rfl) ?_
      refine lv_ldcw (v := 1103515245) X.1 X.2.1 X.2.2.2.1 (X.2.2.2.2.1 _ qw1229) dX8_drawn_33 ?_
      refine lv_imul X.1 X.2.1 dX8_drawn_36 ?_
      refine lv_sipush (v := 12345) X.1 X.2.1 dX8_drawn_37 (by decide) ?_
      refine lv_iadd X.1 X.2.1 dX8_drawn_40 ?_
      refine r_bnd hf (fun v7 hf => ?_)
      refine lv_istore_n (lv' := [(3, .int v7), (0, .ref (eP E 69)), (1, .int u1), (2, .int u2), (4, .int w4)]) X.1 X.2.1 dX8_drawn_41 rfl hl (by decide) rfl (fun ls hl => ?_)
      refine lv_iload_n X.1 X.2.1 dX8_drawn_42 rfl (lv_at hl 0 rfl) ?_
      refine lv_bipush (v := 9) X.1 X.2.1 dX8_drawn_43 (by decide) ?_
      refine r_iushr X dX8_drawn_45 ?_
      refine lv_bipush (v := 8) X.1 X.2.1 dX8_drawn_46 (by decide) ?_
      refine r_irem X dX8_drawn_48 (by decide) ?_
      refine r_bnd hf (fun v8 hf => ?_)
      refine lv_istore (lv' := [(5, .int v8), (3, .int v7), (0, .ref (eP E 69)), (1, .int u1), (2, .int u2), (4, .int w4)]) X.1 X.2.1 dX8_drawn_49 hl (by decide) rfl (fun ls hl => ?_)
      refine lv_iload_n X.1 X.2.1 dX8_drawn_51 rfl (lv_at hl 1 rfl) ?_
      refine lv_ldcw (v := 1103515245) X.1 X.2.1 X.2.2.2.1 (X.2.2.2.2.1 _ qw1229) dX8_drawn_52 ?_
      refine lv_imul X.1 X.2.1 dX8_drawn_55 ?_
      refine lv_sipush (v := 12345) X.1 X.2.1 dX8_drawn_56 (by decide) ?_
      refine lv_iadd X.1 X.2.1 dX8_drawn_59 ?_
      refine r_bnd hf (fun v9 hf => ?_)
      refine lv_istore_n (lv' := [(3, .int v9), (5, .int v8), (0, .ref (eP E 69)), (1, .int u1), (2, .int u2), (4, .int w4)]) X.1 X.2.1 dX8_drawn_60 rfl hl (by decide) rfl (fun ls hl => ?_)
      refine lv_iload_n X.1 X.2.1 dX8_drawn_61 rfl (lv_at hl 0 rfl) ?_
      refine lv_bipush (v := 9) X.1 X.2.1 dX8_drawn_62 (by decide) ?_
      refine r_iushr X dX8_drawn_64 ?_
      refine lv_bipush (v := 8) X.1 X.2.1 dX8_drawn_65 (by decide) ?_
      refine r_irem X dX8_drawn_67 (by decide) ?_
      refine r_bnd hf (fun v10 hf => ?_)
      refine lv_istore (lv' := [(6, .int v10), (3, .int v9), (5, .int v8), (0, .ref (eP E 69)), (1, .int u1), (2, .int u2), (4, .int w4)]) X.1 X.2.1 dX8_drawn_68 hl (by decide) rfl (fun ls hl => ?_)
      refine lv_aload_n X.1 X.2.1 dX8_drawn_70 rfl (lv_at hl 3 rfl) ?_
      refine lv_iload X.1 X.2.1 dX8_drawn_71 (lv_at hl 2 rfl) ?_
      refine lv_iload X.1 X.2.1 dX8_drawn_73 (lv_at hl 0 rfl) ?_
      obtain ⟨r12, h11, hf⟩ := b_bd1 hf
      refine r_callV X hw (k_X8_isTwo hE  h11) (sp69 hE) (C := RX8) (T := TX8) (N := 31) rfl qw973 qw975 qw29 qw79 qw976 okX8_isTwo ⟨rfl, rfl⟩ ⟨(Nat.le_of_ble_eq_true rfl), (Nat.le_of_ble_eq_true rfl)⟩ ⟨Nat.zero_le _, Nat.zero_le _⟩ rfl hl.1 (rest := []) rfl (Nat.le_of_ble_eq_true rfl) dX8_drawn_75 (st1 := [.int r12]) rfl (fun H locs hw => ?_)
      refine lv_if_eq (tgt := 93) X.1 X.2.1 dX8_drawn_78 (by decide) (fun c13 => ?_) (fun c13 => ?_)
      · have hf := if_t hf c13
        refine lv_aload_n X.1 X.2.1 dX8_drawn_93 rfl (lv_at hl 3 rfl) ?_
        obtain ⟨r15, σ16, h14, hf⟩ := b_bd2 hf
        refine r_callV X hw (k_X8_goDay hE  h14) (sp69 hE) (C := RX8) (T := TX8) (N := 31) rfl qw1119 qw1121 qw54 qw79 qw1122 okX8_goDay ⟨rfl, rfl⟩ ⟨(Nat.le_of_ble_eq_true rfl), (Nat.le_of_ble_eq_true rfl)⟩ ⟨Nat.zero_le _, Nat.zero_le _⟩ rfl hl.1 (rest := []) rfl (Nat.le_of_ble_eq_true rfl) dX8_drawn_94 (st1 := [.int r15]) rfl (fun H locs hw => ?_)
        refine lv_pop X.1 X.2.1 dX8_drawn_97 rfl ?_
        obtain ⟨v17, e18, hf⟩ := b_bnd hf
        refine lv_iinc (v := v17) (k := 6) (lv' := [(4, .int v17), (6, .int v10), (3, .int v9), (5, .int v8), (0, .ref (eP E 69)), (1, .int u1), (2, .int u2)]) X.1 X.2.1 dX8_drawn_98 hl rfl (by rw [e18]; exact congrArg _ (by decide)) (by decide) rfl (fun ls hl => ?_)
        refine lv_goto (tgt := 26) X.1 X.2.1 dX8_drawn_101 (by decide) ?_
        obtain rfl := Option.some.inj hf
        exact ih _ _ _ (hr1 _ rfl) _ _ _ hw (lv_sub hl [4, 5, 6, 2, 0] rfl) K1
      · have hf := if_e hf c13
        refine lv_aload_n X.1 X.2.1 dX8_drawn_81 rfl (lv_at hl 3 rfl) ?_
        refine lv_iload X.1 X.2.1 dX8_drawn_82 (lv_at hl 2 rfl) ?_
        refine lv_bipush (v := 6) X.1 X.2.1 dX8_drawn_84 (by decide) ?_
        refine lv_iload X.1 X.2.1 dX8_drawn_86 (lv_at hl 0 rfl) ?_
        refine lv_iadd X.1 X.2.1 dX8_drawn_88 ?_
        refine lv_iconst (v := 0) X.1 X.2.1 dX8_drawn_89 (by decide) ?_
        obtain ⟨σ20, h19, hf⟩ := b_bd1 hf
        refine r_callV X hw (k_X8_change hE  h19) (sp69 hE) (C := RX8) (T := TX8) (N := 31) rfl qw989 qw991 qw32 qw79 qw992 okX8_change ⟨rfl, rfl⟩ ⟨(Nat.le_of_ble_eq_true rfl), (Nat.le_of_ble_eq_true rfl)⟩ ⟨Nat.zero_le _, Nat.zero_le _⟩ rfl hl.1 (rest := []) rfl (Nat.le_of_ble_eq_true rfl) dX8_drawn_90 (st1 := []) rfl (fun H locs hw => ?_)
        refine lv_aload_n X.1 X.2.1 dX8_drawn_93 rfl (lv_at hl 3 rfl) ?_
        obtain ⟨r22, σ23, h21, hf⟩ := b_bd2 hf
        refine r_callV X hw (k_X8_goDay hE  h21) (sp69 hE) (C := RX8) (T := TX8) (N := 31) rfl qw1119 qw1121 qw54 qw79 qw1122 okX8_goDay ⟨rfl, rfl⟩ ⟨(Nat.le_of_ble_eq_true rfl), (Nat.le_of_ble_eq_true rfl)⟩ ⟨Nat.zero_le _, Nat.zero_le _⟩ rfl hl.1 (rest := []) rfl (Nat.le_of_ble_eq_true rfl) dX8_drawn_94 (st1 := [.int r22]) rfl (fun H locs hw => ?_)
        refine lv_pop X.1 X.2.1 dX8_drawn_97 rfl ?_
        obtain ⟨v24, e25, hf⟩ := b_bnd hf
        refine lv_iinc (v := v24) (k := 6) (lv' := [(4, .int v24), (6, .int v10), (3, .int v9), (5, .int v8), (0, .ref (eP E 69)), (1, .int u1), (2, .int u2)]) X.1 X.2.1 dX8_drawn_98 hl rfl (by rw [e25]; exact congrArg _ (by decide)) (by decide) rfl (fun ls hl => ?_)
        refine lv_goto (tgt := 26) X.1 X.2.1 dX8_drawn_101 (by decide) ?_
        obtain rfl := Option.some.inj hf
        exact ih _ _ _ (hr1 _ rfl) _ _ _ hw (lv_sub hl [4, 5, 6, 2, 0] rfl) K1
set_option maxHeartbeats 4000000 in
set_option maxRecDepth 100000 in
theorem k_X8_drawn {l : Launch} {E : en_T} (hE : ShF E) {x1 : Int32} {x2 : Int32} {σ : sg_T} {r : Int32} {σ' : sg_T} (hf : f_X8_drawn x1 x2 σ = some (r, σ')) : Ct l yX8_drawn cX8_drawn 7 (some .int) rm_X8_drawn E [.ref (eP E 69), .int x1, .int x2] σ (some (.int r)) σ' := by
  refine Ct.start (by decide) hE.1 (Nat.le_of_ble_eq_true rfl) ?_
  intro p e s m below meth c X hw ls hl
  have X : Cx E p s m _ meth c cX8_drawn 7 RX8 (some .int) := X
  have hR : ShR E := hE.r
  have hl : lv_has ls 7 [(0, .ref (eP E 69)), (1, .int x1), (2, .int x2)] := hl
  unfold f_X8_drawn at hf
  refine lv_iload_n X.1 X.2.1 dX8_drawn_0 rfl (lv_at hl 2 rfl) ?_
  refine lv_iconst (v := 0) X.1 X.2.1 dX8_drawn_1 (by decide) ?_
  refine lv_bipush (v := 40) X.1 X.2.1 dX8_drawn_2 (by decide) ?_
  obtain ⟨r2, h1, hf⟩ := b_bd1 hf
  refine r_callS X hw (k_X8_isIn hE  h1) qw966 qw967 qw79 qw968 okX8_isIn ⟨rfl, rfl⟩ ⟨(Nat.le_of_ble_eq_true rfl), (Nat.le_of_ble_eq_true rfl)⟩ ⟨Nat.zero_le _, Nat.zero_le _⟩ rfl hl.1 (rest := []) rfl (Nat.le_of_ble_eq_true rfl) dX8_drawn_4 (st1 := [.int r2]) rfl (fun H locs hw => ?_)
  refine lv_if_ne (tgt := 13) X.1 X.2.1 dX8_drawn_7 (by decide) (fun c3 => ?_) (fun c3 => ?_)
  · have hf := if_e hf c3
    refine lv_aload_n X.1 X.2.1 dX8_drawn_13 rfl (lv_at hl 0 rfl) ?_
    refine lv_aload_n X.1 X.2.1 dX8_drawn_14 rfl (lv_at hl 0 rfl) ?_
    refine r_get X hw (sp69 hE) (C := RX8) (T := TX8) (N := 31) rfl iwX8 2 (by decide) (Nat.le_of_ble_eq_true rfl) qw868 (v := .ref (eP E 72)) rfl dX8_drawn_15 ?_
    obtain ⟨σ5, h4, hf⟩ := b_bd1 hf
    refine r_callV X hw (k_X8_keep hE (Or.inr rfl) h4) (sp69 hE) (C := RX8) (T := TX8) (N := 31) rfl qw1127 qw1129 qw55 qw79 qw1130 okX8_keep ⟨rfl, rfl⟩ ⟨(Nat.le_of_ble_eq_true rfl), (Nat.le_of_ble_eq_true rfl)⟩ ⟨Nat.zero_le _, Nat.zero_le _⟩ rfl hl.1 (rest := []) rfl (Nat.le_of_ble_eq_true rfl) dX8_drawn_18 (st1 := []) rfl (fun H locs hw => ?_)
    refine lv_iload_n X.1 X.2.1 dX8_drawn_21 rfl (lv_at hl 1 rfl) ?_
    refine lv_istore_n (lv' := [(3, .int x1), (0, .ref (eP E 69)), (1, .int x1), (2, .int x2)]) X.1 X.2.1 dX8_drawn_22 rfl hl (by decide) rfl (fun ls hl => ?_)
    refine lv_iconst (v := 0) X.1 X.2.1 dX8_drawn_23 (by decide) ?_
    refine lv_istore (lv' := [(4, .int 0), (3, .int x1), (0, .ref (eP E 69)), (1, .int x1), (2, .int x2)]) X.1 X.2.1 dX8_drawn_24 hl (by decide) rfl (fun ls hl => ?_)
    obtain ⟨v27, v28, σ29, h26, hf⟩ := b_bd3 hf
    refine w_X8_drawn_26 X hE  lfu _ _ _ h26 _ _ _ hw (lv_sub hl [2, 3, 4, 1, 0] rfl) (fun yv27 yv28 yσ29 hq H locs ls hw hl => ?_)
    cases hq
    refine lv_aload_n X.1 X.2.1 dX8_drawn_104 rfl (lv_at hl 0 rfl) ?_
    refine lv_iconst (v := 4) X.1 X.2.1 dX8_drawn_105 (by decide) ?_
    obtain ⟨r31, h30, hf⟩ := b_bd1 hf
    refine r_callV X hw (k_X8_all hE  h30) (sp69 hE) (C := RX8) (T := TX8) (N := 31) rfl qw1139 qw1141 qw58 qw79 qw1142 okX8_all ⟨rfl, rfl⟩ ⟨(Nat.le_of_ble_eq_true rfl), (Nat.le_of_ble_eq_true rfl)⟩ ⟨Nat.zero_le _, Nat.zero_le _⟩ rfl hl.1 (rest := []) rfl (Nat.le_of_ble_eq_true rfl) dX8_drawn_106 (st1 := [.int r31]) rfl (fun H locs hw => ?_)
    refine lv_istore (lv' := [(4, .int r31), (0, .ref (eP E 69)), (1, .int x1), (2, .int x2), (3, .int v27)]) X.1 X.2.1 dX8_drawn_109 hl (by decide) rfl (fun ls hl => ?_)
    refine lv_aload_n X.1 X.2.1 dX8_drawn_111 rfl (lv_at hl 1 rfl) ?_
    refine lv_aload_n X.1 X.2.1 dX8_drawn_112 rfl (lv_at hl 1 rfl) ?_
    refine r_get X hw (sp69 hE) (C := RX8) (T := TX8) (N := 31) rfl iwX8 2 (by decide) (Nat.le_of_ble_eq_true rfl) qw868 (v := .ref (eP E 72)) rfl dX8_drawn_113 ?_
    obtain ⟨σ33, h32, hf⟩ := b_bd1 hf
    refine r_callV X hw (k_X8_lay hE (Or.inr rfl) h32) (sp69 hE) (C := RX8) (T := TX8) (N := 31) rfl qw1143 qw1145 qw59 qw79 qw1146 okX8_lay ⟨rfl, rfl⟩ ⟨(Nat.le_of_ble_eq_true rfl), (Nat.le_of_ble_eq_true rfl)⟩ ⟨Nat.zero_le _, Nat.zero_le _⟩ rfl hl.1 (rest := []) rfl (Nat.le_of_ble_eq_true rfl) dX8_drawn_116 (st1 := []) rfl (fun H locs hw => ?_)
    refine lv_iload X.1 X.2.1 dX8_drawn_119 (lv_at hl 0 rfl) ?_
    obtain ⟨rfl, rfl⟩ := Prod.mk.inj (Option.some.inj hf)
    exact r_iret X hw dX8_drawn_121
  · have hf := if_t hf c3
    refine lv_bipush (v := (-2)) X.1 X.2.1 dX8_drawn_10 (by decide) ?_
    obtain ⟨rfl, rfl⟩ := Prod.mk.inj (Option.some.inj hf)
    exact r_iret X hw dX8_drawn_12
abbrev rm_X8_chance : Room := { frames := 105, cells := 0, slots := 0, locals := 7863 }
set_option maxHeartbeats 4000000 in
set_option maxRecDepth 100000 in
theorem w_X8_chance_40 {p : Program} {l : Launch} {e : Env} {s : State} {m : MethodId} {args : Array Value} {below : List Frame} {meth : Method} {c : Code} {Q : State → Prop} {E : en_T} (X : Cx E p s m args meth c cX8_chance 9 RX8 (some .long)) (hE : ShF E) {u1 : Int32} {u2 : Int32} {u3 : Int32} {u4 : Int32}  {res : Int64 × Int32 × sg_T} :
    ∀ (n : Nat) (w5 : Int64) (w7 : Int32) (σ : sg_T), itr (fun q => b_X8_chance_40 u1 u2 u3 u4 q.1 q.2.1 q.2.2) n (w5, w7, σ) = some res → ∀ (H : Heap) (locs : List Loc) (ls : Array Slot), Hw E σ s H locs → lv_has ls 9 [(0, .ref (eP E 69)), (1, .int u1), (2, .int u2), (3, .int u3), (4, .int u4), (5, .long w5), (7, .int w7)] →
    (∀ (y5 : Int64) (y7 : Int32) (τ : sg_T), res = (y5, y7, τ) → ∀ (H : Heap) (locs : List Loc) (ls : Array Slot), Hw E τ s H locs → lv_has ls 9 [(0, .ref (eP E 69)), (1, .int u1), (2, .int u2), (3, .int u3), (4, .int u4), (5, .long y5), (7, .int y7)] → W p l e rm_X8_chance s m args below meth c H locs 0 0 Q (F0 m 76 ls [])) →
    W p l e rm_X8_chance s m args below meth c H locs 0 0 Q (F0 m 40 ls []) := by
  have hR : ShR E := hE.r
  intro n
  induction n with
  | zero =>
    intro w5 w7 σ hf0
    exact (itr_0 hf0).elim
  | succ n ih =>
    intro w5 w7 σ hf0 H locs ls hw hl K1
    obtain ⟨r0, hf, hr1, hr2⟩ := itr_s hf0
    have hf : b_X8_chance_40 u1 u2 u3 u4 w5 w7 σ = some r0 := hf
    unfold b_X8_chance_40 at hf
    refine lv_iload X.1 X.2.1 dX8_chance_40 (lv_at hl 6 rfl) ?_
    refine lv_iload_n X.1 X.2.1 dX8_chance_42 rfl (lv_at hl 2 rfl) ?_
    refine lv_icmp_ge (tgt := 76) X.1 X.2.1 dX8_chance_43 (by decide) (fun c10 => ?_) (fun c10 => ?_)
    · have hf := if_t hf c10
      obtain rfl := Option.some.inj hf
      obtain rfl := hr2 _ rfl
      exact K1 _ _ _ rfl _ _ _ hw (lv_sub hl [0, 1, 2, 3, 4, 5, 6] rfl)
    · have hf := if_e hf c10
      refine lv_lload X.1 X.2.1 dX8_chance_46 (lv_at hl 5 rfl) ?_
      refine lv_aload_n X.1 X.2.1 dX8_chance_48 rfl (lv_at hl 0 rfl) ?_
      refine lv_iload_n X.1 X.2.1 dX8_chance_49 rfl (lv_at hl 1 rfl) ?_
      refine lv_iload X.1 X.2.1 dX8_chance_50 (lv_at hl 6 rfl) ?_
      refine lv_iadd X.1 X.2.1 dX8_chance_52 ?_
      refine lv_bipush (v := 10) X.1 X.2.1 dX8_chance_53 (by decide) ?_
      obtain ⟨r12, σ13, h11, hf⟩ := b_bd2 hf
      refine r_callV X hw (k_X8_drawn hE  h11) (sp69 hE) (C := RX8) (T := TX8) (N := 31) rfl qw1234 qw1226 qw1227 qw79 qw1228 okX8_drawn ⟨rfl, rfl⟩ ⟨(Nat.le_of_ble_eq_true rfl), (Nat.le_of_ble_eq_true rfl)⟩ ⟨Nat.zero_le _, Nat.zero_le _⟩ rfl hl.1 (rest := [.long w5]) rfl (Nat.le_of_ble_eq_true rfl) dX8_chance_55 (st1 := [.int r12, .long w5]) rfl (fun H locs hw => ?_)
      refine lv_iload_n X.1 X.2.1 dX8_chance_58 rfl (lv_at hl 3 rfl) ?_
      refine lv_icmp_lt (tgt := 66) X.1 X.2.1 dX8_chance_59 (by decide) (fun c14 => ?_) (fun c14 => ?_)
      · have hf := if_t hf c14
        refine lv_lconst (v := 0) X.1 X.2.1 dX8_chance_66 (by decide) ?_
        refine lv_ladd X.1 X.2.1 dX8_chance_67 ?_
        refine r_bndl hf (fun v15 hf => ?_)
        refine lv_lstore (lv' := [(5, .long v15), (0, .ref (eP E 69)), (1, .int u1), (2, .int u2), (3, .int u3), (4, .int u4), (7, .int w7)]) X.1 X.2.1 dX8_chance_68 hl (by decide) rfl (fun ls hl => ?_)
        obtain ⟨v16, e17, hf⟩ := b_bnd hf
        refine lv_iinc (v := v16) (k := 6) (lv' := [(7, .int v16), (5, .long v15), (0, .ref (eP E 69)), (1, .int u1), (2, .int u2), (3, .int u3), (4, .int u4)]) X.1 X.2.1 dX8_chance_70 hl rfl (by rw [e17]; exact congrArg _ (by decide)) (by decide) rfl (fun ls hl => ?_)
        refine lv_goto (tgt := 40) X.1 X.2.1 dX8_chance_73 (by decide) ?_
        obtain rfl := Option.some.inj hf
        exact ih _ _ _ (hr1 _ rfl) _ _ _ hw (lv_sub hl [2, 3, 4, 5, 6, 1, 0] rfl) K1
      · have hf := if_e hf c14
        refine lv_lconst (v := 1) X.1 X.2.1 dX8_chance_62 (by decide) ?_
        refine lv_goto (tgt := 67) X.1 X.2.1 dX8_chance_63 (by decide) ?_
        refine lv_ladd X.1 X.2.1 dX8_chance_67 ?_
        refine r_bndl hf (fun v18 hf => ?_)
        refine lv_lstore (lv' := [(5, .long v18), (0, .ref (eP E 69)), (1, .int u1), (2, .int u2), (3, .int u3), (4, .int u4), (7, .int w7)]) X.1 X.2.1 dX8_chance_68 hl (by decide) rfl (fun ls hl => ?_)
        obtain ⟨v19, e20, hf⟩ := b_bnd hf
        refine lv_iinc (v := v19) (k := 6) (lv' := [(7, .int v19), (5, .long v18), (0, .ref (eP E 69)), (1, .int u1), (2, .int u2), (3, .int u3), (4, .int u4)]) X.1 X.2.1 dX8_chance_70 hl rfl (by rw [e20]; exact congrArg _ (by decide)) (by decide) rfl (fun ls hl => ?_)
        refine lv_goto (tgt := 40) X.1 X.2.1 dX8_chance_73 (by decide) ?_
        obtain rfl := Option.some.inj hf
        exact ih _ _ _ (hr1 _ rfl) _ _ _ hw (lv_sub hl [2, 3, 4, 5, 6, 1, 0] rfl) K1
set_option maxHeartbeats 4000000 in
set_option maxRecDepth 100000 in
theorem k_X8_chance {l : Launch} {E : en_T} (hE : ShF E) {x1 : Int32} {x2 : Int32} {x3 : Int32} {x4 : Int32} {σ : sg_T} {r : Int64} {σ' : sg_T} (hf : f_X8_chance x1 x2 x3 x4 σ = some (r, σ')) : Ct l yX8_chance cX8_chance 9 (some .long) rm_X8_chance E [.ref (eP E 69), .int x1, .int x2, .int x3, .int x4] σ (some (.long r)) σ' := by
  refine Ct.start (by decide) hE.1 (Nat.le_of_ble_eq_true rfl) ?_
  intro p e s m below meth c X hw ls hl
  have X : Cx E p s m _ meth c cX8_chance 9 RX8 (some .long) := X
  have hR : ShR E := hE.r
  have hl : lv_has ls 9 [(0, .ref (eP E 69)), (1, .int x1), (2, .int x2), (3, .int x3), (4, .int x4)] := hl
  unfold f_X8_chance at hf
  refine lv_iload_n X.1 X.2.1 dX8_chance_0 rfl (lv_at hl 2 rfl) ?_
  refine lv_iconst (v := 1) X.1 X.2.1 dX8_chance_1 (by decide) ?_
  refine lv_bipush (v := 20) X.1 X.2.1 dX8_chance_2 (by decide) ?_
  obtain ⟨r2, h1, hf⟩ := b_bd1 hf
  refine r_callS X hw (k_X8_isIn hE  h1) qw966 qw967 qw79 qw968 okX8_isIn ⟨rfl, rfl⟩ ⟨(Nat.le_of_ble_eq_true rfl), (Nat.le_of_ble_eq_true rfl)⟩ ⟨Nat.zero_le _, Nat.zero_le _⟩ rfl hl.1 (rest := []) rfl (Nat.le_of_ble_eq_true rfl) dX8_chance_4 (st1 := [.int r2]) rfl (fun H locs hw => ?_)
  refine lv_if_eq (tgt := 30) X.1 X.2.1 dX8_chance_7 (by decide) (fun c3 => ?_) (fun c3 => ?_)
  · have hf := if_t hf c3
    refine lv_ldc2 (v := (-4611686018427387904)) X.1 X.2.1 X.2.2.2.1 (X.2.2.2.2.1 _ qw1176) dX8_chance_30 ?_
    obtain ⟨rfl, rfl⟩ := Prod.mk.inj (Option.some.inj hf)
    exact r_lret X hw dX8_chance_33
  · have hf := if_e hf c3
    refine lv_iload_n X.1 X.2.1 dX8_chance_10 rfl (lv_at hl 3 rfl) ?_
    refine lv_iconst (v := 0) X.1 X.2.1 dX8_chance_11 (by decide) ?_
    refine lv_bipush (v := 99) X.1 X.2.1 dX8_chance_12 (by decide) ?_
    obtain ⟨r5, h4, hf⟩ := b_bd1 hf
    refine r_callS X hw (k_X8_isIn hE  h4) qw966 qw967 qw79 qw968 okX8_isIn ⟨rfl, rfl⟩ ⟨(Nat.le_of_ble_eq_true rfl), (Nat.le_of_ble_eq_true rfl)⟩ ⟨Nat.zero_le _, Nat.zero_le _⟩ rfl hl.1 (rest := []) rfl (Nat.le_of_ble_eq_true rfl) dX8_chance_14 (st1 := [.int r5]) rfl (fun H locs hw => ?_)
    refine lv_if_eq (tgt := 30) X.1 X.2.1 dX8_chance_17 (by decide) (fun c6 => ?_) (fun c6 => ?_)
    · have hf := if_t hf c6
      refine lv_ldc2 (v := (-4611686018427387904)) X.1 X.2.1 X.2.2.2.1 (X.2.2.2.2.1 _ qw1176) dX8_chance_30 ?_
      obtain ⟨rfl, rfl⟩ := Prod.mk.inj (Option.some.inj hf)
      exact r_lret X hw dX8_chance_33
    · have hf := if_e hf c6
      refine lv_iload X.1 X.2.1 dX8_chance_20 (lv_at hl 4 rfl) ?_
      refine lv_iconst (v := 0) X.1 X.2.1 dX8_chance_22 (by decide) ?_
      refine lv_iconst (v := 1) X.1 X.2.1 dX8_chance_23 (by decide) ?_
      obtain ⟨r8, h7, hf⟩ := b_bd1 hf
      refine r_callS X hw (k_X8_isIn hE  h7) qw966 qw967 qw79 qw968 okX8_isIn ⟨rfl, rfl⟩ ⟨(Nat.le_of_ble_eq_true rfl), (Nat.le_of_ble_eq_true rfl)⟩ ⟨Nat.zero_le _, Nat.zero_le _⟩ rfl hl.1 (rest := []) rfl (Nat.le_of_ble_eq_true rfl) dX8_chance_24 (st1 := [.int r8]) rfl (fun H locs hw => ?_)
      refine lv_if_ne (tgt := 34) X.1 X.2.1 dX8_chance_27 (by decide) (fun c9 => ?_) (fun c9 => ?_)
      · have hf := if_e hf c9
        refine lv_lconst (v := 0) X.1 X.2.1 dX8_chance_34 (by decide) ?_
        refine lv_lstore (lv' := [(5, .long 0), (0, .ref (eP E 69)), (1, .int x1), (2, .int x2), (3, .int x3), (4, .int x4)]) X.1 X.2.1 dX8_chance_35 hl (by decide) rfl (fun ls hl => ?_)
        refine lv_iconst (v := 0) X.1 X.2.1 dX8_chance_37 (by decide) ?_
        refine lv_istore (lv' := [(7, .int 0), (5, .long 0), (0, .ref (eP E 69)), (1, .int x1), (2, .int x2), (3, .int x3), (4, .int x4)]) X.1 X.2.1 dX8_chance_38 hl (by decide) rfl (fun ls hl => ?_)
        obtain ⟨v22, v23, σ24, h21, hf⟩ := b_bd3 hf
        refine w_X8_chance_40 X hE  lfu _ _ _ h21 _ _ _ hw (lv_sub hl [2, 3, 4, 5, 6, 1, 0] rfl) (fun yv22 yv23 yσ24 hq H locs ls hw hl => ?_)
        cases hq
        refine lv_iload_n X.1 X.2.1 dX8_chance_76 rfl (lv_at hl 2 rfl) ?_
        refine lv_i2l (v := (x2).toInt64) X.1 X.2.1 dX8_chance_77 rfl ?_
        refine lv_lload X.1 X.2.1 dX8_chance_78 (lv_at hl 5 rfl) ?_
        obtain ⟨r26, h25, hf⟩ := b_bd1 hf
        refine r_callS X hw (kg_X8_gcd hE  h25) qw1177 qw1178 qw79 qw1179 okX8_gcd ⟨rfl, rfl⟩ ⟨(Nat.le_of_ble_eq_true rfl), (Nat.le_of_ble_eq_true rfl)⟩ ⟨Nat.zero_le _, Nat.zero_le _⟩ rfl hl.1 (rest := []) rfl (Nat.le_of_ble_eq_true rfl) dX8_chance_80 (st1 := [.long r26]) rfl (fun H locs hw => ?_)
        refine lv_lstore (lv' := [(7, .long r26), (0, .ref (eP E 69)), (1, .int x1), (2, .int x2), (3, .int x3), (4, .int x4), (5, .long v22)]) X.1 X.2.1 dX8_chance_83 hl (by decide) rfl (fun ls hl => ?_)
        refine lv_iload X.1 X.2.1 dX8_chance_85 (lv_at hl 5 rfl) ?_
        refine lv_if_ne (tgt := 98) X.1 X.2.1 dX8_chance_87 (by decide) (fun c27 => ?_) (fun c27 => ?_)
        · have hf := if_e hf c27
          refine lv_iload_n X.1 X.2.1 dX8_chance_98 rfl (lv_at hl 3 rfl) ?_
          refine lv_i2l (v := (x2).toInt64) X.1 X.2.1 dX8_chance_99 rfl ?_
          refine lv_lload X.1 X.2.1 dX8_chance_100 (lv_at hl 0 rfl) ?_
          obtain ⟨h28, hf⟩ := b_dzl hf
          refine lv_ldiv X.1 X.2.1 dX8_chance_102 h28 ?_
          obtain ⟨rfl, rfl⟩ := Prod.mk.inj (Option.some.inj hf)
          exact r_lret X hw dX8_chance_103
        · have hf := if_t hf c27
          refine lv_lload X.1 X.2.1 dX8_chance_90 (lv_at hl 6 rfl) ?_
          refine lv_lload X.1 X.2.1 dX8_chance_92 (lv_at hl 0 rfl) ?_
          obtain ⟨h29, hf⟩ := b_dzl hf
          refine lv_ldiv X.1 X.2.1 dX8_chance_94 h29 ?_
          refine lv_goto (tgt := 103) X.1 X.2.1 dX8_chance_95 (by decide) ?_
          obtain ⟨rfl, rfl⟩ := Prod.mk.inj (Option.some.inj hf)
          exact r_lret X hw dX8_chance_103
      · have hf := if_t hf c9
        refine lv_ldc2 (v := (-4611686018427387904)) X.1 X.2.1 X.2.2.2.1 (X.2.2.2.2.1 _ qw1176) dX8_chance_30 ?_
        obtain ⟨rfl, rfl⟩ := Prod.mk.inj (Option.some.inj hf)
        exact r_lret X hw dX8_chance_33
