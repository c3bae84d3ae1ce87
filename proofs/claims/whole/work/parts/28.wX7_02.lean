set_option maxHeartbeats 4000000 in
set_option maxRecDepth 100000 in
theorem k_X7_court {l : Launch} {E : en_T} (hE : ShF E) {x1 : Int32} {x2 : Int32} {x3 : Int32} {x4 : Int32} {σ : sg_T} {r : Int32} {σ' : sg_T} (hf : f_X7_court x1 x2 x3 x4 σ = some (r, σ')) : Ct l yX7_court cX7_court 9 (some .int) rm_X7_court E [.ref (eP E 0), .int x1, .int x2, .int x3, .int x4] σ (some (.int r)) σ' := by
  refine Ct.start (by decide) hE.1 (Nat.le_of_ble_eq_true rfl) ?_
  intro p e s m below meth c X hw ls hl
  have X : Cx E p s m _ meth c cX7_court 9 RX7 (some .int) := X
  have hR : ShR E := hE.r
  have hl : lv_has ls 9 [(0, .ref (eP E 0)), (1, .int x1), (2, .int x2), (3, .int x3), (4, .int x4)] := hl
  unfold f_X7_court at hf
  refine lv_iload_n X.1 X.2.1 dX7_court_0 rfl (lv_at hl 1 rfl) ?_
  obtain ⟨r2, h1, hf⟩ := b_bd1 hf
  refine r_callS X hw (k_X7_isSheet hE  h1) qw723 qw724 qw67 qw725 okX7_isSheet ⟨rfl, rfl⟩ ⟨(Nat.le_of_ble_eq_true rfl), (Nat.le_of_ble_eq_true rfl)⟩ ⟨Nat.zero_le _, Nat.zero_le _⟩ rfl hl.1 (rest := []) rfl (Nat.le_of_ble_eq_true rfl) dX7_court_1 (st1 := [.int r2]) rfl (fun H locs hw => ?_)
  refine lv_if_eq (tgt := 25) X.1 X.2.1 dX7_court_4 (by decide) (fun c3 => ?_) (fun c3 => ?_)
  · have hf := if_t hf c3
    refine lv_bipush (v := (-2)) X.1 X.2.1 dX7_court_25 (by decide) ?_
    obtain ⟨rfl, rfl⟩ := Prod.mk.inj (Option.some.inj hf)
    exact r_iret X hw dX7_court_27
  · have hf := if_e hf c3
    refine lv_iload_n X.1 X.2.1 dX7_court_7 rfl (lv_at hl 2 rfl) ?_
    obtain ⟨r5, h4, hf⟩ := b_bd1 hf
    refine r_callS X hw (k_X7_isSort hE  h4) qw818 qw819 qw67 qw820 okX7_isSort ⟨rfl, rfl⟩ ⟨(Nat.le_of_ble_eq_true rfl), (Nat.le_of_ble_eq_true rfl)⟩ ⟨Nat.zero_le _, Nat.zero_le _⟩ rfl hl.1 (rest := []) rfl (Nat.le_of_ble_eq_true rfl) dX7_court_8 (st1 := [.int r5]) rfl (fun H locs hw => ?_)
    refine lv_if_eq (tgt := 25) X.1 X.2.1 dX7_court_11 (by decide) (fun c6 => ?_) (fun c6 => ?_)
    · have hf := if_t hf c6
      refine lv_bipush (v := (-2)) X.1 X.2.1 dX7_court_25 (by decide) ?_
      obtain ⟨rfl, rfl⟩ := Prod.mk.inj (Option.some.inj hf)
      exact r_iret X hw dX7_court_27
    · have hf := if_e hf c6
      refine lv_iload X.1 X.2.1 dX7_court_14 (lv_at hl 4 rfl) ?_
      refine lv_if_lt (tgt := 25) X.1 X.2.1 dX7_court_16 (by decide) (fun c7 => ?_) (fun c7 => ?_)
      · have hf := if_t hf c7
        refine lv_bipush (v := (-2)) X.1 X.2.1 dX7_court_25 (by decide) ?_
        obtain ⟨rfl, rfl⟩ := Prod.mk.inj (Option.some.inj hf)
        exact r_iret X hw dX7_court_27
      · have hf := if_e hf c7
        refine lv_iload X.1 X.2.1 dX7_court_19 (lv_at hl 4 rfl) ?_
        refine lv_iconst (v := 5) X.1 X.2.1 dX7_court_21 (by decide) ?_
        refine lv_icmp_le (tgt := 28) X.1 X.2.1 dX7_court_22 (by decide) (fun c8 => ?_) (fun c8 => ?_)
        · have hf := if_t hf c8
          refine lv_aload_n X.1 X.2.1 dX7_court_28 rfl (lv_at hl 0 rfl) ?_
          refine r_get X hw (sp0 hE) (C := RX7) (T := TX7) (N := 9) rfl iwX7 7 (by decide) (Nat.le_of_ble_eq_true rfl) qw425 (v := .ref (eP E 60)) rfl dX7_court_29 ?_
          refine lv_iload_n X.1 X.2.1 dX7_court_32 rfl (lv_at hl 1 rfl) ?_
          obtain ⟨h9, hf⟩ := b_ck hf
          refine r_aaldS X hw (sp60 hE) (q := (61 + 2 * x1.toNatClampNeg)) h9 (tqs h9) dX7_court_33 ?_
          refine lv_astore (lv' := [(5, .ref (eP E (61 + 2 * x1.toNatClampNeg))), (0, .ref (eP E 0)), (1, .int x1), (2, .int x2), (3, .int x3), (4, .int x4)]) X.1 X.2.1 dX7_court_34 hl (by decide) rfl (fun ls hl => ?_)
          refine lv_aload X.1 X.2.1 dX7_court_36 (lv_at hl 0 rfl) ?_
          obtain ⟨r11, h10, hf⟩ := b_bd1 hf
          refine r_callV X hw (k_X4_isMissing hE (isS_of h9) h10) (spS0 hE (isS_of h9)) (C := RX4) (T := TX4) (N := 3) rfl qw726 qw727 qw728 qw78 qw729 okX4_isMissing ⟨rfl, rfl⟩ ⟨(Nat.le_of_ble_eq_true rfl), (Nat.le_of_ble_eq_true rfl)⟩ ⟨Nat.zero_le _, Nat.zero_le _⟩ rfl hl.1 (rest := []) rfl (Nat.le_of_ble_eq_true rfl) dX7_court_38 (st1 := [.int r11]) rfl (fun H locs hw => ?_)
          refine lv_if_eq (tgt := 47) X.1 X.2.1 dX7_court_41 (by decide) (fun c12 => ?_) (fun c12 => ?_)
          · have hf := if_t hf c12
            refine lv_aload X.1 X.2.1 dX7_court_47 (lv_at hl 0 rfl) ?_
            obtain ⟨r14, h13, hf⟩ := b_bd1 hf
            refine r_callV X hw (k_X4_sort hE (isS_of h9) h13) (spS0 hE (isS_of h9)) (C := RX4) (T := TX4) (N := 3) rfl qw833 qw834 qw835 qw78 qw836 okX4_sort ⟨rfl, rfl⟩ ⟨(Nat.le_of_ble_eq_true rfl), (Nat.le_of_ble_eq_true rfl)⟩ ⟨Nat.zero_le _, Nat.zero_le _⟩ rfl hl.1 (rest := []) rfl (Nat.le_of_ble_eq_true rfl) dX7_court_49 (st1 := [.int r14]) rfl (fun H locs hw => ?_)
            refine lv_iload_n X.1 X.2.1 dX7_court_52 rfl (lv_at hl 3 rfl) ?_
            refine lv_icmp_eq (tgt := 59) X.1 X.2.1 dX7_court_53 (by decide) (fun c15 => ?_) (fun c15 => ?_)
            · have hf := if_t hf c15
              refine lv_iconst (v := 0) X.1 X.2.1 dX7_court_59 (by decide) ?_
              refine lv_istore (lv' := [(6, .int 0), (5, .ref (eP E (61 + 2 * x1.toNatClampNeg))), (0, .ref (eP E 0)), (1, .int x1), (2, .int x2), (3, .int x3), (4, .int x4)]) X.1 X.2.1 dX7_court_60 hl (by decide) rfl (fun ls hl => ?_)
              refine lv_iload_n X.1 X.2.1 dX7_court_62 rfl (lv_at hl 5 rfl) ?_
              refine lv_istore (lv' := [(7, .int x3), (6, .int 0), (5, .ref (eP E (61 + 2 * x1.toNatClampNeg))), (0, .ref (eP E 0)), (1, .int x1), (2, .int x2), (3, .int x3), (4, .int x4)]) X.1 X.2.1 dX7_court_63 hl (by decide) rfl (fun ls hl => ?_)
              refine lv_iconst (v := 0) X.1 X.2.1 dX7_court_65 (by decide) ?_
              refine lv_istore (lv' := [(8, .int 0), (7, .int x3), (6, .int 0), (5, .ref (eP E (61 + 2 * x1.toNatClampNeg))), (0, .ref (eP E 0)), (1, .int x1), (2, .int x2), (3, .int x3), (4, .int x4)]) X.1 X.2.1 dX7_court_66 hl (by decide) rfl (fun ls hl => ?_)
              obtain ⟨r45, h40, hf⟩ := b_bs hf
              rcases hf with ⟨⟨v41, v42, v43, σ44⟩, rfl, hf⟩ | ⟨⟨r46, σ47⟩, rfl, hf⟩
              · refine w_X7_court_68 X hE (isS_of h9) lfu _ _ _ _ h40 _ _ _ hw (lv_sub hl [4, 5, 6, 7, 8, 3, 2, 1, 0] rfl) (fun yv41 yv42 yv43 yσ44 hq H locs ls hw hl => ?_) (fun _ _ hq => by cases hq)
                cases hq
                dsimp only at hf
                refine lv_iload X.1 X.2.1 dX7_court_136 (lv_at hl 6 rfl) ?_
                obtain ⟨rfl, rfl⟩ := Prod.mk.inj (Option.some.inj hf)
                exact r_iret X hw dX7_court_138
              · refine w_X7_court_68 X hE (isS_of h9) lfu _ _ _ _ h40 _ _ _ hw (lv_sub hl [4, 5, 6, 7, 8, 3, 2, 1, 0] rfl) (fun _ _ _ _ hq => by cases hq) (fun _ _ hq => ?_)
                cases hq
                cases hf
                rfl
            · have hf := if_e hf c15
              refine lv_bipush (v := (-13)) X.1 X.2.1 dX7_court_56 (by decide) ?_
              obtain ⟨rfl, rfl⟩ := Prod.mk.inj (Option.some.inj hf)
              exact r_iret X hw dX7_court_58
          · have hf := if_e hf c12
            refine lv_bipush (v := (-11)) X.1 X.2.1 dX7_court_44 (by decide) ?_
            obtain ⟨rfl, rfl⟩ := Prod.mk.inj (Option.some.inj hf)
            exact r_iret X hw dX7_court_46
        · have hf := if_e hf c8
          refine lv_bipush (v := (-2)) X.1 X.2.1 dX7_court_25 (by decide) ?_
          obtain ⟨rfl, rfl⟩ := Prod.mk.inj (Option.some.inj hf)
          exact r_iret X hw dX7_court_27
abbrev rm_X7_isUnder : Room := { frames := 0, cells := 0, slots := 0, locals := 0 }
set_option maxHeartbeats 4000000 in
set_option maxRecDepth 100000 in
theorem w_X7_isUnder_4 {p : Program} {l : Launch} {e : Env} {s : State} {m : MethodId} {args : Array Value} {below : List Frame} {meth : Method} {c : Code} {Q : State → Prop} {E : en_T} (X : Cx E p s m args meth c cX7_isUnder 4 RX7 (some .boolean)) (hE : ShF E) {u0 : Int32} {u1 : Int32} {σ : sg_T} {res : (Int32 × Int32) ⊕ (Int32)} :
    ∀ (n : Nat) (w2 : Int32) (w3 : Int32), itr (fun q => b_X7_isUnder_4 u0 u1 q.1 q.2 σ) n (w2, w3) = some res → ∀ (H : Heap) (locs : List Loc) (ls : Array Slot), Hw E σ s H locs → lv_has ls 4 [(0, .int u0), (1, .int u1), (2, .int w2), (3, .int w3)] →
    (∀ (y2 : Int32) (y3 : Int32), res = .inl (y2, y3) → ∀ (H : Heap) (locs : List Loc) (ls : Array Slot), Hw E σ s H locs → lv_has ls 4 [(0, .int u0), (1, .int u1), (2, .int y2), (3, .int y3)] → W p l e rm_X7_isUnder s m args below meth c H locs 0 0 Q (F0 m 39 ls [])) →
    (∀ (r : Int32), res = .inr r → Q = MQ below (Qf E (some (.int r)) σ) args s 0 0 (en_A E)) →
    W p l e rm_X7_isUnder s m args below meth c H locs 0 0 Q (F0 m 4 ls []) := by
  have hR : ShR E := hE.r
  intro n
  induction n with
  | zero =>
    intro w2 w3 hf0
    exact (itr_0 hf0).elim
  | succ n ih =>
    intro w2 w3 hf0 H locs ls hw hl K1 K2
    obtain ⟨r0, hf, hr1, hr2⟩ := itr_s hf0
    have hf : b_X7_isUnder_4 u0 u1 w2 w3 σ = some r0 := hf
    unfold b_X7_isUnder_4 at hf
    refine lv_iload_n X.1 X.2.1 dX7_isUnder_4 rfl (lv_at hl 3 rfl) ?_
    refine lv_bipush (v := 6) X.1 X.2.1 dX7_isUnder_5 (by decide) ?_
    refine lv_icmp_ge (tgt := 39) X.1 X.2.1 dX7_isUnder_7 (by decide) (fun c1 => ?_) (fun c1 => ?_)
    · have hf := if_t hf c1
      obtain rfl := Option.some.inj hf
      obtain rfl := hr2 _ rfl
      exact K1 _ _ rfl _ _ _ hw (lv_sub hl [0, 1, 2, 3] rfl)
    · have hf := if_e hf c1
      refine lv_iload_n X.1 X.2.1 dX7_isUnder_10 rfl (lv_at hl 2 rfl) ?_
      refine lv_if_lt (tgt := 39) X.1 X.2.1 dX7_isUnder_11 (by decide) (fun c2 => ?_) (fun c2 => ?_)
      · have hf := if_t hf c2
        obtain rfl := Option.some.inj hf
        obtain rfl := hr2 _ rfl
        exact K1 _ _ rfl _ _ _ hw (lv_sub hl [0, 1, 2, 3] rfl)
      · have hf := if_e hf c2
        refine lv_iload_n X.1 X.2.1 dX7_isUnder_14 rfl (lv_at hl 2 rfl) ?_
        refine lv_bipush (v := 6) X.1 X.2.1 dX7_isUnder_15 (by decide) ?_
        refine lv_icmp_ge (tgt := 39) X.1 X.2.1 dX7_isUnder_17 (by decide) (fun c3 => ?_) (fun c3 => ?_)
        · have hf := if_t hf c3
          obtain rfl := Option.some.inj hf
          obtain rfl := hr2 _ rfl
          exact K1 _ _ rfl _ _ _ hw (lv_sub hl [0, 1, 2, 3] rfl)
        · have hf := if_e hf c3
          refine lv_iload_n X.1 X.2.1 dX7_isUnder_20 rfl (lv_at hl 2 rfl) ?_
          refine lv_iload_n X.1 X.2.1 dX7_isUnder_21 rfl (lv_at hl 1 rfl) ?_
          refine lv_icmp_ne (tgt := 27) X.1 X.2.1 dX7_isUnder_22 (by decide) (fun c4 => ?_) (fun c4 => ?_)
          · have hf := if_e hf c4
            refine r_un X hw qw854 dX7_isUnder_27 ?_
            refine lv_iload_n X.1 X.2.1 dX7_isUnder_30 rfl (lv_at hl 2 rfl) ?_
            obtain ⟨h5, hf⟩ := b_ck hf
            refine r_unld X hw h5 dX7_isUnder_31 ?_
            refine r_bnd hf (fun v6 hf => ?_)
            refine lv_istore_n (lv' := [(2, .int v6), (0, .int u0), (1, .int u1), (3, .int w3)]) X.1 X.2.1 dX7_isUnder_32 rfl hl (by decide) rfl (fun ls hl => ?_)
            obtain ⟨v7, e8, hf⟩ := b_bnd hf
            refine lv_iinc (v := v7) (k := 3) (lv' := [(3, .int v7), (2, .int v6), (0, .int u0), (1, .int u1)]) X.1 X.2.1 dX7_isUnder_33 hl rfl (by rw [e8]; exact congrArg _ (by decide)) (by decide) rfl (fun ls hl => ?_)
            refine lv_goto (tgt := 4) X.1 X.2.1 dX7_isUnder_36 (by decide) ?_
            obtain rfl := Option.some.inj hf
            exact ih _ _ (hr1 _ rfl) _ _ _ hw (lv_sub hl [2, 3, 1, 0] rfl) K1 K2
          · have hf := if_t hf c4
            refine lv_iconst (v := 1) X.1 X.2.1 dX7_isUnder_25 (by decide) ?_
            obtain rfl := Option.some.inj hf
            obtain rfl := hr2 _ rfl
            rw [K2 _ rfl]
            exact r_zret X hw (by decide) dX7_isUnder_26
set_option maxHeartbeats 4000000 in
set_option maxRecDepth 100000 in
theorem k_X7_isUnder {l : Launch} {E : en_T} (hE : ShF E) {x1 : Int32} {x2 : Int32} {σ : sg_T} {r : Int32} (hf : f_X7_isUnder x1 x2 σ = some r) : Ct l yX7_isUnder cX7_isUnder 4 (some .boolean) rm_X7_isUnder E [.int x1, .int x2] σ (some (.int r)) σ := by
  refine Ct.start (by decide) hE.1 (Nat.le_of_ble_eq_true rfl) ?_
  intro p e s m below meth c X hw ls hl
  have X : Cx E p s m _ meth c cX7_isUnder 4 RX7 (some .boolean) := X
  have hR : ShR E := hE.r
  have hl : lv_has ls 4 [(0, .int x1), (1, .int x2)] := hl
  unfold f_X7_isUnder at hf
  refine lv_iload_n X.1 X.2.1 dX7_isUnder_0 rfl (lv_at hl 0 rfl) ?_
  refine lv_istore_n (lv' := [(2, .int x1), (0, .int x1), (1, .int x2)]) X.1 X.2.1 dX7_isUnder_1 rfl hl (by decide) rfl (fun ls hl => ?_)
  refine lv_iconst (v := 0) X.1 X.2.1 dX7_isUnder_2 (by decide) ?_
  refine lv_istore_n (lv' := [(3, .int 0), (2, .int x1), (0, .int x1), (1, .int x2)]) X.1 X.2.1 dX7_isUnder_3 rfl hl (by decide) rfl (fun ls hl => ?_)
  obtain ⟨r12, h9, hf⟩ := b_bs hf
  rcases hf with ⟨⟨v10, v11⟩, rfl, hf⟩ | ⟨r13, rfl, hf⟩
  · refine w_X7_isUnder_4 X hE  lfu _ _ h9 _ _ _ hw (lv_sub hl [2, 3, 1, 0] rfl) (fun yv10 yv11 hq H locs ls hw hl => ?_) (fun _ hq => by cases hq)
    cases hq
    dsimp only at hf
    refine lv_iconst (v := 0) X.1 X.2.1 dX7_isUnder_39 (by decide) ?_
    obtain rfl := Option.some.inj hf
    exact r_zret X hw (by decide) dX7_isUnder_40
  · refine w_X7_isUnder_4 X hE  lfu _ _ h9 _ _ _ hw (lv_sub hl [2, 3, 1, 0] rfl) (fun _ _ hq => by cases hq) (fun _ hq => ?_)
    cases hq
    cases hf
    rfl
abbrev rm_X7_taken : Room := { frames := 3, cells := 0, slots := 0, locals := 144 }
set_option maxHeartbeats 4000000 in
set_option maxRecDepth 100000 in
theorem k_X7_taken {l : Launch} {E : en_T} (hE : ShF E) {x1 : Int32} {x2 : Int32} {σ : sg_T} {r : Int32} (hf : f_X7_taken x1 x2 σ = some r) : Ct l yX7_taken cX7_taken 3 (some .int) rm_X7_taken E [.ref (eP E 0), .int x1, .int x2] σ (some (.int r)) σ := by
  refine Ct.start (by decide) hE.1 (Nat.le_of_ble_eq_true rfl) ?_
  intro p e s m below meth c X hw ls hl
  have X : Cx E p s m _ meth c cX7_taken 3 RX7 (some .int) := X
  have hR : ShR E := hE.r
  have hl : lv_has ls 3 [(0, .ref (eP E 0)), (1, .int x1), (2, .int x2)] := hl
  unfold f_X7_taken at hf
  refine lv_iload_n X.1 X.2.1 dX7_taken_0 rfl (lv_at hl 2 rfl) ?_
  refine lv_if_lt (tgt := 10) X.1 X.2.1 dX7_taken_1 (by decide) (fun c1 => ?_) (fun c1 => ?_)
  · have hf := if_t hf c1
    refine lv_bipush (v := (-2)) X.1 X.2.1 dX7_taken_10 (by decide) ?_
    obtain rfl := Option.some.inj hf
    exact r_iret X hw dX7_taken_12
  · have hf := if_e hf c1
    refine lv_iload_n X.1 X.2.1 dX7_taken_4 rfl (lv_at hl 2 rfl) ?_
    refine lv_bipush (v := 6) X.1 X.2.1 dX7_taken_5 (by decide) ?_
    refine lv_icmp_lt (tgt := 13) X.1 X.2.1 dX7_taken_7 (by decide) (fun c2 => ?_) (fun c2 => ?_)
    · have hf := if_t hf c2
      refine lv_aload_n X.1 X.2.1 dX7_taken_13 rfl (lv_at hl 0 rfl) ?_
      refine r_get X hw (sp0 hE) (C := RX7) (T := TX7) (N := 9) rfl iwX7 3 (by decide) (Nat.le_of_ble_eq_true rfl) qw421 (v := .ref (eP E 34)) rfl dX7_taken_14 ?_
      refine lv_iload_n X.1 X.2.1 dX7_taken_17 rfl (lv_at hl 1 rfl) ?_
      obtain ⟨r4, h3, hf⟩ := b_bd1 hf
      refine r_callV X hw (k_X1_has hE (Or.inl rfl) h3) (spP0 hE (Or.inl rfl)) (C := RX1) (T := TX1) (N := 10) rfl qw489 qw455 qw456 qw76 qw457 okX1_has ⟨rfl, rfl⟩ ⟨(Nat.le_of_ble_eq_true rfl), (Nat.le_of_ble_eq_true rfl)⟩ ⟨Nat.zero_le _, Nat.zero_le _⟩ rfl hl.1 (rest := []) rfl (Nat.le_of_ble_eq_true rfl) dX7_taken_18 (st1 := [.int r4]) rfl (fun H locs hw => ?_)
      refine lv_if_ne (tgt := 27) X.1 X.2.1 dX7_taken_21 (by decide) (fun c5 => ?_) (fun c5 => ?_)
      · have hf := if_e hf c5
        refine lv_aload_n X.1 X.2.1 dX7_taken_27 rfl (lv_at hl 0 rfl) ?_
        refine r_get X hw (sp0 hE) (C := RX7) (T := TX7) (N := 9) rfl iwX7 3 (by decide) (Nat.le_of_ble_eq_true rfl) qw421 (v := .ref (eP E 34)) rfl dX7_taken_28 ?_
        refine lv_bipush (v := 7) X.1 X.2.1 dX7_taken_31 (by decide) ?_
        refine lv_iload_n X.1 X.2.1 dX7_taken_33 rfl (lv_at hl 1 rfl) ?_
        obtain ⟨r7, h6, hf⟩ := b_bd1 hf
        refine r_callV X hw (k_X1_get hE (Or.inl rfl) h6) (spP0 hE (Or.inl rfl)) (C := RX1) (T := TX1) (N := 10) rfl qw460 qw461 qw462 qw76 qw463 okX1_get ⟨rfl, rfl⟩ ⟨(Nat.le_of_ble_eq_true rfl), (Nat.le_of_ble_eq_true rfl)⟩ ⟨Nat.zero_le _, Nat.zero_le _⟩ rfl hl.1 (rest := []) rfl (Nat.le_of_ble_eq_true rfl) dX7_taken_34 (st1 := [.int r7]) rfl (fun H locs hw => ?_)
        refine lv_iload_n X.1 X.2.1 dX7_taken_37 rfl (lv_at hl 2 rfl) ?_
        obtain ⟨r9, h8, hf⟩ := b_bd1 hf
        refine r_callS X hw (k_X7_isUnder hE  h8) qw851 qw852 qw67 qw853 okX7_isUnder ⟨rfl, rfl⟩ ⟨(Nat.le_of_ble_eq_true rfl), (Nat.le_of_ble_eq_true rfl)⟩ ⟨Nat.zero_le _, Nat.zero_le _⟩ rfl hl.1 (rest := []) rfl (Nat.le_of_ble_eq_true rfl) dX7_taken_38 (st1 := [.int r9]) rfl (fun H locs hw => ?_)
        refine lv_if_eq (tgt := 56) X.1 X.2.1 dX7_taken_41 (by decide) (fun c10 => ?_) (fun c10 => ?_)
        · have hf := if_t hf c10
          refine lv_bipush (v := (-13)) X.1 X.2.1 dX7_taken_56 (by decide) ?_
          obtain rfl := Option.some.inj hf
          exact r_iret X hw dX7_taken_58
        · have hf := if_e hf c10
          refine lv_aload_n X.1 X.2.1 dX7_taken_44 rfl (lv_at hl 0 rfl) ?_
          refine r_get X hw (sp0 hE) (C := RX7) (T := TX7) (N := 9) rfl iwX7 3 (by decide) (Nat.le_of_ble_eq_true rfl) qw421 (v := .ref (eP E 34)) rfl dX7_taken_45 ?_
          refine lv_iconst (v := 1) X.1 X.2.1 dX7_taken_48 (by decide) ?_
          refine lv_iload_n X.1 X.2.1 dX7_taken_49 rfl (lv_at hl 1 rfl) ?_
          obtain ⟨r12, h11, hf⟩ := b_bd1 hf
          refine r_callV X hw (k_X1_get hE (Or.inl rfl) h11) (spP0 hE (Or.inl rfl)) (C := RX1) (T := TX1) (N := 10) rfl qw460 qw461 qw462 qw76 qw463 okX1_get ⟨rfl, rfl⟩ ⟨(Nat.le_of_ble_eq_true rfl), (Nat.le_of_ble_eq_true rfl)⟩ ⟨Nat.zero_le _, Nat.zero_le _⟩ rfl hl.1 (rest := []) rfl (Nat.le_of_ble_eq_true rfl) dX7_taken_50 (st1 := [.int r12]) rfl (fun H locs hw => ?_)
          refine lv_goto (tgt := 58) X.1 X.2.1 dX7_taken_53 (by decide) ?_
          obtain rfl := Option.some.inj hf
          exact r_iret X hw dX7_taken_58
      · have hf := if_t hf c5
        refine lv_bipush (v := (-11)) X.1 X.2.1 dX7_taken_24 (by decide) ?_
        obtain rfl := Option.some.inj hf
        exact r_iret X hw dX7_taken_26
    · have hf := if_e hf c2
      refine lv_bipush (v := (-2)) X.1 X.2.1 dX7_taken_10 (by decide) ?_
      obtain rfl := Option.some.inj hf
      exact r_iret X hw dX7_taken_12
