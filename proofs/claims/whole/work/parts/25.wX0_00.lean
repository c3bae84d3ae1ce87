abbrev rm_X0_wakes : Room := { frames := 5, cells := 0, slots := 0, locals := 177 }
set_option maxHeartbeats 4000000 in
set_option maxRecDepth 100000 in
theorem k_X0_wakes {l : Launch} {E : en_T} (hE : ShF E) {o1 : Nat} (ho1 : isP o1) {x2 : Int32} {σ : sg_T} {r : Int32} {σ' : sg_T} (hf : f_X0_wakes o1 x2 σ = some (r, σ')) : Ct l yX0_wakes cX0_wakes 4 (some .int) rm_X0_wakes E [.ref (eP E 28), .ref (eP E o1), .int x2] σ (some (.int r)) σ' := by
  refine Ct.start (by decide) hE.1 (Nat.le_of_ble_eq_true rfl) ?_
  intro p e s m below meth c X hw ls hl
  have X : Cx E p s m _ meth c cX0_wakes 4 RX0 (some .int) := X
  have hR : ShR E := hE.r
  have hl : lv_has ls 4 [(0, .ref (eP E 28)), (1, .ref (eP E o1)), (2, .int x2)] := hl
  unfold f_X0_wakes at hf
  refine lv_aload_n X.1 X.2.1 dX0_wakes_0 rfl (lv_at hl 1 rfl) ?_
  refine lv_iload_n X.1 X.2.1 dX0_wakes_1 rfl (lv_at hl 2 rfl) ?_
  obtain ⟨r2, h1, hf⟩ := b_bd1 hf
  refine r_callV X hw (k_X1_setterOf hE ho1 h1) (spP0 hE ho1) (C := RX1) (T := TX1) (N := 10) rfl qw498 qw491 qw492 qw76 qw493 okX1_setterOf ⟨rfl, rfl⟩ ⟨(Nat.le_of_ble_eq_true rfl), (Nat.le_of_ble_eq_true rfl)⟩ ⟨Nat.zero_le _, Nat.zero_le _⟩ rfl hl.1 (rest := []) rfl (Nat.le_of_ble_eq_true rfl) dX0_wakes_2 (st1 := [.int r2]) rfl (fun H locs hw => ?_)
  refine lv_istore_n (lv' := [(3, .int r2), (0, .ref (eP E 28)), (1, .ref (eP E o1)), (2, .int x2)]) X.1 X.2.1 dX0_wakes_5 rfl hl (by decide) rfl (fun ls hl => ?_)
  refine lv_iload_n X.1 X.2.1 dX0_wakes_6 rfl (lv_at hl 0 rfl) ?_
  refine lv_iconst (v := (-1)) X.1 X.2.1 dX0_wakes_7 (by decide) ?_
  refine lv_icmp_ne (tgt := 15) X.1 X.2.1 dX0_wakes_8 (by decide) (fun c3 => ?_) (fun c3 => ?_)
  · have hf := if_e hf c3
    refine lv_aload_n X.1 X.2.1 dX0_wakes_15 rfl (lv_at hl 1 rfl) ?_
    refine r_get X hw (sp28 hE) (C := RX0) (T := TX0) (N := 6) rfl iwX0 0 (by decide) (Nat.le_of_ble_eq_true rfl) qw325 (v := .ref (eP E 6)) rfl dX0_wakes_16 ?_
    refine lv_aload_n X.1 X.2.1 dX0_wakes_19 rfl (lv_at hl 2 rfl) ?_
    refine lv_iload_n X.1 X.2.1 dX0_wakes_20 rfl (lv_at hl 0 rfl) ?_
    refine lv_iload_n X.1 X.2.1 dX0_wakes_21 rfl (lv_at hl 3 rfl) ?_
    obtain ⟨r5, σ6, h4, hf⟩ := b_bd2 hf
    refine r_callV X hw (k_X3_hourSet hE ho1 h4) (sp6 hR) (C := RX3) (T := TX3) (N := 4) rfl qw499 qw500 qw501 qw69 qw502 okX3_hourSet ⟨rfl, rfl⟩ ⟨(Nat.le_of_ble_eq_true rfl), (Nat.le_of_ble_eq_true rfl)⟩ ⟨Nat.zero_le _, Nat.zero_le _⟩ rfl hl.1 (rest := []) rfl (Nat.le_of_ble_eq_true rfl) dX0_wakes_22 (st1 := [.int r5]) rfl (fun H locs hw => ?_)
    obtain ⟨rfl, rfl⟩ := Prod.mk.inj (Option.some.inj hf)
    exact r_iret X hw dX0_wakes_25
  · have hf := if_t hf c3
    refine lv_iconst (v := (-1)) X.1 X.2.1 dX0_wakes_11 (by decide) ?_
    refine lv_goto (tgt := 25) X.1 X.2.1 dX0_wakes_12 (by decide) ?_
    obtain ⟨rfl, rfl⟩ := Prod.mk.inj (Option.some.inj hf)
    exact r_iret X hw dX0_wakes_25
abbrev rm_X0_lateBy : Room := { frames := 6, cells := 0, slots := 0, locals := 200 }
set_option maxHeartbeats 4000000 in
set_option maxRecDepth 100000 in
theorem k_X0_lateBy {l : Launch} {E : en_T} (hE : ShF E) {o1 : Nat} (ho1 : isP o1) {x2 : Int32} {σ : sg_T} {r : Int32} {σ' : sg_T} (hf : f_X0_lateBy o1 x2 σ = some (r, σ')) : Ct l yX0_lateBy cX0_lateBy 3 (some .int) rm_X0_lateBy E [.ref (eP E 28), .ref (eP E o1), .int x2] σ (some (.int r)) σ' := by
  refine Ct.start (by decide) hE.1 (Nat.le_of_ble_eq_true rfl) ?_
  intro p e s m below meth c X hw ls hl
  have X : Cx E p s m _ meth c cX0_lateBy 3 RX0 (some .int) := X
  have hR : ShR E := hE.r
  have hl : lv_has ls 3 [(0, .ref (eP E 28)), (1, .ref (eP E o1)), (2, .int x2)] := hl
  unfold f_X0_lateBy at hf
  refine lv_iconst (v := 0) X.1 X.2.1 dX0_lateBy_0 (by decide) ?_
  refine lv_aload_n X.1 X.2.1 dX0_lateBy_1 rfl (lv_at hl 0 rfl) ?_
  refine lv_aload_n X.1 X.2.1 dX0_lateBy_2 rfl (lv_at hl 1 rfl) ?_
  refine lv_iload_n X.1 X.2.1 dX0_lateBy_3 rfl (lv_at hl 2 rfl) ?_
  obtain ⟨r2, σ3, h1, hf⟩ := b_bd2 hf
  refine r_callV X hw (k_X0_wakes hE ho1 h1) (sp28 hE) (C := RX0) (T := TX0) (N := 6) rfl qw549 qw495 qw496 qw75 qw497 okX0_wakes ⟨rfl, rfl⟩ ⟨(Nat.le_of_ble_eq_true rfl), (Nat.le_of_ble_eq_true rfl)⟩ ⟨Nat.zero_le _, Nat.zero_le _⟩ rfl hl.1 (rest := [.int 0]) rfl (Nat.le_of_ble_eq_true rfl) dX0_lateBy_4 (st1 := [.int r2, .int 0]) rfl (fun H locs hw => ?_)
  refine lv_aload_n X.1 X.2.1 dX0_lateBy_7 rfl (lv_at hl 1 rfl) ?_
  refine lv_iconst (v := 2) X.1 X.2.1 dX0_lateBy_8 (by decide) ?_
  refine lv_iload_n X.1 X.2.1 dX0_lateBy_9 rfl (lv_at hl 2 rfl) ?_
  obtain ⟨r5, h4, hf⟩ := b_bd1 hf
  refine r_callV X hw (k_X1_get hE ho1 h4) (spP0 hE ho1) (C := RX1) (T := TX1) (N := 10) rfl qw550 qw461 qw462 qw76 qw463 okX1_get ⟨rfl, rfl⟩ ⟨(Nat.le_of_ble_eq_true rfl), (Nat.le_of_ble_eq_true rfl)⟩ ⟨Nat.zero_le _, Nat.zero_le _⟩ rfl hl.1 (rest := [.int r2, .int 0]) rfl (Nat.le_of_ble_eq_true rfl) dX0_lateBy_10 (st1 := [.int r5, .int r2, .int 0]) rfl (fun H locs hw => ?_)
  refine lv_isub X.1 X.2.1 dX0_lateBy_13 ?_
  refine r_max X hl.1 qw551 qw537 qw80 qw538 (Nat.le_of_ble_eq_true rfl) (Nat.le_of_ble_eq_true rfl) (Nat.zero_le _) (Nat.zero_le _) dX0_lateBy_14 ?_
  obtain ⟨rfl, rfl⟩ := Prod.mk.inj (Option.some.inj hf)
  exact r_iret X hw dX0_lateBy_17
abbrev rm_X0_dawn : Room := { frames := 5, cells := 0, slots := 0, locals := 178 }
set_option maxHeartbeats 4000000 in
set_option maxRecDepth 100000 in
theorem w_X0_dawn_2 {p : Program} {l : Launch} {e : Env} {s : State} {m : MethodId} {args : Array Value} {below : List Frame} {meth : Method} {c : Code} {Q : State → Prop} {E : en_T} (X : Cx E p s m args meth c cX0_dawn 4 RX0 none) (hE : ShF E) {o51 : Nat} (ho51 : isP o51)  {res : Int32 × sg_T} :
    ∀ (n : Nat) (w2 : Int32) (σ : sg_T), itr (fun q => b_X0_dawn_2 o51 q.1 q.2) n (w2, σ) = some res → ∀ (H : Heap) (locs : List Loc) (ls : Array Slot), Hw E σ s H locs → lv_has ls 4 [(0, .ref (eP E 28)), (1, .ref (eP E o51)), (2, .int w2)] →
    (∀ (y2 : Int32) (τ : sg_T), res = (y2, τ) → ∀ (H : Heap) (locs : List Loc) (ls : Array Slot), Hw E τ s H locs → lv_has ls 4 [(0, .ref (eP E 28)), (1, .ref (eP E o51)), (2, .int y2)] → W p l e rm_X0_dawn s m args below meth c H locs 0 0 Q (F0 m 141 ls [])) →
    W p l e rm_X0_dawn s m args below meth c H locs 0 0 Q (F0 m 2 ls []) := by
  have hR : ShR E := hE.r
  intro n
  induction n with
  | zero =>
    intro w2 σ hf0
    exact (itr_0 hf0).elim
  | succ n ih =>
    intro w2 σ hf0 H locs ls hw hl K1
    obtain ⟨r0, hf, hr1, hr2⟩ := itr_s hf0
    have hf : b_X0_dawn_2 o51 w2 σ = some r0 := hf
    unfold b_X0_dawn_2 at hf
    refine lv_iload_n X.1 X.2.1 dX0_dawn_2 rfl (lv_at hl 2 rfl) ?_
    refine lv_aload_n X.1 X.2.1 dX0_dawn_3 rfl (lv_at hl 1 rfl) ?_
    obtain ⟨r2, h1, hf⟩ := b_bd1 hf
    refine r_callV X hw (k_X1_many hE ho51 h1) (spP0 hE ho51) (C := RX1) (T := TX1) (N := 10) rfl qw609 qw610 qw611 qw76 qw612 okX1_many ⟨rfl, rfl⟩ ⟨(Nat.le_of_ble_eq_true rfl), (Nat.le_of_ble_eq_true rfl)⟩ ⟨Nat.zero_le _, Nat.zero_le _⟩ rfl hl.1 (rest := [.int w2]) rfl (Nat.le_of_ble_eq_true rfl) dX0_dawn_4 (st1 := [.int r2, .int w2]) rfl (fun H locs hw => ?_)
    refine lv_icmp_ge (tgt := 141) X.1 X.2.1 dX0_dawn_7 (by decide) (fun c3 => ?_) (fun c3 => ?_)
    · have hf := if_t hf c3
      obtain rfl := Option.some.inj hf
      obtain rfl := hr2 _ rfl
      exact K1 _ _ rfl _ _ _ hw (lv_sub hl [0, 1, 2] rfl)
    · have hf := if_e hf c3
      refine lv_aload_n X.1 X.2.1 dX0_dawn_10 rfl (lv_at hl 1 rfl) ?_
      refine lv_iload_n X.1 X.2.1 dX0_dawn_11 rfl (lv_at hl 2 rfl) ?_
      obtain ⟨r5, h4, hf⟩ := b_bd1 hf
      refine r_callV X hw (k_X1_setterOf hE ho51 h4) (spP0 hE ho51) (C := RX1) (T := TX1) (N := 10) rfl qw498 qw491 qw492 qw76 qw493 okX1_setterOf ⟨rfl, rfl⟩ ⟨(Nat.le_of_ble_eq_true rfl), (Nat.le_of_ble_eq_true rfl)⟩ ⟨Nat.zero_le _, Nat.zero_le _⟩ rfl hl.1 (rest := []) rfl (Nat.le_of_ble_eq_true rfl) dX0_dawn_12 (st1 := [.int r5]) rfl (fun H locs hw => ?_)
      refine lv_istore_n (lv' := [(3, .int r5), (0, .ref (eP E 28)), (1, .ref (eP E o51)), (2, .int w2)]) X.1 X.2.1 dX0_dawn_15 rfl hl (by decide) rfl (fun ls hl => ?_)
      refine lv_aload_n X.1 X.2.1 dX0_dawn_16 rfl (lv_at hl 1 rfl) ?_
      refine r_get X hw (sp28 hE) (C := RX0) (T := TX0) (N := 6) rfl iwX0 1 (by decide) (Nat.le_of_ble_eq_true rfl) qw326 (v := .ref (eP E 29)) rfl dX0_dawn_17 ?_
      refine lv_iload_n X.1 X.2.1 dX0_dawn_20 rfl (lv_at hl 3 rfl) ?_
      refine lv_iload_n X.1 X.2.1 dX0_dawn_21 rfl (lv_at hl 0 rfl) ?_
      obtain ⟨h6, hf⟩ := b_ck hf
      refine r_iast X hw (sp29 hE) h6 dX0_dawn_22 (fun H locs hw => ?_)
      obtain ⟨σ7, e8, hf⟩ := b_bnd hf
      rw [← e8] at hw
      refine lv_iload_n X.1 X.2.1 dX0_dawn_23 rfl (lv_at hl 0 rfl) ?_
      refine lv_iconst (v := (-1)) X.1 X.2.1 dX0_dawn_24 (by decide) ?_
      refine lv_icmp_ne (tgt := 45) X.1 X.2.1 dX0_dawn_25 (by decide) (fun c9 => ?_) (fun c9 => ?_)
      · have hf := if_e hf c9
        refine lv_aload_n X.1 X.2.1 dX0_dawn_45 rfl (lv_at hl 1 rfl) ?_
        refine r_get X hw (sp28 hE) (C := RX0) (T := TX0) (N := 6) rfl iwX0 2 (by decide) (Nat.le_of_ble_eq_true rfl) qw327 (v := .ref (eP E 30)) rfl dX0_dawn_46 ?_
        refine lv_iload_n X.1 X.2.1 dX0_dawn_49 rfl (lv_at hl 3 rfl) ?_
        refine lv_aload_n X.1 X.2.1 dX0_dawn_50 rfl (lv_at hl 1 rfl) ?_
        refine r_get X hw (sp28 hE) (C := RX0) (T := TX0) (N := 6) rfl iwX0 0 (by decide) (Nat.le_of_ble_eq_true rfl) qw325 (v := .ref (eP E 6)) rfl dX0_dawn_51 ?_
        refine lv_aload_n X.1 X.2.1 dX0_dawn_54 rfl (lv_at hl 2 rfl) ?_
        refine lv_iload_n X.1 X.2.1 dX0_dawn_55 rfl (lv_at hl 0 rfl) ?_
        refine lv_iload_n X.1 X.2.1 dX0_dawn_56 rfl (lv_at hl 3 rfl) ?_
        obtain ⟨r11, σ12, h10, hf⟩ := b_bd2 hf
        refine r_callV X hw (k_X3_hourSet hE ho51 h10) (sp6 hR) (C := RX3) (T := TX3) (N := 4) rfl qw499 qw500 qw501 qw69 qw502 okX3_hourSet ⟨rfl, rfl⟩ ⟨(Nat.le_of_ble_eq_true rfl), (Nat.le_of_ble_eq_true rfl)⟩ ⟨Nat.zero_le _, Nat.zero_le _⟩ rfl hl.1 (rest := [.int w2, .ref (eP E 30)]) rfl (Nat.le_of_ble_eq_true rfl) dX0_dawn_57 (st1 := [.int r11, .int w2, .ref (eP E 30)]) rfl (fun H locs hw => ?_)
        obtain ⟨h13, hf⟩ := b_ck hf
        refine r_iast X hw (sp30 hE) h13 dX0_dawn_60 (fun H locs hw => ?_)
        obtain ⟨σ14, e15, hf⟩ := b_bnd hf
        rw [← e15] at hw
        refine lv_aload_n X.1 X.2.1 dX0_dawn_61 rfl (lv_at hl 1 rfl) ?_
        refine r_get X hw (sp28 hE) (C := RX0) (T := TX0) (N := 6) rfl iwX0 3 (by decide) (Nat.le_of_ble_eq_true rfl) qw328 (v := .ref (eP E 31)) rfl dX0_dawn_62 ?_
        refine lv_iload_n X.1 X.2.1 dX0_dawn_65 rfl (lv_at hl 3 rfl) ?_
        refine lv_iconst (v := 0) X.1 X.2.1 dX0_dawn_66 (by decide) ?_
        refine lv_aload_n X.1 X.2.1 dX0_dawn_67 rfl (lv_at hl 1 rfl) ?_
        refine r_get X hw (sp28 hE) (C := RX0) (T := TX0) (N := 6) rfl iwX0 2 (by decide) (Nat.le_of_ble_eq_true rfl) qw327 (v := .ref (eP E 30)) rfl dX0_dawn_68 ?_
        refine lv_iload_n X.1 X.2.1 dX0_dawn_71 rfl (lv_at hl 3 rfl) ?_
        obtain ⟨h16, hf⟩ := b_ck hf
        refine r_iald X hw (sp30 hE) h16 dX0_dawn_72 ?_
        refine lv_aload_n X.1 X.2.1 dX0_dawn_73 rfl (lv_at hl 2 rfl) ?_
        refine lv_iconst (v := 2) X.1 X.2.1 dX0_dawn_74 (by decide) ?_
        refine lv_iload_n X.1 X.2.1 dX0_dawn_75 rfl (lv_at hl 3 rfl) ?_
        obtain ⟨r18, h17, hf⟩ := b_bd1 hf
        refine r_callV X hw (k_X1_get hE ho51 h17) (spP0 hE ho51) (C := RX1) (T := TX1) (N := 10) rfl qw550 qw461 qw462 qw76 qw463 okX1_get ⟨rfl, rfl⟩ ⟨(Nat.le_of_ble_eq_true rfl), (Nat.le_of_ble_eq_true rfl)⟩ ⟨Nat.zero_le _, Nat.zero_le _⟩ rfl hl.1 (rest := [.int (σ14 30 w2.toNatClampNeg), .int 0, .int w2, .ref (eP E 31)]) rfl (Nat.le_of_ble_eq_true rfl) dX0_dawn_76 (st1 := [.int r18, .int (σ14 30 w2.toNatClampNeg), .int 0, .int w2, .ref (eP E 31)]) rfl (fun H locs hw => ?_)
        refine lv_isub X.1 X.2.1 dX0_dawn_79 ?_
        refine r_max X hl.1 qw551 qw537 qw80 qw538 (Nat.le_of_ble_eq_true rfl) (Nat.le_of_ble_eq_true rfl) (Nat.zero_le _) (Nat.zero_le _) dX0_dawn_80 ?_
        obtain ⟨h19, hf⟩ := b_ck hf
        refine r_iast X hw (sp31 hE) h19 dX0_dawn_83 (fun H locs hw => ?_)
        obtain ⟨σ20, e21, hf⟩ := b_bnd hf
        rw [← e21] at hw
        refine lv_aload_n X.1 X.2.1 dX0_dawn_84 rfl (lv_at hl 1 rfl) ?_
        refine r_get X hw (sp28 hE) (C := RX0) (T := TX0) (N := 6) rfl iwX0 4 (by decide) (Nat.le_of_ble_eq_true rfl) qw329 (v := .ref (eP E 32)) rfl dX0_dawn_85 ?_
        refine lv_iload_n X.1 X.2.1 dX0_dawn_88 rfl (lv_at hl 3 rfl) ?_
        refine lv_aload_n X.1 X.2.1 dX0_dawn_89 rfl (lv_at hl 1 rfl) ?_
        refine r_get X hw (sp28 hE) (C := RX0) (T := TX0) (N := 6) rfl iwX0 0 (by decide) (Nat.le_of_ble_eq_true rfl) qw325 (v := .ref (eP E 6)) rfl dX0_dawn_90 ?_
        refine lv_aload_n X.1 X.2.1 dX0_dawn_93 rfl (lv_at hl 2 rfl) ?_
        refine lv_iload_n X.1 X.2.1 dX0_dawn_94 rfl (lv_at hl 3 rfl) ?_
        refine lv_aload_n X.1 X.2.1 dX0_dawn_95 rfl (lv_at hl 1 rfl) ?_
        refine r_get X hw (sp28 hE) (C := RX0) (T := TX0) (N := 6) rfl iwX0 2 (by decide) (Nat.le_of_ble_eq_true rfl) qw327 (v := .ref (eP E 30)) rfl dX0_dawn_96 ?_
        refine lv_iload_n X.1 X.2.1 dX0_dawn_99 rfl (lv_at hl 3 rfl) ?_
        obtain ⟨h22, hf⟩ := b_ck hf
        refine r_iald X hw (sp30 hE) h22 dX0_dawn_100 ?_
        obtain ⟨r24, σ25, h23, hf⟩ := b_bd2 hf
        refine r_callV X hw (k_X3_tiredBy hE ho51 h23) (sp6 hR) (C := RX3) (T := TX3) (N := 4) rfl qw613 qw575 qw576 qw69 qw577 okX3_tiredBy ⟨rfl, rfl⟩ ⟨(Nat.le_of_ble_eq_true rfl), (Nat.le_of_ble_eq_true rfl)⟩ ⟨Nat.zero_le _, Nat.zero_le _⟩ rfl hl.1 (rest := [.int w2, .ref (eP E 32)]) rfl (Nat.le_of_ble_eq_true rfl) dX0_dawn_101 (st1 := [.int r24, .int w2, .ref (eP E 32)]) rfl (fun H locs hw => ?_)
        obtain ⟨h26, hf⟩ := b_ck hf
        refine r_iast X hw (sp32 hE) h26 dX0_dawn_104 (fun H locs hw => ?_)
        obtain ⟨σ27, e28, hf⟩ := b_bnd hf
        rw [← e28] at hw
        refine lv_aload_n X.1 X.2.1 dX0_dawn_105 rfl (lv_at hl 1 rfl) ?_
        refine r_get X hw (sp28 hE) (C := RX0) (T := TX0) (N := 6) rfl iwX0 5 (by decide) (Nat.le_of_ble_eq_true rfl) qw330 (v := .ref (eP E 33)) rfl dX0_dawn_106 ?_
        refine lv_iload_n X.1 X.2.1 dX0_dawn_109 rfl (lv_at hl 3 rfl) ?_
        refine lv_aload_n X.1 X.2.1 dX0_dawn_110 rfl (lv_at hl 1 rfl) ?_
        refine r_get X hw (sp28 hE) (C := RX0) (T := TX0) (N := 6) rfl iwX0 0 (by decide) (Nat.le_of_ble_eq_true rfl) qw325 (v := .ref (eP E 6)) rfl dX0_dawn_111 ?_
        refine lv_aload_n X.1 X.2.1 dX0_dawn_114 rfl (lv_at hl 2 rfl) ?_
        refine lv_iload_n X.1 X.2.1 dX0_dawn_115 rfl (lv_at hl 0 rfl) ?_
        refine lv_iload_n X.1 X.2.1 dX0_dawn_116 rfl (lv_at hl 3 rfl) ?_
        refine lv_aload_n X.1 X.2.1 dX0_dawn_117 rfl (lv_at hl 1 rfl) ?_
        refine r_get X hw (sp28 hE) (C := RX0) (T := TX0) (N := 6) rfl iwX0 3 (by decide) (Nat.le_of_ble_eq_true rfl) qw328 (v := .ref (eP E 31)) rfl dX0_dawn_118 ?_
        refine lv_iload_n X.1 X.2.1 dX0_dawn_121 rfl (lv_at hl 3 rfl) ?_
        obtain ⟨h29, hf⟩ := b_ck hf
        refine r_iald X hw (sp31 hE) h29 dX0_dawn_122 ?_
        obtain ⟨v31, e32, hf⟩ := b_bnd hf
        refine r_join (g2 := F0 m 131 ls [.int v31, .int w2, .int r5, .ref (eP E o51), .ref (eP E 6), .int w2, .ref (eP E 33)]) ?_ (fun hj => ?_)
        · obtain ⟨r34, σ35, h33, hf⟩ := b_bd2 hf
          refine r_callV X hw (k_X3_fonderBy hE ho51 h33) (sp6 hR) (C := RX3) (T := TX3) (N := 4) rfl qw614 qw567 qw568 qw69 qw569 okX3_fonderBy ⟨rfl, rfl⟩ ⟨(Nat.le_of_ble_eq_true rfl), (Nat.le_of_ble_eq_true rfl)⟩ ⟨Nat.zero_le _, Nat.zero_le _⟩ rfl hl.1 (rest := [.int w2, .ref (eP E 33)]) rfl (Nat.le_of_ble_eq_true rfl) dX0_dawn_131 (st1 := [.int r34, .int w2, .ref (eP E 33)]) rfl (fun H locs hw => ?_)
          obtain ⟨h36, hf⟩ := b_ck hf
          refine r_iast X hw (sp33 hE) h36 dX0_dawn_134 (fun H locs hw => ?_)
          obtain ⟨σ37, e38, hf⟩ := b_bnd hf
          rw [← e38] at hw
          obtain ⟨v39, e40, hf⟩ := b_bnd hf
          refine lv_iinc (v := v39) (k := 3) (lv' := [(2, .int v39), (3, .int r5), (0, .ref (eP E 28)), (1, .ref (eP E o51))]) X.1 X.2.1 dX0_dawn_135 hl rfl (by rw [e40]; exact congrArg _ (by decide)) (by decide) rfl (fun ls hl => ?_)
          refine lv_goto (tgt := 2) X.1 X.2.1 dX0_dawn_138 (by decide) ?_
          obtain rfl := Option.some.inj hf
          exact ih _ _ (hr1 _ rfl) _ _ _ hw (lv_sub hl [2, 3, 0] rfl) K1
        · refine lv_if_le (tgt := 130) X.1 X.2.1 dX0_dawn_123 (by decide) (fun c30 => ?_) (fun c30 => ?_)
          · rw [e32, if_pos c30] at hj
            refine lv_iconst (v := 0) X.1 X.2.1 dX0_dawn_130 (by decide) ?_
            exact hj
          · rw [e32, if_neg c30] at hj
            refine lv_iconst (v := 1) X.1 X.2.1 dX0_dawn_126 (by decide) ?_
            refine lv_goto (tgt := 131) X.1 X.2.1 dX0_dawn_127 (by decide) ?_
            exact hj
      · have hf := if_t hf c9
        refine lv_aload_n X.1 X.2.1 dX0_dawn_28 rfl (lv_at hl 1 rfl) ?_
        refine r_get X hw (sp28 hE) (C := RX0) (T := TX0) (N := 6) rfl iwX0 2 (by decide) (Nat.le_of_ble_eq_true rfl) qw327 (v := .ref (eP E 30)) rfl dX0_dawn_29 ?_
        refine lv_iload_n X.1 X.2.1 dX0_dawn_32 rfl (lv_at hl 3 rfl) ?_
        refine lv_iconst (v := (-1)) X.1 X.2.1 dX0_dawn_33 (by decide) ?_
        obtain ⟨h41, hf⟩ := b_ck hf
        refine r_iast X hw (sp30 hE) h41 dX0_dawn_34 (fun H locs hw => ?_)
        obtain ⟨σ42, e43, hf⟩ := b_bnd hf
        rw [← e43] at hw
        refine lv_aload_n X.1 X.2.1 dX0_dawn_35 rfl (lv_at hl 1 rfl) ?_
        refine r_get X hw (sp28 hE) (C := RX0) (T := TX0) (N := 6) rfl iwX0 3 (by decide) (Nat.le_of_ble_eq_true rfl) qw328 (v := .ref (eP E 31)) rfl dX0_dawn_36 ?_
        refine lv_iload_n X.1 X.2.1 dX0_dawn_39 rfl (lv_at hl 3 rfl) ?_
        refine lv_iconst (v := 0) X.1 X.2.1 dX0_dawn_40 (by decide) ?_
        obtain ⟨h44, hf⟩ := b_ck hf
        refine r_iast X hw (sp31 hE) h44 dX0_dawn_41 (fun H locs hw => ?_)
        obtain ⟨σ45, e46, hf⟩ := b_bnd hf
        rw [← e46] at hw
        refine lv_goto (tgt := 135) X.1 X.2.1 dX0_dawn_42 (by decide) ?_
        obtain ⟨v47, e48, hf⟩ := b_bnd hf
        refine lv_iinc (v := v47) (k := 3) (lv' := [(2, .int v47), (3, .int r5), (0, .ref (eP E 28)), (1, .ref (eP E o51))]) X.1 X.2.1 dX0_dawn_135 hl rfl (by rw [e48]; exact congrArg _ (by decide)) (by decide) rfl (fun ls hl => ?_)
        refine lv_goto (tgt := 2) X.1 X.2.1 dX0_dawn_138 (by decide) ?_
        obtain rfl := Option.some.inj hf
        exact ih _ _ (hr1 _ rfl) _ _ _ hw (lv_sub hl [2, 3, 0] rfl) K1
set_option maxHeartbeats 4000000 in
set_option maxRecDepth 100000 in
theorem k_X0_dawn {l : Launch} {E : en_T} (hE : ShF E) {o1 : Nat} (ho1 : isP o1) {σ : sg_T}  {σ' : sg_T} (hf : f_X0_dawn o1 σ = some σ') : Ct l yX0_dawn cX0_dawn 4 none rm_X0_dawn E [.ref (eP E 28), .ref (eP E o1)] σ none σ' := by
  refine Ct.start (by decide) hE.1 (Nat.le_of_ble_eq_true rfl) ?_
  intro p e s m below meth c X hw ls hl
  have X : Cx E p s m _ meth c cX0_dawn 4 RX0 none := X
  have hR : ShR E := hE.r
  have hl : lv_has ls 4 [(0, .ref (eP E 28)), (1, .ref (eP E o1))] := hl
  unfold f_X0_dawn at hf
  refine lv_iconst (v := 0) X.1 X.2.1 dX0_dawn_0 (by decide) ?_
  refine lv_istore_n (lv' := [(2, .int 0), (0, .ref (eP E 28)), (1, .ref (eP E o1))]) X.1 X.2.1 dX0_dawn_1 rfl hl (by decide) rfl (fun ls hl => ?_)
  obtain ⟨v50, σ51, h49, hf⟩ := b_bd2 hf
  refine w_X0_dawn_2 X hE ho1 lfu _ _ h49 _ _ _ hw (lv_sub hl [1, 2, 0] rfl) (fun yv50 yσ51 hq H locs ls hw hl => ?_)
  cases hq
  obtain rfl := Option.some.inj hf
  exact r_vret X hw dX0_dawn_141
abbrev rm_X0_settle : Room := { frames := 4, cells := 0, slots := 0, locals := 146 }
set_option maxHeartbeats 4000000 in
set_option maxRecDepth 100000 in
theorem w_X0_settle_2 {p : Program} {l : Launch} {e : Env} {s : State} {m : MethodId} {args : Array Value} {below : List Frame} {meth : Method} {c : Code} {Q : State → Prop} {E : en_T} (X : Cx E p s m args meth c cX0_settle 3 RX0 none) (hE : ShF E) {o51 : Nat} (ho51 : isP o51)  {res : Int32 × sg_T} :
    ∀ (n : Nat) (w2 : Int32) (σ : sg_T), itr (fun q => b_X0_settle_2 o51 q.1 q.2) n (w2, σ) = some res → ∀ (H : Heap) (locs : List Loc) (ls : Array Slot), Hw E σ s H locs → lv_has ls 3 [(0, .ref (eP E 28)), (1, .ref (eP E o51)), (2, .int w2)] →
    (∀ (y2 : Int32) (τ : sg_T), res = (y2, τ) → ∀ (H : Heap) (locs : List Loc) (ls : Array Slot), Hw E τ s H locs → lv_has ls 3 [(0, .ref (eP E 28)), (1, .ref (eP E o51)), (2, .int y2)] → W p l e rm_X0_settle s m args below meth c H locs 0 0 Q (F0 m 68 ls [])) →
    W p l e rm_X0_settle s m args below meth c H locs 0 0 Q (F0 m 2 ls []) := by
  have hR : ShR E := hE.r
  intro n
  induction n with
  | zero =>
    intro w2 σ hf0
    exact (itr_0 hf0).elim
  | succ n ih =>
    intro w2 σ hf0 H locs ls hw hl K1
    obtain ⟨r0, hf, hr1, hr2⟩ := itr_s hf0
    have hf : b_X0_settle_2 o51 w2 σ = some r0 := hf
    unfold b_X0_settle_2 at hf
    refine lv_iload_n X.1 X.2.1 dX0_settle_2 rfl (lv_at hl 2 rfl) ?_
    refine lv_aload_n X.1 X.2.1 dX0_settle_3 rfl (lv_at hl 1 rfl) ?_
    obtain ⟨r2, h1, hf⟩ := b_bd1 hf
    refine r_callV X hw (k_X1_many hE ho51 h1) (spP0 hE ho51) (C := RX1) (T := TX1) (N := 10) rfl qw609 qw610 qw611 qw76 qw612 okX1_many ⟨rfl, rfl⟩ ⟨(Nat.le_of_ble_eq_true rfl), (Nat.le_of_ble_eq_true rfl)⟩ ⟨Nat.zero_le _, Nat.zero_le _⟩ rfl hl.1 (rest := [.int w2]) rfl (Nat.le_of_ble_eq_true rfl) dX0_settle_4 (st1 := [.int r2, .int w2]) rfl (fun H locs hw => ?_)
    refine lv_icmp_ge (tgt := 68) X.1 X.2.1 dX0_settle_7 (by decide) (fun c3 => ?_) (fun c3 => ?_)
    · have hf := if_t hf c3
      obtain rfl := Option.some.inj hf
      obtain rfl := hr2 _ rfl
      exact K1 _ _ rfl _ _ _ hw (lv_sub hl [0, 1, 2] rfl)
    · have hf := if_e hf c3
      refine lv_aload_n X.1 X.2.1 dX0_settle_10 rfl (lv_at hl 0 rfl) ?_
      refine r_get X hw (sp28 hE) (C := RX0) (T := TX0) (N := 6) rfl iwX0 1 (by decide) (Nat.le_of_ble_eq_true rfl) qw326 (v := .ref (eP E 29)) rfl dX0_settle_11 ?_
      refine lv_iload_n X.1 X.2.1 dX0_settle_14 rfl (lv_at hl 2 rfl) ?_
      obtain ⟨h4, hf⟩ := b_ck hf
      refine r_iald X hw (sp29 hE) h4 dX0_settle_15 ?_
      refine lv_iconst (v := (-1)) X.1 X.2.1 dX0_settle_16 (by decide) ?_
      refine lv_icmp_ne (tgt := 28) X.1 X.2.1 dX0_settle_17 (by decide) (fun c5 => ?_) (fun c5 => ?_)
      · have hf := if_e hf c5
        refine lv_aload_n X.1 X.2.1 dX0_settle_28 rfl (lv_at hl 1 rfl) ?_
        refine lv_iload_n X.1 X.2.1 dX0_settle_29 rfl (lv_at hl 2 rfl) ?_
        refine lv_aload_n X.1 X.2.1 dX0_settle_30 rfl (lv_at hl 0 rfl) ?_
        refine r_get X hw (sp28 hE) (C := RX0) (T := TX0) (N := 6) rfl iwX0 4 (by decide) (Nat.le_of_ble_eq_true rfl) qw329 (v := .ref (eP E 32)) rfl dX0_settle_31 ?_
        refine lv_iload_n X.1 X.2.1 dX0_settle_34 rfl (lv_at hl 2 rfl) ?_
        obtain ⟨h6, hf⟩ := b_ck hf
        refine r_iald X hw (sp32 hE) h6 dX0_settle_35 ?_
        refine lv_aload_n X.1 X.2.1 dX0_settle_36 rfl (lv_at hl 0 rfl) ?_
        refine r_get X hw (sp28 hE) (C := RX0) (T := TX0) (N := 6) rfl iwX0 3 (by decide) (Nat.le_of_ble_eq_true rfl) qw328 (v := .ref (eP E 31)) rfl dX0_settle_37 ?_
        refine lv_iload_n X.1 X.2.1 dX0_settle_40 rfl (lv_at hl 2 rfl) ?_
        obtain ⟨h7, hf⟩ := b_ck hf
        refine r_iald X hw (sp31 hE) h7 dX0_settle_41 ?_
        obtain ⟨σ9, h8, hf⟩ := b_bd1 hf
        refine r_callV X hw (k_X1_wake hE ho51 h8) (spP0 hE ho51) (C := RX1) (T := TX1) (N := 10) rfl qw625 qw626 qw627 qw76 qw628 okX1_wake ⟨rfl, rfl⟩ ⟨(Nat.le_of_ble_eq_true rfl), (Nat.le_of_ble_eq_true rfl)⟩ ⟨Nat.zero_le _, Nat.zero_le _⟩ rfl hl.1 (rest := []) rfl (Nat.le_of_ble_eq_true rfl) dX0_settle_42 (st1 := []) rfl (fun H locs hw => ?_)
        refine lv_aload_n X.1 X.2.1 dX0_settle_45 rfl (lv_at hl 1 rfl) ?_
        refine lv_aload_n X.1 X.2.1 dX0_settle_46 rfl (lv_at hl 0 rfl) ?_
        refine r_get X hw (sp28 hE) (C := RX0) (T := TX0) (N := 6) rfl iwX0 1 (by decide) (Nat.le_of_ble_eq_true rfl) qw326 (v := .ref (eP E 29)) rfl dX0_settle_47 ?_
        refine lv_iload_n X.1 X.2.1 dX0_settle_50 rfl (lv_at hl 2 rfl) ?_
        obtain ⟨h10, hf⟩ := b_ck hf
        refine r_iald X hw (sp29 hE) h10 dX0_settle_51 ?_
        refine lv_iload_n X.1 X.2.1 dX0_settle_52 rfl (lv_at hl 2 rfl) ?_
        refine lv_aload_n X.1 X.2.1 dX0_settle_53 rfl (lv_at hl 0 rfl) ?_
        refine r_get X hw (sp28 hE) (C := RX0) (T := TX0) (N := 6) rfl iwX0 5 (by decide) (Nat.le_of_ble_eq_true rfl) qw330 (v := .ref (eP E 33)) rfl dX0_settle_54 ?_
        refine lv_iload_n X.1 X.2.1 dX0_settle_57 rfl (lv_at hl 2 rfl) ?_
        obtain ⟨h11, hf⟩ := b_ck hf
        refine r_iald X hw (sp33 hE) h11 dX0_settle_58 ?_
        obtain ⟨σ13, h12, hf⟩ := b_bd1 hf
        refine r_callV X hw (k_X1_growFonder hE ho51 h12) (spP0 hE ho51) (C := RX1) (T := TX1) (N := 10) rfl qw630 qw631 qw632 qw76 qw633 okX1_growFonder ⟨rfl, rfl⟩ ⟨(Nat.le_of_ble_eq_true rfl), (Nat.le_of_ble_eq_true rfl)⟩ ⟨Nat.zero_le _, Nat.zero_le _⟩ rfl hl.1 (rest := []) rfl (Nat.le_of_ble_eq_true rfl) dX0_settle_59 (st1 := []) rfl (fun H locs hw => ?_)
        obtain ⟨v14, e15, hf⟩ := b_bnd hf
        refine lv_iinc (v := v14) (k := 2) (lv' := [(2, .int v14), (0, .ref (eP E 28)), (1, .ref (eP E o51))]) X.1 X.2.1 dX0_settle_62 hl rfl (by rw [e15]; exact congrArg _ (by decide)) (by decide) rfl (fun ls hl => ?_)
        refine lv_goto (tgt := 2) X.1 X.2.1 dX0_settle_65 (by decide) ?_
        obtain rfl := Option.some.inj hf
        exact ih _ _ (hr1 _ rfl) _ _ _ hw (lv_sub hl [1, 2, 0] rfl) K1
      · have hf := if_t hf c5
        refine lv_aload_n X.1 X.2.1 dX0_settle_20 rfl (lv_at hl 1 rfl) ?_
        refine lv_iload_n X.1 X.2.1 dX0_settle_21 rfl (lv_at hl 2 rfl) ?_
        obtain ⟨σ17, h16, hf⟩ := b_bd1 hf
        refine r_callV X hw (k_X1_miss hE ho51 h16) (spP0 hE ho51) (C := RX1) (T := TX1) (N := 10) rfl qw619 qw620 qw621 qw76 qw622 okX1_miss ⟨rfl, rfl⟩ ⟨(Nat.le_of_ble_eq_true rfl), (Nat.le_of_ble_eq_true rfl)⟩ ⟨Nat.zero_le _, Nat.zero_le _⟩ rfl hl.1 (rest := []) rfl (Nat.le_of_ble_eq_true rfl) dX0_settle_22 (st1 := []) rfl (fun H locs hw => ?_)
        refine lv_goto (tgt := 62) X.1 X.2.1 dX0_settle_25 (by decide) ?_
        obtain ⟨v18, e19, hf⟩ := b_bnd hf
        refine lv_iinc (v := v18) (k := 2) (lv' := [(2, .int v18), (0, .ref (eP E 28)), (1, .ref (eP E o51))]) X.1 X.2.1 dX0_settle_62 hl rfl (by rw [e19]; exact congrArg _ (by decide)) (by decide) rfl (fun ls hl => ?_)
        refine lv_goto (tgt := 2) X.1 X.2.1 dX0_settle_65 (by decide) ?_
        obtain rfl := Option.some.inj hf
        exact ih _ _ (hr1 _ rfl) _ _ _ hw (lv_sub hl [1, 2, 0] rfl) K1
set_option maxHeartbeats 4000000 in
set_option maxRecDepth 100000 in
theorem k_X0_settle {l : Launch} {E : en_T} (hE : ShF E) {o1 : Nat} (ho1 : isP o1) {σ : sg_T}  {σ' : sg_T} (hf : f_X0_settle o1 σ = some σ') : Ct l yX0_settle cX0_settle 3 none rm_X0_settle E [.ref (eP E 28), .ref (eP E o1)] σ none σ' := by
  refine Ct.start (by decide) hE.1 (Nat.le_of_ble_eq_true rfl) ?_
  intro p e s m below meth c X hw ls hl
  have X : Cx E p s m _ meth c cX0_settle 3 RX0 none := X
  have hR : ShR E := hE.r
  have hl : lv_has ls 3 [(0, .ref (eP E 28)), (1, .ref (eP E o1))] := hl
  unfold f_X0_settle at hf
  refine lv_iconst (v := 0) X.1 X.2.1 dX0_settle_0 (by decide) ?_
  refine lv_istore_n (lv' := [(2, .int 0), (0, .ref (eP E 28)), (1, .ref (eP E o1))]) X.1 X.2.1 dX0_settle_1 rfl hl (by decide) rfl (fun ls hl => ?_)
  obtain ⟨v21, σ22, h20, hf⟩ := b_bd2 hf
  refine w_X0_settle_2 X hE ho1 lfu _ _ h20 _ _ _ hw (lv_sub hl [1, 2, 0] rfl) (fun yv21 yσ22 hq H locs ls hw hl => ?_)
  cases hq
  refine lv_aload_n X.1 X.2.1 dX0_settle_68 rfl (lv_at hl 1 rfl) ?_
  obtain ⟨σ24, h23, hf⟩ := b_bd1 hf
  refine r_callV X hw (k_X1_endDay hE ho1 h23) (spP0 hE ho1) (C := RX1) (T := TX1) (N := 10) rfl qw635 qw636 qw637 qw76 qw638 okX1_endDay ⟨rfl, rfl⟩ ⟨(Nat.le_of_ble_eq_true rfl), (Nat.le_of_ble_eq_true rfl)⟩ ⟨Nat.zero_le _, Nat.zero_le _⟩ rfl hl.1 (rest := []) rfl (Nat.le_of_ble_eq_true rfl) dX0_settle_69 (st1 := []) rfl (fun H locs hw => ?_)
  obtain rfl := Option.some.inj hf
  exact r_vret X hw dX0_settle_72
abbrev rm_X0_whoIsLate : Room := { frames := 1, cells := 0, slots := 0, locals := 100 }
set_option maxHeartbeats 4000000 in
set_option maxRecDepth 100000 in
theorem w_X0_whoIsLate_4 {p : Program} {l : Launch} {e : Env} {s : State} {m : MethodId} {args : Array Value} {below : List Frame} {meth : Method} {c : Code} {Q : State → Prop} {E : en_T} (X : Cx E p s m args meth c cX0_whoIsLate 4 RX0 (some .int)) (hE : ShF E) {o51 : Nat} (ho51 : isP o51) {σ : sg_T} {res : Int32 × Int32} :
    ∀ (n : Nat) (w2 : Int32) (w3 : Int32), itr (fun q => b_X0_whoIsLate_4 o51 q.1 q.2 σ) n (w2, w3) = some res → ∀ (H : Heap) (locs : List Loc) (ls : Array Slot), Hw E σ s H locs → lv_has ls 4 [(0, .ref (eP E 28)), (1, .ref (eP E o51)), (2, .int w2), (3, .int w3)] →
    (∀ (y2 : Int32) (y3 : Int32), res = (y2, y3) → ∀ (H : Heap) (locs : List Loc) (ls : Array Slot), Hw E σ s H locs → lv_has ls 4 [(0, .ref (eP E 28)), (1, .ref (eP E o51)), (2, .int y2), (3, .int y3)] → W p l e rm_X0_whoIsLate s m args below meth c H locs 0 0 Q (F0 m 33 ls [])) →
    W p l e rm_X0_whoIsLate s m args below meth c H locs 0 0 Q (F0 m 4 ls []) := by
  have hR : ShR E := hE.r
  intro n
  induction n with
  | zero =>
    intro w2 w3 hf0
    exact (itr_0 hf0).elim
  | succ n ih =>
    intro w2 w3 hf0 H locs ls hw hl K1
    obtain ⟨r0, hf, hr1, hr2⟩ := itr_s hf0
    have hf : b_X0_whoIsLate_4 o51 w2 w3 σ = some r0 := hf
    unfold b_X0_whoIsLate_4 at hf
    refine lv_iload_n X.1 X.2.1 dX0_whoIsLate_4 rfl (lv_at hl 3 rfl) ?_
    refine lv_aload_n X.1 X.2.1 dX0_whoIsLate_5 rfl (lv_at hl 1 rfl) ?_
    obtain ⟨r2, h1, hf⟩ := b_bd1 hf
    refine r_callV X hw (k_X1_many hE ho51 h1) (spP0 hE ho51) (C := RX1) (T := TX1) (N := 10) rfl qw609 qw610 qw611 qw76 qw612 okX1_many ⟨rfl, rfl⟩ ⟨(Nat.le_of_ble_eq_true rfl), (Nat.le_of_ble_eq_true rfl)⟩ ⟨Nat.zero_le _, Nat.zero_le _⟩ rfl hl.1 (rest := [.int w3]) rfl (Nat.le_of_ble_eq_true rfl) dX0_whoIsLate_6 (st1 := [.int r2, .int w3]) rfl (fun H locs hw => ?_)
    refine lv_icmp_ge (tgt := 33) X.1 X.2.1 dX0_whoIsLate_9 (by decide) (fun c3 => ?_) (fun c3 => ?_)
    · have hf := if_t hf c3
      obtain rfl := Option.some.inj hf
      obtain rfl := hr2 _ rfl
      exact K1 _ _ rfl _ _ _ hw (lv_sub hl [0, 1, 2, 3] rfl)
    · have hf := if_e hf c3
      refine lv_aload_n X.1 X.2.1 dX0_whoIsLate_12 rfl (lv_at hl 0 rfl) ?_
      refine r_get X hw (sp28 hE) (C := RX0) (T := TX0) (N := 6) rfl iwX0 3 (by decide) (Nat.le_of_ble_eq_true rfl) qw328 (v := .ref (eP E 31)) rfl dX0_whoIsLate_13 ?_
      refine lv_iload_n X.1 X.2.1 dX0_whoIsLate_16 rfl (lv_at hl 3 rfl) ?_
      obtain ⟨h4, hf⟩ := b_ck hf
      refine r_iald X hw (sp31 hE) h4 dX0_whoIsLate_17 ?_
      refine lv_if_le (tgt := 27) X.1 X.2.1 dX0_whoIsLate_18 (by decide) (fun c5 => ?_) (fun c5 => ?_)
      · have hf := if_t hf c5
        obtain ⟨v6, e7, hf⟩ := b_bnd hf
        refine lv_iinc (v := v6) (k := 3) (lv' := [(3, .int v6), (0, .ref (eP E 28)), (1, .ref (eP E o51)), (2, .int w2)]) X.1 X.2.1 dX0_whoIsLate_27 hl rfl (by rw [e7]; exact congrArg _ (by decide)) (by decide) rfl (fun ls hl => ?_)
        refine lv_goto (tgt := 4) X.1 X.2.1 dX0_whoIsLate_30 (by decide) ?_
        obtain rfl := Option.some.inj hf
        exact ih _ _ (hr1 _ rfl) _ _ _ hw (lv_sub hl [1, 2, 3, 0] rfl) K1
      · have hf := if_e hf c5
        refine lv_iload_n X.1 X.2.1 dX0_whoIsLate_21 rfl (lv_at hl 2 rfl) ?_
        refine lv_iconst (v := 1) X.1 X.2.1 dX0_whoIsLate_22 (by decide) ?_
        refine lv_iload_n X.1 X.2.1 dX0_whoIsLate_23 rfl (lv_at hl 3 rfl) ?_
        refine lv_ishl X.1 X.2.1 dX0_whoIsLate_24 ?_
        refine lv_ior X.1 X.2.1 dX0_whoIsLate_25 ?_
        refine r_bnd hf (fun v8 hf => ?_)
        refine lv_istore_n (lv' := [(2, .int v8), (0, .ref (eP E 28)), (1, .ref (eP E o51)), (3, .int w3)]) X.1 X.2.1 dX0_whoIsLate_26 rfl hl (by decide) rfl (fun ls hl => ?_)
        obtain ⟨v9, e10, hf⟩ := b_bnd hf
        refine lv_iinc (v := v9) (k := 3) (lv' := [(3, .int v9), (2, .int v8), (0, .ref (eP E 28)), (1, .ref (eP E o51))]) X.1 X.2.1 dX0_whoIsLate_27 hl rfl (by rw [e10]; exact congrArg _ (by decide)) (by decide) rfl (fun ls hl => ?_)
        refine lv_goto (tgt := 4) X.1 X.2.1 dX0_whoIsLate_30 (by decide) ?_
        obtain rfl := Option.some.inj hf
        exact ih _ _ (hr1 _ rfl) _ _ _ hw (lv_sub hl [2, 3, 1, 0] rfl) K1
set_option maxHeartbeats 4000000 in
set_option maxRecDepth 100000 in
theorem k_X0_whoIsLate {l : Launch} {E : en_T} (hE : ShF E) {o1 : Nat} (ho1 : isP o1) {σ : sg_T} {r : Int32} (hf : f_X0_whoIsLate o1 σ = some r) : Ct l yX0_whoIsLate cX0_whoIsLate 4 (some .int) rm_X0_whoIsLate E [.ref (eP E 28), .ref (eP E o1)] σ (some (.int r)) σ := by
  refine Ct.start (by decide) hE.1 (Nat.le_of_ble_eq_true rfl) ?_
  intro p e s m below meth c X hw ls hl
  have X : Cx E p s m _ meth c cX0_whoIsLate 4 RX0 (some .int) := X
  have hR : ShR E := hE.r
  have hl : lv_has ls 4 [(0, .ref (eP E 28)), (1, .ref (eP E o1))] := hl
  unfold f_X0_whoIsLate at hf
  refine lv_iconst (v := 0) X.1 X.2.1 dX0_whoIsLate_0 (by decide) ?_
  refine lv_istore_n (lv' := [(2, .int 0), (0, .ref (eP E 28)), (1, .ref (eP E o1))]) X.1 X.2.1 dX0_whoIsLate_1 rfl hl (by decide) rfl (fun ls hl => ?_)
  refine lv_iconst (v := 0) X.1 X.2.1 dX0_whoIsLate_2 (by decide) ?_
  refine lv_istore_n (lv' := [(3, .int 0), (2, .int 0), (0, .ref (eP E 28)), (1, .ref (eP E o1))]) X.1 X.2.1 dX0_whoIsLate_3 rfl hl (by decide) rfl (fun ls hl => ?_)
  obtain ⟨v12, v13, h11, hf⟩ := b_bd2 hf
  refine w_X0_whoIsLate_4 X hE ho1 lfu _ _ h11 _ _ _ hw (lv_sub hl [2, 3, 1, 0] rfl) (fun yv12 yv13 hq H locs ls hw hl => ?_)
  cases hq
  refine lv_iload_n X.1 X.2.1 dX0_whoIsLate_33 rfl (lv_at hl 2 rfl) ?_
  obtain rfl := Option.some.inj hf
  exact r_iret X hw dX0_whoIsLate_34
abbrev rm_X0_hour : Room := { frames := 0, cells := 0, slots := 0, locals := 0 }
set_option maxHeartbeats 4000000 in
set_option maxRecDepth 100000 in
theorem k_X0_hour {l : Launch} {E : en_T} (hE : ShF E) {x1 : Int32} {σ : sg_T} {r : Int32} (hf : f_X0_hour x1 σ = some r) : Ct l yX0_hour cX0_hour 2 (some .int) rm_X0_hour E [.ref (eP E 28), .int x1] σ (some (.int r)) σ := by
  refine Ct.start (by decide) hE.1 (Nat.le_of_ble_eq_true rfl) ?_
  intro p e s m below meth c X hw ls hl
  have X : Cx E p s m _ meth c cX0_hour 2 RX0 (some .int) := X
  have hR : ShR E := hE.r
  have hl : lv_has ls 2 [(0, .ref (eP E 28)), (1, .int x1)] := hl
  unfold f_X0_hour at hf
  refine lv_iload_n X.1 X.2.1 dX0_hour_0 rfl (lv_at hl 1 rfl) ?_
  refine lv_if_lt (tgt := 18) X.1 X.2.1 dX0_hour_1 (by decide) (fun c1 => ?_) (fun c1 => ?_)
  · have hf := if_t hf c1
    refine lv_iconst (v := (-1)) X.1 X.2.1 dX0_hour_18 (by decide) ?_
    obtain rfl := Option.some.inj hf
    exact r_iret X hw dX0_hour_19
  · have hf := if_e hf c1
    refine lv_iload_n X.1 X.2.1 dX0_hour_4 rfl (lv_at hl 1 rfl) ?_
    refine lv_iconst (v := 5) X.1 X.2.1 dX0_hour_5 (by decide) ?_
    refine lv_icmp_ge (tgt := 18) X.1 X.2.1 dX0_hour_6 (by decide) (fun c2 => ?_) (fun c2 => ?_)
    · have hf := if_t hf c2
      refine lv_iconst (v := (-1)) X.1 X.2.1 dX0_hour_18 (by decide) ?_
      obtain rfl := Option.some.inj hf
      exact r_iret X hw dX0_hour_19
    · have hf := if_e hf c2
      refine lv_aload_n X.1 X.2.1 dX0_hour_9 rfl (lv_at hl 0 rfl) ?_
      refine r_get X hw (sp28 hE) (C := RX0) (T := TX0) (N := 6) rfl iwX0 2 (by decide) (Nat.le_of_ble_eq_true rfl) qw327 (v := .ref (eP E 30)) rfl dX0_hour_10 ?_
      refine lv_iload_n X.1 X.2.1 dX0_hour_13 rfl (lv_at hl 1 rfl) ?_
      obtain ⟨h3, hf⟩ := b_ck hf
      refine r_iald X hw (sp30 hE) h3 dX0_hour_14 ?_
      refine lv_goto (tgt := 19) X.1 X.2.1 dX0_hour_15 (by decide) ?_
      obtain rfl := Option.some.inj hf
      exact r_iret X hw dX0_hour_19
