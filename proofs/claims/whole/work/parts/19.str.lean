theorem ok_ck : yJ0_checkIndex_df160.cls ≠ "java/lang/invoke/MethodHandle" ∧ yJ0_checkIndex_df160.cls ≠ "java/lang/invoke/VarHandle" ∧ (parseMethodDescriptor yJ0_checkIndex_df160.desc).map (fun d => d.parameters.length) = some 2 := by decide +kernel
theorem ok_l1 : yJ1_charAt_3b067.cls ≠ "java/lang/invoke/MethodHandle" ∧ yJ1_charAt_3b067.cls ≠ "java/lang/invoke/VarHandle" ∧ (parseMethodDescriptor yJ1_charAt_3b067.desc).map (fun d => d.parameters.length) = some 2 := by decide +kernel
theorem ok_pc : yJ3_checkIndex_8e157.cls ≠ "java/lang/invoke/MethodHandle" ∧ yJ3_checkIndex_8e157.cls ≠ "java/lang/invoke/VarHandle" ∧ (parseMethodDescriptor yJ3_checkIndex_8e157.desc).map (fun d => d.parameters.length) = some 3 := by decide +kernel
theorem ok_len : yJ0_length_8abf5.cls = RJ0 ∧ yJ0_length_8abf5.cls ≠ "java/lang/invoke/MethodHandle" ∧ yJ0_length_8abf5.cls ≠ "java/lang/invoke/VarHandle" ∧ (parseMethodDescriptor yJ0_length_8abf5.desc).map (fun d => d.parameters.length) = some 0 := by decide +kernel
theorem ok_charAt : yJ0_charAt_5068e.cls = RJ0 ∧ yJ0_charAt_5068e.cls ≠ "java/lang/invoke/MethodHandle" ∧ yJ0_charAt_5068e.cls ≠ "java/lang/invoke/VarHandle" ∧ (parseMethodDescriptor yJ0_charAt_5068e.desc).map (fun d => d.parameters.length) = some 1 := by decide +kernel
theorem ok_coder : yJ0_coder_7d493.cls = RJ0 ∧ yJ0_coder_7d493.cls ≠ "java/lang/invoke/MethodHandle" ∧ yJ0_coder_7d493.cls ≠ "java/lang/invoke/VarHandle" ∧ (parseMethodDescriptor yJ0_coder_7d493.desc).map (fun d => d.parameters.length) = some 0 := by decide +kernel
theorem ok_lat : yJ0_isLatin1_aae02.cls = RJ0 ∧ yJ0_isLatin1_aae02.cls ≠ "java/lang/invoke/MethodHandle" ∧ yJ0_isLatin1_aae02.cls ≠ "java/lang/invoke/VarHandle" ∧ (parseMethodDescriptor yJ0_isLatin1_aae02.desc).map (fun d => d.parameters.length) = some 0 := by decide +kernel
abbrev rm_J_pc : Room := { frames := 0, cells := 0, slots := 0, locals := 0 }
abbrev rm_J_ck : Room := { frames := 1, cells := 0, slots := 0, locals := 100 }
abbrev rm_J_l1 : Room := { frames := 2, cells := 0, slots := 0, locals := 200 }
abbrev rm_J_lat : Room := { frames := 0, cells := 0, slots := 0, locals := 0 }
abbrev rm_J_charAt : Room := { frames := 3, cells := 0, slots := 0, locals := 300 }
abbrev rm_J_coder : Room := { frames := 0, cells := 0, slots := 0, locals := 0 }
abbrev rm_J_len : Room := { frames := 1, cells := 0, slots := 0, locals := 100 }
theorem tch_ok : ∀ i, i < 2 → ∀ k, k < tx_l.getD i 0 → narrow .char (.int (tchN i k)) = .int (tchN i k) := by decide +kernel
theorem tx_len : ∀ i, i < 2 → tx_l.getD i 0 < 2 ^ 31 := by decide +kernel
theorem tx_shr : ∀ i, i < 2 → (Int32.ofNat (tx_l.getD i 0)) >>> ((0 : Int32) &&& 31) = Int32.ofNat (tx_l.getD i 0) := by decide +kernel
section RowsS
variable {p : Program} {l : Launch} {e : Env} {R : Room} {s : State} {m : MethodId} {args : Array Value} {below : List Frame} {meth : Method} {c : Code} {H : Heap} {locs : List Loc} {cells slots : Nat} {Q : State → Prop}
variable {E : en_T} {σ : sg_T} {cc : ByteArray} {nL : Nat} {own : String} {ret : Option FieldType} {pc : Nat} {ls : Array Slot} {rest : List Value}
theorem r_callT (X : Cx E p s m args meth c cc nL own ret) (hw : Hw E σ s H locs) {y : MethodName} {cb : ByteArray} {maxL : Nat} {ret' : Option FieldType} {rm : Room} {i : Nat} (hi : i < 2) {As : List Value} {res : Option Value} {σ' : sg_T} (hM : Ct l y cb maxL ret' rm E (.ref (eS E (2 + i)) :: As) σ res σ')
    {index n : Nat} (w1 : Cond.methodLink own index y ∈ lw_good) (w2 : Cond.instanceMethod y ∈ lw_good) (w3 : Cond.selects RJ0 y y ∈ lw_good) (w4 : Cond.initialized RJ0 ∈ lw_good) (w5 : Cond.code y cb maxL ret' ∈ lw_good)
    (hd : y.cls = RJ0 ∧ y.cls ≠ "java/lang/invoke/MethodHandle" ∧ y.cls ≠ "java/lang/invoke/VarHandle" ∧ (parseMethodDescriptor y.desc).map (fun d => d.parameters.length) = some n) (hz : rm.cells = 0 ∧ rm.slots = 0) (hR : rm.frames + 1 ≤ R.frames ∧ 8 + (maxL + 11) + rm.locals ≤ R.locals) (hf : cells ≤ R.cells ∧ slots ≤ R.slots)
    (hn : As.length = n) (hl : ls.size = nL) {st0 st1 : List Value} (hst0 : st0 = As.reverse ++ .ref (eS E (2 + i)) :: rest) (hro : (rest.map fun v => v.category).sum ≤ 8) (hdg : decode cc pc = .ok (.invokevirtual index, 3)) (hst1 : res.toList ++ rest = st1)
    (kk : ∀ (H1 : Heap) (locs1 : List Loc), Hw E σ' s H1 locs1 → W p l e R s m args below meth c H1 locs1 cells slots Q (F0 m (pc + 3) ls st1)) : W p l e R s m args below meth c H locs cells slots Q (F0 m pc ls st0) := by
  have hG : GoodIn lw_good (wsV own index RJ0 y (wsy y cb maxL ret')) := good_ok (fun w hw => by
    simp only [wsV, List.mem_append, List.mem_cons, List.not_mem_nil, or_false] at hw
    rcases hw with (rfl | rfl | rfl | rfl) | hw
    · exact w1
    · exact w2
    · exact w3
    · exact w4
    · exact wsy_in w5 w hw)
  exact r_run (va_runV (As := As) (rest := rest) ⟨X.1, X.2.1, X.2.2.1, X.2.2.2.1, X.2.2.2.2.1⟩ hM (cwV n X.2.2.2.2.1 hG rfl hz.1 hz.2 hd hR) ⟨Iw.blind _, vk_recv X.2.2.2.2.2.2.1.2.2.2.1.2.2 hi hw.2, hw.pre X _⟩ rfl hn hl hst0 (lv_room hro) hdg hf) hw hst1 kk
theorem r_tget (X : Cx E p s m args meth c cc nL RJ0 ret) (hw : Hw E σ s H locs) {n d : String} {index q : Nat} {v : Value} (hE : va_OF RJ0 n d v q (en_A E) s s.heap) (hlink : Cond.fieldLink RJ0 index RJ0 n d ∈ lw_good) (hdg : decode cc pc = .ok (.getfield index, 3))
    (kk : W p l e R s m args below meth c H locs cells slots Q (F0 m (pc + 3) ls (v :: rest))) : W p l e R s m args below meth c H locs cells slots Q (F0 m pc ls (.ref q :: rest)) :=
  vk_getf X.1 X.2.1 hE hw.2 X.2.2.2.1 (X.2.2.2.2.1 _ hlink) (fun _ h => h) hdg kk
theorem r_cs (X : Cx E p s m args meth c cc nL RJ0 ret) (hw : Hw E σ s H locs) {index : Nat} (hlink : Cond.fieldLink RJ0 index RJ0 "COMPACT_STRINGS" "Z" ∈ lw_good) (hdg : decode cc pc = .ok (.getstatic index, 3))
    (kk : W p l e R s m args below meth c H locs cells slots Q (F0 m (pc + 3) ls (.int 1 :: rest))) : W p l e R s m args below meth c H locs cells slots Q (F0 m pc ls rest) :=
  va_gets X.1 X.2.1 X.2.2.2.2.2.2.1.2.2.2.2.1 hw.2 X.2.2.2.1 (X.2.2.2.2.1 _ hlink) (fun _ h => h) hdg kk
theorem r_ldcb (X : Cx E p s m args meth c cc nL RX2 ret) (hdg : decode cc pc = .ok (.ldc 98, 2)) (kk : W p l e R s m args below meth c H locs cells slots Q (F0 m (pc + 2) ls (.ref (eS E (2 + 1)) :: rest))) : W p l e R s m args below meth c H locs cells slots Q (F0 m pc ls rest) :=
  va_ldcS X.1 X.2.1 X.2.2.2.1 X.2.2.2.2.2.2.1.2.2.2.1.2.1 hdg kk
end RowsS
set_option maxHeartbeats 4000000 in
set_option maxRecDepth 100000 in
theorem k_J_pc {l : Launch} {E : en_T} (hR : ShR E) {i n : Int32} {v : Value} (hv : v.category = 1) (h0 : ¬ i < 0) (h1 : i < n) {σ : sg_T} : Ct l yJ3_checkIndex_8e157 cJ3_checkIndex_8e157 3 (some .int) rm_J_pc E [.int i, .int n, v] σ (some (.int i)) σ := by
  refine Ct.start (by decide) hR.1 (by cases v <;> first | exact Nat.le_of_ble_eq_true rfl | cases hv) ?_
  intro p e s m below meth c X hw ls hl
  have X : Cx E p s m _ meth c cJ3_checkIndex_8e157 3 RJ3 (some .int) := X
  have hl : lv_has ls 3 [(0, .int i), (1, .int n), (2, v)] := hl
  refine lv_iload_n X.1 X.2.1 dJ3_checkIndex_8e157_0 rfl (lv_at hl 0 rfl) ?_
  refine lv_if_lt (tgt := 9) X.1 X.2.1 dJ3_checkIndex_8e157_1 (by decide) (fun q => absurd q h0) (fun _ => ?_)
  refine lv_iload_n X.1 X.2.1 dJ3_checkIndex_8e157_4 rfl (lv_at hl 0 rfl) ?_
  refine lv_iload_n X.1 X.2.1 dJ3_checkIndex_8e157_5 rfl (lv_at hl 1 rfl) ?_
  refine lv_icmp_lt (tgt := 16) X.1 X.2.1 dJ3_checkIndex_8e157_6 (by decide) (fun _ => ?_) (fun q => absurd h1 q)
  refine lv_iload_n X.1 X.2.1 dJ3_checkIndex_8e157_16 rfl (lv_at hl 0 rfl) ?_
  exact r_iret X hw dJ3_checkIndex_8e157_17
set_option maxHeartbeats 4000000 in
set_option maxRecDepth 100000 in
theorem k_J_ck {l : Launch} {E : en_T} (hR : ShR E) {i n : Int32} (h0 : ¬ i < 0) (h1 : i < n) {σ : sg_T} : Ct l yJ0_checkIndex_df160 cJ0_checkIndex_df160 2 none rm_J_ck E [.int i, .int n] σ none σ := by
  refine Ct.start (by decide) hR.1 (Nat.le_of_ble_eq_true rfl) ?_
  intro p e s m below meth c X hw ls hl
  have X : Cx E p s m _ meth c cJ0_checkIndex_df160 2 RJ0 none := X
  have hl : lv_has ls 2 [(0, .int i), (1, .int n)] := hl
  obtain ⟨v, hvc, hZ⟩ : ∃ v : Value, v.category = 1 ∧ va_Z RJ3 "SIOOBE_FORMATTER" "Ljava/util/function/BiFunction;" v (en_A E) s s.heap := by
    rcases X.2.2.2.2.2.2.1.2.2.2.2.2 with h | ⟨t, h⟩
    · exact ⟨_, rfl, h⟩
    · exact ⟨_, rfl, h⟩
  refine lv_iload_n X.1 X.2.1 dJ0_checkIndex_df160_0 rfl (lv_at hl 0 rfl) ?_
  refine lv_iload_n X.1 X.2.1 dJ0_checkIndex_df160_1 rfl (lv_at hl 1 rfl) ?_
  refine va_gets X.1 X.2.1 hZ hw.2 X.2.2.2.1 (X.2.2.2.2.1 _ qw188) (fun _ h => h) dJ0_checkIndex_df160_2 ?_
  refine r_callS X hw (k_J_pc hR hvc h0 h1) qw190 qw191 qw73 qw192 ok_pc ⟨rfl, rfl⟩ ⟨(Nat.le_of_ble_eq_true rfl), (Nat.le_of_ble_eq_true rfl)⟩ ⟨Nat.zero_le _, Nat.zero_le _⟩ rfl hl.1 (rest := []) rfl (Nat.le_of_ble_eq_true rfl) dJ0_checkIndex_df160_5 (st1 := [.int i]) rfl (fun H locs hw => ?_)
  refine lv_pop X.1 X.2.1 dJ0_checkIndex_df160_8 rfl ?_
  exact r_vret X hw dJ0_checkIndex_df160_9
set_option maxHeartbeats 4000000 in
set_option maxRecDepth 100000 in
theorem k_J_l1 {l : Launch} {E : en_T} (hR : ShR E) {i : Nat} (hi : i < 2) {k : Int32} (hk : vp_in k (tx_l.getD i 0)) {σ : sg_T} : Ct l yJ1_charAt_3b067 cJ1_charAt_3b067 2 (some .char) rm_J_l1 E [.ref (eS E (4 + i)), .int k] σ (some (.int (tchN i k.toNatClampNeg))) σ := by
  refine Ct.start (by decide) hR.1 (Nat.le_of_ble_eq_true rfl) ?_
  intro p e s m below meth c X hw ls hl
  have X : Cx E p s m _ meth c cJ1_charAt_3b067 2 RJ1 (some .char) := X
  have hl : lv_has ls 2 [(0, .ref (eS E (4 + i))), (1, .int k)] := hl
  have hT := (X.2.2.2.2.2.2.1.2.2.2.1.2.2.1 i hi).2.2.2
  have h0 : ¬ k < 0 := fun q => hk (Or.inl q)
  have h2 : k.toNatClampNeg < tx_l.getD i 0 := Nat.lt_of_not_le (fun q => hk (Or.inr q))
  have h1 : k < Int32.ofNat (tx_l.getD i 0) := by
    obtain ⟨j, hj, rfl⟩ := vp_in_of hk (tx_len i hi)
    exact nI_lt hj (tx_len i hi)
  refine lv_iload_n X.1 X.2.1 dJ1_charAt_3b067_0 rfl (lv_at hl 1 rfl) ?_
  refine lv_aload_n X.1 X.2.1 dJ1_charAt_3b067_1 rfl (lv_at hl 0 rfl) ?_
  refine va_tlen X.1 X.2.1 hT hw.2 rfl dJ1_charAt_3b067_2 ?_
  refine r_callS X hw (k_J_ck hR h0 h1) qw185 qw186 qw71 qw187 ok_ck ⟨rfl, rfl⟩ ⟨(Nat.le_of_ble_eq_true rfl), (Nat.le_of_ble_eq_true rfl)⟩ ⟨Nat.zero_le _, Nat.zero_le _⟩ rfl hl.1 (rest := []) rfl (Nat.le_of_ble_eq_true rfl) dJ1_charAt_3b067_3 (st1 := []) rfl (fun H locs hw => ?_)
  refine lv_aload_n X.1 X.2.1 dJ1_charAt_3b067_6 rfl (lv_at hl 0 rfl) ?_
  refine lv_iload_n X.1 X.2.1 dJ1_charAt_3b067_7 rfl (lv_at hl 1 rfl) ?_
  refine va_tb X.1 X.2.1 hT hw.2 hk (v := .int ((tx_y.getD i []).getD k.toNatClampNeg 0)) rfl dJ1_charAt_3b067_8 ?_
  refine lv_sipush (v := 255) X.1 X.2.1 dJ1_charAt_3b067_9 (by decide) ?_
  refine lv_iand X.1 X.2.1 dJ1_charAt_3b067_12 ?_
  refine lv_i2c (v := tchN i k.toNatClampNeg) X.1 X.2.1 dJ1_charAt_3b067_13 rfl ?_
  exact W.zret X.1 X.2.1 X.2.2.2.2.2.2.2.2.1 (tch_ok i hi _ h2) (hw.post X _) hw.2.2.2 dJ1_charAt_3b067_14 X.2.2.2.2.2.2.2.2.2
set_option maxHeartbeats 4000000 in
set_option maxRecDepth 100000 in
theorem k_J_lat {l : Launch} {E : en_T} (hR : ShR E) {i : Nat} (hi : i < 2) {σ : sg_T} : Ct l yJ0_isLatin1_aae02 cJ0_isLatin1_aae02 1 (some .boolean) rm_J_lat E [.ref (eS E (2 + i))] σ (some (.int 1)) σ := by
  refine Ct.start (by decide) hR.1 (Nat.le_of_ble_eq_true rfl) ?_
  intro p e s m below meth c X hw ls hl
  have X : Cx E p s m _ meth c cJ0_isLatin1_aae02 1 RJ0 (some .boolean) := X
  have hl : lv_has ls 1 [(0, .ref (eS E (2 + i)))] := hl
  have hc := (X.2.2.2.2.2.2.1.2.2.2.1.2.2.1 i hi).2.1
  refine r_cs X hw qw172 dJ0_isLatin1_aae02_0 ?_
  refine lv_if_eq (tgt := 17) X.1 X.2.1 dJ0_isLatin1_aae02_3 (by decide) (fun q => absurd q (by decide)) (fun _ => ?_)
  refine lv_aload_n X.1 X.2.1 dJ0_isLatin1_aae02_6 rfl (lv_at hl 0 rfl) ?_
  refine r_tget X hw hc qw1252 dJ0_isLatin1_aae02_7 ?_
  refine lv_if_ne (tgt := 17) X.1 X.2.1 dJ0_isLatin1_aae02_10 (by decide) (fun q => absurd rfl q) (fun _ => ?_)
  refine lv_iconst (v := 1) X.1 X.2.1 dJ0_isLatin1_aae02_13 (by decide) ?_
  refine lv_goto (tgt := 18) X.1 X.2.1 dJ0_isLatin1_aae02_14 (by decide) ?_
  exact r_zret X hw (by decide) dJ0_isLatin1_aae02_18
set_option maxHeartbeats 4000000 in
set_option maxRecDepth 100000 in
theorem k_J_charAt {l : Launch} {E : en_T} (hR : ShR E) {i : Nat} (hi : i < 2) {k : Int32} (hk : vp_in k (tx_l.getD i 0)) {σ : sg_T} : Ct l yJ0_charAt_5068e cJ0_charAt_5068e 2 (some .char) rm_J_charAt E [.ref (eS E (2 + i)), .int k] σ (some (.int (tchN i k.toNatClampNeg))) σ := by
  refine Ct.start (by decide) hR.1 (Nat.le_of_ble_eq_true rfl) ?_
  intro p e s m below meth c X hw ls hl
  have X : Cx E p s m _ meth c cJ0_charAt_5068e 2 RJ0 (some .char) := X
  have hl : lv_has ls 2 [(0, .ref (eS E (2 + i))), (1, .int k)] := hl
  have hv := (X.2.2.2.2.2.2.1.2.2.2.1.2.2.1 i hi).2.2.1
  have h2 : k.toNatClampNeg < tx_l.getD i 0 := Nat.lt_of_not_le (fun q => hk (Or.inr q))
  refine lv_aload_n X.1 X.2.1 dJ0_charAt_5068e_0 rfl (lv_at hl 0 rfl) ?_
  refine r_callT X hw hi (k_J_lat hR hi) qw178 qw179 qw180 qw71 qw181 ok_lat ⟨rfl, rfl⟩ ⟨(Nat.le_of_ble_eq_true rfl), (Nat.le_of_ble_eq_true rfl)⟩ ⟨Nat.zero_le _, Nat.zero_le _⟩ rfl hl.1 (rest := []) rfl (Nat.le_of_ble_eq_true rfl) dJ0_charAt_5068e_1 (st1 := [.int 1]) rfl (fun H locs hw => ?_)
  refine lv_if_eq (tgt := 16) X.1 X.2.1 dJ0_charAt_5068e_4 (by decide) (fun q => absurd q (by decide)) (fun _ => ?_)
  refine lv_aload_n X.1 X.2.1 dJ0_charAt_5068e_7 rfl (lv_at hl 0 rfl) ?_
  refine r_tget X hw hv qw1251 dJ0_charAt_5068e_8 ?_
  refine lv_iload_n X.1 X.2.1 dJ0_charAt_5068e_11 rfl (lv_at hl 1 rfl) ?_
  refine r_callS X hw (k_J_l1 hR hi hk) qw182 qw183 qw72 qw184 ok_l1 ⟨rfl, rfl⟩ ⟨(Nat.le_of_ble_eq_true rfl), (Nat.le_of_ble_eq_true rfl)⟩ ⟨Nat.zero_le _, Nat.zero_le _⟩ rfl hl.1 (rest := []) rfl (Nat.le_of_ble_eq_true rfl) dJ0_charAt_5068e_12 (st1 := [.int (tchN i k.toNatClampNeg)]) rfl (fun H locs hw => ?_)
  exact W.zret X.1 X.2.1 X.2.2.2.2.2.2.2.2.1 (tch_ok i hi _ h2) (hw.post X _) hw.2.2.2 dJ0_charAt_5068e_15 X.2.2.2.2.2.2.2.2.2
set_option maxHeartbeats 4000000 in
set_option maxRecDepth 100000 in
theorem k_J_coder {l : Launch} {E : en_T} (hR : ShR E) {i : Nat} (hi : i < 2) {σ : sg_T} : Ct l yJ0_coder_7d493 cJ0_coder_7d493 1 (some .byte) rm_J_coder E [.ref (eS E (2 + i))] σ (some (.int 0)) σ := by
  refine Ct.start (by decide) hR.1 (Nat.le_of_ble_eq_true rfl) ?_
  intro p e s m below meth c X hw ls hl
  have X : Cx E p s m _ meth c cJ0_coder_7d493 1 RJ0 (some .byte) := X
  have hl : lv_has ls 1 [(0, .ref (eS E (2 + i)))] := hl
  have hc := (X.2.2.2.2.2.2.1.2.2.2.1.2.2.1 i hi).2.1
  refine r_cs X hw qw172 dJ0_coder_7d493_0 ?_
  refine lv_if_eq (tgt := 13) X.1 X.2.1 dJ0_coder_7d493_3 (by decide) (fun q => absurd q (by decide)) (fun _ => ?_)
  refine lv_aload_n X.1 X.2.1 dJ0_coder_7d493_6 rfl (lv_at hl 0 rfl) ?_
  refine r_tget X hw hc qw1252 dJ0_coder_7d493_7 ?_
  refine lv_goto (tgt := 14) X.1 X.2.1 dJ0_coder_7d493_10 (by decide) ?_
  exact W.zret X.1 X.2.1 X.2.2.2.2.2.2.2.2.1 (by decide +kernel) (hw.post X _) hw.2.2.2 dJ0_coder_7d493_14 X.2.2.2.2.2.2.2.2.2
set_option maxHeartbeats 4000000 in
set_option maxRecDepth 100000 in
theorem k_J_len {l : Launch} {E : en_T} (hR : ShR E) {i : Nat} (hi : i < 2) {σ : sg_T} : Ct l yJ0_length_8abf5 cJ0_length_8abf5 1 (some .int) rm_J_len E [.ref (eS E (2 + i))] σ (some (.int (Int32.ofNat (tx_l.getD i 0)))) σ := by
  refine Ct.start (by decide) hR.1 (Nat.le_of_ble_eq_true rfl) ?_
  intro p e s m below meth c X hw ls hl
  have X : Cx E p s m _ meth c cJ0_length_8abf5 1 RJ0 (some .int) := X
  have hl : lv_has ls 1 [(0, .ref (eS E (2 + i)))] := hl
  have hv := (X.2.2.2.2.2.2.1.2.2.2.1.2.2.1 i hi).2.2.1
  have hT := (X.2.2.2.2.2.2.1.2.2.2.1.2.2.1 i hi).2.2.2
  refine lv_aload_n X.1 X.2.1 dJ0_length_8abf5_0 rfl (lv_at hl 0 rfl) ?_
  refine r_tget X hw hv qw1251 dJ0_length_8abf5_1 ?_
  refine va_tlen X.1 X.2.1 hT hw.2 rfl dJ0_length_8abf5_4 ?_
  refine lv_aload_n X.1 X.2.1 dJ0_length_8abf5_5 rfl (lv_at hl 0 rfl) ?_
  refine r_callT X hw hi (k_J_coder hR hi) qw168 qw169 qw170 qw71 qw171 ok_coder ⟨rfl, rfl⟩ ⟨(Nat.le_of_ble_eq_true rfl), (Nat.le_of_ble_eq_true rfl)⟩ ⟨Nat.zero_le _, Nat.zero_le _⟩ rfl hl.1 (rest := [.int (Int32.ofNat (tx_l.getD i 0))]) rfl (Nat.le_of_ble_eq_true rfl) dJ0_length_8abf5_6 (st1 := [.int 0, .int (Int32.ofNat (tx_l.getD i 0))]) rfl (fun H locs hw => ?_)
  refine lv_ishr X.1 X.2.1 dJ0_length_8abf5_9 ?_
  rw [tx_shr i hi]
  exact r_iret X hw dJ0_length_8abf5_10
