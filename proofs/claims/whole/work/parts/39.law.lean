set_option maxHeartbeats 8000000 in
set_option maxRecDepth 100000 in
theorem w_L_law {p : Program} {l : Launch} {e : Env} {s : State} {m : MethodId} {below : List Frame} {meth : Method} {c : Code} {b nn : Nat} {xs : Nat → Int32} {E : en_T} (X : Cx E p s m #[Value.ref b] meth c cL_law 4 RL (some .boolean)) (hE : ShF E) (hX : va_X b nn xs s s.heap) (hbl : b < s.heap.size) (hbA : ¬ en_A E b) (hlow : ∀ q, en_A E q → s.heap.size ≤ q) {res : Int32} (hres : res = 1) :
    ∀ (n : Nat) (w3 : Int32) (σ : sg_T), itr (fun q => b_L_law xs nn q.1 q.2) n (w3, σ) = some res → ∀ (H : Heap) (locs : List Loc) (ls : Array Slot), Hw E σ s H locs → lv_has ls 4 [(0, .ref b), (1, .ref (eP E 0)), (2, .ref (eP E 69)), (3, .int w3)] →
    W p l e room_1 s m #[Value.ref b] below meth c H locs 600000 7302250 (lw_Z below #[Value.ref b] s) (F0 m 18 ls []) := by
  have hR : ShR E := hE.r
  intro n
  induction n with
  | zero =>
    intro w3 σ hf0
    exact (itr_0 hf0).elim
  | succ n ih =>
    intro w3 σ hf0 H locs ls hw hl
    obtain ⟨r0, hf, hr1, hr2⟩ := itr_s hf0
    have hf : b_L_law xs nn w3 σ = some r0 := hf
    unfold b_L_law at hf
    refine lv_iload_n X.1 X.2.1 dL_law_18 rfl (lv_at hl 3 rfl) ?_
    refine lv_aload_n X.1 X.2.1 dL_law_19 rfl (lv_at hl 0 rfl) ?_
    refine va_slen X.1 X.2.1 hX hbl hbA hw.2 dL_law_20 ?_
    refine lv_bipush (v := 6) X.1 X.2.1 dL_law_21 (by decide) ?_
    refine lv_isub X.1 X.2.1 dL_law_23 ?_
    refine lv_icmp_gt (tgt := 1095) X.1 X.2.1 dL_law_24 (by decide) (fun c1 => ?_) (fun c1 => ?_)
    · have hf := if_t hf c1
      refine lv_iconst (v := 1) X.1 X.2.1 dL_law_1095 (by decide) ?_
      obtain rfl := Option.some.inj hf
      obtain rfl := hr2 _ rfl
      exact va_forget (fun q hq => hlow _ (hw.2.2.2 q hq)) (lw_ret X.1 X.2.1 X.2.2.2.2.2.2.2.2.1 X.2.2.2.2.2.2.2.2.2 dL_law_1096)
    · have hf := if_e hf c1
      refine lv_aload_n X.1 X.2.1 dL_law_27 rfl (lv_at hl 0 rfl) ?_
      refine lv_iload_n X.1 X.2.1 dL_law_28 rfl (lv_at hl 3 rfl) ?_
      obtain ⟨h2, hf⟩ := b_ck hf
      refine va_sld X.1 X.2.1 hX hbl hbA hw.2 h2 dL_law_29 ?_
      refine lv_bipush (v := 31) X.1 X.2.1 dL_law_30 (by decide) ?_
      refine lv_iand X.1 X.2.1 dL_law_32 ?_
      refine r_bnd hf (fun v3 hf => ?_)
      by_cases c4 : v3 = 0
      · have hf := if_t hf c4
        refine lv_tableIn (x := v3) (tgt := 156) (off := 123) X.1 X.2.1 dL_law_33 (by rw [c4]; decide) (by rw [c4]; decide) (by rw [c4]; decide) (by decide) ?_
        refine lv_aload_n X.1 X.2.1 dL_law_156 rfl (lv_at hl 1 rfl) ?_
        refine lv_aload_n X.1 X.2.1 dL_law_157 rfl (lv_at hl 0 rfl) ?_
        refine lv_iload_n X.1 X.2.1 dL_law_158 rfl (lv_at hl 3 rfl) ?_
        refine lv_iconst (v := 1) X.1 X.2.1 dL_law_159 (by decide) ?_
        refine lv_iadd X.1 X.2.1 dL_law_160 ?_
        obtain ⟨h5, hf⟩ := b_ck hf
        refine va_sld X.1 X.2.1 hX hbl hbA hw.2 h5 dL_law_161 ?_
        refine lv_aload_n X.1 X.2.1 dL_law_162 rfl (lv_at hl 0 rfl) ?_
        refine lv_iload_n X.1 X.2.1 dL_law_163 rfl (lv_at hl 3 rfl) ?_
        refine lv_iconst (v := 2) X.1 X.2.1 dL_law_164 (by decide) ?_
        refine lv_iadd X.1 X.2.1 dL_law_165 ?_
        obtain ⟨h6, hf⟩ := b_ck hf
        refine va_sld X.1 X.2.1 hX hbl hbA hw.2 h6 dL_law_166 ?_
        refine lv_aload_n X.1 X.2.1 dL_law_167 rfl (lv_at hl 0 rfl) ?_
        refine lv_iload_n X.1 X.2.1 dL_law_168 rfl (lv_at hl 3 rfl) ?_
        refine lv_iconst (v := 3) X.1 X.2.1 dL_law_169 (by decide) ?_
        refine lv_iadd X.1 X.2.1 dL_law_170 ?_
        obtain ⟨h7, hf⟩ := b_ck hf
        refine va_sld X.1 X.2.1 hX hbl hbA hw.2 h7 dL_law_171 ?_
        obtain ⟨r9, σ10, h8, hf⟩ := b_bd2 hf
        refine r_callV X hw (k_X7_set hE  h8) (sp0 hE) (C := RX7) (T := TX7) (N := 9) rfl qw446 qw447 qw448 qw67 qw449 okX7_set ⟨rfl, rfl⟩ ⟨(Nat.le_of_ble_eq_true rfl), (Nat.le_of_ble_eq_true rfl)⟩ ⟨Nat.le_refl _, Nat.le_refl _⟩ rfl hl.1 (rest := []) rfl (Nat.le_of_ble_eq_true rfl) dL_law_172 (st1 := [.int r9]) rfl (fun H locs hw => ?_)
        refine lv_aload_n X.1 X.2.1 dL_law_175 rfl (lv_at hl 2 rfl) ?_
        refine lv_aload_n X.1 X.2.1 dL_law_176 rfl (lv_at hl 0 rfl) ?_
        refine lv_iload_n X.1 X.2.1 dL_law_177 rfl (lv_at hl 3 rfl) ?_
        refine lv_iconst (v := 1) X.1 X.2.1 dL_law_178 (by decide) ?_
        refine lv_iadd X.1 X.2.1 dL_law_179 ?_
        obtain ⟨h11, hf⟩ := b_ck hf
        refine va_sld X.1 X.2.1 hX hbl hbA hw.2 h11 dL_law_180 ?_
        refine lv_aload_n X.1 X.2.1 dL_law_181 rfl (lv_at hl 0 rfl) ?_
        refine lv_iload_n X.1 X.2.1 dL_law_182 rfl (lv_at hl 3 rfl) ?_
        refine lv_iconst (v := 2) X.1 X.2.1 dL_law_183 (by decide) ?_
        refine lv_iadd X.1 X.2.1 dL_law_184 ?_
        obtain ⟨h12, hf⟩ := b_ck hf
        refine va_sld X.1 X.2.1 hX hbl hbA hw.2 h12 dL_law_185 ?_
        refine lv_aload_n X.1 X.2.1 dL_law_186 rfl (lv_at hl 0 rfl) ?_
        refine lv_iload_n X.1 X.2.1 dL_law_187 rfl (lv_at hl 3 rfl) ?_
        refine lv_iconst (v := 3) X.1 X.2.1 dL_law_188 (by decide) ?_
        refine lv_iadd X.1 X.2.1 dL_law_189 ?_
        obtain ⟨h13, hf⟩ := b_ck hf
        refine va_sld X.1 X.2.1 hX hbl hbA hw.2 h13 dL_law_190 ?_
        obtain ⟨r15, σ16, h14, hf⟩ := b_bd2 hf
        refine r_callV X hw (k_X8_set hE  h14) (sp69 hE) (C := RX8) (T := TX8) (N := 31) rfl qw962 qw963 qw964 qw79 qw965 okX8_set ⟨rfl, rfl⟩ ⟨(Nat.le_of_ble_eq_true rfl), (Nat.le_of_ble_eq_true rfl)⟩ ⟨Nat.le_refl _, Nat.le_refl _⟩ rfl hl.1 (rest := [.int r9]) rfl (Nat.le_of_ble_eq_true rfl) dL_law_191 (st1 := [.int r15, .int r9]) rfl (fun H locs hw => ?_)
        refine lv_icmp_eq (tgt := 1089) X.1 X.2.1 dL_law_194 (by decide) (fun c17 => ?_) (fun c17 => ?_)
        · have hf := if_t hf c17
          obtain ⟨v18, e19, hf⟩ := b_bnd hf
          refine lv_iinc (v := v18) (k := 3) (lv' := [(3, .int v18), (0, .ref b), (1, .ref (eP E 0)), (2, .ref (eP E 69))]) X.1 X.2.1 dL_law_1089 hl rfl (by rw [e19]; exact congrArg _ (by decide)) (by decide) rfl (fun ls hl => ?_)
          refine lv_goto (tgt := 18) X.1 X.2.1 dL_law_1092 (by decide) ?_
          obtain rfl := Option.some.inj hf
          exact ih _ _ (hr1 _ rfl) _ _ _ hw (lv_sub hl [1, 2, 3, 0] rfl)
        · have hf := if_e hf c17
          refine lv_iconst (v := 0) X.1 X.2.1 dL_law_197 (by decide) ?_
          obtain rfl := Option.some.inj hf
          obtain rfl := hr2 _ rfl
          exact absurd hres (by decide)
      have hf := if_e hf c4
      by_cases c20 : v3 = 1
      · have hf := if_t hf c20
        refine lv_tableIn (x := v3) (tgt := 199) (off := 166) X.1 X.2.1 dL_law_33 (by rw [c20]; decide) (by rw [c20]; decide) (by rw [c20]; decide) (by decide) ?_
        refine lv_aload_n X.1 X.2.1 dL_law_199 rfl (lv_at hl 1 rfl) ?_
        refine lv_aload_n X.1 X.2.1 dL_law_200 rfl (lv_at hl 0 rfl) ?_
        refine lv_iload_n X.1 X.2.1 dL_law_201 rfl (lv_at hl 3 rfl) ?_
        refine lv_iconst (v := 1) X.1 X.2.1 dL_law_202 (by decide) ?_
        refine lv_iadd X.1 X.2.1 dL_law_203 ?_
        obtain ⟨h21, hf⟩ := b_ck hf
        refine va_sld X.1 X.2.1 hX hbl hbA hw.2 h21 dL_law_204 ?_
        refine lv_aload_n X.1 X.2.1 dL_law_205 rfl (lv_at hl 0 rfl) ?_
        refine lv_iload_n X.1 X.2.1 dL_law_206 rfl (lv_at hl 3 rfl) ?_
        refine lv_iconst (v := 2) X.1 X.2.1 dL_law_207 (by decide) ?_
        refine lv_iadd X.1 X.2.1 dL_law_208 ?_
        obtain ⟨h22, hf⟩ := b_ck hf
        refine va_sld X.1 X.2.1 hX hbl hbA hw.2 h22 dL_law_209 ?_
        refine lv_aload_n X.1 X.2.1 dL_law_210 rfl (lv_at hl 0 rfl) ?_
        refine lv_iload_n X.1 X.2.1 dL_law_211 rfl (lv_at hl 3 rfl) ?_
        refine lv_iconst (v := 3) X.1 X.2.1 dL_law_212 (by decide) ?_
        refine lv_iadd X.1 X.2.1 dL_law_213 ?_
        obtain ⟨h23, hf⟩ := b_ck hf
        refine va_sld X.1 X.2.1 hX hbl hbA hw.2 h23 dL_law_214 ?_
        obtain ⟨r25, σ26, h24, hf⟩ := b_bd2 hf
        refine r_callV X hw (k_X7_person hE  h24) (sp0 hE) (C := RX7) (T := TX7) (N := 9) rfl qw476 qw477 qw478 qw67 qw479 okX7_person ⟨rfl, rfl⟩ ⟨(Nat.le_of_ble_eq_true rfl), (Nat.le_of_ble_eq_true rfl)⟩ ⟨Nat.le_refl _, Nat.le_refl _⟩ rfl hl.1 (rest := []) rfl (Nat.le_of_ble_eq_true rfl) dL_law_215 (st1 := [.int r25]) rfl (fun H locs hw => ?_)
        refine lv_aload_n X.1 X.2.1 dL_law_218 rfl (lv_at hl 2 rfl) ?_
        refine lv_aload_n X.1 X.2.1 dL_law_219 rfl (lv_at hl 0 rfl) ?_
        refine lv_iload_n X.1 X.2.1 dL_law_220 rfl (lv_at hl 3 rfl) ?_
        refine lv_iconst (v := 1) X.1 X.2.1 dL_law_221 (by decide) ?_
        refine lv_iadd X.1 X.2.1 dL_law_222 ?_
        obtain ⟨h27, hf⟩ := b_ck hf
        refine va_sld X.1 X.2.1 hX hbl hbA hw.2 h27 dL_law_223 ?_
        refine lv_aload_n X.1 X.2.1 dL_law_224 rfl (lv_at hl 0 rfl) ?_
        refine lv_iload_n X.1 X.2.1 dL_law_225 rfl (lv_at hl 3 rfl) ?_
        refine lv_iconst (v := 2) X.1 X.2.1 dL_law_226 (by decide) ?_
        refine lv_iadd X.1 X.2.1 dL_law_227 ?_
        obtain ⟨h28, hf⟩ := b_ck hf
        refine va_sld X.1 X.2.1 hX hbl hbA hw.2 h28 dL_law_228 ?_
        refine lv_aload_n X.1 X.2.1 dL_law_229 rfl (lv_at hl 0 rfl) ?_
        refine lv_iload_n X.1 X.2.1 dL_law_230 rfl (lv_at hl 3 rfl) ?_
        refine lv_iconst (v := 3) X.1 X.2.1 dL_law_231 (by decide) ?_
        refine lv_iadd X.1 X.2.1 dL_law_232 ?_
        obtain ⟨h29, hf⟩ := b_ck hf
        refine va_sld X.1 X.2.1 hX hbl hbA hw.2 h29 dL_law_233 ?_
        obtain ⟨r31, σ32, h30, hf⟩ := b_bd2 hf
        refine r_callV X hw (k_X8_person hE  h30) (sp69 hE) (C := RX8) (T := TX8) (N := 31) rfl qw981 qw982 qw983 qw79 qw984 okX8_person ⟨rfl, rfl⟩ ⟨(Nat.le_of_ble_eq_true rfl), (Nat.le_of_ble_eq_true rfl)⟩ ⟨Nat.le_refl _, Nat.le_refl _⟩ rfl hl.1 (rest := [.int r25]) rfl (Nat.le_of_ble_eq_true rfl) dL_law_234 (st1 := [.int r31, .int r25]) rfl (fun H locs hw => ?_)
        refine lv_icmp_eq (tgt := 1089) X.1 X.2.1 dL_law_237 (by decide) (fun c33 => ?_) (fun c33 => ?_)
        · have hf := if_t hf c33
          obtain ⟨v34, e35, hf⟩ := b_bnd hf
          refine lv_iinc (v := v34) (k := 3) (lv' := [(3, .int v34), (0, .ref b), (1, .ref (eP E 0)), (2, .ref (eP E 69))]) X.1 X.2.1 dL_law_1089 hl rfl (by rw [e35]; exact congrArg _ (by decide)) (by decide) rfl (fun ls hl => ?_)
          refine lv_goto (tgt := 18) X.1 X.2.1 dL_law_1092 (by decide) ?_
          obtain rfl := Option.some.inj hf
          exact ih _ _ (hr1 _ rfl) _ _ _ hw (lv_sub hl [1, 2, 3, 0] rfl)
        · have hf := if_e hf c33
          refine lv_iconst (v := 0) X.1 X.2.1 dL_law_240 (by decide) ?_
          obtain rfl := Option.some.inj hf
          obtain rfl := hr2 _ rfl
          exact absurd hres (by decide)
      have hf := if_e hf c20
      by_cases c36 : v3 = 2
      · have hf := if_t hf c36
        refine lv_tableIn (x := v3) (tgt := 242) (off := 209) X.1 X.2.1 dL_law_33 (by rw [c36]; decide) (by rw [c36]; decide) (by rw [c36]; decide) (by decide) ?_
        refine lv_aload_n X.1 X.2.1 dL_law_242 rfl (lv_at hl 1 rfl) ?_
        refine lv_aload_n X.1 X.2.1 dL_law_243 rfl (lv_at hl 0 rfl) ?_
        refine lv_iload_n X.1 X.2.1 dL_law_244 rfl (lv_at hl 3 rfl) ?_
        refine lv_iconst (v := 1) X.1 X.2.1 dL_law_245 (by decide) ?_
        refine lv_iadd X.1 X.2.1 dL_law_246 ?_
        obtain ⟨h37, hf⟩ := b_ck hf
        refine va_sld X.1 X.2.1 hX hbl hbA hw.2 h37 dL_law_247 ?_
        refine lv_aload_n X.1 X.2.1 dL_law_248 rfl (lv_at hl 0 rfl) ?_
        refine lv_iload_n X.1 X.2.1 dL_law_249 rfl (lv_at hl 3 rfl) ?_
        refine lv_iconst (v := 2) X.1 X.2.1 dL_law_250 (by decide) ?_
        refine lv_iadd X.1 X.2.1 dL_law_251 ?_
        obtain ⟨h38, hf⟩ := b_ck hf
        refine va_sld X.1 X.2.1 hX hbl hbA hw.2 h38 dL_law_252 ?_
        obtain ⟨r40, σ41, h39, hf⟩ := b_bd2 hf
        refine r_callV X hw (k_X7_told hE  h39) (sp0 hE) (C := RX7) (T := TX7) (N := 9) rfl qw485 qw486 qw487 qw67 qw488 okX7_told ⟨rfl, rfl⟩ ⟨(Nat.le_of_ble_eq_true rfl), (Nat.le_of_ble_eq_true rfl)⟩ ⟨Nat.le_refl _, Nat.le_refl _⟩ rfl hl.1 (rest := []) rfl (Nat.le_of_ble_eq_true rfl) dL_law_253 (st1 := [.int r40]) rfl (fun H locs hw => ?_)
        refine lv_aload_n X.1 X.2.1 dL_law_256 rfl (lv_at hl 2 rfl) ?_
        refine lv_aload_n X.1 X.2.1 dL_law_257 rfl (lv_at hl 0 rfl) ?_
        refine lv_iload_n X.1 X.2.1 dL_law_258 rfl (lv_at hl 3 rfl) ?_
        refine lv_iconst (v := 1) X.1 X.2.1 dL_law_259 (by decide) ?_
        refine lv_iadd X.1 X.2.1 dL_law_260 ?_
        obtain ⟨h42, hf⟩ := b_ck hf
        refine va_sld X.1 X.2.1 hX hbl hbA hw.2 h42 dL_law_261 ?_
        refine lv_aload_n X.1 X.2.1 dL_law_262 rfl (lv_at hl 0 rfl) ?_
        refine lv_iload_n X.1 X.2.1 dL_law_263 rfl (lv_at hl 3 rfl) ?_
        refine lv_iconst (v := 2) X.1 X.2.1 dL_law_264 (by decide) ?_
        refine lv_iadd X.1 X.2.1 dL_law_265 ?_
        obtain ⟨h43, hf⟩ := b_ck hf
        refine va_sld X.1 X.2.1 hX hbl hbA hw.2 h43 dL_law_266 ?_
        obtain ⟨r45, σ46, h44, hf⟩ := b_bd2 hf
        refine r_callV X hw (k_X8_told hE  h44) (sp69 hE) (C := RX8) (T := TX8) (N := 31) rfl qw993 qw994 qw995 qw79 qw996 okX8_told ⟨rfl, rfl⟩ ⟨(Nat.le_of_ble_eq_true rfl), (Nat.le_of_ble_eq_true rfl)⟩ ⟨Nat.le_refl _, Nat.le_refl _⟩ rfl hl.1 (rest := [.int r40]) rfl (Nat.le_of_ble_eq_true rfl) dL_law_267 (st1 := [.int r45, .int r40]) rfl (fun H locs hw => ?_)
        refine lv_icmp_eq (tgt := 1089) X.1 X.2.1 dL_law_270 (by decide) (fun c47 => ?_) (fun c47 => ?_)
        · have hf := if_t hf c47
          obtain ⟨v48, e49, hf⟩ := b_bnd hf
          refine lv_iinc (v := v48) (k := 3) (lv' := [(3, .int v48), (0, .ref b), (1, .ref (eP E 0)), (2, .ref (eP E 69))]) X.1 X.2.1 dL_law_1089 hl rfl (by rw [e49]; exact congrArg _ (by decide)) (by decide) rfl (fun ls hl => ?_)
          refine lv_goto (tgt := 18) X.1 X.2.1 dL_law_1092 (by decide) ?_
          obtain rfl := Option.some.inj hf
          exact ih _ _ (hr1 _ rfl) _ _ _ hw (lv_sub hl [1, 2, 3, 0] rfl)
        · have hf := if_e hf c47
          refine lv_iconst (v := 0) X.1 X.2.1 dL_law_273 (by decide) ?_
          obtain rfl := Option.some.inj hf
          obtain rfl := hr2 _ rfl
          exact absurd hres (by decide)
      have hf := if_e hf c36
      by_cases c50 : v3 = 3
      · have hf := if_t hf c50
        refine lv_tableIn (x := v3) (tgt := 275) (off := 242) X.1 X.2.1 dL_law_33 (by rw [c50]; decide) (by rw [c50]; decide) (by rw [c50]; decide) (by decide) ?_
        refine lv_aload_n X.1 X.2.1 dL_law_275 rfl (lv_at hl 1 rfl) ?_
        refine lv_aload_n X.1 X.2.1 dL_law_276 rfl (lv_at hl 0 rfl) ?_
        refine lv_iload_n X.1 X.2.1 dL_law_277 rfl (lv_at hl 3 rfl) ?_
        refine lv_iconst (v := 1) X.1 X.2.1 dL_law_278 (by decide) ?_
        refine lv_iadd X.1 X.2.1 dL_law_279 ?_
        obtain ⟨h51, hf⟩ := b_ck hf
        refine va_sld X.1 X.2.1 hX hbl hbA hw.2 h51 dL_law_280 ?_
        refine lv_aload_n X.1 X.2.1 dL_law_281 rfl (lv_at hl 0 rfl) ?_
        refine lv_iload_n X.1 X.2.1 dL_law_282 rfl (lv_at hl 3 rfl) ?_
        refine lv_iconst (v := 2) X.1 X.2.1 dL_law_283 (by decide) ?_
        refine lv_iadd X.1 X.2.1 dL_law_284 ?_
        obtain ⟨h52, hf⟩ := b_ck hf
        refine va_sld X.1 X.2.1 hX hbl hbA hw.2 h52 dL_law_285 ?_
        refine lv_aload_n X.1 X.2.1 dL_law_286 rfl (lv_at hl 0 rfl) ?_
        refine lv_iload_n X.1 X.2.1 dL_law_287 rfl (lv_at hl 3 rfl) ?_
        refine lv_iconst (v := 3) X.1 X.2.1 dL_law_288 (by decide) ?_
        refine lv_iadd X.1 X.2.1 dL_law_289 ?_
        obtain ⟨h53, hf⟩ := b_ck hf
        refine va_sld X.1 X.2.1 hX hbl hbA hw.2 h53 dL_law_290 ?_
        obtain ⟨r55, σ56, h54, hf⟩ := b_bd2 hf
        refine r_callV X hw (k_X7_asks hE  h54) (sp0 hE) (C := RX7) (T := TX7) (N := 9) rfl qw557 qw558 qw559 qw67 qw560 okX7_asks ⟨rfl, rfl⟩ ⟨(Nat.le_of_ble_eq_true rfl), (Nat.le_of_ble_eq_true rfl)⟩ ⟨Nat.le_refl _, Nat.le_refl _⟩ rfl hl.1 (rest := []) rfl (Nat.le_of_ble_eq_true rfl) dL_law_291 (st1 := [.int r55]) rfl (fun H locs hw => ?_)
        refine lv_aload_n X.1 X.2.1 dL_law_294 rfl (lv_at hl 2 rfl) ?_
        refine lv_aload_n X.1 X.2.1 dL_law_295 rfl (lv_at hl 0 rfl) ?_
        refine lv_iload_n X.1 X.2.1 dL_law_296 rfl (lv_at hl 3 rfl) ?_
        refine lv_iconst (v := 1) X.1 X.2.1 dL_law_297 (by decide) ?_
        refine lv_iadd X.1 X.2.1 dL_law_298 ?_
        obtain ⟨h57, hf⟩ := b_ck hf
        refine va_sld X.1 X.2.1 hX hbl hbA hw.2 h57 dL_law_299 ?_
        refine lv_aload_n X.1 X.2.1 dL_law_300 rfl (lv_at hl 0 rfl) ?_
        refine lv_iload_n X.1 X.2.1 dL_law_301 rfl (lv_at hl 3 rfl) ?_
        refine lv_iconst (v := 2) X.1 X.2.1 dL_law_302 (by decide) ?_
        refine lv_iadd X.1 X.2.1 dL_law_303 ?_
        obtain ⟨h58, hf⟩ := b_ck hf
        refine va_sld X.1 X.2.1 hX hbl hbA hw.2 h58 dL_law_304 ?_
        refine lv_aload_n X.1 X.2.1 dL_law_305 rfl (lv_at hl 0 rfl) ?_
        refine lv_iload_n X.1 X.2.1 dL_law_306 rfl (lv_at hl 3 rfl) ?_
        refine lv_iconst (v := 3) X.1 X.2.1 dL_law_307 (by decide) ?_
        refine lv_iadd X.1 X.2.1 dL_law_308 ?_
        obtain ⟨h59, hf⟩ := b_ck hf
        refine va_sld X.1 X.2.1 hX hbl hbA hw.2 h59 dL_law_309 ?_
        obtain ⟨r61, σ62, h60, hf⟩ := b_bd2 hf
        refine r_callV X hw (k_X8_asks hE  h60) (sp69 hE) (C := RX8) (T := TX8) (N := 31) rfl qw1032 qw1033 qw1034 qw79 qw1035 okX8_asks ⟨rfl, rfl⟩ ⟨(Nat.le_of_ble_eq_true rfl), (Nat.le_of_ble_eq_true rfl)⟩ ⟨Nat.le_refl _, Nat.le_refl _⟩ rfl hl.1 (rest := [.int r55]) rfl (Nat.le_of_ble_eq_true rfl) dL_law_310 (st1 := [.int r61, .int r55]) rfl (fun H locs hw => ?_)
        refine lv_icmp_eq (tgt := 1089) X.1 X.2.1 dL_law_313 (by decide) (fun c63 => ?_) (fun c63 => ?_)
        · have hf := if_t hf c63
          obtain ⟨v64, e65, hf⟩ := b_bnd hf
          refine lv_iinc (v := v64) (k := 3) (lv' := [(3, .int v64), (0, .ref b), (1, .ref (eP E 0)), (2, .ref (eP E 69))]) X.1 X.2.1 dL_law_1089 hl rfl (by rw [e65]; exact congrArg _ (by decide)) (by decide) rfl (fun ls hl => ?_)
          refine lv_goto (tgt := 18) X.1 X.2.1 dL_law_1092 (by decide) ?_
          obtain rfl := Option.some.inj hf
          exact ih _ _ (hr1 _ rfl) _ _ _ hw (lv_sub hl [1, 2, 3, 0] rfl)
        · have hf := if_e hf c63
          refine lv_iconst (v := 0) X.1 X.2.1 dL_law_316 (by decide) ?_
          obtain rfl := Option.some.inj hf
          obtain rfl := hr2 _ rfl
          exact absurd hres (by decide)
      have hf := if_e hf c50
      by_cases c66 : v3 = 4
      · have hf := if_t hf c66
        refine lv_tableIn (x := v3) (tgt := 318) (off := 285) X.1 X.2.1 dL_law_33 (by rw [c66]; decide) (by rw [c66]; decide) (by rw [c66]; decide) (by decide) ?_
        refine lv_aload_n X.1 X.2.1 dL_law_318 rfl (lv_at hl 1 rfl) ?_
        refine lv_aload_n X.1 X.2.1 dL_law_319 rfl (lv_at hl 0 rfl) ?_
        refine lv_iload_n X.1 X.2.1 dL_law_320 rfl (lv_at hl 3 rfl) ?_
        refine lv_iconst (v := 1) X.1 X.2.1 dL_law_321 (by decide) ?_
        refine lv_iadd X.1 X.2.1 dL_law_322 ?_
        obtain ⟨h67, hf⟩ := b_ck hf
        refine va_sld X.1 X.2.1 hX hbl hbA hw.2 h67 dL_law_323 ?_
        refine lv_aload_n X.1 X.2.1 dL_law_324 rfl (lv_at hl 0 rfl) ?_
        refine lv_iload_n X.1 X.2.1 dL_law_325 rfl (lv_at hl 3 rfl) ?_
        refine lv_iconst (v := 2) X.1 X.2.1 dL_law_326 (by decide) ?_
        refine lv_iadd X.1 X.2.1 dL_law_327 ?_
        obtain ⟨h68, hf⟩ := b_ck hf
        refine va_sld X.1 X.2.1 hX hbl hbA hw.2 h68 dL_law_328 ?_
        obtain ⟨r70, σ71, h69, hf⟩ := b_bd2 hf
        refine r_callV X hw (k_X7_woken hE  h69) (sp0 hE) (C := RX7) (T := TX7) (N := 9) rfl qw570 qw571 qw572 qw67 qw573 okX7_woken ⟨rfl, rfl⟩ ⟨(Nat.le_of_ble_eq_true rfl), (Nat.le_of_ble_eq_true rfl)⟩ ⟨Nat.le_refl _, Nat.le_refl _⟩ rfl hl.1 (rest := []) rfl (Nat.le_of_ble_eq_true rfl) dL_law_329 (st1 := [.int r70]) rfl (fun H locs hw => ?_)
        refine lv_aload_n X.1 X.2.1 dL_law_332 rfl (lv_at hl 2 rfl) ?_
        refine lv_aload_n X.1 X.2.1 dL_law_333 rfl (lv_at hl 0 rfl) ?_
        refine lv_iload_n X.1 X.2.1 dL_law_334 rfl (lv_at hl 3 rfl) ?_
        refine lv_iconst (v := 1) X.1 X.2.1 dL_law_335 (by decide) ?_
        refine lv_iadd X.1 X.2.1 dL_law_336 ?_
        obtain ⟨h72, hf⟩ := b_ck hf
        refine va_sld X.1 X.2.1 hX hbl hbA hw.2 h72 dL_law_337 ?_
        refine lv_aload_n X.1 X.2.1 dL_law_338 rfl (lv_at hl 0 rfl) ?_
        refine lv_iload_n X.1 X.2.1 dL_law_339 rfl (lv_at hl 3 rfl) ?_
        refine lv_iconst (v := 2) X.1 X.2.1 dL_law_340 (by decide) ?_
        refine lv_iadd X.1 X.2.1 dL_law_341 ?_
        obtain ⟨h73, hf⟩ := b_ck hf
        refine va_sld X.1 X.2.1 hX hbl hbA hw.2 h73 dL_law_342 ?_
        obtain ⟨r75, σ76, h74, hf⟩ := b_bd2 hf
        refine r_callV X hw (k_X8_woken hE  h74) (sp69 hE) (C := RX8) (T := TX8) (N := 31) rfl qw1040 qw1041 qw1042 qw79 qw1043 okX8_woken ⟨rfl, rfl⟩ ⟨(Nat.le_of_ble_eq_true rfl), (Nat.le_of_ble_eq_true rfl)⟩ ⟨Nat.le_refl _, Nat.le_refl _⟩ rfl hl.1 (rest := [.int r70]) rfl (Nat.le_of_ble_eq_true rfl) dL_law_343 (st1 := [.int r75, .int r70]) rfl (fun H locs hw => ?_)
        refine lv_icmp_eq (tgt := 1089) X.1 X.2.1 dL_law_346 (by decide) (fun c77 => ?_) (fun c77 => ?_)
        · have hf := if_t hf c77
          obtain ⟨v78, e79, hf⟩ := b_bnd hf
          refine lv_iinc (v := v78) (k := 3) (lv' := [(3, .int v78), (0, .ref b), (1, .ref (eP E 0)), (2, .ref (eP E 69))]) X.1 X.2.1 dL_law_1089 hl rfl (by rw [e79]; exact congrArg _ (by decide)) (by decide) rfl (fun ls hl => ?_)
          refine lv_goto (tgt := 18) X.1 X.2.1 dL_law_1092 (by decide) ?_
          obtain rfl := Option.some.inj hf
          exact ih _ _ (hr1 _ rfl) _ _ _ hw (lv_sub hl [1, 2, 3, 0] rfl)
        · have hf := if_e hf c77
          refine lv_iconst (v := 0) X.1 X.2.1 dL_law_349 (by decide) ?_
          obtain rfl := Option.some.inj hf
          obtain rfl := hr2 _ rfl
          exact absurd hres (by decide)
      have hf := if_e hf c66
      by_cases c80 : v3 = 5
      · have hf := if_t hf c80
        refine lv_tableIn (x := v3) (tgt := 351) (off := 318) X.1 X.2.1 dL_law_33 (by rw [c80]; decide) (by rw [c80]; decide) (by rw [c80]; decide) (by decide) ?_
        refine lv_aload_n X.1 X.2.1 dL_law_351 rfl (lv_at hl 1 rfl) ?_
        refine lv_aload_n X.1 X.2.1 dL_law_352 rfl (lv_at hl 0 rfl) ?_
        refine lv_iload_n X.1 X.2.1 dL_law_353 rfl (lv_at hl 3 rfl) ?_
        refine lv_iconst (v := 1) X.1 X.2.1 dL_law_354 (by decide) ?_
        refine lv_iadd X.1 X.2.1 dL_law_355 ?_
        obtain ⟨h81, hf⟩ := b_ck hf
        refine va_sld X.1 X.2.1 hX hbl hbA hw.2 h81 dL_law_356 ?_
        obtain ⟨r83, σ84, h82, hf⟩ := b_bd2 hf
        refine r_callV X hw (k_X7_feed hE  h82) (sp0 hE) (C := RX7) (T := TX7) (N := 9) rfl qw578 qw579 qw580 qw67 qw581 okX7_feed ⟨rfl, rfl⟩ ⟨(Nat.le_of_ble_eq_true rfl), (Nat.le_of_ble_eq_true rfl)⟩ ⟨Nat.le_refl _, Nat.le_refl _⟩ rfl hl.1 (rest := []) rfl (Nat.le_of_ble_eq_true rfl) dL_law_357 (st1 := [.int r83]) rfl (fun H locs hw => ?_)
        refine lv_aload_n X.1 X.2.1 dL_law_360 rfl (lv_at hl 2 rfl) ?_
        refine lv_aload_n X.1 X.2.1 dL_law_361 rfl (lv_at hl 0 rfl) ?_
        refine lv_iload_n X.1 X.2.1 dL_law_362 rfl (lv_at hl 3 rfl) ?_
        refine lv_iconst (v := 1) X.1 X.2.1 dL_law_363 (by decide) ?_
        refine lv_iadd X.1 X.2.1 dL_law_364 ?_
        obtain ⟨h85, hf⟩ := b_ck hf
        refine va_sld X.1 X.2.1 hX hbl hbA hw.2 h85 dL_law_365 ?_
        obtain ⟨r87, σ88, h86, hf⟩ := b_bd2 hf
        refine r_callV X hw (k_X8_feed hE  h86) (sp69 hE) (C := RX8) (T := TX8) (N := 31) rfl qw1048 qw1049 qw1050 qw79 qw1051 okX8_feed ⟨rfl, rfl⟩ ⟨(Nat.le_of_ble_eq_true rfl), (Nat.le_of_ble_eq_true rfl)⟩ ⟨Nat.le_refl _, Nat.le_refl _⟩ rfl hl.1 (rest := [.int r83]) rfl (Nat.le_of_ble_eq_true rfl) dL_law_366 (st1 := [.int r87, .int r83]) rfl (fun H locs hw => ?_)
        refine lv_icmp_eq (tgt := 1089) X.1 X.2.1 dL_law_369 (by decide) (fun c89 => ?_) (fun c89 => ?_)
        · have hf := if_t hf c89
          obtain ⟨v90, e91, hf⟩ := b_bnd hf
          refine lv_iinc (v := v90) (k := 3) (lv' := [(3, .int v90), (0, .ref b), (1, .ref (eP E 0)), (2, .ref (eP E 69))]) X.1 X.2.1 dL_law_1089 hl rfl (by rw [e91]; exact congrArg _ (by decide)) (by decide) rfl (fun ls hl => ?_)
          refine lv_goto (tgt := 18) X.1 X.2.1 dL_law_1092 (by decide) ?_
          obtain rfl := Option.some.inj hf
          exact ih _ _ (hr1 _ rfl) _ _ _ hw (lv_sub hl [1, 2, 3, 0] rfl)
        · have hf := if_e hf c89
          refine lv_iconst (v := 0) X.1 X.2.1 dL_law_372 (by decide) ?_
          obtain rfl := Option.some.inj hf
          obtain rfl := hr2 _ rfl
          exact absurd hres (by decide)
      have hf := if_e hf c80
      by_cases c92 : v3 = 6
      · have hf := if_t hf c92
        refine lv_tableIn (x := v3) (tgt := 374) (off := 341) X.1 X.2.1 dL_law_33 (by rw [c92]; decide) (by rw [c92]; decide) (by rw [c92]; decide) (by decide) ?_
        refine lv_aload_n X.1 X.2.1 dL_law_374 rfl (lv_at hl 1 rfl) ?_
        obtain ⟨r94, σ95, h93, hf⟩ := b_bd2 hf
        refine r_callV X hw (k_X7_text hE  h93) (sp0 hE) (C := RX7) (T := TX7) (N := 9) rfl qw587 qw588 qw589 qw67 qw590 okX7_text ⟨rfl, rfl⟩ ⟨(Nat.le_of_ble_eq_true rfl), (Nat.le_of_ble_eq_true rfl)⟩ ⟨Nat.le_refl _, Nat.le_refl _⟩ rfl hl.1 (rest := []) rfl (Nat.le_of_ble_eq_true rfl) dL_law_375 (st1 := [.int r94]) rfl (fun H locs hw => ?_)
        refine lv_aload_n X.1 X.2.1 dL_law_378 rfl (lv_at hl 2 rfl) ?_
        obtain ⟨r97, σ98, h96, hf⟩ := b_bd2 hf
        refine r_callV X hw (k_X8_text hE  h96) (sp69 hE) (C := RX8) (T := TX8) (N := 31) rfl qw1052 qw1053 qw1054 qw79 qw1055 okX8_text ⟨rfl, rfl⟩ ⟨(Nat.le_of_ble_eq_true rfl), (Nat.le_of_ble_eq_true rfl)⟩ ⟨Nat.le_refl _, Nat.le_refl _⟩ rfl hl.1 (rest := [.int r94]) rfl (Nat.le_of_ble_eq_true rfl) dL_law_379 (st1 := [.int r97, .int r94]) rfl (fun H locs hw => ?_)
        refine lv_icmp_eq (tgt := 1089) X.1 X.2.1 dL_law_382 (by decide) (fun c99 => ?_) (fun c99 => ?_)
        · have hf := if_t hf c99
          obtain ⟨v100, e101, hf⟩ := b_bnd hf
          refine lv_iinc (v := v100) (k := 3) (lv' := [(3, .int v100), (0, .ref b), (1, .ref (eP E 0)), (2, .ref (eP E 69))]) X.1 X.2.1 dL_law_1089 hl rfl (by rw [e101]; exact congrArg _ (by decide)) (by decide) rfl (fun ls hl => ?_)
          refine lv_goto (tgt := 18) X.1 X.2.1 dL_law_1092 (by decide) ?_
          obtain rfl := Option.some.inj hf
          exact ih _ _ (hr1 _ rfl) _ _ _ hw (lv_sub hl [1, 2, 3, 0] rfl)
        · have hf := if_e hf c99
          refine lv_iconst (v := 0) X.1 X.2.1 dL_law_385 (by decide) ?_
          obtain rfl := Option.some.inj hf
          obtain rfl := hr2 _ rfl
          exact absurd hres (by decide)
      have hf := if_e hf c92
      by_cases c102 : v3 = 7
      · have hf := if_t hf c102
        refine lv_tableIn (x := v3) (tgt := 387) (off := 354) X.1 X.2.1 dL_law_33 (by rw [c102]; decide) (by rw [c102]; decide) (by rw [c102]; decide) (by decide) ?_
        refine lv_aload_n X.1 X.2.1 dL_law_387 rfl (lv_at hl 1 rfl) ?_
        refine lv_aload_n X.1 X.2.1 dL_law_388 rfl (lv_at hl 0 rfl) ?_
        refine lv_iload_n X.1 X.2.1 dL_law_389 rfl (lv_at hl 3 rfl) ?_
        refine lv_iconst (v := 1) X.1 X.2.1 dL_law_390 (by decide) ?_
        refine lv_iadd X.1 X.2.1 dL_law_391 ?_
        obtain ⟨h103, hf⟩ := b_ck hf
        refine va_sld X.1 X.2.1 hX hbl hbA hw.2 h103 dL_law_392 ?_
        obtain ⟨r105, σ106, h104, hf⟩ := b_bd2 hf
        refine r_callV X hw (k_X7_force hE  h104) (sp0 hE) (C := RX7) (T := TX7) (N := 9) rfl qw591 qw592 qw593 qw67 qw594 okX7_force ⟨rfl, rfl⟩ ⟨(Nat.le_of_ble_eq_true rfl), (Nat.le_of_ble_eq_true rfl)⟩ ⟨Nat.le_refl _, Nat.le_refl _⟩ rfl hl.1 (rest := []) rfl (Nat.le_of_ble_eq_true rfl) dL_law_393 (st1 := [.int r105]) rfl (fun H locs hw => ?_)
        refine lv_aload_n X.1 X.2.1 dL_law_396 rfl (lv_at hl 2 rfl) ?_
        refine lv_aload_n X.1 X.2.1 dL_law_397 rfl (lv_at hl 0 rfl) ?_
        refine lv_iload_n X.1 X.2.1 dL_law_398 rfl (lv_at hl 3 rfl) ?_
        refine lv_iconst (v := 1) X.1 X.2.1 dL_law_399 (by decide) ?_
        refine lv_iadd X.1 X.2.1 dL_law_400 ?_
        obtain ⟨h107, hf⟩ := b_ck hf
        refine va_sld X.1 X.2.1 hX hbl hbA hw.2 h107 dL_law_401 ?_
        obtain ⟨r109, σ110, h108, hf⟩ := b_bd2 hf
        refine r_callV X hw (k_X8_force hE  h108) (sp69 hE) (C := RX8) (T := TX8) (N := 31) rfl qw1111 qw1112 qw1113 qw79 qw1114 okX8_force ⟨rfl, rfl⟩ ⟨(Nat.le_of_ble_eq_true rfl), (Nat.le_of_ble_eq_true rfl)⟩ ⟨Nat.le_refl _, Nat.le_refl _⟩ rfl hl.1 (rest := [.int r105]) rfl (Nat.le_of_ble_eq_true rfl) dL_law_402 (st1 := [.int r109, .int r105]) rfl (fun H locs hw => ?_)
        refine lv_icmp_eq (tgt := 1089) X.1 X.2.1 dL_law_405 (by decide) (fun c111 => ?_) (fun c111 => ?_)
        · have hf := if_t hf c111
          obtain ⟨v112, e113, hf⟩ := b_bnd hf
          refine lv_iinc (v := v112) (k := 3) (lv' := [(3, .int v112), (0, .ref b), (1, .ref (eP E 0)), (2, .ref (eP E 69))]) X.1 X.2.1 dL_law_1089 hl rfl (by rw [e113]; exact congrArg _ (by decide)) (by decide) rfl (fun ls hl => ?_)
          refine lv_goto (tgt := 18) X.1 X.2.1 dL_law_1092 (by decide) ?_
          obtain rfl := Option.some.inj hf
          exact ih _ _ (hr1 _ rfl) _ _ _ hw (lv_sub hl [1, 2, 3, 0] rfl)
        · have hf := if_e hf c111
          refine lv_iconst (v := 0) X.1 X.2.1 dL_law_408 (by decide) ?_
          obtain rfl := Option.some.inj hf
          obtain rfl := hr2 _ rfl
          exact absurd hres (by decide)
      have hf := if_e hf c102
      by_cases c114 : v3 = 8
      · have hf := if_t hf c114
        refine lv_tableIn (x := v3) (tgt := 410) (off := 377) X.1 X.2.1 dL_law_33 (by rw [c114]; decide) (by rw [c114]; decide) (by rw [c114]; decide) (by decide) ?_
        refine lv_aload_n X.1 X.2.1 dL_law_410 rfl (lv_at hl 1 rfl) ?_
        obtain ⟨r116, σ117, h115, hf⟩ := b_bd2 hf
        refine r_callV X hw (k_X7_day hE  h115) (sp0 hE) (C := RX7) (T := TX7) (N := 9) rfl qw600 qw601 qw602 qw67 qw603 okX7_day ⟨rfl, rfl⟩ ⟨(Nat.le_of_ble_eq_true rfl), (Nat.le_of_ble_eq_true rfl)⟩ ⟨Nat.le_refl _, Nat.le_refl _⟩ rfl hl.1 (rest := []) rfl (Nat.le_of_ble_eq_true rfl) dL_law_411 (st1 := [.int r116]) rfl (fun H locs hw => ?_)
        refine lv_aload_n X.1 X.2.1 dL_law_414 rfl (lv_at hl 2 rfl) ?_
        obtain ⟨r119, σ120, h118, hf⟩ := b_bd2 hf
        refine r_callV X hw (k_X8_day hE  h118) (sp69 hE) (C := RX8) (T := TX8) (N := 31) rfl qw1115 qw1116 qw1117 qw79 qw1118 okX8_day ⟨rfl, rfl⟩ ⟨(Nat.le_of_ble_eq_true rfl), (Nat.le_of_ble_eq_true rfl)⟩ ⟨Nat.le_refl _, Nat.le_refl _⟩ rfl hl.1 (rest := [.int r116]) rfl (Nat.le_of_ble_eq_true rfl) dL_law_415 (st1 := [.int r119, .int r116]) rfl (fun H locs hw => ?_)
        refine lv_icmp_eq (tgt := 1089) X.1 X.2.1 dL_law_418 (by decide) (fun c121 => ?_) (fun c121 => ?_)
        · have hf := if_t hf c121
          obtain ⟨v122, e123, hf⟩ := b_bnd hf
          refine lv_iinc (v := v122) (k := 3) (lv' := [(3, .int v122), (0, .ref b), (1, .ref (eP E 0)), (2, .ref (eP E 69))]) X.1 X.2.1 dL_law_1089 hl rfl (by rw [e123]; exact congrArg _ (by decide)) (by decide) rfl (fun ls hl => ?_)
          refine lv_goto (tgt := 18) X.1 X.2.1 dL_law_1092 (by decide) ?_
          obtain rfl := Option.some.inj hf
          exact ih _ _ (hr1 _ rfl) _ _ _ hw (lv_sub hl [1, 2, 3, 0] rfl)
        · have hf := if_e hf c121
          refine lv_iconst (v := 0) X.1 X.2.1 dL_law_421 (by decide) ?_
          obtain rfl := Option.some.inj hf
          obtain rfl := hr2 _ rfl
          exact absurd hres (by decide)
      have hf := if_e hf c114
      by_cases c124 : v3 = 9
      · have hf := if_t hf c124
        refine lv_tableIn (x := v3) (tgt := 423) (off := 390) X.1 X.2.1 dL_law_33 (by rw [c124]; decide) (by rw [c124]; decide) (by rw [c124]; decide) (by decide) ?_
        refine lv_aload_n X.1 X.2.1 dL_law_423 rfl (lv_at hl 1 rfl) ?_
        refine lv_aload_n X.1 X.2.1 dL_law_424 rfl (lv_at hl 0 rfl) ?_
        refine lv_iload_n X.1 X.2.1 dL_law_425 rfl (lv_at hl 3 rfl) ?_
        refine lv_iconst (v := 1) X.1 X.2.1 dL_law_426 (by decide) ?_
        refine lv_iadd X.1 X.2.1 dL_law_427 ?_
        obtain ⟨h125, hf⟩ := b_ck hf
        refine va_sld X.1 X.2.1 hX hbl hbA hw.2 h125 dL_law_428 ?_
        refine lv_aload_n X.1 X.2.1 dL_law_429 rfl (lv_at hl 0 rfl) ?_
        refine lv_iload_n X.1 X.2.1 dL_law_430 rfl (lv_at hl 3 rfl) ?_
        refine lv_iconst (v := 2) X.1 X.2.1 dL_law_431 (by decide) ?_
        refine lv_iadd X.1 X.2.1 dL_law_432 ?_
        obtain ⟨h126, hf⟩ := b_ck hf
        refine va_sld X.1 X.2.1 hX hbl hbA hw.2 h126 dL_law_433 ?_
        refine lv_aload_n X.1 X.2.1 dL_law_434 rfl (lv_at hl 0 rfl) ?_
        refine lv_iload_n X.1 X.2.1 dL_law_435 rfl (lv_at hl 3 rfl) ?_
        refine lv_iconst (v := 3) X.1 X.2.1 dL_law_436 (by decide) ?_
        refine lv_iadd X.1 X.2.1 dL_law_437 ?_
        obtain ⟨h127, hf⟩ := b_ck hf
        refine va_sld X.1 X.2.1 hX hbl hbA hw.2 h127 dL_law_438 ?_
        obtain ⟨r129, σ130, h128, hf⟩ := b_bd2 hf
        refine r_callV X hw (k_X7_run hE  h128) (sp0 hE) (C := RX7) (T := TX7) (N := 9) rfl qw643 qw644 qw645 qw67 qw646 okX7_run ⟨rfl, rfl⟩ ⟨(Nat.le_of_ble_eq_true rfl), (Nat.le_of_ble_eq_true rfl)⟩ ⟨Nat.le_refl _, Nat.le_refl _⟩ rfl hl.1 (rest := []) rfl (Nat.le_of_ble_eq_true rfl) dL_law_439 (st1 := [.int r129]) rfl (fun H locs hw => ?_)
        refine lv_aload_n X.1 X.2.1 dL_law_442 rfl (lv_at hl 2 rfl) ?_
        refine lv_aload_n X.1 X.2.1 dL_law_443 rfl (lv_at hl 0 rfl) ?_
        refine lv_iload_n X.1 X.2.1 dL_law_444 rfl (lv_at hl 3 rfl) ?_
        refine lv_iconst (v := 1) X.1 X.2.1 dL_law_445 (by decide) ?_
        refine lv_iadd X.1 X.2.1 dL_law_446 ?_
        obtain ⟨h131, hf⟩ := b_ck hf
        refine va_sld X.1 X.2.1 hX hbl hbA hw.2 h131 dL_law_447 ?_
        refine lv_aload_n X.1 X.2.1 dL_law_448 rfl (lv_at hl 0 rfl) ?_
        refine lv_iload_n X.1 X.2.1 dL_law_449 rfl (lv_at hl 3 rfl) ?_
        refine lv_iconst (v := 2) X.1 X.2.1 dL_law_450 (by decide) ?_
        refine lv_iadd X.1 X.2.1 dL_law_451 ?_
        obtain ⟨h132, hf⟩ := b_ck hf
        refine va_sld X.1 X.2.1 hX hbl hbA hw.2 h132 dL_law_452 ?_
        refine lv_aload_n X.1 X.2.1 dL_law_453 rfl (lv_at hl 0 rfl) ?_
        refine lv_iload_n X.1 X.2.1 dL_law_454 rfl (lv_at hl 3 rfl) ?_
        refine lv_iconst (v := 3) X.1 X.2.1 dL_law_455 (by decide) ?_
        refine lv_iadd X.1 X.2.1 dL_law_456 ?_
        obtain ⟨h133, hf⟩ := b_ck hf
        refine va_sld X.1 X.2.1 hX hbl hbA hw.2 h133 dL_law_457 ?_
        obtain ⟨r135, σ136, h134, hf⟩ := b_bd2 hf
        refine r_callV X hw (k_X8_run hE  h134) (sp69 hE) (C := RX8) (T := TX8) (N := 31) rfl qw1123 qw1124 qw1125 qw79 qw1126 okX8_run ⟨rfl, rfl⟩ ⟨(Nat.le_of_ble_eq_true rfl), (Nat.le_of_ble_eq_true rfl)⟩ ⟨Nat.le_refl _, Nat.le_refl _⟩ rfl hl.1 (rest := [.int r129]) rfl (Nat.le_of_ble_eq_true rfl) dL_law_458 (st1 := [.int r135, .int r129]) rfl (fun H locs hw => ?_)
        refine lv_icmp_eq (tgt := 1089) X.1 X.2.1 dL_law_461 (by decide) (fun c137 => ?_) (fun c137 => ?_)
        · have hf := if_t hf c137
          obtain ⟨v138, e139, hf⟩ := b_bnd hf
          refine lv_iinc (v := v138) (k := 3) (lv' := [(3, .int v138), (0, .ref b), (1, .ref (eP E 0)), (2, .ref (eP E 69))]) X.1 X.2.1 dL_law_1089 hl rfl (by rw [e139]; exact congrArg _ (by decide)) (by decide) rfl (fun ls hl => ?_)
          refine lv_goto (tgt := 18) X.1 X.2.1 dL_law_1092 (by decide) ?_
          obtain rfl := Option.some.inj hf
          exact ih _ _ (hr1 _ rfl) _ _ _ hw (lv_sub hl [1, 2, 3, 0] rfl)
        · have hf := if_e hf c137
          refine lv_iconst (v := 0) X.1 X.2.1 dL_law_464 (by decide) ?_
          obtain rfl := Option.some.inj hf
          obtain rfl := hr2 _ rfl
          exact absurd hres (by decide)
      have hf := if_e hf c124
      by_cases c140 : v3 = 10
      · have hf := if_t hf c140
        refine lv_tableIn (x := v3) (tgt := 466) (off := 433) X.1 X.2.1 dL_law_33 (by rw [c140]; decide) (by rw [c140]; decide) (by rw [c140]; decide) (by decide) ?_
        refine lv_aload_n X.1 X.2.1 dL_law_466 rfl (lv_at hl 1 rfl) ?_
        refine lv_aload_n X.1 X.2.1 dL_law_467 rfl (lv_at hl 0 rfl) ?_
        refine lv_iload_n X.1 X.2.1 dL_law_468 rfl (lv_at hl 3 rfl) ?_
        refine lv_iconst (v := 1) X.1 X.2.1 dL_law_469 (by decide) ?_
        refine lv_iadd X.1 X.2.1 dL_law_470 ?_
        obtain ⟨h141, hf⟩ := b_ck hf
        refine va_sld X.1 X.2.1 hX hbl hbA hw.2 h141 dL_law_471 ?_
        obtain ⟨r143, h142, hf⟩ := b_bd1 hf
        refine r_callV X hw (k_X7_round hE  h142) (sp0 hE) (C := RX7) (T := TX7) (N := 9) rfl qw669 qw670 qw671 qw67 qw672 okX7_round ⟨rfl, rfl⟩ ⟨(Nat.le_of_ble_eq_true rfl), (Nat.le_of_ble_eq_true rfl)⟩ ⟨Nat.le_refl _, Nat.le_refl _⟩ rfl hl.1 (rest := []) rfl (Nat.le_of_ble_eq_true rfl) dL_law_472 (st1 := [.int r143]) rfl (fun H locs hw => ?_)
        refine lv_aload_n X.1 X.2.1 dL_law_475 rfl (lv_at hl 2 rfl) ?_
        refine lv_aload_n X.1 X.2.1 dL_law_476 rfl (lv_at hl 0 rfl) ?_
        refine lv_iload_n X.1 X.2.1 dL_law_477 rfl (lv_at hl 3 rfl) ?_
        refine lv_iconst (v := 1) X.1 X.2.1 dL_law_478 (by decide) ?_
        refine lv_iadd X.1 X.2.1 dL_law_479 ?_
        obtain ⟨h144, hf⟩ := b_ck hf
        refine va_sld X.1 X.2.1 hX hbl hbA hw.2 h144 dL_law_480 ?_
        obtain ⟨r146, h145, hf⟩ := b_bd1 hf
        refine r_callV X hw (k_X8_round hE  h145) (sp69 hE) (C := RX8) (T := TX8) (N := 31) rfl qw1147 qw1148 qw1149 qw79 qw1150 okX8_round ⟨rfl, rfl⟩ ⟨(Nat.le_of_ble_eq_true rfl), (Nat.le_of_ble_eq_true rfl)⟩ ⟨Nat.le_refl _, Nat.le_refl _⟩ rfl hl.1 (rest := [.int r143]) rfl (Nat.le_of_ble_eq_true rfl) dL_law_481 (st1 := [.int r146, .int r143]) rfl (fun H locs hw => ?_)
        refine lv_icmp_eq (tgt := 1089) X.1 X.2.1 dL_law_484 (by decide) (fun c147 => ?_) (fun c147 => ?_)
        · have hf := if_t hf c147
          obtain ⟨v148, e149, hf⟩ := b_bnd hf
          refine lv_iinc (v := v148) (k := 3) (lv' := [(3, .int v148), (0, .ref b), (1, .ref (eP E 0)), (2, .ref (eP E 69))]) X.1 X.2.1 dL_law_1089 hl rfl (by rw [e149]; exact congrArg _ (by decide)) (by decide) rfl (fun ls hl => ?_)
          refine lv_goto (tgt := 18) X.1 X.2.1 dL_law_1092 (by decide) ?_
          obtain rfl := Option.some.inj hf
          exact ih _ _ (hr1 _ rfl) _ _ _ hw (lv_sub hl [1, 2, 3, 0] rfl)
        · have hf := if_e hf c147
          refine lv_iconst (v := 0) X.1 X.2.1 dL_law_487 (by decide) ?_
          obtain rfl := Option.some.inj hf
          obtain rfl := hr2 _ rfl
          exact absurd hres (by decide)
      have hf := if_e hf c140
      by_cases c150 : v3 = 11
      · have hf := if_t hf c150
        refine lv_tableIn (x := v3) (tgt := 489) (off := 456) X.1 X.2.1 dL_law_33 (by rw [c150]; decide) (by rw [c150]; decide) (by rw [c150]; decide) (by decide) ?_
        refine lv_aload_n X.1 X.2.1 dL_law_489 rfl (lv_at hl 1 rfl) ?_
        refine lv_aload_n X.1 X.2.1 dL_law_490 rfl (lv_at hl 0 rfl) ?_
        refine lv_iload_n X.1 X.2.1 dL_law_491 rfl (lv_at hl 3 rfl) ?_
        refine lv_iconst (v := 1) X.1 X.2.1 dL_law_492 (by decide) ?_
        refine lv_iadd X.1 X.2.1 dL_law_493 ?_
        obtain ⟨h151, hf⟩ := b_ck hf
        refine va_sld X.1 X.2.1 hX hbl hbA hw.2 h151 dL_law_494 ?_
        obtain ⟨r153, σ154, h152, hf⟩ := b_bd2 hf
        refine r_callV X hw (k_X7_others hE  h152) (sp0 hE) (C := RX7) (T := TX7) (N := 9) rfl qw673 qw674 qw675 qw67 qw676 okX7_others ⟨rfl, rfl⟩ ⟨(Nat.le_of_ble_eq_true rfl), (Nat.le_of_ble_eq_true rfl)⟩ ⟨Nat.le_refl _, Nat.le_refl _⟩ rfl hl.1 (rest := []) rfl (Nat.le_of_ble_eq_true rfl) dL_law_495 (st1 := [.int r153]) rfl (fun H locs hw => ?_)
        refine lv_aload_n X.1 X.2.1 dL_law_498 rfl (lv_at hl 2 rfl) ?_
        refine lv_aload_n X.1 X.2.1 dL_law_499 rfl (lv_at hl 0 rfl) ?_
        refine lv_iload_n X.1 X.2.1 dL_law_500 rfl (lv_at hl 3 rfl) ?_
        refine lv_iconst (v := 1) X.1 X.2.1 dL_law_501 (by decide) ?_
        refine lv_iadd X.1 X.2.1 dL_law_502 ?_
        obtain ⟨h155, hf⟩ := b_ck hf
        refine va_sld X.1 X.2.1 hX hbl hbA hw.2 h155 dL_law_503 ?_
        obtain ⟨r157, σ158, h156, hf⟩ := b_bd2 hf
        refine r_callV X hw (k_X8_others hE  h156) (sp69 hE) (C := RX8) (T := TX8) (N := 31) rfl qw1151 qw1152 qw1153 qw79 qw1154 okX8_others ⟨rfl, rfl⟩ ⟨(Nat.le_of_ble_eq_true rfl), (Nat.le_of_ble_eq_true rfl)⟩ ⟨Nat.le_refl _, Nat.le_refl _⟩ rfl hl.1 (rest := [.int r153]) rfl (Nat.le_of_ble_eq_true rfl) dL_law_504 (st1 := [.int r157, .int r153]) rfl (fun H locs hw => ?_)
        refine lv_icmp_eq (tgt := 1089) X.1 X.2.1 dL_law_507 (by decide) (fun c159 => ?_) (fun c159 => ?_)
        · have hf := if_t hf c159
          obtain ⟨v160, e161, hf⟩ := b_bnd hf
          refine lv_iinc (v := v160) (k := 3) (lv' := [(3, .int v160), (0, .ref b), (1, .ref (eP E 0)), (2, .ref (eP E 69))]) X.1 X.2.1 dL_law_1089 hl rfl (by rw [e161]; exact congrArg _ (by decide)) (by decide) rfl (fun ls hl => ?_)
          refine lv_goto (tgt := 18) X.1 X.2.1 dL_law_1092 (by decide) ?_
          obtain rfl := Option.some.inj hf
          exact ih _ _ (hr1 _ rfl) _ _ _ hw (lv_sub hl [1, 2, 3, 0] rfl)
        · have hf := if_e hf c159
          refine lv_iconst (v := 0) X.1 X.2.1 dL_law_510 (by decide) ?_
          obtain rfl := Option.some.inj hf
          obtain rfl := hr2 _ rfl
          exact absurd hres (by decide)
      have hf := if_e hf c150
      by_cases c162 : v3 = 12
      · have hf := if_t hf c162
        refine lv_tableIn (x := v3) (tgt := 512) (off := 479) X.1 X.2.1 dL_law_33 (by rw [c162]; decide) (by rw [c162]; decide) (by rw [c162]; decide) (by decide) ?_
        refine lv_aload_n X.1 X.2.1 dL_law_512 rfl (lv_at hl 1 rfl) ?_
        refine lv_aload_n X.1 X.2.1 dL_law_513 rfl (lv_at hl 0 rfl) ?_
        refine lv_iload_n X.1 X.2.1 dL_law_514 rfl (lv_at hl 3 rfl) ?_
        refine lv_iconst (v := 1) X.1 X.2.1 dL_law_515 (by decide) ?_
        refine lv_iadd X.1 X.2.1 dL_law_516 ?_
        obtain ⟨h163, hf⟩ := b_ck hf
        refine va_sld X.1 X.2.1 hX hbl hbA hw.2 h163 dL_law_517 ?_
        refine lv_aload_n X.1 X.2.1 dL_law_518 rfl (lv_at hl 0 rfl) ?_
        refine lv_iload_n X.1 X.2.1 dL_law_519 rfl (lv_at hl 3 rfl) ?_
        refine lv_iconst (v := 2) X.1 X.2.1 dL_law_520 (by decide) ?_
        refine lv_iadd X.1 X.2.1 dL_law_521 ?_
        obtain ⟨h164, hf⟩ := b_ck hf
        refine va_sld X.1 X.2.1 hX hbl hbA hw.2 h164 dL_law_522 ?_
        refine lv_aload_n X.1 X.2.1 dL_law_523 rfl (lv_at hl 0 rfl) ?_
        refine lv_iload_n X.1 X.2.1 dL_law_524 rfl (lv_at hl 3 rfl) ?_
        refine lv_iconst (v := 3) X.1 X.2.1 dL_law_525 (by decide) ?_
        refine lv_iadd X.1 X.2.1 dL_law_526 ?_
        obtain ⟨h165, hf⟩ := b_ck hf
        refine va_sld X.1 X.2.1 hX hbl hbA hw.2 h165 dL_law_527 ?_
        obtain ⟨r167, σ168, h166, hf⟩ := b_bd2 hf
        refine r_callV X hw (k_X7_duty hE  h166) (sp0 hE) (C := RX7) (T := TX7) (N := 9) rfl qw698 qw699 qw700 qw67 qw701 okX7_duty ⟨rfl, rfl⟩ ⟨(Nat.le_of_ble_eq_true rfl), (Nat.le_of_ble_eq_true rfl)⟩ ⟨Nat.le_refl _, Nat.le_refl _⟩ rfl hl.1 (rest := []) rfl (Nat.le_of_ble_eq_true rfl) dL_law_528 (st1 := [.int r167]) rfl (fun H locs hw => ?_)
        refine lv_aload_n X.1 X.2.1 dL_law_531 rfl (lv_at hl 2 rfl) ?_
        refine lv_aload_n X.1 X.2.1 dL_law_532 rfl (lv_at hl 0 rfl) ?_
        refine lv_iload_n X.1 X.2.1 dL_law_533 rfl (lv_at hl 3 rfl) ?_
        refine lv_iconst (v := 1) X.1 X.2.1 dL_law_534 (by decide) ?_
        refine lv_iadd X.1 X.2.1 dL_law_535 ?_
        obtain ⟨h169, hf⟩ := b_ck hf
        refine va_sld X.1 X.2.1 hX hbl hbA hw.2 h169 dL_law_536 ?_
        refine lv_aload_n X.1 X.2.1 dL_law_537 rfl (lv_at hl 0 rfl) ?_
        refine lv_iload_n X.1 X.2.1 dL_law_538 rfl (lv_at hl 3 rfl) ?_
        refine lv_iconst (v := 2) X.1 X.2.1 dL_law_539 (by decide) ?_
        refine lv_iadd X.1 X.2.1 dL_law_540 ?_
        obtain ⟨h170, hf⟩ := b_ck hf
        refine va_sld X.1 X.2.1 hX hbl hbA hw.2 h170 dL_law_541 ?_
        refine lv_aload_n X.1 X.2.1 dL_law_542 rfl (lv_at hl 0 rfl) ?_
        refine lv_iload_n X.1 X.2.1 dL_law_543 rfl (lv_at hl 3 rfl) ?_
        refine lv_iconst (v := 3) X.1 X.2.1 dL_law_544 (by decide) ?_
        refine lv_iadd X.1 X.2.1 dL_law_545 ?_
        obtain ⟨h171, hf⟩ := b_ck hf
        refine va_sld X.1 X.2.1 hX hbl hbA hw.2 h171 dL_law_546 ?_
        obtain ⟨r173, σ174, h172, hf⟩ := b_bd2 hf
        refine r_callV X hw (k_X8_duty hE  h172) (sp69 hE) (C := RX8) (T := TX8) (N := 31) rfl qw1159 qw1160 qw1161 qw79 qw1162 okX8_duty ⟨rfl, rfl⟩ ⟨(Nat.le_of_ble_eq_true rfl), (Nat.le_of_ble_eq_true rfl)⟩ ⟨Nat.le_refl _, Nat.le_refl _⟩ rfl hl.1 (rest := [.int r167]) rfl (Nat.le_of_ble_eq_true rfl) dL_law_547 (st1 := [.int r173, .int r167]) rfl (fun H locs hw => ?_)
        refine lv_icmp_eq (tgt := 1089) X.1 X.2.1 dL_law_550 (by decide) (fun c175 => ?_) (fun c175 => ?_)
        · have hf := if_t hf c175
          obtain ⟨v176, e177, hf⟩ := b_bnd hf
          refine lv_iinc (v := v176) (k := 3) (lv' := [(3, .int v176), (0, .ref b), (1, .ref (eP E 0)), (2, .ref (eP E 69))]) X.1 X.2.1 dL_law_1089 hl rfl (by rw [e177]; exact congrArg _ (by decide)) (by decide) rfl (fun ls hl => ?_)
          refine lv_goto (tgt := 18) X.1 X.2.1 dL_law_1092 (by decide) ?_
          obtain rfl := Option.some.inj hf
          exact ih _ _ (hr1 _ rfl) _ _ _ hw (lv_sub hl [1, 2, 3, 0] rfl)
        · have hf := if_e hf c175
          refine lv_iconst (v := 0) X.1 X.2.1 dL_law_553 (by decide) ?_
          obtain rfl := Option.some.inj hf
          obtain rfl := hr2 _ rfl
          exact absurd hres (by decide)
      have hf := if_e hf c162
      by_cases c178 : v3 = 13
      · have hf := if_t hf c178
        refine lv_tableIn (x := v3) (tgt := 555) (off := 522) X.1 X.2.1 dL_law_33 (by rw [c178]; decide) (by rw [c178]; decide) (by rw [c178]; decide) (by decide) ?_
        refine lv_aload_n X.1 X.2.1 dL_law_555 rfl (lv_at hl 1 rfl) ?_
        refine lv_aload_n X.1 X.2.1 dL_law_556 rfl (lv_at hl 0 rfl) ?_
        refine lv_iload_n X.1 X.2.1 dL_law_557 rfl (lv_at hl 3 rfl) ?_
        refine lv_iconst (v := 1) X.1 X.2.1 dL_law_558 (by decide) ?_
        refine lv_iadd X.1 X.2.1 dL_law_559 ?_
        obtain ⟨h179, hf⟩ := b_ck hf
        refine va_sld X.1 X.2.1 hX hbl hbA hw.2 h179 dL_law_560 ?_
        refine lv_aload_n X.1 X.2.1 dL_law_561 rfl (lv_at hl 0 rfl) ?_
        refine lv_iload_n X.1 X.2.1 dL_law_562 rfl (lv_at hl 3 rfl) ?_
        refine lv_iconst (v := 2) X.1 X.2.1 dL_law_563 (by decide) ?_
        refine lv_iadd X.1 X.2.1 dL_law_564 ?_
        obtain ⟨h180, hf⟩ := b_ck hf
        refine va_sld X.1 X.2.1 hX hbl hbA hw.2 h180 dL_law_565 ?_
        refine lv_aload_n X.1 X.2.1 dL_law_566 rfl (lv_at hl 0 rfl) ?_
        refine lv_iload_n X.1 X.2.1 dL_law_567 rfl (lv_at hl 3 rfl) ?_
        refine lv_iconst (v := 3) X.1 X.2.1 dL_law_568 (by decide) ?_
        refine lv_iadd X.1 X.2.1 dL_law_569 ?_
        obtain ⟨h181, hf⟩ := b_ck hf
        refine va_sld X.1 X.2.1 hX hbl hbA hw.2 h181 dL_law_570 ?_
        obtain ⟨r183, σ184, h182, hf⟩ := b_bd2 hf
        refine r_callV X hw (k_X7_fonder hE  h182) (sp0 hE) (C := RX7) (T := TX7) (N := 9) rfl qw707 qw708 qw709 qw67 qw710 okX7_fonder ⟨rfl, rfl⟩ ⟨(Nat.le_of_ble_eq_true rfl), (Nat.le_of_ble_eq_true rfl)⟩ ⟨Nat.le_refl _, Nat.le_refl _⟩ rfl hl.1 (rest := []) rfl (Nat.le_of_ble_eq_true rfl) dL_law_571 (st1 := [.int r183]) rfl (fun H locs hw => ?_)
        refine lv_aload_n X.1 X.2.1 dL_law_574 rfl (lv_at hl 2 rfl) ?_
        refine lv_aload_n X.1 X.2.1 dL_law_575 rfl (lv_at hl 0 rfl) ?_
        refine lv_iload_n X.1 X.2.1 dL_law_576 rfl (lv_at hl 3 rfl) ?_
        refine lv_iconst (v := 1) X.1 X.2.1 dL_law_577 (by decide) ?_
        refine lv_iadd X.1 X.2.1 dL_law_578 ?_
        obtain ⟨h185, hf⟩ := b_ck hf
        refine va_sld X.1 X.2.1 hX hbl hbA hw.2 h185 dL_law_579 ?_
        refine lv_aload_n X.1 X.2.1 dL_law_580 rfl (lv_at hl 0 rfl) ?_
        refine lv_iload_n X.1 X.2.1 dL_law_581 rfl (lv_at hl 3 rfl) ?_
        refine lv_iconst (v := 2) X.1 X.2.1 dL_law_582 (by decide) ?_
        refine lv_iadd X.1 X.2.1 dL_law_583 ?_
        obtain ⟨h186, hf⟩ := b_ck hf
        refine va_sld X.1 X.2.1 hX hbl hbA hw.2 h186 dL_law_584 ?_
        refine lv_aload_n X.1 X.2.1 dL_law_585 rfl (lv_at hl 0 rfl) ?_
        refine lv_iload_n X.1 X.2.1 dL_law_586 rfl (lv_at hl 3 rfl) ?_
        refine lv_iconst (v := 3) X.1 X.2.1 dL_law_587 (by decide) ?_
        refine lv_iadd X.1 X.2.1 dL_law_588 ?_
        obtain ⟨h187, hf⟩ := b_ck hf
        refine va_sld X.1 X.2.1 hX hbl hbA hw.2 h187 dL_law_589 ?_
        obtain ⟨r189, σ190, h188, hf⟩ := b_bd2 hf
        refine r_callV X hw (k_X8_fonder hE  h188) (sp69 hE) (C := RX8) (T := TX8) (N := 31) rfl qw1168 qw1169 qw1170 qw79 qw1171 okX8_fonder ⟨rfl, rfl⟩ ⟨(Nat.le_of_ble_eq_true rfl), (Nat.le_of_ble_eq_true rfl)⟩ ⟨Nat.le_refl _, Nat.le_refl _⟩ rfl hl.1 (rest := [.int r183]) rfl (Nat.le_of_ble_eq_true rfl) dL_law_590 (st1 := [.int r189, .int r183]) rfl (fun H locs hw => ?_)
        refine lv_icmp_eq (tgt := 1089) X.1 X.2.1 dL_law_593 (by decide) (fun c191 => ?_) (fun c191 => ?_)
        · have hf := if_t hf c191
          obtain ⟨v192, e193, hf⟩ := b_bnd hf
          refine lv_iinc (v := v192) (k := 3) (lv' := [(3, .int v192), (0, .ref b), (1, .ref (eP E 0)), (2, .ref (eP E 69))]) X.1 X.2.1 dL_law_1089 hl rfl (by rw [e193]; exact congrArg _ (by decide)) (by decide) rfl (fun ls hl => ?_)
          refine lv_goto (tgt := 18) X.1 X.2.1 dL_law_1092 (by decide) ?_
          obtain rfl := Option.some.inj hf
          exact ih _ _ (hr1 _ rfl) _ _ _ hw (lv_sub hl [1, 2, 3, 0] rfl)
        · have hf := if_e hf c191
          refine lv_iconst (v := 0) X.1 X.2.1 dL_law_596 (by decide) ?_
          obtain rfl := Option.some.inj hf
          obtain rfl := hr2 _ rfl
          exact absurd hres (by decide)
      have hf := if_e hf c178
      by_cases c194 : v3 = 14
      · have hf := if_t hf c194
        refine lv_tableIn (x := v3) (tgt := 598) (off := 565) X.1 X.2.1 dL_law_33 (by rw [c194]; decide) (by rw [c194]; decide) (by rw [c194]; decide) (by decide) ?_
        refine lv_aload_n X.1 X.2.1 dL_law_598 rfl (lv_at hl 1 rfl) ?_
        refine lv_aload_n X.1 X.2.1 dL_law_599 rfl (lv_at hl 0 rfl) ?_
        refine lv_iload_n X.1 X.2.1 dL_law_600 rfl (lv_at hl 3 rfl) ?_
        refine lv_iconst (v := 1) X.1 X.2.1 dL_law_601 (by decide) ?_
        refine lv_iadd X.1 X.2.1 dL_law_602 ?_
        obtain ⟨h195, hf⟩ := b_ck hf
        refine va_sld X.1 X.2.1 hX hbl hbA hw.2 h195 dL_law_603 ?_
        obtain ⟨r197, h196, hf⟩ := b_bd1 hf
        refine r_callV X hw (k_X7_mean hE  h196) (sp0 hE) (C := RX7) (T := TX7) (N := 9) rfl qw711 qw712 qw713 qw67 qw714 okX7_mean ⟨rfl, rfl⟩ ⟨(Nat.le_of_ble_eq_true rfl), (Nat.le_of_ble_eq_true rfl)⟩ ⟨Nat.le_refl _, Nat.le_refl _⟩ rfl hl.1 (rest := []) rfl (Nat.le_of_ble_eq_true rfl) dL_law_604 (st1 := [.long r197]) rfl (fun H locs hw => ?_)
        refine lv_aload_n X.1 X.2.1 dL_law_607 rfl (lv_at hl 2 rfl) ?_
        refine lv_aload_n X.1 X.2.1 dL_law_608 rfl (lv_at hl 0 rfl) ?_
        refine lv_iload_n X.1 X.2.1 dL_law_609 rfl (lv_at hl 3 rfl) ?_
        refine lv_iconst (v := 1) X.1 X.2.1 dL_law_610 (by decide) ?_
        refine lv_iadd X.1 X.2.1 dL_law_611 ?_
        obtain ⟨h198, hf⟩ := b_ck hf
        refine va_sld X.1 X.2.1 hX hbl hbA hw.2 h198 dL_law_612 ?_
        obtain ⟨r200, h199, hf⟩ := b_bd1 hf
        refine r_callV X hw (k_X8_mean hE  h199) (sp69 hE) (C := RX8) (T := TX8) (N := 31) rfl qw1172 qw1173 qw1174 qw79 qw1175 okX8_mean ⟨rfl, rfl⟩ ⟨(Nat.le_of_ble_eq_true rfl), (Nat.le_of_ble_eq_true rfl)⟩ ⟨Nat.le_refl _, Nat.le_refl _⟩ rfl hl.1 (rest := [.long r197]) rfl (Nat.le_of_ble_eq_true rfl) dL_law_613 (st1 := [.long r200, .long r197]) rfl (fun H locs hw => ?_)
        refine W.lcmp X.1 X.2.1 dL_law_616 ?_
        refine lv_if_eq (tgt := 1089) X.1 X.2.1 dL_law_617 (by decide) (fun c201 => ?_) (fun c201 => ?_)
        · have hf := if_t hf c201
          obtain ⟨v202, e203, hf⟩ := b_bnd hf
          refine lv_iinc (v := v202) (k := 3) (lv' := [(3, .int v202), (0, .ref b), (1, .ref (eP E 0)), (2, .ref (eP E 69))]) X.1 X.2.1 dL_law_1089 hl rfl (by rw [e203]; exact congrArg _ (by decide)) (by decide) rfl (fun ls hl => ?_)
          refine lv_goto (tgt := 18) X.1 X.2.1 dL_law_1092 (by decide) ?_
          obtain rfl := Option.some.inj hf
          exact ih _ _ (hr1 _ rfl) _ _ _ hw (lv_sub hl [1, 2, 3, 0] rfl)
        · have hf := if_e hf c201
          refine lv_iconst (v := 0) X.1 X.2.1 dL_law_620 (by decide) ?_
          obtain rfl := Option.some.inj hf
          obtain rfl := hr2 _ rfl
          exact absurd hres (by decide)
      have hf := if_e hf c194
      by_cases c204 : v3 = 15
      · have hf := if_t hf c204
        refine lv_tableIn (x := v3) (tgt := 622) (off := 589) X.1 X.2.1 dL_law_33 (by rw [c204]; decide) (by rw [c204]; decide) (by rw [c204]; decide) (by decide) ?_
        refine lv_aload_n X.1 X.2.1 dL_law_622 rfl (lv_at hl 1 rfl) ?_
        refine lv_aload_n X.1 X.2.1 dL_law_623 rfl (lv_at hl 0 rfl) ?_
        refine lv_iload_n X.1 X.2.1 dL_law_624 rfl (lv_at hl 3 rfl) ?_
        refine lv_iconst (v := 1) X.1 X.2.1 dL_law_625 (by decide) ?_
        refine lv_iadd X.1 X.2.1 dL_law_626 ?_
        obtain ⟨h205, hf⟩ := b_ck hf
        refine va_sld X.1 X.2.1 hX hbl hbA hw.2 h205 dL_law_627 ?_
        refine lv_aload_n X.1 X.2.1 dL_law_628 rfl (lv_at hl 0 rfl) ?_
        refine lv_iload_n X.1 X.2.1 dL_law_629 rfl (lv_at hl 3 rfl) ?_
        refine lv_iconst (v := 2) X.1 X.2.1 dL_law_630 (by decide) ?_
        refine lv_iadd X.1 X.2.1 dL_law_631 ?_
        obtain ⟨h206, hf⟩ := b_ck hf
        refine va_sld X.1 X.2.1 hX hbl hbA hw.2 h206 dL_law_632 ?_
        refine lv_aload_n X.1 X.2.1 dL_law_633 rfl (lv_at hl 0 rfl) ?_
        refine lv_iload_n X.1 X.2.1 dL_law_634 rfl (lv_at hl 3 rfl) ?_
        refine lv_iconst (v := 3) X.1 X.2.1 dL_law_635 (by decide) ?_
        refine lv_iadd X.1 X.2.1 dL_law_636 ?_
        obtain ⟨h207, hf⟩ := b_ck hf
        refine va_sld X.1 X.2.1 hX hbl hbA hw.2 h207 dL_law_637 ?_
        refine lv_aload_n X.1 X.2.1 dL_law_638 rfl (lv_at hl 0 rfl) ?_
        refine lv_iload_n X.1 X.2.1 dL_law_639 rfl (lv_at hl 3 rfl) ?_
        refine lv_iconst (v := 4) X.1 X.2.1 dL_law_640 (by decide) ?_
        refine lv_iadd X.1 X.2.1 dL_law_641 ?_
        obtain ⟨h208, hf⟩ := b_ck hf
        refine va_sld X.1 X.2.1 hX hbl hbA hw.2 h208 dL_law_642 ?_
        obtain ⟨r210, σ211, h209, hf⟩ := b_bd2 hf
        refine r_callV X hw (k_X7_tells hE  h209) (sp0 hE) (C := RX7) (T := TX7) (N := 9) rfl qw719 qw720 qw721 qw67 qw722 okX7_tells ⟨rfl, rfl⟩ ⟨(Nat.le_of_ble_eq_true rfl), (Nat.le_of_ble_eq_true rfl)⟩ ⟨Nat.le_refl _, Nat.le_refl _⟩ rfl hl.1 (rest := []) rfl (Nat.le_of_ble_eq_true rfl) dL_law_643 (st1 := [.int r210]) rfl (fun H locs hw => ?_)
        refine lv_aload_n X.1 X.2.1 dL_law_646 rfl (lv_at hl 2 rfl) ?_
        refine lv_aload_n X.1 X.2.1 dL_law_647 rfl (lv_at hl 0 rfl) ?_
        refine lv_iload_n X.1 X.2.1 dL_law_648 rfl (lv_at hl 3 rfl) ?_
        refine lv_iconst (v := 1) X.1 X.2.1 dL_law_649 (by decide) ?_
        refine lv_iadd X.1 X.2.1 dL_law_650 ?_
        obtain ⟨h212, hf⟩ := b_ck hf
        refine va_sld X.1 X.2.1 hX hbl hbA hw.2 h212 dL_law_651 ?_
        refine lv_aload_n X.1 X.2.1 dL_law_652 rfl (lv_at hl 0 rfl) ?_
        refine lv_iload_n X.1 X.2.1 dL_law_653 rfl (lv_at hl 3 rfl) ?_
        refine lv_iconst (v := 2) X.1 X.2.1 dL_law_654 (by decide) ?_
        refine lv_iadd X.1 X.2.1 dL_law_655 ?_
        obtain ⟨h213, hf⟩ := b_ck hf
        refine va_sld X.1 X.2.1 hX hbl hbA hw.2 h213 dL_law_656 ?_
        refine lv_aload_n X.1 X.2.1 dL_law_657 rfl (lv_at hl 0 rfl) ?_
        refine lv_iload_n X.1 X.2.1 dL_law_658 rfl (lv_at hl 3 rfl) ?_
        refine lv_iconst (v := 3) X.1 X.2.1 dL_law_659 (by decide) ?_
        refine lv_iadd X.1 X.2.1 dL_law_660 ?_
        obtain ⟨h214, hf⟩ := b_ck hf
        refine va_sld X.1 X.2.1 hX hbl hbA hw.2 h214 dL_law_661 ?_
        refine lv_aload_n X.1 X.2.1 dL_law_662 rfl (lv_at hl 0 rfl) ?_
        refine lv_iload_n X.1 X.2.1 dL_law_663 rfl (lv_at hl 3 rfl) ?_
        refine lv_iconst (v := 4) X.1 X.2.1 dL_law_664 (by decide) ?_
        refine lv_iadd X.1 X.2.1 dL_law_665 ?_
        obtain ⟨h215, hf⟩ := b_ck hf
        refine va_sld X.1 X.2.1 hX hbl hbA hw.2 h215 dL_law_666 ?_
        obtain ⟨r217, σ218, h216, hf⟩ := b_bd2 hf
        refine r_callV X hw (k_X8_tells hE  h216) (sp69 hE) (C := RX8) (T := TX8) (N := 31) rfl qw1204 qw1205 qw1206 qw79 qw1207 okX8_tells ⟨rfl, rfl⟩ ⟨(Nat.le_of_ble_eq_true rfl), (Nat.le_of_ble_eq_true rfl)⟩ ⟨Nat.le_refl _, Nat.le_refl _⟩ rfl hl.1 (rest := [.int r210]) rfl (Nat.le_of_ble_eq_true rfl) dL_law_667 (st1 := [.int r217, .int r210]) rfl (fun H locs hw => ?_)
        refine lv_icmp_eq (tgt := 1089) X.1 X.2.1 dL_law_670 (by decide) (fun c219 => ?_) (fun c219 => ?_)
        · have hf := if_t hf c219
          obtain ⟨v220, e221, hf⟩ := b_bnd hf
          refine lv_iinc (v := v220) (k := 3) (lv' := [(3, .int v220), (0, .ref b), (1, .ref (eP E 0)), (2, .ref (eP E 69))]) X.1 X.2.1 dL_law_1089 hl rfl (by rw [e221]; exact congrArg _ (by decide)) (by decide) rfl (fun ls hl => ?_)
          refine lv_goto (tgt := 18) X.1 X.2.1 dL_law_1092 (by decide) ?_
          obtain rfl := Option.some.inj hf
          exact ih _ _ (hr1 _ rfl) _ _ _ hw (lv_sub hl [1, 2, 3, 0] rfl)
        · have hf := if_e hf c219
          refine lv_iconst (v := 0) X.1 X.2.1 dL_law_673 (by decide) ?_
          obtain rfl := Option.some.inj hf
          obtain rfl := hr2 _ rfl
          exact absurd hres (by decide)
      have hf := if_e hf c204
      by_cases c222 : v3 = 16
      · have hf := if_t hf c222
        refine lv_tableIn (x := v3) (tgt := 675) (off := 642) X.1 X.2.1 dL_law_33 (by rw [c222]; decide) (by rw [c222]; decide) (by rw [c222]; decide) (by decide) ?_
        refine lv_aload_n X.1 X.2.1 dL_law_675 rfl (lv_at hl 1 rfl) ?_
        refine lv_aload_n X.1 X.2.1 dL_law_676 rfl (lv_at hl 0 rfl) ?_
        refine lv_iload_n X.1 X.2.1 dL_law_677 rfl (lv_at hl 3 rfl) ?_
        refine lv_iconst (v := 1) X.1 X.2.1 dL_law_678 (by decide) ?_
        refine lv_iadd X.1 X.2.1 dL_law_679 ?_
        obtain ⟨h223, hf⟩ := b_ck hf
        refine va_sld X.1 X.2.1 hX hbl hbA hw.2 h223 dL_law_680 ?_
        refine lv_aload_n X.1 X.2.1 dL_law_681 rfl (lv_at hl 0 rfl) ?_
        refine lv_iload_n X.1 X.2.1 dL_law_682 rfl (lv_at hl 3 rfl) ?_
        refine lv_iconst (v := 2) X.1 X.2.1 dL_law_683 (by decide) ?_
        refine lv_iadd X.1 X.2.1 dL_law_684 ?_
        obtain ⟨h224, hf⟩ := b_ck hf
        refine va_sld X.1 X.2.1 hX hbl hbA hw.2 h224 dL_law_685 ?_
        refine lv_aload_n X.1 X.2.1 dL_law_686 rfl (lv_at hl 0 rfl) ?_
        refine lv_iload_n X.1 X.2.1 dL_law_687 rfl (lv_at hl 3 rfl) ?_
        refine lv_iconst (v := 3) X.1 X.2.1 dL_law_688 (by decide) ?_
        refine lv_iadd X.1 X.2.1 dL_law_689 ?_
        obtain ⟨h225, hf⟩ := b_ck hf
        refine va_sld X.1 X.2.1 hX hbl hbA hw.2 h225 dL_law_690 ?_
        obtain ⟨r227, σ228, h226, hf⟩ := b_bd2 hf
        refine r_callV X hw (k_X7_film hE  h226) (sp0 hE) (C := RX7) (T := TX7) (N := 9) rfl qw766 qw767 qw768 qw67 qw769 okX7_film ⟨rfl, rfl⟩ ⟨(Nat.le_of_ble_eq_true rfl), (Nat.le_of_ble_eq_true rfl)⟩ ⟨Nat.le_refl _, Nat.le_refl _⟩ rfl hl.1 (rest := []) rfl (Nat.le_of_ble_eq_true rfl) dL_law_691 (st1 := [.int r227]) rfl (fun H locs hw => ?_)
        refine lv_aload_n X.1 X.2.1 dL_law_694 rfl (lv_at hl 2 rfl) ?_
        refine lv_aload_n X.1 X.2.1 dL_law_695 rfl (lv_at hl 0 rfl) ?_
        refine lv_iload_n X.1 X.2.1 dL_law_696 rfl (lv_at hl 3 rfl) ?_
        refine lv_iconst (v := 1) X.1 X.2.1 dL_law_697 (by decide) ?_
        refine lv_iadd X.1 X.2.1 dL_law_698 ?_
        obtain ⟨h229, hf⟩ := b_ck hf
        refine va_sld X.1 X.2.1 hX hbl hbA hw.2 h229 dL_law_699 ?_
        refine lv_aload_n X.1 X.2.1 dL_law_700 rfl (lv_at hl 0 rfl) ?_
        refine lv_iload_n X.1 X.2.1 dL_law_701 rfl (lv_at hl 3 rfl) ?_
        refine lv_iconst (v := 2) X.1 X.2.1 dL_law_702 (by decide) ?_
        refine lv_iadd X.1 X.2.1 dL_law_703 ?_
        obtain ⟨h230, hf⟩ := b_ck hf
        refine va_sld X.1 X.2.1 hX hbl hbA hw.2 h230 dL_law_704 ?_
        refine lv_aload_n X.1 X.2.1 dL_law_705 rfl (lv_at hl 0 rfl) ?_
        refine lv_iload_n X.1 X.2.1 dL_law_706 rfl (lv_at hl 3 rfl) ?_
        refine lv_iconst (v := 3) X.1 X.2.1 dL_law_707 (by decide) ?_
        refine lv_iadd X.1 X.2.1 dL_law_708 ?_
        obtain ⟨h231, hf⟩ := b_ck hf
        refine va_sld X.1 X.2.1 hX hbl hbA hw.2 h231 dL_law_709 ?_
        obtain ⟨r233, σ234, h232, hf⟩ := b_bd2 hf
        refine r_callV X hw (k_X8_film hE  h232) (sp69 hE) (C := RX8) (T := TX8) (N := 31) rfl qw1220 qw1221 qw1222 qw79 qw1223 okX8_film ⟨rfl, rfl⟩ ⟨(Nat.le_of_ble_eq_true rfl), (Nat.le_of_ble_eq_true rfl)⟩ ⟨Nat.le_refl _, Nat.le_refl _⟩ rfl hl.1 (rest := [.int r227]) rfl (Nat.le_of_ble_eq_true rfl) dL_law_710 (st1 := [.int r233, .int r227]) rfl (fun H locs hw => ?_)
        refine lv_icmp_eq (tgt := 1089) X.1 X.2.1 dL_law_713 (by decide) (fun c235 => ?_) (fun c235 => ?_)
        · have hf := if_t hf c235
          obtain ⟨v236, e237, hf⟩ := b_bnd hf
          refine lv_iinc (v := v236) (k := 3) (lv' := [(3, .int v236), (0, .ref b), (1, .ref (eP E 0)), (2, .ref (eP E 69))]) X.1 X.2.1 dL_law_1089 hl rfl (by rw [e237]; exact congrArg _ (by decide)) (by decide) rfl (fun ls hl => ?_)
          refine lv_goto (tgt := 18) X.1 X.2.1 dL_law_1092 (by decide) ?_
          obtain rfl := Option.some.inj hf
          exact ih _ _ (hr1 _ rfl) _ _ _ hw (lv_sub hl [1, 2, 3, 0] rfl)
        · have hf := if_e hf c235
          refine lv_iconst (v := 0) X.1 X.2.1 dL_law_716 (by decide) ?_
          obtain rfl := Option.some.inj hf
          obtain rfl := hr2 _ rfl
          exact absurd hres (by decide)
      have hf := if_e hf c222
      by_cases c238 : v3 = 17
      · have hf := if_t hf c238
        refine lv_tableIn (x := v3) (tgt := 718) (off := 685) X.1 X.2.1 dL_law_33 (by rw [c238]; decide) (by rw [c238]; decide) (by rw [c238]; decide) (by decide) ?_
        refine lv_aload_n X.1 X.2.1 dL_law_718 rfl (lv_at hl 1 rfl) ?_
        refine lv_aload_n X.1 X.2.1 dL_law_719 rfl (lv_at hl 0 rfl) ?_
        refine lv_iload_n X.1 X.2.1 dL_law_720 rfl (lv_at hl 3 rfl) ?_
        refine lv_iconst (v := 1) X.1 X.2.1 dL_law_721 (by decide) ?_
        refine lv_iadd X.1 X.2.1 dL_law_722 ?_
        obtain ⟨h239, hf⟩ := b_ck hf
        refine va_sld X.1 X.2.1 hX hbl hbA hw.2 h239 dL_law_723 ?_
        refine lv_aload_n X.1 X.2.1 dL_law_724 rfl (lv_at hl 0 rfl) ?_
        refine lv_iload_n X.1 X.2.1 dL_law_725 rfl (lv_at hl 3 rfl) ?_
        refine lv_iconst (v := 2) X.1 X.2.1 dL_law_726 (by decide) ?_
        refine lv_iadd X.1 X.2.1 dL_law_727 ?_
        obtain ⟨h240, hf⟩ := b_ck hf
        refine va_sld X.1 X.2.1 hX hbl hbA hw.2 h240 dL_law_728 ?_
        obtain ⟨r242, σ243, h241, hf⟩ := b_bd2 hf
        refine r_callV X hw (k_X7_drawn hE  h241) (sp0 hE) (C := RX7) (T := TX7) (N := 9) rfl qw779 qw780 qw781 qw67 qw782 okX7_drawn ⟨rfl, rfl⟩ ⟨(Nat.le_of_ble_eq_true rfl), (Nat.le_of_ble_eq_true rfl)⟩ ⟨Nat.le_refl _, Nat.le_refl _⟩ rfl hl.1 (rest := []) rfl (Nat.le_of_ble_eq_true rfl) dL_law_729 (st1 := [.int r242]) rfl (fun H locs hw => ?_)
        refine lv_aload_n X.1 X.2.1 dL_law_732 rfl (lv_at hl 2 rfl) ?_
        refine lv_aload_n X.1 X.2.1 dL_law_733 rfl (lv_at hl 0 rfl) ?_
        refine lv_iload_n X.1 X.2.1 dL_law_734 rfl (lv_at hl 3 rfl) ?_
        refine lv_iconst (v := 1) X.1 X.2.1 dL_law_735 (by decide) ?_
        refine lv_iadd X.1 X.2.1 dL_law_736 ?_
        obtain ⟨h244, hf⟩ := b_ck hf
        refine va_sld X.1 X.2.1 hX hbl hbA hw.2 h244 dL_law_737 ?_
        refine lv_aload_n X.1 X.2.1 dL_law_738 rfl (lv_at hl 0 rfl) ?_
        refine lv_iload_n X.1 X.2.1 dL_law_739 rfl (lv_at hl 3 rfl) ?_
        refine lv_iconst (v := 2) X.1 X.2.1 dL_law_740 (by decide) ?_
        refine lv_iadd X.1 X.2.1 dL_law_741 ?_
        obtain ⟨h245, hf⟩ := b_ck hf
        refine va_sld X.1 X.2.1 hX hbl hbA hw.2 h245 dL_law_742 ?_
        obtain ⟨r247, σ248, h246, hf⟩ := b_bd2 hf
        refine r_callV X hw (k_X8_drawn hE  h246) (sp69 hE) (C := RX8) (T := TX8) (N := 31) rfl qw1225 qw1226 qw1227 qw79 qw1228 okX8_drawn ⟨rfl, rfl⟩ ⟨(Nat.le_of_ble_eq_true rfl), (Nat.le_of_ble_eq_true rfl)⟩ ⟨Nat.le_refl _, Nat.le_refl _⟩ rfl hl.1 (rest := [.int r242]) rfl (Nat.le_of_ble_eq_true rfl) dL_law_743 (st1 := [.int r247, .int r242]) rfl (fun H locs hw => ?_)
        refine lv_icmp_eq (tgt := 1089) X.1 X.2.1 dL_law_746 (by decide) (fun c249 => ?_) (fun c249 => ?_)
        · have hf := if_t hf c249
          obtain ⟨v250, e251, hf⟩ := b_bnd hf
          refine lv_iinc (v := v250) (k := 3) (lv' := [(3, .int v250), (0, .ref b), (1, .ref (eP E 0)), (2, .ref (eP E 69))]) X.1 X.2.1 dL_law_1089 hl rfl (by rw [e251]; exact congrArg _ (by decide)) (by decide) rfl (fun ls hl => ?_)
          refine lv_goto (tgt := 18) X.1 X.2.1 dL_law_1092 (by decide) ?_
          obtain rfl := Option.some.inj hf
          exact ih _ _ (hr1 _ rfl) _ _ _ hw (lv_sub hl [1, 2, 3, 0] rfl)
        · have hf := if_e hf c249
          refine lv_iconst (v := 0) X.1 X.2.1 dL_law_749 (by decide) ?_
          obtain rfl := Option.some.inj hf
          obtain rfl := hr2 _ rfl
          exact absurd hres (by decide)
      have hf := if_e hf c238
      by_cases c252 : v3 = 18
      · have hf := if_t hf c252
        refine lv_tableIn (x := v3) (tgt := 751) (off := 718) X.1 X.2.1 dL_law_33 (by rw [c252]; decide) (by rw [c252]; decide) (by rw [c252]; decide) (by decide) ?_
        refine lv_aload_n X.1 X.2.1 dL_law_751 rfl (lv_at hl 1 rfl) ?_
        refine lv_aload_n X.1 X.2.1 dL_law_752 rfl (lv_at hl 0 rfl) ?_
        refine lv_iload_n X.1 X.2.1 dL_law_753 rfl (lv_at hl 3 rfl) ?_
        refine lv_iconst (v := 1) X.1 X.2.1 dL_law_754 (by decide) ?_
        refine lv_iadd X.1 X.2.1 dL_law_755 ?_
        obtain ⟨h253, hf⟩ := b_ck hf
        refine va_sld X.1 X.2.1 hX hbl hbA hw.2 h253 dL_law_756 ?_
        refine lv_aload_n X.1 X.2.1 dL_law_757 rfl (lv_at hl 0 rfl) ?_
        refine lv_iload_n X.1 X.2.1 dL_law_758 rfl (lv_at hl 3 rfl) ?_
        refine lv_iconst (v := 2) X.1 X.2.1 dL_law_759 (by decide) ?_
        refine lv_iadd X.1 X.2.1 dL_law_760 ?_
        obtain ⟨h254, hf⟩ := b_ck hf
        refine va_sld X.1 X.2.1 hX hbl hbA hw.2 h254 dL_law_761 ?_
        refine lv_aload_n X.1 X.2.1 dL_law_762 rfl (lv_at hl 0 rfl) ?_
        refine lv_iload_n X.1 X.2.1 dL_law_763 rfl (lv_at hl 3 rfl) ?_
        refine lv_iconst (v := 3) X.1 X.2.1 dL_law_764 (by decide) ?_
        refine lv_iadd X.1 X.2.1 dL_law_765 ?_
        obtain ⟨h255, hf⟩ := b_ck hf
        refine va_sld X.1 X.2.1 hX hbl hbA hw.2 h255 dL_law_766 ?_
        refine lv_aload_n X.1 X.2.1 dL_law_767 rfl (lv_at hl 0 rfl) ?_
        refine lv_iload_n X.1 X.2.1 dL_law_768 rfl (lv_at hl 3 rfl) ?_
        refine lv_iconst (v := 4) X.1 X.2.1 dL_law_769 (by decide) ?_
        refine lv_iadd X.1 X.2.1 dL_law_770 ?_
        obtain ⟨h256, hf⟩ := b_ck hf
        refine va_sld X.1 X.2.1 hX hbl hbA hw.2 h256 dL_law_771 ?_
        obtain ⟨r258, σ259, h257, hf⟩ := b_bd2 hf
        refine r_callV X hw (k_X7_chance hE  h257) (sp0 hE) (C := RX7) (T := TX7) (N := 9) rfl qw792 qw793 qw794 qw67 qw795 okX7_chance ⟨rfl, rfl⟩ ⟨(Nat.le_of_ble_eq_true rfl), (Nat.le_of_ble_eq_true rfl)⟩ ⟨Nat.le_refl _, Nat.le_refl _⟩ rfl hl.1 (rest := []) rfl (Nat.le_of_ble_eq_true rfl) dL_law_772 (st1 := [.long r258]) rfl (fun H locs hw => ?_)
        refine lv_aload_n X.1 X.2.1 dL_law_775 rfl (lv_at hl 2 rfl) ?_
        refine lv_aload_n X.1 X.2.1 dL_law_776 rfl (lv_at hl 0 rfl) ?_
        refine lv_iload_n X.1 X.2.1 dL_law_777 rfl (lv_at hl 3 rfl) ?_
        refine lv_iconst (v := 1) X.1 X.2.1 dL_law_778 (by decide) ?_
        refine lv_iadd X.1 X.2.1 dL_law_779 ?_
        obtain ⟨h260, hf⟩ := b_ck hf
        refine va_sld X.1 X.2.1 hX hbl hbA hw.2 h260 dL_law_780 ?_
        refine lv_aload_n X.1 X.2.1 dL_law_781 rfl (lv_at hl 0 rfl) ?_
        refine lv_iload_n X.1 X.2.1 dL_law_782 rfl (lv_at hl 3 rfl) ?_
        refine lv_iconst (v := 2) X.1 X.2.1 dL_law_783 (by decide) ?_
        refine lv_iadd X.1 X.2.1 dL_law_784 ?_
        obtain ⟨h261, hf⟩ := b_ck hf
        refine va_sld X.1 X.2.1 hX hbl hbA hw.2 h261 dL_law_785 ?_
        refine lv_aload_n X.1 X.2.1 dL_law_786 rfl (lv_at hl 0 rfl) ?_
        refine lv_iload_n X.1 X.2.1 dL_law_787 rfl (lv_at hl 3 rfl) ?_
        refine lv_iconst (v := 3) X.1 X.2.1 dL_law_788 (by decide) ?_
        refine lv_iadd X.1 X.2.1 dL_law_789 ?_
        obtain ⟨h262, hf⟩ := b_ck hf
        refine va_sld X.1 X.2.1 hX hbl hbA hw.2 h262 dL_law_790 ?_
        refine lv_aload_n X.1 X.2.1 dL_law_791 rfl (lv_at hl 0 rfl) ?_
        refine lv_iload_n X.1 X.2.1 dL_law_792 rfl (lv_at hl 3 rfl) ?_
        refine lv_iconst (v := 4) X.1 X.2.1 dL_law_793 (by decide) ?_
        refine lv_iadd X.1 X.2.1 dL_law_794 ?_
        obtain ⟨h263, hf⟩ := b_ck hf
        refine va_sld X.1 X.2.1 hX hbl hbA hw.2 h263 dL_law_795 ?_
        obtain ⟨r265, σ266, h264, hf⟩ := b_bd2 hf
        refine r_callV X hw (k_X8_chance hE  h264) (sp69 hE) (C := RX8) (T := TX8) (N := 31) rfl qw1230 qw1231 qw1232 qw79 qw1233 okX8_chance ⟨rfl, rfl⟩ ⟨(Nat.le_of_ble_eq_true rfl), (Nat.le_of_ble_eq_true rfl)⟩ ⟨Nat.le_refl _, Nat.le_refl _⟩ rfl hl.1 (rest := [.long r258]) rfl (Nat.le_of_ble_eq_true rfl) dL_law_796 (st1 := [.long r265, .long r258]) rfl (fun H locs hw => ?_)
        refine W.lcmp X.1 X.2.1 dL_law_799 ?_
        refine lv_if_eq (tgt := 1089) X.1 X.2.1 dL_law_800 (by decide) (fun c267 => ?_) (fun c267 => ?_)
        · have hf := if_t hf c267
          obtain ⟨v268, e269, hf⟩ := b_bnd hf
          refine lv_iinc (v := v268) (k := 3) (lv' := [(3, .int v268), (0, .ref b), (1, .ref (eP E 0)), (2, .ref (eP E 69))]) X.1 X.2.1 dL_law_1089 hl rfl (by rw [e269]; exact congrArg _ (by decide)) (by decide) rfl (fun ls hl => ?_)
          refine lv_goto (tgt := 18) X.1 X.2.1 dL_law_1092 (by decide) ?_
          obtain rfl := Option.some.inj hf
          exact ih _ _ (hr1 _ rfl) _ _ _ hw (lv_sub hl [1, 2, 3, 0] rfl)
        · have hf := if_e hf c267
          refine lv_iconst (v := 0) X.1 X.2.1 dL_law_803 (by decide) ?_
          obtain rfl := Option.some.inj hf
          obtain rfl := hr2 _ rfl
          exact absurd hres (by decide)
      have hf := if_e hf c252
      by_cases c270 : v3 = 19
      · have hf := if_t hf c270
        refine lv_tableIn (x := v3) (tgt := 805) (off := 772) X.1 X.2.1 dL_law_33 (by rw [c270]; decide) (by rw [c270]; decide) (by rw [c270]; decide) (by decide) ?_
        refine lv_aload_n X.1 X.2.1 dL_law_805 rfl (lv_at hl 1 rfl) ?_
        obtain ⟨r272, σ273, h271, hf⟩ := b_bd2 hf
        refine r_callV X hw (k_X7_image hE  h271) (sp0 hE) (C := RX7) (T := TX7) (N := 9) rfl qw796 qw797 qw798 qw67 qw799 okX7_image ⟨rfl, rfl⟩ ⟨(Nat.le_of_ble_eq_true rfl), (Nat.le_of_ble_eq_true rfl)⟩ ⟨Nat.le_refl _, Nat.le_refl _⟩ rfl hl.1 (rest := []) rfl (Nat.le_of_ble_eq_true rfl) dL_law_806 (st1 := [.int r272]) rfl (fun H locs hw => ?_)
        refine lv_aload_n X.1 X.2.1 dL_law_809 rfl (lv_at hl 2 rfl) ?_
        obtain ⟨r275, σ276, h274, hf⟩ := b_bd2 hf
        refine r_callV X hw (k_X8_image hE  h274) (sp69 hE) (C := RX8) (T := TX8) (N := 31) rfl qw1235 qw1236 qw1237 qw79 qw1238 okX8_image ⟨rfl, rfl⟩ ⟨(Nat.le_of_ble_eq_true rfl), (Nat.le_of_ble_eq_true rfl)⟩ ⟨Nat.le_refl _, Nat.le_refl _⟩ rfl hl.1 (rest := [.int r272]) rfl (Nat.le_of_ble_eq_true rfl) dL_law_810 (st1 := [.int r275, .int r272]) rfl (fun H locs hw => ?_)
        refine lv_icmp_eq (tgt := 1089) X.1 X.2.1 dL_law_813 (by decide) (fun c277 => ?_) (fun c277 => ?_)
        · have hf := if_t hf c277
          obtain ⟨v278, e279, hf⟩ := b_bnd hf
          refine lv_iinc (v := v278) (k := 3) (lv' := [(3, .int v278), (0, .ref b), (1, .ref (eP E 0)), (2, .ref (eP E 69))]) X.1 X.2.1 dL_law_1089 hl rfl (by rw [e279]; exact congrArg _ (by decide)) (by decide) rfl (fun ls hl => ?_)
          refine lv_goto (tgt := 18) X.1 X.2.1 dL_law_1092 (by decide) ?_
          obtain rfl := Option.some.inj hf
          exact ih _ _ (hr1 _ rfl) _ _ _ hw (lv_sub hl [1, 2, 3, 0] rfl)
        · have hf := if_e hf c277
          refine lv_iconst (v := 0) X.1 X.2.1 dL_law_816 (by decide) ?_
          obtain rfl := Option.some.inj hf
          obtain rfl := hr2 _ rfl
          exact absurd hres (by decide)
      have hf := if_e hf c270
      by_cases c280 : v3 = 20
      · have hf := if_t hf c280
        refine lv_tableIn (x := v3) (tgt := 818) (off := 785) X.1 X.2.1 dL_law_33 (by rw [c280]; decide) (by rw [c280]; decide) (by rw [c280]; decide) (by decide) ?_
        refine lv_aload_n X.1 X.2.1 dL_law_818 rfl (lv_at hl 1 rfl) ?_
        obtain ⟨r282, σ283, h281, hf⟩ := b_bd2 hf
        refine r_callV X hw (k_X7_back hE  h281) (sp0 hE) (C := RX7) (T := TX7) (N := 9) rfl qw800 qw801 qw802 qw67 qw803 okX7_back ⟨rfl, rfl⟩ ⟨(Nat.le_of_ble_eq_true rfl), (Nat.le_of_ble_eq_true rfl)⟩ ⟨Nat.le_refl _, Nat.le_refl _⟩ rfl hl.1 (rest := []) rfl (Nat.le_of_ble_eq_true rfl) dL_law_819 (st1 := [.int r282]) rfl (fun H locs hw => ?_)
        refine lv_aload_n X.1 X.2.1 dL_law_822 rfl (lv_at hl 2 rfl) ?_
        obtain ⟨r285, σ286, h284, hf⟩ := b_bd2 hf
        refine r_callV X hw (k_X8_back hE  h284) (sp69 hE) (C := RX8) (T := TX8) (N := 31) rfl qw1239 qw1240 qw1241 qw79 qw1242 okX8_back ⟨rfl, rfl⟩ ⟨(Nat.le_of_ble_eq_true rfl), (Nat.le_of_ble_eq_true rfl)⟩ ⟨Nat.le_refl _, Nat.le_refl _⟩ rfl hl.1 (rest := [.int r282]) rfl (Nat.le_of_ble_eq_true rfl) dL_law_823 (st1 := [.int r285, .int r282]) rfl (fun H locs hw => ?_)
        refine lv_icmp_eq (tgt := 1089) X.1 X.2.1 dL_law_826 (by decide) (fun c287 => ?_) (fun c287 => ?_)
        · have hf := if_t hf c287
          obtain ⟨v288, e289, hf⟩ := b_bnd hf
          refine lv_iinc (v := v288) (k := 3) (lv' := [(3, .int v288), (0, .ref b), (1, .ref (eP E 0)), (2, .ref (eP E 69))]) X.1 X.2.1 dL_law_1089 hl rfl (by rw [e289]; exact congrArg _ (by decide)) (by decide) rfl (fun ls hl => ?_)
          refine lv_goto (tgt := 18) X.1 X.2.1 dL_law_1092 (by decide) ?_
          obtain rfl := Option.some.inj hf
          exact ih _ _ (hr1 _ rfl) _ _ _ hw (lv_sub hl [1, 2, 3, 0] rfl)
        · have hf := if_e hf c287
          refine lv_iconst (v := 0) X.1 X.2.1 dL_law_829 (by decide) ?_
          obtain rfl := Option.some.inj hf
          obtain rfl := hr2 _ rfl
          exact absurd hres (by decide)
      have hf := if_e hf c280
      by_cases c290 : v3 = 21
      · have hf := if_t hf c290
        refine lv_tableIn (x := v3) (tgt := 831) (off := 798) X.1 X.2.1 dL_law_33 (by rw [c290]; decide) (by rw [c290]; decide) (by rw [c290]; decide) (by decide) ?_
        refine lv_aload_n X.1 X.2.1 dL_law_831 rfl (lv_at hl 1 rfl) ?_
        refine lv_aload_n X.1 X.2.1 dL_law_832 rfl (lv_at hl 0 rfl) ?_
        refine lv_iload_n X.1 X.2.1 dL_law_833 rfl (lv_at hl 3 rfl) ?_
        refine lv_iconst (v := 1) X.1 X.2.1 dL_law_834 (by decide) ?_
        refine lv_iadd X.1 X.2.1 dL_law_835 ?_
        obtain ⟨h291, hf⟩ := b_ck hf
        refine va_sld X.1 X.2.1 hX hbl hbA hw.2 h291 dL_law_836 ?_
        obtain ⟨r293, h292, hf⟩ := b_bd1 hf
        refine r_callV X hw (k_X7_count hE  h292) (sp0 hE) (C := RX7) (T := TX7) (N := 9) rfl qw804 qw805 qw806 qw67 qw807 okX7_count ⟨rfl, rfl⟩ ⟨(Nat.le_of_ble_eq_true rfl), (Nat.le_of_ble_eq_true rfl)⟩ ⟨Nat.le_refl _, Nat.le_refl _⟩ rfl hl.1 (rest := []) rfl (Nat.le_of_ble_eq_true rfl) dL_law_837 (st1 := [.int r293]) rfl (fun H locs hw => ?_)
        refine lv_aload_n X.1 X.2.1 dL_law_840 rfl (lv_at hl 2 rfl) ?_
        refine lv_aload_n X.1 X.2.1 dL_law_841 rfl (lv_at hl 0 rfl) ?_
        refine lv_iload_n X.1 X.2.1 dL_law_842 rfl (lv_at hl 3 rfl) ?_
        refine lv_iconst (v := 1) X.1 X.2.1 dL_law_843 (by decide) ?_
        refine lv_iadd X.1 X.2.1 dL_law_844 ?_
        obtain ⟨h294, hf⟩ := b_ck hf
        refine va_sld X.1 X.2.1 hX hbl hbA hw.2 h294 dL_law_845 ?_
        obtain ⟨r296, h295, hf⟩ := b_bd1 hf
        refine r_callV X hw (k_X8_count hE  h295) (sp69 hE) (C := RX8) (T := TX8) (N := 31) rfl qw1243 qw1244 qw1245 qw79 qw1246 okX8_count ⟨rfl, rfl⟩ ⟨(Nat.le_of_ble_eq_true rfl), (Nat.le_of_ble_eq_true rfl)⟩ ⟨Nat.le_refl _, Nat.le_refl _⟩ rfl hl.1 (rest := [.int r293]) rfl (Nat.le_of_ble_eq_true rfl) dL_law_846 (st1 := [.int r296, .int r293]) rfl (fun H locs hw => ?_)
        refine lv_icmp_eq (tgt := 1089) X.1 X.2.1 dL_law_849 (by decide) (fun c297 => ?_) (fun c297 => ?_)
        · have hf := if_t hf c297
          obtain ⟨v298, e299, hf⟩ := b_bnd hf
          refine lv_iinc (v := v298) (k := 3) (lv' := [(3, .int v298), (0, .ref b), (1, .ref (eP E 0)), (2, .ref (eP E 69))]) X.1 X.2.1 dL_law_1089 hl rfl (by rw [e299]; exact congrArg _ (by decide)) (by decide) rfl (fun ls hl => ?_)
          refine lv_goto (tgt := 18) X.1 X.2.1 dL_law_1092 (by decide) ?_
          obtain rfl := Option.some.inj hf
          exact ih _ _ (hr1 _ rfl) _ _ _ hw (lv_sub hl [1, 2, 3, 0] rfl)
        · have hf := if_e hf c297
          refine lv_iconst (v := 0) X.1 X.2.1 dL_law_852 (by decide) ?_
          obtain rfl := Option.some.inj hf
          obtain rfl := hr2 _ rfl
          exact absurd hres (by decide)
      have hf := if_e hf c290
      by_cases c300 : v3 = 22
      · have hf := if_t hf c300
        refine lv_tableIn (x := v3) (tgt := 854) (off := 821) X.1 X.2.1 dL_law_33 (by rw [c300]; decide) (by rw [c300]; decide) (by rw [c300]; decide) (by decide) ?_
        refine lv_aload_n X.1 X.2.1 dL_law_854 rfl (lv_at hl 1 rfl) ?_
        refine lv_aload_n X.1 X.2.1 dL_law_855 rfl (lv_at hl 0 rfl) ?_
        refine lv_iload_n X.1 X.2.1 dL_law_856 rfl (lv_at hl 3 rfl) ?_
        refine lv_iconst (v := 1) X.1 X.2.1 dL_law_857 (by decide) ?_
        refine lv_iadd X.1 X.2.1 dL_law_858 ?_
        obtain ⟨h301, hf⟩ := b_ck hf
        refine va_sld X.1 X.2.1 hX hbl hbA hw.2 h301 dL_law_859 ?_
        refine lv_aload_n X.1 X.2.1 dL_law_860 rfl (lv_at hl 0 rfl) ?_
        refine lv_iload_n X.1 X.2.1 dL_law_861 rfl (lv_at hl 3 rfl) ?_
        refine lv_iconst (v := 2) X.1 X.2.1 dL_law_862 (by decide) ?_
        refine lv_iadd X.1 X.2.1 dL_law_863 ?_
        obtain ⟨h302, hf⟩ := b_ck hf
        refine va_sld X.1 X.2.1 hX hbl hbA hw.2 h302 dL_law_864 ?_
        refine lv_aload_n X.1 X.2.1 dL_law_865 rfl (lv_at hl 0 rfl) ?_
        refine lv_iload_n X.1 X.2.1 dL_law_866 rfl (lv_at hl 3 rfl) ?_
        refine lv_iconst (v := 3) X.1 X.2.1 dL_law_867 (by decide) ?_
        refine lv_iadd X.1 X.2.1 dL_law_868 ?_
        obtain ⟨h303, hf⟩ := b_ck hf
        refine va_sld X.1 X.2.1 hX hbl hbA hw.2 h303 dL_law_869 ?_
        obtain ⟨r305, σ306, h304, hf⟩ := b_bd2 hf
        refine r_callV X hw (k_X7_sheet hE  h304) (sp0 hE) (C := RX7) (T := TX7) (N := 9) rfl qw814 qw815 qw816 qw67 qw817 okX7_sheet ⟨rfl, rfl⟩ ⟨(Nat.le_of_ble_eq_true rfl), (Nat.le_of_ble_eq_true rfl)⟩ ⟨Nat.le_refl _, Nat.le_refl _⟩ rfl hl.1 (rest := []) rfl (Nat.le_of_ble_eq_true rfl) dL_law_870 (st1 := [.int r305]) rfl (fun H locs hw => ?_)
        refine lv_aload_n X.1 X.2.1 dL_law_873 rfl (lv_at hl 2 rfl) ?_
        refine lv_aload_n X.1 X.2.1 dL_law_874 rfl (lv_at hl 0 rfl) ?_
        refine lv_iload_n X.1 X.2.1 dL_law_875 rfl (lv_at hl 3 rfl) ?_
        refine lv_iconst (v := 1) X.1 X.2.1 dL_law_876 (by decide) ?_
        refine lv_iadd X.1 X.2.1 dL_law_877 ?_
        obtain ⟨h307, hf⟩ := b_ck hf
        refine va_sld X.1 X.2.1 hX hbl hbA hw.2 h307 dL_law_878 ?_
        refine lv_aload_n X.1 X.2.1 dL_law_879 rfl (lv_at hl 0 rfl) ?_
        refine lv_iload_n X.1 X.2.1 dL_law_880 rfl (lv_at hl 3 rfl) ?_
        refine lv_iconst (v := 2) X.1 X.2.1 dL_law_881 (by decide) ?_
        refine lv_iadd X.1 X.2.1 dL_law_882 ?_
        obtain ⟨h308, hf⟩ := b_ck hf
        refine va_sld X.1 X.2.1 hX hbl hbA hw.2 h308 dL_law_883 ?_
        refine lv_aload_n X.1 X.2.1 dL_law_884 rfl (lv_at hl 0 rfl) ?_
        refine lv_iload_n X.1 X.2.1 dL_law_885 rfl (lv_at hl 3 rfl) ?_
        refine lv_iconst (v := 3) X.1 X.2.1 dL_law_886 (by decide) ?_
        refine lv_iadd X.1 X.2.1 dL_law_887 ?_
        obtain ⟨h309, hf⟩ := b_ck hf
        refine va_sld X.1 X.2.1 hX hbl hbA hw.2 h309 dL_law_888 ?_
        obtain ⟨r311, σ312, h310, hf⟩ := b_bd2 hf
        refine r_callV X hw (k_X8_sheet hE  h310) (sp69 hE) (C := RX8) (T := TX8) (N := 31) rfl qw1180 qw1181 qw1182 qw79 qw1183 okX8_sheet ⟨rfl, rfl⟩ ⟨(Nat.le_of_ble_eq_true rfl), (Nat.le_of_ble_eq_true rfl)⟩ ⟨Nat.le_refl _, Nat.le_refl _⟩ rfl hl.1 (rest := [.int r305]) rfl (Nat.le_of_ble_eq_true rfl) dL_law_889 (st1 := [.int r311, .int r305]) rfl (fun H locs hw => ?_)
        refine lv_icmp_eq (tgt := 1089) X.1 X.2.1 dL_law_892 (by decide) (fun c313 => ?_) (fun c313 => ?_)
        · have hf := if_t hf c313
          obtain ⟨v314, e315, hf⟩ := b_bnd hf
          refine lv_iinc (v := v314) (k := 3) (lv' := [(3, .int v314), (0, .ref b), (1, .ref (eP E 0)), (2, .ref (eP E 69))]) X.1 X.2.1 dL_law_1089 hl rfl (by rw [e315]; exact congrArg _ (by decide)) (by decide) rfl (fun ls hl => ?_)
          refine lv_goto (tgt := 18) X.1 X.2.1 dL_law_1092 (by decide) ?_
          obtain rfl := Option.some.inj hf
          exact ih _ _ (hr1 _ rfl) _ _ _ hw (lv_sub hl [1, 2, 3, 0] rfl)
        · have hf := if_e hf c313
          refine lv_iconst (v := 0) X.1 X.2.1 dL_law_895 (by decide) ?_
          obtain rfl := Option.some.inj hf
          obtain rfl := hr2 _ rfl
          exact absurd hres (by decide)
      have hf := if_e hf c300
      by_cases c316 : v3 = 23
      · have hf := if_t hf c316
        refine lv_tableIn (x := v3) (tgt := 897) (off := 864) X.1 X.2.1 dL_law_33 (by rw [c316]; decide) (by rw [c316]; decide) (by rw [c316]; decide) (by decide) ?_
        refine lv_aload_n X.1 X.2.1 dL_law_897 rfl (lv_at hl 1 rfl) ?_
        refine lv_aload_n X.1 X.2.1 dL_law_898 rfl (lv_at hl 0 rfl) ?_
        refine lv_iload_n X.1 X.2.1 dL_law_899 rfl (lv_at hl 3 rfl) ?_
        refine lv_iconst (v := 1) X.1 X.2.1 dL_law_900 (by decide) ?_
        refine lv_iadd X.1 X.2.1 dL_law_901 ?_
        obtain ⟨h317, hf⟩ := b_ck hf
        refine va_sld X.1 X.2.1 hX hbl hbA hw.2 h317 dL_law_902 ?_
        refine lv_aload_n X.1 X.2.1 dL_law_903 rfl (lv_at hl 0 rfl) ?_
        refine lv_iload_n X.1 X.2.1 dL_law_904 rfl (lv_at hl 3 rfl) ?_
        refine lv_iconst (v := 2) X.1 X.2.1 dL_law_905 (by decide) ?_
        refine lv_iadd X.1 X.2.1 dL_law_906 ?_
        obtain ⟨h318, hf⟩ := b_ck hf
        refine va_sld X.1 X.2.1 hX hbl hbA hw.2 h318 dL_law_907 ?_
        refine lv_aload_n X.1 X.2.1 dL_law_908 rfl (lv_at hl 0 rfl) ?_
        refine lv_iload_n X.1 X.2.1 dL_law_909 rfl (lv_at hl 3 rfl) ?_
        refine lv_iconst (v := 3) X.1 X.2.1 dL_law_910 (by decide) ?_
        refine lv_iadd X.1 X.2.1 dL_law_911 ?_
        obtain ⟨h319, hf⟩ := b_ck hf
        refine va_sld X.1 X.2.1 hX hbl hbA hw.2 h319 dL_law_912 ?_
        obtain ⟨r321, σ322, h320, hf⟩ := b_bd2 hf
        refine r_callV X hw (k_X7_cell hE  h320) (sp0 hE) (C := RX7) (T := TX7) (N := 9) rfl qw821 qw822 qw823 qw67 qw824 okX7_cell ⟨rfl, rfl⟩ ⟨(Nat.le_of_ble_eq_true rfl), (Nat.le_of_ble_eq_true rfl)⟩ ⟨Nat.le_refl _, Nat.le_refl _⟩ rfl hl.1 (rest := []) rfl (Nat.le_of_ble_eq_true rfl) dL_law_913 (st1 := [.int r321]) rfl (fun H locs hw => ?_)
        refine lv_aload_n X.1 X.2.1 dL_law_916 rfl (lv_at hl 2 rfl) ?_
        refine lv_aload_n X.1 X.2.1 dL_law_917 rfl (lv_at hl 0 rfl) ?_
        refine lv_iload_n X.1 X.2.1 dL_law_918 rfl (lv_at hl 3 rfl) ?_
        refine lv_iconst (v := 1) X.1 X.2.1 dL_law_919 (by decide) ?_
        refine lv_iadd X.1 X.2.1 dL_law_920 ?_
        obtain ⟨h323, hf⟩ := b_ck hf
        refine va_sld X.1 X.2.1 hX hbl hbA hw.2 h323 dL_law_921 ?_
        refine lv_aload_n X.1 X.2.1 dL_law_922 rfl (lv_at hl 0 rfl) ?_
        refine lv_iload_n X.1 X.2.1 dL_law_923 rfl (lv_at hl 3 rfl) ?_
        refine lv_iconst (v := 2) X.1 X.2.1 dL_law_924 (by decide) ?_
        refine lv_iadd X.1 X.2.1 dL_law_925 ?_
        obtain ⟨h324, hf⟩ := b_ck hf
        refine va_sld X.1 X.2.1 hX hbl hbA hw.2 h324 dL_law_926 ?_
        refine lv_aload_n X.1 X.2.1 dL_law_927 rfl (lv_at hl 0 rfl) ?_
        refine lv_iload_n X.1 X.2.1 dL_law_928 rfl (lv_at hl 3 rfl) ?_
        refine lv_iconst (v := 3) X.1 X.2.1 dL_law_929 (by decide) ?_
        refine lv_iadd X.1 X.2.1 dL_law_930 ?_
        obtain ⟨h325, hf⟩ := b_ck hf
        refine va_sld X.1 X.2.1 hX hbl hbA hw.2 h325 dL_law_931 ?_
        obtain ⟨r327, σ328, h326, hf⟩ := b_bd2 hf
        refine r_callV X hw (k_X8_cell hE  h326) (sp69 hE) (C := RX8) (T := TX8) (N := 31) rfl qw1187 qw1188 qw1189 qw79 qw1190 okX8_cell ⟨rfl, rfl⟩ ⟨(Nat.le_of_ble_eq_true rfl), (Nat.le_of_ble_eq_true rfl)⟩ ⟨Nat.le_refl _, Nat.le_refl _⟩ rfl hl.1 (rest := [.int r321]) rfl (Nat.le_of_ble_eq_true rfl) dL_law_932 (st1 := [.int r327, .int r321]) rfl (fun H locs hw => ?_)
        refine lv_icmp_eq (tgt := 1089) X.1 X.2.1 dL_law_935 (by decide) (fun c329 => ?_) (fun c329 => ?_)
        · have hf := if_t hf c329
          obtain ⟨v330, e331, hf⟩ := b_bnd hf
          refine lv_iinc (v := v330) (k := 3) (lv' := [(3, .int v330), (0, .ref b), (1, .ref (eP E 0)), (2, .ref (eP E 69))]) X.1 X.2.1 dL_law_1089 hl rfl (by rw [e331]; exact congrArg _ (by decide)) (by decide) rfl (fun ls hl => ?_)
          refine lv_goto (tgt := 18) X.1 X.2.1 dL_law_1092 (by decide) ?_
          obtain rfl := Option.some.inj hf
          exact ih _ _ (hr1 _ rfl) _ _ _ hw (lv_sub hl [1, 2, 3, 0] rfl)
        · have hf := if_e hf c329
          refine lv_iconst (v := 0) X.1 X.2.1 dL_law_938 (by decide) ?_
          obtain rfl := Option.some.inj hf
          obtain rfl := hr2 _ rfl
          exact absurd hres (by decide)
      have hf := if_e hf c316
      by_cases c332 : v3 = 24
      · have hf := if_t hf c332
        refine lv_tableIn (x := v3) (tgt := 940) (off := 907) X.1 X.2.1 dL_law_33 (by rw [c332]; decide) (by rw [c332]; decide) (by rw [c332]; decide) (by decide) ?_
        refine lv_aload_n X.1 X.2.1 dL_law_940 rfl (lv_at hl 1 rfl) ?_
        refine lv_aload_n X.1 X.2.1 dL_law_941 rfl (lv_at hl 0 rfl) ?_
        refine lv_iload_n X.1 X.2.1 dL_law_942 rfl (lv_at hl 3 rfl) ?_
        refine lv_iconst (v := 1) X.1 X.2.1 dL_law_943 (by decide) ?_
        refine lv_iadd X.1 X.2.1 dL_law_944 ?_
        obtain ⟨h333, hf⟩ := b_ck hf
        refine va_sld X.1 X.2.1 hX hbl hbA hw.2 h333 dL_law_945 ?_
        refine lv_aload_n X.1 X.2.1 dL_law_946 rfl (lv_at hl 0 rfl) ?_
        refine lv_iload_n X.1 X.2.1 dL_law_947 rfl (lv_at hl 3 rfl) ?_
        refine lv_iconst (v := 2) X.1 X.2.1 dL_law_948 (by decide) ?_
        refine lv_iadd X.1 X.2.1 dL_law_949 ?_
        obtain ⟨h334, hf⟩ := b_ck hf
        refine va_sld X.1 X.2.1 hX hbl hbA hw.2 h334 dL_law_950 ?_
        refine lv_aload_n X.1 X.2.1 dL_law_951 rfl (lv_at hl 0 rfl) ?_
        refine lv_iload_n X.1 X.2.1 dL_law_952 rfl (lv_at hl 3 rfl) ?_
        refine lv_iconst (v := 3) X.1 X.2.1 dL_law_953 (by decide) ?_
        refine lv_iadd X.1 X.2.1 dL_law_954 ?_
        obtain ⟨h335, hf⟩ := b_ck hf
        refine va_sld X.1 X.2.1 hX hbl hbA hw.2 h335 dL_law_955 ?_
        refine lv_aload_n X.1 X.2.1 dL_law_956 rfl (lv_at hl 0 rfl) ?_
        refine lv_iload_n X.1 X.2.1 dL_law_957 rfl (lv_at hl 3 rfl) ?_
        refine lv_iconst (v := 4) X.1 X.2.1 dL_law_958 (by decide) ?_
        refine lv_iadd X.1 X.2.1 dL_law_959 ?_
        obtain ⟨h336, hf⟩ := b_ck hf
        refine va_sld X.1 X.2.1 hX hbl hbA hw.2 h336 dL_law_960 ?_
        refine lv_aload_n X.1 X.2.1 dL_law_961 rfl (lv_at hl 0 rfl) ?_
        refine lv_iload_n X.1 X.2.1 dL_law_962 rfl (lv_at hl 3 rfl) ?_
        refine lv_iconst (v := 5) X.1 X.2.1 dL_law_963 (by decide) ?_
        refine lv_iadd X.1 X.2.1 dL_law_964 ?_
        obtain ⟨h337, hf⟩ := b_ck hf
        refine va_sld X.1 X.2.1 hX hbl hbA hw.2 h337 dL_law_965 ?_
        obtain ⟨r339, σ340, h338, hf⟩ := b_bd2 hf
        refine r_callV X hw (k_X7_copy hE  h338) (sp0 hE) (C := RX7) (T := TX7) (N := 9) rfl qw829 qw830 qw831 qw67 qw832 okX7_copy ⟨rfl, rfl⟩ ⟨(Nat.le_of_ble_eq_true rfl), (Nat.le_of_ble_eq_true rfl)⟩ ⟨Nat.le_refl _, Nat.le_refl _⟩ rfl hl.1 (rest := []) rfl (Nat.le_of_ble_eq_true rfl) dL_law_966 (st1 := [.int r339]) rfl (fun H locs hw => ?_)
        refine lv_aload_n X.1 X.2.1 dL_law_969 rfl (lv_at hl 2 rfl) ?_
        refine lv_aload_n X.1 X.2.1 dL_law_970 rfl (lv_at hl 0 rfl) ?_
        refine lv_iload_n X.1 X.2.1 dL_law_971 rfl (lv_at hl 3 rfl) ?_
        refine lv_iconst (v := 1) X.1 X.2.1 dL_law_972 (by decide) ?_
        refine lv_iadd X.1 X.2.1 dL_law_973 ?_
        obtain ⟨h341, hf⟩ := b_ck hf
        refine va_sld X.1 X.2.1 hX hbl hbA hw.2 h341 dL_law_974 ?_
        refine lv_aload_n X.1 X.2.1 dL_law_975 rfl (lv_at hl 0 rfl) ?_
        refine lv_iload_n X.1 X.2.1 dL_law_976 rfl (lv_at hl 3 rfl) ?_
        refine lv_iconst (v := 2) X.1 X.2.1 dL_law_977 (by decide) ?_
        refine lv_iadd X.1 X.2.1 dL_law_978 ?_
        obtain ⟨h342, hf⟩ := b_ck hf
        refine va_sld X.1 X.2.1 hX hbl hbA hw.2 h342 dL_law_979 ?_
        refine lv_aload_n X.1 X.2.1 dL_law_980 rfl (lv_at hl 0 rfl) ?_
        refine lv_iload_n X.1 X.2.1 dL_law_981 rfl (lv_at hl 3 rfl) ?_
        refine lv_iconst (v := 3) X.1 X.2.1 dL_law_982 (by decide) ?_
        refine lv_iadd X.1 X.2.1 dL_law_983 ?_
        obtain ⟨h343, hf⟩ := b_ck hf
        refine va_sld X.1 X.2.1 hX hbl hbA hw.2 h343 dL_law_984 ?_
        refine lv_aload_n X.1 X.2.1 dL_law_985 rfl (lv_at hl 0 rfl) ?_
        refine lv_iload_n X.1 X.2.1 dL_law_986 rfl (lv_at hl 3 rfl) ?_
        refine lv_iconst (v := 4) X.1 X.2.1 dL_law_987 (by decide) ?_
        refine lv_iadd X.1 X.2.1 dL_law_988 ?_
        obtain ⟨h344, hf⟩ := b_ck hf
        refine va_sld X.1 X.2.1 hX hbl hbA hw.2 h344 dL_law_989 ?_
        refine lv_aload_n X.1 X.2.1 dL_law_990 rfl (lv_at hl 0 rfl) ?_
        refine lv_iload_n X.1 X.2.1 dL_law_991 rfl (lv_at hl 3 rfl) ?_
        refine lv_iconst (v := 5) X.1 X.2.1 dL_law_992 (by decide) ?_
        refine lv_iadd X.1 X.2.1 dL_law_993 ?_
        obtain ⟨h345, hf⟩ := b_ck hf
        refine va_sld X.1 X.2.1 hX hbl hbA hw.2 h345 dL_law_994 ?_
        obtain ⟨r347, σ348, h346, hf⟩ := b_bd2 hf
        refine r_callV X hw (k_X8_copy hE  h346) (sp69 hE) (C := RX8) (T := TX8) (N := 31) rfl qw1191 qw1192 qw1193 qw79 qw1194 okX8_copy ⟨rfl, rfl⟩ ⟨(Nat.le_of_ble_eq_true rfl), (Nat.le_of_ble_eq_true rfl)⟩ ⟨Nat.le_refl _, Nat.le_refl _⟩ rfl hl.1 (rest := [.int r339]) rfl (Nat.le_of_ble_eq_true rfl) dL_law_995 (st1 := [.int r347, .int r339]) rfl (fun H locs hw => ?_)
        refine lv_icmp_eq (tgt := 1089) X.1 X.2.1 dL_law_998 (by decide) (fun c349 => ?_) (fun c349 => ?_)
        · have hf := if_t hf c349
          obtain ⟨v350, e351, hf⟩ := b_bnd hf
          refine lv_iinc (v := v350) (k := 3) (lv' := [(3, .int v350), (0, .ref b), (1, .ref (eP E 0)), (2, .ref (eP E 69))]) X.1 X.2.1 dL_law_1089 hl rfl (by rw [e351]; exact congrArg _ (by decide)) (by decide) rfl (fun ls hl => ?_)
          refine lv_goto (tgt := 18) X.1 X.2.1 dL_law_1092 (by decide) ?_
          obtain rfl := Option.some.inj hf
          exact ih _ _ (hr1 _ rfl) _ _ _ hw (lv_sub hl [1, 2, 3, 0] rfl)
        · have hf := if_e hf c349
          refine lv_iconst (v := 0) X.1 X.2.1 dL_law_1001 (by decide) ?_
          obtain rfl := Option.some.inj hf
          obtain rfl := hr2 _ rfl
          exact absurd hres (by decide)
      have hf := if_e hf c332
      by_cases c352 : v3 = 25
      · have hf := if_t hf c352
        refine lv_tableIn (x := v3) (tgt := 1003) (off := 970) X.1 X.2.1 dL_law_33 (by rw [c352]; decide) (by rw [c352]; decide) (by rw [c352]; decide) (by decide) ?_
        refine lv_aload_n X.1 X.2.1 dL_law_1003 rfl (lv_at hl 1 rfl) ?_
        refine lv_aload_n X.1 X.2.1 dL_law_1004 rfl (lv_at hl 0 rfl) ?_
        refine lv_iload_n X.1 X.2.1 dL_law_1005 rfl (lv_at hl 3 rfl) ?_
        refine lv_iconst (v := 1) X.1 X.2.1 dL_law_1006 (by decide) ?_
        refine lv_iadd X.1 X.2.1 dL_law_1007 ?_
        obtain ⟨h353, hf⟩ := b_ck hf
        refine va_sld X.1 X.2.1 hX hbl hbA hw.2 h353 dL_law_1008 ?_
        refine lv_aload_n X.1 X.2.1 dL_law_1009 rfl (lv_at hl 0 rfl) ?_
        refine lv_iload_n X.1 X.2.1 dL_law_1010 rfl (lv_at hl 3 rfl) ?_
        refine lv_iconst (v := 2) X.1 X.2.1 dL_law_1011 (by decide) ?_
        refine lv_iadd X.1 X.2.1 dL_law_1012 ?_
        obtain ⟨h354, hf⟩ := b_ck hf
        refine va_sld X.1 X.2.1 hX hbl hbA hw.2 h354 dL_law_1013 ?_
        refine lv_aload_n X.1 X.2.1 dL_law_1014 rfl (lv_at hl 0 rfl) ?_
        refine lv_iload_n X.1 X.2.1 dL_law_1015 rfl (lv_at hl 3 rfl) ?_
        refine lv_iconst (v := 3) X.1 X.2.1 dL_law_1016 (by decide) ?_
        refine lv_iadd X.1 X.2.1 dL_law_1017 ?_
        obtain ⟨h355, hf⟩ := b_ck hf
        refine va_sld X.1 X.2.1 hX hbl hbA hw.2 h355 dL_law_1018 ?_
        refine lv_aload_n X.1 X.2.1 dL_law_1019 rfl (lv_at hl 0 rfl) ?_
        refine lv_iload_n X.1 X.2.1 dL_law_1020 rfl (lv_at hl 3 rfl) ?_
        refine lv_iconst (v := 4) X.1 X.2.1 dL_law_1021 (by decide) ?_
        refine lv_iadd X.1 X.2.1 dL_law_1022 ?_
        obtain ⟨h356, hf⟩ := b_ck hf
        refine va_sld X.1 X.2.1 hX hbl hbA hw.2 h356 dL_law_1023 ?_
        obtain ⟨r358, σ359, h357, hf⟩ := b_bd2 hf
        refine r_callV X hw (k_X7_court hE  h357) (sp0 hE) (C := RX7) (T := TX7) (N := 9) rfl qw843 qw844 qw845 qw67 qw846 okX7_court ⟨rfl, rfl⟩ ⟨(Nat.le_of_ble_eq_true rfl), (Nat.le_of_ble_eq_true rfl)⟩ ⟨Nat.le_refl _, Nat.le_refl _⟩ rfl hl.1 (rest := []) rfl (Nat.le_of_ble_eq_true rfl) dL_law_1024 (st1 := [.int r358]) rfl (fun H locs hw => ?_)
        refine lv_aload_n X.1 X.2.1 dL_law_1027 rfl (lv_at hl 2 rfl) ?_
        refine lv_aload_n X.1 X.2.1 dL_law_1028 rfl (lv_at hl 0 rfl) ?_
        refine lv_iload_n X.1 X.2.1 dL_law_1029 rfl (lv_at hl 3 rfl) ?_
        refine lv_iconst (v := 1) X.1 X.2.1 dL_law_1030 (by decide) ?_
        refine lv_iadd X.1 X.2.1 dL_law_1031 ?_
        obtain ⟨h360, hf⟩ := b_ck hf
        refine va_sld X.1 X.2.1 hX hbl hbA hw.2 h360 dL_law_1032 ?_
        refine lv_aload_n X.1 X.2.1 dL_law_1033 rfl (lv_at hl 0 rfl) ?_
        refine lv_iload_n X.1 X.2.1 dL_law_1034 rfl (lv_at hl 3 rfl) ?_
        refine lv_iconst (v := 2) X.1 X.2.1 dL_law_1035 (by decide) ?_
        refine lv_iadd X.1 X.2.1 dL_law_1036 ?_
        obtain ⟨h361, hf⟩ := b_ck hf
        refine va_sld X.1 X.2.1 hX hbl hbA hw.2 h361 dL_law_1037 ?_
        refine lv_aload_n X.1 X.2.1 dL_law_1038 rfl (lv_at hl 0 rfl) ?_
        refine lv_iload_n X.1 X.2.1 dL_law_1039 rfl (lv_at hl 3 rfl) ?_
        refine lv_iconst (v := 3) X.1 X.2.1 dL_law_1040 (by decide) ?_
        refine lv_iadd X.1 X.2.1 dL_law_1041 ?_
        obtain ⟨h362, hf⟩ := b_ck hf
        refine va_sld X.1 X.2.1 hX hbl hbA hw.2 h362 dL_law_1042 ?_
        refine lv_aload_n X.1 X.2.1 dL_law_1043 rfl (lv_at hl 0 rfl) ?_
        refine lv_iload_n X.1 X.2.1 dL_law_1044 rfl (lv_at hl 3 rfl) ?_
        refine lv_iconst (v := 4) X.1 X.2.1 dL_law_1045 (by decide) ?_
        refine lv_iadd X.1 X.2.1 dL_law_1046 ?_
        obtain ⟨h363, hf⟩ := b_ck hf
        refine va_sld X.1 X.2.1 hX hbl hbA hw.2 h363 dL_law_1047 ?_
        obtain ⟨r365, σ366, h364, hf⟩ := b_bd2 hf
        refine r_callV X hw (k_X8_court hE  h364) (sp69 hE) (C := RX8) (T := TX8) (N := 31) rfl qw1195 qw1196 qw1197 qw79 qw1198 okX8_court ⟨rfl, rfl⟩ ⟨(Nat.le_of_ble_eq_true rfl), (Nat.le_of_ble_eq_true rfl)⟩ ⟨Nat.le_refl _, Nat.le_refl _⟩ rfl hl.1 (rest := [.int r358]) rfl (Nat.le_of_ble_eq_true rfl) dL_law_1048 (st1 := [.int r365, .int r358]) rfl (fun H locs hw => ?_)
        refine lv_icmp_eq (tgt := 1089) X.1 X.2.1 dL_law_1051 (by decide) (fun c367 => ?_) (fun c367 => ?_)
        · have hf := if_t hf c367
          obtain ⟨v368, e369, hf⟩ := b_bnd hf
          refine lv_iinc (v := v368) (k := 3) (lv' := [(3, .int v368), (0, .ref b), (1, .ref (eP E 0)), (2, .ref (eP E 69))]) X.1 X.2.1 dL_law_1089 hl rfl (by rw [e369]; exact congrArg _ (by decide)) (by decide) rfl (fun ls hl => ?_)
          refine lv_goto (tgt := 18) X.1 X.2.1 dL_law_1092 (by decide) ?_
          obtain rfl := Option.some.inj hf
          exact ih _ _ (hr1 _ rfl) _ _ _ hw (lv_sub hl [1, 2, 3, 0] rfl)
        · have hf := if_e hf c367
          refine lv_iconst (v := 0) X.1 X.2.1 dL_law_1054 (by decide) ?_
          obtain rfl := Option.some.inj hf
          obtain rfl := hr2 _ rfl
          exact absurd hres (by decide)
      have hf := if_e hf c352
      by_cases c370 : v3 = 26
      · have hf := if_t hf c370
        refine lv_tableIn (x := v3) (tgt := 1056) (off := 1023) X.1 X.2.1 dL_law_33 (by rw [c370]; decide) (by rw [c370]; decide) (by rw [c370]; decide) (by decide) ?_
        refine lv_aload_n X.1 X.2.1 dL_law_1056 rfl (lv_at hl 1 rfl) ?_
        refine lv_aload_n X.1 X.2.1 dL_law_1057 rfl (lv_at hl 0 rfl) ?_
        refine lv_iload_n X.1 X.2.1 dL_law_1058 rfl (lv_at hl 3 rfl) ?_
        refine lv_iconst (v := 1) X.1 X.2.1 dL_law_1059 (by decide) ?_
        refine lv_iadd X.1 X.2.1 dL_law_1060 ?_
        obtain ⟨h371, hf⟩ := b_ck hf
        refine va_sld X.1 X.2.1 hX hbl hbA hw.2 h371 dL_law_1061 ?_
        refine lv_aload_n X.1 X.2.1 dL_law_1062 rfl (lv_at hl 0 rfl) ?_
        refine lv_iload_n X.1 X.2.1 dL_law_1063 rfl (lv_at hl 3 rfl) ?_
        refine lv_iconst (v := 2) X.1 X.2.1 dL_law_1064 (by decide) ?_
        refine lv_iadd X.1 X.2.1 dL_law_1065 ?_
        obtain ⟨h372, hf⟩ := b_ck hf
        refine va_sld X.1 X.2.1 hX hbl hbA hw.2 h372 dL_law_1066 ?_
        obtain ⟨r374, h373, hf⟩ := b_bd1 hf
        refine r_callV X hw (k_X7_taken hE  h373) (sp0 hE) (C := RX7) (T := TX7) (N := 9) rfl qw847 qw848 qw849 qw67 qw850 okX7_taken ⟨rfl, rfl⟩ ⟨(Nat.le_of_ble_eq_true rfl), (Nat.le_of_ble_eq_true rfl)⟩ ⟨Nat.le_refl _, Nat.le_refl _⟩ rfl hl.1 (rest := []) rfl (Nat.le_of_ble_eq_true rfl) dL_law_1067 (st1 := [.int r374]) rfl (fun H locs hw => ?_)
        refine lv_aload_n X.1 X.2.1 dL_law_1070 rfl (lv_at hl 2 rfl) ?_
        refine lv_aload_n X.1 X.2.1 dL_law_1071 rfl (lv_at hl 0 rfl) ?_
        refine lv_iload_n X.1 X.2.1 dL_law_1072 rfl (lv_at hl 3 rfl) ?_
        refine lv_iconst (v := 1) X.1 X.2.1 dL_law_1073 (by decide) ?_
        refine lv_iadd X.1 X.2.1 dL_law_1074 ?_
        obtain ⟨h375, hf⟩ := b_ck hf
        refine va_sld X.1 X.2.1 hX hbl hbA hw.2 h375 dL_law_1075 ?_
        refine lv_aload_n X.1 X.2.1 dL_law_1076 rfl (lv_at hl 0 rfl) ?_
        refine lv_iload_n X.1 X.2.1 dL_law_1077 rfl (lv_at hl 3 rfl) ?_
        refine lv_iconst (v := 2) X.1 X.2.1 dL_law_1078 (by decide) ?_
        refine lv_iadd X.1 X.2.1 dL_law_1079 ?_
        obtain ⟨h376, hf⟩ := b_ck hf
        refine va_sld X.1 X.2.1 hX hbl hbA hw.2 h376 dL_law_1080 ?_
        obtain ⟨r378, h377, hf⟩ := b_bd1 hf
        refine r_callV X hw (k_X8_taken hE  h377) (sp69 hE) (C := RX8) (T := TX8) (N := 31) rfl qw1200 qw1201 qw1202 qw79 qw1203 okX8_taken ⟨rfl, rfl⟩ ⟨(Nat.le_of_ble_eq_true rfl), (Nat.le_of_ble_eq_true rfl)⟩ ⟨Nat.le_refl _, Nat.le_refl _⟩ rfl hl.1 (rest := [.int r374]) rfl (Nat.le_of_ble_eq_true rfl) dL_law_1081 (st1 := [.int r378, .int r374]) rfl (fun H locs hw => ?_)
        refine lv_icmp_eq (tgt := 1089) X.1 X.2.1 dL_law_1084 (by decide) (fun c379 => ?_) (fun c379 => ?_)
        · have hf := if_t hf c379
          obtain ⟨v380, e381, hf⟩ := b_bnd hf
          refine lv_iinc (v := v380) (k := 3) (lv' := [(3, .int v380), (0, .ref b), (1, .ref (eP E 0)), (2, .ref (eP E 69))]) X.1 X.2.1 dL_law_1089 hl rfl (by rw [e381]; exact congrArg _ (by decide)) (by decide) rfl (fun ls hl => ?_)
          refine lv_goto (tgt := 18) X.1 X.2.1 dL_law_1092 (by decide) ?_
          obtain rfl := Option.some.inj hf
          exact ih _ _ (hr1 _ rfl) _ _ _ hw (lv_sub hl [1, 2, 3, 0] rfl)
        · have hf := if_e hf c379
          refine lv_iconst (v := 0) X.1 X.2.1 dL_law_1087 (by decide) ?_
          obtain rfl := Option.some.inj hf
          obtain rfl := hr2 _ rfl
          exact absurd hres (by decide)
      have hf := if_e hf c370
      have c4t := lv_neT (a := 0) c4 (by decide)
      have c20t := lv_neT (a := 1) c20 (by decide)
      have c36t := lv_neT (a := 2) c36 (by decide)
      have c50t := lv_neT (a := 3) c50 (by decide)
      have c66t := lv_neT (a := 4) c66 (by decide)
      have c80t := lv_neT (a := 5) c80 (by decide)
      have c92t := lv_neT (a := 6) c92 (by decide)
      have c102t := lv_neT (a := 7) c102 (by decide)
      have c114t := lv_neT (a := 8) c114 (by decide)
      have c124t := lv_neT (a := 9) c124 (by decide)
      have c140t := lv_neT (a := 10) c140 (by decide)
      have c150t := lv_neT (a := 11) c150 (by decide)
      have c162t := lv_neT (a := 12) c162 (by decide)
      have c178t := lv_neT (a := 13) c178 (by decide)
      have c194t := lv_neT (a := 14) c194 (by decide)
      have c204t := lv_neT (a := 15) c204 (by decide)
      have c222t := lv_neT (a := 16) c222 (by decide)
      have c238t := lv_neT (a := 17) c238 (by decide)
      have c252t := lv_neT (a := 18) c252 (by decide)
      have c270t := lv_neT (a := 19) c270 (by decide)
      have c280t := lv_neT (a := 20) c280 (by decide)
      have c290t := lv_neT (a := 21) c290 (by decide)
      have c300t := lv_neT (a := 22) c300 (by decide)
      have c316t := lv_neT (a := 23) c316 (by decide)
      have c332t := lv_neT (a := 24) c332 (by decide)
      have c352t := lv_neT (a := 25) c352 (by decide)
      have c370t := lv_neT (a := 26) c370 (by decide)
      refine lv_tableOut (x := v3) (tgt := 1089) X.1 X.2.1 dL_law_33 (by omega) (by decide) ?_
      obtain ⟨v382, e383, hf⟩ := b_bnd hf
      refine lv_iinc (v := v382) (k := 3) (lv' := [(3, .int v382), (0, .ref b), (1, .ref (eP E 0)), (2, .ref (eP E 69))]) X.1 X.2.1 dL_law_1089 hl rfl (by rw [e383]; exact congrArg _ (by decide)) (by decide) rfl (fun ls hl => ?_)
      refine lv_goto (tgt := 18) X.1 X.2.1 dL_law_1092 (by decide) ?_
      obtain rfl := Option.some.inj hf
      exact ih _ _ (hr1 _ rfl) _ _ _ hw (lv_sub hl [1, 2, 3, 0] rfl)
