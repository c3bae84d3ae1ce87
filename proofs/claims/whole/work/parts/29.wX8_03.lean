set_option maxHeartbeats 4000000 in
set_option maxRecDepth 100000 in
theorem w_X8_goDay_117 {p : Program} {l : Launch} {e : Env} {s : State} {m : MethodId} {args : Array Value} {below : List Frame} {meth : Method} {c : Code} {Q : State → Prop} {E : en_T} (X : Cx E p s m args meth c cX8_goDay 3 RX8 (some .int)) (hE : ShF E)   {res : Int32 × Int32 × sg_T} :
    ∀ (n : Nat) (w1 : Int32) (w2 : Int32) (σ : sg_T), itr (fun q => b_X8_goDay_117  q.1 q.2.1 q.2.2) n (w1, w2, σ) = some res → ∀ (H : Heap) (locs : List Loc) (ls : Array Slot), Hw E σ s H locs → lv_has ls 3 [(0, .ref (eP E 69)), (1, .int w1), (2, .int w2)] →
    (∀ (y1 : Int32) (y2 : Int32) (τ : sg_T), res = (y1, y2, τ) → ∀ (H : Heap) (locs : List Loc) (ls : Array Slot), Hw E τ s H locs → lv_has ls 3 [(0, .ref (eP E 69)), (1, .int y1), (2, .int y2)] → W p l e rm_X8_goDay s m args below meth c H locs 0 0 Q (F0 m 292 ls [])) →
    W p l e rm_X8_goDay s m args below meth c H locs 0 0 Q (F0 m 117 ls []) := by
  have hR : ShR E := hE.r
  intro n
  induction n with
  | zero =>
    intro w1 w2 σ hf0
    exact (itr_0 hf0).elim
  | succ n ih =>
    intro w1 w2 σ hf0 H locs ls hw hl K1
    obtain ⟨r0, hf, hr1, hr2⟩ := itr_s hf0
    have hf : b_X8_goDay_117  w1 w2 σ = some r0 := hf
    unfold b_X8_goDay_117 at hf
    refine lv_iload_n X.1 X.2.1 dX8_goDay_117 rfl (lv_at hl 2 rfl) ?_
    refine lv_aload_n X.1 X.2.1 dX8_goDay_118 rfl (lv_at hl 0 rfl) ?_
    obtain ⟨r73, h72, hf⟩ := b_bd1 hf
    refine r_callV X hw (k_X8_many hE  h72) (sp69 hE) (C := RX8) (T := TX8) (N := 31) rfl qw985 qw987 qw31 qw79 qw988 okX8_many ⟨rfl, rfl⟩ ⟨(Nat.le_of_ble_eq_true rfl), (Nat.le_of_ble_eq_true rfl)⟩ ⟨Nat.zero_le _, Nat.zero_le _⟩ rfl hl.1 (rest := [.int w2]) rfl (Nat.le_of_ble_eq_true rfl) dX8_goDay_119 (st1 := [.int r73, .int w2]) rfl (fun H locs hw => ?_)
    refine lv_icmp_ge (tgt := 292) X.1 X.2.1 dX8_goDay_122 (by decide) (fun c74 => ?_) (fun c74 => ?_)
    · have hf := if_t hf c74
      obtain rfl := Option.some.inj hf
      obtain rfl := hr2 _ rfl
      exact K1 _ _ _ rfl _ _ _ hw (lv_sub hl [0, 1, 2] rfl)
    · have hf := if_e hf c74
      refine lv_aload_n X.1 X.2.1 dX8_goDay_125 rfl (lv_at hl 0 rfl) ?_
      refine r_get X hw (sp69 hE) (C := RX8) (T := TX8) (N := 31) rfl iwX8 19 (by decide) (Nat.le_of_ble_eq_true rfl) qw885 (v := .ref (eP E 80)) rfl dX8_goDay_126 ?_
      refine lv_iload_n X.1 X.2.1 dX8_goDay_129 rfl (lv_at hl 2 rfl) ?_
      obtain ⟨h75, hf⟩ := b_ck hf
      refine r_iald X hw (sp80 hE) h75 dX8_goDay_130 ?_
      refine lv_iconst (v := (-1)) X.1 X.2.1 dX8_goDay_131 (by decide) ?_
      refine lv_icmp_ne (tgt := 176) X.1 X.2.1 dX8_goDay_132 (by decide) (fun c76 => ?_) (fun c76 => ?_)
      · have hf := if_e hf c76
        refine lv_aload_n X.1 X.2.1 dX8_goDay_176 rfl (lv_at hl 0 rfl) ?_
        refine lv_iload_n X.1 X.2.1 dX8_goDay_177 rfl (lv_at hl 2 rfl) ?_
        refine lv_iconst (v := 3) X.1 X.2.1 dX8_goDay_178 (by decide) ?_
        refine lv_aload_n X.1 X.2.1 dX8_goDay_179 rfl (lv_at hl 0 rfl) ?_
        refine lv_iload_n X.1 X.2.1 dX8_goDay_180 rfl (lv_at hl 2 rfl) ?_
        refine lv_iconst (v := 3) X.1 X.2.1 dX8_goDay_181 (by decide) ?_
        obtain ⟨r78, h77, hf⟩ := b_bd1 hf
        refine r_callV X hw (k_X8_of hE  h77) (sp69 hE) (C := RX8) (T := TX8) (N := 31) rfl qw997 qw999 qw33 qw79 qw1000 okX8_of ⟨rfl, rfl⟩ ⟨(Nat.le_of_ble_eq_true rfl), (Nat.le_of_ble_eq_true rfl)⟩ ⟨Nat.zero_le _, Nat.zero_le _⟩ rfl hl.1 (rest := [.int 3, .int w2, .ref (eP E 69)]) rfl (Nat.le_of_ble_eq_true rfl) dX8_goDay_182 (st1 := [.int r78, .int 3, .int w2, .ref (eP E 69)]) rfl (fun H locs hw => ?_)
        refine lv_aload_n X.1 X.2.1 dX8_goDay_185 rfl (lv_at hl 0 rfl) ?_
        refine r_get X hw (sp69 hE) (C := RX8) (T := TX8) (N := 31) rfl iwX8 21 (by decide) (Nat.le_of_ble_eq_true rfl) qw887 (v := .ref (eP E 82)) rfl dX8_goDay_186 ?_
        refine lv_iload_n X.1 X.2.1 dX8_goDay_189 rfl (lv_at hl 2 rfl) ?_
        obtain ⟨h79, hf⟩ := b_ck hf
        refine r_iald X hw (sp82 hE) h79 dX8_goDay_190 ?_
        refine lv_iadd X.1 X.2.1 dX8_goDay_191 ?_
        refine lv_iconst (v := 0) X.1 X.2.1 dX8_goDay_192 (by decide) ?_
        refine lv_bipush (v := 99) X.1 X.2.1 dX8_goDay_193 (by decide) ?_
        obtain ⟨r81, h80, hf⟩ := b_bd1 hf
        refine r_callS X hw (k_X8_bound hE  h80) qw1023 qw1024 qw79 qw1025 okX8_bound ⟨rfl, rfl⟩ ⟨(Nat.le_of_ble_eq_true rfl), (Nat.le_of_ble_eq_true rfl)⟩ ⟨Nat.zero_le _, Nat.zero_le _⟩ rfl hl.1 (rest := [.int 3, .int w2, .ref (eP E 69)]) rfl (Nat.le_of_ble_eq_true rfl) dX8_goDay_195 (st1 := [.int r81, .int 3, .int w2, .ref (eP E 69)]) rfl (fun H locs hw => ?_)
        obtain ⟨σ83, h82, hf⟩ := b_bd1 hf
        refine r_callV X hw (k_X8_change hE  h82) (sp69 hE) (C := RX8) (T := TX8) (N := 31) rfl qw989 qw991 qw32 qw79 qw992 okX8_change ⟨rfl, rfl⟩ ⟨(Nat.le_of_ble_eq_true rfl), (Nat.le_of_ble_eq_true rfl)⟩ ⟨Nat.zero_le _, Nat.zero_le _⟩ rfl hl.1 (rest := []) rfl (Nat.le_of_ble_eq_true rfl) dX8_goDay_198 (st1 := []) rfl (fun H locs hw => ?_)
        refine lv_aload_n X.1 X.2.1 dX8_goDay_201 rfl (lv_at hl 0 rfl) ?_
        refine lv_iload_n X.1 X.2.1 dX8_goDay_202 rfl (lv_at hl 2 rfl) ?_
        refine lv_iconst (v := 5) X.1 X.2.1 dX8_goDay_203 (by decide) ?_
        refine lv_sipush (v := 9999) X.1 X.2.1 dX8_goDay_204 (by decide) ?_
        refine lv_aload_n X.1 X.2.1 dX8_goDay_207 rfl (lv_at hl 0 rfl) ?_
        refine lv_iload_n X.1 X.2.1 dX8_goDay_208 rfl (lv_at hl 2 rfl) ?_
        refine lv_iconst (v := 5) X.1 X.2.1 dX8_goDay_209 (by decide) ?_
        obtain ⟨r85, h84, hf⟩ := b_bd1 hf
        refine r_callV X hw (k_X8_of hE  h84) (sp69 hE) (C := RX8) (T := TX8) (N := 31) rfl qw997 qw999 qw33 qw79 qw1000 okX8_of ⟨rfl, rfl⟩ ⟨(Nat.le_of_ble_eq_true rfl), (Nat.le_of_ble_eq_true rfl)⟩ ⟨Nat.zero_le _, Nat.zero_le _⟩ rfl hl.1 (rest := [.int 9999, .int 5, .int w2, .ref (eP E 69)]) rfl (Nat.le_of_ble_eq_true rfl) dX8_goDay_210 (st1 := [.int r85, .int 9999, .int 5, .int w2, .ref (eP E 69)]) rfl (fun H locs hw => ?_)
        refine lv_aload_n X.1 X.2.1 dX8_goDay_213 rfl (lv_at hl 0 rfl) ?_
        refine r_get X hw (sp69 hE) (C := RX8) (T := TX8) (N := 31) rfl iwX8 20 (by decide) (Nat.le_of_ble_eq_true rfl) qw886 (v := .ref (eP E 81)) rfl dX8_goDay_214 ?_
        refine lv_iload_n X.1 X.2.1 dX8_goDay_217 rfl (lv_at hl 2 rfl) ?_
        obtain ⟨h86, hf⟩ := b_ck hf
        refine r_iald X hw (sp81 hE) h86 dX8_goDay_218 ?_
        refine lv_iadd X.1 X.2.1 dX8_goDay_219 ?_
        refine r_min X hl.1 qw1026 qw534 qw80 qw535 (Nat.le_of_ble_eq_true rfl) (Nat.le_of_ble_eq_true rfl) (Nat.zero_le _) (Nat.zero_le _) dX8_goDay_220 ?_
        obtain ⟨σ88, h87, hf⟩ := b_bd1 hf
        refine r_callV X hw (k_X8_change hE  h87) (sp69 hE) (C := RX8) (T := TX8) (N := 31) rfl qw989 qw991 qw32 qw79 qw992 okX8_change ⟨rfl, rfl⟩ ⟨(Nat.le_of_ble_eq_true rfl), (Nat.le_of_ble_eq_true rfl)⟩ ⟨Nat.zero_le _, Nat.zero_le _⟩ rfl hl.1 (rest := []) rfl (Nat.le_of_ble_eq_true rfl) dX8_goDay_223 (st1 := []) rfl (fun H locs hw => ?_)
        refine lv_aload_n X.1 X.2.1 dX8_goDay_226 rfl (lv_at hl 0 rfl) ?_
        refine lv_aload_n X.1 X.2.1 dX8_goDay_227 rfl (lv_at hl 0 rfl) ?_
        refine r_get X hw (sp69 hE) (C := RX8) (T := TX8) (N := 31) rfl iwX8 19 (by decide) (Nat.le_of_ble_eq_true rfl) qw885 (v := .ref (eP E 80)) rfl dX8_goDay_228 ?_
        refine lv_iload_n X.1 X.2.1 dX8_goDay_231 rfl (lv_at hl 2 rfl) ?_
        obtain ⟨h89, hf⟩ := b_ck hf
        refine r_iald X hw (sp80 hE) h89 dX8_goDay_232 ?_
        refine lv_bipush (v := 6) X.1 X.2.1 dX8_goDay_233 (by decide) ?_
        refine lv_iload_n X.1 X.2.1 dX8_goDay_235 rfl (lv_at hl 2 rfl) ?_
        refine lv_iadd X.1 X.2.1 dX8_goDay_236 ?_
        refine lv_aload_n X.1 X.2.1 dX8_goDay_237 rfl (lv_at hl 0 rfl) ?_
        refine lv_aload_n X.1 X.2.1 dX8_goDay_238 rfl (lv_at hl 0 rfl) ?_
        refine r_get X hw (sp69 hE) (C := RX8) (T := TX8) (N := 31) rfl iwX8 19 (by decide) (Nat.le_of_ble_eq_true rfl) qw885 (v := .ref (eP E 80)) rfl dX8_goDay_239 ?_
        refine lv_iload_n X.1 X.2.1 dX8_goDay_242 rfl (lv_at hl 2 rfl) ?_
        obtain ⟨h90, hf⟩ := b_ck hf
        refine r_iald X hw (sp80 hE) h90 dX8_goDay_243 ?_
        refine lv_bipush (v := 6) X.1 X.2.1 dX8_goDay_244 (by decide) ?_
        refine lv_iload_n X.1 X.2.1 dX8_goDay_246 rfl (lv_at hl 2 rfl) ?_
        refine lv_iadd X.1 X.2.1 dX8_goDay_247 ?_
        obtain ⟨r92, h91, hf⟩ := b_bd1 hf
        refine r_callV X hw (k_X8_of hE  h91) (sp69 hE) (C := RX8) (T := TX8) (N := 31) rfl qw997 qw999 qw33 qw79 qw1000 okX8_of ⟨rfl, rfl⟩ ⟨(Nat.le_of_ble_eq_true rfl), (Nat.le_of_ble_eq_true rfl)⟩ ⟨Nat.zero_le _, Nat.zero_le _⟩ rfl hl.1 (rest := [.int (6 + w2), .int (σ88 80 w2.toNatClampNeg), .ref (eP E 69)]) rfl (Nat.le_of_ble_eq_true rfl) dX8_goDay_248 (st1 := [.int r92, .int (6 + w2), .int (σ88 80 w2.toNatClampNeg), .ref (eP E 69)]) rfl (fun H locs hw => ?_)
        refine lv_aload_n X.1 X.2.1 dX8_goDay_251 rfl (lv_at hl 0 rfl) ?_
        refine r_get X hw (sp69 hE) (C := RX8) (T := TX8) (N := 31) rfl iwX8 22 (by decide) (Nat.le_of_ble_eq_true rfl) qw888 (v := .ref (eP E 83)) rfl dX8_goDay_252 ?_
        refine lv_iload_n X.1 X.2.1 dX8_goDay_255 rfl (lv_at hl 2 rfl) ?_
        obtain ⟨h93, hf⟩ := b_ck hf
        refine r_iald X hw (sp83 hE) h93 dX8_goDay_256 ?_
        refine lv_iadd X.1 X.2.1 dX8_goDay_257 ?_
        refine lv_iconst (v := 0) X.1 X.2.1 dX8_goDay_258 (by decide) ?_
        refine lv_bipush (v := 9) X.1 X.2.1 dX8_goDay_259 (by decide) ?_
        obtain ⟨r95, h94, hf⟩ := b_bd1 hf
        refine r_callS X hw (k_X8_bound hE  h94) qw1023 qw1024 qw79 qw1025 okX8_bound ⟨rfl, rfl⟩ ⟨(Nat.le_of_ble_eq_true rfl), (Nat.le_of_ble_eq_true rfl)⟩ ⟨Nat.zero_le _, Nat.zero_le _⟩ rfl hl.1 (rest := [.int (6 + w2), .int (σ88 80 w2.toNatClampNeg), .ref (eP E 69)]) rfl (Nat.le_of_ble_eq_true rfl) dX8_goDay_261 (st1 := [.int r95, .int (6 + w2), .int (σ88 80 w2.toNatClampNeg), .ref (eP E 69)]) rfl (fun H locs hw => ?_)
        obtain ⟨σ97, h96, hf⟩ := b_bd1 hf
        refine r_callV X hw (k_X8_change hE  h96) (sp69 hE) (C := RX8) (T := TX8) (N := 31) rfl qw989 qw991 qw32 qw79 qw992 okX8_change ⟨rfl, rfl⟩ ⟨(Nat.le_of_ble_eq_true rfl), (Nat.le_of_ble_eq_true rfl)⟩ ⟨Nat.zero_le _, Nat.zero_le _⟩ rfl hl.1 (rest := []) rfl (Nat.le_of_ble_eq_true rfl) dX8_goDay_264 (st1 := []) rfl (fun H locs hw => ?_)
        refine lv_iload_n X.1 X.2.1 dX8_goDay_267 rfl (lv_at hl 1 rfl) ?_
        refine lv_aload_n X.1 X.2.1 dX8_goDay_268 rfl (lv_at hl 0 rfl) ?_
        refine r_get X hw (sp69 hE) (C := RX8) (T := TX8) (N := 31) rfl iwX8 20 (by decide) (Nat.le_of_ble_eq_true rfl) qw886 (v := .ref (eP E 81)) rfl dX8_goDay_269 ?_
        refine lv_iload_n X.1 X.2.1 dX8_goDay_272 rfl (lv_at hl 2 rfl) ?_
        obtain ⟨h98, hf⟩ := b_ck hf
        refine r_iald X hw (sp81 hE) h98 dX8_goDay_273 ?_
        obtain ⟨v100, e101, hf⟩ := b_bnd hf
        refine r_join (g2 := F0 m 284 ls [.int v100, .int w1]) ?_ (fun hj => ?_)
        · refine lv_ior X.1 X.2.1 dX8_goDay_284 ?_
          refine r_bnd hf (fun v102 hf => ?_)
          refine lv_istore_n (lv' := [(1, .int v102), (0, .ref (eP E 69)), (2, .int w2)]) X.1 X.2.1 dX8_goDay_285 rfl hl (by decide) rfl (fun ls hl => ?_)
          obtain ⟨v103, e104, hf⟩ := b_bnd hf
          refine lv_iinc (v := v103) (k := 2) (lv' := [(2, .int v103), (1, .int v102), (0, .ref (eP E 69))]) X.1 X.2.1 dX8_goDay_286 hl rfl (by rw [e104]; exact congrArg _ (by decide)) (by decide) rfl (fun ls hl => ?_)
          refine lv_goto (tgt := 117) X.1 X.2.1 dX8_goDay_289 (by decide) ?_
          obtain rfl := Option.some.inj hf
          exact ih _ _ _ (hr1 _ rfl) _ _ _ hw (lv_sub hl [2, 1, 0] rfl) K1
        · refine lv_if_le (tgt := 283) X.1 X.2.1 dX8_goDay_274 (by decide) (fun c99 => ?_) (fun c99 => ?_)
          · rw [e101, if_pos c99] at hj
            refine lv_iconst (v := 0) X.1 X.2.1 dX8_goDay_283 (by decide) ?_
            exact hj
          · rw [e101, if_neg c99] at hj
            refine lv_iconst (v := 1) X.1 X.2.1 dX8_goDay_277 (by decide) ?_
            refine lv_iload_n X.1 X.2.1 dX8_goDay_278 rfl (lv_at hl 2 rfl) ?_
            refine lv_ishl X.1 X.2.1 dX8_goDay_279 ?_
            refine lv_goto (tgt := 284) X.1 X.2.1 dX8_goDay_280 (by decide) ?_
            exact hj
      · have hf := if_t hf c76
        refine lv_aload_n X.1 X.2.1 dX8_goDay_135 rfl (lv_at hl 0 rfl) ?_
        refine lv_iload_n X.1 X.2.1 dX8_goDay_136 rfl (lv_at hl 2 rfl) ?_
        refine lv_iconst (v := 3) X.1 X.2.1 dX8_goDay_137 (by decide) ?_
        refine lv_iconst (v := 0) X.1 X.2.1 dX8_goDay_138 (by decide) ?_
        refine lv_aload_n X.1 X.2.1 dX8_goDay_139 rfl (lv_at hl 0 rfl) ?_
        refine lv_iload_n X.1 X.2.1 dX8_goDay_140 rfl (lv_at hl 2 rfl) ?_
        refine lv_iconst (v := 3) X.1 X.2.1 dX8_goDay_141 (by decide) ?_
        obtain ⟨r106, h105, hf⟩ := b_bd1 hf
        refine r_callV X hw (k_X8_of hE  h105) (sp69 hE) (C := RX8) (T := TX8) (N := 31) rfl qw997 qw999 qw33 qw79 qw1000 okX8_of ⟨rfl, rfl⟩ ⟨(Nat.le_of_ble_eq_true rfl), (Nat.le_of_ble_eq_true rfl)⟩ ⟨Nat.zero_le _, Nat.zero_le _⟩ rfl hl.1 (rest := [.int 0, .int 3, .int w2, .ref (eP E 69)]) rfl (Nat.le_of_ble_eq_true rfl) dX8_goDay_142 (st1 := [.int r106, .int 0, .int 3, .int w2, .ref (eP E 69)]) rfl (fun H locs hw => ?_)
        refine lv_bipush (v := 10) X.1 X.2.1 dX8_goDay_145 (by decide) ?_
        refine lv_isub X.1 X.2.1 dX8_goDay_147 ?_
        refine r_max X hl.1 qw1027 qw537 qw80 qw538 (Nat.le_of_ble_eq_true rfl) (Nat.le_of_ble_eq_true rfl) (Nat.zero_le _) (Nat.zero_le _) dX8_goDay_148 ?_
        obtain ⟨σ108, h107, hf⟩ := b_bd1 hf
        refine r_callV X hw (k_X8_change hE  h107) (sp69 hE) (C := RX8) (T := TX8) (N := 31) rfl qw989 qw991 qw32 qw79 qw992 okX8_change ⟨rfl, rfl⟩ ⟨(Nat.le_of_ble_eq_true rfl), (Nat.le_of_ble_eq_true rfl)⟩ ⟨Nat.zero_le _, Nat.zero_le _⟩ rfl hl.1 (rest := []) rfl (Nat.le_of_ble_eq_true rfl) dX8_goDay_151 (st1 := []) rfl (fun H locs hw => ?_)
        refine lv_aload_n X.1 X.2.1 dX8_goDay_154 rfl (lv_at hl 0 rfl) ?_
        refine lv_iload_n X.1 X.2.1 dX8_goDay_155 rfl (lv_at hl 2 rfl) ?_
        refine lv_iconst (v := 4) X.1 X.2.1 dX8_goDay_156 (by decide) ?_
        refine lv_bipush (v := 99) X.1 X.2.1 dX8_goDay_157 (by decide) ?_
        refine lv_aload_n X.1 X.2.1 dX8_goDay_159 rfl (lv_at hl 0 rfl) ?_
        refine lv_iload_n X.1 X.2.1 dX8_goDay_160 rfl (lv_at hl 2 rfl) ?_
        refine lv_iconst (v := 4) X.1 X.2.1 dX8_goDay_161 (by decide) ?_
        obtain ⟨r110, h109, hf⟩ := b_bd1 hf
        refine r_callV X hw (k_X8_of hE  h109) (sp69 hE) (C := RX8) (T := TX8) (N := 31) rfl qw997 qw999 qw33 qw79 qw1000 okX8_of ⟨rfl, rfl⟩ ⟨(Nat.le_of_ble_eq_true rfl), (Nat.le_of_ble_eq_true rfl)⟩ ⟨Nat.zero_le _, Nat.zero_le _⟩ rfl hl.1 (rest := [.int 99, .int 4, .int w2, .ref (eP E 69)]) rfl (Nat.le_of_ble_eq_true rfl) dX8_goDay_162 (st1 := [.int r110, .int 99, .int 4, .int w2, .ref (eP E 69)]) rfl (fun H locs hw => ?_)
        refine lv_iconst (v := 1) X.1 X.2.1 dX8_goDay_165 (by decide) ?_
        refine lv_iadd X.1 X.2.1 dX8_goDay_166 ?_
        refine r_min X hl.1 qw1026 qw534 qw80 qw535 (Nat.le_of_ble_eq_true rfl) (Nat.le_of_ble_eq_true rfl) (Nat.zero_le _) (Nat.zero_le _) dX8_goDay_167 ?_
        obtain ⟨σ112, h111, hf⟩ := b_bd1 hf
        refine r_callV X hw (k_X8_change hE  h111) (sp69 hE) (C := RX8) (T := TX8) (N := 31) rfl qw989 qw991 qw32 qw79 qw992 okX8_change ⟨rfl, rfl⟩ ⟨(Nat.le_of_ble_eq_true rfl), (Nat.le_of_ble_eq_true rfl)⟩ ⟨Nat.zero_le _, Nat.zero_le _⟩ rfl hl.1 (rest := []) rfl (Nat.le_of_ble_eq_true rfl) dX8_goDay_170 (st1 := []) rfl (fun H locs hw => ?_)
        refine lv_goto (tgt := 286) X.1 X.2.1 dX8_goDay_173 (by decide) ?_
        obtain ⟨v113, e114, hf⟩ := b_bnd hf
        refine lv_iinc (v := v113) (k := 2) (lv' := [(2, .int v113), (0, .ref (eP E 69)), (1, .int w1)]) X.1 X.2.1 dX8_goDay_286 hl rfl (by rw [e114]; exact congrArg _ (by decide)) (by decide) rfl (fun ls hl => ?_)
        refine lv_goto (tgt := 117) X.1 X.2.1 dX8_goDay_289 (by decide) ?_
        obtain rfl := Option.some.inj hf
        exact ih _ _ _ (hr1 _ rfl) _ _ _ hw (lv_sub hl [1, 2, 0] rfl) K1
set_option maxHeartbeats 4000000 in
set_option maxRecDepth 100000 in
theorem k_X8_goDay {l : Launch} {E : en_T} (hE : ShF E)  {σ : sg_T} {r : Int32} {σ' : sg_T} (hf : f_X8_goDay  σ = some (r, σ')) : Ct l yX8_goDay cX8_goDay 3 (some .int) rm_X8_goDay E [.ref (eP E 69)] σ (some (.int r)) σ' := by
  refine Ct.start (by decide) hE.1 (Nat.le_of_ble_eq_true rfl) ?_
  intro p e s m below meth c X hw ls hl
  have X : Cx E p s m _ meth c cX8_goDay 3 RX8 (some .int) := X
  have hR : ShR E := hE.r
  have hl : lv_has ls 3 [(0, .ref (eP E 69))] := hl
  unfold f_X8_goDay at hf
  refine lv_iconst (v := 0) X.1 X.2.1 dX8_goDay_0 (by decide) ?_
  refine lv_istore_n (lv' := [(1, .int 0), (0, .ref (eP E 69))]) X.1 X.2.1 dX8_goDay_1 rfl hl (by decide) rfl (fun ls hl => ?_)
  refine lv_iconst (v := 0) X.1 X.2.1 dX8_goDay_2 (by decide) ?_
  refine lv_istore_n (lv' := [(2, .int 0), (1, .int 0), (0, .ref (eP E 69))]) X.1 X.2.1 dX8_goDay_3 rfl hl (by decide) rfl (fun ls hl => ?_)
  obtain ⟨v70, σ71, h69, hf⟩ := b_bd2 hf
  refine w_X8_goDay_4 X hE  lfu _ _ h69 _ _ _ hw (lv_sub hl [2, 1, 0] rfl) (fun yv70 yσ71 hq H locs ls hw hl => ?_)
  cases hq
  refine lv_iconst (v := 0) X.1 X.2.1 dX8_goDay_115 (by decide) ?_
  refine lv_istore_n (lv' := [(2, .int 0), (0, .ref (eP E 69)), (1, .int 0)]) X.1 X.2.1 dX8_goDay_116 rfl hl (by decide) rfl (fun ls hl => ?_)
  obtain ⟨v116, v117, σ118, h115, hf⟩ := b_bd3 hf
  refine w_X8_goDay_117 X hE  lfu _ _ _ h115 _ _ _ hw (lv_sub hl [1, 2, 0] rfl) (fun yv116 yv117 yσ118 hq H locs ls hw hl => ?_)
  cases hq
  refine lv_aload_n X.1 X.2.1 dX8_goDay_292 rfl (lv_at hl 0 rfl) ?_
  refine r_get X hw (sp69 hE) (C := RX8) (T := TX8) (N := 31) rfl iwX8 0 (by decide) (Nat.le_of_ble_eq_true rfl) qw866 (v := .ref (eP E 70)) rfl dX8_goDay_293 ?_
  refine lv_bipush (v := 56) X.1 X.2.1 dX8_goDay_296 (by decide) ?_
  refine lv_dup2_11 X.1 X.2.1 dX8_goDay_298 rfl rfl ?_
  obtain ⟨h119, hf⟩ := b_ck hf
  refine r_iald X hw (sp70 hE) h119 dX8_goDay_299 ?_
  refine lv_iconst (v := 1) X.1 X.2.1 dX8_goDay_300 (by decide) ?_
  refine lv_iadd X.1 X.2.1 dX8_goDay_301 ?_
  obtain ⟨h120, hf⟩ := b_ck hf
  refine r_iast X hw (sp70 hE) h120 dX8_goDay_302 (fun H locs hw => ?_)
  obtain ⟨σ121, e122, hf⟩ := b_bnd hf
  rw [← e122] at hw
  refine lv_iload_n X.1 X.2.1 dX8_goDay_303 rfl (lv_at hl 1 rfl) ?_
  obtain ⟨rfl, rfl⟩ := Prod.mk.inj (Option.some.inj hf)
  exact r_iret X hw dX8_goDay_304
abbrev rm_X8_goDays : Room := { frames := 7, cells := 0, slots := 0, locals := 240 }
set_option maxHeartbeats 4000000 in
set_option maxRecDepth 100000 in
theorem w_X8_goDays_2 {p : Program} {l : Launch} {e : Env} {s : State} {m : MethodId} {args : Array Value} {below : List Frame} {meth : Method} {c : Code} {Q : State → Prop} {E : en_T} (X : Cx E p s m args meth c cX8_goDays 3 RX8 none) (hE : ShF E) {u1 : Int32}  {res : Int32 × sg_T} :
    ∀ (n : Nat) (w2 : Int32) (σ : sg_T), itr (fun q => b_X8_goDays_2 u1 q.1 q.2) n (w2, σ) = some res → ∀ (H : Heap) (locs : List Loc) (ls : Array Slot), Hw E σ s H locs → lv_has ls 3 [(0, .ref (eP E 69)), (1, .int u1), (2, .int w2)] →
    (∀ (y2 : Int32) (τ : sg_T), res = (y2, τ) → ∀ (H : Heap) (locs : List Loc) (ls : Array Slot), Hw E τ s H locs → lv_has ls 3 [(0, .ref (eP E 69)), (1, .int u1), (2, .int y2)] → W p l e rm_X8_goDays s m args below meth c H locs 0 0 Q (F0 m 18 ls [])) →
    W p l e rm_X8_goDays s m args below meth c H locs 0 0 Q (F0 m 2 ls []) := by
  have hR : ShR E := hE.r
  intro n
  induction n with
  | zero =>
    intro w2 σ hf0
    exact (itr_0 hf0).elim
  | succ n ih =>
    intro w2 σ hf0 H locs ls hw hl K1
    obtain ⟨r0, hf, hr1, hr2⟩ := itr_s hf0
    have hf : b_X8_goDays_2 u1 w2 σ = some r0 := hf
    unfold b_X8_goDays_2 at hf
    refine lv_iload_n X.1 X.2.1 dX8_goDays_2 rfl (lv_at hl 2 rfl) ?_
    refine lv_iload_n X.1 X.2.1 dX8_goDays_3 rfl (lv_at hl 1 rfl) ?_
    refine lv_icmp_ge (tgt := 18) X.1 X.2.1 dX8_goDays_4 (by decide) (fun c1 => ?_) (fun c1 => ?_)
    · have hf := if_t hf c1
      obtain rfl := Option.some.inj hf
      obtain rfl := hr2 _ rfl
      exact K1 _ _ rfl _ _ _ hw (lv_sub hl [0, 1, 2] rfl)
    · have hf := if_e hf c1
      refine lv_aload_n X.1 X.2.1 dX8_goDays_7 rfl (lv_at hl 0 rfl) ?_
      obtain ⟨r3, σ4, h2, hf⟩ := b_bd2 hf
      refine r_callV X hw (k_X8_goDay hE  h2) (sp69 hE) (C := RX8) (T := TX8) (N := 31) rfl qw1119 qw1121 qw54 qw79 qw1122 okX8_goDay ⟨rfl, rfl⟩ ⟨(Nat.le_of_ble_eq_true rfl), (Nat.le_of_ble_eq_true rfl)⟩ ⟨Nat.zero_le _, Nat.zero_le _⟩ rfl hl.1 (rest := []) rfl (Nat.le_of_ble_eq_true rfl) dX8_goDays_8 (st1 := [.int r3]) rfl (fun H locs hw => ?_)
      refine lv_pop X.1 X.2.1 dX8_goDays_11 rfl ?_
      obtain ⟨v5, e6, hf⟩ := b_bnd hf
      refine lv_iinc (v := v5) (k := 2) (lv' := [(2, .int v5), (0, .ref (eP E 69)), (1, .int u1)]) X.1 X.2.1 dX8_goDays_12 hl rfl (by rw [e6]; exact congrArg _ (by decide)) (by decide) rfl (fun ls hl => ?_)
      refine lv_goto (tgt := 2) X.1 X.2.1 dX8_goDays_15 (by decide) ?_
      obtain rfl := Option.some.inj hf
      exact ih _ _ (hr1 _ rfl) _ _ _ hw (lv_sub hl [1, 2, 0] rfl) K1
set_option maxHeartbeats 4000000 in
set_option maxRecDepth 100000 in
theorem k_X8_goDays {l : Launch} {E : en_T} (hE : ShF E) {x1 : Int32} {σ : sg_T}  {σ' : sg_T} (hf : f_X8_goDays x1 σ = some σ') : Ct l yX8_goDays cX8_goDays 3 none rm_X8_goDays E [.ref (eP E 69), .int x1] σ none σ' := by
  refine Ct.start (by decide) hE.1 (Nat.le_of_ble_eq_true rfl) ?_
  intro p e s m below meth c X hw ls hl
  have X : Cx E p s m _ meth c cX8_goDays 3 RX8 none := X
  have hR : ShR E := hE.r
  have hl : lv_has ls 3 [(0, .ref (eP E 69)), (1, .int x1)] := hl
  unfold f_X8_goDays at hf
  refine lv_iconst (v := 0) X.1 X.2.1 dX8_goDays_0 (by decide) ?_
  refine lv_istore_n (lv' := [(2, .int 0), (0, .ref (eP E 69)), (1, .int x1)]) X.1 X.2.1 dX8_goDays_1 rfl hl (by decide) rfl (fun ls hl => ?_)
  obtain ⟨v8, σ9, h7, hf⟩ := b_bd2 hf
  refine w_X8_goDays_2 X hE  lfu _ _ h7 _ _ _ hw (lv_sub hl [1, 2, 0] rfl) (fun yv8 yσ9 hq H locs ls hw hl => ?_)
  cases hq
  obtain rfl := Option.some.inj hf
  exact r_vret X hw dX8_goDays_18
abbrev rm_X8_all : Room := { frames := 1, cells := 0, slots := 0, locals := 100 }
set_option maxHeartbeats 4000000 in
set_option maxRecDepth 100000 in
theorem w_X8_all_4 {p : Program} {l : Launch} {e : Env} {s : State} {m : MethodId} {args : Array Value} {below : List Frame} {meth : Method} {c : Code} {Q : State → Prop} {E : en_T} (X : Cx E p s m args meth c cX8_all 4 RX8 (some .int)) (hE : ShF E) {u1 : Int32} {σ : sg_T} {res : Int32 × Int32} :
    ∀ (n : Nat) (w2 : Int32) (w3 : Int32), itr (fun q => b_X8_all_4 u1 q.1 q.2 σ) n (w2, w3) = some res → ∀ (H : Heap) (locs : List Loc) (ls : Array Slot), Hw E σ s H locs → lv_has ls 4 [(0, .ref (eP E 69)), (1, .int u1), (2, .int w2), (3, .int w3)] →
    (∀ (y2 : Int32) (y3 : Int32), res = (y2, y3) → ∀ (H : Heap) (locs : List Loc) (ls : Array Slot), Hw E σ s H locs → lv_has ls 4 [(0, .ref (eP E 69)), (1, .int u1), (2, .int y2), (3, .int y3)] → W p l e rm_X8_all s m args below meth c H locs 0 0 Q (F0 m 27 ls [])) →
    W p l e rm_X8_all s m args below meth c H locs 0 0 Q (F0 m 4 ls []) := by
  have hR : ShR E := hE.r
  intro n
  induction n with
  | zero =>
    intro w2 w3 hf0
    exact (itr_0 hf0).elim
  | succ n ih =>
    intro w2 w3 hf0 H locs ls hw hl K1
    obtain ⟨r0, hf, hr1, hr2⟩ := itr_s hf0
    have hf : b_X8_all_4 u1 w2 w3 σ = some r0 := hf
    unfold b_X8_all_4 at hf
    refine lv_iload_n X.1 X.2.1 dX8_all_4 rfl (lv_at hl 3 rfl) ?_
    refine lv_aload_n X.1 X.2.1 dX8_all_5 rfl (lv_at hl 0 rfl) ?_
    obtain ⟨r2, h1, hf⟩ := b_bd1 hf
    refine r_callV X hw (k_X8_many hE  h1) (sp69 hE) (C := RX8) (T := TX8) (N := 31) rfl qw985 qw987 qw31 qw79 qw988 okX8_many ⟨rfl, rfl⟩ ⟨(Nat.le_of_ble_eq_true rfl), (Nat.le_of_ble_eq_true rfl)⟩ ⟨Nat.zero_le _, Nat.zero_le _⟩ rfl hl.1 (rest := [.int w3]) rfl (Nat.le_of_ble_eq_true rfl) dX8_all_6 (st1 := [.int r2, .int w3]) rfl (fun H locs hw => ?_)
    refine lv_icmp_ge (tgt := 27) X.1 X.2.1 dX8_all_9 (by decide) (fun c3 => ?_) (fun c3 => ?_)
    · have hf := if_t hf c3
      obtain rfl := Option.some.inj hf
      obtain rfl := hr2 _ rfl
      exact K1 _ _ rfl _ _ _ hw (lv_sub hl [0, 1, 2, 3] rfl)
    · have hf := if_e hf c3
      refine lv_iload_n X.1 X.2.1 dX8_all_12 rfl (lv_at hl 2 rfl) ?_
      refine lv_aload_n X.1 X.2.1 dX8_all_13 rfl (lv_at hl 0 rfl) ?_
      refine lv_iload_n X.1 X.2.1 dX8_all_14 rfl (lv_at hl 3 rfl) ?_
      refine lv_iload_n X.1 X.2.1 dX8_all_15 rfl (lv_at hl 1 rfl) ?_
      obtain ⟨r5, h4, hf⟩ := b_bd1 hf
      refine r_callV X hw (k_X8_of hE  h4) (sp69 hE) (C := RX8) (T := TX8) (N := 31) rfl qw997 qw999 qw33 qw79 qw1000 okX8_of ⟨rfl, rfl⟩ ⟨(Nat.le_of_ble_eq_true rfl), (Nat.le_of_ble_eq_true rfl)⟩ ⟨Nat.zero_le _, Nat.zero_le _⟩ rfl hl.1 (rest := [.int w2]) rfl (Nat.le_of_ble_eq_true rfl) dX8_all_16 (st1 := [.int r5, .int w2]) rfl (fun H locs hw => ?_)
      refine lv_iadd X.1 X.2.1 dX8_all_19 ?_
      refine r_bnd hf (fun v6 hf => ?_)
      refine lv_istore_n (lv' := [(2, .int v6), (0, .ref (eP E 69)), (1, .int u1), (3, .int w3)]) X.1 X.2.1 dX8_all_20 rfl hl (by decide) rfl (fun ls hl => ?_)
      obtain ⟨v7, e8, hf⟩ := b_bnd hf
      refine lv_iinc (v := v7) (k := 3) (lv' := [(3, .int v7), (2, .int v6), (0, .ref (eP E 69)), (1, .int u1)]) X.1 X.2.1 dX8_all_21 hl rfl (by rw [e8]; exact congrArg _ (by decide)) (by decide) rfl (fun ls hl => ?_)
      refine lv_goto (tgt := 4) X.1 X.2.1 dX8_all_24 (by decide) ?_
      obtain rfl := Option.some.inj hf
      exact ih _ _ (hr1 _ rfl) _ _ _ hw (lv_sub hl [2, 3, 1, 0] rfl) K1
set_option maxHeartbeats 4000000 in
set_option maxRecDepth 100000 in
theorem k_X8_all {l : Launch} {E : en_T} (hE : ShF E) {x1 : Int32} {σ : sg_T} {r : Int32} (hf : f_X8_all x1 σ = some r) : Ct l yX8_all cX8_all 4 (some .int) rm_X8_all E [.ref (eP E 69), .int x1] σ (some (.int r)) σ := by
  refine Ct.start (by decide) hE.1 (Nat.le_of_ble_eq_true rfl) ?_
  intro p e s m below meth c X hw ls hl
  have X : Cx E p s m _ meth c cX8_all 4 RX8 (some .int) := X
  have hR : ShR E := hE.r
  have hl : lv_has ls 4 [(0, .ref (eP E 69)), (1, .int x1)] := hl
  unfold f_X8_all at hf
  refine lv_iconst (v := 0) X.1 X.2.1 dX8_all_0 (by decide) ?_
  refine lv_istore_n (lv' := [(2, .int 0), (0, .ref (eP E 69)), (1, .int x1)]) X.1 X.2.1 dX8_all_1 rfl hl (by decide) rfl (fun ls hl => ?_)
  refine lv_iconst (v := 0) X.1 X.2.1 dX8_all_2 (by decide) ?_
  refine lv_istore_n (lv' := [(3, .int 0), (2, .int 0), (0, .ref (eP E 69)), (1, .int x1)]) X.1 X.2.1 dX8_all_3 rfl hl (by decide) rfl (fun ls hl => ?_)
  obtain ⟨v10, v11, h9, hf⟩ := b_bd2 hf
  refine w_X8_all_4 X hE  lfu _ _ h9 _ _ _ hw (lv_sub hl [2, 3, 1, 0] rfl) (fun yv10 yv11 hq H locs ls hw hl => ?_)
  cases hq
  refine lv_iload_n X.1 X.2.1 dX8_all_27 rfl (lv_at hl 2 rfl) ?_
  obtain rfl := Option.some.inj hf
  exact r_iret X hw dX8_all_28
abbrev rm_X8_lates : Room := { frames := 6, cells := 0, slots := 0, locals := 218 }
set_option maxHeartbeats 4000000 in
set_option maxRecDepth 100000 in
theorem w_X8_lates_4 {p : Program} {l : Launch} {e : Env} {s : State} {m : MethodId} {args : Array Value} {below : List Frame} {meth : Method} {c : Code} {Q : State → Prop} {E : en_T} (X : Cx E p s m args meth c cX8_lates 3 RX8 (some .int)) (hE : ShF E)   {res : Int32 × Int32 × sg_T} :
    ∀ (n : Nat) (w1 : Int32) (w2 : Int32) (σ : sg_T), itr (fun q => b_X8_lates_4  q.1 q.2.1 q.2.2) n (w1, w2, σ) = some res → ∀ (H : Heap) (locs : List Loc) (ls : Array Slot), Hw E σ s H locs → lv_has ls 3 [(0, .ref (eP E 69)), (1, .int w1), (2, .int w2)] →
    (∀ (y1 : Int32) (y2 : Int32) (τ : sg_T), res = (y1, y2, τ) → ∀ (H : Heap) (locs : List Loc) (ls : Array Slot), Hw E τ s H locs → lv_has ls 3 [(0, .ref (eP E 69)), (1, .int y1), (2, .int y2)] → W p l e rm_X8_lates s m args below meth c H locs 0 0 Q (F0 m 34 ls [])) →
    W p l e rm_X8_lates s m args below meth c H locs 0 0 Q (F0 m 4 ls []) := by
  have hR : ShR E := hE.r
  intro n
  induction n with
  | zero =>
    intro w1 w2 σ hf0
    exact (itr_0 hf0).elim
  | succ n ih =>
    intro w1 w2 σ hf0 H locs ls hw hl K1
    obtain ⟨r0, hf, hr1, hr2⟩ := itr_s hf0
    have hf : b_X8_lates_4  w1 w2 σ = some r0 := hf
    unfold b_X8_lates_4 at hf
    refine lv_iload_n X.1 X.2.1 dX8_lates_4 rfl (lv_at hl 2 rfl) ?_
    refine lv_aload_n X.1 X.2.1 dX8_lates_5 rfl (lv_at hl 0 rfl) ?_
    obtain ⟨r2, h1, hf⟩ := b_bd1 hf
    refine r_callV X hw (k_X8_many hE  h1) (sp69 hE) (C := RX8) (T := TX8) (N := 31) rfl qw985 qw987 qw31 qw79 qw988 okX8_many ⟨rfl, rfl⟩ ⟨(Nat.le_of_ble_eq_true rfl), (Nat.le_of_ble_eq_true rfl)⟩ ⟨Nat.zero_le _, Nat.zero_le _⟩ rfl hl.1 (rest := [.int w2]) rfl (Nat.le_of_ble_eq_true rfl) dX8_lates_6 (st1 := [.int r2, .int w2]) rfl (fun H locs hw => ?_)
    refine lv_icmp_ge (tgt := 34) X.1 X.2.1 dX8_lates_9 (by decide) (fun c3 => ?_) (fun c3 => ?_)
    · have hf := if_t hf c3
      obtain rfl := Option.some.inj hf
      obtain rfl := hr2 _ rfl
      exact K1 _ _ _ rfl _ _ _ hw (lv_sub hl [0, 1, 2] rfl)
    · have hf := if_e hf c3
      refine lv_iload_n X.1 X.2.1 dX8_lates_12 rfl (lv_at hl 1 rfl) ?_
      refine lv_aload_n X.1 X.2.1 dX8_lates_13 rfl (lv_at hl 0 rfl) ?_
      refine lv_iload_n X.1 X.2.1 dX8_lates_14 rfl (lv_at hl 2 rfl) ?_
      obtain ⟨r5, σ6, h4, hf⟩ := b_bd2 hf
      refine r_callV X hw (k_X8_lateBy hE  h4) (sp69 hE) (C := RX8) (T := TX8) (N := 31) rfl qw1028 qw1030 qw38 qw79 qw1031 okX8_lateBy ⟨rfl, rfl⟩ ⟨(Nat.le_of_ble_eq_true rfl), (Nat.le_of_ble_eq_true rfl)⟩ ⟨Nat.zero_le _, Nat.zero_le _⟩ rfl hl.1 (rest := [.int w1]) rfl (Nat.le_of_ble_eq_true rfl) dX8_lates_15 (st1 := [.int r5, .int w1]) rfl (fun H locs hw => ?_)
      obtain ⟨v8, e9, hf⟩ := b_bnd hf
      refine r_join (g2 := F0 m 26 ls [.int v8, .int w1]) ?_ (fun hj => ?_)
      · refine lv_iadd X.1 X.2.1 dX8_lates_26 ?_
        refine r_bnd hf (fun v10 hf => ?_)
        refine lv_istore_n (lv' := [(1, .int v10), (0, .ref (eP E 69)), (2, .int w2)]) X.1 X.2.1 dX8_lates_27 rfl hl (by decide) rfl (fun ls hl => ?_)
        obtain ⟨v11, e12, hf⟩ := b_bnd hf
        refine lv_iinc (v := v11) (k := 2) (lv' := [(2, .int v11), (1, .int v10), (0, .ref (eP E 69))]) X.1 X.2.1 dX8_lates_28 hl rfl (by rw [e12]; exact congrArg _ (by decide)) (by decide) rfl (fun ls hl => ?_)
        refine lv_goto (tgt := 4) X.1 X.2.1 dX8_lates_31 (by decide) ?_
        obtain rfl := Option.some.inj hf
        exact ih _ _ _ (hr1 _ rfl) _ _ _ hw (lv_sub hl [2, 1, 0] rfl) K1
      · refine lv_if_le (tgt := 25) X.1 X.2.1 dX8_lates_18 (by decide) (fun c7 => ?_) (fun c7 => ?_)
        · rw [e9, if_pos c7] at hj
          refine lv_iconst (v := 0) X.1 X.2.1 dX8_lates_25 (by decide) ?_
          exact hj
        · rw [e9, if_neg c7] at hj
          refine lv_iconst (v := 1) X.1 X.2.1 dX8_lates_21 (by decide) ?_
          refine lv_goto (tgt := 26) X.1 X.2.1 dX8_lates_22 (by decide) ?_
          exact hj
set_option maxHeartbeats 4000000 in
set_option maxRecDepth 100000 in
theorem k_X8_lates {l : Launch} {E : en_T} (hE : ShF E)  {σ : sg_T} {r : Int32} {σ' : sg_T} (hf : f_X8_lates  σ = some (r, σ')) : Ct l yX8_lates cX8_lates 3 (some .int) rm_X8_lates E [.ref (eP E 69)] σ (some (.int r)) σ' := by
  refine Ct.start (by decide) hE.1 (Nat.le_of_ble_eq_true rfl) ?_
  intro p e s m below meth c X hw ls hl
  have X : Cx E p s m _ meth c cX8_lates 3 RX8 (some .int) := X
  have hR : ShR E := hE.r
  have hl : lv_has ls 3 [(0, .ref (eP E 69))] := hl
  unfold f_X8_lates at hf
  refine lv_iconst (v := 0) X.1 X.2.1 dX8_lates_0 (by decide) ?_
  refine lv_istore_n (lv' := [(1, .int 0), (0, .ref (eP E 69))]) X.1 X.2.1 dX8_lates_1 rfl hl (by decide) rfl (fun ls hl => ?_)
  refine lv_iconst (v := 0) X.1 X.2.1 dX8_lates_2 (by decide) ?_
  refine lv_istore_n (lv' := [(2, .int 0), (1, .int 0), (0, .ref (eP E 69))]) X.1 X.2.1 dX8_lates_3 rfl hl (by decide) rfl (fun ls hl => ?_)
  obtain ⟨v14, v15, σ16, h13, hf⟩ := b_bd3 hf
  refine w_X8_lates_4 X hE  lfu _ _ _ h13 _ _ _ hw (lv_sub hl [2, 1, 0] rfl) (fun yv14 yv15 yσ16 hq H locs ls hw hl => ?_)
  cases hq
  refine lv_iload_n X.1 X.2.1 dX8_lates_34 rfl (lv_at hl 1 rfl) ?_
  obtain ⟨rfl, rfl⟩ := Prod.mk.inj (Option.some.inj hf)
  exact r_iret X hw dX8_lates_35
abbrev rm_X8_day : Room := { frames := 7, cells := 0, slots := 0, locals := 240 }
set_option maxHeartbeats 4000000 in
set_option maxRecDepth 100000 in
theorem k_X8_day {l : Launch} {E : en_T} (hE : ShF E)  {σ : sg_T} {r : Int32} {σ' : sg_T} (hf : f_X8_day  σ = some (r, σ')) : Ct l yX8_day cX8_day 1 (some .int) rm_X8_day E [.ref (eP E 69)] σ (some (.int r)) σ' := by
  refine Ct.start (by decide) hE.1 (Nat.le_of_ble_eq_true rfl) ?_
  intro p e s m below meth c X hw ls hl
  have X : Cx E p s m _ meth c cX8_day 1 RX8 (some .int) := X
  have hR : ShR E := hE.r
  have hl : lv_has ls 1 [(0, .ref (eP E 69))] := hl
  unfold f_X8_day at hf
  refine lv_aload_n X.1 X.2.1 dX8_day_0 rfl (lv_at hl 0 rfl) ?_
  refine r_get X hw (sp69 hE) (C := RX8) (T := TX8) (N := 31) rfl iwX8 0 (by decide) (Nat.le_of_ble_eq_true rfl) qw866 (v := .ref (eP E 70)) rfl dX8_day_1 ?_
  refine lv_bipush (v := 56) X.1 X.2.1 dX8_day_4 (by decide) ?_
  obtain ⟨h1, hf⟩ := b_ck hf
  refine r_iald X hw (sp70 hE) h1 dX8_day_6 ?_
  refine lv_sipush (v := 999) X.1 X.2.1 dX8_day_7 (by decide) ?_
  refine lv_icmp_ne (tgt := 18) X.1 X.2.1 dX8_day_10 (by decide) (fun c2 => ?_) (fun c2 => ?_)
  · have hf := if_e hf c2
    refine lv_aload_n X.1 X.2.1 dX8_day_18 rfl (lv_at hl 0 rfl) ?_
    obtain ⟨r4, σ5, h3, hf⟩ := b_bd2 hf
    refine r_callV X hw (k_X8_goDay hE  h3) (sp69 hE) (C := RX8) (T := TX8) (N := 31) rfl qw1119 qw1121 qw54 qw79 qw1122 okX8_goDay ⟨rfl, rfl⟩ ⟨(Nat.le_of_ble_eq_true rfl), (Nat.le_of_ble_eq_true rfl)⟩ ⟨Nat.zero_le _, Nat.zero_le _⟩ rfl hl.1 (rest := []) rfl (Nat.le_of_ble_eq_true rfl) dX8_day_19 (st1 := [.int r4]) rfl (fun H locs hw => ?_)
    obtain ⟨rfl, rfl⟩ := Prod.mk.inj (Option.some.inj hf)
    exact r_iret X hw dX8_day_22
  · have hf := if_t hf c2
    refine lv_bipush (v := (-3)) X.1 X.2.1 dX8_day_13 (by decide) ?_
    refine lv_goto (tgt := 22) X.1 X.2.1 dX8_day_15 (by decide) ?_
    obtain ⟨rfl, rfl⟩ := Prod.mk.inj (Option.some.inj hf)
    exact r_iret X hw dX8_day_22
abbrev rm_X8_run : Room := { frames := 8, cells := 0, slots := 0, locals := 262 }
set_option maxHeartbeats 4000000 in
set_option maxRecDepth 100000 in
theorem k_X8_run {l : Launch} {E : en_T} (hE : ShF E) {x1 : Int32} {x2 : Int32} {x3 : Int32} {σ : sg_T} {r : Int32} {σ' : sg_T} (hf : f_X8_run x1 x2 x3 σ = some (r, σ')) : Ct l yX8_run cX8_run 5 (some .int) rm_X8_run E [.ref (eP E 69), .int x1, .int x2, .int x3] σ (some (.int r)) σ' := by
  refine Ct.start (by decide) hE.1 (Nat.le_of_ble_eq_true rfl) ?_
  intro p e s m below meth c X hw ls hl
  have X : Cx E p s m _ meth c cX8_run 5 RX8 (some .int) := X
  have hR : ShR E := hE.r
  have hl : lv_has ls 5 [(0, .ref (eP E 69)), (1, .int x1), (2, .int x2), (3, .int x3)] := hl
  unfold f_X8_run at hf
  refine lv_aload_n X.1 X.2.1 dX8_run_0 rfl (lv_at hl 0 rfl) ?_
  refine lv_iload_n X.1 X.2.1 dX8_run_1 rfl (lv_at hl 1 rfl) ?_
  obtain ⟨r2, h1, hf⟩ := b_bd1 hf
  refine r_callV X hw (k_X8_isOne hE  h1) (sp69 hE) (C := RX8) (T := TX8) (N := 31) rfl qw977 qw979 qw30 qw79 qw980 okX8_isOne ⟨rfl, rfl⟩ ⟨(Nat.le_of_ble_eq_true rfl), (Nat.le_of_ble_eq_true rfl)⟩ ⟨Nat.zero_le _, Nat.zero_le _⟩ rfl hl.1 (rest := []) rfl (Nat.le_of_ble_eq_true rfl) dX8_run_2 (st1 := [.int r2]) rfl (fun H locs hw => ?_)
  refine lv_if_eq (tgt := 27) X.1 X.2.1 dX8_run_5 (by decide) (fun c3 => ?_) (fun c3 => ?_)
  · have hf := if_t hf c3
    refine lv_bipush (v := (-2)) X.1 X.2.1 dX8_run_27 (by decide) ?_
    obtain ⟨rfl, rfl⟩ := Prod.mk.inj (Option.some.inj hf)
    exact r_iret X hw dX8_run_29
  · have hf := if_e hf c3
    refine lv_iload_n X.1 X.2.1 dX8_run_8 rfl (lv_at hl 2 rfl) ?_
    refine lv_iconst (v := 0) X.1 X.2.1 dX8_run_9 (by decide) ?_
    refine lv_bipush (v := 40) X.1 X.2.1 dX8_run_10 (by decide) ?_
    obtain ⟨r5, h4, hf⟩ := b_bd1 hf
    refine r_callS X hw (k_X8_isIn hE  h4) qw966 qw967 qw79 qw968 okX8_isIn ⟨rfl, rfl⟩ ⟨(Nat.le_of_ble_eq_true rfl), (Nat.le_of_ble_eq_true rfl)⟩ ⟨Nat.zero_le _, Nat.zero_le _⟩ rfl hl.1 (rest := []) rfl (Nat.le_of_ble_eq_true rfl) dX8_run_12 (st1 := [.int r5]) rfl (fun H locs hw => ?_)
    refine lv_if_eq (tgt := 27) X.1 X.2.1 dX8_run_15 (by decide) (fun c6 => ?_) (fun c6 => ?_)
    · have hf := if_t hf c6
      refine lv_bipush (v := (-2)) X.1 X.2.1 dX8_run_27 (by decide) ?_
      obtain ⟨rfl, rfl⟩ := Prod.mk.inj (Option.some.inj hf)
      exact r_iret X hw dX8_run_29
    · have hf := if_e hf c6
      refine lv_iload_n X.1 X.2.1 dX8_run_18 rfl (lv_at hl 3 rfl) ?_
      refine lv_iconst (v := 0) X.1 X.2.1 dX8_run_19 (by decide) ?_
      refine lv_iconst (v := 4) X.1 X.2.1 dX8_run_20 (by decide) ?_
      obtain ⟨r8, h7, hf⟩ := b_bd1 hf
      refine r_callS X hw (k_X8_isIn hE  h7) qw966 qw967 qw79 qw968 okX8_isIn ⟨rfl, rfl⟩ ⟨(Nat.le_of_ble_eq_true rfl), (Nat.le_of_ble_eq_true rfl)⟩ ⟨Nat.zero_le _, Nat.zero_le _⟩ rfl hl.1 (rest := []) rfl (Nat.le_of_ble_eq_true rfl) dX8_run_21 (st1 := [.int r8]) rfl (fun H locs hw => ?_)
      refine lv_if_ne (tgt := 30) X.1 X.2.1 dX8_run_24 (by decide) (fun c9 => ?_) (fun c9 => ?_)
      · have hf := if_e hf c9
        refine lv_aload_n X.1 X.2.1 dX8_run_30 rfl (lv_at hl 0 rfl) ?_
        refine lv_aload_n X.1 X.2.1 dX8_run_31 rfl (lv_at hl 0 rfl) ?_
        refine r_get X hw (sp69 hE) (C := RX8) (T := TX8) (N := 31) rfl iwX8 2 (by decide) (Nat.le_of_ble_eq_true rfl) qw868 (v := .ref (eP E 72)) rfl dX8_run_32 ?_
        obtain ⟨σ11, h10, hf⟩ := b_bd1 hf
        refine r_callV X hw (k_X8_keep hE (Or.inr rfl) h10) (sp69 hE) (C := RX8) (T := TX8) (N := 31) rfl qw1127 qw1129 qw55 qw79 qw1130 okX8_keep ⟨rfl, rfl⟩ ⟨(Nat.le_of_ble_eq_true rfl), (Nat.le_of_ble_eq_true rfl)⟩ ⟨Nat.zero_le _, Nat.zero_le _⟩ rfl hl.1 (rest := []) rfl (Nat.le_of_ble_eq_true rfl) dX8_run_35 (st1 := []) rfl (fun H locs hw => ?_)
        refine lv_aload_n X.1 X.2.1 dX8_run_38 rfl (lv_at hl 0 rfl) ?_
        refine lv_iload_n X.1 X.2.1 dX8_run_39 rfl (lv_at hl 2 rfl) ?_
        obtain ⟨σ13, h12, hf⟩ := b_bd1 hf
        refine r_callV X hw (k_X8_goDays hE  h12) (sp69 hE) (C := RX8) (T := TX8) (N := 31) rfl qw1131 qw1133 qw56 qw79 qw1134 okX8_goDays ⟨rfl, rfl⟩ ⟨(Nat.le_of_ble_eq_true rfl), (Nat.le_of_ble_eq_true rfl)⟩ ⟨Nat.zero_le _, Nat.zero_le _⟩ rfl hl.1 (rest := []) rfl (Nat.le_of_ble_eq_true rfl) dX8_run_40 (st1 := []) rfl (fun H locs hw => ?_)
        refine lv_iload_n X.1 X.2.1 dX8_run_43 rfl (lv_at hl 3 rfl) ?_
        refine lv_if_ne (tgt := 55) X.1 X.2.1 dX8_run_44 (by decide) (fun c14 => ?_) (fun c14 => ?_)
        · have hf := if_e hf c14
          refine lv_iload_n X.1 X.2.1 dX8_run_55 rfl (lv_at hl 3 rfl) ?_
          refine lv_iconst (v := 1) X.1 X.2.1 dX8_run_56 (by decide) ?_
          refine lv_icmp_ne (tgt := 69) X.1 X.2.1 dX8_run_57 (by decide) (fun c15 => ?_) (fun c15 => ?_)
          · have hf := if_e hf c15
            refine lv_iload_n X.1 X.2.1 dX8_run_69 rfl (lv_at hl 3 rfl) ?_
            refine lv_iconst (v := 2) X.1 X.2.1 dX8_run_70 (by decide) ?_
            refine lv_icmp_ne (tgt := 83) X.1 X.2.1 dX8_run_71 (by decide) (fun c16 => ?_) (fun c16 => ?_)
            · have hf := if_e hf c16
              refine lv_iload_n X.1 X.2.1 dX8_run_83 rfl (lv_at hl 3 rfl) ?_
              refine lv_iconst (v := 3) X.1 X.2.1 dX8_run_84 (by decide) ?_
              refine lv_icmp_ne (tgt := 95) X.1 X.2.1 dX8_run_85 (by decide) (fun c17 => ?_) (fun c17 => ?_)
              · have hf := if_e hf c17
                refine lv_aload_n X.1 X.2.1 dX8_run_95 rfl (lv_at hl 0 rfl) ?_
                refine lv_iconst (v := 4) X.1 X.2.1 dX8_run_96 (by decide) ?_
                obtain ⟨r19, h18, hf⟩ := b_bd1 hf
                refine r_callV X hw (k_X8_all hE  h18) (sp69 hE) (C := RX8) (T := TX8) (N := 31) rfl qw1139 qw1141 qw58 qw79 qw1142 okX8_all ⟨rfl, rfl⟩ ⟨(Nat.le_of_ble_eq_true rfl), (Nat.le_of_ble_eq_true rfl)⟩ ⟨Nat.zero_le _, Nat.zero_le _⟩ rfl hl.1 (rest := []) rfl (Nat.le_of_ble_eq_true rfl) dX8_run_97 (st1 := [.int r19]) rfl (fun H locs hw => ?_)
                refine lv_istore (lv' := [(4, .int r19), (0, .ref (eP E 69)), (1, .int x1), (2, .int x2), (3, .int x3)]) X.1 X.2.1 dX8_run_100 hl (by decide) rfl (fun ls hl => ?_)
                refine lv_aload_n X.1 X.2.1 dX8_run_102 rfl (lv_at hl 1 rfl) ?_
                refine lv_aload_n X.1 X.2.1 dX8_run_103 rfl (lv_at hl 1 rfl) ?_
                refine r_get X hw (sp69 hE) (C := RX8) (T := TX8) (N := 31) rfl iwX8 2 (by decide) (Nat.le_of_ble_eq_true rfl) qw868 (v := .ref (eP E 72)) rfl dX8_run_104 ?_
                obtain ⟨σ21, h20, hf⟩ := b_bd1 hf
                refine r_callV X hw (k_X8_lay hE (Or.inr rfl) h20) (sp69 hE) (C := RX8) (T := TX8) (N := 31) rfl qw1143 qw1145 qw59 qw79 qw1146 okX8_lay ⟨rfl, rfl⟩ ⟨(Nat.le_of_ble_eq_true rfl), (Nat.le_of_ble_eq_true rfl)⟩ ⟨Nat.zero_le _, Nat.zero_le _⟩ rfl hl.1 (rest := []) rfl (Nat.le_of_ble_eq_true rfl) dX8_run_107 (st1 := []) rfl (fun H locs hw => ?_)
                refine lv_iload X.1 X.2.1 dX8_run_110 (lv_at hl 0 rfl) ?_
                obtain ⟨rfl, rfl⟩ := Prod.mk.inj (Option.some.inj hf)
                exact r_iret X hw dX8_run_112
              · have hf := if_t hf c17
                refine lv_aload_n X.1 X.2.1 dX8_run_88 rfl (lv_at hl 0 rfl) ?_
                obtain ⟨r23, σ24, h22, hf⟩ := b_bd2 hf
                refine r_callV X hw (k_X8_lates hE  h22) (sp69 hE) (C := RX8) (T := TX8) (N := 31) rfl qw1135 qw1137 qw57 qw79 qw1138 okX8_lates ⟨rfl, rfl⟩ ⟨(Nat.le_of_ble_eq_true rfl), (Nat.le_of_ble_eq_true rfl)⟩ ⟨Nat.zero_le _, Nat.zero_le _⟩ rfl hl.1 (rest := []) rfl (Nat.le_of_ble_eq_true rfl) dX8_run_89 (st1 := [.int r23]) rfl (fun H locs hw => ?_)
                refine lv_goto (tgt := 100) X.1 X.2.1 dX8_run_92 (by decide) ?_
                refine lv_istore (lv' := [(4, .int r23), (0, .ref (eP E 69)), (1, .int x1), (2, .int x2), (3, .int x3)]) X.1 X.2.1 dX8_run_100 hl (by decide) rfl (fun ls hl => ?_)
                refine lv_aload_n X.1 X.2.1 dX8_run_102 rfl (lv_at hl 1 rfl) ?_
                refine lv_aload_n X.1 X.2.1 dX8_run_103 rfl (lv_at hl 1 rfl) ?_
                refine r_get X hw (sp69 hE) (C := RX8) (T := TX8) (N := 31) rfl iwX8 2 (by decide) (Nat.le_of_ble_eq_true rfl) qw868 (v := .ref (eP E 72)) rfl dX8_run_104 ?_
                obtain ⟨σ26, h25, hf⟩ := b_bd1 hf
                refine r_callV X hw (k_X8_lay hE (Or.inr rfl) h25) (sp69 hE) (C := RX8) (T := TX8) (N := 31) rfl qw1143 qw1145 qw59 qw79 qw1146 okX8_lay ⟨rfl, rfl⟩ ⟨(Nat.le_of_ble_eq_true rfl), (Nat.le_of_ble_eq_true rfl)⟩ ⟨Nat.zero_le _, Nat.zero_le _⟩ rfl hl.1 (rest := []) rfl (Nat.le_of_ble_eq_true rfl) dX8_run_107 (st1 := []) rfl (fun H locs hw => ?_)
                refine lv_iload X.1 X.2.1 dX8_run_110 (lv_at hl 0 rfl) ?_
                obtain ⟨rfl, rfl⟩ := Prod.mk.inj (Option.some.inj hf)
                exact r_iret X hw dX8_run_112
            · have hf := if_t hf c16
              refine lv_aload_n X.1 X.2.1 dX8_run_74 rfl (lv_at hl 0 rfl) ?_
              refine lv_iload_n X.1 X.2.1 dX8_run_75 rfl (lv_at hl 1 rfl) ?_
              refine lv_iconst (v := 5) X.1 X.2.1 dX8_run_76 (by decide) ?_
              obtain ⟨r28, h27, hf⟩ := b_bd1 hf
              refine r_callV X hw (k_X8_of hE  h27) (sp69 hE) (C := RX8) (T := TX8) (N := 31) rfl qw997 qw999 qw33 qw79 qw1000 okX8_of ⟨rfl, rfl⟩ ⟨(Nat.le_of_ble_eq_true rfl), (Nat.le_of_ble_eq_true rfl)⟩ ⟨Nat.zero_le _, Nat.zero_le _⟩ rfl hl.1 (rest := []) rfl (Nat.le_of_ble_eq_true rfl) dX8_run_77 (st1 := [.int r28]) rfl (fun H locs hw => ?_)
              refine lv_goto (tgt := 100) X.1 X.2.1 dX8_run_80 (by decide) ?_
              refine lv_istore (lv' := [(4, .int r28), (0, .ref (eP E 69)), (1, .int x1), (2, .int x2), (3, .int x3)]) X.1 X.2.1 dX8_run_100 hl (by decide) rfl (fun ls hl => ?_)
              refine lv_aload_n X.1 X.2.1 dX8_run_102 rfl (lv_at hl 1 rfl) ?_
              refine lv_aload_n X.1 X.2.1 dX8_run_103 rfl (lv_at hl 1 rfl) ?_
              refine r_get X hw (sp69 hE) (C := RX8) (T := TX8) (N := 31) rfl iwX8 2 (by decide) (Nat.le_of_ble_eq_true rfl) qw868 (v := .ref (eP E 72)) rfl dX8_run_104 ?_
              obtain ⟨σ30, h29, hf⟩ := b_bd1 hf
              refine r_callV X hw (k_X8_lay hE (Or.inr rfl) h29) (sp69 hE) (C := RX8) (T := TX8) (N := 31) rfl qw1143 qw1145 qw59 qw79 qw1146 okX8_lay ⟨rfl, rfl⟩ ⟨(Nat.le_of_ble_eq_true rfl), (Nat.le_of_ble_eq_true rfl)⟩ ⟨Nat.zero_le _, Nat.zero_le _⟩ rfl hl.1 (rest := []) rfl (Nat.le_of_ble_eq_true rfl) dX8_run_107 (st1 := []) rfl (fun H locs hw => ?_)
              refine lv_iload X.1 X.2.1 dX8_run_110 (lv_at hl 0 rfl) ?_
              obtain ⟨rfl, rfl⟩ := Prod.mk.inj (Option.some.inj hf)
              exact r_iret X hw dX8_run_112
          · have hf := if_t hf c15
            refine lv_aload_n X.1 X.2.1 dX8_run_60 rfl (lv_at hl 0 rfl) ?_
            refine lv_iload_n X.1 X.2.1 dX8_run_61 rfl (lv_at hl 1 rfl) ?_
            refine lv_iconst (v := 3) X.1 X.2.1 dX8_run_62 (by decide) ?_
            obtain ⟨r32, h31, hf⟩ := b_bd1 hf
            refine r_callV X hw (k_X8_of hE  h31) (sp69 hE) (C := RX8) (T := TX8) (N := 31) rfl qw997 qw999 qw33 qw79 qw1000 okX8_of ⟨rfl, rfl⟩ ⟨(Nat.le_of_ble_eq_true rfl), (Nat.le_of_ble_eq_true rfl)⟩ ⟨Nat.zero_le _, Nat.zero_le _⟩ rfl hl.1 (rest := []) rfl (Nat.le_of_ble_eq_true rfl) dX8_run_63 (st1 := [.int r32]) rfl (fun H locs hw => ?_)
            refine lv_goto (tgt := 100) X.1 X.2.1 dX8_run_66 (by decide) ?_
            refine lv_istore (lv' := [(4, .int r32), (0, .ref (eP E 69)), (1, .int x1), (2, .int x2), (3, .int x3)]) X.1 X.2.1 dX8_run_100 hl (by decide) rfl (fun ls hl => ?_)
            refine lv_aload_n X.1 X.2.1 dX8_run_102 rfl (lv_at hl 1 rfl) ?_
            refine lv_aload_n X.1 X.2.1 dX8_run_103 rfl (lv_at hl 1 rfl) ?_
            refine r_get X hw (sp69 hE) (C := RX8) (T := TX8) (N := 31) rfl iwX8 2 (by decide) (Nat.le_of_ble_eq_true rfl) qw868 (v := .ref (eP E 72)) rfl dX8_run_104 ?_
            obtain ⟨σ34, h33, hf⟩ := b_bd1 hf
            refine r_callV X hw (k_X8_lay hE (Or.inr rfl) h33) (sp69 hE) (C := RX8) (T := TX8) (N := 31) rfl qw1143 qw1145 qw59 qw79 qw1146 okX8_lay ⟨rfl, rfl⟩ ⟨(Nat.le_of_ble_eq_true rfl), (Nat.le_of_ble_eq_true rfl)⟩ ⟨Nat.zero_le _, Nat.zero_le _⟩ rfl hl.1 (rest := []) rfl (Nat.le_of_ble_eq_true rfl) dX8_run_107 (st1 := []) rfl (fun H locs hw => ?_)
            refine lv_iload X.1 X.2.1 dX8_run_110 (lv_at hl 0 rfl) ?_
            obtain ⟨rfl, rfl⟩ := Prod.mk.inj (Option.some.inj hf)
            exact r_iret X hw dX8_run_112
        · have hf := if_t hf c14
          refine lv_aload_n X.1 X.2.1 dX8_run_47 rfl (lv_at hl 0 rfl) ?_
          refine lv_iload_n X.1 X.2.1 dX8_run_48 rfl (lv_at hl 1 rfl) ?_
          obtain ⟨r36, σ37, h35, hf⟩ := b_bd2 hf
          refine r_callV X hw (k_X8_wakes hE  h35) (sp69 hE) (C := RX8) (T := TX8) (N := 31) rfl qw1005 qw1007 qw35 qw79 qw1008 okX8_wakes ⟨rfl, rfl⟩ ⟨(Nat.le_of_ble_eq_true rfl), (Nat.le_of_ble_eq_true rfl)⟩ ⟨Nat.zero_le _, Nat.zero_le _⟩ rfl hl.1 (rest := []) rfl (Nat.le_of_ble_eq_true rfl) dX8_run_49 (st1 := [.int r36]) rfl (fun H locs hw => ?_)
          refine lv_goto (tgt := 100) X.1 X.2.1 dX8_run_52 (by decide) ?_
          refine lv_istore (lv' := [(4, .int r36), (0, .ref (eP E 69)), (1, .int x1), (2, .int x2), (3, .int x3)]) X.1 X.2.1 dX8_run_100 hl (by decide) rfl (fun ls hl => ?_)
          refine lv_aload_n X.1 X.2.1 dX8_run_102 rfl (lv_at hl 1 rfl) ?_
          refine lv_aload_n X.1 X.2.1 dX8_run_103 rfl (lv_at hl 1 rfl) ?_
          refine r_get X hw (sp69 hE) (C := RX8) (T := TX8) (N := 31) rfl iwX8 2 (by decide) (Nat.le_of_ble_eq_true rfl) qw868 (v := .ref (eP E 72)) rfl dX8_run_104 ?_
          obtain ⟨σ39, h38, hf⟩ := b_bd1 hf
          refine r_callV X hw (k_X8_lay hE (Or.inr rfl) h38) (sp69 hE) (C := RX8) (T := TX8) (N := 31) rfl qw1143 qw1145 qw59 qw79 qw1146 okX8_lay ⟨rfl, rfl⟩ ⟨(Nat.le_of_ble_eq_true rfl), (Nat.le_of_ble_eq_true rfl)⟩ ⟨Nat.zero_le _, Nat.zero_le _⟩ rfl hl.1 (rest := []) rfl (Nat.le_of_ble_eq_true rfl) dX8_run_107 (st1 := []) rfl (fun H locs hw => ?_)
          refine lv_iload X.1 X.2.1 dX8_run_110 (lv_at hl 0 rfl) ?_
          obtain ⟨rfl, rfl⟩ := Prod.mk.inj (Option.some.inj hf)
          exact r_iret X hw dX8_run_112
      · have hf := if_t hf c9
        refine lv_bipush (v := (-2)) X.1 X.2.1 dX8_run_27 (by decide) ?_
        obtain ⟨rfl, rfl⟩ := Prod.mk.inj (Option.some.inj hf)
        exact r_iret X hw dX8_run_29
abbrev rm_X8_round : Room := { frames := 2, cells := 0, slots := 0, locals := 124 }
set_option maxHeartbeats 4000000 in
set_option maxRecDepth 100000 in
theorem w_X8_round_24 {p : Program} {l : Launch} {e : Env} {s : State} {m : MethodId} {args : Array Value} {below : List Frame} {meth : Method} {c : Code} {Q : State → Prop} {E : en_T} (X : Cx E p s m args meth c cX8_round 5 RX8 (some .int)) (hE : ShF E) {u1 : Int32} {σ : sg_T} {res : Int32 × Int32 × Int32} :
    ∀ (n : Nat) (w2 : Int32) (w3 : Int32) (w4 : Int32), itr (fun q => b_X8_round_24 u1 q.1 q.2.1 q.2.2 σ) n (w2, w3, w4) = some res → ∀ (H : Heap) (locs : List Loc) (ls : Array Slot), Hw E σ s H locs → lv_has ls 5 [(0, .ref (eP E 69)), (1, .int u1), (2, .int w2), (3, .int w3), (4, .int w4)] →
    (∀ (y2 : Int32) (y3 : Int32) (y4 : Int32), res = (y2, y3, y4) → ∀ (H : Heap) (locs : List Loc) (ls : Array Slot), Hw E σ s H locs → lv_has ls 5 [(0, .ref (eP E 69)), (1, .int u1), (2, .int y2), (3, .int y3), (4, .int y4)] → W p l e rm_X8_round s m args below meth c H locs 0 0 Q (F0 m 55 ls [])) →
    W p l e rm_X8_round s m args below meth c H locs 0 0 Q (F0 m 24 ls []) := by
  have hR : ShR E := hE.r
  intro n
  induction n with
  | zero =>
    intro w2 w3 w4 hf0
    exact (itr_0 hf0).elim
  | succ n ih =>
    intro w2 w3 w4 hf0 H locs ls hw hl K1
    obtain ⟨r0, hf, hr1, hr2⟩ := itr_s hf0
    have hf : b_X8_round_24 u1 w2 w3 w4 σ = some r0 := hf
    unfold b_X8_round_24 at hf
    refine lv_iload_n X.1 X.2.1 dX8_round_24 rfl (lv_at hl 3 rfl) ?_
    refine lv_iconst (v := (-1)) X.1 X.2.1 dX8_round_25 (by decide) ?_
    refine lv_icmp_eq (tgt := 55) X.1 X.2.1 dX8_round_26 (by decide) (fun c7 => ?_) (fun c7 => ?_)
    · have hf := if_t hf c7
      obtain rfl := Option.some.inj hf
      obtain rfl := hr2 _ rfl
      exact K1 _ _ _ rfl _ _ _ hw (lv_sub hl [0, 1, 2, 3, 4] rfl)
    · have hf := if_e hf c7
      refine lv_iload_n X.1 X.2.1 dX8_round_29 rfl (lv_at hl 2 rfl) ?_
      refine lv_iload_n X.1 X.2.1 dX8_round_30 rfl (lv_at hl 3 rfl) ?_
      refine lv_ishr X.1 X.2.1 dX8_round_31 ?_
      refine lv_iconst (v := 1) X.1 X.2.1 dX8_round_32 (by decide) ?_
      refine lv_iand X.1 X.2.1 dX8_round_33 ?_
      refine lv_if_ne (tgt := 55) X.1 X.2.1 dX8_round_34 (by decide) (fun c8 => ?_) (fun c8 => ?_)
      · have hf := if_e hf c8
        obtain rfl := Option.some.inj hf
        obtain rfl := hr2 _ rfl
        exact K1 _ _ _ rfl _ _ _ hw (lv_sub hl [0, 1, 2, 3, 4] rfl)
      · have hf := if_t hf c8
        refine lv_iload_n X.1 X.2.1 dX8_round_37 rfl (lv_at hl 2 rfl) ?_
        refine lv_iconst (v := 1) X.1 X.2.1 dX8_round_38 (by decide) ?_
        refine lv_iload_n X.1 X.2.1 dX8_round_39 rfl (lv_at hl 3 rfl) ?_
        refine lv_ishl X.1 X.2.1 dX8_round_40 ?_
        refine lv_ior X.1 X.2.1 dX8_round_41 ?_
        refine r_bnd hf (fun v9 hf => ?_)
        refine lv_istore_n (lv' := [(2, .int v9), (0, .ref (eP E 69)), (1, .int u1), (3, .int w3), (4, .int w4)]) X.1 X.2.1 dX8_round_42 rfl hl (by decide) rfl (fun ls hl => ?_)
        refine lv_aload_n X.1 X.2.1 dX8_round_43 rfl (lv_at hl 1 rfl) ?_
        refine lv_iload_n X.1 X.2.1 dX8_round_44 rfl (lv_at hl 3 rfl) ?_
        obtain ⟨r11, h10, hf⟩ := b_bd1 hf
        refine r_callV X hw (k_X8_setter hE  h10) (sp69 hE) (C := RX8) (T := TX8) (N := 31) rfl qw1001 qw1003 qw34 qw79 qw1004 okX8_setter ⟨rfl, rfl⟩ ⟨(Nat.le_of_ble_eq_true rfl), (Nat.le_of_ble_eq_true rfl)⟩ ⟨Nat.zero_le _, Nat.zero_le _⟩ rfl hl.1 (rest := []) rfl (Nat.le_of_ble_eq_true rfl) dX8_round_45 (st1 := [.int r11]) rfl (fun H locs hw => ?_)
        refine lv_istore_n (lv' := [(3, .int r11), (2, .int v9), (0, .ref (eP E 69)), (1, .int u1), (4, .int w4)]) X.1 X.2.1 dX8_round_48 rfl hl (by decide) rfl (fun ls hl => ?_)
        obtain ⟨v12, e13, hf⟩ := b_bnd hf
        refine lv_iinc (v := v12) (k := 4) (lv' := [(4, .int v12), (3, .int r11), (2, .int v9), (0, .ref (eP E 69)), (1, .int u1)]) X.1 X.2.1 dX8_round_49 hl rfl (by rw [e13]; exact congrArg _ (by decide)) (by decide) rfl (fun ls hl => ?_)
        refine lv_goto (tgt := 24) X.1 X.2.1 dX8_round_52 (by decide) ?_
        obtain rfl := Option.some.inj hf
        exact ih _ _ _ (hr1 _ rfl) _ _ _ hw (lv_sub hl [3, 4, 2, 1, 0] rfl) K1
set_option maxHeartbeats 4000000 in
set_option maxRecDepth 100000 in
theorem k_X8_round {l : Launch} {E : en_T} (hE : ShF E) {x1 : Int32} {σ : sg_T} {r : Int32} (hf : f_X8_round x1 σ = some r) : Ct l yX8_round cX8_round 5 (some .int) rm_X8_round E [.ref (eP E 69), .int x1] σ (some (.int r)) σ := by
  refine Ct.start (by decide) hE.1 (Nat.le_of_ble_eq_true rfl) ?_
  intro p e s m below meth c X hw ls hl
  have X : Cx E p s m _ meth c cX8_round 5 RX8 (some .int) := X
  have hR : ShR E := hE.r
  have hl : lv_has ls 5 [(0, .ref (eP E 69)), (1, .int x1)] := hl
  unfold f_X8_round at hf
  refine lv_aload_n X.1 X.2.1 dX8_round_0 rfl (lv_at hl 0 rfl) ?_
  refine lv_iload_n X.1 X.2.1 dX8_round_1 rfl (lv_at hl 1 rfl) ?_
  obtain ⟨r2, h1, hf⟩ := b_bd1 hf
  refine r_callV X hw (k_X8_isOne hE  h1) (sp69 hE) (C := RX8) (T := TX8) (N := 31) rfl qw977 qw979 qw30 qw79 qw980 okX8_isOne ⟨rfl, rfl⟩ ⟨(Nat.le_of_ble_eq_true rfl), (Nat.le_of_ble_eq_true rfl)⟩ ⟨Nat.zero_le _, Nat.zero_le _⟩ rfl hl.1 (rest := []) rfl (Nat.le_of_ble_eq_true rfl) dX8_round_2 (st1 := [.int r2]) rfl (fun H locs hw => ?_)
  refine lv_if_ne (tgt := 11) X.1 X.2.1 dX8_round_5 (by decide) (fun c3 => ?_) (fun c3 => ?_)
  · have hf := if_e hf c3
    refine lv_iconst (v := 1) X.1 X.2.1 dX8_round_11 (by decide) ?_
    refine lv_iload_n X.1 X.2.1 dX8_round_12 rfl (lv_at hl 1 rfl) ?_
    refine lv_ishl X.1 X.2.1 dX8_round_13 ?_
    refine r_bnd hf (fun v4 hf => ?_)
    refine lv_istore_n (lv' := [(2, .int v4), (0, .ref (eP E 69)), (1, .int x1)]) X.1 X.2.1 dX8_round_14 rfl hl (by decide) rfl (fun ls hl => ?_)
    refine lv_aload_n X.1 X.2.1 dX8_round_15 rfl (lv_at hl 1 rfl) ?_
    refine lv_iload_n X.1 X.2.1 dX8_round_16 rfl (lv_at hl 2 rfl) ?_
    obtain ⟨r6, h5, hf⟩ := b_bd1 hf
    refine r_callV X hw (k_X8_setter hE  h5) (sp69 hE) (C := RX8) (T := TX8) (N := 31) rfl qw1001 qw1003 qw34 qw79 qw1004 okX8_setter ⟨rfl, rfl⟩ ⟨(Nat.le_of_ble_eq_true rfl), (Nat.le_of_ble_eq_true rfl)⟩ ⟨Nat.zero_le _, Nat.zero_le _⟩ rfl hl.1 (rest := []) rfl (Nat.le_of_ble_eq_true rfl) dX8_round_17 (st1 := [.int r6]) rfl (fun H locs hw => ?_)
    refine lv_istore_n (lv' := [(3, .int r6), (2, .int v4), (0, .ref (eP E 69)), (1, .int x1)]) X.1 X.2.1 dX8_round_20 rfl hl (by decide) rfl (fun ls hl => ?_)
    refine lv_iconst (v := 1) X.1 X.2.1 dX8_round_21 (by decide) ?_
    refine lv_istore (lv' := [(4, .int 1), (3, .int r6), (2, .int v4), (0, .ref (eP E 69)), (1, .int x1)]) X.1 X.2.1 dX8_round_22 hl (by decide) rfl (fun ls hl => ?_)
    obtain ⟨v15, v16, v17, h14, hf⟩ := b_bd3 hf
    refine w_X8_round_24 X hE  lfu _ _ _ h14 _ _ _ hw (lv_sub hl [3, 4, 2, 1, 0] rfl) (fun yv15 yv16 yv17 hq H locs ls hw hl => ?_)
    cases hq
    refine lv_iload_n X.1 X.2.1 dX8_round_55 rfl (lv_at hl 3 rfl) ?_
    refine lv_iconst (v := (-1)) X.1 X.2.1 dX8_round_56 (by decide) ?_
    obtain ⟨v19, e20, hf⟩ := b_bnd hf
    refine r_join (g2 := F0 m 66 ls [.int v19]) ?_ (fun hj => ?_)
    · obtain rfl := Option.some.inj hf
      exact r_iret X hw dX8_round_66
    · refine lv_icmp_ne (tgt := 64) X.1 X.2.1 dX8_round_57 (by decide) (fun c18 => ?_) (fun c18 => ?_)
      · rw [e20, if_neg c18] at hj
        refine lv_iload X.1 X.2.1 dX8_round_64 (lv_at hl 4 rfl) ?_
        exact hj
      · rw [e20, if_pos c18] at hj
        refine lv_iconst (v := (-1)) X.1 X.2.1 dX8_round_60 (by decide) ?_
        refine lv_goto (tgt := 66) X.1 X.2.1 dX8_round_61 (by decide) ?_
        exact hj
  · have hf := if_t hf c3
    refine lv_bipush (v := (-2)) X.1 X.2.1 dX8_round_8 (by decide) ?_
    obtain rfl := Option.some.inj hf
    exact r_iret X hw dX8_round_10
def rm_arrange (n : Nat) : Room := { frames := n + 40, cells := 0, slots := 0, locals := 60 * n + 4000 }
theorem rm_arrange_ok (n : Nat) {k : Nat} (h : k ≤ 40) : (rm_arrange n).frames + 1 ≤ (rm_arrange (n + 1)).frames ∧ 8 + (k + 11) + (rm_arrange n).locals ≤ (rm_arrange (n + 1)).locals := by
  refine ⟨?_, ?_⟩
  · show n + 40 + 1 ≤ n + 1 + 40
    omega
  · show 8 + (k + 11) + (60 * n + 4000) ≤ 60 * (n + 1) + 4000
    omega
set_option maxHeartbeats 4000000 in
set_option maxRecDepth 100000 in
theorem w_X8_arrange_39 {p : Program} {l : Launch} {e : Env} {s : State} {m : MethodId} {args : Array Value} {below : List Frame} {meth : Method} {c : Code} {Q : State → Prop} {E : en_T} (X : Cx E p s m args meth c cX8_arrange 6 RX8 none) (hE : ShF E) {rec : Int32 → Int32 → Int32 → Int32 → sg_T → Option sg_T} {n0 : Nat} (ih_X8_arrange : ∀ {x1 x2 x3 x4 : Int32} {σ σ' : sg_T}, rec x1 x2 x3 x4 σ = some σ' → Ct l yX8_arrange cX8_arrange 6 none (rm_arrange n0) E [.ref (eP E 69), .int x1, .int x2, .int x3, .int x4] σ none σ') {u1 : Int32} {u2 : Int32} {u3 : Int32} {u4 : Int32}  {res : Int32 × sg_T} :
    ∀ (n : Nat) (w5 : Int32) (σ : sg_T), itr (fun q => b_X8_arrange_39 rec u1 u2 u3 u4 q.1 q.2) n (w5, σ) = some res → ∀ (H : Heap) (locs : List Loc) (ls : Array Slot), Hw E σ s H locs → lv_has ls 6 [(0, .ref (eP E 69)), (1, .int u1), (2, .int u2), (3, .int u3), (4, .int u4), (5, .int w5)] →
    (∀ (y5 : Int32) (τ : sg_T), res = (y5, τ) → ∀ (H : Heap) (locs : List Loc) (ls : Array Slot), Hw E τ s H locs → lv_has ls 6 [(0, .ref (eP E 69)), (1, .int u1), (2, .int u2), (3, .int u3), (4, .int u4), (5, .int y5)] → W p l e (rm_arrange (n0 + 1)) s m args below meth c H locs 0 0 Q (F0 m 113 ls [])) →
    W p l e (rm_arrange (n0 + 1)) s m args below meth c H locs 0 0 Q (F0 m 39 ls []) := by
  have hR : ShR E := hE.r
  intro n
  induction n with
  | zero =>
    intro w5 σ hf0
    exact (itr_0 hf0).elim
  | succ n ih =>
    intro w5 σ hf0 H locs ls hw hl K1
    obtain ⟨r0, hf, hr1, hr2⟩ := itr_s hf0
    have hf : b_X8_arrange_39 rec u1 u2 u3 u4 w5 σ = some r0 := hf
    unfold b_X8_arrange_39 at hf
    refine lv_iload X.1 X.2.1 dX8_arrange_39 (lv_at hl 5 rfl) ?_
    refine lv_aload_n X.1 X.2.1 dX8_arrange_41 rfl (lv_at hl 0 rfl) ?_
    obtain ⟨r5, h4, hf⟩ := b_bd1 hf
    refine r_callV X hw (k_X8_many hE  h4) (sp69 hE) (C := RX8) (T := TX8) (N := 31) rfl qw985 qw987 qw31 qw79 qw988 okX8_many ⟨rfl, rfl⟩ ⟨(Nat.le_trans (m := 40) (Nat.le_of_ble_eq_true rfl) (Nat.le_add_left _ _)), (Nat.le_trans (m := 4000) (Nat.le_of_ble_eq_true rfl) (Nat.le_add_left _ _))⟩ ⟨Nat.zero_le _, Nat.zero_le _⟩ rfl hl.1 (rest := [.int w5]) rfl (Nat.le_of_ble_eq_true rfl) dX8_arrange_42 (st1 := [.int r5, .int w5]) rfl (fun H locs hw => ?_)
    refine lv_icmp_ge (tgt := 113) X.1 X.2.1 dX8_arrange_45 (by decide) (fun c6 => ?_) (fun c6 => ?_)
    · have hf := if_t hf c6
      obtain rfl := Option.some.inj hf
      obtain rfl := hr2 _ rfl
      exact K1 _ _ rfl _ _ _ hw (lv_sub hl [0, 1, 2, 3, 4, 5] rfl)
    · have hf := if_e hf c6
      refine lv_iload X.1 X.2.1 dX8_arrange_48 (lv_at hl 5 rfl) ?_
      refine lv_iload_n X.1 X.2.1 dX8_arrange_50 rfl (lv_at hl 1 rfl) ?_
      refine lv_icmp_eq (tgt := 107) X.1 X.2.1 dX8_arrange_51 (by decide) (fun c7 => ?_) (fun c7 => ?_)
      · have hf := if_t hf c7
        obtain ⟨v8, e9, hf⟩ := b_bnd hf
        refine lv_iinc (v := v8) (k := 5) (lv' := [(5, .int v8), (0, .ref (eP E 69)), (1, .int u1), (2, .int u2), (3, .int u3), (4, .int u4)]) X.1 X.2.1 dX8_arrange_107 hl rfl (by rw [e9]; exact congrArg _ (by decide)) (by decide) rfl (fun ls hl => ?_)
        refine lv_goto (tgt := 39) X.1 X.2.1 dX8_arrange_110 (by decide) ?_
        obtain rfl := Option.some.inj hf
        exact ih _ _ (hr1 _ rfl) _ _ _ hw (lv_sub hl [1, 2, 3, 4, 5, 0] rfl) K1
      · have hf := if_e hf c7
        refine lv_iload_n X.1 X.2.1 dX8_arrange_54 rfl (lv_at hl 2 rfl) ?_
        refine lv_iload X.1 X.2.1 dX8_arrange_55 (lv_at hl 5 rfl) ?_
        refine lv_ishr X.1 X.2.1 dX8_arrange_57 ?_
        refine lv_iconst (v := 1) X.1 X.2.1 dX8_arrange_58 (by decide) ?_
        refine lv_iand X.1 X.2.1 dX8_arrange_59 ?_
        refine lv_if_ne (tgt := 107) X.1 X.2.1 dX8_arrange_60 (by decide) (fun c10 => ?_) (fun c10 => ?_)
        · have hf := if_e hf c10
          obtain ⟨v11, e12, hf⟩ := b_bnd hf
          refine lv_iinc (v := v11) (k := 5) (lv' := [(5, .int v11), (0, .ref (eP E 69)), (1, .int u1), (2, .int u2), (3, .int u3), (4, .int u4)]) X.1 X.2.1 dX8_arrange_107 hl rfl (by rw [e12]; exact congrArg _ (by decide)) (by decide) rfl (fun ls hl => ?_)
          refine lv_goto (tgt := 39) X.1 X.2.1 dX8_arrange_110 (by decide) ?_
          obtain rfl := Option.some.inj hf
          exact ih _ _ (hr1 _ rfl) _ _ _ hw (lv_sub hl [1, 2, 3, 4, 5, 0] rfl) K1
        · have hf := if_t hf c10
          refine lv_aload_n X.1 X.2.1 dX8_arrange_63 rfl (lv_at hl 0 rfl) ?_
          refine lv_iload_n X.1 X.2.1 dX8_arrange_64 rfl (lv_at hl 1 rfl) ?_
          refine lv_iconst (v := 1) X.1 X.2.1 dX8_arrange_65 (by decide) ?_
          refine lv_iadd X.1 X.2.1 dX8_arrange_66 ?_
          refine lv_iload_n X.1 X.2.1 dX8_arrange_67 rfl (lv_at hl 2 rfl) ?_
          refine lv_iconst (v := 1) X.1 X.2.1 dX8_arrange_68 (by decide) ?_
          refine lv_iload X.1 X.2.1 dX8_arrange_69 (lv_at hl 5 rfl) ?_
          refine lv_ishl X.1 X.2.1 dX8_arrange_71 ?_
          refine lv_ior X.1 X.2.1 dX8_arrange_72 ?_
          refine lv_iload_n X.1 X.2.1 dX8_arrange_73 rfl (lv_at hl 3 rfl) ?_
          refine lv_iconst (v := 0) X.1 X.2.1 dX8_arrange_74 (by decide) ?_
          refine lv_aload_n X.1 X.2.1 dX8_arrange_75 rfl (lv_at hl 0 rfl) ?_
          refine lv_iload_n X.1 X.2.1 dX8_arrange_76 rfl (lv_at hl 1 rfl) ?_
          refine lv_iload X.1 X.2.1 dX8_arrange_77 (lv_at hl 5 rfl) ?_
          obtain ⟨r14, σ15, h13, hf⟩ := b_bd2 hf
          refine r_callV X hw (k_X8_sets hE  h13) (sp69 hE) (C := RX8) (T := TX8) (N := 31) rfl qw1009 qw1011 qw36 qw79 qw1012 okX8_sets ⟨rfl, rfl⟩ ⟨(Nat.le_trans (m := 40) (Nat.le_of_ble_eq_true rfl) (Nat.le_add_left _ _)), (Nat.le_trans (m := 4000) (Nat.le_of_ble_eq_true rfl) (Nat.le_add_left _ _))⟩ ⟨Nat.zero_le _, Nat.zero_le _⟩ rfl hl.1 (rest := [.int 0, .int u3, .int (u2 ||| (1 <<< (w5 &&& 31))), .int (u1 + 1), .ref (eP E 69)]) rfl (Nat.le_of_ble_eq_true rfl) dX8_arrange_79 (st1 := [.int r14, .int 0, .int u3, .int (u2 ||| (1 <<< (w5 &&& 31))), .int (u1 + 1), .ref (eP E 69)]) rfl (fun H locs hw => ?_)
          refine lv_aload_n X.1 X.2.1 dX8_arrange_82 rfl (lv_at hl 0 rfl) ?_
          refine lv_iload X.1 X.2.1 dX8_arrange_83 (lv_at hl 5 rfl) ?_
          refine lv_iconst (v := 2) X.1 X.2.1 dX8_arrange_85 (by decide) ?_
          obtain ⟨r17, h16, hf⟩ := b_bd1 hf
          refine r_callV X hw (k_X8_of hE  h16) (sp69 hE) (C := RX8) (T := TX8) (N := 31) rfl qw997 qw999 qw33 qw79 qw1000 okX8_of ⟨rfl, rfl⟩ ⟨(Nat.le_trans (m := 40) (Nat.le_of_ble_eq_true rfl) (Nat.le_add_left _ _)), (Nat.le_trans (m := 4000) (Nat.le_of_ble_eq_true rfl) (Nat.le_add_left _ _))⟩ ⟨Nat.zero_le _, Nat.zero_le _⟩ rfl hl.1 (rest := [.int r14, .int 0, .int u3, .int (u2 ||| (1 <<< (w5 &&& 31))), .int (u1 + 1), .ref (eP E 69)]) rfl (Nat.le_of_ble_eq_true rfl) dX8_arrange_86 (st1 := [.int r17, .int r14, .int 0, .int u3, .int (u2 ||| (1 <<< (w5 &&& 31))), .int (u1 + 1), .ref (eP E 69)]) rfl (fun H locs hw => ?_)
          refine lv_isub X.1 X.2.1 dX8_arrange_89 ?_
          refine r_max X hl.1 qw1027 qw537 qw80 qw538 (Nat.le_trans (m := 40) (Nat.le_of_ble_eq_true rfl) (Nat.le_add_left _ _)) (Nat.le_trans (m := 4000) (Nat.le_of_ble_eq_true rfl) (Nat.le_add_left _ _)) (Nat.zero_le _) (Nat.zero_le _) dX8_arrange_90 ?_
          refine lv_iadd X.1 X.2.1 dX8_arrange_93 ?_
          refine lv_bipush (v := 10) X.1 X.2.1 dX8_arrange_94 (by decide) ?_
          refine lv_iload X.1 X.2.1 dX8_arrange_96 (lv_at hl 4 rfl) ?_
          refine lv_imul X.1 X.2.1 dX8_arrange_98 ?_
          refine lv_iload X.1 X.2.1 dX8_arrange_99 (lv_at hl 5 rfl) ?_
          refine lv_iadd X.1 X.2.1 dX8_arrange_101 ?_
          refine lv_iconst (v := 1) X.1 X.2.1 dX8_arrange_102 (by decide) ?_
          refine lv_iadd X.1 X.2.1 dX8_arrange_103 ?_
          obtain ⟨σ19, h18, hf⟩ := b_bd1 hf
          refine r_callV X hw (ih_X8_arrange  h18) (sp69 hE) (C := RX8) (T := TX8) (N := 31) rfl qw1155 qw1157 qw60 qw79 qw1158 okX8_arrange ⟨rfl, rfl⟩ (rm_arrange_ok n0 (by decide)) ⟨Nat.zero_le _, Nat.zero_le _⟩ rfl hl.1 (rest := []) rfl (Nat.le_of_ble_eq_true rfl) dX8_arrange_104 (st1 := []) rfl (fun H locs hw => ?_)
          obtain ⟨v20, e21, hf⟩ := b_bnd hf
          refine lv_iinc (v := v20) (k := 5) (lv' := [(5, .int v20), (0, .ref (eP E 69)), (1, .int u1), (2, .int u2), (3, .int u3), (4, .int u4)]) X.1 X.2.1 dX8_arrange_107 hl rfl (by rw [e21]; exact congrArg _ (by decide)) (by decide) rfl (fun ls hl => ?_)
          refine lv_goto (tgt := 39) X.1 X.2.1 dX8_arrange_110 (by decide) ?_
          obtain rfl := Option.some.inj hf
          exact ih _ _ (hr1 _ rfl) _ _ _ hw (lv_sub hl [1, 2, 3, 4, 5, 0] rfl) K1
set_option maxHeartbeats 4000000 in
set_option maxRecDepth 100000 in
theorem k_X8_arrange {l : Launch} {E : en_T} (hE : ShF E) {rec : Int32 → Int32 → Int32 → Int32 → sg_T → Option sg_T} {n0 : Nat} (ih_X8_arrange : ∀ {x1 x2 x3 x4 : Int32} {σ σ' : sg_T}, rec x1 x2 x3 x4 σ = some σ' → Ct l yX8_arrange cX8_arrange 6 none (rm_arrange n0) E [.ref (eP E 69), .int x1, .int x2, .int x3, .int x4] σ none σ') {x1 : Int32} {x2 : Int32} {x3 : Int32} {x4 : Int32} {σ : sg_T}  {σ' : sg_T} (hf : f_X8_arrange rec x1 x2 x3 x4 σ = some σ') : Ct l yX8_arrange cX8_arrange 6 none (rm_arrange (n0 + 1)) E [.ref (eP E 69), .int x1, .int x2, .int x3, .int x4] σ none σ' := by
  refine Ct.start (by decide) hE.1 (Nat.le_of_ble_eq_true rfl) ?_
  intro p e s m below meth c X hw ls hl
  have X : Cx E p s m _ meth c cX8_arrange 6 RX8 none := X
  have hR : ShR E := hE.r
  have hl : lv_has ls 6 [(0, .ref (eP E 69)), (1, .int x1), (2, .int x2), (3, .int x3), (4, .int x4)] := hl
  unfold f_X8_arrange at hf
  refine lv_iload_n X.1 X.2.1 dX8_arrange_0 rfl (lv_at hl 1 rfl) ?_
  refine lv_aload_n X.1 X.2.1 dX8_arrange_1 rfl (lv_at hl 0 rfl) ?_
  obtain ⟨r2, h1, hf⟩ := b_bd1 hf
  refine r_callV X hw (k_X8_many hE  h1) (sp69 hE) (C := RX8) (T := TX8) (N := 31) rfl qw985 qw987 qw31 qw79 qw988 okX8_many ⟨rfl, rfl⟩ ⟨(Nat.le_trans (m := 40) (Nat.le_of_ble_eq_true rfl) (Nat.le_add_left _ _)), (Nat.le_trans (m := 4000) (Nat.le_of_ble_eq_true rfl) (Nat.le_add_left _ _))⟩ ⟨Nat.zero_le _, Nat.zero_le _⟩ rfl hl.1 (rest := [.int x1]) rfl (Nat.le_of_ble_eq_true rfl) dX8_arrange_2 (st1 := [.int r2, .int x1]) rfl (fun H locs hw => ?_)
  refine lv_icmp_ne (tgt := 36) X.1 X.2.1 dX8_arrange_5 (by decide) (fun c3 => ?_) (fun c3 => ?_)
  · have hf := if_e hf c3
    refine lv_iconst (v := 0) X.1 X.2.1 dX8_arrange_36 (by decide) ?_
    refine lv_istore (lv' := [(5, .int 0), (0, .ref (eP E 69)), (1, .int x1), (2, .int x2), (3, .int x3), (4, .int x4)]) X.1 X.2.1 dX8_arrange_37 hl (by decide) rfl (fun ls hl => ?_)
    obtain ⟨v23, σ24, h22, hf⟩ := b_bd2 hf
    refine w_X8_arrange_39 X hE ih_X8_arrange  lfu _ _ h22 _ _ _ hw (lv_sub hl [1, 2, 3, 4, 5, 0] rfl) (fun yv23 yσ24 hq H locs ls hw hl => ?_)
    cases hq
    obtain rfl := Option.some.inj hf
    exact r_vret X hw dX8_arrange_113
  · have hf := if_t hf c3
    refine lv_aload_n X.1 X.2.1 dX8_arrange_8 rfl (lv_at hl 0 rfl) ?_
    refine r_get X hw (sp69 hE) (C := RX8) (T := TX8) (N := 31) rfl iwX8 23 (by decide) (Nat.le_of_ble_eq_true rfl) qw889 (v := .int (σ 69 23)) rfl dX8_arrange_9 ?_
    refine lv_iconst (v := (-1)) X.1 X.2.1 dX8_arrange_12 (by decide) ?_
    refine lv_icmp_eq (tgt := 24) X.1 X.2.1 dX8_arrange_13 (by decide) (fun c25 => ?_) (fun c25 => ?_)
    · have hf := if_t hf c25
      refine lv_aload_n X.1 X.2.1 dX8_arrange_24 rfl (lv_at hl 0 rfl) ?_
      refine lv_iload_n X.1 X.2.1 dX8_arrange_25 rfl (lv_at hl 3 rfl) ?_
      refine r_put X hw (sp69 hE) (C := RX8) (T := TX8) (N := 31) rfl iwX8 tyX8 tyX8_ok nmX8 23 (by decide) (Nat.le_of_ble_eq_true rfl) qw889 rfl (v := .int x3) rfl rfl (x := x3) rfl dX8_arrange_26 (fun H locs hw => ?_)
      obtain ⟨σ26, e27, hf⟩ := b_bnd hf
      rw [← e27] at hw
      refine lv_aload_n X.1 X.2.1 dX8_arrange_29 rfl (lv_at hl 0 rfl) ?_
      refine lv_iload X.1 X.2.1 dX8_arrange_30 (lv_at hl 4 rfl) ?_
      refine r_put X hw (sp69 hE) (C := RX8) (T := TX8) (N := 31) rfl iwX8 tyX8 tyX8_ok nmX8 24 (by decide) (Nat.le_of_ble_eq_true rfl) qw890 rfl (v := .int x4) rfl rfl (x := x4) rfl dX8_arrange_32 (fun H locs hw => ?_)
      obtain ⟨σ28, e29, hf⟩ := b_bnd hf
      rw [← e29] at hw
      obtain rfl := Option.some.inj hf
      exact r_vret X hw dX8_arrange_35
    · have hf := if_e hf c25
      refine lv_iload_n X.1 X.2.1 dX8_arrange_16 rfl (lv_at hl 3 rfl) ?_
      refine lv_aload_n X.1 X.2.1 dX8_arrange_17 rfl (lv_at hl 0 rfl) ?_
      refine r_get X hw (sp69 hE) (C := RX8) (T := TX8) (N := 31) rfl iwX8 23 (by decide) (Nat.le_of_ble_eq_true rfl) qw889 (v := .int (σ 69 23)) rfl dX8_arrange_18 ?_
      refine lv_icmp_ge (tgt := 35) X.1 X.2.1 dX8_arrange_21 (by decide) (fun c30 => ?_) (fun c30 => ?_)
      · have hf := if_t hf c30
        obtain rfl := Option.some.inj hf
        exact r_vret X hw dX8_arrange_35
      · have hf := if_e hf c30
        refine lv_aload_n X.1 X.2.1 dX8_arrange_24 rfl (lv_at hl 0 rfl) ?_
        refine lv_iload_n X.1 X.2.1 dX8_arrange_25 rfl (lv_at hl 3 rfl) ?_
        refine r_put X hw (sp69 hE) (C := RX8) (T := TX8) (N := 31) rfl iwX8 tyX8 tyX8_ok nmX8 23 (by decide) (Nat.le_of_ble_eq_true rfl) qw889 rfl (v := .int x3) rfl rfl (x := x3) rfl dX8_arrange_26 (fun H locs hw => ?_)
        obtain ⟨σ31, e32, hf⟩ := b_bnd hf
        rw [← e32] at hw
        refine lv_aload_n X.1 X.2.1 dX8_arrange_29 rfl (lv_at hl 0 rfl) ?_
        refine lv_iload X.1 X.2.1 dX8_arrange_30 (lv_at hl 4 rfl) ?_
        refine r_put X hw (sp69 hE) (C := RX8) (T := TX8) (N := 31) rfl iwX8 tyX8 tyX8_ok nmX8 24 (by decide) (Nat.le_of_ble_eq_true rfl) qw890 rfl (v := .int x4) rfl rfl (x := x4) rfl dX8_arrange_32 (fun H locs hw => ?_)
        obtain ⟨σ33, e34, hf⟩ := b_bnd hf
        rw [← e34] at hw
        obtain rfl := Option.some.inj hf
        exact r_vret X hw dX8_arrange_35
theorem kr_arrange {l : Launch} {E : en_T} (hE : ShF E) : ∀ (n : Nat) {x1 x2 x3 x4 : Int32} {σ σ' : sg_T}, g_arrange n x1 x2 x3 x4 σ = some σ' → Ct l yX8_arrange cX8_arrange 6 none (rm_arrange n) E [.ref (eP E 69), .int x1, .int x2, .int x3, .int x4] σ none σ' := by
  intro n
  induction n with
  | zero => intro x1 x2 x3 x4 σ σ' h; cases h
  | succ n ih => intro x1 x2 x3 x4 σ σ' h; exact k_X8_arrange hE ih h
theorem kg_X8_arrange {l : Launch} {E : en_T} (hE : ShF E) {x1 x2 x3 x4 : Int32} {σ σ' : sg_T} (h : g_arrange rfu x1 x2 x3 x4 σ = some σ') : Ct l yX8_arrange cX8_arrange 6 none (rm_arrange rfu) E [.ref (eP E 69), .int x1, .int x2, .int x3, .int x4] σ none σ' := kr_arrange hE rfu h

abbrev rm_X8_others : Room := { frames := 105, cells := 0, slots := 0, locals := 7865 }
set_option maxHeartbeats 4000000 in
set_option maxRecDepth 100000 in
theorem k_X8_others {l : Launch} {E : en_T} (hE : ShF E) {x1 : Int32} {σ : sg_T} {r : Int32} {σ' : sg_T} (hf : f_X8_others x1 σ = some (r, σ')) : Ct l yX8_others cX8_others 2 (some .int) rm_X8_others E [.ref (eP E 69), .int x1] σ (some (.int r)) σ' := by
  refine Ct.start (by decide) hE.1 (Nat.le_of_ble_eq_true rfl) ?_
  intro p e s m below meth c X hw ls hl
  have X : Cx E p s m _ meth c cX8_others 2 RX8 (some .int) := X
  have hR : ShR E := hE.r
  have hl : lv_has ls 2 [(0, .ref (eP E 69)), (1, .int x1)] := hl
  unfold f_X8_others at hf
  refine lv_iload_n X.1 X.2.1 dX8_others_0 rfl (lv_at hl 1 rfl) ?_
  refine lv_iconst (v := 0) X.1 X.2.1 dX8_others_1 (by decide) ?_
  refine lv_iconst (v := 1) X.1 X.2.1 dX8_others_2 (by decide) ?_
  obtain ⟨r2, h1, hf⟩ := b_bd1 hf
  refine r_callS X hw (k_X8_isIn hE  h1) qw966 qw967 qw79 qw968 okX8_isIn ⟨rfl, rfl⟩ ⟨(Nat.le_of_ble_eq_true rfl), (Nat.le_of_ble_eq_true rfl)⟩ ⟨Nat.zero_le _, Nat.zero_le _⟩ rfl hl.1 (rest := []) rfl (Nat.le_of_ble_eq_true rfl) dX8_others_3 (st1 := [.int r2]) rfl (fun H locs hw => ?_)
  refine lv_if_ne (tgt := 12) X.1 X.2.1 dX8_others_6 (by decide) (fun c3 => ?_) (fun c3 => ?_)
  · have hf := if_e hf c3
    refine lv_aload_n X.1 X.2.1 dX8_others_12 rfl (lv_at hl 0 rfl) ?_
    refine lv_iconst (v := (-1)) X.1 X.2.1 dX8_others_13 (by decide) ?_
    refine r_put X hw (sp69 hE) (C := RX8) (T := TX8) (N := 31) rfl iwX8 tyX8 tyX8_ok nmX8 23 (by decide) (Nat.le_of_ble_eq_true rfl) qw889 rfl (v := .int (-1)) rfl rfl (x := (-1)) rfl dX8_others_14 (fun H locs hw => ?_)
    obtain ⟨σ4, e5, hf⟩ := b_bnd hf
    rw [← e5] at hw
    refine lv_aload_n X.1 X.2.1 dX8_others_17 rfl (lv_at hl 0 rfl) ?_
    refine lv_iconst (v := (-1)) X.1 X.2.1 dX8_others_18 (by decide) ?_
    refine r_put X hw (sp69 hE) (C := RX8) (T := TX8) (N := 31) rfl iwX8 tyX8 tyX8_ok nmX8 24 (by decide) (Nat.le_of_ble_eq_true rfl) qw890 rfl (v := .int (-1)) rfl rfl (x := (-1)) rfl dX8_others_19 (fun H locs hw => ?_)
    obtain ⟨σ6, e7, hf⟩ := b_bnd hf
    rw [← e7] at hw
    refine lv_aload_n X.1 X.2.1 dX8_others_22 rfl (lv_at hl 0 rfl) ?_
    obtain ⟨r9, h8, hf⟩ := b_bd1 hf
    refine r_callV X hw (k_X8_many hE  h8) (sp69 hE) (C := RX8) (T := TX8) (N := 31) rfl qw985 qw987 qw31 qw79 qw988 okX8_many ⟨rfl, rfl⟩ ⟨(Nat.le_of_ble_eq_true rfl), (Nat.le_of_ble_eq_true rfl)⟩ ⟨Nat.zero_le _, Nat.zero_le _⟩ rfl hl.1 (rest := []) rfl (Nat.le_of_ble_eq_true rfl) dX8_others_23 (st1 := [.int r9]) rfl (fun H locs hw => ?_)
    refine lv_iconst (v := 1) X.1 X.2.1 dX8_others_26 (by decide) ?_
    refine lv_icmp_le (tgt := 38) X.1 X.2.1 dX8_others_27 (by decide) (fun c10 => ?_) (fun c10 => ?_)
    · have hf := if_t hf c10
      refine lv_iload_n X.1 X.2.1 dX8_others_38 rfl (lv_at hl 1 rfl) ?_
      refine lv_if_ne (tgt := 49) X.1 X.2.1 dX8_others_39 (by decide) (fun c11 => ?_) (fun c11 => ?_)
      · have hf := if_e hf c11
        refine lv_aload_n X.1 X.2.1 dX8_others_49 rfl (lv_at hl 0 rfl) ?_
        refine r_get X hw (sp69 hE) (C := RX8) (T := TX8) (N := 31) rfl iwX8 23 (by decide) (Nat.le_of_ble_eq_true rfl) qw889 (v := .int (σ6 69 23)) rfl dX8_others_50 ?_
        obtain ⟨rfl, rfl⟩ := Prod.mk.inj (Option.some.inj hf)
        exact r_iret X hw dX8_others_53
      · have hf := if_t hf c11
        refine lv_aload_n X.1 X.2.1 dX8_others_42 rfl (lv_at hl 0 rfl) ?_
        refine r_get X hw (sp69 hE) (C := RX8) (T := TX8) (N := 31) rfl iwX8 24 (by decide) (Nat.le_of_ble_eq_true rfl) qw890 (v := .int (σ6 69 24)) rfl dX8_others_43 ?_
        refine lv_goto (tgt := 53) X.1 X.2.1 dX8_others_46 (by decide) ?_
        obtain ⟨rfl, rfl⟩ := Prod.mk.inj (Option.some.inj hf)
        exact r_iret X hw dX8_others_53
    · have hf := if_e hf c10
      refine lv_aload_n X.1 X.2.1 dX8_others_30 rfl (lv_at hl 0 rfl) ?_
      refine lv_iconst (v := 0) X.1 X.2.1 dX8_others_31 (by decide) ?_
      refine lv_iconst (v := 0) X.1 X.2.1 dX8_others_32 (by decide) ?_
      refine lv_iconst (v := 0) X.1 X.2.1 dX8_others_33 (by decide) ?_
      refine lv_iconst (v := 0) X.1 X.2.1 dX8_others_34 (by decide) ?_
      obtain ⟨σ13, h12, hf⟩ := b_bd1 hf
      refine r_callV X hw (kg_X8_arrange hE  h12) (sp69 hE) (C := RX8) (T := TX8) (N := 31) rfl qw1155 qw1157 qw60 qw79 qw1158 okX8_arrange ⟨rfl, rfl⟩ ⟨(Nat.le_of_ble_eq_true rfl), (Nat.le_of_ble_eq_true rfl)⟩ ⟨Nat.zero_le _, Nat.zero_le _⟩ rfl hl.1 (rest := []) rfl (Nat.le_of_ble_eq_true rfl) dX8_others_35 (st1 := []) rfl (fun H locs hw => ?_)
      refine lv_iload_n X.1 X.2.1 dX8_others_38 rfl (lv_at hl 1 rfl) ?_
      refine lv_if_ne (tgt := 49) X.1 X.2.1 dX8_others_39 (by decide) (fun c14 => ?_) (fun c14 => ?_)
      · have hf := if_e hf c14
        refine lv_aload_n X.1 X.2.1 dX8_others_49 rfl (lv_at hl 0 rfl) ?_
        refine r_get X hw (sp69 hE) (C := RX8) (T := TX8) (N := 31) rfl iwX8 23 (by decide) (Nat.le_of_ble_eq_true rfl) qw889 (v := .int (σ13 69 23)) rfl dX8_others_50 ?_
        obtain ⟨rfl, rfl⟩ := Prod.mk.inj (Option.some.inj hf)
        exact r_iret X hw dX8_others_53
      · have hf := if_t hf c14
        refine lv_aload_n X.1 X.2.1 dX8_others_42 rfl (lv_at hl 0 rfl) ?_
        refine r_get X hw (sp69 hE) (C := RX8) (T := TX8) (N := 31) rfl iwX8 24 (by decide) (Nat.le_of_ble_eq_true rfl) qw890 (v := .int (σ13 69 24)) rfl dX8_others_43 ?_
        refine lv_goto (tgt := 53) X.1 X.2.1 dX8_others_46 (by decide) ?_
        obtain ⟨rfl, rfl⟩ := Prod.mk.inj (Option.some.inj hf)
        exact r_iret X hw dX8_others_53
  · have hf := if_t hf c3
    refine lv_bipush (v := (-2)) X.1 X.2.1 dX8_others_9 (by decide) ?_
    obtain ⟨rfl, rfl⟩ := Prod.mk.inj (Option.some.inj hf)
    exact r_iret X hw dX8_others_11
abbrev rm_X8_lateBehind : Room := { frames := 8, cells := 0, slots := 0, locals := 262 }
set_option maxHeartbeats 4000000 in
set_option maxRecDepth 100000 in
theorem k_X8_lateBehind {l : Launch} {E : en_T} (hE : ShF E) {x1 : Int32} {σ : sg_T} {r : Int32} {σ' : sg_T} (hf : f_X8_lateBehind x1 σ = some (r, σ')) : Ct l yX8_lateBehind cX8_lateBehind 3 (some .int) rm_X8_lateBehind E [.ref (eP E 69), .int x1] σ (some (.int r)) σ' := by
  refine Ct.start (by decide) hE.1 (Nat.le_of_ble_eq_true rfl) ?_
  intro p e s m below meth c X hw ls hl
  have X : Cx E p s m _ meth c cX8_lateBehind 3 RX8 (some .int) := X
  have hR : ShR E := hE.r
  have hl : lv_has ls 3 [(0, .ref (eP E 69)), (1, .int x1)] := hl
  unfold f_X8_lateBehind at hf
  refine lv_aload_n X.1 X.2.1 dX8_lateBehind_0 rfl (lv_at hl 0 rfl) ?_
  refine lv_aload_n X.1 X.2.1 dX8_lateBehind_1 rfl (lv_at hl 0 rfl) ?_
  refine r_get X hw (sp69 hE) (C := RX8) (T := TX8) (N := 31) rfl iwX8 2 (by decide) (Nat.le_of_ble_eq_true rfl) qw868 (v := .ref (eP E 72)) rfl dX8_lateBehind_2 ?_
  obtain ⟨σ2, h1, hf⟩ := b_bd1 hf
  refine r_callV X hw (k_X8_keep hE (Or.inr rfl) h1) (sp69 hE) (C := RX8) (T := TX8) (N := 31) rfl qw1127 qw1129 qw55 qw79 qw1130 okX8_keep ⟨rfl, rfl⟩ ⟨(Nat.le_of_ble_eq_true rfl), (Nat.le_of_ble_eq_true rfl)⟩ ⟨Nat.zero_le _, Nat.zero_le _⟩ rfl hl.1 (rest := []) rfl (Nat.le_of_ble_eq_true rfl) dX8_lateBehind_5 (st1 := []) rfl (fun H locs hw => ?_)
  refine lv_aload_n X.1 X.2.1 dX8_lateBehind_8 rfl (lv_at hl 0 rfl) ?_
  refine lv_iload_n X.1 X.2.1 dX8_lateBehind_9 rfl (lv_at hl 1 rfl) ?_
  obtain ⟨σ4, h3, hf⟩ := b_bd1 hf
  refine r_callV X hw (k_X8_goDays hE  h3) (sp69 hE) (C := RX8) (T := TX8) (N := 31) rfl qw1131 qw1133 qw56 qw79 qw1134 okX8_goDays ⟨rfl, rfl⟩ ⟨(Nat.le_of_ble_eq_true rfl), (Nat.le_of_ble_eq_true rfl)⟩ ⟨Nat.zero_le _, Nat.zero_le _⟩ rfl hl.1 (rest := []) rfl (Nat.le_of_ble_eq_true rfl) dX8_lateBehind_10 (st1 := []) rfl (fun H locs hw => ?_)
  refine lv_aload_n X.1 X.2.1 dX8_lateBehind_13 rfl (lv_at hl 0 rfl) ?_
  refine lv_iconst (v := 5) X.1 X.2.1 dX8_lateBehind_14 (by decide) ?_
  obtain ⟨r6, h5, hf⟩ := b_bd1 hf
  refine r_callV X hw (k_X8_all hE  h5) (sp69 hE) (C := RX8) (T := TX8) (N := 31) rfl qw1139 qw1141 qw58 qw79 qw1142 okX8_all ⟨rfl, rfl⟩ ⟨(Nat.le_of_ble_eq_true rfl), (Nat.le_of_ble_eq_true rfl)⟩ ⟨Nat.zero_le _, Nat.zero_le _⟩ rfl hl.1 (rest := []) rfl (Nat.le_of_ble_eq_true rfl) dX8_lateBehind_15 (st1 := [.int r6]) rfl (fun H locs hw => ?_)
  refine lv_istore_n (lv' := [(2, .int r6), (0, .ref (eP E 69)), (1, .int x1)]) X.1 X.2.1 dX8_lateBehind_18 rfl hl (by decide) rfl (fun ls hl => ?_)
  refine lv_aload_n X.1 X.2.1 dX8_lateBehind_19 rfl (lv_at hl 1 rfl) ?_
  refine lv_aload_n X.1 X.2.1 dX8_lateBehind_20 rfl (lv_at hl 1 rfl) ?_
  refine r_get X hw (sp69 hE) (C := RX8) (T := TX8) (N := 31) rfl iwX8 2 (by decide) (Nat.le_of_ble_eq_true rfl) qw868 (v := .ref (eP E 72)) rfl dX8_lateBehind_21 ?_
  obtain ⟨σ8, h7, hf⟩ := b_bd1 hf
  refine r_callV X hw (k_X8_lay hE (Or.inr rfl) h7) (sp69 hE) (C := RX8) (T := TX8) (N := 31) rfl qw1143 qw1145 qw59 qw79 qw1146 okX8_lay ⟨rfl, rfl⟩ ⟨(Nat.le_of_ble_eq_true rfl), (Nat.le_of_ble_eq_true rfl)⟩ ⟨Nat.zero_le _, Nat.zero_le _⟩ rfl hl.1 (rest := []) rfl (Nat.le_of_ble_eq_true rfl) dX8_lateBehind_24 (st1 := []) rfl (fun H locs hw => ?_)
  refine lv_iload_n X.1 X.2.1 dX8_lateBehind_27 rfl (lv_at hl 0 rfl) ?_
  obtain ⟨rfl, rfl⟩ := Prod.mk.inj (Option.some.inj hf)
  exact r_iret X hw dX8_lateBehind_28
abbrev rm_X8_duty : Room := { frames := 9, cells := 0, slots := 0, locals := 284 }
set_option maxHeartbeats 4000000 in
set_option maxRecDepth 100000 in
theorem w_X8_duty_48 {p : Program} {l : Launch} {e : Env} {s : State} {m : MethodId} {args : Array Value} {below : List Frame} {meth : Method} {c : Code} {Q : State → Prop} {E : en_T} (X : Cx E p s m args meth c cX8_duty 9 RX8 (some .int)) (hE : ShF E) {u1 : Int32} {u2 : Int32} {u3 : Int32} {u4 : Int32}  {res : Int32 × Int32 × Int32 × sg_T} :
    ∀ (n : Nat) (w5 : Int32) (w6 : Int32) (w7 : Int32) (σ : sg_T), itr (fun q => b_X8_duty_48 u1 u2 u3 u4 q.1 q.2.1 q.2.2.1 q.2.2.2) n (w5, w6, w7, σ) = some res → ∀ (H : Heap) (locs : List Loc) (ls : Array Slot), Hw E σ s H locs → lv_has ls 9 [(0, .ref (eP E 69)), (1, .int u1), (2, .int u2), (3, .int u3), (4, .int u4), (5, .int w5), (6, .int w6), (7, .int w7)] →
    (∀ (y5 : Int32) (y6 : Int32) (y7 : Int32) (τ : sg_T), res = (y5, y6, y7, τ) → ∀ (H : Heap) (locs : List Loc) (ls : Array Slot), Hw E τ s H locs → lv_has ls 9 [(0, .ref (eP E 69)), (1, .int u1), (2, .int u2), (3, .int u3), (4, .int u4), (5, .int y5), (6, .int y6), (7, .int y7)] → W p l e rm_X8_duty s m args below meth c H locs 0 0 Q (F0 m 101 ls [])) →
    W p l e rm_X8_duty s m args below meth c H locs 0 0 Q (F0 m 48 ls []) := by
  have hR : ShR E := hE.r
  intro n
  induction n with
  | zero =>
    intro w5 w6 w7 σ hf0
    exact (itr_0 hf0).elim
  | succ n ih =>
    intro w5 w6 w7 σ hf0 H locs ls hw hl K1
    obtain ⟨r0, hf, hr1, hr2⟩ := itr_s hf0
    have hf : b_X8_duty_48 u1 u2 u3 u4 w5 w6 w7 σ = some r0 := hf
    unfold b_X8_duty_48 at hf
    refine lv_iload X.1 X.2.1 dX8_duty_48 (lv_at hl 7 rfl) ?_
    refine lv_bipush (v := 24) X.1 X.2.1 dX8_duty_50 (by decide) ?_
    refine lv_icmp_ge (tgt := 101) X.1 X.2.1 dX8_duty_52 (by decide) (fun c12 => ?_) (fun c12 => ?_)
    · have hf := if_t hf c12
      obtain rfl := Option.some.inj hf
      obtain rfl := hr2 _ rfl
      exact K1 _ _ _ _ rfl _ _ _ hw (lv_sub hl [0, 1, 2, 3, 4, 5, 6, 7] rfl)
    · have hf := if_e hf c12
      refine lv_aload_n X.1 X.2.1 dX8_duty_55 rfl (lv_at hl 0 rfl) ?_
      refine lv_iload_n X.1 X.2.1 dX8_duty_56 rfl (lv_at hl 1 rfl) ?_
      refine lv_iconst (v := 2) X.1 X.2.1 dX8_duty_57 (by decide) ?_
      refine lv_iload X.1 X.2.1 dX8_duty_58 (lv_at hl 7 rfl) ?_
      obtain ⟨σ14, h13, hf⟩ := b_bd1 hf
      refine r_callV X hw (k_X8_change hE  h13) (sp69 hE) (C := RX8) (T := TX8) (N := 31) rfl qw989 qw991 qw32 qw79 qw992 okX8_change ⟨rfl, rfl⟩ ⟨(Nat.le_of_ble_eq_true rfl), (Nat.le_of_ble_eq_true rfl)⟩ ⟨Nat.zero_le _, Nat.zero_le _⟩ rfl hl.1 (rest := []) rfl (Nat.le_of_ble_eq_true rfl) dX8_duty_60 (st1 := []) rfl (fun H locs hw => ?_)
      refine lv_aload_n X.1 X.2.1 dX8_duty_63 rfl (lv_at hl 0 rfl) ?_
      refine lv_iload_n X.1 X.2.1 dX8_duty_64 rfl (lv_at hl 2 rfl) ?_
      obtain ⟨r16, σ17, h15, hf⟩ := b_bd2 hf
      refine r_callV X hw (k_X8_lateBehind hE  h15) (sp69 hE) (C := RX8) (T := TX8) (N := 31) rfl qw1164 qw1166 qw61 qw79 qw1167 okX8_lateBehind ⟨rfl, rfl⟩ ⟨(Nat.le_of_ble_eq_true rfl), (Nat.le_of_ble_eq_true rfl)⟩ ⟨Nat.zero_le _, Nat.zero_le _⟩ rfl hl.1 (rest := []) rfl (Nat.le_of_ble_eq_true rfl) dX8_duty_65 (st1 := [.int r16]) rfl (fun H locs hw => ?_)
      refine lv_istore (lv' := [(8, .int r16), (0, .ref (eP E 69)), (1, .int u1), (2, .int u2), (3, .int u3), (4, .int u4), (5, .int w5), (6, .int w6), (7, .int w7)]) X.1 X.2.1 dX8_duty_68 hl (by decide) rfl (fun ls hl => ?_)
      refine lv_iload X.1 X.2.1 dX8_duty_70 (lv_at hl 0 rfl) ?_
      refine lv_iload X.1 X.2.1 dX8_duty_72 (lv_at hl 7 rfl) ?_
      obtain ⟨v19, e20, hf⟩ := b_bnd hf
      refine r_join (g2 := F0 m 84 ls [.int v19]) ?_ (fun hj => ?_)
      · refine lv_istore (lv' := [(5, .int v19), (8, .int r16), (0, .ref (eP E 69)), (1, .int u1), (2, .int u2), (3, .int u3), (4, .int u4), (6, .int w6), (7, .int w7)]) X.1 X.2.1 dX8_duty_84 hl (by decide) rfl (fun ls hl => ?_)
        refine lv_iload X.1 X.2.1 dX8_duty_86 (lv_at hl 1 rfl) ?_
        refine lv_iload X.1 X.2.1 dX8_duty_88 (lv_at hl 7 rfl) ?_
        refine r_min X hl.1 qw1026 qw534 qw80 qw535 (Nat.le_of_ble_eq_true rfl) (Nat.le_of_ble_eq_true rfl) (Nat.zero_le _) (Nat.zero_le _) dX8_duty_90 ?_
        refine r_bnd hf (fun v21 hf => ?_)
        refine lv_istore (lv' := [(6, .int v21), (5, .int v19), (8, .int r16), (0, .ref (eP E 69)), (1, .int u1), (2, .int u2), (3, .int u3), (4, .int u4), (7, .int w7)]) X.1 X.2.1 dX8_duty_93 hl (by decide) rfl (fun ls hl => ?_)
        obtain ⟨v22, e23, hf⟩ := b_bnd hf
        refine lv_iinc (v := v22) (k := 8) (lv' := [(7, .int v22), (6, .int v21), (5, .int v19), (8, .int r16), (0, .ref (eP E 69)), (1, .int u1), (2, .int u2), (3, .int u3), (4, .int u4)]) X.1 X.2.1 dX8_duty_95 hl rfl (by rw [e23]; exact congrArg _ (by decide)) (by decide) rfl (fun ls hl => ?_)
        refine lv_goto (tgt := 48) X.1 X.2.1 dX8_duty_98 (by decide) ?_
        obtain rfl := Option.some.inj hf
        exact ih _ _ _ _ (hr1 _ rfl) _ _ _ hw (lv_sub hl [4, 5, 6, 7, 8, 2, 1, 0] rfl) K1
      · refine lv_icmp_ge (tgt := 82) X.1 X.2.1 dX8_duty_74 (by decide) (fun c18 => ?_) (fun c18 => ?_)
        · rw [e20, if_pos c18] at hj
          refine lv_iload X.1 X.2.1 dX8_duty_82 (lv_at hl 6 rfl) ?_
          exact hj
        · rw [e20, if_neg c18] at hj
          refine lv_iload X.1 X.2.1 dX8_duty_77 (lv_at hl 8 rfl) ?_
          refine lv_goto (tgt := 84) X.1 X.2.1 dX8_duty_79 (by decide) ?_
          exact hj
set_option maxHeartbeats 4000000 in
set_option maxRecDepth 100000 in
theorem k_X8_duty {l : Launch} {E : en_T} (hE : ShF E) {x1 : Int32} {x2 : Int32} {x3 : Int32} {σ : sg_T} {r : Int32} {σ' : sg_T} (hf : f_X8_duty x1 x2 x3 σ = some (r, σ')) : Ct l yX8_duty cX8_duty 9 (some .int) rm_X8_duty E [.ref (eP E 69), .int x1, .int x2, .int x3] σ (some (.int r)) σ' := by
  refine Ct.start (by decide) hE.1 (Nat.le_of_ble_eq_true rfl) ?_
  intro p e s m below meth c X hw ls hl
  have X : Cx E p s m _ meth c cX8_duty 9 RX8 (some .int) := X
  have hR : ShR E := hE.r
  have hl : lv_has ls 9 [(0, .ref (eP E 69)), (1, .int x1), (2, .int x2), (3, .int x3)] := hl
  unfold f_X8_duty at hf
  refine lv_aload_n X.1 X.2.1 dX8_duty_0 rfl (lv_at hl 0 rfl) ?_
  refine lv_iload_n X.1 X.2.1 dX8_duty_1 rfl (lv_at hl 1 rfl) ?_
  obtain ⟨r2, h1, hf⟩ := b_bd1 hf
  refine r_callV X hw (k_X8_isOne hE  h1) (sp69 hE) (C := RX8) (T := TX8) (N := 31) rfl qw977 qw979 qw30 qw79 qw980 okX8_isOne ⟨rfl, rfl⟩ ⟨(Nat.le_of_ble_eq_true rfl), (Nat.le_of_ble_eq_true rfl)⟩ ⟨Nat.zero_le _, Nat.zero_le _⟩ rfl hl.1 (rest := []) rfl (Nat.le_of_ble_eq_true rfl) dX8_duty_2 (st1 := [.int r2]) rfl (fun H locs hw => ?_)
  refine lv_if_eq (tgt := 27) X.1 X.2.1 dX8_duty_5 (by decide) (fun c3 => ?_) (fun c3 => ?_)
  · have hf := if_t hf c3
    refine lv_bipush (v := (-2)) X.1 X.2.1 dX8_duty_27 (by decide) ?_
    obtain ⟨rfl, rfl⟩ := Prod.mk.inj (Option.some.inj hf)
    exact r_iret X hw dX8_duty_29
  · have hf := if_e hf c3
    refine lv_iload_n X.1 X.2.1 dX8_duty_8 rfl (lv_at hl 2 rfl) ?_
    refine lv_iconst (v := 0) X.1 X.2.1 dX8_duty_9 (by decide) ?_
    refine lv_bipush (v := 20) X.1 X.2.1 dX8_duty_10 (by decide) ?_
    obtain ⟨r5, h4, hf⟩ := b_bd1 hf
    refine r_callS X hw (k_X8_isIn hE  h4) qw966 qw967 qw79 qw968 okX8_isIn ⟨rfl, rfl⟩ ⟨(Nat.le_of_ble_eq_true rfl), (Nat.le_of_ble_eq_true rfl)⟩ ⟨Nat.zero_le _, Nat.zero_le _⟩ rfl hl.1 (rest := []) rfl (Nat.le_of_ble_eq_true rfl) dX8_duty_12 (st1 := [.int r5]) rfl (fun H locs hw => ?_)
    refine lv_if_eq (tgt := 27) X.1 X.2.1 dX8_duty_15 (by decide) (fun c6 => ?_) (fun c6 => ?_)
    · have hf := if_t hf c6
      refine lv_bipush (v := (-2)) X.1 X.2.1 dX8_duty_27 (by decide) ?_
      obtain ⟨rfl, rfl⟩ := Prod.mk.inj (Option.some.inj hf)
      exact r_iret X hw dX8_duty_29
    · have hf := if_e hf c6
      refine lv_iload_n X.1 X.2.1 dX8_duty_18 rfl (lv_at hl 3 rfl) ?_
      refine lv_iconst (v := 0) X.1 X.2.1 dX8_duty_19 (by decide) ?_
      refine lv_iconst (v := 1) X.1 X.2.1 dX8_duty_20 (by decide) ?_
      obtain ⟨r8, h7, hf⟩ := b_bd1 hf
      refine r_callS X hw (k_X8_isIn hE  h7) qw966 qw967 qw79 qw968 okX8_isIn ⟨rfl, rfl⟩ ⟨(Nat.le_of_ble_eq_true rfl), (Nat.le_of_ble_eq_true rfl)⟩ ⟨Nat.zero_le _, Nat.zero_le _⟩ rfl hl.1 (rest := []) rfl (Nat.le_of_ble_eq_true rfl) dX8_duty_21 (st1 := [.int r8]) rfl (fun H locs hw => ?_)
      refine lv_if_ne (tgt := 30) X.1 X.2.1 dX8_duty_24 (by decide) (fun c9 => ?_) (fun c9 => ?_)
      · have hf := if_e hf c9
        refine lv_aload_n X.1 X.2.1 dX8_duty_30 rfl (lv_at hl 0 rfl) ?_
        refine lv_iload_n X.1 X.2.1 dX8_duty_31 rfl (lv_at hl 1 rfl) ?_
        refine lv_iconst (v := 2) X.1 X.2.1 dX8_duty_32 (by decide) ?_
        obtain ⟨r11, h10, hf⟩ := b_bd1 hf
        refine r_callV X hw (k_X8_of hE  h10) (sp69 hE) (C := RX8) (T := TX8) (N := 31) rfl qw997 qw999 qw33 qw79 qw1000 okX8_of ⟨rfl, rfl⟩ ⟨(Nat.le_of_ble_eq_true rfl), (Nat.le_of_ble_eq_true rfl)⟩ ⟨Nat.zero_le _, Nat.zero_le _⟩ rfl hl.1 (rest := []) rfl (Nat.le_of_ble_eq_true rfl) dX8_duty_33 (st1 := [.int r11]) rfl (fun H locs hw => ?_)
        refine lv_istore (lv' := [(4, .int r11), (0, .ref (eP E 69)), (1, .int x1), (2, .int x2), (3, .int x3)]) X.1 X.2.1 dX8_duty_36 hl (by decide) rfl (fun ls hl => ?_)
        refine lv_iconst (v := 0) X.1 X.2.1 dX8_duty_38 (by decide) ?_
        refine lv_istore (lv' := [(5, .int 0), (4, .int r11), (0, .ref (eP E 69)), (1, .int x1), (2, .int x2), (3, .int x3)]) X.1 X.2.1 dX8_duty_39 hl (by decide) rfl (fun ls hl => ?_)
        refine lv_ldc (v := 2147483647) X.1 X.2.1 X.2.2.2.1 (X.2.2.2.2.1 _ qw1163) dX8_duty_41 ?_
        refine lv_istore (lv' := [(6, .int 2147483647), (5, .int 0), (4, .int r11), (0, .ref (eP E 69)), (1, .int x1), (2, .int x2), (3, .int x3)]) X.1 X.2.1 dX8_duty_43 hl (by decide) rfl (fun ls hl => ?_)
        refine lv_iconst (v := 0) X.1 X.2.1 dX8_duty_45 (by decide) ?_
        refine lv_istore (lv' := [(7, .int 0), (6, .int 2147483647), (5, .int 0), (4, .int r11), (0, .ref (eP E 69)), (1, .int x1), (2, .int x2), (3, .int x3)]) X.1 X.2.1 dX8_duty_46 hl (by decide) rfl (fun ls hl => ?_)
        obtain ⟨v25, v26, v27, σ28, h24, hf⟩ := b_bd4 hf
        refine w_X8_duty_48 X hE  lfu _ _ _ _ h24 _ _ _ hw (lv_sub hl [4, 5, 6, 7, 3, 2, 1, 0] rfl) (fun yv25 yv26 yv27 yσ28 hq H locs ls hw hl => ?_)
        cases hq
        refine lv_aload_n X.1 X.2.1 dX8_duty_101 rfl (lv_at hl 0 rfl) ?_
        refine lv_iload_n X.1 X.2.1 dX8_duty_102 rfl (lv_at hl 1 rfl) ?_
        refine lv_iconst (v := 2) X.1 X.2.1 dX8_duty_103 (by decide) ?_
        refine lv_iload X.1 X.2.1 dX8_duty_104 (lv_at hl 4 rfl) ?_
        obtain ⟨σ30, h29, hf⟩ := b_bd1 hf
        refine r_callV X hw (k_X8_change hE  h29) (sp69 hE) (C := RX8) (T := TX8) (N := 31) rfl qw989 qw991 qw32 qw79 qw992 okX8_change ⟨rfl, rfl⟩ ⟨(Nat.le_of_ble_eq_true rfl), (Nat.le_of_ble_eq_true rfl)⟩ ⟨Nat.zero_le _, Nat.zero_le _⟩ rfl hl.1 (rest := []) rfl (Nat.le_of_ble_eq_true rfl) dX8_duty_106 (st1 := []) rfl (fun H locs hw => ?_)
        refine lv_iload_n X.1 X.2.1 dX8_duty_109 rfl (lv_at hl 3 rfl) ?_
        obtain ⟨v32, e33, hf⟩ := b_bnd hf
        refine r_join (g2 := F0 m 120 ls [.int v32]) ?_ (fun hj => ?_)
        · obtain ⟨rfl, rfl⟩ := Prod.mk.inj (Option.some.inj hf)
          exact r_iret X hw dX8_duty_120
        · refine lv_if_ne (tgt := 118) X.1 X.2.1 dX8_duty_110 (by decide) (fun c31 => ?_) (fun c31 => ?_)
          · rw [e33, if_neg c31] at hj
            refine lv_iload X.1 X.2.1 dX8_duty_118 (lv_at hl 6 rfl) ?_
            exact hj
          · rw [e33, if_pos c31] at hj
            refine lv_iload X.1 X.2.1 dX8_duty_113 (lv_at hl 5 rfl) ?_
            refine lv_goto (tgt := 120) X.1 X.2.1 dX8_duty_115 (by decide) ?_
            exact hj
      · have hf := if_t hf c9
        refine lv_bipush (v := (-2)) X.1 X.2.1 dX8_duty_27 (by decide) ?_
        obtain ⟨rfl, rfl⟩ := Prod.mk.inj (Option.some.inj hf)
        exact r_iret X hw dX8_duty_29
abbrev rm_X8_fonder : Room := { frames := 9, cells := 0, slots := 0, locals := 284 }
set_option maxHeartbeats 4000000 in
set_option maxRecDepth 100000 in
theorem w_X8_fonder_43 {p : Program} {l : Launch} {e : Env} {s : State} {m : MethodId} {args : Array Value} {below : List Frame} {meth : Method} {c : Code} {Q : State → Prop} {E : en_T} (X : Cx E p s m args meth c cX8_fonder 9 RX8 (some .int)) (hE : ShF E) {u1 : Int32} {u2 : Int32} {u3 : Int32}  {res : Int32 × Int32 × Int32 × sg_T} :
    ∀ (n : Nat) (w4 : Int32) (w5 : Int32) (w6 : Int32) (σ : sg_T), itr (fun q => b_X8_fonder_43 u1 u2 u3 q.1 q.2.1 q.2.2.1 q.2.2.2) n (w4, w5, w6, σ) = some res → ∀ (H : Heap) (locs : List Loc) (ls : Array Slot), Hw E σ s H locs → lv_has ls 9 [(0, .ref (eP E 69)), (1, .int u1), (2, .int u2), (3, .int u3), (4, .int w4), (5, .int w5), (6, .int w6)] →
    (∀ (y4 : Int32) (y5 : Int32) (y6 : Int32) (τ : sg_T), res = (y4, y5, y6, τ) → ∀ (H : Heap) (locs : List Loc) (ls : Array Slot), Hw E τ s H locs → lv_has ls 9 [(0, .ref (eP E 69)), (1, .int u1), (2, .int u2), (3, .int u3), (4, .int y4), (5, .int y5), (6, .int y6)] → W p l e rm_X8_fonder s m args below meth c H locs 0 0 Q (F0 m 132 ls [])) →
    W p l e rm_X8_fonder s m args below meth c H locs 0 0 Q (F0 m 43 ls []) := by
  have hR : ShR E := hE.r
  intro n
  induction n with
  | zero =>
    intro w4 w5 w6 σ hf0
    exact (itr_0 hf0).elim
  | succ n ih =>
    intro w4 w5 w6 σ hf0 H locs ls hw hl K1
    obtain ⟨r0, hf, hr1, hr2⟩ := itr_s hf0
    have hf : b_X8_fonder_43 u1 u2 u3 w4 w5 w6 σ = some r0 := hf
    unfold b_X8_fonder_43 at hf
    refine lv_iload X.1 X.2.1 dX8_fonder_43 (lv_at hl 6 rfl) ?_
    refine lv_aload_n X.1 X.2.1 dX8_fonder_45 rfl (lv_at hl 0 rfl) ?_
    obtain ⟨r14, h13, hf⟩ := b_bd1 hf
    refine r_callV X hw (k_X8_many hE  h13) (sp69 hE) (C := RX8) (T := TX8) (N := 31) rfl qw985 qw987 qw31 qw79 qw988 okX8_many ⟨rfl, rfl⟩ ⟨(Nat.le_of_ble_eq_true rfl), (Nat.le_of_ble_eq_true rfl)⟩ ⟨Nat.zero_le _, Nat.zero_le _⟩ rfl hl.1 (rest := [.int w6]) rfl (Nat.le_of_ble_eq_true rfl) dX8_fonder_46 (st1 := [.int r14, .int w6]) rfl (fun H locs hw => ?_)
    refine lv_icmp_ge (tgt := 132) X.1 X.2.1 dX8_fonder_49 (by decide) (fun c15 => ?_) (fun c15 => ?_)
    · have hf := if_t hf c15
      obtain rfl := Option.some.inj hf
      obtain rfl := hr2 _ rfl
      exact K1 _ _ _ _ rfl _ _ _ hw (lv_sub hl [0, 1, 2, 3, 4, 5, 6] rfl)
    · have hf := if_e hf c15
      refine lv_iload X.1 X.2.1 dX8_fonder_52 (lv_at hl 6 rfl) ?_
      refine lv_iload_n X.1 X.2.1 dX8_fonder_54 rfl (lv_at hl 1 rfl) ?_
      refine lv_icmp_eq (tgt := 126) X.1 X.2.1 dX8_fonder_55 (by decide) (fun c16 => ?_) (fun c16 => ?_)
      · have hf := if_t hf c16
        obtain ⟨v17, e18, hf⟩ := b_bnd hf
        refine lv_iinc (v := v17) (k := 6) (lv' := [(6, .int v17), (0, .ref (eP E 69)), (1, .int u1), (2, .int u2), (3, .int u3), (4, .int w4), (5, .int w5)]) X.1 X.2.1 dX8_fonder_126 hl rfl (by rw [e18]; exact congrArg _ (by decide)) (by decide) rfl (fun ls hl => ?_)
        refine lv_goto (tgt := 43) X.1 X.2.1 dX8_fonder_129 (by decide) ?_
        obtain rfl := Option.some.inj hf
        exact ih _ _ _ _ (hr1 _ rfl) _ _ _ hw (lv_sub hl [1, 2, 3, 4, 5, 6, 0] rfl) K1
      · have hf := if_e hf c16
        refine lv_aload_n X.1 X.2.1 dX8_fonder_58 rfl (lv_at hl 0 rfl) ?_
        refine lv_iload_n X.1 X.2.1 dX8_fonder_59 rfl (lv_at hl 1 rfl) ?_
        refine lv_bipush (v := 6) X.1 X.2.1 dX8_fonder_60 (by decide) ?_
        refine lv_iload X.1 X.2.1 dX8_fonder_62 (lv_at hl 6 rfl) ?_
        refine lv_iadd X.1 X.2.1 dX8_fonder_64 ?_
        obtain ⟨r20, h19, hf⟩ := b_bd1 hf
        refine r_callV X hw (k_X8_of hE  h19) (sp69 hE) (C := RX8) (T := TX8) (N := 31) rfl qw997 qw999 qw33 qw79 qw1000 okX8_of ⟨rfl, rfl⟩ ⟨(Nat.le_of_ble_eq_true rfl), (Nat.le_of_ble_eq_true rfl)⟩ ⟨Nat.zero_le _, Nat.zero_le _⟩ rfl hl.1 (rest := []) rfl (Nat.le_of_ble_eq_true rfl) dX8_fonder_65 (st1 := [.int r20]) rfl (fun H locs hw => ?_)
        refine lv_istore (lv' := [(7, .int r20), (0, .ref (eP E 69)), (1, .int u1), (2, .int u2), (3, .int u3), (4, .int w4), (5, .int w5), (6, .int w6)]) X.1 X.2.1 dX8_fonder_68 hl (by decide) rfl (fun ls hl => ?_)
        refine lv_aload_n X.1 X.2.1 dX8_fonder_70 rfl (lv_at hl 1 rfl) ?_
        refine lv_iload_n X.1 X.2.1 dX8_fonder_71 rfl (lv_at hl 2 rfl) ?_
        refine lv_bipush (v := 6) X.1 X.2.1 dX8_fonder_72 (by decide) ?_
        refine lv_iload X.1 X.2.1 dX8_fonder_74 (lv_at hl 7 rfl) ?_
        refine lv_iadd X.1 X.2.1 dX8_fonder_76 ?_
        refine lv_bipush (v := 9) X.1 X.2.1 dX8_fonder_77 (by decide) ?_
        obtain ⟨σ22, h21, hf⟩ := b_bd1 hf
        refine r_callV X hw (k_X8_change hE  h21) (sp69 hE) (C := RX8) (T := TX8) (N := 31) rfl qw989 qw991 qw32 qw79 qw992 okX8_change ⟨rfl, rfl⟩ ⟨(Nat.le_of_ble_eq_true rfl), (Nat.le_of_ble_eq_true rfl)⟩ ⟨Nat.zero_le _, Nat.zero_le _⟩ rfl hl.1 (rest := []) rfl (Nat.le_of_ble_eq_true rfl) dX8_fonder_79 (st1 := []) rfl (fun H locs hw => ?_)
        refine lv_aload_n X.1 X.2.1 dX8_fonder_82 rfl (lv_at hl 1 rfl) ?_
        refine lv_iload_n X.1 X.2.1 dX8_fonder_83 rfl (lv_at hl 3 rfl) ?_
        obtain ⟨r24, σ25, h23, hf⟩ := b_bd2 hf
        refine r_callV X hw (k_X8_lateBehind hE  h23) (sp69 hE) (C := RX8) (T := TX8) (N := 31) rfl qw1164 qw1166 qw61 qw79 qw1167 okX8_lateBehind ⟨rfl, rfl⟩ ⟨(Nat.le_of_ble_eq_true rfl), (Nat.le_of_ble_eq_true rfl)⟩ ⟨Nat.zero_le _, Nat.zero_le _⟩ rfl hl.1 (rest := []) rfl (Nat.le_of_ble_eq_true rfl) dX8_fonder_84 (st1 := [.int r24]) rfl (fun H locs hw => ?_)
        refine lv_istore (lv' := [(8, .int r24), (7, .int r20), (0, .ref (eP E 69)), (1, .int u1), (2, .int u2), (3, .int u3), (4, .int w4), (5, .int w5), (6, .int w6)]) X.1 X.2.1 dX8_fonder_87 hl (by decide) rfl (fun ls hl => ?_)
        refine lv_aload_n X.1 X.2.1 dX8_fonder_89 rfl (lv_at hl 2 rfl) ?_
        refine lv_iload_n X.1 X.2.1 dX8_fonder_90 rfl (lv_at hl 3 rfl) ?_
        refine lv_bipush (v := 6) X.1 X.2.1 dX8_fonder_91 (by decide) ?_
        refine lv_iload X.1 X.2.1 dX8_fonder_93 (lv_at hl 8 rfl) ?_
        refine lv_iadd X.1 X.2.1 dX8_fonder_95 ?_
        refine lv_iload X.1 X.2.1 dX8_fonder_96 (lv_at hl 1 rfl) ?_
        obtain ⟨σ27, h26, hf⟩ := b_bd1 hf
        refine r_callV X hw (k_X8_change hE  h26) (sp69 hE) (C := RX8) (T := TX8) (N := 31) rfl qw989 qw991 qw32 qw79 qw992 okX8_change ⟨rfl, rfl⟩ ⟨(Nat.le_of_ble_eq_true rfl), (Nat.le_of_ble_eq_true rfl)⟩ ⟨Nat.zero_le _, Nat.zero_le _⟩ rfl hl.1 (rest := []) rfl (Nat.le_of_ble_eq_true rfl) dX8_fonder_98 (st1 := []) rfl (fun H locs hw => ?_)
        refine lv_iload X.1 X.2.1 dX8_fonder_101 (lv_at hl 0 rfl) ?_
        refine lv_iload X.1 X.2.1 dX8_fonder_103 (lv_at hl 7 rfl) ?_
        obtain ⟨v29, e30, hf⟩ := b_bnd hf
        refine r_join (g2 := F0 m 115 ls [.int v29]) ?_ (fun hj => ?_)
        · refine lv_istore (lv' := [(4, .int v29), (8, .int r24), (7, .int r20), (0, .ref (eP E 69)), (1, .int u1), (2, .int u2), (3, .int u3), (5, .int w5), (6, .int w6)]) X.1 X.2.1 dX8_fonder_115 hl (by decide) rfl (fun ls hl => ?_)
          refine lv_iload X.1 X.2.1 dX8_fonder_117 (lv_at hl 1 rfl) ?_
          refine lv_iload X.1 X.2.1 dX8_fonder_119 (lv_at hl 7 rfl) ?_
          refine r_min X hl.1 qw1026 qw534 qw80 qw535 (Nat.le_of_ble_eq_true rfl) (Nat.le_of_ble_eq_true rfl) (Nat.zero_le _) (Nat.zero_le _) dX8_fonder_121 ?_
          refine r_bnd hf (fun v31 hf => ?_)
          refine lv_istore (lv' := [(5, .int v31), (4, .int v29), (8, .int r24), (7, .int r20), (0, .ref (eP E 69)), (1, .int u1), (2, .int u2), (3, .int u3), (6, .int w6)]) X.1 X.2.1 dX8_fonder_124 hl (by decide) rfl (fun ls hl => ?_)
          obtain ⟨v32, e33, hf⟩ := b_bnd hf
          refine lv_iinc (v := v32) (k := 8) (lv' := [(6, .int v32), (5, .int v31), (4, .int v29), (8, .int r24), (7, .int r20), (0, .ref (eP E 69)), (1, .int u1), (2, .int u2), (3, .int u3)]) X.1 X.2.1 dX8_fonder_126 hl rfl (by rw [e33]; exact congrArg _ (by decide)) (by decide) rfl (fun ls hl => ?_)
          refine lv_goto (tgt := 43) X.1 X.2.1 dX8_fonder_129 (by decide) ?_
          obtain rfl := Option.some.inj hf
          exact ih _ _ _ _ (hr1 _ rfl) _ _ _ hw (lv_sub hl [5, 6, 7, 8, 2, 1, 0] rfl) K1
        · refine lv_icmp_ge (tgt := 113) X.1 X.2.1 dX8_fonder_105 (by decide) (fun c28 => ?_) (fun c28 => ?_)
          · rw [e30, if_pos c28] at hj
            refine lv_iload X.1 X.2.1 dX8_fonder_113 (lv_at hl 6 rfl) ?_
            exact hj
          · rw [e30, if_neg c28] at hj
            refine lv_iload X.1 X.2.1 dX8_fonder_108 (lv_at hl 8 rfl) ?_
            refine lv_goto (tgt := 115) X.1 X.2.1 dX8_fonder_110 (by decide) ?_
            exact hj
set_option maxHeartbeats 4000000 in
set_option maxRecDepth 100000 in
theorem k_X8_fonder {l : Launch} {E : en_T} (hE : ShF E) {x1 : Int32} {x2 : Int32} {x3 : Int32} {σ : sg_T} {r : Int32} {σ' : sg_T} (hf : f_X8_fonder x1 x2 x3 σ = some (r, σ')) : Ct l yX8_fonder cX8_fonder 9 (some .int) rm_X8_fonder E [.ref (eP E 69), .int x1, .int x2, .int x3] σ (some (.int r)) σ' := by
  refine Ct.start (by decide) hE.1 (Nat.le_of_ble_eq_true rfl) ?_
  intro p e s m below meth c X hw ls hl
  have X : Cx E p s m _ meth c cX8_fonder 9 RX8 (some .int) := X
  have hR : ShR E := hE.r
  have hl : lv_has ls 9 [(0, .ref (eP E 69)), (1, .int x1), (2, .int x2), (3, .int x3)] := hl
  unfold f_X8_fonder at hf
  refine lv_aload_n X.1 X.2.1 dX8_fonder_0 rfl (lv_at hl 0 rfl) ?_
  refine lv_iload_n X.1 X.2.1 dX8_fonder_1 rfl (lv_at hl 1 rfl) ?_
  obtain ⟨r2, h1, hf⟩ := b_bd1 hf
  refine r_callV X hw (k_X8_isOne hE  h1) (sp69 hE) (C := RX8) (T := TX8) (N := 31) rfl qw977 qw979 qw30 qw79 qw980 okX8_isOne ⟨rfl, rfl⟩ ⟨(Nat.le_of_ble_eq_true rfl), (Nat.le_of_ble_eq_true rfl)⟩ ⟨Nat.zero_le _, Nat.zero_le _⟩ rfl hl.1 (rest := []) rfl (Nat.le_of_ble_eq_true rfl) dX8_fonder_2 (st1 := [.int r2]) rfl (fun H locs hw => ?_)
  refine lv_if_eq (tgt := 27) X.1 X.2.1 dX8_fonder_5 (by decide) (fun c3 => ?_) (fun c3 => ?_)
  · have hf := if_t hf c3
    refine lv_bipush (v := (-2)) X.1 X.2.1 dX8_fonder_27 (by decide) ?_
    obtain ⟨rfl, rfl⟩ := Prod.mk.inj (Option.some.inj hf)
    exact r_iret X hw dX8_fonder_29
  · have hf := if_e hf c3
    refine lv_iload_n X.1 X.2.1 dX8_fonder_8 rfl (lv_at hl 2 rfl) ?_
    refine lv_iconst (v := 0) X.1 X.2.1 dX8_fonder_9 (by decide) ?_
    refine lv_bipush (v := 20) X.1 X.2.1 dX8_fonder_10 (by decide) ?_
    obtain ⟨r5, h4, hf⟩ := b_bd1 hf
    refine r_callS X hw (k_X8_isIn hE  h4) qw966 qw967 qw79 qw968 okX8_isIn ⟨rfl, rfl⟩ ⟨(Nat.le_of_ble_eq_true rfl), (Nat.le_of_ble_eq_true rfl)⟩ ⟨Nat.zero_le _, Nat.zero_le _⟩ rfl hl.1 (rest := []) rfl (Nat.le_of_ble_eq_true rfl) dX8_fonder_12 (st1 := [.int r5]) rfl (fun H locs hw => ?_)
    refine lv_if_eq (tgt := 27) X.1 X.2.1 dX8_fonder_15 (by decide) (fun c6 => ?_) (fun c6 => ?_)
    · have hf := if_t hf c6
      refine lv_bipush (v := (-2)) X.1 X.2.1 dX8_fonder_27 (by decide) ?_
      obtain ⟨rfl, rfl⟩ := Prod.mk.inj (Option.some.inj hf)
      exact r_iret X hw dX8_fonder_29
    · have hf := if_e hf c6
      refine lv_iload_n X.1 X.2.1 dX8_fonder_18 rfl (lv_at hl 3 rfl) ?_
      refine lv_iconst (v := 0) X.1 X.2.1 dX8_fonder_19 (by decide) ?_
      refine lv_iconst (v := 1) X.1 X.2.1 dX8_fonder_20 (by decide) ?_
      obtain ⟨r8, h7, hf⟩ := b_bd1 hf
      refine r_callS X hw (k_X8_isIn hE  h7) qw966 qw967 qw79 qw968 okX8_isIn ⟨rfl, rfl⟩ ⟨(Nat.le_of_ble_eq_true rfl), (Nat.le_of_ble_eq_true rfl)⟩ ⟨Nat.zero_le _, Nat.zero_le _⟩ rfl hl.1 (rest := []) rfl (Nat.le_of_ble_eq_true rfl) dX8_fonder_21 (st1 := [.int r8]) rfl (fun H locs hw => ?_)
      refine lv_if_ne (tgt := 30) X.1 X.2.1 dX8_fonder_24 (by decide) (fun c9 => ?_) (fun c9 => ?_)
      · have hf := if_e hf c9
        refine lv_iconst (v := (-1)) X.1 X.2.1 dX8_fonder_30 (by decide) ?_
        refine lv_istore (lv' := [(4, .int (-1)), (0, .ref (eP E 69)), (1, .int x1), (2, .int x2), (3, .int x3)]) X.1 X.2.1 dX8_fonder_31 hl (by decide) rfl (fun ls hl => ?_)
        refine lv_aload_n X.1 X.2.1 dX8_fonder_33 rfl (lv_at hl 1 rfl) ?_
        refine lv_iload_n X.1 X.2.1 dX8_fonder_34 rfl (lv_at hl 3 rfl) ?_
        obtain ⟨r11, σ12, h10, hf⟩ := b_bd2 hf
        refine r_callV X hw (k_X8_lateBehind hE  h10) (sp69 hE) (C := RX8) (T := TX8) (N := 31) rfl qw1164 qw1166 qw61 qw79 qw1167 okX8_lateBehind ⟨rfl, rfl⟩ ⟨(Nat.le_of_ble_eq_true rfl), (Nat.le_of_ble_eq_true rfl)⟩ ⟨Nat.zero_le _, Nat.zero_le _⟩ rfl hl.1 (rest := []) rfl (Nat.le_of_ble_eq_true rfl) dX8_fonder_35 (st1 := [.int r11]) rfl (fun H locs hw => ?_)
        refine lv_istore (lv' := [(5, .int r11), (4, .int (-1)), (0, .ref (eP E 69)), (1, .int x1), (2, .int x2), (3, .int x3)]) X.1 X.2.1 dX8_fonder_38 hl (by decide) rfl (fun ls hl => ?_)
        refine lv_iconst (v := 0) X.1 X.2.1 dX8_fonder_40 (by decide) ?_
        refine lv_istore (lv' := [(6, .int 0), (5, .int r11), (4, .int (-1)), (0, .ref (eP E 69)), (1, .int x1), (2, .int x2), (3, .int x3)]) X.1 X.2.1 dX8_fonder_41 hl (by decide) rfl (fun ls hl => ?_)
        obtain ⟨v35, v36, v37, σ38, h34, hf⟩ := b_bd4 hf
        refine w_X8_fonder_43 X hE  lfu _ _ _ _ h34 _ _ _ hw (lv_sub hl [3, 4, 5, 6, 2, 1, 0] rfl) (fun yv35 yv36 yv37 yσ38 hq H locs ls hw hl => ?_)
        cases hq
        refine lv_iload_n X.1 X.2.1 dX8_fonder_132 rfl (lv_at hl 3 rfl) ?_
        obtain ⟨v40, e41, hf⟩ := b_bnd hf
        refine r_join (g2 := F0 m 143 ls [.int v40]) ?_ (fun hj => ?_)
        · obtain ⟨rfl, rfl⟩ := Prod.mk.inj (Option.some.inj hf)
          exact r_iret X hw dX8_fonder_143
        · refine lv_if_ne (tgt := 141) X.1 X.2.1 dX8_fonder_133 (by decide) (fun c39 => ?_) (fun c39 => ?_)
          · rw [e41, if_neg c39] at hj
            refine lv_iload X.1 X.2.1 dX8_fonder_141 (lv_at hl 5 rfl) ?_
            exact hj
          · rw [e41, if_pos c39] at hj
            refine lv_iload X.1 X.2.1 dX8_fonder_136 (lv_at hl 4 rfl) ?_
            refine lv_goto (tgt := 143) X.1 X.2.1 dX8_fonder_138 (by decide) ?_
            exact hj
      · have hf := if_t hf c9
        refine lv_bipush (v := (-2)) X.1 X.2.1 dX8_fonder_27 (by decide) ?_
        obtain ⟨rfl, rfl⟩ := Prod.mk.inj (Option.some.inj hf)
        exact r_iret X hw dX8_fonder_29
def rm_gcd (n : Nat) : Room := { frames := n + 40, cells := 0, slots := 0, locals := 60 * n + 4000 }
theorem rm_gcd_ok (n : Nat) {k : Nat} (h : k ≤ 40) : (rm_gcd n).frames + 1 ≤ (rm_gcd (n + 1)).frames ∧ 8 + (k + 11) + (rm_gcd n).locals ≤ (rm_gcd (n + 1)).locals := by
  refine ⟨?_, ?_⟩
  · show n + 40 + 1 ≤ n + 1 + 40
    omega
  · show 8 + (k + 11) + (60 * n + 4000) ≤ 60 * (n + 1) + 4000
    omega
set_option maxHeartbeats 4000000 in
set_option maxRecDepth 100000 in
theorem k_X8_gcd {l : Launch} {E : en_T} (hE : ShF E) {rec : Int64 → Int64 → sg_T → Option Int64} {n0 : Nat} (ih_X8_gcd : ∀ {x1 x2 : Int64} {σ : sg_T} {r : Int64}, rec x1 x2 σ = some r → Ct l yX8_gcd cX8_gcd 4 (some .long) (rm_gcd n0) E [.long x1, .long x2] σ (some (.long r)) σ) {x1 : Int64} {x2 : Int64} {σ : sg_T} {r : Int64} (hf : f_X8_gcd rec x1 x2 σ = some r) : Ct l yX8_gcd cX8_gcd 4 (some .long) (rm_gcd (n0 + 1)) E [.long x1, .long x2] σ (some (.long r)) σ := by
  refine Ct.start (by decide) hE.1 (Nat.le_of_ble_eq_true rfl) ?_
  intro p e s m below meth c X hw ls hl
  have X : Cx E p s m _ meth c cX8_gcd 4 RX8 (some .long) := X
  have hR : ShR E := hE.r
  have hl : lv_has ls 4 [(0, .long x1), (2, .long x2)] := hl
  unfold f_X8_gcd at hf
  refine lv_lload_n X.1 X.2.1 dX8_gcd_0 rfl (lv_at hl 1 rfl) ?_
  refine lv_lconst (v := 0) X.1 X.2.1 dX8_gcd_1 (by decide) ?_
  refine W.lcmp X.1 X.2.1 dX8_gcd_2 ?_
  refine lv_if_ne (tgt := 10) X.1 X.2.1 dX8_gcd_3 (by decide) (fun c1 => ?_) (fun c1 => ?_)
  · have hf := if_e hf c1
    refine lv_lload_n X.1 X.2.1 dX8_gcd_10 rfl (lv_at hl 1 rfl) ?_
    refine lv_lload_n X.1 X.2.1 dX8_gcd_11 rfl (lv_at hl 0 rfl) ?_
    refine lv_lload_n X.1 X.2.1 dX8_gcd_12 rfl (lv_at hl 1 rfl) ?_
    obtain ⟨h2, hf⟩ := b_dzl hf
    refine r_lrem X dX8_gcd_13 h2 ?_
    obtain ⟨r4, h3, hf⟩ := b_bd1 hf
    refine r_callS X hw (ih_X8_gcd  h3) qw1177 qw1178 qw79 qw1179 okX8_gcd ⟨rfl, rfl⟩ (rm_gcd_ok n0 (by decide)) ⟨Nat.zero_le _, Nat.zero_le _⟩ rfl hl.1 (rest := []) rfl (Nat.le_of_ble_eq_true rfl) dX8_gcd_14 (st1 := [.long r4]) rfl (fun H locs hw => ?_)
    obtain rfl := Option.some.inj hf
    exact r_lret X hw dX8_gcd_17
  · have hf := if_t hf c1
    refine lv_lload_n X.1 X.2.1 dX8_gcd_6 rfl (lv_at hl 0 rfl) ?_
    refine lv_goto (tgt := 17) X.1 X.2.1 dX8_gcd_7 (by decide) ?_
    obtain rfl := Option.some.inj hf
    exact r_lret X hw dX8_gcd_17
theorem kr_gcd {l : Launch} {E : en_T} (hE : ShF E) : ∀ (n : Nat) {x1 x2 : Int64} {σ : sg_T} {r : Int64}, g_gcd n x1 x2 σ = some r → Ct l yX8_gcd cX8_gcd 4 (some .long) (rm_gcd n) E [.long x1, .long x2] σ (some (.long r)) σ := by
  intro n
  induction n with
  | zero => intro x1 x2 σ r h; cases h
  | succ n ih => intro x1 x2 σ r h; exact k_X8_gcd hE ih h
theorem kg_X8_gcd {l : Launch} {E : en_T} (hE : ShF E) {x1 x2 : Int64} {σ : sg_T} {r : Int64} (h : g_gcd rfu x1 x2 σ = some r) : Ct l yX8_gcd cX8_gcd 4 (some .long) (rm_gcd rfu) E [.long x1, .long x2] σ (some (.long r)) σ := kr_gcd hE rfu h

abbrev rm_X8_mean : Room := { frames := 105, cells := 0, slots := 0, locals := 7863 }
set_option maxHeartbeats 4000000 in
set_option maxRecDepth 100000 in
theorem k_X8_mean {l : Launch} {E : en_T} (hE : ShF E) {x1 : Int32} {σ : sg_T} {r : Int64} (hf : f_X8_mean x1 σ = some r) : Ct l yX8_mean cX8_mean 4 (some .long) rm_X8_mean E [.ref (eP E 69), .int x1] σ (some (.long r)) σ := by
  refine Ct.start (by decide) hE.1 (Nat.le_of_ble_eq_true rfl) ?_
  intro p e s m below meth c X hw ls hl
  have X : Cx E p s m _ meth c cX8_mean 4 RX8 (some .long) := X
  have hR : ShR E := hE.r
  have hl : lv_has ls 4 [(0, .ref (eP E 69)), (1, .int x1)] := hl
  unfold f_X8_mean at hf
  refine lv_iload_n X.1 X.2.1 dX8_mean_0 rfl (lv_at hl 1 rfl) ?_
  refine lv_iconst (v := 0) X.1 X.2.1 dX8_mean_1 (by decide) ?_
  refine lv_iconst (v := 1) X.1 X.2.1 dX8_mean_2 (by decide) ?_
  obtain ⟨r2, h1, hf⟩ := b_bd1 hf
  refine r_callS X hw (k_X8_isIn hE  h1) qw966 qw967 qw79 qw968 okX8_isIn ⟨rfl, rfl⟩ ⟨(Nat.le_of_ble_eq_true rfl), (Nat.le_of_ble_eq_true rfl)⟩ ⟨Nat.zero_le _, Nat.zero_le _⟩ rfl hl.1 (rest := []) rfl (Nat.le_of_ble_eq_true rfl) dX8_mean_3 (st1 := [.int r2]) rfl (fun H locs hw => ?_)
  refine lv_if_eq (tgt := 16) X.1 X.2.1 dX8_mean_6 (by decide) (fun c3 => ?_) (fun c3 => ?_)
  · have hf := if_t hf c3
    refine lv_ldc2 (v := (-4611686018427387904)) X.1 X.2.1 X.2.2.2.1 (X.2.2.2.2.1 _ qw1176) dX8_mean_16 ?_
    obtain rfl := Option.some.inj hf
    exact r_lret X hw dX8_mean_19
  · have hf := if_e hf c3
    refine lv_aload_n X.1 X.2.1 dX8_mean_9 rfl (lv_at hl 0 rfl) ?_
    obtain ⟨r5, h4, hf⟩ := b_bd1 hf
    refine r_callV X hw (k_X8_many hE  h4) (sp69 hE) (C := RX8) (T := TX8) (N := 31) rfl qw985 qw987 qw31 qw79 qw988 okX8_many ⟨rfl, rfl⟩ ⟨(Nat.le_of_ble_eq_true rfl), (Nat.le_of_ble_eq_true rfl)⟩ ⟨Nat.zero_le _, Nat.zero_le _⟩ rfl hl.1 (rest := []) rfl (Nat.le_of_ble_eq_true rfl) dX8_mean_10 (st1 := [.int r5]) rfl (fun H locs hw => ?_)
    refine lv_if_ne (tgt := 20) X.1 X.2.1 dX8_mean_13 (by decide) (fun c6 => ?_) (fun c6 => ?_)
    · have hf := if_e hf c6
      refine lv_aload_n X.1 X.2.1 dX8_mean_20 rfl (lv_at hl 0 rfl) ?_
      obtain ⟨r8, h7, hf⟩ := b_bd1 hf
      refine r_callV X hw (k_X8_many hE  h7) (sp69 hE) (C := RX8) (T := TX8) (N := 31) rfl qw985 qw987 qw31 qw79 qw988 okX8_many ⟨rfl, rfl⟩ ⟨(Nat.le_of_ble_eq_true rfl), (Nat.le_of_ble_eq_true rfl)⟩ ⟨Nat.zero_le _, Nat.zero_le _⟩ rfl hl.1 (rest := []) rfl (Nat.le_of_ble_eq_true rfl) dX8_mean_21 (st1 := [.int r8]) rfl (fun H locs hw => ?_)
      refine lv_i2l (v := (r8).toInt64) X.1 X.2.1 dX8_mean_24 rfl ?_
      refine lv_aload_n X.1 X.2.1 dX8_mean_25 rfl (lv_at hl 0 rfl) ?_
      refine lv_iconst (v := 5) X.1 X.2.1 dX8_mean_26 (by decide) ?_
      obtain ⟨r10, h9, hf⟩ := b_bd1 hf
      refine r_callV X hw (k_X8_all hE  h9) (sp69 hE) (C := RX8) (T := TX8) (N := 31) rfl qw1139 qw1141 qw58 qw79 qw1142 okX8_all ⟨rfl, rfl⟩ ⟨(Nat.le_of_ble_eq_true rfl), (Nat.le_of_ble_eq_true rfl)⟩ ⟨Nat.zero_le _, Nat.zero_le _⟩ rfl hl.1 (rest := [.long ((r8).toInt64)]) rfl (Nat.le_of_ble_eq_true rfl) dX8_mean_27 (st1 := [.int r10, .long ((r8).toInt64)]) rfl (fun H locs hw => ?_)
      refine lv_i2l (v := (r10).toInt64) X.1 X.2.1 dX8_mean_30 rfl ?_
      obtain ⟨r12, h11, hf⟩ := b_bd1 hf
      refine r_callS X hw (kg_X8_gcd hE  h11) qw1177 qw1178 qw79 qw1179 okX8_gcd ⟨rfl, rfl⟩ ⟨(Nat.le_of_ble_eq_true rfl), (Nat.le_of_ble_eq_true rfl)⟩ ⟨Nat.zero_le _, Nat.zero_le _⟩ rfl hl.1 (rest := []) rfl (Nat.le_of_ble_eq_true rfl) dX8_mean_31 (st1 := [.long r12]) rfl (fun H locs hw => ?_)
      refine lv_lstore_n (lv' := [(2, .long r12), (0, .ref (eP E 69)), (1, .int x1)]) X.1 X.2.1 dX8_mean_34 rfl hl (by decide) rfl (fun ls hl => ?_)
      refine lv_iload_n X.1 X.2.1 dX8_mean_35 rfl (lv_at hl 2 rfl) ?_
      refine lv_if_ne (tgt := 50) X.1 X.2.1 dX8_mean_36 (by decide) (fun c13 => ?_) (fun c13 => ?_)
      · have hf := if_e hf c13
        refine lv_aload_n X.1 X.2.1 dX8_mean_50 rfl (lv_at hl 1 rfl) ?_
        obtain ⟨r15, h14, hf⟩ := b_bd1 hf
        refine r_callV X hw (k_X8_many hE  h14) (sp69 hE) (C := RX8) (T := TX8) (N := 31) rfl qw985 qw987 qw31 qw79 qw988 okX8_many ⟨rfl, rfl⟩ ⟨(Nat.le_of_ble_eq_true rfl), (Nat.le_of_ble_eq_true rfl)⟩ ⟨Nat.zero_le _, Nat.zero_le _⟩ rfl hl.1 (rest := []) rfl (Nat.le_of_ble_eq_true rfl) dX8_mean_51 (st1 := [.int r15]) rfl (fun H locs hw => ?_)
        refine lv_i2l (v := (r15).toInt64) X.1 X.2.1 dX8_mean_54 rfl ?_
        refine lv_lload_n X.1 X.2.1 dX8_mean_55 rfl (lv_at hl 0 rfl) ?_
        obtain ⟨h16, hf⟩ := b_dzl hf
        refine lv_ldiv X.1 X.2.1 dX8_mean_56 h16 ?_
        obtain rfl := Option.some.inj hf
        exact r_lret X hw dX8_mean_57
      · have hf := if_t hf c13
        refine lv_aload_n X.1 X.2.1 dX8_mean_39 rfl (lv_at hl 1 rfl) ?_
        refine lv_iconst (v := 5) X.1 X.2.1 dX8_mean_40 (by decide) ?_
        obtain ⟨r18, h17, hf⟩ := b_bd1 hf
        refine r_callV X hw (k_X8_all hE  h17) (sp69 hE) (C := RX8) (T := TX8) (N := 31) rfl qw1139 qw1141 qw58 qw79 qw1142 okX8_all ⟨rfl, rfl⟩ ⟨(Nat.le_of_ble_eq_true rfl), (Nat.le_of_ble_eq_true rfl)⟩ ⟨Nat.zero_le _, Nat.zero_le _⟩ rfl hl.1 (rest := []) rfl (Nat.le_of_ble_eq_true rfl) dX8_mean_41 (st1 := [.int r18]) rfl (fun H locs hw => ?_)
        refine lv_i2l (v := (r18).toInt64) X.1 X.2.1 dX8_mean_44 rfl ?_
        refine lv_lload_n X.1 X.2.1 dX8_mean_45 rfl (lv_at hl 0 rfl) ?_
        obtain ⟨h19, hf⟩ := b_dzl hf
        refine lv_ldiv X.1 X.2.1 dX8_mean_46 h19 ?_
        refine lv_goto (tgt := 57) X.1 X.2.1 dX8_mean_47 (by decide) ?_
        obtain rfl := Option.some.inj hf
        exact r_lret X hw dX8_mean_57
    · have hf := if_t hf c6
      refine lv_ldc2 (v := (-4611686018427387904)) X.1 X.2.1 X.2.2.2.1 (X.2.2.2.2.1 _ qw1176) dX8_mean_16 ?_
      obtain rfl := Option.some.inj hf
      exact r_lret X hw dX8_mean_19
abbrev rm_X8_isSheet : Room := { frames := 1, cells := 0, slots := 0, locals := 100 }
set_option maxHeartbeats 4000000 in
set_option maxRecDepth 100000 in
theorem k_X8_isSheet {l : Launch} {E : en_T} (hE : ShF E) {x1 : Int32} {σ : sg_T} {r : Int32} (hf : f_X8_isSheet x1 σ = some r) : Ct l yX8_isSheet cX8_isSheet 1 (some .boolean) rm_X8_isSheet E [.int x1] σ (some (.int r)) σ := by
  refine Ct.start (by decide) hE.1 (Nat.le_of_ble_eq_true rfl) ?_
  intro p e s m below meth c X hw ls hl
  have X : Cx E p s m _ meth c cX8_isSheet 1 RX8 (some .boolean) := X
  have hR : ShR E := hE.r
  have hl : lv_has ls 1 [(0, .int x1)] := hl
  unfold f_X8_isSheet at hf
  refine lv_iload_n X.1 X.2.1 dX8_isSheet_0 rfl (lv_at hl 0 rfl) ?_
  refine lv_iconst (v := 0) X.1 X.2.1 dX8_isSheet_1 (by decide) ?_
  refine lv_iconst (v := 3) X.1 X.2.1 dX8_isSheet_2 (by decide) ?_
  obtain ⟨r2, h1, hf⟩ := b_bd1 hf
  refine r_callS X hw (k_X8_isIn hE  h1) qw966 qw967 qw79 qw968 okX8_isIn ⟨rfl, rfl⟩ ⟨(Nat.le_of_ble_eq_true rfl), (Nat.le_of_ble_eq_true rfl)⟩ ⟨Nat.zero_le _, Nat.zero_le _⟩ rfl hl.1 (rest := []) rfl (Nat.le_of_ble_eq_true rfl) dX8_isSheet_3 (st1 := [.int r2]) rfl (fun H locs hw => ?_)
  obtain ⟨h3, hf⟩ := b_cz hf
  obtain rfl := Option.some.inj hf
  exact r_zret X hw (cz_and h3) dX8_isSheet_6
abbrev rm_X8_sheet : Room := { frames := 2, cells := 0, slots := 0, locals := 120 }
set_option maxHeartbeats 4000000 in
set_option maxRecDepth 100000 in
theorem w_X8_sheet_68 {p : Program} {l : Launch} {e : Env} {s : State} {m : MethodId} {args : Array Value} {below : List Frame} {meth : Method} {c : Code} {Q : State → Prop} {E : en_T} (X : Cx E p s m args meth c cX8_sheet 5 RX8 (some .int)) (hE : ShF E) {u1 : Int32} {u2 : Int32} {u3 : Int32}  {res : Int32 × sg_T} :
    ∀ (n : Nat) (w4 : Int32) (σ : sg_T), itr (fun q => b_X8_sheet_68 u1 u2 u3 q.1 q.2) n (w4, σ) = some res → ∀ (H : Heap) (locs : List Loc) (ls : Array Slot), Hw E σ s H locs → lv_has ls 5 [(0, .ref (eP E 69)), (1, .int u1), (2, .int u2), (3, .int u3), (4, .int w4)] →
    (∀ (y4 : Int32) (τ : sg_T), res = (y4, τ) → ∀ (H : Heap) (locs : List Loc) (ls : Array Slot), Hw E τ s H locs → lv_has ls 5 [(0, .ref (eP E 69)), (1, .int u1), (2, .int u2), (3, .int u3), (4, .int y4)] → W p l e rm_X8_sheet s m args below meth c H locs 0 0 Q (F0 m 94 ls [])) →
    W p l e rm_X8_sheet s m args below meth c H locs 0 0 Q (F0 m 68 ls []) := by
  have hR : ShR E := hE.r
  intro n
  induction n with
  | zero =>
    intro w4 σ hf0
    exact (itr_0 hf0).elim
  | succ n ih =>
    intro w4 σ hf0 H locs ls hw hl K1
    obtain ⟨r0, hf, hr1, hr2⟩ := itr_s hf0
    have hf : b_X8_sheet_68 u1 u2 u3 w4 σ = some r0 := hf
    unfold b_X8_sheet_68 at hf
    refine lv_iload X.1 X.2.1 dX8_sheet_68 (lv_at hl 4 rfl) ?_
    refine lv_bipush (v := 40) X.1 X.2.1 dX8_sheet_70 (by decide) ?_
    refine lv_icmp_ge (tgt := 94) X.1 X.2.1 dX8_sheet_72 (by decide) (fun c18 => ?_) (fun c18 => ?_)
    · have hf := if_t hf c18
      obtain rfl := Option.some.inj hf
      obtain rfl := hr2 _ rfl
      exact K1 _ _ rfl _ _ _ hw (lv_sub hl [0, 1, 2, 3, 4] rfl)
    · have hf := if_e hf c18
      refine lv_aload_n X.1 X.2.1 dX8_sheet_75 rfl (lv_at hl 0 rfl) ?_
      refine r_get X hw (sp69 hE) (C := RX8) (T := TX8) (N := 31) rfl iwX8 27 (by decide) (Nat.le_of_ble_eq_true rfl) qw893 (v := .ref (eP E 86)) rfl dX8_sheet_76 ?_
      refine lv_bipush (v := 40) X.1 X.2.1 dX8_sheet_79 (by decide) ?_
      refine lv_iload_n X.1 X.2.1 dX8_sheet_81 rfl (lv_at hl 1 rfl) ?_
      refine lv_imul X.1 X.2.1 dX8_sheet_82 ?_
      refine lv_iload X.1 X.2.1 dX8_sheet_83 (lv_at hl 4 rfl) ?_
      refine lv_iadd X.1 X.2.1 dX8_sheet_85 ?_
      refine lv_iconst (v := 0) X.1 X.2.1 dX8_sheet_86 (by decide) ?_
      obtain ⟨h19, hf⟩ := b_ck hf
      refine r_iast X hw (sp86 hE) h19 dX8_sheet_87 (fun H locs hw => ?_)
      obtain ⟨σ20, e21, hf⟩ := b_bnd hf
      rw [← e21] at hw
      obtain ⟨v22, e23, hf⟩ := b_bnd hf
      refine lv_iinc (v := v22) (k := 4) (lv' := [(4, .int v22), (0, .ref (eP E 69)), (1, .int u1), (2, .int u2), (3, .int u3)]) X.1 X.2.1 dX8_sheet_88 hl rfl (by rw [e23]; exact congrArg _ (by decide)) (by decide) rfl (fun ls hl => ?_)
      refine lv_goto (tgt := 68) X.1 X.2.1 dX8_sheet_91 (by decide) ?_
      obtain rfl := Option.some.inj hf
      exact ih _ _ (hr1 _ rfl) _ _ _ hw (lv_sub hl [1, 2, 3, 4, 0] rfl) K1
set_option maxHeartbeats 4000000 in
set_option maxRecDepth 100000 in
theorem w_X8_sheet_68q2 {p : Program} {l : Launch} {e : Env} {s : State} {m : MethodId} {args : Array Value} {below : List Frame} {meth : Method} {c : Code} {Q : State → Prop} {E : en_T} (X : Cx E p s m args meth c cX8_sheet 5 RX8 (some .int)) (hE : ShF E) {u1 : Int32} {u2 : Int32} {u3 : Int32}  {res : Int32 × sg_T} :
    ∀ (n : Nat) (w4 : Int32) (σ : sg_T), itr (fun q => b_X8_sheet_68q2 u1 u2 u3 q.1 q.2) n (w4, σ) = some res → ∀ (H : Heap) (locs : List Loc) (ls : Array Slot), Hw E σ s H locs → lv_has ls 5 [(0, .ref (eP E 69)), (1, .int u1), (2, .int u2), (3, .int u3), (4, .int w4)] →
    (∀ (y4 : Int32) (τ : sg_T), res = (y4, τ) → ∀ (H : Heap) (locs : List Loc) (ls : Array Slot), Hw E τ s H locs → lv_has ls 5 [(0, .ref (eP E 69)), (1, .int u1), (2, .int u2), (3, .int u3), (4, .int y4)] → W p l e rm_X8_sheet s m args below meth c H locs 0 0 Q (F0 m 94 ls [])) →
    W p l e rm_X8_sheet s m args below meth c H locs 0 0 Q (F0 m 68 ls []) := by
  have hR : ShR E := hE.r
  intro n
  induction n with
  | zero =>
    intro w4 σ hf0
    exact (itr_0 hf0).elim
  | succ n ih =>
    intro w4 σ hf0 H locs ls hw hl K1
    obtain ⟨r0, hf, hr1, hr2⟩ := itr_s hf0
    have hf : b_X8_sheet_68q2 u1 u2 u3 w4 σ = some r0 := hf
    unfold b_X8_sheet_68q2 at hf
    refine lv_iload X.1 X.2.1 dX8_sheet_68 (lv_at hl 4 rfl) ?_
    refine lv_bipush (v := 40) X.1 X.2.1 dX8_sheet_70 (by decide) ?_
    refine lv_icmp_ge (tgt := 94) X.1 X.2.1 dX8_sheet_72 (by decide) (fun c37 => ?_) (fun c37 => ?_)
    · have hf := if_t hf c37
      obtain rfl := Option.some.inj hf
      obtain rfl := hr2 _ rfl
      exact K1 _ _ rfl _ _ _ hw (lv_sub hl [0, 1, 2, 3, 4] rfl)
    · have hf := if_e hf c37
      refine lv_aload_n X.1 X.2.1 dX8_sheet_75 rfl (lv_at hl 0 rfl) ?_
      refine r_get X hw (sp69 hE) (C := RX8) (T := TX8) (N := 31) rfl iwX8 27 (by decide) (Nat.le_of_ble_eq_true rfl) qw893 (v := .ref (eP E 86)) rfl dX8_sheet_76 ?_
      refine lv_bipush (v := 40) X.1 X.2.1 dX8_sheet_79 (by decide) ?_
      refine lv_iload_n X.1 X.2.1 dX8_sheet_81 rfl (lv_at hl 1 rfl) ?_
      refine lv_imul X.1 X.2.1 dX8_sheet_82 ?_
      refine lv_iload X.1 X.2.1 dX8_sheet_83 (lv_at hl 4 rfl) ?_
      refine lv_iadd X.1 X.2.1 dX8_sheet_85 ?_
      refine lv_iconst (v := 0) X.1 X.2.1 dX8_sheet_86 (by decide) ?_
      obtain ⟨h38, hf⟩ := b_ck hf
      refine r_iast X hw (sp86 hE) h38 dX8_sheet_87 (fun H locs hw => ?_)
      obtain ⟨σ39, e40, hf⟩ := b_bnd hf
      rw [← e40] at hw
      obtain ⟨v41, e42, hf⟩ := b_bnd hf
      refine lv_iinc (v := v41) (k := 4) (lv' := [(4, .int v41), (0, .ref (eP E 69)), (1, .int u1), (2, .int u2), (3, .int u3)]) X.1 X.2.1 dX8_sheet_88 hl rfl (by rw [e42]; exact congrArg _ (by decide)) (by decide) rfl (fun ls hl => ?_)
      refine lv_goto (tgt := 68) X.1 X.2.1 dX8_sheet_91 (by decide) ?_
      obtain rfl := Option.some.inj hf
      exact ih _ _ (hr1 _ rfl) _ _ _ hw (lv_sub hl [1, 2, 3, 4, 0] rfl) K1
set_option maxHeartbeats 4000000 in
set_option maxRecDepth 100000 in
theorem w_X8_sheet_68q3 {p : Program} {l : Launch} {e : Env} {s : State} {m : MethodId} {args : Array Value} {below : List Frame} {meth : Method} {c : Code} {Q : State → Prop} {E : en_T} (X : Cx E p s m args meth c cX8_sheet 5 RX8 (some .int)) (hE : ShF E) {u1 : Int32} {u2 : Int32} {u3 : Int32}  {res : Int32 × sg_T} :
    ∀ (n : Nat) (w4 : Int32) (σ : sg_T), itr (fun q => b_X8_sheet_68q3 u1 u2 u3 q.1 q.2) n (w4, σ) = some res → ∀ (H : Heap) (locs : List Loc) (ls : Array Slot), Hw E σ s H locs → lv_has ls 5 [(0, .ref (eP E 69)), (1, .int u1), (2, .int u2), (3, .int u3), (4, .int w4)] →
    (∀ (y4 : Int32) (τ : sg_T), res = (y4, τ) → ∀ (H : Heap) (locs : List Loc) (ls : Array Slot), Hw E τ s H locs → lv_has ls 5 [(0, .ref (eP E 69)), (1, .int u1), (2, .int u2), (3, .int u3), (4, .int y4)] → W p l e rm_X8_sheet s m args below meth c H locs 0 0 Q (F0 m 94 ls [])) →
    W p l e rm_X8_sheet s m args below meth c H locs 0 0 Q (F0 m 68 ls []) := by
  have hR : ShR E := hE.r
  intro n
  induction n with
  | zero =>
    intro w4 σ hf0
    exact (itr_0 hf0).elim
  | succ n ih =>
    intro w4 σ hf0 H locs ls hw hl K1
    obtain ⟨r0, hf, hr1, hr2⟩ := itr_s hf0
    have hf : b_X8_sheet_68q3 u1 u2 u3 w4 σ = some r0 := hf
    unfold b_X8_sheet_68q3 at hf
    refine lv_iload X.1 X.2.1 dX8_sheet_68 (lv_at hl 4 rfl) ?_
    refine lv_bipush (v := 40) X.1 X.2.1 dX8_sheet_70 (by decide) ?_
    refine lv_icmp_ge (tgt := 94) X.1 X.2.1 dX8_sheet_72 (by decide) (fun c57 => ?_) (fun c57 => ?_)
    · have hf := if_t hf c57
      obtain rfl := Option.some.inj hf
      obtain rfl := hr2 _ rfl
      exact K1 _ _ rfl _ _ _ hw (lv_sub hl [0, 1, 2, 3, 4] rfl)
    · have hf := if_e hf c57
      refine lv_aload_n X.1 X.2.1 dX8_sheet_75 rfl (lv_at hl 0 rfl) ?_
      refine r_get X hw (sp69 hE) (C := RX8) (T := TX8) (N := 31) rfl iwX8 27 (by decide) (Nat.le_of_ble_eq_true rfl) qw893 (v := .ref (eP E 86)) rfl dX8_sheet_76 ?_
      refine lv_bipush (v := 40) X.1 X.2.1 dX8_sheet_79 (by decide) ?_
      refine lv_iload_n X.1 X.2.1 dX8_sheet_81 rfl (lv_at hl 1 rfl) ?_
      refine lv_imul X.1 X.2.1 dX8_sheet_82 ?_
      refine lv_iload X.1 X.2.1 dX8_sheet_83 (lv_at hl 4 rfl) ?_
      refine lv_iadd X.1 X.2.1 dX8_sheet_85 ?_
      refine lv_iconst (v := 0) X.1 X.2.1 dX8_sheet_86 (by decide) ?_
      obtain ⟨h58, hf⟩ := b_ck hf
      refine r_iast X hw (sp86 hE) h58 dX8_sheet_87 (fun H locs hw => ?_)
      obtain ⟨σ59, e60, hf⟩ := b_bnd hf
      rw [← e60] at hw
      obtain ⟨v61, e62, hf⟩ := b_bnd hf
      refine lv_iinc (v := v61) (k := 4) (lv' := [(4, .int v61), (0, .ref (eP E 69)), (1, .int u1), (2, .int u2), (3, .int u3)]) X.1 X.2.1 dX8_sheet_88 hl rfl (by rw [e62]; exact congrArg _ (by decide)) (by decide) rfl (fun ls hl => ?_)
      refine lv_goto (tgt := 68) X.1 X.2.1 dX8_sheet_91 (by decide) ?_
      obtain rfl := Option.some.inj hf
      exact ih _ _ (hr1 _ rfl) _ _ _ hw (lv_sub hl [1, 2, 3, 4, 0] rfl) K1
set_option maxHeartbeats 4000000 in
set_option maxRecDepth 100000 in
theorem w_X8_sheet_68q4 {p : Program} {l : Launch} {e : Env} {s : State} {m : MethodId} {args : Array Value} {below : List Frame} {meth : Method} {c : Code} {Q : State → Prop} {E : en_T} (X : Cx E p s m args meth c cX8_sheet 5 RX8 (some .int)) (hE : ShF E) {u1 : Int32} {u2 : Int32} {u3 : Int32}  {res : Int32 × sg_T} :
    ∀ (n : Nat) (w4 : Int32) (σ : sg_T), itr (fun q => b_X8_sheet_68q4 u1 u2 u3 q.1 q.2) n (w4, σ) = some res → ∀ (H : Heap) (locs : List Loc) (ls : Array Slot), Hw E σ s H locs → lv_has ls 5 [(0, .ref (eP E 69)), (1, .int u1), (2, .int u2), (3, .int u3), (4, .int w4)] →
    (∀ (y4 : Int32) (τ : sg_T), res = (y4, τ) → ∀ (H : Heap) (locs : List Loc) (ls : Array Slot), Hw E τ s H locs → lv_has ls 5 [(0, .ref (eP E 69)), (1, .int u1), (2, .int u2), (3, .int u3), (4, .int y4)] → W p l e rm_X8_sheet s m args below meth c H locs 0 0 Q (F0 m 94 ls [])) →
    W p l e rm_X8_sheet s m args below meth c H locs 0 0 Q (F0 m 68 ls []) := by
  have hR : ShR E := hE.r
  intro n
  induction n with
  | zero =>
    intro w4 σ hf0
    exact (itr_0 hf0).elim
  | succ n ih =>
    intro w4 σ hf0 H locs ls hw hl K1
    obtain ⟨r0, hf, hr1, hr2⟩ := itr_s hf0
    have hf : b_X8_sheet_68q4 u1 u2 u3 w4 σ = some r0 := hf
    unfold b_X8_sheet_68q4 at hf
    refine lv_iload X.1 X.2.1 dX8_sheet_68 (lv_at hl 4 rfl) ?_
    refine lv_bipush (v := 40) X.1 X.2.1 dX8_sheet_70 (by decide) ?_
    refine lv_icmp_ge (tgt := 94) X.1 X.2.1 dX8_sheet_72 (by decide) (fun c76 => ?_) (fun c76 => ?_)
    · have hf := if_t hf c76
      obtain rfl := Option.some.inj hf
      obtain rfl := hr2 _ rfl
      exact K1 _ _ rfl _ _ _ hw (lv_sub hl [0, 1, 2, 3, 4] rfl)
    · have hf := if_e hf c76
      refine lv_aload_n X.1 X.2.1 dX8_sheet_75 rfl (lv_at hl 0 rfl) ?_
      refine r_get X hw (sp69 hE) (C := RX8) (T := TX8) (N := 31) rfl iwX8 27 (by decide) (Nat.le_of_ble_eq_true rfl) qw893 (v := .ref (eP E 86)) rfl dX8_sheet_76 ?_
      refine lv_bipush (v := 40) X.1 X.2.1 dX8_sheet_79 (by decide) ?_
      refine lv_iload_n X.1 X.2.1 dX8_sheet_81 rfl (lv_at hl 1 rfl) ?_
      refine lv_imul X.1 X.2.1 dX8_sheet_82 ?_
      refine lv_iload X.1 X.2.1 dX8_sheet_83 (lv_at hl 4 rfl) ?_
      refine lv_iadd X.1 X.2.1 dX8_sheet_85 ?_
      refine lv_iconst (v := 0) X.1 X.2.1 dX8_sheet_86 (by decide) ?_
      obtain ⟨h77, hf⟩ := b_ck hf
      refine r_iast X hw (sp86 hE) h77 dX8_sheet_87 (fun H locs hw => ?_)
      obtain ⟨σ78, e79, hf⟩ := b_bnd hf
      rw [← e79] at hw
      obtain ⟨v80, e81, hf⟩ := b_bnd hf
      refine lv_iinc (v := v80) (k := 4) (lv' := [(4, .int v80), (0, .ref (eP E 69)), (1, .int u1), (2, .int u2), (3, .int u3)]) X.1 X.2.1 dX8_sheet_88 hl rfl (by rw [e81]; exact congrArg _ (by decide)) (by decide) rfl (fun ls hl => ?_)
      refine lv_goto (tgt := 68) X.1 X.2.1 dX8_sheet_91 (by decide) ?_
      obtain rfl := Option.some.inj hf
      exact ih _ _ (hr1 _ rfl) _ _ _ hw (lv_sub hl [1, 2, 3, 4, 0] rfl) K1
set_option maxHeartbeats 4000000 in
set_option maxRecDepth 100000 in
theorem k_X8_sheet {l : Launch} {E : en_T} (hE : ShF E) {x1 : Int32} {x2 : Int32} {x3 : Int32} {σ : sg_T} {r : Int32} {σ' : sg_T} (hf : f_X8_sheet x1 x2 x3 σ = some (r, σ')) : Ct l yX8_sheet cX8_sheet 5 (some .int) rm_X8_sheet E [.ref (eP E 69), .int x1, .int x2, .int x3] σ (some (.int r)) σ' := by
  refine Ct.start (by decide) hE.1 (Nat.le_of_ble_eq_true rfl) ?_
  intro p e s m below meth c X hw ls hl
  have X : Cx E p s m _ meth c cX8_sheet 5 RX8 (some .int) := X
  have hR : ShR E := hE.r
  have hl : lv_has ls 5 [(0, .ref (eP E 69)), (1, .int x1), (2, .int x2), (3, .int x3)] := hl
  unfold f_X8_sheet at hf
  refine lv_iload_n X.1 X.2.1 dX8_sheet_0 rfl (lv_at hl 1 rfl) ?_
  obtain ⟨r2, h1, hf⟩ := b_bd1 hf
  refine r_callS X hw (k_X8_isSheet hE  h1) qw1184 qw1185 qw79 qw1186 okX8_isSheet ⟨rfl, rfl⟩ ⟨(Nat.le_of_ble_eq_true rfl), (Nat.le_of_ble_eq_true rfl)⟩ ⟨Nat.zero_le _, Nat.zero_le _⟩ rfl hl.1 (rest := []) rfl (Nat.le_of_ble_eq_true rfl) dX8_sheet_1 (st1 := [.int r2]) rfl (fun H locs hw => ?_)
  refine lv_if_eq (tgt := 27) X.1 X.2.1 dX8_sheet_4 (by decide) (fun c3 => ?_) (fun c3 => ?_)
  · have hf := if_t hf c3
    refine lv_bipush (v := (-2)) X.1 X.2.1 dX8_sheet_27 (by decide) ?_
    obtain ⟨rfl, rfl⟩ := Prod.mk.inj (Option.some.inj hf)
    exact r_iret X hw dX8_sheet_29
  · have hf := if_e hf c3
    refine lv_iload_n X.1 X.2.1 dX8_sheet_7 rfl (lv_at hl 2 rfl) ?_
    refine lv_iconst (v := (-1)) X.1 X.2.1 dX8_sheet_8 (by decide) ?_
    refine lv_iconst (v := 2) X.1 X.2.1 dX8_sheet_9 (by decide) ?_
    obtain ⟨r5, h4, hf⟩ := b_bd1 hf
    refine r_callS X hw (k_X8_isIn hE  h4) qw966 qw967 qw79 qw968 okX8_isIn ⟨rfl, rfl⟩ ⟨(Nat.le_of_ble_eq_true rfl), (Nat.le_of_ble_eq_true rfl)⟩ ⟨Nat.zero_le _, Nat.zero_le _⟩ rfl hl.1 (rest := []) rfl (Nat.le_of_ble_eq_true rfl) dX8_sheet_10 (st1 := [.int r5]) rfl (fun H locs hw => ?_)
    refine lv_if_eq (tgt := 27) X.1 X.2.1 dX8_sheet_13 (by decide) (fun c6 => ?_) (fun c6 => ?_)
    · have hf := if_t hf c6
      refine lv_bipush (v := (-2)) X.1 X.2.1 dX8_sheet_27 (by decide) ?_
      obtain ⟨rfl, rfl⟩ := Prod.mk.inj (Option.some.inj hf)
      exact r_iret X hw dX8_sheet_29
    · have hf := if_e hf c6
      refine lv_iload_n X.1 X.2.1 dX8_sheet_16 rfl (lv_at hl 2 rfl) ?_
      refine lv_iconst (v := (-1)) X.1 X.2.1 dX8_sheet_17 (by decide) ?_
      refine lv_icmp_eq (tgt := 30) X.1 X.2.1 dX8_sheet_18 (by decide) (fun c7 => ?_) (fun c7 => ?_)
      · have hf := if_t hf c7
        refine lv_iload_n X.1 X.2.1 dX8_sheet_30 rfl (lv_at hl 2 rfl) ?_
        refine lv_iconst (v := (-1)) X.1 X.2.1 dX8_sheet_31 (by decide) ?_
        refine lv_icmp_eq (tgt := 42) X.1 X.2.1 dX8_sheet_32 (by decide) (fun c8 => ?_) (fun c8 => ?_)
        · have hf := if_t hf c8
          refine lv_aload_n X.1 X.2.1 dX8_sheet_42 rfl (lv_at hl 0 rfl) ?_
          refine r_get X hw (sp69 hE) (C := RX8) (T := TX8) (N := 31) rfl iwX8 25 (by decide) (Nat.le_of_ble_eq_true rfl) qw891 (v := .ref (eP E 84)) rfl dX8_sheet_43 ?_
          refine lv_iload_n X.1 X.2.1 dX8_sheet_46 rfl (lv_at hl 1 rfl) ?_
          refine lv_iload_n X.1 X.2.1 dX8_sheet_47 rfl (lv_at hl 2 rfl) ?_
          obtain ⟨h9, hf⟩ := b_ck hf
          refine r_iast X hw (sp84 hE) h9 dX8_sheet_48 (fun H locs hw => ?_)
          obtain ⟨σ10, e11, hf⟩ := b_bnd hf
          rw [← e11] at hw
          refine lv_aload_n X.1 X.2.1 dX8_sheet_49 rfl (lv_at hl 0 rfl) ?_
          refine r_get X hw (sp69 hE) (C := RX8) (T := TX8) (N := 31) rfl iwX8 26 (by decide) (Nat.le_of_ble_eq_true rfl) qw892 (v := .ref (eP E 85)) rfl dX8_sheet_50 ?_
          refine lv_iload_n X.1 X.2.1 dX8_sheet_53 rfl (lv_at hl 1 rfl) ?_
          refine lv_iload_n X.1 X.2.1 dX8_sheet_54 rfl (lv_at hl 2 rfl) ?_
          refine lv_iconst (v := (-1)) X.1 X.2.1 dX8_sheet_55 (by decide) ?_
          obtain ⟨v13, e14, hf⟩ := b_bnd hf
          refine r_join (g2 := F0 m 64 ls [.int v13, .int x1, .ref (eP E 85)]) ?_ (fun hj => ?_)
          · obtain ⟨h15, hf⟩ := b_ck hf
            refine r_iast X hw (sp85 hE) h15 dX8_sheet_64 (fun H locs hw => ?_)
            obtain ⟨σ16, e17, hf⟩ := b_bnd hf
            rw [← e17] at hw
            refine lv_iconst (v := 0) X.1 X.2.1 dX8_sheet_65 (by decide) ?_
            refine lv_istore (lv' := [(4, .int 0), (0, .ref (eP E 69)), (1, .int x1), (2, .int x2), (3, .int x3)]) X.1 X.2.1 dX8_sheet_66 hl (by decide) rfl (fun ls hl => ?_)
            obtain ⟨v25, σ26, h24, hf⟩ := b_bd2 hf
            refine w_X8_sheet_68 X hE  lfu _ _ h24 _ _ _ hw (lv_sub hl [1, 2, 3, 4, 0] rfl) (fun yv25 yσ26 hq H locs ls hw hl => ?_)
            cases hq
            refine lv_iconst (v := 1) X.1 X.2.1 dX8_sheet_94 (by decide) ?_
            obtain ⟨rfl, rfl⟩ := Prod.mk.inj (Option.some.inj hf)
            exact r_iret X hw dX8_sheet_95
          · refine lv_icmp_ne (tgt := 63) X.1 X.2.1 dX8_sheet_56 (by decide) (fun c12 => ?_) (fun c12 => ?_)
            · rw [e14, if_neg c12] at hj
              refine lv_iload_n X.1 X.2.1 dX8_sheet_63 rfl (lv_at hl 3 rfl) ?_
              exact hj
            · rw [e14, if_pos c12] at hj
              refine lv_iconst (v := 0) X.1 X.2.1 dX8_sheet_59 (by decide) ?_
              refine lv_goto (tgt := 64) X.1 X.2.1 dX8_sheet_60 (by decide) ?_
              exact hj
        · have hf := if_e hf c8
          refine lv_iload_n X.1 X.2.1 dX8_sheet_35 rfl (lv_at hl 3 rfl) ?_
          refine lv_if_ge (tgt := 42) X.1 X.2.1 dX8_sheet_36 (by decide) (fun c27 => ?_) (fun c27 => ?_)
          · have hf := if_t hf c27
            refine lv_aload_n X.1 X.2.1 dX8_sheet_42 rfl (lv_at hl 0 rfl) ?_
            refine r_get X hw (sp69 hE) (C := RX8) (T := TX8) (N := 31) rfl iwX8 25 (by decide) (Nat.le_of_ble_eq_true rfl) qw891 (v := .ref (eP E 84)) rfl dX8_sheet_43 ?_
            refine lv_iload_n X.1 X.2.1 dX8_sheet_46 rfl (lv_at hl 1 rfl) ?_
            refine lv_iload_n X.1 X.2.1 dX8_sheet_47 rfl (lv_at hl 2 rfl) ?_
            obtain ⟨h28, hf⟩ := b_ck hf
            refine r_iast X hw (sp84 hE) h28 dX8_sheet_48 (fun H locs hw => ?_)
            obtain ⟨σ29, e30, hf⟩ := b_bnd hf
            rw [← e30] at hw
            refine lv_aload_n X.1 X.2.1 dX8_sheet_49 rfl (lv_at hl 0 rfl) ?_
            refine r_get X hw (sp69 hE) (C := RX8) (T := TX8) (N := 31) rfl iwX8 26 (by decide) (Nat.le_of_ble_eq_true rfl) qw892 (v := .ref (eP E 85)) rfl dX8_sheet_50 ?_
            refine lv_iload_n X.1 X.2.1 dX8_sheet_53 rfl (lv_at hl 1 rfl) ?_
            refine lv_iload_n X.1 X.2.1 dX8_sheet_54 rfl (lv_at hl 2 rfl) ?_
            refine lv_iconst (v := (-1)) X.1 X.2.1 dX8_sheet_55 (by decide) ?_
            obtain ⟨v32, e33, hf⟩ := b_bnd hf
            refine r_join (g2 := F0 m 64 ls [.int v32, .int x1, .ref (eP E 85)]) ?_ (fun hj => ?_)
            · obtain ⟨h34, hf⟩ := b_ck hf
              refine r_iast X hw (sp85 hE) h34 dX8_sheet_64 (fun H locs hw => ?_)
              obtain ⟨σ35, e36, hf⟩ := b_bnd hf
              rw [← e36] at hw
              refine lv_iconst (v := 0) X.1 X.2.1 dX8_sheet_65 (by decide) ?_
              refine lv_istore (lv' := [(4, .int 0), (0, .ref (eP E 69)), (1, .int x1), (2, .int x2), (3, .int x3)]) X.1 X.2.1 dX8_sheet_66 hl (by decide) rfl (fun ls hl => ?_)
              obtain ⟨v44, σ45, h43, hf⟩ := b_bd2 hf
              refine w_X8_sheet_68q2 X hE  lfu _ _ h43 _ _ _ hw (lv_sub hl [1, 2, 3, 4, 0] rfl) (fun yv44 yσ45 hq H locs ls hw hl => ?_)
              cases hq
              refine lv_iconst (v := 1) X.1 X.2.1 dX8_sheet_94 (by decide) ?_
              obtain ⟨rfl, rfl⟩ := Prod.mk.inj (Option.some.inj hf)
              exact r_iret X hw dX8_sheet_95
            · refine lv_icmp_ne (tgt := 63) X.1 X.2.1 dX8_sheet_56 (by decide) (fun c31 => ?_) (fun c31 => ?_)
              · rw [e33, if_neg c31] at hj
                refine lv_iload_n X.1 X.2.1 dX8_sheet_63 rfl (lv_at hl 3 rfl) ?_
                exact hj
              · rw [e33, if_pos c31] at hj
                refine lv_iconst (v := 0) X.1 X.2.1 dX8_sheet_59 (by decide) ?_
                refine lv_goto (tgt := 64) X.1 X.2.1 dX8_sheet_60 (by decide) ?_
                exact hj
          · have hf := if_e hf c27
            refine lv_bipush (v := (-14)) X.1 X.2.1 dX8_sheet_39 (by decide) ?_
            obtain ⟨rfl, rfl⟩ := Prod.mk.inj (Option.some.inj hf)
            exact r_iret X hw dX8_sheet_41
      · have hf := if_e hf c7
        refine lv_iload_n X.1 X.2.1 dX8_sheet_21 rfl (lv_at hl 3 rfl) ?_
        refine lv_bipush (v := 40) X.1 X.2.1 dX8_sheet_22 (by decide) ?_
        refine lv_icmp_le (tgt := 30) X.1 X.2.1 dX8_sheet_24 (by decide) (fun c46 => ?_) (fun c46 => ?_)
        · have hf := if_t hf c46
          refine lv_iload_n X.1 X.2.1 dX8_sheet_30 rfl (lv_at hl 2 rfl) ?_
          refine lv_iconst (v := (-1)) X.1 X.2.1 dX8_sheet_31 (by decide) ?_
          refine lv_icmp_eq (tgt := 42) X.1 X.2.1 dX8_sheet_32 (by decide) (fun c47 => ?_) (fun c47 => ?_)
          · have hf := if_t hf c47
            refine lv_aload_n X.1 X.2.1 dX8_sheet_42 rfl (lv_at hl 0 rfl) ?_
            refine r_get X hw (sp69 hE) (C := RX8) (T := TX8) (N := 31) rfl iwX8 25 (by decide) (Nat.le_of_ble_eq_true rfl) qw891 (v := .ref (eP E 84)) rfl dX8_sheet_43 ?_
            refine lv_iload_n X.1 X.2.1 dX8_sheet_46 rfl (lv_at hl 1 rfl) ?_
            refine lv_iload_n X.1 X.2.1 dX8_sheet_47 rfl (lv_at hl 2 rfl) ?_
            obtain ⟨h48, hf⟩ := b_ck hf
            refine r_iast X hw (sp84 hE) h48 dX8_sheet_48 (fun H locs hw => ?_)
            obtain ⟨σ49, e50, hf⟩ := b_bnd hf
            rw [← e50] at hw
            refine lv_aload_n X.1 X.2.1 dX8_sheet_49 rfl (lv_at hl 0 rfl) ?_
            refine r_get X hw (sp69 hE) (C := RX8) (T := TX8) (N := 31) rfl iwX8 26 (by decide) (Nat.le_of_ble_eq_true rfl) qw892 (v := .ref (eP E 85)) rfl dX8_sheet_50 ?_
            refine lv_iload_n X.1 X.2.1 dX8_sheet_53 rfl (lv_at hl 1 rfl) ?_
            refine lv_iload_n X.1 X.2.1 dX8_sheet_54 rfl (lv_at hl 2 rfl) ?_
            refine lv_iconst (v := (-1)) X.1 X.2.1 dX8_sheet_55 (by decide) ?_
            obtain ⟨v52, e53, hf⟩ := b_bnd hf
            refine r_join (g2 := F0 m 64 ls [.int v52, .int x1, .ref (eP E 85)]) ?_ (fun hj => ?_)
            · obtain ⟨h54, hf⟩ := b_ck hf
              refine r_iast X hw (sp85 hE) h54 dX8_sheet_64 (fun H locs hw => ?_)
              obtain ⟨σ55, e56, hf⟩ := b_bnd hf
              rw [← e56] at hw
              refine lv_iconst (v := 0) X.1 X.2.1 dX8_sheet_65 (by decide) ?_
              refine lv_istore (lv' := [(4, .int 0), (0, .ref (eP E 69)), (1, .int x1), (2, .int x2), (3, .int x3)]) X.1 X.2.1 dX8_sheet_66 hl (by decide) rfl (fun ls hl => ?_)
              obtain ⟨v64, σ65, h63, hf⟩ := b_bd2 hf
              refine w_X8_sheet_68q3 X hE  lfu _ _ h63 _ _ _ hw (lv_sub hl [1, 2, 3, 4, 0] rfl) (fun yv64 yσ65 hq H locs ls hw hl => ?_)
              cases hq
              refine lv_iconst (v := 1) X.1 X.2.1 dX8_sheet_94 (by decide) ?_
              obtain ⟨rfl, rfl⟩ := Prod.mk.inj (Option.some.inj hf)
              exact r_iret X hw dX8_sheet_95
            · refine lv_icmp_ne (tgt := 63) X.1 X.2.1 dX8_sheet_56 (by decide) (fun c51 => ?_) (fun c51 => ?_)
              · rw [e53, if_neg c51] at hj
                refine lv_iload_n X.1 X.2.1 dX8_sheet_63 rfl (lv_at hl 3 rfl) ?_
                exact hj
              · rw [e53, if_pos c51] at hj
                refine lv_iconst (v := 0) X.1 X.2.1 dX8_sheet_59 (by decide) ?_
                refine lv_goto (tgt := 64) X.1 X.2.1 dX8_sheet_60 (by decide) ?_
                exact hj
          · have hf := if_e hf c47
            refine lv_iload_n X.1 X.2.1 dX8_sheet_35 rfl (lv_at hl 3 rfl) ?_
            refine lv_if_ge (tgt := 42) X.1 X.2.1 dX8_sheet_36 (by decide) (fun c66 => ?_) (fun c66 => ?_)
            · have hf := if_t hf c66
              refine lv_aload_n X.1 X.2.1 dX8_sheet_42 rfl (lv_at hl 0 rfl) ?_
              refine r_get X hw (sp69 hE) (C := RX8) (T := TX8) (N := 31) rfl iwX8 25 (by decide) (Nat.le_of_ble_eq_true rfl) qw891 (v := .ref (eP E 84)) rfl dX8_sheet_43 ?_
              refine lv_iload_n X.1 X.2.1 dX8_sheet_46 rfl (lv_at hl 1 rfl) ?_
              refine lv_iload_n X.1 X.2.1 dX8_sheet_47 rfl (lv_at hl 2 rfl) ?_
              obtain ⟨h67, hf⟩ := b_ck hf
              refine r_iast X hw (sp84 hE) h67 dX8_sheet_48 (fun H locs hw => ?_)
              obtain ⟨σ68, e69, hf⟩ := b_bnd hf
              rw [← e69] at hw
              refine lv_aload_n X.1 X.2.1 dX8_sheet_49 rfl (lv_at hl 0 rfl) ?_
              refine r_get X hw (sp69 hE) (C := RX8) (T := TX8) (N := 31) rfl iwX8 26 (by decide) (Nat.le_of_ble_eq_true rfl) qw892 (v := .ref (eP E 85)) rfl dX8_sheet_50 ?_
              refine lv_iload_n X.1 X.2.1 dX8_sheet_53 rfl (lv_at hl 1 rfl) ?_
              refine lv_iload_n X.1 X.2.1 dX8_sheet_54 rfl (lv_at hl 2 rfl) ?_
              refine lv_iconst (v := (-1)) X.1 X.2.1 dX8_sheet_55 (by decide) ?_
              obtain ⟨v71, e72, hf⟩ := b_bnd hf
              refine r_join (g2 := F0 m 64 ls [.int v71, .int x1, .ref (eP E 85)]) ?_ (fun hj => ?_)
              · obtain ⟨h73, hf⟩ := b_ck hf
                refine r_iast X hw (sp85 hE) h73 dX8_sheet_64 (fun H locs hw => ?_)
                obtain ⟨σ74, e75, hf⟩ := b_bnd hf
                rw [← e75] at hw
                refine lv_iconst (v := 0) X.1 X.2.1 dX8_sheet_65 (by decide) ?_
                refine lv_istore (lv' := [(4, .int 0), (0, .ref (eP E 69)), (1, .int x1), (2, .int x2), (3, .int x3)]) X.1 X.2.1 dX8_sheet_66 hl (by decide) rfl (fun ls hl => ?_)
                obtain ⟨v83, σ84, h82, hf⟩ := b_bd2 hf
                refine w_X8_sheet_68q4 X hE  lfu _ _ h82 _ _ _ hw (lv_sub hl [1, 2, 3, 4, 0] rfl) (fun yv83 yσ84 hq H locs ls hw hl => ?_)
                cases hq
                refine lv_iconst (v := 1) X.1 X.2.1 dX8_sheet_94 (by decide) ?_
                obtain ⟨rfl, rfl⟩ := Prod.mk.inj (Option.some.inj hf)
                exact r_iret X hw dX8_sheet_95
              · refine lv_icmp_ne (tgt := 63) X.1 X.2.1 dX8_sheet_56 (by decide) (fun c70 => ?_) (fun c70 => ?_)
                · rw [e72, if_neg c70] at hj
                  refine lv_iload_n X.1 X.2.1 dX8_sheet_63 rfl (lv_at hl 3 rfl) ?_
                  exact hj
                · rw [e72, if_pos c70] at hj
                  refine lv_iconst (v := 0) X.1 X.2.1 dX8_sheet_59 (by decide) ?_
                  refine lv_goto (tgt := 64) X.1 X.2.1 dX8_sheet_60 (by decide) ?_
                  exact hj
            · have hf := if_e hf c66
              refine lv_bipush (v := (-14)) X.1 X.2.1 dX8_sheet_39 (by decide) ?_
              obtain ⟨rfl, rfl⟩ := Prod.mk.inj (Option.some.inj hf)
              exact r_iret X hw dX8_sheet_41
        · have hf := if_e hf c46
          refine lv_bipush (v := (-2)) X.1 X.2.1 dX8_sheet_27 (by decide) ?_
          obtain ⟨rfl, rfl⟩ := Prod.mk.inj (Option.some.inj hf)
          exact r_iret X hw dX8_sheet_29
