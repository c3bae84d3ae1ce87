section RowsD
variable {p : Program} {l : Launch} {e : Env} {R : Room} {s : State} {m : MethodId} {args : Array Value} {below : List Frame} {meth : Method} {c : Code} {H : Heap} {locs : List Loc} {cells slots : Nat} {Q : State → Prop}
variable {B : zb_T} {L : List sh_K} {σ : sg_T} {cc : ByteArray} {nL : Nat} {own : String} {ret : Option FieldType} {pc : Nat} {ls : Array Slot} {rest : List Value}
theorem z_low {H1 : Heap} (hP : va_P B.1 vwCl (en_w (mkE B L) σ) H1) (h0 : 0 < L.length) : zba B + L.length ≤ H1.size := by
  have hlt : L.length - 1 < L.length := by omega
  have := hP (L.length - 1) (zba B + (L.length - 1), en_c (mkE B L) (eH (mkE B L) (L.length - 1)) (σ (L.length - 1))) (by simp [en_w, eN, mkE, hlt, eP])
  have h1 : zba B + (L.length - 1) < H1.size := this.lt
  omega
/-- behind a step that makes nothing -/
theorem z_go {L' : List sh_K} {σ' : sg_T} {H1 : Heap} {locs1 : List Loc} {g : JFrame} (hw : Hz B L σ s H locs cells) (hl : L'.length = L.length) (h0 : 0 < L.length) (hP : va_P B.1 vwCl (en_w (mkE B L') σ') H1) (hS : va_S (zA B) s.heap H1 locs1) (kk : Hz B L' σ' s H1 locs1 cells → W p l e R s m args below meth c H1 locs1 cells slots Q g) : W p l e R s m args below meth c H1 locs1 cells slots Q g := by
  intro T1 hT1 X1
  have h3 : H1.size ≤ s.heap.size + cells := by rw [← hT1]; exact X1.heapSize
  have h4 := z_low hP (by omega)
  have h5 := hw.2.2.2
  have h6 := hw.2.2.1
  exact kk ⟨hP, hS, by omega, by omega⟩ T1 hT1 X1
theorem z_D (B : zb_T) (L : List sh_K) (σ : sg_T) : va_D (zA B) (en_w (mkE B L) σ) := (en_D (mkE_I B L) σ).weaken (fun _ _ _ h => zA_of h)
theorem z_put (X : Cz B p s m args meth c cc nL own ret) (hw : Hz B L σ s H locs cells) {pl ci : Nat} {ks : List Nat} (hs : Lg L pl (.inr (.inr (ci, ks)))) {C : String} {T : u_T} {N index : Nat} (hc : vwCl[ci]? = some (C, T, N)) (hin : ∀ w ∈ u_ws C T N, w ∈ lw_good) (ty0 : Nat → FieldType) (hty : ∀ k, k < N → parseFieldDescriptor (T k).2.2.1 = some (ty0 k)) (hnm : ∀ a, a < N → ∀ b, b < N → a ≠ b → (T a).2.1 ≠ (T b).2.1) (k : Nat) (hk : k < N) (hkl : k < ks.length) (hlink : Cond.fieldLink own index (T k).1 (T k).2.1 (T k).2.2.1 ∈ lw_good) (hfin : (T k).2.2.2 = false) {v : Value} (hn : narrow (ty0 k) v = v) (hfit : fits (ty0 k) v = true) {x : Int32} (hv : fv (fun p => zba B + p) (ks.getD k 0) x = v) (hdg : decode cc pc = .ok (.putfield index, 3))
    (kk : ∀ (H1 : Heap) (locs1 : List Loc), Hz B L (up σ pl k x) s H1 locs1 cells → W p l e R s m args below meth c H1 locs1 cells slots Q (F0 m (pc + 3) ls rest)) : W p l e R s m args below meth c H locs cells slots Q (F0 m pc ls (v :: .ref (zba B + pl) :: rest)) := by
  subst hv
  refine va_put X.1 X.2.1 X.2.2.2.2.1 hin ty0 hty hnm X.2.2.2.1 X.2.2.2.2.2.1 hw.1 (z_D B L σ) hw.2.1 pl (en_get (E := mkE B L) hs.sp) hc k hk (X.2.2.2.2.1 _ hlink) (fun _ h => h) hfin (hty k hk) hn hfit (by rw [en_f_len]; exact hkl) hdg (fun H1 locs1 hP _ hS => ?_)
  refine z_go (L' := L) (σ' := up σ pl k x) hw rfl (Nat.lt_of_le_of_lt (Nat.zero_le _) hs.1) ?_ hS (kk H1 locs1)
  have h := en_set (E := mkE B L) (σ := σ) (σ' := up σ pl k x) hs.sp (fun q hq => up_n hq)
  rw [up_s] at h
  have e2 : (en_f (eP (mkE B L)) ks (σ pl)).set k (fv (fun p => zba B + p) (ks.getD k 0) x) = en_f (eP (mkE B L)) ks (upd (σ pl) k x) := en_f_set hkl
  have hP2 : va_P B.1 vwCl ((en_w (mkE B L) σ).set pl (zba B + pl, .inr (ci, (en_f (eP (mkE B L)) ks (σ pl)).set k (fv (fun p => zba B + p) (ks.getD k 0) x)))) H1 := hP
  rw [e2] at hP2
  rw [← h]; exact hP2
theorem z_iast (X : Cz B p s m args meth c cc nL own ret) (hw : Hz B L σ s H locs cells) {pl n : Nat} (hs : Lg L pl (.inl (.int, n))) {i x : Int32} (hin : vp_in i n) (hdg : decode cc pc = .ok (.iastore, 1))
    (kk : ∀ (H1 : Heap) (locs1 : List Loc), Hz B L (up σ pl i.toNatClampNeg x) s H1 locs1 cells → W p l e R s m args below meth c H1 locs1 cells slots Q (F0 m (pc + 1) ls rest)) : W p l e R s m args below meth c H locs cells slots Q (F0 m pc ls (.int x :: .int i :: .ref (zba B + pl) :: rest)) := by
  refine va_iast X.1 X.2.1 X.2.2.2.2.2.1 hw.1 (z_D B L σ) hw.2.1 pl 0 (en_get (E := mkE B L) hs.sp) rfl hin hdg (fun H1 locs1 hP _ hS => ?_)
  refine z_go (L' := L) (σ' := up σ pl i.toNatClampNeg x) hw rfl (Nat.lt_of_le_of_lt (Nat.zero_le _) hs.1) ?_ hS (kk H1 locs1)
  have h := en_set (E := mkE B L) (σ := σ) (σ' := up σ pl i.toNatClampNeg x) hs.sp (fun q hq => up_n hq)
  rw [up_s] at h
  rw [← h]; exact hP
theorem z_cast (X : Cz B p s m args meth c cc nL own ret) (hw : Hz B L σ s H locs cells) {pl n : Nat} (hs : Lg L pl (.inl (.char, n))) {i x : Int32} (hx : vp_nar .char x = x) (hin : vp_in i n) (hdg : decode cc pc = .ok (.castore, 1))
    (kk : ∀ (H1 : Heap) (locs1 : List Loc), Hz B L (up σ pl i.toNatClampNeg x) s H1 locs1 cells → W p l e R s m args below meth c H1 locs1 cells slots Q (F0 m (pc + 1) ls rest)) : W p l e R s m args below meth c H locs cells slots Q (F0 m pc ls (.int x :: .int i :: .ref (zba B + pl) :: rest)) := by
  refine va_cast X.1 X.2.1 X.2.2.2.2.2.1 hw.1 (z_D B L σ) hw.2.1 pl 1 (en_get (E := mkE B L) hs.sp) rfl hin hdg (fun H1 locs1 hP _ hS => ?_)
  refine z_go (L' := L) (σ' := up σ pl i.toNatClampNeg x) hw rfl (Nat.lt_of_le_of_lt (Nat.zero_le _) hs.1) ?_ hS (kk H1 locs1)
  have h := en_set (E := mkE B L) (σ := σ) (σ' := up σ pl i.toNatClampNeg x) hs.sp (fun q hq => up_n hq)
  rw [up_s] at h
  rw [hx] at hP
  rw [← h]; exact hP
theorem z_aast (X : Cz B p s m args meth c cc nL own ret) (hw : Hz B L σ s H locs cells) {pl n : Nat} {r : Nat → Nat} {C : String} {T : u_T} {N t0 : Nat} (hs : Lg L pl (.inr (.inl (C, n, r)))) (ht : (ztys B)[t0]? = some (B.2.1 (.object C), .object C)) {q ci : Nat} {ks : List Nat} (hq : Lg L q (.inr (.inr (ci, ks)))) (hc : vwCl[ci]? = some (C, T, N)) {i : Int32} (hin : vp_in i n) (hdg : decode cc pc = .ok (.aastore, 1))
    (kk : ∀ (H1 : Heap) (locs1 : List Loc), Hz B (L.set pl (.inr (.inl (C, n, upq r i.toNatClampNeg q)))) σ s H1 locs1 cells → W p l e R s m args below meth c H1 locs1 cells slots Q (F0 m (pc + 1) ls rest)) : W p l e R s m args below meth c H locs cells slots Q (F0 m pc ls (.ref (zba B + q) :: .int i :: .ref (zba B + pl) :: rest)) := by
  refine va_astq X.1 X.2.1 X.2.2.2.2.2.1 hw.1 (z_D B L σ) hw.2.1 pl t0 q ci (r := (C, T, N)) (en_get (E := mkE B L) hs.sp) ht (en_get (E := mkE B L) hq.sp) hc hin hdg (fun H1 locs1 hP _ hS => ?_)
  refine z_go (L' := L.set pl (.inr (.inl (C, n, upq r i.toNatClampNeg q)))) (σ' := σ) hw (List.length_set) (Nat.lt_of_le_of_lt (Nat.zero_le _) hs.1) ?_ hS (kk H1 locs1)
  have h := z_set (B := B) (L := L) (σ := σ) (σ' := σ) (h := .inr (.inl (C, n, upq r i.toNatClampNeg q))) hs.1 (fun _ _ => rfl)
  rw [← h]
  have e2 : (fun j => fr (fun p => zba B + p) (upq r i.toNatClampNeg q j)) = va_up (fun j => fr (fun p => zba B + p) (r j)) i.toNatClampNeg (some (zba B + q)) := by
    funext j
    unfold upq va_up
    by_cases hj : j = i.toNatClampNeg
    · rw [if_pos hj, if_pos hj]; rfl
    · rw [if_neg hj, if_neg hj]
  show va_P B.1 vwCl ((en_w (mkE B L) σ).set pl (zba B + pl, .inl (B.2.1 (.object C), n, .inr (.inr (.inr (.inr (fun j => fr (fun p => zba B + p) (upq r i.toNatClampNeg q j)))))))) H1
  rw [e2]
  exact hP
theorem Iz.blind (As : List Value) : FrameBlind (va_Pc As (Iz B L σ)) := fun a U g mk q => by
  obtain ⟨q0, qP, qK, qG, qs, q5, q4⟩ := q
  exact ⟨q0, qP, va_K.moved (u := U) (U := U.calling g mk a) (Vm.Alike.refl U.vm) qK, GsA.same (s := U) (U := U.calling g mk a) (H := U.heap) rfl qG, qs, va_AO.moved (u := U) (U := U.calling g mk a) (Vm.Alike.refl U.vm) q5, va_AO.moved (u := U) (U := U.calling g mk a) (Vm.Alike.refl U.vm) q4⟩
theorem Hz.pre (X : Cz B p s m args meth c cc nL own ret) (hw : Hz B L σ s H locs cells) (As : List Value) : ∀ U : State, U.heap = H → s.WarmedH U.vm → va_Pc As (Iz B L σ) As.toArray U := fun U hU hW =>
  ⟨rfl, by rw [hU]; exact hw.1, va_K.moved hW.alike X.2.2.2.2.2.1, by rw [hU]; exact (X.2.2.2.2.2.2.1.kept hw.2.1.2.1).warm hW, by rw [hU]; exact hw.2.2.1, va_AO.moved hW.alike X.2.2.2.2.2.2.2.2.2.2.1, va_AO.moved hW.alike X.2.2.2.2.2.2.2.2.2.2.2⟩
theorem z_run {As : Array Value} {st0 : List Value} {L' : List sh_K} {σ' : sg_T} {mc ms : Nat} (hr : va_Run p l e R s m args below meth c H locs cells slots mc ms (F0 m pc ls st0) rest (Qz B L' σ' As) (zA B)) (hw : Hz B L σ s H locs cells) (hlen : L'.length = L.length + mc)
    (kk : ∀ (H1 : Heap) (locs1 : List Loc), Hz B L' σ' s H1 locs1 (cells + mc) → W p l e R s m args below meth c H1 locs1 (cells + mc) (slots + ms) Q (F0 m (pc + 3) ls rest)) : W p l e R s m args below meth c H locs cells slots Q (F0 m pc ls st0) := by
  intro T hT X
  obtain ⟨v, st₀, t, T', Lo, h0, X', hL, e1, e2, ⟨hv, hI, hz, hk⟩, st⟩ := hr T hT X
  cases hv
  rw [h0] at hz hk
  have hS := hw.2.1
  have hsz : T'.heap.size = zba B + L'.length := by rw [e1]; exact hI.2.2.2.1
  obtain ⟨t2, a1, b1⟩ := kk T'.heap (locs ++ Lo) ⟨by rw [e1]; exact hI.1, ⟨Nat.le_trans hS.1 (by rw [e1]; exact hz), fun q h1 h2 => by rw [e1, hk q (Nat.lt_of_lt_of_le h1 hS.1) h2]; exact hS.2.1 q h1 h2, fun q hq => by
      rcases List.mem_append.mp hq with h | h
      · exact hS.2.2 q h
      · exact hL q h⟩, hsz, by rw [hsz, hlen, ← Nat.add_assoc, ← hw.2.2.1, hw.2.2.2, Nat.add_assoc]⟩ T' rfl X'
  exact ⟨t2, st t2 a1, b1⟩
theorem z_callI (X : Cz B p s m args meth c cc nL own ret) (hw : Hz B L σ s H locs cells) {y : MethodName} {cb : ByteArray} {maxL : Nat} {rm : Room} {pl : Nat} {As : List Value} {L' : List sh_K} {σ' : sg_T} {mc ms : Nat} (hM : Cn l y cb maxL rm B (.ref (zba B + pl) :: As) L σ L' σ' mc ms)
    {index n : Nat} (w1 : Cond.methodLink own index y ∈ lw_good) (w2 : Cond.instanceMethod y ∈ lw_good) (w4 : Cond.initialized y.cls ∈ lw_good) (w5 : Cond.code y cb maxL none ∈ lw_good) (hy : y.name = "<init>")
    (hd : y.cls ≠ "java/lang/invoke/MethodHandle" ∧ y.cls ≠ "java/lang/invoke/VarHandle" ∧ (parseMethodDescriptor y.desc).map (fun d => d.parameters.length) = some n) (hz : rm.cells = mc ∧ rm.slots = ms) (hR : rm.frames + 1 ≤ R.frames ∧ 8 + (maxL + 11) + rm.locals ≤ R.locals) (hf : cells + mc ≤ R.cells ∧ slots + ms ≤ R.slots) (hlen : L'.length = L.length + mc)
    (hn : As.length = n) (hl : ls.size = nL) {st0 : List Value} (hst0 : st0 = As.reverse ++ .ref (zba B + pl) :: rest) (hro : (rest.map fun v => v.category).sum ≤ 8) (hdg : decode cc pc = .ok (.invokespecial index, 3))
    (kk : ∀ (H1 : Heap) (locs1 : List Loc), Hz B L' σ' s H1 locs1 (cells + mc) → W p l e R s m args below meth c H1 locs1 (cells + mc) (slots + ms) Q (F0 m (pc + 3) ls rest)) : W p l e R s m args below meth c H locs cells slots Q (F0 m pc ls st0) :=
  z_run (va_runI (As := As) (rest := rest) ⟨X.1, X.2.1, X.2.2.1, X.2.2.2.1, X.2.2.2.2.1⟩ hM (cwI n X.2.2.2.2.1 (good_ok (wsy_in w5)) rfl hz.1 hz.2 (X.2.2.2.2.1 _ w4) (X.2.2.2.2.1 _ w1) (X.2.2.2.2.1 _ w2) hy hd hR) ⟨Iz.blind _, hw.pre X _⟩ rfl hn hl hst0 (lv_room hro) hdg hf) hw hlen kk
theorem z_callIN (X : Cz B p s m args meth c cc nL own ret) (hw : Hz B L σ s H locs cells) {y : MethodName} {cb : ByteArray} {maxL : Nat} {rm : Room} {pl : Nat} {As : List Value} {L' : List sh_K} {σ' : sg_T} {mc ms : Nat} (hM : Cn l y cb maxL rm B (.ref (zba B + pl) :: As) L σ L' σ' mc ms)
    {index n : Nat} {host : String} (w1 : Cond.methodLinkNest own index y host ∈ lw_nest) (w2 : Cond.instanceMethod y ∈ lw_good) (w4 : Cond.initialized y.cls ∈ lw_good) (w5 : Cond.code y cb maxL none ∈ lw_good) (hy : y.name = "<init>")
    (hd : y.cls ≠ "java/lang/invoke/MethodHandle" ∧ y.cls ≠ "java/lang/invoke/VarHandle" ∧ (parseMethodDescriptor y.desc).map (fun d => d.parameters.length) = some n) (hz : rm.cells = mc ∧ rm.slots = ms) (hR : rm.frames + 1 ≤ R.frames ∧ 8 + (maxL + 11) + rm.locals ≤ R.locals) (hf : cells + mc ≤ R.cells ∧ slots + ms ≤ R.slots) (hlen : L'.length = L.length + mc)
    (hn : As.length = n) (hl : ls.size = nL) {st0 : List Value} (hst0 : st0 = As.reverse ++ .ref (zba B + pl) :: rest) (hro : (rest.map fun v => v.category).sum ≤ 8) (hdg : decode cc pc = .ok (.invokespecial index, 3))
    (kk : ∀ (H1 : Heap) (locs1 : List Loc), Hz B L' σ' s H1 locs1 (cells + mc) → W p l e R s m args below meth c H1 locs1 (cells + mc) (slots + ms) Q (F0 m (pc + 3) ls rest)) : W p l e R s m args below meth c H locs cells slots Q (F0 m pc ls st0) :=
  z_run (va_runIN (As := As) (rest := rest) (bytes := cb) (maxL := maxL) ⟨X.1, X.2.1, X.2.2.1, X.2.2.2.1, X.2.2.2.2.1⟩ hM ⟨va_cnB n X.2.2.2.2.1 (good_ok (wsy_in w5)) rfl hz.1 hz.2 (X.2.2.2.2.2.2.1.2.2.1 _ w1) (X.2.2.2.2.1 _ w4) hd hR, hy, X.2.2.2.2.1 _ w2⟩ ⟨Iz.blind _, hw.pre X _⟩ rfl hn hl hst0 (lv_room hro) hdg hf) hw hlen kk
theorem z_callC (X : Cz B p s m args meth c cc nL own ret) (hw : Hz B L σ s H locs cells) {y : MethodName} {cb : ByteArray} {maxL : Nat} {ret' : Option FieldType} {rm : Room} {pl : Nat} {As : List Value} {res : Option Value} {σ' : sg_T} (hM : Ct l y cb maxL ret' rm (mkE B L) (.ref (zba B + pl) :: As) σ res σ')
    {ci : Nat} {ks : List Nat} (hs : Lg L pl (.inr (.inr (ci, ks)))) {C : String} {T : u_T} {N index n : Nat} (hc : vwCl[ci]? = some (C, T, N)) (w1 : Cond.methodLink own index y ∈ lw_good) (w2 : Cond.instanceMethod y ∈ lw_good) (w3 : Cond.selects C y y ∈ lw_good) (w4 : Cond.initialized C ∈ lw_good) (w5 : Cond.code y cb maxL ret' ∈ lw_good)
    (hd : y.cls = C ∧ y.cls ≠ "java/lang/invoke/MethodHandle" ∧ y.cls ≠ "java/lang/invoke/VarHandle" ∧ (parseMethodDescriptor y.desc).map (fun d => d.parameters.length) = some n) (hz : rm.cells = 0 ∧ rm.slots = 0) (hR : rm.frames + 1 ≤ R.frames ∧ 8 + (maxL + 11) + rm.locals ≤ R.locals) (hf : cells ≤ R.cells ∧ slots ≤ R.slots)
    (hn : As.length = n) (hl : ls.size = nL) {st0 st1 : List Value} (hst0 : st0 = As.reverse ++ .ref (zba B + pl) :: rest) (hro : (rest.map fun v => v.category).sum ≤ 8) (hdg : decode cc pc = .ok (.invokevirtual index, 3)) (hst1 : res.toList ++ rest = st1)
    (kk : ∀ (H1 : Heap) (locs1 : List Loc), Hz B L σ' s H1 locs1 cells → W p l e R s m args below meth c H1 locs1 cells slots Q (F0 m (pc + 3) ls st1)) : W p l e R s m args below meth c H locs cells slots Q (F0 m pc ls st0) := by
  subst hst1
  have hG : GoodIn lw_good (wsV own index C y (wsy y cb maxL ret')) := good_ok (fun w hw => by
    simp only [wsV, List.mem_append, List.mem_cons, List.not_mem_nil, or_false] at hw
    rcases hw with (rfl | rfl | rfl | rfl) | hw
    · exact w1
    · exact w2
    · exact w3
    · exact w4
    · exact wsy_in w5 w hw)
  have hpre : ∀ U : State, U.heap = H → s.WarmedH U.vm → va_Pc (.ref (zba B + pl) :: As) (Iw (mkE B L) σ) (.ref (zba B + pl) :: As : List Value).toArray U := fun U hU hW =>
    ⟨rfl, by rw [hU]; exact hw.1, va_K.moved hW.alike X.2.2.2.2.2.1, by rw [hU]; exact GsA.e (E := mkE B L) (GsA.narrow (A' := en_A (mkE B L)) (fun q h => zA_of h) ((X.2.2.2.2.2.2.1.kept hw.2.1.2.1).warm hW))⟩
  have hr := va_runV (As := As) (rest := rest) (locs := locs) (cells := cells) (slots := slots) (below := below) (meth := meth) (g := F0 m pc ls st0) (e := e) ⟨X.1, X.2.1, X.2.2.1, X.2.2.2.1, X.2.2.2.2.1⟩ hM (cwV (R := R) n X.2.2.2.2.1 hG rfl hz.1 hz.2 hd hR) ⟨Iw.blind _, va_recv X.2.2.2.2.2.1 hw.1 hc (en_get (E := mkE B L) hs.sp), hpre⟩ rfl hn hl hst0 (lv_room hro) hdg hf
  intro T1 hT1 X1
  obtain ⟨v, st₀, t, T', Lo, h0, X', hL, e1, e2, ⟨hv, hI, hz2, hk⟩, st⟩ := hr T1 hT1 X1
  cases hv
  rw [h0] at hz2 hk
  have hS := hw.2.1
  have hkk := z_go (p := p) (l := l) (e := e) (R := R) (m := m) (args := args) (below := below) (meth := meth) (c := c) (slots := slots) (Q := Q) (L' := L) (σ' := σ') (H1 := T'.heap) (locs1 := locs ++ Lo) (g := F0 m (pc + 3) ls (res.toList ++ rest)) hw rfl (Nat.lt_of_le_of_lt (Nat.zero_le _) hs.1) (by rw [e1]; exact hI.1) ⟨Nat.le_trans hS.1 (by rw [e1]; exact hz2), fun q h1 h2 => by rw [e1, hk q (Nat.lt_of_lt_of_le h1 hS.1) (fun z => h2 (zA_of z))]; exact hS.2.1 q h1 h2, fun q hq => by
      rcases List.mem_append.mp hq with h | h
      · exact hS.2.2 q h
      · exact zA_of (hL q h)⟩ (kk T'.heap (locs ++ Lo))
  obtain ⟨t2, a1, b1⟩ := hkk T' rfl X'
  exact ⟨t2, st t2 a1, b1⟩
theorem z_vret {σ' : sg_T} {L' : List sh_K} (X : Cz B p s m args meth c cc nL own none) (hw : Hz B L σ s H locs cells) (hL : L = L') (hσ : σ = σ') {mc ms : Nat} (hc : cells ≤ mc) (hs : slots ≤ ms) (hdg : decode cc pc = .ok (.return_, 1)) : W p l e R s m args below meth c H locs cells slots (MQ below (Qz B L' σ') args s mc ms (zA B)) (F0 m pc ls []) := by
  subst hL; subst hσ
  refine W.widen hc hs ?_
  exact W.vret X.1 X.2.1 X.2.2.2.2.2.2.2.2.1 (fun t ht hW => ⟨rfl, ⟨by rw [ht]; exact hw.1, va_K.moved hW.alike X.2.2.2.2.2.1, by rw [ht]; exact (X.2.2.2.2.2.2.1.kept hw.2.1.2.1).warm hW, by rw [ht]; exact hw.2.2.1, va_AO.moved hW.alike X.2.2.2.2.2.2.2.2.2.2.1, va_AO.moved hW.alike X.2.2.2.2.2.2.2.2.2.2.2⟩, hw.2.1.F ht⟩) hw.2.1.2.2 hdg X.2.2.2.2.2.2.2.2.2.1
theorem z_obj (X : Cz B p s m args meth c cc nL own ret) (hl : ls.size = nL) {idx : Nat} (w1 : Cond.methodLink own idx Lib.objectInit ∈ lw_good) (w2 : Cond.instanceMethod Lib.objectInit ∈ lw_good) (w3 : Cond.code Lib.objectInit ⟨#[0xb1]⟩ 1 none ∈ lw_good) {a : Addr} (hf : 1 ≤ R.frames) (hlo : 12 ≤ R.locals) (hdg : decode cc pc = .ok (.invokespecial idx, 3))
    (kk : W p l e R s m args below meth c H locs cells slots Q (F0 m (pc + 3) ls [])) : W p l e R s m args below meth c H locs cells slots Q (F0 m pc ls [.ref a]) :=
  W.objInit X.1 X.2.1 X.2.2.2.1 (X.2.2.2.2.1 _ w1) (X.2.2.2.2.1 _ w2) (X.2.2.2.2.1 _ w3) rfl (hl.trans X.2.2.1.symm) rfl hdg hf hlo kk
end RowsD
