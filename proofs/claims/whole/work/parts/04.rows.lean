section RowsA
variable {p : Program} {l : Launch} {e : Env} {R : Room} {s : State} {m : MethodId} {args : Array Value} {below : List Frame} {meth : Method} {c : Code} {H : Heap} {locs : List Loc} {cells slots : Nat} {Q : State → Prop}
variable {E : en_T} {σ : sg_T} {cc : ByteArray} {nL : Nat} {own : String} {ret : Option FieldType} {pc : Nat} {ls : Array Slot} {rest : List Value}
theorem r_iald (X : Cx E p s m args meth c cc nL own ret) (hw : Hw E σ s H locs) {pl n : Nat} (hs : Sp E pl (.inl (.int, n))) {i : Int32} (hin : vp_in i n) (hdg : decode cc pc = .ok (.iaload, 1))
    (kk : W p l e R s m args below meth c H locs cells slots Q (F0 m (pc + 1) ls (.int (σ pl i.toNatClampNeg) :: rest))) : W p l e R s m args below meth c H locs cells slots Q (F0 m pc ls (.int i :: .ref (eP E pl) :: rest)) :=
  va_iald X.1 X.2.1 X.2.2.2.2.2.1 hw.1 pl 0 (en_get hs) rfl hin hdg kk
theorem r_cald (X : Cx E p s m args meth c cc nL own ret) (hw : Hw E σ s H locs) {pl n : Nat} (hs : Sp E pl (.inl (.char, n))) {i : Int32} (hin : vp_in i n) (hdg : decode cc pc = .ok (.caload, 1))
    (kk : W p l e R s m args below meth c H locs cells slots Q (F0 m (pc + 1) ls (.int (σ pl i.toNatClampNeg) :: rest))) : W p l e R s m args below meth c H locs cells slots Q (F0 m pc ls (.int i :: .ref (eP E pl) :: rest)) :=
  va_cald X.1 X.2.1 X.2.2.2.2.2.1 hw.1 pl 1 (en_get hs) rfl hin hdg kk
theorem r_zald (X : Cx E p s m args meth c cc nL own ret) (hw : Hw E σ s H locs) {pl n : Nat} (hs : Sp E pl (.inl (.boolean, n))) {i : Int32} (hin : vp_in i n) (hdg : decode cc pc = .ok (.baload, 1))
    (kk : W p l e R s m args below meth c H locs cells slots Q (F0 m (pc + 1) ls (.int (σ pl i.toNatClampNeg) :: rest))) : W p l e R s m args below meth c H locs cells slots Q (F0 m pc ls (.int i :: .ref (eP E pl) :: rest)) :=
  va_zald X.1 X.2.1 X.2.2.2.2.2.1 hw.1 pl 2 (en_get hs) rfl hin hdg kk
theorem r_alen (X : Cx E p s m args meth c cc nL own ret) (hw : Hw E σ s H locs) {pl n : Nat} (hs : Sp E pl (.inl (.int, n))) {v : Int32} (hv : Int32.ofNat n = v) (hdg : decode cc pc = .ok (.arraylength, 1))
    (kk : W p l e R s m args below meth c H locs cells slots Q (F0 m (pc + 1) ls (.int v :: rest))) : W p l e R s m args below meth c H locs cells slots Q (F0 m pc ls (.ref (eP E pl) :: rest)) :=
  va_alen X.1 X.2.1 X.2.2.2.2.2.1 hw.1 pl 0 (en_get hs) rfl hv hdg kk
theorem r_aaldT (X : Cx E p s m args meth c cc nL own ret) (hw : Hw E σ s H locs) {pl n : Nat} {f : Nat → Nat} (hs : Sp E pl (.inr (.inl (RX5, n, f)))) {i : Int32} {q : Nat} (hin : vp_in i n) (hq : f i.toNatClampNeg = q + 3) (hdg : decode cc pc = .ok (.aaload, 1))
    (kk : W p l e R s m args below meth c H locs cells slots Q (F0 m (pc + 1) ls (.ref (eP E q) :: rest))) : W p l e R s m args below meth c H locs cells slots Q (F0 m pc ls (.int i :: .ref (eP E pl) :: rest)) := by
  refine va_aldq X.1 X.2.1 X.2.2.2.2.2.1 hw.1 pl 3 (en_get hs) rfl hin hdg ?_
  show W p l e R s m args below meth c H locs cells slots Q (F0 m (pc + 1) ls (va_rf (fr (eP E) (f i.toNatClampNeg)) :: rest))
  rw [hq]; exact kk
theorem r_aaldS (X : Cx E p s m args meth c cc nL own ret) (hw : Hw E σ s H locs) {pl n : Nat} {f : Nat → Nat} (hs : Sp E pl (.inr (.inl (RX4, n, f)))) {i : Int32} {q : Nat} (hin : vp_in i n) (hq : f i.toNatClampNeg = q + 3) (hdg : decode cc pc = .ok (.aaload, 1))
    (kk : W p l e R s m args below meth c H locs cells slots Q (F0 m (pc + 1) ls (.ref (eP E q) :: rest))) : W p l e R s m args below meth c H locs cells slots Q (F0 m pc ls (.int i :: .ref (eP E pl) :: rest)) := by
  refine va_aldq X.1 X.2.1 X.2.2.2.2.2.1 hw.1 pl 4 (en_get hs) rfl hin hdg ?_
  show W p l e R s m args below meth c H locs cells slots Q (F0 m (pc + 1) ls (va_rf (fr (eP E) (f i.toNatClampNeg)) :: rest))
  rw [hq]; exact kk
theorem r_iast (X : Cx E p s m args meth c cc nL own ret) (hw : Hw E σ s H locs) {pl n : Nat} (hs : Sp E pl (.inl (.int, n))) {i x : Int32} (hin : vp_in i n) (hdg : decode cc pc = .ok (.iastore, 1))
    (kk : ∀ (H1 : Heap) (locs1 : List Loc), Hw E (up σ pl i.toNatClampNeg x) s H1 locs1 → W p l e R s m args below meth c H1 locs1 cells slots Q (F0 m (pc + 1) ls rest)) : W p l e R s m args below meth c H locs cells slots Q (F0 m pc ls (.int x :: .int i :: .ref (eP E pl) :: rest)) := by
  refine va_iast X.1 X.2.1 X.2.2.2.2.2.1 hw.1 (en_D X.2.2.2.2.2.2.2.1 σ) hw.2 pl 0 (en_get hs) rfl hin hdg (fun H1 locs1 hP _ hS => kk H1 locs1 ⟨?_, hS⟩)
  have h := en_set (σ := σ) (σ' := up σ pl i.toNatClampNeg x) hs (fun q hq => up_n hq)
  rw [up_s] at h
  rw [← h]; exact hP
theorem r_zast (X : Cx E p s m args meth c cc nL own ret) (hw : Hw E σ s H locs) {pl n : Nat} (hs : Sp E pl (.inl (.boolean, n))) {i x : Int32} (hx : x = 0 ∨ x = 1) (hin : vp_in i n) (hdg : decode cc pc = .ok (.bastore, 1))
    (kk : ∀ (H1 : Heap) (locs1 : List Loc), Hw E (up σ pl i.toNatClampNeg x) s H1 locs1 → W p l e R s m args below meth c H1 locs1 cells slots Q (F0 m (pc + 1) ls rest)) : W p l e R s m args below meth c H locs cells slots Q (F0 m pc ls (.int x :: .int i :: .ref (eP E pl) :: rest)) := by
  refine va_zast X.1 X.2.1 X.2.2.2.2.2.1 hw.1 (en_D X.2.2.2.2.2.2.2.1 σ) hw.2 pl 2 (en_get hs) rfl hin hdg (fun H1 locs1 hP _ hS => kk H1 locs1 ⟨?_, hS⟩)
  have h := en_set (σ := σ) (σ' := up σ pl i.toNatClampNeg x) hs (fun q hq => up_n hq)
  rw [up_s] at h
  rw [← h]
  have hx2 : vp_nar .boolean x = x := by rcases hx with rfl | rfl <;> decide +kernel
  rw [hx2] at hP
  exact hP
theorem r_get (X : Cx E p s m args meth c cc nL own ret) (hw : Hw E σ s H locs) {pl ci : Nat} {ks : List Nat} (hs : Sp E pl (.inr (.inr (ci, ks)))) {C : String} {T : u_T} {N index : Nat} (hc : vwCl[ci]? = some (C, T, N)) (hin : ∀ w ∈ u_ws C T N, w ∈ lw_good) (k : Nat) (hk : k < N) (hkl : k < ks.length) (hlink : Cond.fieldLink own index (T k).1 (T k).2.1 (T k).2.2.1 ∈ lw_good) {v : Value} (hv : fv (eP E) (ks.getD k 0) (σ pl k) = v) (hdg : decode cc pc = .ok (.getfield index, 3))
    (kk : W p l e R s m args below meth c H locs cells slots Q (F0 m (pc + 3) ls (v :: rest))) : W p l e R s m args below meth c H locs cells slots Q (F0 m pc ls (.ref (eP E pl) :: rest)) :=
  va_get X.1 X.2.1 X.2.2.2.2.1 hin X.2.2.2.1 X.2.2.2.2.2.1 hw.1 pl (en_get hs) hc k hk (X.2.2.2.2.1 _ hlink) (fun _ h => h) (hv ▸ en_f_get hkl) hdg kk
theorem r_put (X : Cx E p s m args meth c cc nL own ret) (hw : Hw E σ s H locs) {pl ci : Nat} {ks : List Nat} (hs : Sp E pl (.inr (.inr (ci, ks)))) {C : String} {T : u_T} {N index : Nat} (hc : vwCl[ci]? = some (C, T, N)) (hin : ∀ w ∈ u_ws C T N, w ∈ lw_good) (ty0 : Nat → FieldType) (hty : ∀ k, k < N → parseFieldDescriptor (T k).2.2.1 = some (ty0 k)) (hnm : ∀ a, a < N → ∀ b, b < N → a ≠ b → (T a).2.1 ≠ (T b).2.1) (k : Nat) (hk : k < N) (hkl : k < ks.length) (hlink : Cond.fieldLink own index (T k).1 (T k).2.1 (T k).2.2.1 ∈ lw_good) (hfin : (T k).2.2.2 = false) {v : Value} (hn : narrow (ty0 k) v = v) (hfit : fits (ty0 k) v = true) {x : Int32} (hv : fv (eP E) (ks.getD k 0) x = v) (hdg : decode cc pc = .ok (.putfield index, 3))
    (kk : ∀ (H1 : Heap) (locs1 : List Loc), Hw E (up σ pl k x) s H1 locs1 → W p l e R s m args below meth c H1 locs1 cells slots Q (F0 m (pc + 3) ls rest)) : W p l e R s m args below meth c H locs cells slots Q (F0 m pc ls (v :: .ref (eP E pl) :: rest)) := by
  subst hv
  refine va_put X.1 X.2.1 X.2.2.2.2.1 hin ty0 hty hnm X.2.2.2.1 X.2.2.2.2.2.1 hw.1 (en_D X.2.2.2.2.2.2.2.1 σ) hw.2 pl (en_get hs) hc k hk (X.2.2.2.2.1 _ hlink) (fun _ h => h) hfin (hty k hk) hn hfit (by rw [en_f_len]; exact hkl) hdg (fun H1 locs1 hP _ hS => kk H1 locs1 ⟨?_, hS⟩)
  have h := en_set (σ := σ) (σ' := up σ pl k x) hs (fun q hq => up_n hq)
  rw [up_s] at h
  rw [en_f_set hkl] at hP
  rw [← h]; exact hP
theorem r_hi (X : Cx E p s m args meth c cc nL RX7 ret) (hw : Hw E σ s H locs) {index : Nat} (hlink : Cond.fieldLink RX7 index RX7 "HIGHEST" "[I" ∈ lw_good) (hdg : decode cc pc = .ok (.getstatic index, 3))
    (kk : W p l e R s m args below meth c H locs cells slots Q (F0 m (pc + 3) ls (.ref (eS E 0) :: rest))) : W p l e R s m args below meth c H locs cells slots Q (F0 m pc ls rest) :=
  va_gets X.1 X.2.1 X.2.2.2.2.2.2.1.1.1 hw.2 X.2.2.2.1 (X.2.2.2.2.1 _ hlink) (fun _ h => h) hdg kk
theorem r_hiN (X : Cx E p s m args meth c cc nL own ret) (hw : Hw E σ s H locs) {index : Nat} (hlink : Cond.fieldLinkNest own index RX7 "HIGHEST" "[I" RX7 ∈ lw_nest) (hdg : decode cc pc = .ok (.getstatic index, 3))
    (kk : W p l e R s m args below meth c H locs cells slots Q (F0 m (pc + 3) ls (.ref (eS E 0) :: rest))) : W p l e R s m args below meth c H locs cells slots Q (F0 m pc ls rest) :=
  va_getsN X.1 X.2.1 X.2.2.2.2.2.2.1.1.1 hw.2 X.2.2.2.1 (va_Nw.use rfl (X.2.2.2.2.2.2.1.2.2.1 _ hlink)) (fun _ h => h) hdg kk
theorem r_un (X : Cx E p s m args meth c cc nL RX7 ret) (hw : Hw E σ s H locs) {index : Nat} (hlink : Cond.fieldLink RX7 index RX7 "UNDER" "[I" ∈ lw_good) (hdg : decode cc pc = .ok (.getstatic index, 3))
    (kk : W p l e R s m args below meth c H locs cells slots Q (F0 m (pc + 3) ls (.ref (eS E 1) :: rest))) : W p l e R s m args below meth c H locs cells slots Q (F0 m pc ls rest) :=
  va_gets X.1 X.2.1 X.2.2.2.2.2.2.1.2.1.1 hw.2 X.2.2.2.1 (X.2.2.2.2.1 _ hlink) (fun _ h => h) hdg kk
def c_hi (i : Int32) : Int32 := ([999, 9, 23, 99, 99, 9999, 9] : List Int32).getD i.toNatClampNeg 0
def c_un (i : Int32) : Int32 := ([-1, 0, 0, 1, 2, 0] : List Int32).getD i.toNatClampNeg 0
theorem r_hild (X : Cx E p s m args meth c cc nL own ret) (hw : Hw E σ s H locs) {i : Int32} (hin : vp_in i 7) (hdg : decode cc pc = .ok (.iaload, 1))
    (kk : W p l e R s m args below meth c H locs cells slots Q (F0 m (pc + 1) ls (.int (c_hi i) :: rest))) : W p l e R s m args below meth c H locs cells slots Q (F0 m pc ls (.int i :: .ref (eS E 0) :: rest)) :=
  va_ti X.1 X.2.1 X.2.2.2.2.2.2.1.1.2 hw.2 hin rfl hdg kk
theorem r_unld (X : Cx E p s m args meth c cc nL own ret) (hw : Hw E σ s H locs) {i : Int32} (hin : vp_in i 6) (hdg : decode cc pc = .ok (.iaload, 1))
    (kk : W p l e R s m args below meth c H locs cells slots Q (F0 m (pc + 1) ls (.int (c_un i) :: rest))) : W p l e R s m args below meth c H locs cells slots Q (F0 m pc ls (.int i :: .ref (eS E 1) :: rest)) :=
  va_ti X.1 X.2.1 X.2.2.2.2.2.2.1.2.1.2 hw.2 hin rfl hdg kk
def jmax (x y : Int32) : Int32 := if x < y then y else x
theorem r_max (X : Cx E p s m args meth c cc nL own ret) (hl : ls.size = nL) {index : Nat} (h1 : Cond.methodLink own index Lib.Math.max.name ∈ lw_good) (h2 : Cond.static Lib.Math.max.name ∈ lw_good) (h3 : Cond.initialized "java/lang/Math" ∈ lw_good) (h4 : Cond.code Lib.Math.max.name Lib.Math.max.code 2 (some .int) ∈ lw_good) (hf : 1 ≤ R.frames) (hlo : (rest.map fun v => v.category).sum + 13 ≤ R.locals) (hc : cells ≤ R.cells) (hs : slots ≤ R.slots) {x y : Int32} (hdg : decode cc pc = .ok (.invokestatic index, 3))
    (kk : W p l e R s m args below meth c H locs cells slots Q (F0 m (pc + 3) ls (.int (jmax x y) :: rest))) : W p l e R s m args below meth c H locs cells slots Q (F0 m pc ls (.int y :: .int x :: rest)) :=
  va_mmax X.1 X.2.1 (X.2.2.1.trans hl.symm) X.2.2.2.1 (X.2.2.2.2.1 _ h1) (X.2.2.2.2.1 _ h2) (X.2.2.2.2.1 _ h3) (X.2.2.2.2.1 _ h4) hf hlo hc hs hdg kk
def jmin (x y : Int32) : Int32 := if y < x then y else x
theorem jmin_kit (x y : Int32) : jmin x y = if y < x then y else x := rfl
theorem r_run {As : Array Value} {st0 : List Value} {res : Option Value} {σ' : sg_T} {st1 : List Value} (hr : va_Run p l e R s m args below meth c H locs cells slots 0 0 (F0 m pc ls st0) rest (Qf E res σ' As) (en_A E)) (hw : Hw E σ s H locs) (hst : res.toList ++ rest = st1)
    (kk : ∀ (H1 : Heap) (locs1 : List Loc), Hw E σ' s H1 locs1 → W p l e R s m args below meth c H1 locs1 cells slots Q (F0 m (pc + 3) ls st1)) : W p l e R s m args below meth c H locs cells slots Q (F0 m pc ls st0) := by
  subst hst
  intro T hT X
  obtain ⟨v, st₀, t, T', L, h0, X', hL, e1, e2, ⟨hv, hI, hz, hk⟩, st⟩ := hr T hT X
  cases hv
  rw [h0] at hz hk
  have hS := hw.2
  obtain ⟨t2, a1, b1⟩ := kk T'.heap (locs ++ L) ⟨by rw [e1]; exact hI.1, ⟨Nat.le_trans hS.1 (by rw [e1]; exact hz), fun q h1 h2 => by rw [e1, hk q (Nat.lt_of_lt_of_le h1 hS.1) h2]; exact hS.2.1 q h1 h2, fun q hq => by
      rcases List.mem_append.mp hq with h | h
      · exact hS.2.2 q h
      · exact hL q h⟩⟩ T' rfl X'
  exact ⟨t2, st t2 a1, b1⟩
theorem Iw.blind (As : List Value) : FrameBlind (va_Pc As (Iw E σ)) := fun a U g mk q => by
  obtain ⟨q0, qP, qK, qG⟩ := q
  exact ⟨q0, qP, va_K.moved (u := U) (U := U.calling g mk a) (Vm.Alike.refl U.vm) qK, Gs.same (s := U) (U := U.calling g mk a) (H := U.heap) rfl qG⟩
theorem Hw.pre (X : Cx E p s m args meth c cc nL own ret) (hw : Hw E σ s H locs) (As : List Value) : ∀ U : State, U.heap = H → s.WarmedH U.vm → va_Pc As (Iw E σ) As.toArray U := fun U hU hW =>
  ⟨rfl, by rw [hU]; exact hw.1, va_K.moved hW.alike X.2.2.2.2.2.1, by rw [hU]; exact (X.2.2.2.2.2.2.1.kept hw.2.2.1).warm hW⟩
theorem r_callV (X : Cx E p s m args meth c cc nL own ret) (hw : Hw E σ s H locs) {y : MethodName} {cb : ByteArray} {maxL : Nat} {ret' : Option FieldType} {rm : Room} {pl : Nat} {As : List Value} {res : Option Value} {σ' : sg_T} (hM : Ct l y cb maxL ret' rm E (.ref (eP E pl) :: As) σ res σ')
    {ci : Nat} {ks : List Nat} (hs : Sp E pl (.inr (.inr (ci, ks)))) {C : String} {T : u_T} {N index n : Nat} (hc : vwCl[ci]? = some (C, T, N)) (w1 : Cond.methodLink own index y ∈ lw_good) (w2 : Cond.instanceMethod y ∈ lw_good) (w3 : Cond.selects C y y ∈ lw_good) (w4 : Cond.initialized C ∈ lw_good) (w5 : Cond.code y cb maxL ret' ∈ lw_good)
    (hd : y.cls = C ∧ y.cls ≠ "java/lang/invoke/MethodHandle" ∧ y.cls ≠ "java/lang/invoke/VarHandle" ∧ (parseMethodDescriptor y.desc).map (fun d => d.parameters.length) = some n) (hz : rm.cells = 0 ∧ rm.slots = 0) (hR : rm.frames + 1 ≤ R.frames ∧ 8 + (maxL + 11) + rm.locals ≤ R.locals) (hf : cells ≤ R.cells ∧ slots ≤ R.slots)
    (hn : As.length = n) (hl : ls.size = nL) {st0 st1 : List Value} (hst0 : st0 = As.reverse ++ .ref (eP E pl) :: rest) (hro : (rest.map fun v => v.category).sum ≤ 8) (hdg : decode cc pc = .ok (.invokevirtual index, 3)) (hst1 : res.toList ++ rest = st1)
    (kk : ∀ (H1 : Heap) (locs1 : List Loc), Hw E σ' s H1 locs1 → W p l e R s m args below meth c H1 locs1 cells slots Q (F0 m (pc + 3) ls st1)) : W p l e R s m args below meth c H locs cells slots Q (F0 m pc ls st0) := by
  have hG : GoodIn lw_good (wsV own index C y (wsy y cb maxL ret')) := good_ok (fun w hw => by
    simp only [wsV, List.mem_append, List.mem_cons, List.not_mem_nil, or_false] at hw
    rcases hw with (rfl | rfl | rfl | rfl) | hw
    · exact w1
    · exact w2
    · exact w3
    · exact w4
    · exact wsy_in w5 w hw)
  exact r_run (va_runV (As := As) (rest := rest) ⟨X.1, X.2.1, X.2.2.1, X.2.2.2.1, X.2.2.2.2.1⟩ hM (cwV n X.2.2.2.2.1 hG rfl hz.1 hz.2 hd hR) ⟨Iw.blind _, va_recv X.2.2.2.2.2.1 hw.1 hc (en_get hs), hw.pre X _⟩ rfl hn hl hst0 (lv_room hro) hdg hf) hw hst1 kk
theorem r_callS (X : Cx E p s m args meth c cc nL own ret) (hw : Hw E σ s H locs) {y : MethodName} {cb : ByteArray} {maxL : Nat} {ret' : Option FieldType} {rm : Room} {As : List Value} {res : Option Value} {σ' : sg_T} (hM : Ct l y cb maxL ret' rm E As σ res σ')
    {index n : Nat} (w1 : Cond.methodLink own index y ∈ lw_good) (w2 : Cond.static y ∈ lw_good) (w4 : Cond.initialized y.cls ∈ lw_good) (w5 : Cond.code y cb maxL ret' ∈ lw_good)
    (hd : y.cls ≠ "java/lang/invoke/MethodHandle" ∧ y.cls ≠ "java/lang/invoke/VarHandle" ∧ (parseMethodDescriptor y.desc).map (fun d => d.parameters.length) = some n) (hz : rm.cells = 0 ∧ rm.slots = 0) (hR : rm.frames + 1 ≤ R.frames ∧ 8 + (maxL + 11) + rm.locals ≤ R.locals) (hf : cells ≤ R.cells ∧ slots ≤ R.slots)
    (hn : As.length = n) (hl : ls.size = nL) {st0 st1 : List Value} (hst0 : st0 = As.reverse ++ rest) (hro : (rest.map fun v => v.category).sum ≤ 8) (hdg : decode cc pc = .ok (.invokestatic index, 3)) (hst1 : res.toList ++ rest = st1)
    (kk : ∀ (H1 : Heap) (locs1 : List Loc), Hw E σ' s H1 locs1 → W p l e R s m args below meth c H1 locs1 cells slots Q (F0 m (pc + 3) ls st1)) : W p l e R s m args below meth c H locs cells slots Q (F0 m pc ls st0) := by
  have hG : GoodIn lw_good (va_wsS own index y (wsy y cb maxL ret')) := good_ok (fun w hw => by
    simp only [va_wsS, List.mem_append, List.mem_cons, List.not_mem_nil, or_false] at hw
    rcases hw with (rfl | rfl | rfl) | hw
    · exact w1
    · exact w2
    · exact w4
    · exact wsy_in w5 w hw)
  exact r_run (va_runS (As := As) (rest := rest) ⟨X.1, X.2.1, X.2.2.1, X.2.2.2.1, X.2.2.2.2.1⟩ hM (va_cwS n X.2.2.2.2.1 hG rfl hz.1 hz.2 hd hR) ⟨Iw.blind _, hw.pre X _⟩ rfl hn hl hst0 (lv_room hro) hdg hf) hw hst1 kk
theorem r_callSN (X : Cx E p s m args meth c cc nL own ret) (hw : Hw E σ s H locs) {y : MethodName} {cb : ByteArray} {maxL : Nat} {ret' : Option FieldType} {rm : Room} {As : List Value} {res : Option Value} {σ' : sg_T} (hM : Ct l y cb maxL ret' rm E As σ res σ')
    {index n : Nat} {host : String} (w1 : Cond.methodLinkNest own index y host ∈ lw_nest) (w2 : Cond.static y ∈ lw_good) (w4 : Cond.initialized y.cls ∈ lw_good) (w5 : Cond.code y cb maxL ret' ∈ lw_good)
    (hd : y.cls ≠ "java/lang/invoke/MethodHandle" ∧ y.cls ≠ "java/lang/invoke/VarHandle" ∧ (parseMethodDescriptor y.desc).map (fun d => d.parameters.length) = some n) (hz : rm.cells = 0 ∧ rm.slots = 0) (hR : rm.frames + 1 ≤ R.frames ∧ 8 + (maxL + 11) + rm.locals ≤ R.locals) (hf : cells ≤ R.cells ∧ slots ≤ R.slots)
    (hn : As.length = n) (hl : ls.size = nL) {st0 st1 : List Value} (hst0 : st0 = As.reverse ++ rest) (hro : (rest.map fun v => v.category).sum ≤ 8) (hdg : decode cc pc = .ok (.invokestatic index, 3)) (hst1 : res.toList ++ rest = st1)
    (kk : ∀ (H1 : Heap) (locs1 : List Loc), Hw E σ' s H1 locs1 → W p l e R s m args below meth c H1 locs1 cells slots Q (F0 m (pc + 3) ls st1)) : W p l e R s m args below meth c H locs cells slots Q (F0 m pc ls st0) :=
  r_run (va_runSN (As := As) (rest := rest) (bytes := cb) (maxL := maxL) (ret := ret') ⟨X.1, X.2.1, X.2.2.1, X.2.2.2.1, X.2.2.2.2.1⟩ hM ⟨va_cnB n X.2.2.2.2.1 (good_ok (wsy_in w5)) rfl hz.1 hz.2 (X.2.2.2.2.2.2.1.2.2.1 _ w1) (X.2.2.2.2.1 _ w4) hd hR, X.2.2.2.2.1 _ w2, trivial⟩ ⟨Iw.blind _, hw.pre X _⟩ rfl hn hl hst0 (lv_room hro) hdg hf) hw hst1 kk
theorem Hw.post (X : Cx E p s m args meth c cc nL own ret) (hw : Hw E σ s H locs) (res : Option Value) : ∀ t : State, t.heap = H → s.WarmedH t.vm → Qf E res σ args s (.returned res) t := fun t ht hW =>
  ⟨rfl, ⟨by rw [ht]; exact hw.1, va_K.moved hW.alike X.2.2.2.2.2.1, by rw [ht]; exact (X.2.2.2.2.2.2.1.kept hw.2.2.1).warm hW⟩, hw.2.F ht⟩
theorem r_iret (X : Cx E p s m args meth c cc nL own (some .int)) (hw : Hw E σ s H locs) {v : Int32} (hdg : decode cc pc = .ok (.ireturn, 1)) : W p l e R s m args below meth c H locs cells slots (MQ below (Qf E (some (.int v)) σ) args s cells slots (en_A E)) (F0 m pc ls [.int v]) :=
  W.iret X.1 X.2.1 X.2.2.2.2.2.2.2.2.1 (hw.post X _) hw.2.2.2 hdg X.2.2.2.2.2.2.2.2.2
theorem r_zret (X : Cx E p s m args meth c cc nL own (some .boolean)) (hw : Hw E σ s H locs) {v : Int32} (hv : v &&& 1 = v) (hdg : decode cc pc = .ok (.ireturn, 1)) : W p l e R s m args below meth c H locs cells slots (MQ below (Qf E (some (.int v)) σ) args s cells slots (en_A E)) (F0 m pc ls [.int v]) :=
  W.zret X.1 X.2.1 X.2.2.2.2.2.2.2.2.1 (congrArg Value.int hv) (hw.post X _) hw.2.2.2 hdg X.2.2.2.2.2.2.2.2.2
theorem r_vret (X : Cx E p s m args meth c cc nL own none) (hw : Hw E σ s H locs) (hdg : decode cc pc = .ok (.return_, 1)) : W p l e R s m args below meth c H locs cells slots (MQ below (Qf E none σ) args s cells slots (en_A E)) (F0 m pc ls []) :=
  W.vret X.1 X.2.1 X.2.2.2.2.2.2.2.2.1 (hw.post X _) hw.2.2.2 hdg X.2.2.2.2.2.2.2.2.2
theorem r_lret (X : Cx E p s m args meth c cc nL own (some .long)) (hw : Hw E σ s H locs) {v : Int64} (hdg : decode cc pc = .ok (.lreturn, 1)) : W p l e R s m args below meth c H locs cells slots (MQ below (Qf E (some (.long v)) σ) args s cells slots (en_A E)) (F0 m pc ls [.long v]) :=
  W.lret X.1 X.2.1 X.2.2.2.2.2.2.2.2.1 (hw.post X _) hw.2.2.2 hdg X.2.2.2.2.2.2.2.2.2
theorem r_aret {t : FieldType} (X : Cx E p s m args meth c cc nL own (some (.array t))) (hw : Hw E σ s H locs) {q : Nat} (hdg : decode cc pc = .ok (.areturn, 1)) : W p l e R s m args below meth c H locs cells slots (MQ below (Qf E (some (.ref q)) σ) args s cells slots (en_A E)) (F0 m pc ls [.ref q]) :=
  W.aret X.1 X.2.1 X.2.2.2.2.2.2.2.2.1 (Or.inr ⟨t, rfl⟩) (Or.inr ⟨q, rfl⟩) (hw.post X _) hw.2.2.2 hdg X.2.2.2.2.2.2.2.2.2
end RowsA
