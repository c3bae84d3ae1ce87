/-! THE MAKING OF THE WORLD: places come one behind another, at addresses base + place. -/
abbrev zb_T : Type := va_G × (FieldType → ClassId) × Nat × (Nat → Nat)
def zba (B : zb_T) : Nat := B.2.2.1
def mkE (B : zb_T) (L : List sh_K) : en_T := (B.1, B.2.1, (fun p => zba B + p), L.length, (fun p => L.getD p (.inl (.int, 0))), B.2.2.2)
theorem mkE_I (B : zb_T) (L : List sh_K) : en_I (mkE B L) := fun p q _ _ h => Nat.add_left_cancel (show zba B + p = zba B + q from h)
def zA (B : zb_T) : Nat → Prop := fun q => zba B ≤ q
def ztys (B : zb_T) : List (ClassId × FieldType) := [(B.2.1 .int, .int), (B.2.1 .char, .char), (B.2.1 .boolean, .boolean), (B.2.1 (.object RX5), .object RX5), (B.2.1 (.object RX4), .object RX4)]
theorem zA_of {B : zb_T} {L : List sh_K} {q : Nat} (h : en_A (mkE B L) q) : zA B q := by
  obtain ⟨p, _, rfl⟩ := h
  exact Nat.le_add_right _ _
def GsA (S : Nat → Nat) (A : Nat → Prop) (U : State) (H : Heap) : Prop :=
  (va_Z RX7 "HIGHEST" "[I" (.ref (S 0)) A U H ∧ va_T .int (S 0) 7 fn_hi A U H) ∧
  (va_Z RX7 "UNDER" "[I" (.ref (S 1)) A U H ∧ va_T .int (S 1) 6 fn_un A U H) ∧
  (∀ w ∈ lw_nest, va_Nw w U) ∧
  (vk_R RX7 23 tx_a (S 2) U ∧ vk_R RX2 98 tx_b (S 3) U ∧ vk_S 2 tx_l tx_y (fun i => S (2 + i)) (fun i => S (4 + i)) A U H) ∧
  va_Z RJ0 "COMPACT_STRINGS" "Z" (.int 1) A U H ∧ va_Zq RJ3 "SIOOBE_FORMATTER" "Ljava/util/function/BiFunction;" A U H
theorem GsA.e {E : en_T} {U : State} {H : Heap} (h : GsA (eS E) (en_A E) U H) : Gs E U H := h
theorem GsA.narrow {S : Nat → Nat} {A A' : Nat → Prop} {U : State} {H : Heap} (hA : ∀ q, A' q → A q) (h : GsA S A U H) : GsA S A' U H := by
  obtain ⟨⟨a1, a2⟩, ⟨b1, b2⟩, c, ⟨d1, d2, d3⟩, e1, e2⟩ := h
  exact ⟨⟨a1.narrow hA, a2.narrow hA⟩, ⟨b1.narrow hA, b2.narrow hA⟩, c, ⟨d1, d2, d3.narrow hA⟩, e1.narrow hA, e2.narrow hA⟩
theorem GsA.warm {S : Nat → Nat} {A : Nat → Prop} {s U : State} {H : Heap} (hW : s.WarmedH U.vm) (h : GsA S A s H) : GsA S A U H := by
  obtain ⟨⟨a1, a2⟩, ⟨b1, b2⟩, c, ⟨d1, d2, d3⟩, e1, e2⟩ := h
  exact ⟨⟨a1.moved hW.alike, a2.moved hW.alike⟩, ⟨b1.moved hW.alike, b2.moved hW.alike⟩, fun w hw => nest_warm hW w hw (c w hw), ⟨d1.warm hW, d2.warm hW, d3.moved hW.alike⟩, e1.moved hW.alike, e2.moved hW.alike⟩
theorem GsA.same {S : Nat → Nat} {A : Nat → Prop} {s U : State} {H : Heap} (hv : s.vm = U.vm) (h : GsA S A s H) : GsA S A U H := by
  obtain ⟨⟨a1, a2⟩, ⟨b1, b2⟩, c, ⟨d1, d2, d3⟩, e1, e2⟩ := h
  have hA : s.vm.Alike U.vm := by rw [hv]; exact Vm.Alike.refl _
  exact ⟨⟨a1.moved hA, a2.moved hA⟩, ⟨b1.moved hA, b2.moved hA⟩, fun w hw => nest_same hv w hw (c w hw), ⟨d1.same hv.symm, d2.same hv.symm, d3.moved hA⟩, e1.moved hA, e2.moved hA⟩
theorem GsA.kept {S : Nat → Nat} {A : Nat → Prop} {U : State} {H H1 : Heap} (h : GsA S A U H) (hq : ∀ a : Nat, a < H.size → ¬ A a → H1[a]? = H[a]?) : GsA S A U H1 := by
  obtain ⟨⟨a1, a2⟩, ⟨b1, b2⟩, c, ⟨d1, d2, d3⟩, e1, e2⟩ := h
  exact ⟨⟨a1.kept hq, a2.kept hq⟩, ⟨b1.kept hq, b2.kept hq⟩, c, ⟨d1, d2, d3.kept hq⟩, e1.kept hq, e2.kept hq⟩
def Iz (B : zb_T) (L : List sh_K) (σ : sg_T) (U : State) : Prop := va_P B.1 vwCl (en_w (mkE B L) σ) U.heap ∧ va_K B.1 vwCl (ztys B) U ∧ GsA B.2.2.2 (zA B) U U.heap ∧ U.heap.size = zba B + L.length ∧ va_AO RX5 U ∧ va_AO RX4 U
def Qz (B : zb_T) (L : List sh_K) (σ : sg_T) : Array Value → State → Outcome → State → Prop := fun _ st oc t => oc = .returned none ∧ Iz B L σ t ∧ va_F (zA B) st t
/-- a constructor's contract -/
def Cn (l : Launch) (y : MethodName) (cb : ByteArray) (nL : Nat) (rm : Room) (B : zb_T) (As : List Value) (L : List sh_K) (σ : sg_T) (L' : List sh_K) (σ' : sg_T) (mc ms : Nat) : Prop :=
  Met l y (wsy y cb nL none) rm (va_Pc As (Iz B L σ)) (Qz B L' σ') mc ms (zA B)
def Cz (B : zb_T) (p : Program) (s : State) (m : MethodId) (args : Array Value) (meth : Method) (c : Code) (cc : ByteArray) (nL : Nat) (own : String) (ret : Option FieldType) : Prop :=
  p.tables.exec = Jvm.exec ∧ c.code = cc ∧ c.maxLocals = nL ∧ s.vm.findClass own = some m.cls ∧ (∀ w ∈ lw_good, w.before args s = true) ∧ va_K B.1 vwCl (ztys B) s ∧ GsA B.2.2.2 (zA B) s s.heap ∧ zba B ≤ s.heap.size ∧ meth.sig.returnType = ret ∧ meth.locks = false ∧ va_AO RX5 s ∧ va_AO RX4 s
def Hz (B : zb_T) (L : List sh_K) (σ : sg_T) (s : State) (H : Heap) (locs : List Loc) (k : Nat) : Prop := va_P B.1 vwCl (en_w (mkE B L) σ) H ∧ va_S (zA B) s.heap H locs ∧ H.size = zba B + L.length ∧ H.size = s.heap.size + k
theorem Cn.start {l : Launch} {y : MethodName} {cb : ByteArray} {nL : Nat} {rm : Room} {B : zb_T} {As : List Value} {L : List sh_K} {σ : sg_T} {L' : List sh_K} {σ' : sg_T} {mc ms : Nat} (hy : plainName y.cls = true) (hyn : y.name = "<init>") (hn : (lg_sl As).length ≤ nL)
    (k : ∀ (p : Program) (e : Env) (s : State) (m : MethodId) (below : List Frame) (meth : Method) (c : Code), Cz B p s m As.toArray meth c cb nL y.cls none → meth.name = "<init>" → Hz B L σ s s.heap [] 0 → ∀ ls : Array Slot, lv_has ls nL (lv_args 0 As) → W p l e rm s m As.toArray below meth c s.heap [] 0 0 (MQ below (Qz B L' σ') As.toArray s mc ms (zA B)) (F0 m 0 ls [])) : Cn l y cb nL rm B As L σ L' σ' mc ms := by
  refine Met.ofW (cc := cb) (maxL := nL) (ret := none) hy rfl ?_
  intro p e s m args below meth c s₁ Bd hml hv
  obtain ⟨rfl, hP, hK, hG, hs, ho5, ho4⟩ := hv
  have hts := atoms_spec (ws := wsy y cb nL none) Bd.pre
  have hown : s.vm.findClass y.cls = some m.cls := findClass_of_methodNamed Bd.named
  have hin : meth.name = y.name := (name_of_methodNamed Bd.named Bd.method).1
  have hl := lv_entry As (n := nL) hn
  rw [lg_entry_eq]
  exact k p e s m below meth c ⟨Bd.exec, Bd.bytes, hml, hown, fun w hw => hts w (List.mem_cons_of_mem _ hw), hK, hG, by rw [hs]; exact Nat.le_add_right _ _, Bd.returns, Bd.notSynchronized, ho5, ho4⟩ (hin.trans hyn) ⟨hP, va_S.rf, hs, rfl⟩ _ hl
theorem z_push {B : zb_T} {L : List sh_K} {σ : sg_T} {H H1 : Heap} {h : sh_K} {f : Nat → Int32} (hP : va_P B.1 vwCl (en_w (mkE B L) σ) H) (o1 : ∀ q, q < zba B + L.length → H1[q]? = H[q]?) (ha : va_at B.1 vwCl (zba B + L.length, en_c (mkE B L) h f) H1) : va_P B.1 vwCl (en_w (mkE B (L ++ [h])) (upr σ L.length f)) H1 := by
  intro k q hk
  simp only [en_w, List.getElem?_map, Option.map_eq_some_iff] at hk
  obtain ⟨a, ha1, rfl⟩ := hk
  obtain ⟨h1, h2⟩ := List.getElem?_eq_some_iff.mp ha1
  simp only [List.length_range, List.getElem_range] at h1 h2
  subst h2
  have h1 : k < L.length + 1 := by
    have : eN (mkE B (L ++ [h])) = L.length + 1 := by simp [eN, mkE]
    rw [this] at h1; exact h1
  by_cases hlt : k < L.length
  · have e1 : eH (mkE B (L ++ [h])) k = eH (mkE B L) k := by simp [eH, mkE, List.getD, List.getElem?_append_left hlt]
    have e2 : upr σ L.length f k = σ k := upr_n (Nat.ne_of_lt hlt)
    rw [e1, e2]
    have := hP k (zba B + k, en_c (mkE B L) (eH (mkE B L) k) (σ k)) (by simp [en_w, eN, mkE, hlt, eP])
    exact this.kept (o1 _ (Nat.add_lt_add_left hlt _))
  · have hke : k = L.length := by omega
    subst hke
    have e1 : eH (mkE B (L ++ [h])) L.length = h := by simp [eH, mkE, List.getD]
    rw [e1, upr_s]
    exact ha
theorem z_set {B : zb_T} {L : List sh_K} {σ σ' : sg_T} {p : Nat} {h : sh_K} (hp : p < L.length) (ho : ∀ q, q ≠ p → σ' q = σ q) : (en_w (mkE B L) σ).set p (zba B + p, en_c (mkE B L) h (σ' p)) = en_w (mkE B (L.set p h)) σ' := by
  apply List.ext_getElem?
  intro i
  rw [List.getElem?_set]
  by_cases hi : p = i
  · subst hi
    simp [en_w, eN, mkE, hp, eP, eH, List.getD, en_c]
    rfl
  · rw [if_neg hi]
    by_cases hN : i < L.length
    · simp [en_w, eN, mkE, hN, eP, eH, List.getD, ho i (fun e => hi e.symm), List.getElem?_set, hi]
      rfl
    · simp [en_w, eN, mkE, hN]
theorem en_f_setk {ad : Nat → Nat} {ks : List Nat} {f : Nat → Int32} {k kd : Nat} (h : k < ks.length) : (en_f ad ks f).set k (fv ad kd (f k)) = en_f ad (ks.set k kd) f := by
  apply List.ext_getElem?
  intro i
  rw [List.getElem?_set]
  by_cases hi : k = i
  · subst hi
    simp [en_f, h]
  · rw [if_neg hi]
    by_cases hN : i < ks.length
    · simp [en_f, hN, List.getElem?_set, hi]
    · simp [en_f, hN]
def Lg (L : List sh_K) (p : Nat) (h : sh_K) : Prop := p < L.length ∧ L.getD p (.inl (.int, 0)) = h
theorem Lg.sp {B : zb_T} {L : List sh_K} {p : Nat} {h : sh_K} (hs : Lg L p h) : Sp (mkE B L) p h := hs
