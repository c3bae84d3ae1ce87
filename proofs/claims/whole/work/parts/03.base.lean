/-! A UNIFORM WORLD: places 0 .. N-1, each of a fixed shape (an array of numbers, a row of references, an object); all that moves is one map from place and slot to a number. -/
def lw_good : List Cond := lw_tbl.filter goodWord
theorem lw_mem {w : Cond} (i : Nat) (h : lw_tbl[i]? = some w) (hg : goodWord w = true) : w ∈ lw_good := List.mem_filter.mpr ⟨List.mem_of_getElem? h, hg⟩
def wsy (y : MethodName) (cb : ByteArray) (n : Nat) (ret : Option FieldType) : List Cond := .code y cb n ret :: lw_good
theorem good_ok {ws : List Cond} (h : ∀ w ∈ ws, w ∈ lw_good) : GoodIn lw_good ws := fun w hw => ⟨h w hw, good_of_word (List.mem_filter.mp (h w hw)).2⟩
theorem wsy_in {y : MethodName} {cb : ByteArray} {n : Nat} {ret : Option FieldType} (hc : Cond.code y cb n ret ∈ lw_good) : ∀ w ∈ wsy y cb n ret, w ∈ lw_good := fun w hw => by
  rcases List.mem_cons.mp hw with h | h
  · rw [h]; exact hc
  · exact h
abbrev sg_T : Type := Nat → Nat → Int32
abbrev sh_K : Type := (FieldType × Nat) ⊕ ((String × Nat × (Nat → Nat)) ⊕ (Nat × List Nat))
abbrev en_T : Type := va_G × (FieldType → ClassId) × (Nat → Nat) × Nat × (Nat → sh_K) × (Nat → Nat)
def eD (E : en_T) : va_G := E.1
def eA (E : en_T) : FieldType → ClassId := E.2.1
def eP (E : en_T) : Nat → Nat := E.2.2.1
def eN (E : en_T) : Nat := E.2.2.2.1
def eH (E : en_T) : Nat → sh_K := E.2.2.2.2.1
def eS (E : en_T) : Nat → Nat := E.2.2.2.2.2
/-- what a slot of a kind holds: 0 a number, 1 nothing, 2 a reference that moves (below 0: none), q + 3 the place q -/
def fv (ad : Nat → Nat) (kd : Nat) (x : Int32) : Value := match kd with
  | 0 => .int x
  | 1 => .null
  | 2 => if x < 0 then .null else .ref (ad x.toNatClampNeg)
  | q + 3 => .ref (ad q)
def fr (ad : Nat → Nat) (kd : Nat) : Option Nat := match kd with
  | 0 => none
  | 1 => none
  | 2 => none
  | q + 3 => some (ad q)
def en_f (ad : Nat → Nat) (ks : List Nat) (f : Nat → Int32) : List Value := (List.range ks.length).map (fun k => fv ad (ks.getD k 0) (f k))
def en_c (E : en_T) (h : sh_K) (f : Nat → Int32) : va_E := match h with
  | .inl a => .inl (eA E a.1, a.2, .inl f)
  | .inr (.inl a) => .inl (eA E (.object a.1), a.2.1, .inr (.inr (.inr (.inr (fun j => fr (eP E) (a.2.2 j))))))
  | .inr (.inr o) => .inr (o.1, en_f (eP E) o.2 f)
def en_w (E : en_T) (σ : sg_T) : va_W := (List.range (eN E)).map (fun p => (eP E p, en_c E (eH E p) (σ p)))
def en_A (E : en_T) : Nat → Prop := fun q => ∃ p, p < eN E ∧ q = eP E p
def en_ty (E : en_T) : List (ClassId × FieldType) := [(eA E .int, .int), (eA E .char, .char), (eA E .boolean, .boolean), (eA E (.object RX5), .object RX5), (eA E (.object RX4), .object RX4)]
def Sp (E : en_T) (p : Nat) (h : sh_K) : Prop := p < eN E ∧ eH E p = h
def en_I (E : en_T) : Prop := ∀ p q, p < eN E → q < eN E → eP E p = eP E q → p = q
def up (σ : sg_T) (p j : Nat) (x : Int32) : sg_T := fun q => if q = p then upd (σ q) j x else σ q
theorem up_s {σ : sg_T} {p j : Nat} {x : Int32} : up σ p j x p = upd (σ p) j x := by simp [up]
theorem up_n {σ : sg_T} {p q j : Nat} {x : Int32} (h : q ≠ p) : up σ p j x q = σ q := by simp [up, h]
def upr (σ : sg_T) (p : Nat) (f : Nat → Int32) : sg_T := fun q => if q = p then f else σ q
theorem upr_s {σ : sg_T} {p : Nat} {f : Nat → Int32} : upr σ p f p = f := by simp [upr]
theorem upr_n {σ : sg_T} {p q : Nat} {f : Nat → Int32} (h : q ≠ p) : upr σ p f q = σ q := by simp [upr, h]
theorem en_get {E : en_T} {σ : sg_T} {p : Nat} {h : sh_K} (hs : Sp E p h) : (en_w E σ)[p]? = some (eP E p, en_c E h (σ p)) := by
  obtain ⟨h1, h2⟩ := hs
  simp [en_w, h1, h2]
theorem en_set {E : en_T} {σ σ' : sg_T} {p : Nat} {h : sh_K} (hs : Sp E p h) (ho : ∀ q, q ≠ p → σ' q = σ q) : (en_w E σ).set p (eP E p, en_c E h (σ' p)) = en_w E σ' := by
  obtain ⟨h1, h2⟩ := hs
  apply List.ext_getElem?
  intro i
  rw [List.getElem?_set]
  by_cases hi : p = i
  · subst hi
    simp [en_w, h1, h2]
  · rw [if_neg hi]
    by_cases hN : i < eN E
    · simp [en_w, hN, ho i (fun e => hi e.symm)]
    · simp [en_w, hN]
theorem en_D {E : en_T} (hI : en_I E) (σ : sg_T) : va_D (en_A E) (en_w E σ) := by
  refine ⟨fun i j p q hi hj e => ?_, fun k q hk => ?_⟩
  · simp only [en_w, List.getElem?_map, Option.map_eq_some_iff, List.getElem?_range] at hi hj
    obtain ⟨a, ha, rfl⟩ := hi
    obtain ⟨b, hb, rfl⟩ := hj
    obtain ⟨ha1, ha2⟩ := List.getElem?_eq_some_iff.mp ha
    obtain ⟨hb1, hb2⟩ := List.getElem?_eq_some_iff.mp hb
    simp only [List.length_range, List.getElem_range] at ha1 ha2 hb1 hb2
    subst ha2; subst hb2
    exact hI _ _ ha1 hb1 e
  · simp only [en_w, List.getElem?_map, Option.map_eq_some_iff] at hk
    obtain ⟨a, ha, rfl⟩ := hk
    obtain ⟨ha1, ha2⟩ := List.getElem?_eq_some_iff.mp ha
    simp only [List.length_range, List.getElem_range] at ha1 ha2
    subst ha2
    exact ⟨_, ha1, rfl⟩
theorem en_f_get {ad : Nat → Nat} {ks : List Nat} {f : Nat → Int32} {k : Nat} (h : k < ks.length) : (en_f ad ks f)[k]? = some (fv ad (ks.getD k 0) (f k)) := by simp [en_f, h]
theorem en_f_set {ad : Nat → Nat} {ks : List Nat} {f : Nat → Int32} {k : Nat} {x : Int32} (h : k < ks.length) : (en_f ad ks f).set k (fv ad (ks.getD k 0) x) = en_f ad ks (upd f k x) := by
  apply List.ext_getElem?
  intro i
  rw [List.getElem?_set]
  by_cases hi : k = i
  · subst hi
    simp [en_f, h, upd]
  · rw [if_neg hi]
    by_cases hN : i < ks.length
    · have hi' : i ≠ k := fun e => hi e.symm
      simp [en_f, hN, upd, hi']
    · simp [en_f, hN]
theorem en_f_len {ad : Nat → Nat} {ks : List Nat} {f : Nat → Int32} : (en_f ad ks f).length = ks.length := by simp [en_f]
def fn_hi : Nat → Value := fun j => .int (([999, 9, 23, 99, 99, 9999, 9] : List Int32).getD j 0)
def fn_un : Nat → Value := fun j => .int (([-1, 0, 0, 1, 2, 0] : List Int32).getD j 0)
def lw_nest : List Cond := [.fieldLinkNest RX1 65 RX7 "HIGHEST" "[I" RX7, .methodLinkNest RX3 56 yX7_bound RX7, .methodLinkNest RX1 88 yX7_bound RX7, .methodLinkNest RX4 19 yX7_bound RX7, .methodLinkNest RX7 9 yX2_init RX7, .methodLinkNest RX3 24 yX5_init RX7, .methodLinkNest RX7 44 yX1_init RX7, .methodLinkNest RX7 57 yX6_init RX7, .methodLinkNest RX7 68 yX4_init RX7]
def tx_a : String := "sets 6 + fond ; tires 3 ; grows 0 ;"
def tx_b : String := "fond   duty   number day    tired  missed sets   tires  grows  or     and    not    "
def tx_of (s : String) : List Int32 := s.toList.map (fun ch => Int32.ofNat ch.toNat)
def tx_l : List Nat := [35, 84]
def tx_y : List (List Int32) := [tx_of tx_a, tx_of tx_b]
/-- what stays as it was at the start: the two fixed rows, the links of nest mates, the two texts -/
def Gs (E : en_T) (U : State) (H : Heap) : Prop :=
  (va_Z RX7 "HIGHEST" "[I" (.ref (eS E 0)) (en_A E) U H ∧ va_T .int (eS E 0) 7 fn_hi (en_A E) U H) ∧
  (va_Z RX7 "UNDER" "[I" (.ref (eS E 1)) (en_A E) U H ∧ va_T .int (eS E 1) 6 fn_un (en_A E) U H) ∧
  (∀ w ∈ lw_nest, va_Nw w U) ∧
  (vk_R RX7 23 tx_a (eS E 2) U ∧ vk_R RX2 98 tx_b (eS E 3) U ∧ vk_S 2 tx_l tx_y (fun i => eS E (2 + i)) (fun i => eS E (4 + i)) (en_A E) U H) ∧
  va_Z RJ0 "COMPACT_STRINGS" "Z" (.int 1) (en_A E) U H ∧ va_Zq RJ3 "SIOOBE_FORMATTER" "Ljava/util/function/BiFunction;" (en_A E) U H
theorem nest_warm {s U : State} (hW : s.WarmedH U.vm) : ∀ w ∈ lw_nest, va_Nw w s → va_Nw w U := by
  intro w hw h
  simp only [lw_nest, List.mem_cons, List.not_mem_nil, or_false] at hw
  rcases hw with rfl | rfl | rfl | rfl | rfl | rfl | rfl | rfl | rfl
  · exact va_Nw.warmF hW h
  all_goals exact va_Nw.warmM hW h
theorem nest_same {s U : State} (hW : s.vm = U.vm) : ∀ w ∈ lw_nest, va_Nw w s → va_Nw w U := by
  intro w hw h
  simp only [lw_nest, List.mem_cons, List.not_mem_nil, or_false] at hw
  rcases hw with rfl | rfl | rfl | rfl | rfl | rfl | rfl | rfl | rfl <;> exact va_Nw.same rfl hW h
theorem Gs.warm {E : en_T} {s U : State} {H : Heap} (hW : s.WarmedH U.vm) (h : Gs E s H) : Gs E U H := by
  obtain ⟨⟨a1, a2⟩, ⟨b1, b2⟩, c, ⟨d1, d2, d3⟩, e1, e2⟩ := h
  exact ⟨⟨a1.moved hW.alike, a2.moved hW.alike⟩, ⟨b1.moved hW.alike, b2.moved hW.alike⟩, fun w hw => nest_warm hW w hw (c w hw), ⟨d1.warm hW, d2.warm hW, d3.moved hW.alike⟩, e1.moved hW.alike, e2.moved hW.alike⟩
theorem Gs.same {E : en_T} {s U : State} {H : Heap} (hv : s.vm = U.vm) (h : Gs E s H) : Gs E U H := by
  obtain ⟨⟨a1, a2⟩, ⟨b1, b2⟩, c, ⟨d1, d2, d3⟩, e1, e2⟩ := h
  have hA : s.vm.Alike U.vm := by rw [hv]; exact Vm.Alike.refl _
  exact ⟨⟨a1.moved hA, a2.moved hA⟩, ⟨b1.moved hA, b2.moved hA⟩, fun w hw => nest_same hv w hw (c w hw), ⟨d1.same hv.symm, d2.same hv.symm, d3.moved hA⟩, e1.moved hA, e2.moved hA⟩
theorem Gs.kept {E : en_T} {U : State} {H H1 : Heap} (h : Gs E U H) (hq : ∀ a : Nat, a < H.size → ¬ en_A E a → H1[a]? = H[a]?) : Gs E U H1 := by
  obtain ⟨⟨a1, a2⟩, ⟨b1, b2⟩, c, ⟨d1, d2, d3⟩, e1, e2⟩ := h
  exact ⟨⟨a1.kept hq, a2.kept hq⟩, ⟨b1.kept hq, b2.kept hq⟩, c, ⟨d1, d2, d3.kept hq⟩, e1.kept hq, e2.kept hq⟩
/-- the world as a contract's start has it -/
def Iw (E : en_T) (σ : sg_T) (U : State) : Prop := va_P (eD E) vwCl (en_w E σ) U.heap ∧ va_K (eD E) vwCl (en_ty E) U ∧ Gs E U U.heap
def Qf (E : en_T) (res : Option Value) (σ : sg_T) : Array Value → State → Outcome → State → Prop := fun _ st oc t => oc = .returned res ∧ Iw E σ t ∧ va_F (en_A E) st t
/-- a method's contract: with these arguments over this map it returns res and leaves the map σ' -/
def Ct (l : Launch) (y : MethodName) (cb : ByteArray) (nL : Nat) (ret : Option FieldType) (rm : Room) (E : en_T) (As : List Value) (σ : sg_T) (res : Option Value) (σ' : sg_T) : Prop :=
  Met l y (wsy y cb nL ret) rm (va_Pc As (Iw E σ)) (Qf E res σ') 0 0 (en_A E)
def Cx (E : en_T) (p : Program) (s : State) (m : MethodId) (args : Array Value) (meth : Method) (c : Code) (cc : ByteArray) (nL : Nat) (own : String) (ret : Option FieldType) : Prop :=
  p.tables.exec = Jvm.exec ∧ c.code = cc ∧ c.maxLocals = nL ∧ s.vm.findClass own = some m.cls ∧ (∀ w ∈ lw_good, w.before args s = true) ∧ va_K (eD E) vwCl (en_ty E) s ∧ Gs E s s.heap ∧ en_I E ∧ meth.sig.returnType = ret ∧ meth.locks = false
def Hw (E : en_T) (σ : sg_T) (s : State) (H : Heap) (locs : List Loc) : Prop := va_P (eD E) vwCl (en_w E σ) H ∧ va_S (en_A E) s.heap H locs
theorem Ct.start {l : Launch} {y : MethodName} {cb : ByteArray} {nL : Nat} {ret : Option FieldType} {rm : Room} {E : en_T} {As : List Value} {σ : sg_T} {res : Option Value} {σ' : sg_T} (hy : plainName y.cls = true) (hI : en_I E) (hn : (lg_sl As).length ≤ nL)
    (k : ∀ (p : Program) (e : Env) (s : State) (m : MethodId) (below : List Frame) (meth : Method) (c : Code), Cx E p s m As.toArray meth c cb nL y.cls ret → Hw E σ s s.heap [] → ∀ ls : Array Slot, lv_has ls nL (lv_args 0 As) → W p l e rm s m As.toArray below meth c s.heap [] 0 0 (MQ below (Qf E res σ') As.toArray s 0 0 (en_A E)) (F0 m 0 ls [])) : Ct l y cb nL ret rm E As σ res σ' := by
  refine Met.ofW (cc := cb) (maxL := nL) (ret := ret) hy rfl ?_
  intro p e s m args below meth c s₁ B hml hv
  obtain ⟨rfl, hP, hK, hG⟩ := hv
  have hts := atoms_spec (ws := wsy y cb nL ret) B.pre
  have hown : s.vm.findClass y.cls = some m.cls := findClass_of_methodNamed B.named
  have hl := lv_entry As (n := nL) hn
  rw [lg_entry_eq]
  exact k p e s m below meth c ⟨B.exec, B.bytes, hml, hown, fun w hw => hts w (List.mem_cons_of_mem _ hw), hK, hG, hI, B.returns, B.notSynchronized⟩ ⟨hP, va_S.rf⟩ _ hl
