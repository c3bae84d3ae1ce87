section RowsC
variable {p : Program} {l : Launch} {e : Env} {R : Room} {s : State} {m : MethodId} {args : Array Value} {below : List Frame} {meth : Method} {c : Code} {H : Heap} {locs : List Loc} {cells slots : Nat} {Q : State → Prop}
variable {B : zb_T} {L : List sh_K} {σ : sg_T} {cc : ByteArray} {nL : Nat} {own : String} {ret : Option FieldType} {pc : Nat} {ls : Array Slot} {rest : List Value}
theorem z_S {H1 : Heap} (hw : Hz B L σ s H locs cells) (hs : zba B ≤ s.heap.size) (z1 : H1.size = H.size + 1) (o1 : ∀ q, q < H.size → H1[q]? = H[q]?) : va_S (zA B) s.heap H1 locs :=
  ⟨by rw [z1]; exact Nat.le_trans hw.2.1.1 (Nat.le_succ _), fun q h1 h2 => (o1 q (Nat.lt_of_lt_of_le h1 hw.2.1.1)).trans (hw.2.1.2.1 q h1 h2), hw.2.1.2.2⟩
theorem z_newa (X : Cz B p s m args meth c cc nL own ret) (hw : Hz B L σ s H locs cells) {atype : ArrayType} {ty : FieldType} (hty : newarray.typeOf atype = ty) (hwd : Cond.arrayClass ty ∈ lw_good) (hfc : s.vm.findClass ("[" ++ ty.toString) = some (B.2.1 ty)) (hdv : defaultValue ty = .int 0) {n : Int32} {k : Nat} (hn : ¬ n < 0) (hN : n.toNatClampNeg = k) (hb : k * componentBytes ty ≤ 536870912) (hc : cells + 1 ≤ R.cells) (hs : slots + k ≤ R.slots) (hdg : decode cc pc = .ok (.newarray atype, 2))
    (kk : ∀ (H1 : Heap), Hz B (L ++ [.inl (ty, k)]) (upr σ L.length (fun _ => 0)) s H1 locs (cells + 1) → W p l e R s m args below meth c H1 locs (cells + 1) (slots + k) Q (F0 m (pc + 2) ls (.ref (zba B + L.length) :: rest))) : W p l e R s m args below meth c H locs cells slots Q (F0 m pc ls (.int n :: rest)) := by
  subst hty
  refine va_newaK X.1 X.2.1 (X.2.2.2.2.1 _ hwd) rfl hdg rfl hn hN hb hc hs hw.2.2.1 (fun H1 cA e1 z1 o1 _ hNm => ?_)
  have hcA : cA = B.2.1 (newarray.typeOf atype) := Option.some.inj (hNm.symm.trans hfc)
  subst hcA
  have z1' : H1.size = H.size + 1 := by rw [z1, hw.2.2.1]
  refine kk H1 ⟨z_push hw.1 o1 ?_, z_S hw X.2.2.2.2.2.2.2.1 z1' (by rw [hw.2.2.1]; exact o1), by rw [z1]; simp [Nat.add_assoc], by rw [z1', hw.2.2.2, Nat.add_assoc]⟩
  show H1[zba B + L.length]? = some (vp_cell _ _)
  rw [e1, hdv]
  rfl
theorem z_new (X : Cz B p s m args meth c cc nL own ret) (hw : Hz B L σ s H locs cells) {C : String} {T : u_T} {N ci index : Nat} (hcl : vwCl[ci]? = some (C, T, N)) (hin : ∀ w ∈ u_ws C T N, w ∈ lw_good) (ty : Nat → FieldType) (hty : ∀ k, k < N → parseFieldDescriptor (T k).2.2.1 = some (ty k)) (w1 : Cond.classLink own index C ∈ lw_good) (w2 : Cond.instantiable C N ∈ lw_good) (w3 : Cond.initialized C ∈ lw_good) (ks : List Nat) (f : Nat → Int32) (hfs : ∀ j, j < N → defaultValue (ty j) = vp_V (en_f (fun p => zba B + p) ks f) j) (hc : cells + 1 ≤ R.cells) (hs : slots + N ≤ R.slots) (hdg : decode cc pc = .ok (.new index, 3))
    (kk : ∀ (H1 : Heap), Hz B (L ++ [.inr (.inr (ci, ks))]) (upr σ L.length f) s H1 locs (cells + 1) → W p l e R s m args below meth c H1 locs (cells + 1) (slots + N) Q (F0 m (pc + 3) ls (.ref (zba B + L.length) :: rest))) : W p l e R s m args below meth c H locs cells slots Q (F0 m pc ls rest) := by
  have hKn := X.2.2.2.2.2.1.1 ci _ hcl
  refine W.newcK X.1 X.2.1 X.2.2.2.1 (X.2.2.2.2.1 _ w1) (X.2.2.2.2.1 _ w2) (X.2.2.2.2.1 _ w3) rfl hdg hc hs hKn.2.1 hw.2.2.1 (fun H1 kC hkC e1 z1 o1 => ?_)
  have z1' : H1.size = H.size + 1 := by rw [z1, hw.2.2.1]
  refine kk H1 ⟨z_push hw.1 o1 ?_, z_S hw X.2.2.2.2.2.2.2.1 z1' (by rw [hw.2.2.1]; exact o1), by rw [z1]; simp [Nat.add_assoc], by rw [z1', hw.2.2.2, Nat.add_assoc]⟩
  exact ⟨_, hcl, (u_born ty X.2.2.2.2.1 hin hKn hkC e1 hty).to hfs⟩
theorem z_newq (X : Cz B p s m args meth c cc nL own ret) (hw : Hz B L σ s H locs cells) {C : String} {index : Nat} (w1 : Cond.classLink own index C ∈ lw_good) (ho : va_AO C s) (hfc : s.vm.findClass ("[" ++ (FieldType.object C).toString) = some (B.2.1 (.object C))) {n : Int32} {k : Nat} (hn : ¬ n < 0) (hN : n.toNatClampNeg = k) (hb : k * 4 ≤ 536870912) (hc : cells + 1 ≤ R.cells) (hs : slots + k ≤ R.slots) (hdg : decode cc pc = .ok (.anewarray index, 3))
    (kk : ∀ (H1 : Heap), Hz B (L ++ [.inr (.inl (C, k, fun _ => 1))]) (upr σ L.length (fun _ => 0)) s H1 locs (cells + 1) → W p l e R s m args below meth c H1 locs (cells + 1) (slots + k) Q (F0 m (pc + 3) ls (.ref (zba B + L.length) :: rest))) : W p l e R s m args below meth c H locs cells slots Q (F0 m pc ls (.int n :: rest)) := by
  subst hN
  refine W.anew X.1 X.2.1 X.2.2.2.1 (X.2.2.2.2.1 _ w1) (va_AO.use ho) rfl hdg rfl hn hb hc hs (fun cA kA comp f1 f2 f3 f4 => ?_)
  have hcA : cA = B.2.1 (.object C) := Option.some.inj (f1.symm.trans hfc)
  subst hcA
  generalize hH1 : H.push ({ cls := B.2.1 (.object C), slots := Array.replicate n.toNatClampNeg .null, vm := .none } : Cell) = H1
  have z1 : H1.size = H.size + 1 := by rw [← hH1, Array.size_push]
  have e1 : H1[H.size]? = some (arrV (B.2.1 (.object C)) n.toNatClampNeg (fun _ => .null)) := by rw [← hH1, Array.getElem?_push_size, ← arrV_new]
  have o1 : ∀ q : Nat, q < H.size → H1[q]? = H[q]? := fun q hq => by rw [← hH1, Array.getElem?_push, if_neg (Nat.ne_of_lt hq)]
  have h := kk H1 ⟨z_push hw.1 (by rw [← hw.2.2.1]; exact o1) (by
      show H1[zba B + L.length]? = some (vp_cell _ _)
      rw [← hw.2.2.1, e1]
      rfl), z_S hw X.2.2.2.2.2.2.2.1 z1 o1, by rw [z1, hw.2.2.1]; simp [Nat.add_assoc], by rw [z1, hw.2.2.2, Nat.add_assoc]⟩
  rw [hw.2.2.1]
  exact h
theorem z_get (X : Cz B p s m args meth c cc nL own ret) (hw : Hz B L σ s H locs cells) {pl ci : Nat} {ks : List Nat} (hs : Lg L pl (.inr (.inr (ci, ks)))) {C : String} {T : u_T} {N index : Nat} (hc : vwCl[ci]? = some (C, T, N)) (hin : ∀ w ∈ u_ws C T N, w ∈ lw_good) (k : Nat) (hk : k < N) (hkl : k < ks.length) (hlink : Cond.fieldLink own index (T k).1 (T k).2.1 (T k).2.2.1 ∈ lw_good) {v : Value} (hv : fv (fun p => zba B + p) (ks.getD k 0) (σ pl k) = v) (hdg : decode cc pc = .ok (.getfield index, 3))
    (kk : W p l e R s m args below meth c H locs cells slots Q (F0 m (pc + 3) ls (v :: rest))) : W p l e R s m args below meth c H locs cells slots Q (F0 m pc ls (.ref (zba B + pl) :: rest)) :=
  va_get X.1 X.2.1 X.2.2.2.2.1 hin X.2.2.2.1 X.2.2.2.2.2.1 hw.1 pl (en_get (E := mkE B L) hs.sp) hc k hk (X.2.2.2.2.1 _ hlink) (fun _ h => h) (hv ▸ en_f_get hkl) hdg kk
theorem z_putR (X : Cz B p s m args meth c cc nL own ret) (hin2 : meth.name = "<init>") (hw : Hz B L σ s H locs cells) {pl ci : Nat} {ks : List Nat} (hs : Lg L pl (.inr (.inr (ci, ks)))) {C : String} {T : u_T} {N index : Nat} (hc : vwCl[ci]? = some (C, T, N)) (hin : ∀ w ∈ u_ws C T N, w ∈ lw_good) (ty0 : Nat → FieldType) (hty : ∀ k, k < N → parseFieldDescriptor (T k).2.2.1 = some (ty0 k)) (hnm : ∀ a, a < N → ∀ b, b < N → a ≠ b → (T a).2.1 ≠ (T b).2.1) (k : Nat) (hk : k < N) (hkl : k < ks.length) (hlink : Cond.fieldLink own index (T k).1 (T k).2.1 (T k).2.2.1 ∈ lw_good) (hfin : (T k).2.2.2 = true) (hdecl : (T k).1 = own) {q : Nat} (hn : narrow (ty0 k) (.ref (zba B + q)) = .ref (zba B + q)) (hfit : fits (ty0 k) (.ref (zba B + q)) = true) (hdg : decode cc pc = .ok (.putfield index, 3))
    (kk : ∀ (H1 : Heap) (locs1 : List Loc), Hz B (L.set pl (.inr (.inr (ci, ks.set k (q + 3))))) σ s H1 locs1 cells → W p l e R s m args below meth c H1 locs1 cells slots Q (F0 m (pc + 3) ls rest)) : W p l e R s m args below meth c H locs cells slots Q (F0 m pc ls (.ref (zba B + q) :: .ref (zba B + pl) :: rest)) := by
  refine va_putF X.1 X.2.1 X.2.2.2.2.1 hin ty0 hty hnm X.2.2.2.1 X.2.2.2.2.2.1 hw.1 ((en_D (mkE_I B L) σ).weaken (fun _ _ _ h => zA_of h)) hw.2.1 pl (en_get (E := mkE B L) hs.sp) hc k hk (X.2.2.2.2.1 _ hlink) (fun _ h => h) hfin hin2 hdecl (hty k hk) hn hfit (by rw [en_f_len]; exact hkl) hdg (fun H1 locs1 hP _ hS => ?_)
  intro T1 hT1 X1
  have hz : H1.size = H.size := by
    have h1 := X1.heapSize
    have h2 := hS.1
    have h3 : H1.size ≤ s.heap.size + cells := by rw [← hT1]; exact h1
    have h4 : H.size ≤ H1.size := by
      have := (hP.kept (H1 := H1) (fun _ _ _ => rfl))
      have hlast : zba B + (L.length - 1) < H1.size := by
        have hlt : L.length - 1 < L.length := by have := hs.1; omega
        by_cases hpe : pl = L.length - 1
        · have := hP pl _ (by rw [List.getElem?_set, if_pos rfl, if_pos (by simp [en_w, eN, mkE]; exact hs.1)])
          rw [← hpe]; exact this.lt
        · have := hP (L.length - 1) (zba B + (L.length - 1), en_c (mkE B L) (eH (mkE B L) (L.length - 1)) (σ (L.length - 1))) (by rw [List.getElem?_set, if_neg hpe]; simp [en_w, eN, mkE, hlt, eP])
          exact this.lt
      rw [hw.2.2.1]; have := hs.1; omega
    have h5 := hw.2.2.2
    omega
  refine kk H1 locs1 ⟨?_, hS, by rw [hz, hw.2.2.1, List.length_set], by rw [hz]; exact hw.2.2.2⟩ T1 hT1 X1
  have h := z_set (B := B) (L := L) (σ := σ) (σ' := σ) (h := .inr (.inr (ci, ks.set k (q + 3)))) hs.1 (fun _ _ => rfl)
  rw [← h]
  have hfs := en_f_setk (ad := fun p => zba B + p) (f := σ pl) (kd := q + 3) hkl
  show va_P B.1 vwCl ((en_w (mkE B L) σ).set pl (zba B + pl, .inr (ci, en_f (fun p => zba B + p) (ks.set k (q + 3)) (σ pl)))) H1
  rw [← hfs]
  exact hP
end RowsC
