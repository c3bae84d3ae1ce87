section RowsE
variable {p : Program} {l : Launch} {e : Env} {R : Room} {s : State} {m : MethodId} {args : Array Value} {below : List Frame} {meth : Method} {c : Code} {H : Heap} {locs : List Loc} {cells slots : Nat} {Q : State → Prop}
variable {B : zb_T} {L : List sh_K} {σ : sg_T} {cc : ByteArray} {nL : Nat} {own : String} {ret : Option FieldType} {pc : Nat} {ls : Array Slot} {rest : List Value}
def zz : Nat → Int32 := fun _ => 0
theorem y_newa (X : Cz B p s m args meth c cc nL own ret) (hw : Hz B L σ s H locs cells) {atype : ArrayType} {ty : FieldType} (hty : newarray.typeOf atype = ty) (hwd : Cond.arrayClass ty ∈ lw_good) (hfc : s.vm.findClass ("[" ++ ty.toString) = some (B.2.1 ty)) (hdv : defaultValue ty = .int 0) {n : Int32} {k : Nat} (hn : ¬ n < 0) (hN : n.toNatClampNeg = k) (hb : k * componentBytes ty ≤ 536870912) (hc : cells + 1 ≤ R.cells) (hs : slots + k ≤ R.slots) {L' : List sh_K} {q : Nat} (hL : L ++ [.inl (ty, k)] = L') (hq : L.length = q) (hdg : decode cc pc = .ok (.newarray atype, 2))
    (kk : ∀ (H1 : Heap), Hz B L' (upr σ q zz) s H1 locs (cells + 1) → W p l e R s m args below meth c H1 locs (cells + 1) (slots + k) Q (F0 m (pc + 2) ls (.ref (zba B + q) :: rest))) : W p l e R s m args below meth c H locs cells slots Q (F0 m pc ls (.int n :: rest)) := by
  subst hL; subst hq
  exact z_newa X hw hty hwd hfc hdv hn hN hb hc hs hdg kk
theorem y_new (X : Cz B p s m args meth c cc nL own ret) (hw : Hz B L σ s H locs cells) {C : String} {T : u_T} {N ci index : Nat} (hcl : vwCl[ci]? = some (C, T, N)) (hin : ∀ w ∈ u_ws C T N, w ∈ lw_good) (ty : Nat → FieldType) (hty : ∀ k, k < N → parseFieldDescriptor (T k).2.2.1 = some (ty k)) (w1 : Cond.classLink own index C ∈ lw_good) (w2 : Cond.instantiable C N ∈ lw_good) (w3 : Cond.initialized C ∈ lw_good) (ks : List Nat) (f : Nat → Int32) (hfs : ∀ j, j < N → defaultValue (ty j) = vp_V (en_f (fun p => zba B + p) ks f) j) (hc : cells + 1 ≤ R.cells) (hs : slots + N ≤ R.slots) {L' : List sh_K} {q : Nat} (hL : L ++ [.inr (.inr (ci, ks))] = L') (hq : L.length = q) (hdg : decode cc pc = .ok (.new index, 3))
    (kk : ∀ (H1 : Heap), Hz B L' (upr σ q f) s H1 locs (cells + 1) → W p l e R s m args below meth c H1 locs (cells + 1) (slots + N) Q (F0 m (pc + 3) ls (.ref (zba B + q) :: rest))) : W p l e R s m args below meth c H locs cells slots Q (F0 m pc ls rest) := by
  subst hL; subst hq
  exact z_new X hw hcl hin ty hty w1 w2 w3 ks f hfs hc hs hdg kk
theorem y_newq (X : Cz B p s m args meth c cc nL own ret) (hw : Hz B L σ s H locs cells) {C : String} {index : Nat} (w1 : Cond.classLink own index C ∈ lw_good) (ho : va_AO C s) (hfc : s.vm.findClass ("[" ++ (FieldType.object C).toString) = some (B.2.1 (.object C))) {n : Int32} {k : Nat} (hn : ¬ n < 0) (hN : n.toNatClampNeg = k) (hb : k * 4 ≤ 536870912) (hc : cells + 1 ≤ R.cells) (hs : slots + k ≤ R.slots) {L' : List sh_K} {q : Nat} (hL : L ++ [.inr (.inl (C, k, fun _ => 1))] = L') (hq : L.length = q) (hdg : decode cc pc = .ok (.anewarray index, 3))
    (kk : ∀ (H1 : Heap), Hz B L' (upr σ q zz) s H1 locs (cells + 1) → W p l e R s m args below meth c H1 locs (cells + 1) (slots + k) Q (F0 m (pc + 3) ls (.ref (zba B + q) :: rest))) : W p l e R s m args below meth c H locs cells slots Q (F0 m pc ls (.int n :: rest)) := by
  subst hL; subst hq
  exact z_newq X hw w1 ho hfc hn hN hb hc hs hdg kk
theorem y_putR (X : Cz B p s m args meth c cc nL own ret) (hin2 : meth.name = "<init>") (hw : Hz B L σ s H locs cells) {pl ci : Nat} {ks : List Nat} (hs : Lg L pl (.inr (.inr (ci, ks)))) {C : String} {T : u_T} {N index : Nat} (hc : vwCl[ci]? = some (C, T, N)) (hin : ∀ w ∈ u_ws C T N, w ∈ lw_good) (ty0 : Nat → FieldType) (hty : ∀ k, k < N → parseFieldDescriptor (T k).2.2.1 = some (ty0 k)) (hnm : ∀ a, a < N → ∀ b, b < N → a ≠ b → (T a).2.1 ≠ (T b).2.1) (k : Nat) (hk : k < N) (hkl : k < ks.length) (hlink : Cond.fieldLink own index (T k).1 (T k).2.1 (T k).2.2.1 ∈ lw_good) (hfin : (T k).2.2.2 = true) (hdecl : (T k).1 = own) {q : Nat} (hn : narrow (ty0 k) (.ref (zba B + q)) = .ref (zba B + q)) (hfit : fits (ty0 k) (.ref (zba B + q)) = true) {L' : List sh_K} (hL : L.set pl (.inr (.inr (ci, ks.set k (q + 3)))) = L') (hdg : decode cc pc = .ok (.putfield index, 3))
    (kk : ∀ (H1 : Heap) (locs1 : List Loc), Hz B L' σ s H1 locs1 cells → W p l e R s m args below meth c H1 locs1 cells slots Q (F0 m (pc + 3) ls rest)) : W p l e R s m args below meth c H locs cells slots Q (F0 m pc ls (.ref (zba B + q) :: .ref (zba B + pl) :: rest)) := by
  subst hL
  exact z_putR X hin2 hw hs hc hin ty0 hty hnm k hk hkl hlink hfin hdecl hn hfit hdg kk
theorem y_aast (X : Cz B p s m args meth c cc nL own ret) (hw : Hz B L σ s H locs cells) {pl n : Nat} {r : Nat → Nat} {C : String} {T : u_T} {N t0 : Nat} (hs : Lg L pl (.inr (.inl (C, n, r)))) (ht : (ztys B)[t0]? = some (B.2.1 (.object C), .object C)) {q ci : Nat} {ks : List Nat} (hq : Lg L q (.inr (.inr (ci, ks)))) (hc : vwCl[ci]? = some (C, T, N)) {i : Int32} (hin : vp_in i n) {L' : List sh_K} (hL : L.set pl (.inr (.inl (C, n, upq r i.toNatClampNeg q))) = L') (hdg : decode cc pc = .ok (.aastore, 1))
    (kk : ∀ (H1 : Heap) (locs1 : List Loc), Hz B L' σ s H1 locs1 cells → W p l e R s m args below meth c H1 locs1 cells slots Q (F0 m (pc + 1) ls rest)) : W p l e R s m args below meth c H locs cells slots Q (F0 m pc ls (.ref (zba B + q) :: .int i :: .ref (zba B + pl) :: rest)) := by
  subst hL
  exact z_aast X hw hs ht hq hc hin hdg kk
theorem y_fc {k : Nat} {ty : FieldType} (hK : va_K B.1 vwCl (ztys B) s) (hk : (ztys B)[k]? = some (B.2.1 ty, ty)) (hp : ty = .int ∨ ty = .char ∨ ty = .boolean) : s.vm.findClass ("[" ++ ty.toString) = some (B.2.1 ty) := by
  have h := (hK.2 k _ hk).2
  rcases hp with rfl | rfl | rfl <;> exact h
theorem y_fq {k : Nat} {C : String} (hK : va_K B.1 vwCl (ztys B) s) (hk : (ztys B)[k]? = some (B.2.1 (.object C), .object C)) : s.vm.findClass ("[" ++ (FieldType.object C).toString) = some (B.2.1 (.object C)) := by
  obtain ⟨kA, comp, h1, h2, h3, h4⟩ := (hK.2 k _ hk).2
  exact h4
theorem lg_app0 {L0 : List sh_K} {x : sh_K} {xs : List sh_K} : Lg (L0 ++ x :: xs) L0.length x := by
  refine ⟨by simp, ?_⟩
  simp [List.getD]
theorem lg_app {L0 xs : List sh_K} {j : Nat} {h : sh_K} (hj : xs[j]? = some h) : Lg (L0 ++ xs) (L0.length + j) h := by
  have hlt : j < xs.length := (List.getElem?_eq_some_iff.mp hj).1
  refine ⟨by simp [hlt], ?_⟩
  rw [List.getD, List.getElem?_append_right (by omega), Nat.add_sub_cancel_left, hj]
  rfl
theorem app_n {L0 : List sh_K} {xs : List sh_K} {a : sh_K} : (L0 ++ xs) ++ [a] = L0 ++ (xs ++ [a]) := List.append_assoc _ _ _
theorem set_n0 {L0 : List sh_K} {x y : sh_K} {xs : List sh_K} : (L0 ++ x :: xs).set L0.length y = L0 ++ y :: xs := by
  rw [List.set_append_right _ _ (Nat.le_refl _), Nat.sub_self]; rfl
theorem set_n {L0 : List sh_K} {xs : List sh_K} {j : Nat} {y : sh_K} : (L0 ++ xs).set (L0.length + j) y = L0 ++ xs.set j y := by
  rw [List.set_append_right _ _ (Nat.le_add_right _ _), Nat.add_sub_cancel_left]
end RowsE
