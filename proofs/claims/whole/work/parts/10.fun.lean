/-- how deep a method may call itself: more than any does -/
def rfu : Nat := 64
def f_X1_has (o : Nat) (x1 : Int32) (σ : sg_T) : Option (Int32) :=
  if x1 < 0 then
    some 0
  else
    if (σ o 7) ≤ x1 then
      some 0
    else
      some 1
def b_X1_setterOf_17 (o50 : Nat) (u1 : Int32) (w2 : Int32) (w3 : Int32) (w4 : Int32) (σ : sg_T) : Option ((Int32 × Int32 × Int32) ⊕ (Int32 × Int32 × Int32)) :=
  if (σ o50 7) ≤ w4 then
    some (.inr (w2, w3, w4))
  else
    ck ((w4 * 5) + u1) 25 (
    bnd ((σ (o50 + 7) ((w4 * 5) + u1).toNatClampNeg)) (fun v6 =>
    if v6 ≤ w3 then
      bnd (w4 + 1) (fun v8 =>
      some (.inl (w2, w3, v8)))
    else
      bnd (w4 + 1) (fun v10 =>
      some (.inl (w4, v6, v10)))))
def f_X1_setterOf (o : Nat) (x1 : Int32) (σ : sg_T) : Option (Int32) :=
  bd1 (f_X1_has o x1 σ) (fun r2 =>
  if r2 = 0 then
    some (-1)
  else
    bd3 (itr (fun q => b_X1_setterOf_17 o x1 q.1 q.2.1 q.2.2 σ) lfu ((-1), 0, 0)) (fun v13 v14 v15 =>
    some v13))
def b_X1_whoseClocks_4 (o50 : Nat) (u1 : Int32) (w2 : Int32) (w3 : Int32) (σ : sg_T) : Option ((Int32 × Int32) ⊕ (Int32 × Int32)) :=
  if (σ o50 7) ≤ w3 then
    some (.inr (w2, w3))
  else
    bd1 (f_X1_setterOf o50 w3 σ) (fun r3 =>
    if r3 = u1 then
      bnd ((w2 ||| (1 <<< (w3 &&& 31)))) (fun v7 =>
      bnd (w3 + 1) (fun v8 =>
      some (.inl (v7, v8))))
    else
      bnd (w3 + 1) (fun v5 =>
      some (.inl (w2, v5))))
def f_X1_whoseClocks (o : Nat) (x1 : Int32) (σ : sg_T) : Option (Int32) :=
  bd2 (itr (fun q => b_X1_whoseClocks_4 o x1 q.1 q.2 σ) lfu (0, 0)) (fun v11 v12 =>
  some v11)
def f_X1_hasTwo (o : Nat) (x1 : Int32) (x2 : Int32) (σ : sg_T) : Option (Int32) :=
  bd1 (f_X1_has o x1 σ) (fun r2 =>
  if r2 = 0 then
    some 0
  else
    bd1 (f_X1_has o x2 σ) (fun r5 =>
    if r5 = 0 then
      some 0
    else
      if x1 = x2 then
        some 0
      else
        some 1))
