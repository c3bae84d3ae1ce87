def tchN (i k : Nat) : Int32 := (((tx_y.getD i []).getD k 0 &&& 255).toUInt32 % 65536).toInt32
/-- how deep a method may call itself: more than any does -/
def rfu : Nat := 64
def f_J6_bitCount (x1 : Int32) (σ : sg_T) : Option (Int32) :=
  bnd ((x1 - ((jushr x1 1) &&& 1431655765))) (fun v1 =>
  bnd (((v1 &&& 858993459) + ((jushr v1 2) &&& 858993459))) (fun v2 =>
  bnd (((v2 + (jushr v2 4)) &&& 252645135)) (fun v3 =>
  bnd ((v3 + (jushr v3 8))) (fun v4 =>
  bnd ((v4 + (jushr v4 16))) (fun v5 =>
  some (v5 &&& 63))))))
def f_X2_add (x1 : Int32) (σ : sg_T) : Option (Int32 × sg_T) :=
  if (σ 1 1) < 160 then
    ck (σ 1 1) 160 (
    bnd (up σ 2 (σ 1 1).toNatClampNeg x1) (fun σ3 =>
    bnd (up σ3 1 1 ((σ3 1 1) + 1)) (fun σ5 =>
    some (1, σ5))))
  else
    some (0, σ)
def b_X2_addAll_2  (w2 : Int32) (σ : sg_T) : Option ((Int32 × sg_T) ⊕ (Int32 × sg_T)) :=
  if 35 ≤ w2 then
    some (.inr (w2, σ))
  else
    ck w2 35 (
    bd2 (f_X2_add (tchN 0 w2.toNatClampNeg) σ) (fun r4 σ5 =>
    bnd (w2 + 1) (fun v6 =>
    some (.inl (v6, σ5)))))
def f_X2_addAll  (σ : sg_T) : Option (sg_T) :=
  bd2 (itr (fun q => b_X2_addAll_2  q.1 q.2) lfu (0, σ)) (fun v9 σ10 =>
  some σ10)
def f_X2_isLetter (x1 : Int32) (σ : sg_T) : Option (Int32) :=
  if x1 < 97 then
    some 0
  else
    bnd ((if 122 < x1 then 0 else 1) : Int32) (fun v3 =>
    cz v3 (some v3))
def b_X2_spells_3 (u1 : Int32) (u2 : Int32) (u3 : Int32) (w4 : Int32) (σ : sg_T) : Option ((Int32) ⊕ ((Int32) ⊕ (Int32))) :=
  if 7 ≤ w4 then
    some (.inr (.inl w4))
  else
    if u3 ≤ (u2 + w4) then
      ck ((u1 * 7) + w4) 84 (
      if 32 = (tchN 1 ((u1 * 7) + w4).toNatClampNeg) then
        bnd (w4 + 1) (fun v5 =>
        some (.inl v5))
      else
        some (.inr (.inr 0)))
    else
      ck (u2 + w4) 160 (
      bnd ((σ 2 (u2 + w4).toNatClampNeg)) (fun v8 =>
      ck ((u1 * 7) + w4) 84 (
      if v8 = (tchN 1 ((u1 * 7) + w4).toNatClampNeg) then
        bnd (w4 + 1) (fun v11 =>
        some (.inl v11))
      else
        some (.inr (.inr 0)))))
def f_X2_spells (x1 : Int32) (x2 : Int32) (x3 : Int32) (σ : sg_T) : Option (Int32) :=
  bs (itr (fun q => b_X2_spells_3 x1 x2 x3 q σ) lfu 0) (fun q => some q) (fun v14 =>
  some 1)
def b_X2_wordAt_2 (u1 : Int32) (u2 : Int32) (w3 : Int32) (σ : sg_T) : Option ((Int32) ⊕ ((Int32) ⊕ (Int32))) :=
  if 12 ≤ w3 then
    some (.inr (.inl w3))
  else
    if 7 ≤ (u2 - u1) then
      bnd (w3 + 1) (fun v3 =>
      some (.inl v3))
    else
      bd1 (f_X2_spells w3 u1 u2 σ) (fun r6 =>
      if r6 = 0 then
        bnd (w3 + 1) (fun v8 =>
        some (.inl v8))
      else
        some (.inr (.inr w3)))
def f_X2_wordAt (x1 : Int32) (x2 : Int32) (σ : sg_T) : Option (Int32) :=
  bs (itr (fun q => b_X2_wordAt_2 x1 x2 q σ) lfu 0) (fun q => some q) (fun v11 =>
  some 302)
def f_X2_addToken (x1 : Int32) (x2 : Int32) (x3 : Int32) (σ : sg_T) : Option (sg_T) :=
  if 160 < (σ 1 5) then
    some σ
  else
    ck (σ 1 5) 161 (
    bnd (up σ 3 (σ 1 5).toNatClampNeg x1) (fun σ3 =>
    ck (σ3 1 5) 161 (
    bnd (up σ3 4 (σ3 1 5).toNatClampNeg x2) (fun σ6 =>
    ck (σ6 1 5) 161 (
    bnd (up σ6 5 (σ6 1 5).toNatClampNeg x3) (fun σ9 =>
    bnd (up σ9 1 5 ((σ9 1 5) + 1)) (fun σ11 =>
    some σ11)))))))
def f_X2_isDigit (x1 : Int32) (σ : sg_T) : Option (Int32) :=
  if x1 < 48 then
    some 0
  else
    bnd ((if 57 < x1 then 0 else 1) : Int32) (fun v3 =>
    cz v3 (some v3))
def b_X2_addNumber_22 (u1 : Int32) (u2 : Int32) (w3 : Int32) (w4 : Int32) (σ : sg_T) : Option ((Int32 × Int32) ⊕ (Int32 × Int32)) :=
  if u2 ≤ w4 then
    some (.inr (w3, w4))
  else
    ck w4 160 (
    bnd ((((w3 * 10) + (σ 2 w4.toNatClampNeg)) - 48)) (fun v4 =>
    bnd (w4 + 1) (fun v5 =>
    some (.inl (v4, v5)))))
def f_X2_addNumber (x1 : Int32) (x2 : Int32) (σ : sg_T) : Option (sg_T) :=
  if (x2 - x1) ≤ 4 then
    bd2 (itr (fun q => b_X2_addNumber_22 x1 x2 q.1 q.2 σ) lfu (0, x1)) (fun v8 v9 =>
    bd1 (f_X2_addToken 300 x1 v8 σ) (fun σ11 =>
    some σ11))
  else
    bd1 (f_X2_addToken 302 x1 0 σ) (fun σ13 =>
    some σ13)
def f_X2_isSign (x1 : Int32) (σ : sg_T) : Option (Int32) :=
  if x1 = 40 then
    some 1
  else
    if x1 = 41 then
      some 1
    else
      if x1 = 59 then
        some 1
      else
        if x1 = 43 then
          some 1
        else
          if x1 = 45 then
            some 1
          else
            if x1 = 42 then
              some 1
            else
              if x1 = 60 then
                some 1
              else
                bnd ((if x1 = 61 then 1 else 0) : Int32) (fun v9 =>
                cz v9 (some v9))
def b_X2_splitOff_69 (u1 : Int32) (u2 : Int32) (w3 : Int32) (σ : sg_T) : Option ((Int32) ⊕ (Int32)) :=
  if (σ 1 1) ≤ w3 then
    some (.inr w3)
  else
    ck w3 160 (
    bd1 (f_X2_isDigit (σ 2 w3.toNatClampNeg) σ) (fun r20 =>
    if r20 = 0 then
      some (.inr w3)
    else
      bnd (w3 + 1) (fun v22 =>
      some (.inl v22))))
def b_X2_splitOff_18 (u1 : Int32) (u2 : Int32) (w3 : Int32) (σ : sg_T) : Option ((Int32) ⊕ (Int32)) :=
  if (σ 1 1) ≤ w3 then
    some (.inr w3)
  else
    ck w3 160 (
    bd1 (f_X2_isLetter (σ 2 w3.toNatClampNeg) σ) (fun r32 =>
    if r32 = 0 then
      some (.inr w3)
    else
      bnd (w3 + 1) (fun v34 =>
      some (.inl v34))))
def f_X2_splitOff (x1 : Int32) (σ : sg_T) : Option (Int32 × sg_T) :=
  ck x1 160 (
  bnd ((σ 2 x1.toNatClampNeg)) (fun v2 =>
  bd1 (f_X2_isLetter v2 σ) (fun r4 =>
  if r4 = 0 then
    bd1 (f_X2_isDigit v2 σ) (fun r7 =>
    if r7 = 0 then
      bd1 (f_X2_isSign v2 σ) (fun r10 =>
      bnd ((if r10 = 0 then 302 else v2) : Int32) (fun v12 =>
      bd1 (f_X2_addToken v12 x1 0 σ) (fun σ15 =>
      some ((x1 + 1), σ15))))
    else
      bnd ((x1 + 1)) (fun v16 =>
      bd1 (itr (fun q => b_X2_splitOff_69 x1 v2 q σ) lfu v16) (fun v25 =>
      bd1 (f_X2_addNumber x1 v25 σ) (fun σ27 =>
      some (v25, σ27)))))
  else
    bnd ((x1 + 1)) (fun v28 =>
    bd1 (itr (fun q => b_X2_splitOff_18 x1 v2 q σ) lfu v28) (fun v37 =>
    bd1 (f_X2_wordAt x1 v37 σ) (fun r39 =>
    bd1 (f_X2_addToken r39 x1 0 σ) (fun σ41 =>
    some (v37, σ41))))))))
def b_X2_split_9  (w1 : Int32) (w2 : Int32) (σ : sg_T) : Option ((Int32 × Int32 × sg_T) ⊕ (Int32 × Int32 × sg_T)) :=
  if (σ 1 1) ≤ w2 then
    some (.inr (w1, w2, σ))
  else
    if w2 < w1 then
      bnd (w2 + 1) (fun v5 =>
      some (.inl (w1, v5, σ)))
    else
      ck w2 160 (
      if (σ 2 w2.toNatClampNeg) = 32 then
        bnd (w2 + 1) (fun v9 =>
        some (.inl (w1, v9, σ)))
      else
        ck w2 160 (
        if (σ 2 w2.toNatClampNeg) = 10 then
          bnd (w2 + 1) (fun v13 =>
          some (.inl (w1, v13, σ)))
        else
          bd2 (f_X2_splitOff w2 σ) (fun r16 σ17 =>
          bnd (w2 + 1) (fun v18 =>
          some (.inl (r16, v18, σ17))))))
def f_X2_split  (σ : sg_T) : Option (sg_T) :=
  bnd (up σ 1 5 0) (fun σ1 =>
  bd3 (itr (fun q => b_X2_split_9  q.1 q.2.1 q.2.2) lfu (0, 0, σ1)) (fun v21 v22 σ23 =>
  bd1 (f_X2_addToken 301 (σ23 1 1) 0 σ23) (fun σ25 =>
  some σ25)))
def f_X5_clear (o : Nat) (σ : sg_T) : Option (sg_T) :=
  bnd (up σ o 2 0) (fun σ1 =>
  some σ1)
def f_X2_now  (σ : sg_T) : Option (Int32) :=
  if (σ 1 5) ≤ (σ 1 6) then
    some 301
  else
    ck (σ 1 6) 161 (
    some (σ 3 (σ 1 6).toNatClampNeg))
def f_X2_pass (x1 : Int32) (σ : sg_T) : Option (Int32 × sg_T) :=
  bd1 (f_X2_now  σ) (fun r2 =>
  if r2 = x1 then
    bnd (up σ 1 6 ((σ 1 6) + 1)) (fun σ4 =>
    some (1, σ4))
  else
    some (0, σ))
def f_X5_addNumber (o : Nat) (x1 : Int32) (σ : sg_T) : Option (sg_T) :=
  if 160 ≤ (σ o 2) then
    some σ
  else
    ck (σ o 2) 160 (
    bnd (up σ (o + 1) (σ o 2).toNatClampNeg x1) (fun σ3 =>
    bnd (up σ3 o 2 ((σ3 o 2) + 1)) (fun σ5 =>
    some σ5)))
def f_X5_addStep (o : Nat) (x1 : Int32) (σ : sg_T) : Option (sg_T) :=
  bd1 (f_X5_addNumber o (x1 ^^^ (-1)) σ) (fun σ2 =>
  some σ2)
def f_X2_readOne (rec : Nat → Int32 → sg_T → Option (Int32 × sg_T)) (x1 : Int32) (σ : sg_T) : Option (Int32 × sg_T) :=
  bd1 (f_X2_now  σ) (fun r2 =>
  if r2 = 300 then
    if (σ 1 5) ≤ (σ 1 6) then
      if r2 < 0 then
        if r2 = 40 then
          if x1 < 5 then
            bnd (up σ 1 6 ((σ 1 6) + 1)) (fun σ112 =>
            if r2 = 40 then
              bd2 (rec 0 (x1 + 1) σ112) (fun r124 σ125 =>
              if r124 = 0 then
                some (0, σ125)
              else
                bd2 (f_X2_pass 41 σ125) (fun r128 σ129 =>
                bnd ((if r128 = 0 then 0 else 1) : Int32) (fun v131 =>
                cz v131 (some (v131, σ129)))))
            else
              bd2 (rec 5 (x1 + 1) σ112) (fun r116 σ117 =>
              cT (σ117 1 7) (
              bd1 (f_X5_addStep ((σ117 1 7).toNatClampNeg) 20 σ117) (fun σ121 =>
              cz r116 (some (r116, σ121))))))
          else
            some (0, σ)
        else
          if r2 = 45 then
            if x1 < 5 then
              bnd (up σ 1 6 ((σ 1 6) + 1)) (fun σ136 =>
              if r2 = 40 then
                bd2 (rec 0 (x1 + 1) σ136) (fun r148 σ149 =>
                if r148 = 0 then
                  some (0, σ149)
                else
                  bd2 (f_X2_pass 41 σ149) (fun r152 σ153 =>
                  bnd ((if r152 = 0 then 0 else 1) : Int32) (fun v155 =>
                  cz v155 (some (v155, σ153)))))
              else
                bd2 (rec 5 (x1 + 1) σ136) (fun r140 σ141 =>
                cT (σ141 1 7) (
                bd1 (f_X5_addStep ((σ141 1 7).toNatClampNeg) 20 σ141) (fun σ145 =>
                cz r140 (some (r140, σ145))))))
            else
              some (0, σ)
          else
            some (0, σ)
      else
        if 6 ≤ r2 then
          if r2 = 40 then
            if x1 < 5 then
              bnd (up σ 1 6 ((σ 1 6) + 1)) (fun σ161 =>
              if r2 = 40 then
                bd2 (rec 0 (x1 + 1) σ161) (fun r173 σ174 =>
                if r173 = 0 then
                  some (0, σ174)
                else
                  bd2 (f_X2_pass 41 σ174) (fun r177 σ178 =>
                  bnd ((if r177 = 0 then 0 else 1) : Int32) (fun v180 =>
                  cz v180 (some (v180, σ178)))))
              else
                bd2 (rec 5 (x1 + 1) σ161) (fun r165 σ166 =>
                cT (σ166 1 7) (
                bd1 (f_X5_addStep ((σ166 1 7).toNatClampNeg) 20 σ166) (fun σ170 =>
                cz r165 (some (r165, σ170))))))
            else
              some (0, σ)
          else
            if r2 = 45 then
              if x1 < 5 then
                bnd (up σ 1 6 ((σ 1 6) + 1)) (fun σ185 =>
                if r2 = 40 then
                  bd2 (rec 0 (x1 + 1) σ185) (fun r197 σ198 =>
                  if r197 = 0 then
                    some (0, σ198)
                  else
                    bd2 (f_X2_pass 41 σ198) (fun r201 σ202 =>
                    bnd ((if r201 = 0 then 0 else 1) : Int32) (fun v204 =>
                    cz v204 (some (v204, σ202)))))
                else
                  bd2 (rec 5 (x1 + 1) σ185) (fun r189 σ190 =>
                  cT (σ190 1 7) (
                  bd1 (f_X5_addStep ((σ190 1 7).toNatClampNeg) 20 σ190) (fun σ194 =>
                  cz r189 (some (r189, σ194))))))
              else
                some (0, σ)
            else
              some (0, σ)
        else
          cT (σ 1 7) (
          bd1 (f_X5_addStep ((σ 1 7).toNatClampNeg) r2 σ) (fun σ210 =>
          bnd (up σ210 1 6 ((σ210 1 6) + 1)) (fun σ211 =>
          some (1, σ211))))
    else
      cT (σ 1 7) (
      ck (σ 1 6) 161 (
      bd1 (f_X5_addNumber ((σ 1 7).toNatClampNeg) (σ 5 (σ 1 6).toNatClampNeg) σ) (fun σ217 =>
      bnd (up σ217 1 6 ((σ217 1 6) + 1)) (fun σ218 =>
      some (1, σ218)))))
  else
    if r2 < 0 then
      if r2 = 40 then
        if x1 < 5 then
          bnd (up σ 1 6 ((σ 1 6) + 1)) (fun σ7 =>
          if r2 = 40 then
            bd2 (rec 0 (x1 + 1) σ7) (fun r19 σ20 =>
            if r19 = 0 then
              some (0, σ20)
            else
              bd2 (f_X2_pass 41 σ20) (fun r23 σ24 =>
              bnd ((if r23 = 0 then 0 else 1) : Int32) (fun v26 =>
              cz v26 (some (v26, σ24)))))
          else
            bd2 (rec 5 (x1 + 1) σ7) (fun r11 σ12 =>
            cT (σ12 1 7) (
            bd1 (f_X5_addStep ((σ12 1 7).toNatClampNeg) 20 σ12) (fun σ16 =>
            cz r11 (some (r11, σ16))))))
        else
          some (0, σ)
      else
        if r2 = 45 then
          if x1 < 5 then
            bnd (up σ 1 6 ((σ 1 6) + 1)) (fun σ31 =>
            if r2 = 40 then
              bd2 (rec 0 (x1 + 1) σ31) (fun r43 σ44 =>
              if r43 = 0 then
                some (0, σ44)
              else
                bd2 (f_X2_pass 41 σ44) (fun r47 σ48 =>
                bnd ((if r47 = 0 then 0 else 1) : Int32) (fun v50 =>
                cz v50 (some (v50, σ48)))))
            else
              bd2 (rec 5 (x1 + 1) σ31) (fun r35 σ36 =>
              cT (σ36 1 7) (
              bd1 (f_X5_addStep ((σ36 1 7).toNatClampNeg) 20 σ36) (fun σ40 =>
              cz r35 (some (r35, σ40))))))
          else
            some (0, σ)
        else
          some (0, σ)
    else
      if 6 ≤ r2 then
        if r2 = 40 then
          if x1 < 5 then
            bnd (up σ 1 6 ((σ 1 6) + 1)) (fun σ56 =>
            if r2 = 40 then
              bd2 (rec 0 (x1 + 1) σ56) (fun r68 σ69 =>
              if r68 = 0 then
                some (0, σ69)
              else
                bd2 (f_X2_pass 41 σ69) (fun r72 σ73 =>
                bnd ((if r72 = 0 then 0 else 1) : Int32) (fun v75 =>
                cz v75 (some (v75, σ73)))))
            else
              bd2 (rec 5 (x1 + 1) σ56) (fun r60 σ61 =>
              cT (σ61 1 7) (
              bd1 (f_X5_addStep ((σ61 1 7).toNatClampNeg) 20 σ61) (fun σ65 =>
              cz r60 (some (r60, σ65))))))
          else
            some (0, σ)
        else
          if r2 = 45 then
            if x1 < 5 then
              bnd (up σ 1 6 ((σ 1 6) + 1)) (fun σ80 =>
              if r2 = 40 then
                bd2 (rec 0 (x1 + 1) σ80) (fun r92 σ93 =>
                if r92 = 0 then
                  some (0, σ93)
                else
                  bd2 (f_X2_pass 41 σ93) (fun r96 σ97 =>
                  bnd ((if r96 = 0 then 0 else 1) : Int32) (fun v99 =>
                  cz v99 (some (v99, σ97)))))
              else
                bd2 (rec 5 (x1 + 1) σ80) (fun r84 σ85 =>
                cT (σ85 1 7) (
                bd1 (f_X5_addStep ((σ85 1 7).toNatClampNeg) 20 σ85) (fun σ89 =>
                cz r84 (some (r84, σ89))))))
            else
              some (0, σ)
          else
            some (0, σ)
      else
        cT (σ 1 7) (
        bd1 (f_X5_addStep ((σ 1 7).toNatClampNeg) r2 σ) (fun σ105 =>
        bnd (up σ105 1 6 ((σ105 1 6) + 1)) (fun σ106 =>
        some (1, σ106)))))
def b_X2_readTerm_15 (rec : Nat → Int32 → sg_T → Option (Int32 × sg_T)) (u1 : Int32) (w2 : Int32) (σ : sg_T) : Option ((Int32 × sg_T) ⊕ ((Int32 × sg_T) ⊕ (Int32 × sg_T))) :=
  if w2 ≤ 0 then
    some (.inr (.inl (w2, σ)))
  else
    bd2 (f_X2_pass 42 σ) (fun r8 σ9 =>
    if r8 = 0 then
      some (.inr (.inl (w2, σ9)))
    else
      bd2 (rec 5 u1 σ9) (fun r12 σ13 =>
      if r12 = 0 then
        some (.inr (.inr (0, σ13)))
      else
        cT (σ13 1 7) (
        bd1 (f_X5_addStep ((σ13 1 7).toNatClampNeg) 42 σ13) (fun σ18 =>
        bnd (w2 + (-1)) (fun v19 =>
        some (.inl (v19, σ18)))))))
def f_X2_readTerm (rec : Nat → Int32 → sg_T → Option (Int32 × sg_T)) (x1 : Int32) (σ : sg_T) : Option (Int32 × sg_T) :=
  bd2 (rec 5 x1 σ) (fun r2 σ3 =>
  if r2 = 0 then
    some (0, σ3)
  else
    bnd ((σ3 1 5)) (fun v5 =>
    bs (itr (fun q => b_X2_readTerm_15 rec x1 q.1 q.2) lfu (v5, σ3)) (fun q => some q) (fun q => (fun v22 σ23 =>
    some (1, σ23)) q.1 q.2)))
def b_X2_readSum_15 (rec : Nat → Int32 → sg_T → Option (Int32 × sg_T)) (u1 : Int32) (w2 : Int32) (σ : sg_T) : Option ((Int32 × sg_T) ⊕ ((Int32 × sg_T) ⊕ (Int32 × sg_T))) :=
  if w2 ≤ 0 then
    some (.inr (.inl (w2, σ)))
  else
    bd1 (f_X2_now  σ) (fun r8 =>
    if r8 = 43 then
      bd1 (f_X2_now  σ) (fun r11 =>
      bnd (up σ 1 6 ((σ 1 6) + 1)) (fun σ12 =>
      bd2 (rec 4 u1 σ12) (fun r15 σ16 =>
      if r15 = 0 then
        some (.inr (.inr (0, σ16)))
      else
        cT (σ16 1 7) (
        bd1 (f_X5_addStep ((σ16 1 7).toNatClampNeg) r11 σ16) (fun σ21 =>
        bnd (w2 + (-1)) (fun v22 =>
        some (.inl (v22, σ21))))))))
    else
      bd1 (f_X2_now  σ) (fun r25 =>
      if r25 = 45 then
        bd1 (f_X2_now  σ) (fun r28 =>
        bnd (up σ 1 6 ((σ 1 6) + 1)) (fun σ29 =>
        bd2 (rec 4 u1 σ29) (fun r32 σ33 =>
        if r32 = 0 then
          some (.inr (.inr (0, σ33)))
        else
          cT (σ33 1 7) (
          bd1 (f_X5_addStep ((σ33 1 7).toNatClampNeg) r28 σ33) (fun σ38 =>
          bnd (w2 + (-1)) (fun v39 =>
          some (.inl (v39, σ38))))))))
      else
        some (.inr (.inl (w2, σ)))))
def f_X2_readSum (rec : Nat → Int32 → sg_T → Option (Int32 × sg_T)) (x1 : Int32) (σ : sg_T) : Option (Int32 × sg_T) :=
  bd2 (rec 4 x1 σ) (fun r2 σ3 =>
  if r2 = 0 then
    some (0, σ3)
  else
    bnd ((σ3 1 5)) (fun v5 =>
    bs (itr (fun q => b_X2_readSum_15 rec x1 q.1 q.2) lfu (v5, σ3)) (fun q => some q) (fun q => (fun v42 σ43 =>
    some (1, σ43)) q.1 q.2)))
def f_X2_readNot (rec : Nat → Int32 → sg_T → Option (Int32 × sg_T)) (x1 : Int32) (σ : sg_T) : Option (Int32 × sg_T) :=
  bd1 (f_X2_now  σ) (fun r2 =>
  if r2 = 11 then
    if x1 < 5 then
      bnd (up σ 1 6 ((σ 1 6) + 1)) (fun σ33 =>
      bd2 (rec 2 (x1 + 1) σ33) (fun r36 σ37 =>
      cT (σ37 1 7) (
      bd1 (f_X5_addStep ((σ37 1 7).toNatClampNeg) 11 σ37) (fun σ41 =>
      cz r36 (some (r36, σ41))))))
    else
      some (0, σ)
  else
    bd2 (rec 3 x1 σ) (fun r5 σ6 =>
    if r5 = 0 then
      some (0, σ6)
    else
      bd1 (f_X2_now  σ6) (fun r9 =>
      if r9 = 60 then
        bnd (up σ6 1 6 ((σ6 1 6) + 1)) (fun σ11 =>
        bd2 (rec 3 x1 σ11) (fun r14 σ15 =>
        cT (σ15 1 7) (
        bd1 (f_X5_addStep ((σ15 1 7).toNatClampNeg) r9 σ15) (fun σ19 =>
        cz r14 (some (r14, σ19))))))
      else
        if r9 = 61 then
          bnd (up σ6 1 6 ((σ6 1 6) + 1)) (fun σ22 =>
          bd2 (rec 3 x1 σ22) (fun r25 σ26 =>
          cT (σ26 1 7) (
          bd1 (f_X5_addStep ((σ26 1 7).toNatClampNeg) r9 σ26) (fun σ30 =>
          cz r25 (some (r25, σ30))))))
        else
          some (1, σ6))))
def b_X2_readAnd_15 (rec : Nat → Int32 → sg_T → Option (Int32 × sg_T)) (u1 : Int32) (w2 : Int32) (σ : sg_T) : Option ((Int32 × sg_T) ⊕ ((Int32 × sg_T) ⊕ (Int32 × sg_T))) :=
  if w2 ≤ 0 then
    some (.inr (.inl (w2, σ)))
  else
    bd2 (f_X2_pass 10 σ) (fun r8 σ9 =>
    if r8 = 0 then
      some (.inr (.inl (w2, σ9)))
    else
      bd2 (rec 2 u1 σ9) (fun r12 σ13 =>
      if r12 = 0 then
        some (.inr (.inr (0, σ13)))
      else
        cT (σ13 1 7) (
        bd1 (f_X5_addStep ((σ13 1 7).toNatClampNeg) 10 σ13) (fun σ18 =>
        bnd (w2 + (-1)) (fun v19 =>
        some (.inl (v19, σ18)))))))
def f_X2_readAnd (rec : Nat → Int32 → sg_T → Option (Int32 × sg_T)) (x1 : Int32) (σ : sg_T) : Option (Int32 × sg_T) :=
  bd2 (rec 2 x1 σ) (fun r2 σ3 =>
  if r2 = 0 then
    some (0, σ3)
  else
    bnd ((σ3 1 5)) (fun v5 =>
    bs (itr (fun q => b_X2_readAnd_15 rec x1 q.1 q.2) lfu (v5, σ3)) (fun q => some q) (fun q => (fun v22 σ23 =>
    some (1, σ23)) q.1 q.2)))
def b_X2_readE_15 (rec : Nat → Int32 → sg_T → Option (Int32 × sg_T)) (u1 : Int32) (w2 : Int32) (σ : sg_T) : Option ((Int32 × sg_T) ⊕ ((Int32 × sg_T) ⊕ (Int32 × sg_T))) :=
  if w2 ≤ 0 then
    some (.inr (.inl (w2, σ)))
  else
    bd2 (f_X2_pass 9 σ) (fun r8 σ9 =>
    if r8 = 0 then
      some (.inr (.inl (w2, σ9)))
    else
      bd2 (rec 1 u1 σ9) (fun r12 σ13 =>
      if r12 = 0 then
        some (.inr (.inr (0, σ13)))
      else
        cT (σ13 1 7) (
        bd1 (f_X5_addStep ((σ13 1 7).toNatClampNeg) 9 σ13) (fun σ18 =>
        bnd (w2 + (-1)) (fun v19 =>
        some (.inl (v19, σ18)))))))
def f_X2_readE (rec : Nat → Int32 → sg_T → Option (Int32 × sg_T)) (x1 : Int32) (σ : sg_T) : Option (Int32 × sg_T) :=
  bd2 (rec 1 x1 σ) (fun r2 σ3 =>
  if r2 = 0 then
    some (0, σ3)
  else
    bnd ((σ3 1 5)) (fun v5 =>
    bs (itr (fun q => b_X2_readE_15 rec x1 q.1 q.2) lfu (v5, σ3)) (fun q => some q) (fun q => (fun v22 σ23 =>
    some (1, σ23)) q.1 q.2)))
def g_read : Nat → Nat → Int32 → sg_T → Option (Int32 × sg_T)
  | 0, _, _, _ => none
  | n + 1, 0, x1, σ => f_X2_readE (g_read n) x1 σ
  | n + 1, 1, x1, σ => f_X2_readAnd (g_read n) x1 σ
  | n + 1, 2, x1, σ => f_X2_readNot (g_read n) x1 σ
  | n + 1, 3, x1, σ => f_X2_readSum (g_read n) x1 σ
  | n + 1, 4, x1, σ => f_X2_readTerm (g_read n) x1 σ
  | n + 1, _ + 5, x1, σ => f_X2_readOne (g_read n) x1 σ
def f_X5_endPart (o : Nat) (x1 : Int32) (σ : sg_T) : Option (sg_T) :=
  if x1 < 0 then
    some σ
  else
    if 3 ≤ x1 then
      some σ
    else
      ck x1 3 (
      bnd (up σ (o + 2) x1.toNatClampNeg (σ o 2)) (fun σ4 =>
      some σ4))
def f_X2_readPart (x1 : Int32) (σ : sg_T) : Option (Int32 × sg_T) :=
  bd2 (f_X2_pass (6 + x1) σ) (fun r2 σ3 =>
  if r2 = 0 then
    cT (σ3 1 7) (
    bd1 (f_X5_endPart ((σ3 1 7).toNatClampNeg) x1 σ3) (fun σ8 =>
    some (0, σ8)))
  else
    bd2 (g_read rfu 0 0 σ3) (fun r10 σ11 =>
    if r10 = 0 then
      cT (σ11 1 7) (
      bd1 (f_X5_endPart ((σ11 1 7).toNatClampNeg) x1 σ11) (fun σ16 =>
      some (0, σ16)))
    else
      bd2 (f_X2_pass 59 σ11) (fun r18 σ19 =>
      bnd ((if r18 = 0 then 0 else 1) : Int32) (fun v21 =>
      cT (σ19 1 7) (
      bd1 (f_X5_endPart ((σ19 1 7).toNatClampNeg) x1 σ19) (fun σ26 =>
      cz v21 (some (v21, σ26))))))))
def f_X2_faultPlace  (σ : sg_T) : Option (Int32) :=
  if (σ 1 5) ≤ (σ 1 6) then
    some (σ 1 1)
  else
    ck (σ 1 6) 161 (
    some (σ 4 (σ 1 6).toNatClampNeg))
def b_X2_read_20 (o51 : Nat) (w2 : Int32) (σ : sg_T) : Option ((Int32 × sg_T) ⊕ ((Int32 × sg_T) ⊕ (Int32 × sg_T))) :=
  if 3 ≤ w2 then
    some (.inr (.inl (w2, σ)))
  else
    bd2 (f_X2_readPart w2 σ) (fun r11 σ12 =>
    if r11 = 0 then
      bd1 (f_X2_faultPlace  σ12) (fun r17 =>
      some (.inr (.inr (r17, σ12))))
    else
      bnd (w2 + 1) (fun v14 =>
      some (.inl (v14, σ12))))
def f_X2_read (o1 : Nat) (σ : sg_T) : Option (Int32 × sg_T) :=
  bd1 (f_X2_split  σ) (fun σ2 =>
  bnd (up σ2 1 6 0) (fun σ3 =>
  bnd (up σ3 1 7 (nI o1)) (fun σ5 =>
  bd1 (f_X5_clear o1 σ5) (fun σ8 =>
  bs (itr (fun q => b_X2_read_20 o1 q.1 q.2) lfu (0, σ8)) (fun q => some q) (fun q => (fun v19 σ20 =>
  bd1 (f_X2_now  σ20) (fun r25 =>
  if r25 = 301 then
    some ((-1), σ20)
  else
    bd1 (f_X2_faultPlace  σ20) (fun r28 =>
    some (r28, σ20)))) q.1 q.2)))))
def f_X2_clear  (σ : sg_T) : Option (sg_T) :=
  bnd (up σ 1 1 0) (fun σ1 =>
  some σ1)
def f_X3_take  (σ : sg_T) : Option (Int32 × sg_T) :=
  if (σ 6 3) < 6 then
    ck (σ 6 3) 6 (
    bd2 (f_X2_read (10 + 3 * (σ 6 3).toNatClampNeg) σ) (fun r4 σ5 =>
    bd1 (f_X2_clear  σ5) (fun σ7 =>
    if r4 = (-1) then
      bnd ((σ7 6 3)) (fun v9 =>
      bnd (up σ7 6 3 ((σ7 6 3) + 1)) (fun σ10 =>
      some (v9, σ10)))
    else
      some (((-100) - r4), σ7))))
  else
    some ((-4), σ)
def f_X1_has (o : Nat) (x1 : Int32) (σ : sg_T) : Option (Int32) :=
  if x1 < 0 then
    some 0
  else
    bnd ((if (σ o 7) ≤ x1 then 0 else 1) : Int32) (fun v3 =>
    cz v3 (some v3))
def f_X1_hasPlace (o : Nat) (x1 : Int32) (x2 : Int32) (σ : sg_T) : Option (Int32) :=
  if x1 = 0 then
    some 1
  else
    if x1 = 6 then
      if x2 < 0 then
        some 0
      else
        if (σ o 7) ≤ (x2 / 10) then
          some 0
        else
          if (σ o 7) ≤ (jrem x2 10) then
            some 0
          else
            bnd ((if (x2 / 10) = (jrem x2 10) then 0 else 1) : Int32) (fun v10 =>
            cz v10 (some v10))
    else
      bd1 (f_X1_has o x2 σ) (fun r4 =>
      cz r4 (some r4))
def plen (o q : Nat) : Nat := if q = o + 7 then 25 else 5
def f_X1_rowOf (o : Nat) (x1 : Int32) (σ : sg_T) : Option (Nat) :=
  if x1 = 1 then
    some (o + 2)
  else if x1 = 2 then
    some (o + 3)
  else if x1 = 3 then
    some (o + 4)
  else if x1 = 4 then
    some (o + 5)
  else if x1 = 5 then
    some (o + 6)
  else if x1 = 6 then
    some (o + 7)
  else 
    some (o + 1)
def f_X1_placeIn (x1 : Int32) (x2 : Int32) (σ : sg_T) : Option (Int32) :=
  if x1 = 6 then
    some (((x2 / 10) * 5) + (jrem x2 10))
  else
    some x2
def f_X1_get (o : Nat) (x1 : Int32) (x2 : Int32) (σ : sg_T) : Option (Int32) :=
  if x1 = 0 then
    some (σ o 8)
  else
    bd1 (f_X1_hasPlace o x1 x2 σ) (fun r3 =>
    if r3 = 0 then
      some (-1)
    else
      bd1 (f_X1_rowOf o x1 σ) (fun r6 =>
      bd1 (f_X1_placeIn x1 x2 σ) (fun r8 =>
      ck r8 (plen o r6) (
      some (σ r6 r8.toNatClampNeg)))))
def f_X1_put (o : Nat) (x1 : Int32) (x2 : Int32) (x3 : Int32) (σ : sg_T) : Option (sg_T) :=
  if x1 = 0 then
    bnd (up σ o 8 x3) (fun σ16 =>
    some σ16)
  else
    if x1 = 8 then
      bnd (up σ o 9 x3) (fun σ14 =>
      some σ14)
    else
      if x1 = 9 then
        some σ
      else
        bd1 (f_X1_hasPlace o x1 x2 σ) (fun r5 =>
        if r5 = 0 then
          some σ
        else
          bd1 (f_X1_rowOf o x1 σ) (fun r8 =>
          bd1 (f_X1_placeIn x1 x2 σ) (fun r10 =>
          ck r10 (plen o r8) (
          bnd (up σ r8 r10.toNatClampNeg x3) (fun σ12 =>
          some σ12)))))
def f_X7_set (x1 : Int32) (x2 : Int32) (x3 : Int32) (σ : sg_T) : Option (Int32 × sg_T) :=
  if x1 < 0 then
    some ((-2), σ)
  else
    if 6 < x1 then
      some ((-2), σ)
    else
      bd1 (f_X1_hasPlace 34 x1 x2 σ) (fun r4 =>
      if r4 = 0 then
        some ((-2), σ)
      else
        if x3 < 0 then
          some ((-2), σ)
        else
          ck x1 7 (
          if x3 ≤ (c_hi x1) then
            bd1 (f_X1_get 34 x1 x2 σ) (fun r10 =>
            bd1 (f_X1_put 34 x1 x2 x3 σ) (fun σ12 =>
            some (r10, σ12)))
          else
            some ((-2), σ)))
def b_X1_come_114 (o50 : Nat) (u1 : Int32) (u2 : Int32) (u3 : Int32) (u4 : Int32) (w5 : Int32) (σ : sg_T) : Option ((Int32 × sg_T) ⊕ (Int32 × sg_T)) :=
  if u4 ≤ w5 then
    some (.inr (w5, σ))
  else
    ck ((u4 * 5) + w5) 25 (
    bnd (up σ (o50 + 7) ((u4 * 5) + w5).toNatClampNeg 1) (fun σ32 =>
    ck ((w5 * 5) + u4) 25 (
    bnd (up σ32 (o50 + 7) ((w5 * 5) + u4).toNatClampNeg 1) (fun σ35 =>
    bnd (w5 + 1) (fun v37 =>
    some (.inl (v37, σ35)))))))
def f_X1_come (o : Nat) (x1 : Int32) (x2 : Int32) (x3 : Int32) (σ : sg_T) : Option (Int32 × sg_T) :=
  if x1 < 0 then
    some ((-2), σ)
  else
    if 6 ≤ x1 then
      some ((-2), σ)
    else
      if x2 < 0 then
        some ((-2), σ)
      else
        ck 1 7 (
        if (c_hi 1) < x2 then
          some ((-2), σ)
        else
          if x3 < 0 then
            some ((-2), σ)
          else
            if x3 < 24 then
              if (σ o 7) < 5 then
                bnd ((σ o 7)) (fun v9 =>
                bnd (up σ o 7 ((σ o 7) + 1)) (fun σ10 =>
                ck v9 5 (
                bnd (up σ10 (o + 1) v9.toNatClampNeg x1) (fun σ13 =>
                ck v9 5 (
                bnd (up σ13 (o + 2) v9.toNatClampNeg x2) (fun σ16 =>
                ck v9 5 (
                bnd (up σ16 (o + 3) v9.toNatClampNeg x3) (fun σ19 =>
                ck v9 5 (
                bnd (up σ19 (o + 4) v9.toNatClampNeg 0) (fun σ22 =>
                ck v9 5 (
                bnd (up σ22 (o + 5) v9.toNatClampNeg 0) (fun σ25 =>
                ck v9 5 (
                bnd (up σ25 (o + 6) v9.toNatClampNeg 0) (fun σ28 =>
                bd2 (itr (fun q => b_X1_come_114 o x1 x2 x3 v9 q.1 q.2) lfu (0, σ28)) (fun v40 σ41 =>
                some (v9, σ41))))))))))))))))
              else
                some ((-4), σ)
            else
              some ((-2), σ))
def f_X7_person (x1 : Int32) (x2 : Int32) (x3 : Int32) (σ : sg_T) : Option (Int32 × sg_T) :=
  bd2 (f_X1_come 34 x1 x2 x3 σ) (fun r2 σ3 =>
  some (r2, σ3))
def b_X1_setterOf_17 (o50 : Nat) (u1 : Int32) (w2 : Int32) (w3 : Int32) (w4 : Int32) (σ : sg_T) : Option ((Int32 × Int32 × Int32) ⊕ (Int32 × Int32 × Int32)) :=
  if (σ o50 7) ≤ w4 then
    some (.inr (w2, w3, w4))
  else
    ck ((w4 * 5) + u1) 25 (
    bnd ((σ (o50 + 7) ((w4 * 5) + u1).toNatClampNeg)) (fun v6 =>
    if v6 ≤ w3 then
      bnd (w4 + 1) (fun v8 =>
      some (.inl (w2, w3, v8)))
    else
      bnd (w4 + 1) (fun v10 =>
      some (.inl (w4, v6, v10)))))
def f_X1_setterOf (o : Nat) (x1 : Int32) (σ : sg_T) : Option (Int32) :=
  bd1 (f_X1_has o x1 σ) (fun r2 =>
  if r2 = 0 then
    some (-1)
  else
    bd3 (itr (fun q => b_X1_setterOf_17 o x1 q.1 q.2.1 q.2.2 σ) lfu ((-1), 0, 0)) (fun v13 v14 v15 =>
    some v13))
def f_X1_rule (o : Nat) (σ : sg_T) : Option (Int32) :=
  some (σ o 9)
def f_X1_tellNames (o : Nat) (x1 : Int32) (x2 : Int32) (σ : sg_T) : Option (sg_T) :=
  bd1 (f_X1_has o x1 σ) (fun r2 =>
  if r2 = 0 then
    some σ
  else
    bd1 (f_X1_has o x2 σ) (fun r5 =>
    if r5 = 0 then
      some σ
    else
      if (6 : Int32) < (6 : Int32) then
        some σ
      else
        ck ((x1 * 5) + x2) 25 (
        ck 0 6 (
        bnd (up σ 8 (0 : Int32).toNatClampNeg (σ (o + 7) ((x1 * 5) + x2).toNatClampNeg)) (fun σ10 =>
        ck x2 5 (
        ck 1 6 (
        bnd (up σ10 8 (1 : Int32).toNatClampNeg (σ10 (o + 3) x2.toNatClampNeg)) (fun σ14 =>
        ck x1 5 (
        ck 2 6 (
        bnd (up σ14 8 (2 : Int32).toNatClampNeg (σ14 (o + 2) x1.toNatClampNeg)) (fun σ18 =>
        ck 3 6 (
        bnd (up σ18 8 (3 : Int32).toNatClampNeg (σ18 o 8)) (fun σ21 =>
        ck x1 5 (
        ck 4 6 (
        bnd (up σ21 8 (4 : Int32).toNatClampNeg (σ21 (o + 4) x1.toNatClampNeg)) (fun σ25 =>
        ck x2 5 (
        ck 5 6 (
        bnd (up σ25 8 (5 : Int32).toNatClampNeg (σ25 (o + 5) x2.toNatClampNeg)) (fun σ29 =>
        some σ29)))))))))))))))))))
def f_X5_end (o : Nat) (x1 : Int32) (σ : sg_T) : Option (Int32) :=
  if x1 < 0 then
    some 0
  else
    if 3 ≤ x1 then
      some 0
    else
      ck x1 3 (
      some (σ (o + 2) x1.toNatClampNeg))
def f_X5_begin (o : Nat) (x1 : Int32) (σ : sg_T) : Option (Int32) :=
  if x1 ≤ 0 then
    some 0
  else
    if 3 ≤ x1 then
      some 0
    else
      ck (x1 - 1) 3 (
      some (σ (o + 2) (x1 - 1).toNatClampNeg))
def f_X5_join (x1 : Int32) (x2 : Int32) (x3 : Int32) (σ : sg_T) : Option (Int32) :=
  if x1 = 9 then
    if x2 = 0 then
      bnd ((if x3 = 0 then 0 else 1) : Int32) (fun v4 =>
      some v4)
    else
      some 1
  else if x1 = 10 then
    if x2 = 0 then
      some 0
    else
      bnd ((if x3 = 0 then 0 else 1) : Int32) (fun v9 =>
      some v9)
  else if x1 = 43 then
    some (x2 + x3)
  else if x1 = 45 then
    some (x2 - x3)
  else if x1 = 60 then
    bnd ((if x3 ≤ x2 then 0 else 1) : Int32) (fun v15 =>
    some v15)
  else if x1 = 61 then
    bnd ((if x2 = x3 then 1 else 0) : Int32) (fun v19 =>
    some v19)
  else 
    some (x2 * x3)
def b_X5_value_17 (o50 : Nat) (u1 : Int32) (u5 : Int32) (w4 : Int32) (w6 : Int32) (σ : sg_T) : Option ((Int32 × Int32 × sg_T) ⊕ (Int32 × Int32 × sg_T)) :=
  if u5 ≤ w6 then
    some (.inr (w4, w6, σ))
  else
    ck w6 160 (
    bnd ((σ (o50 + 1) w6.toNatClampNeg)) (fun v7 =>
    if v7 < (-6) then
      if (v7 ^^^ (-1)) = 11 then
        if w4 ≤ 0 then
          bnd (w6 + 1) (fun v11 =>
          some (.inl (w4, v11, σ)))
        else
          if (v7 ^^^ (-1)) = 20 then
            ck (w4 - 1) 36 (
            ck (w4 - 1) 36 (
            bnd (up σ 9 (w4 - 1).toNatClampNeg (-(σ 9 (w4 - 1).toNatClampNeg))) (fun σ25 =>
            bnd (w6 + 1) (fun v27 =>
            some (.inl (w4, v27, σ25))))))
          else
            ck (w4 - 1) 36 (
            bnd ((if (σ 9 (w4 - 1).toNatClampNeg) = 0 then 1 else 0) : Int32) (fun v16 =>
            ck (w4 - 1) 36 (
            bnd (up σ 9 (w4 - 1).toNatClampNeg v16) (fun σ19 =>
            bnd (w6 + 1) (fun v21 =>
            some (.inl (w4, v21, σ19)))))))
      else
        if (v7 ^^^ (-1)) = 20 then
          if w4 ≤ 0 then
            bnd (w6 + 1) (fun v45 =>
            some (.inl (w4, v45, σ)))
          else
            if (v7 ^^^ (-1)) = 20 then
              ck (w4 - 1) 36 (
              ck (w4 - 1) 36 (
              bnd (up σ 9 (w4 - 1).toNatClampNeg (-(σ 9 (w4 - 1).toNatClampNeg))) (fun σ59 =>
              bnd (w6 + 1) (fun v61 =>
              some (.inl (w4, v61, σ59))))))
            else
              ck (w4 - 1) 36 (
              bnd ((if (σ 9 (w4 - 1).toNatClampNeg) = 0 then 1 else 0) : Int32) (fun v50 =>
              ck (w4 - 1) 36 (
              bnd (up σ 9 (w4 - 1).toNatClampNeg v50) (fun σ53 =>
              bnd (w6 + 1) (fun v55 =>
              some (.inl (w4, v55, σ53)))))))
        else
          if w4 ≤ 1 then
            bnd (w6 + 1) (fun v31 =>
            some (.inl (w4, v31, σ)))
          else
            bnd (w4 + (-1)) (fun v33 =>
            ck (v33 - 1) 36 (
            ck v33 36 (
            bd1 (f_X5_join (v7 ^^^ (-1)) (σ 9 (v33 - 1).toNatClampNeg) (σ 9 v33.toNatClampNeg) σ) (fun r38 =>
            ck (v33 - 1) 36 (
            bnd (up σ 9 (v33 - 1).toNatClampNeg r38) (fun σ40 =>
            bnd (w6 + 1) (fun v42 =>
            some (.inl (v33, v42, σ40)))))))))
    else
      if 36 ≤ w4 then
        bnd (w6 + 1) (fun v64 =>
        some (.inl (w4, v64, σ)))
      else
        if v7 < 0 then
          ck (v7 ^^^ (-1)) 6 (
          ck w4 36 (
          bnd (up σ 9 w4.toNatClampNeg (σ 8 (v7 ^^^ (-1)).toNatClampNeg)) (fun σ69 =>
          bnd (w4 + 1) (fun v71 =>
          bnd (w6 + 1) (fun v73 =>
          some (.inl (v71, v73, σ69)))))))
        else
          ck w4 36 (
          bnd (up σ 9 w4.toNatClampNeg v7) (fun σ76 =>
          bnd (w4 + 1) (fun v78 =>
          bnd (w6 + 1) (fun v80 =>
          some (.inl (v78, v80, σ76))))))))
def f_X5_value (o : Nat) (x1 : Int32) (σ : sg_T) : Option (Int32 × sg_T) :=
  bd1 (f_X5_end o x1 σ) (fun r2 =>
  bd1 (f_X5_begin o x1 σ) (fun r4 =>
  bd3 (itr (fun q => b_X5_value_17 o x1 r2 q.1 q.2.1 q.2.2) lfu (0, r4, σ)) (fun v83 v84 σ85 =>
  if v83 ≤ 0 then
    some (0, σ85)
  else
    ck (v83 - 1) 36 (
    some ((σ85 9 (v83 - 1).toNatClampNeg), σ85)))))
def f_X7_bound (x1 : Int32) (x2 : Int32) (x3 : Int32) (σ : sg_T) : Option (Int32) :=
  some (jmax x2 (jmin x3 x1))
def f_X3_tell (x1 : Int32) (o2 : Nat) (x3 : Int32) (x4 : Int32) (σ : sg_T) : Option (Int32 × sg_T) :=
  bd1 (f_X1_rule o2 σ) (fun r2 =>
  if r2 < 0 then
    some (0, σ)
  else
    if r2 < (σ 6 3) then
      bd1 (f_X1_tellNames o2 x3 x4 σ) (fun σ6 =>
      ck r2 6 (
      bd2 (f_X5_value (10 + 3 * r2.toNatClampNeg) x1 σ6) (fun r9 σ10 =>
      bnd ((if x1 = 0 then 0 else (-99)) : Int32) (fun v12 =>
      bd1 (f_X7_bound r9 v12 99 σ10) (fun r15 =>
      some (r15, σ10))))))
    else
      some (0, σ))
def f_X1_today (o : Nat) (σ : sg_T) : Option (Int32) :=
  some (σ o 8)
def f_X3_hourSet (o1 : Nat) (x2 : Int32) (x3 : Int32) (σ : sg_T) : Option (Int32 × sg_T) :=
  bd2 (f_X3_tell 0 o1 x2 x3 σ) (fun r2 σ3 =>
  bd1 (f_X1_get o1 7 x2 σ3) (fun r5 =>
  if r5 = 1 then
    bnd ((r2 + 2)) (fun v7 =>
    bd1 (f_X7_bound v7 0 23 σ3) (fun r9 =>
    some (r9, σ3)))
  else if r5 = 2 then
    bnd ((r2 / 2)) (fun v11 =>
    bd1 (f_X7_bound v11 0 23 σ3) (fun r13 =>
    some (r13, σ3)))
  else if r5 = 3 then
    bnd ((jmax 9 (r2 + 2))) (fun v15 =>
    bd1 (f_X7_bound v15 0 23 σ3) (fun r17 =>
    some (r17, σ3)))
  else if r5 = 4 then
    bd1 (f_X1_today o1 σ3) (fun r20 =>
    if (jrem r20 3) = 0 then
      bd1 (f_X1_get o1 2 x3 σ3) (fun r26 =>
      bd1 (f_X7_bound r26 0 23 σ3) (fun r28 =>
      some (r28, σ3)))
    else
      bnd ((r2 / 2)) (fun v22 =>
      bd1 (f_X7_bound v22 0 23 σ3) (fun r24 =>
      some (r24, σ3))))
  else if r5 = 5 then
    bd1 (f_X1_get o1 1 x2 σ3) (fun r31 =>
    bd1 (f_X7_bound r31 0 23 σ3) (fun r33 =>
    some (r33, σ3)))
  else 
    bd1 (f_X7_bound r2 0 23 σ3) (fun r35 =>
    some (r35, σ3))))
def f_X0_wakes (o1 : Nat) (x2 : Int32) (σ : sg_T) : Option (Int32 × sg_T) :=
  bd1 (f_X1_setterOf o1 x2 σ) (fun r2 =>
  if r2 = (-1) then
    some ((-1), σ)
  else
    bd2 (f_X3_hourSet o1 r2 x2 σ) (fun r5 σ6 =>
    some (r5, σ6)))
def f_X0_lateBy (o1 : Nat) (x2 : Int32) (σ : sg_T) : Option (Int32 × sg_T) :=
  bd2 (f_X0_wakes o1 x2 σ) (fun r2 σ3 =>
  bd1 (f_X1_get o1 2 x2 σ3) (fun r5 =>
  some ((jmax 0 (r2 - r5)), σ3)))
def b_X1_whoseClocks_4 (o50 : Nat) (u1 : Int32) (w2 : Int32) (w3 : Int32) (σ : sg_T) : Option ((Int32 × Int32) ⊕ (Int32 × Int32)) :=
  if (σ o50 7) ≤ w3 then
    some (.inr (w2, w3))
  else
    bd1 (f_X1_setterOf o50 w3 σ) (fun r3 =>
    if r3 = u1 then
      bnd ((w2 ||| (1 <<< (w3 &&& 31)))) (fun v7 =>
      bnd (w3 + 1) (fun v8 =>
      some (.inl (v7, v8))))
    else
      bnd (w3 + 1) (fun v5 =>
      some (.inl (w2, v5))))
def f_X1_whoseClocks (o : Nat) (x1 : Int32) (σ : sg_T) : Option (Int32) :=
  bd2 (itr (fun q => b_X1_whoseClocks_4 o x1 q.1 q.2 σ) lfu (0, 0)) (fun v11 v12 =>
  some v11)
def f_X7_told (x1 : Int32) (x2 : Int32) (σ : sg_T) : Option (Int32 × sg_T) :=
  if x2 < 0 then
    bd1 (f_X1_has 34 x1 σ) (fun r3 =>
    if r3 = 0 then
      some ((-1000), σ)
    else
      if x2 = 8 then
        bd1 (f_X1_setterOf 34 x1 σ) (fun r7 =>
        some (r7, σ))
      else if x2 = 9 then
        bd2 (f_X0_wakes 34 x1 σ) (fun r10 σ11 =>
        some (r10, σ11))
      else if x2 = 10 then
        bd2 (f_X0_lateBy 34 x1 σ) (fun r14 σ15 =>
        some (r14, σ15))
      else if x2 = 11 then
        bd1 (f_X1_whoseClocks 34 x1 σ) (fun r18 =>
        some (r18, σ))
      else 
        some ((-1000), σ))
  else
    if 7 < x2 then
      bd1 (f_X1_has 34 x1 σ) (fun r21 =>
      if r21 = 0 then
        some ((-1000), σ)
      else
        if x2 = 8 then
          bd1 (f_X1_setterOf 34 x1 σ) (fun r25 =>
          some (r25, σ))
        else if x2 = 9 then
          bd2 (f_X0_wakes 34 x1 σ) (fun r28 σ29 =>
          some (r28, σ29))
        else if x2 = 10 then
          bd2 (f_X0_lateBy 34 x1 σ) (fun r32 σ33 =>
          some (r32, σ33))
        else if x2 = 11 then
          bd1 (f_X1_whoseClocks 34 x1 σ) (fun r36 =>
          some (r36, σ))
        else 
          some ((-1000), σ))
    else
      bd1 (f_X1_hasPlace 34 x2 x1 σ) (fun r38 =>
      if r38 = 0 then
        some ((-1000), σ)
      else
        bd1 (f_X1_get 34 x2 x1 σ) (fun r41 =>
        some (r41, σ)))
def f_X1_hasTwo (o : Nat) (x1 : Int32) (x2 : Int32) (σ : sg_T) : Option (Int32) :=
  bd1 (f_X1_has o x1 σ) (fun r2 =>
  if r2 = 0 then
    some 0
  else
    bd1 (f_X1_has o x2 σ) (fun r5 =>
    if r5 = 0 then
      some 0
    else
      bnd ((if x1 = x2 then 0 else 1) : Int32) (fun v8 =>
      cz v8 (some v8))))
def f_X3_fonderBy (o1 : Nat) (x2 : Int32) (x3 : Int32) (x4 : Int32) (σ : sg_T) : Option (Int32 × sg_T) :=
  bd2 (f_X3_tell 2 o1 x2 x3 σ) (fun r2 σ3 =>
  bnd ((if x4 = 0 then r2 else 0) : Int32) (fun v5 =>
  bd1 (f_X1_get o1 7 x2 σ3) (fun r8 =>
  if r8 = 1 then
    some (v5, σ3)
  else if r8 = 2 then
    some ((-r2), σ3)
  else if r8 = 3 then
    some ((v5 + 1), σ3)
  else if r8 = 4 then
    bd1 (f_X1_today o1 σ3) (fun r14 =>
    bnd ((if (jrem r14 2) = 1 then (-r2) else 0) : Int32) (fun v16 =>
    some (v16, σ3)))
  else if r8 = 5 then
    some (0, σ3)
  else 
    some (r2, σ3))))
def f_X7_asks (x1 : Int32) (x2 : Int32) (x3 : Int32) (σ : sg_T) : Option (Int32 × sg_T) :=
  bd1 (f_X1_hasTwo 34 x1 x2 σ) (fun r2 =>
  if r2 = 0 then
    some ((-1000), σ)
  else
    if x3 = 0 then
      bd2 (f_X3_hourSet 34 x1 x2 σ) (fun r6 σ7 =>
      some (r6, σ7))
    else if x3 = 1 then
      bd2 (f_X3_fonderBy 34 x1 x2 1 σ) (fun r10 σ11 =>
      some (r10, σ11))
    else if x3 = 2 then
      bd2 (f_X3_fonderBy 34 x1 x2 0 σ) (fun r14 σ15 =>
      some (r14, σ15))
    else 
      some ((-1000), σ))
def f_X3_tiredBy (o1 : Nat) (x2 : Int32) (x3 : Int32) (σ : sg_T) : Option (Int32 × sg_T) :=
  bd2 (f_X3_tell 1 o1 x2 x2 σ) (fun r2 σ3 =>
  if 6 ≤ x3 then
    bd1 (f_X1_get o1 7 x2 σ3) (fun r6 =>
    if r6 = 1 then
      bnd ((r2 / 2)) (fun v8 =>
      bd1 (f_X7_bound v8 (-99) 99 σ3) (fun r10 =>
      some (r10, σ3)))
    else if r6 = 2 then
      bd1 (f_X7_bound r2 (-99) 99 σ3) (fun r13 =>
      some (r13, σ3))
    else if r6 = 3 then
      bd1 (f_X7_bound 0 (-99) 99 σ3) (fun r16 =>
      some (r16, σ3))
    else if r6 = 4 then
      bnd ((2 * r2)) (fun v18 =>
      bd1 (f_X7_bound v18 (-99) 99 σ3) (fun r20 =>
      some (r20, σ3)))
    else if r6 = 5 then
      bd1 (f_X1_get o1 3 x2 σ3) (fun r23 =>
      bnd ((if 50 ≤ r23 then 0 else r2) : Int32) (fun v25 =>
      bd1 (f_X7_bound v25 (-99) 99 σ3) (fun r28 =>
      some (r28, σ3))))
    else 
      bd1 (f_X7_bound r2 (-99) 99 σ3) (fun r30 =>
      some (r30, σ3)))
  else
    bd1 (f_X1_get o1 1 x2 σ3) (fun r32 =>
    bnd ((r2 + r32)) (fun v33 =>
    bd1 (f_X1_get o1 7 x2 σ3) (fun r35 =>
    if r35 = 1 then
      bnd ((r2 / 2)) (fun v37 =>
      bd1 (f_X7_bound v37 (-99) 99 σ3) (fun r39 =>
      some (r39, σ3)))
    else if r35 = 2 then
      bd1 (f_X7_bound v33 (-99) 99 σ3) (fun r42 =>
      some (r42, σ3))
    else if r35 = 3 then
      bd1 (f_X7_bound 0 (-99) 99 σ3) (fun r45 =>
      some (r45, σ3))
    else if r35 = 4 then
      bnd ((2 * v33)) (fun v47 =>
      bd1 (f_X7_bound v47 (-99) 99 σ3) (fun r49 =>
      some (r49, σ3)))
    else if r35 = 5 then
      bd1 (f_X1_get o1 3 x2 σ3) (fun r52 =>
      bnd ((if 50 ≤ r52 then 0 else r2) : Int32) (fun v54 =>
      bd1 (f_X7_bound v54 (-99) 99 σ3) (fun r57 =>
      some (r57, σ3))))
    else 
      bd1 (f_X7_bound r2 (-99) 99 σ3) (fun r59 =>
      some (r59, σ3))))))
def f_X7_woken (x1 : Int32) (x2 : Int32) (σ : sg_T) : Option (Int32 × sg_T) :=
  bd1 (f_X1_has 34 x1 σ) (fun r2 =>
  if r2 = 0 then
    some ((-1000), σ)
  else
    if x2 < 0 then
      some ((-1000), σ)
    else
      if x2 < 24 then
        bd2 (f_X3_tiredBy 34 x1 x2 σ) (fun r7 σ8 =>
        some (r7, σ8))
      else
        some ((-1000), σ))
def f_X2_size  (σ : sg_T) : Option (Int32) :=
  some (σ 1 1)
def f_X7_feed (x1 : Int32) (σ : sg_T) : Option (Int32 × sg_T) :=
  if x1 < 0 then
    some ((-2), σ)
  else
    if x1 ≤ 255 then
      bd2 (f_X2_add x1 σ) (fun r4 σ5 =>
      if r4 = 0 then
        some ((-4), σ5)
      else
        bd1 (f_X2_size  σ5) (fun r8 =>
        some (r8, σ5)))
    else
      some ((-2), σ)
def f_X7_text  (σ : sg_T) : Option (Int32 × sg_T) :=
  bd2 (f_X3_take  σ) (fun r2 σ3 =>
  some (r2, σ3))
def f_X3_many  (σ : sg_T) : Option (Int32) :=
  some (σ 6 3)
def f_X7_force (x1 : Int32) (σ : sg_T) : Option (Int32 × sg_T) :=
  if x1 < 0 then
    some ((-2), σ)
  else
    bd1 (f_X3_many  σ) (fun r3 =>
    if x1 < r3 then
      bd1 (f_X1_rule 34 σ) (fun r6 =>
      bd1 (f_X1_put 34 8 (-1) x1 σ) (fun σ8 =>
      some (r6, σ8)))
    else
      some ((-2), σ))
def f_X1_many (o : Nat) (σ : sg_T) : Option (Int32) :=
  some (σ o 7)
def b_X0_dawn_2 (o51 : Nat) (w2 : Int32) (σ : sg_T) : Option ((Int32 × sg_T) ⊕ (Int32 × sg_T)) :=
  bd1 (f_X1_many o51 σ) (fun r2 =>
  if r2 ≤ w2 then
    some (.inr (w2, σ))
  else
    bd1 (f_X1_setterOf o51 w2 σ) (fun r5 =>
    ck w2 5 (
    bnd (up σ 29 w2.toNatClampNeg r5) (fun σ7 =>
    if r5 = (-1) then
      ck w2 5 (
      bnd (up σ7 30 w2.toNatClampNeg (-1)) (fun σ42 =>
      ck w2 5 (
      bnd (up σ42 31 w2.toNatClampNeg 0) (fun σ45 =>
      bnd (w2 + 1) (fun v47 =>
      some (.inl (v47, σ45)))))))
    else
      bd2 (f_X3_hourSet o51 r5 w2 σ7) (fun r11 σ12 =>
      ck w2 5 (
      bnd (up σ12 30 w2.toNatClampNeg r11) (fun σ14 =>
      ck w2 5 (
      bd1 (f_X1_get o51 2 w2 σ14) (fun r18 =>
      ck w2 5 (
      bnd (up σ14 31 w2.toNatClampNeg (jmax 0 ((σ14 30 w2.toNatClampNeg) - r18))) (fun σ20 =>
      ck w2 5 (
      bd2 (f_X3_tiredBy o51 w2 (σ20 30 w2.toNatClampNeg) σ20) (fun r24 σ25 =>
      ck w2 5 (
      bnd (up σ25 32 w2.toNatClampNeg r24) (fun σ27 =>
      ck w2 5 (
      bnd ((if (σ27 31 w2.toNatClampNeg) ≤ 0 then 0 else 1) : Int32) (fun v31 =>
      bd2 (f_X3_fonderBy o51 r5 w2 v31 σ27) (fun r34 σ35 =>
      ck w2 5 (
      bnd (up σ35 33 w2.toNatClampNeg r34) (fun σ37 =>
      bnd (w2 + 1) (fun v39 =>
      some (.inl (v39, σ37)))))))))))))))))))))))
def f_X0_dawn (o1 : Nat) (σ : sg_T) : Option (sg_T) :=
  bd2 (itr (fun q => b_X0_dawn_2 o1 q.1 q.2) lfu (0, σ)) (fun v50 σ51 =>
  some σ51)
def f_X1_miss (o : Nat) (x1 : Int32) (σ : sg_T) : Option (sg_T) :=
  bd1 (f_X1_has o x1 σ) (fun r2 =>
  if r2 = 0 then
    some σ
  else
    ck x1 5 (
    ck x1 5 (
    bnd (up σ (o + 4) x1.toNatClampNeg (jmax ((σ (o + 4) x1.toNatClampNeg) - 10) 0)) (fun σ6 =>
    ck x1 5 (
    ck 4 7 (
    ck x1 5 (
    bnd (up σ6 (o + 5) x1.toNatClampNeg (jmin ((σ6 (o + 5) x1.toNatClampNeg) + 1) (c_hi 4))) (fun σ11 =>
    some σ11))))))))
def f_X1_wake (o : Nat) (x1 : Int32) (x2 : Int32) (x3 : Int32) (σ : sg_T) : Option (sg_T) :=
  bd1 (f_X1_has o x1 σ) (fun r2 =>
  if r2 = 0 then
    some σ
  else
    ck x1 5 (
    ck 3 7 (
    bd1 (f_X7_bound ((σ (o + 4) x1.toNatClampNeg) + x2) 0 (c_hi 3) σ) (fun r7 =>
    ck x1 5 (
    bnd (up σ (o + 4) x1.toNatClampNeg r7) (fun σ9 =>
    ck x1 5 (
    ck 5 7 (
    ck x1 5 (
    bnd (up σ9 (o + 6) x1.toNatClampNeg (jmin ((σ9 (o + 6) x1.toNatClampNeg) + x3) (c_hi 5))) (fun σ14 =>
    some σ14))))))))))
def f_X1_growFonder (o : Nat) (x1 : Int32) (x2 : Int32) (x3 : Int32) (σ : sg_T) : Option (sg_T) :=
  bd1 (f_X1_hasTwo o x1 x2 σ) (fun r2 =>
  if r2 = 0 then
    some σ
  else
    bnd (((x1 * 5) + x2)) (fun v4 =>
    ck v4 25 (
    ck 6 7 (
    bd1 (f_X7_bound ((σ (o + 7) v4.toNatClampNeg) + x3) 0 (c_hi 6) σ) (fun r8 =>
    ck v4 25 (
    bnd (up σ (o + 7) v4.toNatClampNeg r8) (fun σ10 =>
    some σ10)))))))
def f_X1_endDay (o : Nat) (σ : sg_T) : Option (sg_T) :=
  bnd (up σ o 8 ((σ o 8) + 1)) (fun σ1 =>
  some σ1)
def b_X0_settle_2 (o51 : Nat) (w2 : Int32) (σ : sg_T) : Option ((Int32 × sg_T) ⊕ (Int32 × sg_T)) :=
  bd1 (f_X1_many o51 σ) (fun r2 =>
  if r2 ≤ w2 then
    some (.inr (w2, σ))
  else
    ck w2 5 (
    if (σ 29 w2.toNatClampNeg) = (-1) then
      bd1 (f_X1_miss o51 w2 σ) (fun σ17 =>
      bnd (w2 + 1) (fun v18 =>
      some (.inl (v18, σ17))))
    else
      ck w2 5 (
      ck w2 5 (
      bd1 (f_X1_wake o51 w2 (σ 32 w2.toNatClampNeg) (σ 31 w2.toNatClampNeg) σ) (fun σ9 =>
      ck w2 5 (
      ck w2 5 (
      bd1 (f_X1_growFonder o51 (σ9 29 w2.toNatClampNeg) w2 (σ9 33 w2.toNatClampNeg) σ9) (fun σ13 =>
      bnd (w2 + 1) (fun v14 =>
      some (.inl (v14, σ13)))))))))))
def f_X0_settle (o1 : Nat) (σ : sg_T) : Option (sg_T) :=
  bd2 (itr (fun q => b_X0_settle_2 o1 q.1 q.2) lfu (0, σ)) (fun v21 σ22 =>
  bd1 (f_X1_endDay o1 σ22) (fun σ24 =>
  some σ24))
def b_X0_whoIsLate_4 (o51 : Nat) (w2 : Int32) (w3 : Int32) (σ : sg_T) : Option ((Int32 × Int32) ⊕ (Int32 × Int32)) :=
  bd1 (f_X1_many o51 σ) (fun r2 =>
  if r2 ≤ w3 then
    some (.inr (w2, w3))
  else
    ck w3 5 (
    if (σ 31 w3.toNatClampNeg) ≤ 0 then
      bnd (w3 + 1) (fun v6 =>
      some (.inl (w2, v6)))
    else
      bnd ((w2 ||| (1 <<< (w3 &&& 31)))) (fun v8 =>
      bnd (w3 + 1) (fun v9 =>
      some (.inl (v8, v9))))))
def f_X0_whoIsLate (o1 : Nat) (σ : sg_T) : Option (Int32) :=
  bd2 (itr (fun q => b_X0_whoIsLate_4 o1 q.1 q.2 σ) lfu (0, 0)) (fun v12 v13 =>
  some v12)
def f_X7_day  (σ : sg_T) : Option (Int32 × sg_T) :=
  bd1 (f_X1_today 34 σ) (fun r2 =>
  if r2 < 999 then
    bd1 (f_X0_dawn 34 σ) (fun σ5 =>
    bd1 (f_X0_settle 34 σ5) (fun σ7 =>
    bd1 (f_X0_whoIsLate 34 σ7) (fun r9 =>
    some (r9, σ7))))
  else
    some ((-3), σ))
def f_X1_copyFrom (o : Nat) (o1 : Nat) (σ : sg_T) : Option (sg_T) :=
  cy 0 0 5 5 5 (
  bnd (cpd σ (o1 + 1) (o + 1) 0 0 5) (fun σ2 =>
  cy 0 0 5 5 5 (
  bnd (cpd σ2 (o1 + 2) (o + 2) 0 0 5) (fun σ5 =>
  cy 0 0 5 5 5 (
  bnd (cpd σ5 (o1 + 3) (o + 3) 0 0 5) (fun σ8 =>
  cy 0 0 5 5 5 (
  bnd (cpd σ8 (o1 + 4) (o + 4) 0 0 5) (fun σ11 =>
  cy 0 0 5 5 5 (
  bnd (cpd σ11 (o1 + 5) (o + 5) 0 0 5) (fun σ14 =>
  cy 0 0 5 5 5 (
  bnd (cpd σ14 (o1 + 6) (o + 6) 0 0 5) (fun σ17 =>
  cy 0 0 25 25 25 (
  bnd (cpd σ17 (o1 + 7) (o + 7) 0 0 25) (fun σ20 =>
  bnd (up σ20 o 7 (σ20 o1 7)) (fun σ22 =>
  bnd (up σ22 o 8 (σ22 o1 8)) (fun σ24 =>
  bnd (up σ24 o 9 (σ24 o1 9)) (fun σ26 =>
  some σ26)))))))))))))))))
def b_X7_passDays_2 (u1 : Int32) (w2 : Int32) (σ : sg_T) : Option ((Int32 × sg_T) ⊕ (Int32 × sg_T)) :=
  if u1 ≤ w2 then
    some (.inr (w2, σ))
  else
    bd1 (f_X0_dawn 42 σ) (fun σ3 =>
    bd1 (f_X0_settle 42 σ3) (fun σ5 =>
    bnd (w2 + 1) (fun v6 =>
    some (.inl (v6, σ5)))))
def f_X7_passDays (x1 : Int32) (σ : sg_T) : Option (sg_T) :=
  bd2 (itr (fun q => b_X7_passDays_2 x1 q.1 q.2) lfu (0, σ)) (fun v9 σ10 =>
  some σ10)
def b_X1_sum_4 (o50 : Nat) (u1 : Int32) (w2 : Int32) (w3 : Int32) (σ : sg_T) : Option ((Int32 × Int32) ⊕ (Int32 × Int32)) :=
  if (σ o50 7) ≤ w3 then
    some (.inr (w2, w3))
  else
    bd1 (f_X1_get o50 u1 w3 σ) (fun r3 =>
    bnd ((w2 + r3)) (fun v4 =>
    bnd (w3 + 1) (fun v5 =>
    some (.inl (v4, v5)))))
def f_X1_sum (o : Nat) (x1 : Int32) (σ : sg_T) : Option (Int32) :=
  bd2 (itr (fun q => b_X1_sum_4 o x1 q.1 q.2 σ) lfu (0, 0)) (fun v8 v9 =>
  some v8)
def f_X7_run (x1 : Int32) (x2 : Int32) (x3 : Int32) (σ : sg_T) : Option (Int32 × sg_T) :=
  bd1 (f_X1_has 34 x1 σ) (fun r2 =>
  if r2 = 0 then
    some ((-2), σ)
  else
    if x2 < 0 then
      some ((-2), σ)
    else
      if 40 < x2 then
        some ((-2), σ)
      else
        if x3 < 0 then
          some ((-2), σ)
        else
          if x3 ≤ 4 then
            bd1 (f_X1_copyFrom 42 34 σ) (fun σ9 =>
            bd1 (f_X7_passDays x2 σ9) (fun σ11 =>
            if x3 = 0 then
              bd2 (f_X0_wakes 42 x1 σ11) (fun r14 σ15 =>
              some (r14, σ15))
            else if x3 = 1 then
              bd1 (f_X1_get 42 3 x1 σ11) (fun r18 =>
              some (r18, σ11))
            else if x3 = 2 then
              bd1 (f_X1_get 42 5 x1 σ11) (fun r21 =>
              some (r21, σ11))
            else if x3 = 3 then
              bd1 (f_X0_dawn 42 σ11) (fun σ24 =>
              bd1 (f_X0_whoIsLate 42 σ24) (fun r26 =>
              bd1 (f_J6_bitCount r26 σ24) (fun r27 =>
              some (r27, σ24))))
            else 
              bd1 (f_X1_sum 42 4 σ11) (fun r30 =>
              some (r30, σ11))))
          else
            some ((-2), σ))
def b_X7_round_23 (u1 : Int32) (w2 : Int32) (w3 : Int32) (w4 : Int32) (σ : sg_T) : Option ((Int32 × Int32 × Int32) ⊕ ((Int32 × Int32 × Int32) ⊕ (Int32))) :=
  if 5 < w4 then
    some (.inr (.inl (w2, w3, w4)))
  else
    bd1 (f_X1_setterOf 34 w3 σ) (fun r7 =>
    if r7 = (-1) then
      some (.inr (.inr (-1)))
    else
      if ((w2 >>> (r7 &&& 31)) &&& 1) = 0 then
        bnd ((w2 ||| (1 <<< (r7 &&& 31)))) (fun v10 =>
        bnd (w4 + 1) (fun v11 =>
        some (.inl (v10, r7, v11))))
      else
        some (.inr (.inr w4)))
def f_X7_round (x1 : Int32) (σ : sg_T) : Option (Int32) :=
  bd1 (f_X1_has 34 x1 σ) (fun r2 =>
  if r2 = 0 then
    some (-2)
  else
    bnd ((1 <<< (x1 &&& 31))) (fun v4 =>
    bs (itr (fun q => b_X7_round_23 x1 q.1 q.2.1 q.2.2 σ) lfu (v4, x1, 1)) (fun q => some q) (fun q => (fun v14 v15 v16 =>
    some (-1)) q.1 q.2.1 q.2.2)))
def b_X6_goOn_37 (rec : Int32 → Int32 → Int32 → Int32 → sg_T → Option sg_T) (u1 : Int32) (u2 : Int32) (u3 : Int32) (u4 : Int32) (w5 : Int32) (σ : sg_T) : Option ((Int32 × sg_T) ⊕ (Int32 × sg_T)) :=
  if (σ 58 1) ≤ w5 then
    some (.inr (w5, σ))
  else
    if w5 = u1 then
      bnd (w5 + 1) (fun v10 =>
      some (.inl (v10, σ)))
    else
      if ((u2 >>> (w5 &&& 31)) &&& 1) = 0 then
        ck ((u1 * 5) + w5) 25 (
        bd1 (rec (u1 + 1) (u2 ||| (1 <<< (w5 &&& 31))) (((u3 * 10) + w5) + 1) (u4 + (σ 59 ((u1 * 5) + w5).toNatClampNeg)) σ) (fun σ17 =>
        bnd (w5 + 1) (fun v18 =>
        some (.inl (v18, σ17)))))
      else
        bnd (w5 + 1) (fun v13 =>
        some (.inl (v13, σ)))
def f_X6_goOn (rec : Int32 → Int32 → Int32 → Int32 → sg_T → Option sg_T) (x1 : Int32) (x2 : Int32) (x3 : Int32) (x4 : Int32) (σ : sg_T) : Option (sg_T) :=
  if (σ 58 1) ≤ x1 then
    if (σ 58 2) ≤ x4 then
      some σ
    else
      bnd (up σ 58 2 x4) (fun σ3 =>
      bnd (up σ3 58 3 x3) (fun σ5 =>
      some σ5))
  else
    if x1 < 5 then
      bd2 (itr (fun q => b_X6_goOn_37 rec x1 x2 x3 x4 q.1 q.2) lfu (0, σ)) (fun v21 σ22 =>
      some σ22)
    else
      if (σ 58 2) ≤ x4 then
        some σ
      else
        bnd (up σ 58 2 x4) (fun σ24 =>
        bnd (up σ24 58 3 x3) (fun σ26 =>
        some σ26))
def g_goOn : Nat → Int32 → Int32 → Int32 → Int32 → sg_T → Option sg_T
  | 0, _, _, _, _, _ => none
  | n + 1, x1, x2, x3, x4, σ => f_X6_goOn (g_goOn n) x1 x2 x3 x4 σ
def b_X6_find_21 (o51 : Nat) (u3 : Int32) (w4 : Int32) (σ : sg_T) : Option ((Int32 × sg_T) ⊕ (Int32 × sg_T)) :=
  if (σ 58 1) ≤ w4 then
    some (.inr (w4, σ))
  else
    if u3 = w4 then
      bnd (w4 + 1) (fun v8 =>
      some (.inl (v8, σ)))
    else
      bd2 (f_X3_hourSet o51 u3 w4 σ) (fun r11 σ12 =>
      bd1 (f_X1_get o51 2 w4 σ12) (fun r14 =>
      ck ((u3 * 5) + w4) 25 (
      bnd (up σ12 59 ((u3 * 5) + w4).toNatClampNeg (jmax 0 (r11 - r14))) (fun σ16 =>
      bnd (w4 + 1) (fun v18 =>
      some (.inl (v18, σ16)))))))
def b_X6_find_10 (o51 : Nat) (w3 : Int32) (σ : sg_T) : Option ((Int32 × sg_T) ⊕ (Int32 × sg_T)) :=
  if (σ 58 1) ≤ w3 then
    some (.inr (w3, σ))
  else
    bd2 (itr (fun q => b_X6_find_21 o51 w3 q.1 q.2) lfu (0, σ)) (fun v21 σ22 =>
    bnd (w3 + 1) (fun v23 =>
    some (.inl (v23, σ22))))
def f_X6_find (o1 : Nat) (σ : sg_T) : Option (sg_T) :=
  bd1 (f_X1_many o1 σ) (fun r2 =>
  bnd (up σ 58 1 r2) (fun σ3 =>
  bd2 (itr (fun q => b_X6_find_10 o1 q.1 q.2) lfu (0, σ3)) (fun v26 σ27 =>
  bnd (up σ27 58 2 1000000) (fun σ28 =>
  bnd (up σ28 58 3 (-1)) (fun σ30 =>
  bd1 (g_goOn rfu 0 0 0 0 σ30) (fun σ33 =>
  some σ33))))))
def f_X6_digits  (σ : sg_T) : Option (Int32) :=
  some (σ 58 3)
def f_X6_late  (σ : sg_T) : Option (Int32) :=
  some (σ 58 2)
def f_X7_others (x1 : Int32) (σ : sg_T) : Option (Int32 × sg_T) :=
  if x1 < 0 then
    some ((-2), σ)
  else
    if x1 ≤ 1 then
      bd1 (f_X1_many 34 σ) (fun r4 =>
      if 2 ≤ r4 then
        bd1 (f_X6_find 34 σ) (fun σ7 =>
        if x1 = 0 then
          bd1 (f_X6_digits  σ7) (fun r12 =>
          some (r12, σ7))
        else
          bd1 (f_X6_late  σ7) (fun r10 =>
          some (r10, σ7)))
      else
        some ((-1), σ))
    else
      some ((-2), σ)
def f_X7_lateBehind (x1 : Int32) (x2 : Int32) (x3 : Int32) (x4 : Int32) (σ : sg_T) : Option (Int32 × sg_T) :=
  bd1 (f_X1_copyFrom 42 34 σ) (fun σ2 =>
  bd1 (f_X1_put 42 x2 x3 x4 σ2) (fun σ4 =>
  bd1 (f_X7_passDays x1 σ4) (fun σ6 =>
  bd1 (f_X1_sum 42 5 σ6) (fun r8 =>
  some (r8, σ6)))))
def b_X7_duty_43 (u1 : Int32) (u2 : Int32) (u3 : Int32) (w4 : Int32) (w5 : Int32) (w6 : Int32) (σ : sg_T) : Option ((Int32 × Int32 × Int32 × sg_T) ⊕ (Int32 × Int32 × Int32 × sg_T)) :=
  if 24 ≤ w6 then
    some (.inr (w4, w5, w6, σ))
  else
    bd2 (f_X7_lateBehind u2 2 u1 w6 σ) (fun r10 σ11 =>
    if w5 ≤ r10 then
      bnd (w6 + 1) (fun v13 =>
      some (.inl (w4, w5, v13, σ11)))
    else
      bnd (w6 + 1) (fun v15 =>
      some (.inl (w6, r10, v15, σ11))))
def f_X7_duty (x1 : Int32) (x2 : Int32) (x3 : Int32) (σ : sg_T) : Option (Int32 × sg_T) :=
  bd1 (f_X1_has 34 x1 σ) (fun r2 =>
  if r2 = 0 then
    some ((-2), σ)
  else
    if x2 < 0 then
      some ((-2), σ)
    else
      if 20 < x2 then
        some ((-2), σ)
      else
        if x3 < 0 then
          some ((-2), σ)
        else
          if x3 ≤ 1 then
            bd4 (itr (fun q => b_X7_duty_43 x1 x2 x3 q.1 q.2.1 q.2.2.1 q.2.2.2) lfu (0, 1000000, 0, σ)) (fun v18 v19 v20 σ21 =>
            bnd ((if x3 = 0 then v18 else v19) : Int32) (fun v23 =>
            some (v23, σ21)))
          else
            some ((-2), σ))
def b_X7_fonder_50 (u1 : Int32) (u2 : Int32) (u3 : Int32) (w4 : Int32) (w5 : Int32) (w6 : Int32) (σ : sg_T) : Option ((Int32 × Int32 × Int32 × sg_T) ⊕ (Int32 × Int32 × Int32 × sg_T)) :=
  bd1 (f_X1_many 34 σ) (fun r12 =>
  if r12 ≤ w6 then
    some (.inr (w4, w5, w6, σ))
  else
    if w6 = u1 then
      bnd (w6 + 1) (fun v15 =>
      some (.inl (w4, w5, v15, σ)))
    else
      ck 6 7 (
      bd2 (f_X7_lateBehind u2 6 ((10 * u1) + w6) (c_hi 6) σ) (fun r19 σ20 =>
      if w5 ≤ r19 then
        bnd (w6 + 1) (fun v22 =>
        some (.inl (w4, w5, v22, σ20)))
      else
        bnd (w6 + 1) (fun v24 =>
        some (.inl (w6, r19, v24, σ20))))))
def f_X7_fonder (x1 : Int32) (x2 : Int32) (x3 : Int32) (σ : sg_T) : Option (Int32 × sg_T) :=
  bd1 (f_X1_has 34 x1 σ) (fun r2 =>
  if r2 = 0 then
    some ((-2), σ)
  else
    if x2 < 0 then
      some ((-2), σ)
    else
      if 20 < x2 then
        some ((-2), σ)
      else
        if x3 < 0 then
          some ((-2), σ)
        else
          if x3 ≤ 1 then
            bd2 (f_X7_lateBehind x2 9 (-1) (-1) σ) (fun r9 σ10 =>
            bd4 (itr (fun q => b_X7_fonder_50 x1 x2 x3 q.1 q.2.1 q.2.2.1 q.2.2.2) lfu ((-1), r9, 0, σ10)) (fun v27 v28 v29 σ30 =>
            bnd ((if x3 = 0 then v27 else v28) : Int32) (fun v32 =>
            some (v32, σ30))))
          else
            some ((-2), σ))
def b_X7_partOf_2 (u0 : Int32) (u1 : Int32) (u2 : Int32) (w3 : Int32) (σ : sg_T) : Option ((Int32) ⊕ ((Int32) ⊕ (Int64))) :=
  if w3 ≤ 1 then
    some (.inr (.inl w3))
  else
    dz w3 (
    if (jrem u0 w3) = 0 then
      dz w3 (
      if (jrem u1 w3) = 0 then
        if u2 = 0 then
          dz w3 (
          some (.inr (.inr (((u0 / w3)).toInt64))))
        else
          dz w3 (
          some (.inr (.inr (((u1 / w3)).toInt64))))
      else
        bnd (w3 + (-1)) (fun v8 =>
        some (.inl v8)))
    else
      bnd (w3 + (-1)) (fun v4 =>
      some (.inl v4)))
def f_X7_partOf (x1 : Int32) (x2 : Int32) (x3 : Int32) (σ : sg_T) : Option (Int64) :=
  bs (itr (fun q => b_X7_partOf_2 x1 x2 x3 q σ) lfu x2) (fun q => some q) (fun v14 =>
  if x3 = 0 then
    some ((x1).toInt64)
  else
    some ((x2).toInt64))
def f_X7_mean (x1 : Int32) (σ : sg_T) : Option (Int64) :=
  if x1 < 0 then
    some (-4611686018427387904)
  else
    if 1 < x1 then
      some (-4611686018427387904)
    else
      bd1 (f_X1_many 34 σ) (fun r4 =>
      if r4 = 0 then
        some (-4611686018427387904)
      else
        bd1 (f_X1_sum 34 5 σ) (fun r7 =>
        bd1 (f_X1_many 34 σ) (fun r9 =>
        bd1 (f_X7_partOf r7 r9 x1 σ) (fun r11 =>
        some r11))))
def f_X7_isSheet (x1 : Int32) (σ : sg_T) : Option (Int32) :=
  if x1 < 0 then
    some 0
  else
    bnd ((if 4 ≤ x1 then 0 else 1) : Int32) (fun v3 =>
    cz v3 (some v3))
def f_X4_isMissing (o : Nat) (σ : sg_T) : Option (Int32) :=
  bnd ((if (σ o 1) = (-1) then 1 else 0) : Int32) (fun v2 =>
  cz v2 (some v2))
def f_X4_size (o : Nat) (σ : sg_T) : Option (Int32) :=
  some (σ o 2)
def f_X0_hour (x1 : Int32) (σ : sg_T) : Option (Int32) :=
  if x1 < 0 then
    some (-1)
  else
    if 5 ≤ x1 then
      some (-1)
    else
      ck x1 5 (
      some (σ 30 x1.toNatClampNeg))
def f_X4_get (o : Nat) (x1 : Int32) (σ : sg_T) : Option (Int32) :=
  if x1 < 0 then
    some 0
  else
    if (σ o 2) ≤ x1 then
      some 0
    else
      ck x1 40 (
      some (σ (o + 1) x1.toNatClampNeg))
def b_X7_firstOtherwise_26 (o51 : Nat) (u2 : Int32) (u3 : Int32) (u4 : Int32) (u5 : Int32) (w6 : Int32) (σ : sg_T) : Option ((Int32 × sg_T) ⊕ ((Int32 × sg_T) ⊕ (Int32 × sg_T))) :=
  bd1 (f_X4_size o51 σ) (fun r6 =>
  if r6 ≤ w6 then
    some (.inr (.inl (w6, σ)))
  else
    bd1 (f_X0_dawn 42 σ) (fun σ9 =>
    bd1 (f_X0_hour u2 σ9) (fun r11 =>
    bd1 (f_X4_get o51 w6 σ9) (fun r13 =>
    if r11 = r13 then
      bd1 (f_X0_settle 42 σ9) (fun σ16 =>
      bnd (w6 + 1) (fun v17 =>
      some (.inl (v17, σ16))))
    else
      some (.inr (.inr (w6, σ9)))))))
def f_X7_firstOtherwise (o1 : Nat) (x2 : Int32) (x3 : Int32) (x4 : Int32) (x5 : Int32) (σ : sg_T) : Option (Int32 × sg_T) :=
  bd1 (f_X1_copyFrom 42 34 σ) (fun σ2 =>
  bd1 (f_X1_put 42 x3 x4 x5 σ2) (fun σ4 =>
  bs (itr (fun q => b_X7_firstOtherwise_26 o1 x2 x3 x4 x5 q.1 q.2) lfu (0, σ4)) (fun q => some q) (fun q => (fun v20 σ21 =>
  some ((-1), σ21)) q.1 q.2)))
def b_X7_bitsThatFit_6 (o51 : Nat) (u2 : Int32) (u3 : Int32) (u4 : Int32) (u5 : Int32) (w6 : Int32) (w7 : Int32) (σ : sg_T) : Option ((Int32 × Int32 × sg_T) ⊕ (Int32 × Int32 × sg_T)) :=
  if u5 ≤ w7 then
    some (.inr (w6, w7, σ))
  else
    bd2 (f_X7_firstOtherwise o51 u2 u3 u4 w7 σ) (fun r3 σ4 =>
    if r3 = (-1) then
      bnd ((w6 ||| (1 <<< (w7 &&& 31)))) (fun v8 =>
      bnd (w7 + 1) (fun v9 =>
      some (.inl (v8, v9, σ4))))
    else
      bnd (w7 + 1) (fun v6 =>
      some (.inl (w6, v6, σ4))))
def f_X7_bitsThatFit (o1 : Nat) (x2 : Int32) (x3 : Int32) (x4 : Int32) (x5 : Int32) (σ : sg_T) : Option (Int32 × sg_T) :=
  bd3 (itr (fun q => b_X7_bitsThatFit_6 o1 x2 x3 x4 x5 q.1 q.2.1 q.2.2) lfu (0, 0, σ)) (fun v12 v13 σ14 =>
  some (v12, σ14))
def b_X5_hasTired_6 (o50 : Nat) (u1 : Int32) (w2 : Int32) (σ : sg_T) : Option ((Int32) ⊕ ((Int32) ⊕ (Int32))) :=
  bd1 (f_X5_end o50 u1 σ) (fun r4 =>
  if r4 ≤ w2 then
    some (.inr (.inl w2))
  else
    ck w2 160 (
    if (σ (o50 + 1) w2.toNatClampNeg) = (-5) then
      some (.inr (.inr 1))
    else
      bnd (w2 + 1) (fun v8 =>
      some (.inl v8))))
def f_X5_hasTired (o : Nat) (x1 : Int32) (σ : sg_T) : Option (Int32) :=
  bd1 (f_X5_begin o x1 σ) (fun r2 =>
  bs (itr (fun q => b_X5_hasTired_6 o x1 q σ) lfu r2) (fun q => some q) (fun v11 =>
  some 0))
def f_X3_mindsTired (o1 : Nat) (σ : sg_T) : Option (Int32) :=
  bd1 (f_X1_rule o1 σ) (fun r2 =>
  if r2 < 0 then
    some 0
  else
    if (σ 6 3) ≤ r2 then
      some 0
    else
      ck r2 6 (
      bd1 (f_X5_hasTired (10 + 3 * r2.toNatClampNeg) 0 σ) (fun r7 =>
      if r7 = 0 then
        ck r2 6 (
        bd1 (f_X5_hasTired (10 + 3 * r2.toNatClampNeg) 2 σ) (fun r11 =>
        bnd ((if r11 = 0 then 0 else 1) : Int32) (fun v13 =>
        cz v13 (some v13))))
      else
        some 1)))
def b_X7_tiredThatFits_33 (o51 : Nat) (u2 : Int32) (u3 : Int32) (u4 : Int32) (u5 : Int32) (w6 : Int32) (w7 : Int32) (σ : sg_T) : Option ((Int32 × Int32 × sg_T) ⊕ ((Int32 × Int32 × sg_T) ⊕ (Int32 × sg_T))) :=
  ck 3 7 (
  if (c_hi 3) < w7 then
    some (.inr (.inl (w6, w7, σ)))
  else
    bd2 (f_X7_firstOtherwise o51 u2 3 u3 w7 σ) (fun r9 σ10 =>
    if r9 = (-1) then
      if u4 = 0 then
        bnd ((w6 + u5)) (fun v14 =>
        bnd ((w7 + u5)) (fun v15 =>
        some (.inl (v14, v15, σ10))))
      else
        some (.inr (.inr (w7, σ10)))
    else
      bnd ((w7 + u5)) (fun v12 =>
      some (.inl (w6, v12, σ10)))))
def b_X7_tiredThatFits_33q2 (o51 : Nat) (u2 : Int32) (u3 : Int32) (u4 : Int32) (w6 : Int32) (w7 : Int32) (σ : sg_T) : Option ((Int32 × Int32 × sg_T) ⊕ ((Int32 × Int32 × sg_T) ⊕ (Int32 × sg_T))) :=
  ck 3 7 (
  if (c_hi 3) < w7 then
    some (.inr (.inl (w6, w7, σ)))
  else
    bd2 (f_X7_firstOtherwise o51 u2 3 u3 w7 σ) (fun r29 σ30 =>
    if r29 = (-1) then
      if u4 = 0 then
        bnd ((w6 + 1)) (fun v34 =>
        bnd ((w7 + 1)) (fun v35 =>
        some (.inl (v34, v35, σ30))))
      else
        some (.inr (.inr (w7, σ30)))
    else
      bnd ((w7 + 1)) (fun v32 =>
      some (.inl (w6, v32, σ30)))))
def f_X7_tiredThatFits (o1 : Nat) (x2 : Int32) (x3 : Int32) (x4 : Int32) (σ : sg_T) : Option (Int32 × sg_T) :=
  bd1 (f_X3_mindsTired 34 σ) (fun r2 =>
  if r2 = 0 then
    ck 3 7 (
    bnd (((c_hi 3) + 1)) (fun v5 =>
    bs (itr (fun q => b_X7_tiredThatFits_33 o1 x2 x3 x4 v5 q.1 q.2.1 q.2.2) lfu (0, 0, σ)) (fun q => some q) (fun q => (fun v17 v18 σ19 =>
    bnd ((if x4 = 0 then v17 else (-1)) : Int32) (fun v24 =>
    some (v24, σ19))) q.1 q.2.1 q.2.2)))
  else
    bs (itr (fun q => b_X7_tiredThatFits_33q2 o1 x2 x3 x4 q.1 q.2.1 q.2.2) lfu (0, 0, σ)) (fun q => some q) (fun q => (fun v37 v38 σ39 =>
    bnd ((if x4 = 0 then v37 else (-1)) : Int32) (fun v44 =>
    some (v44, σ39))) q.1 q.2.1 q.2.2))
def b_X7_peopleThatFit_4 (o51 : Nat) (w2 : Int32) (w3 : Int32) (σ : sg_T) : Option ((Int32 × Int32 × sg_T) ⊕ (Int32 × Int32 × sg_T)) :=
  bd1 (f_X1_many 34 σ) (fun r2 =>
  if r2 ≤ w3 then
    some (.inr (w2, w3, σ))
  else
    bd2 (f_X7_firstOtherwise o51 w3 9 (-1) (-1) σ) (fun r5 σ6 =>
    if r5 = (-1) then
      bnd ((w2 ||| (1 <<< (w3 &&& 31)))) (fun v10 =>
      bnd (w3 + 1) (fun v11 =>
      some (.inl (v10, v11, σ6))))
    else
      bnd (w3 + 1) (fun v8 =>
      some (.inl (w2, v8, σ6)))))
def f_X7_peopleThatFit (o1 : Nat) (σ : sg_T) : Option (Int32 × sg_T) :=
  bd3 (itr (fun q => b_X7_peopleThatFit_4 o1 q.1 q.2.1 q.2.2) lfu (0, 0, σ)) (fun v14 v15 σ16 =>
  some (v14, σ16))
def f_X7_tells (x1 : Int32) (x2 : Int32) (x3 : Int32) (x4 : Int32) (σ : sg_T) : Option (Int32 × sg_T) :=
  bd1 (f_X7_isSheet x1 σ) (fun r2 =>
  if r2 = 0 then
    some ((-2), σ)
  else
    bd1 (f_X1_has 34 x2 σ) (fun r5 =>
    if r5 = 0 then
      some ((-2), σ)
    else
      bd1 (f_X1_has 34 x3 σ) (fun r8 =>
      if r8 = 0 then
        some ((-2), σ)
      else
        if x4 < 0 then
          some ((-2), σ)
        else
          if x4 ≤ 7 then
            ck x1 4 (
            bd1 (f_X4_isMissing (61 + 2 * x1.toNatClampNeg) σ) (fun r14 =>
            if r14 = 0 then
              bd1 (f_X4_size (61 + 2 * x1.toNatClampNeg) σ) (fun r17 =>
              if r17 ≤ 20 then
                if x4 = 0 then
                  bd2 (f_X7_firstOtherwise (61 + 2 * x1.toNatClampNeg) x2 9 (-1) (-1) σ) (fun r21 σ22 =>
                  some (r21, σ22))
                else if x4 = 1 then
                  bd2 (f_X7_bitsThatFit (61 + 2 * x1.toNatClampNeg) x2 7 x3 6 σ) (fun r25 σ26 =>
                  some (r25, σ26))
                else if x4 = 2 then
                  ck 1 7 (
                  bd2 (f_X7_bitsThatFit (61 + 2 * x1.toNatClampNeg) x2 1 x3 ((c_hi 1) + 1) σ) (fun r30 σ31 =>
                  some (r30, σ31)))
                else if x4 = 3 then
                  bnd ((if x4 = 4 then 1 else 0) : Int32) (fun v34 =>
                  bd2 (f_X7_tiredThatFits (61 + 2 * x1.toNatClampNeg) x2 x3 v34 σ) (fun r37 σ38 =>
                  some (r37, σ38)))
                else if x4 = 4 then
                  bnd ((if x4 = 4 then 1 else 0) : Int32) (fun v41 =>
                  bd2 (f_X7_tiredThatFits (61 + 2 * x1.toNatClampNeg) x2 x3 v41 σ) (fun r44 σ45 =>
                  some (r44, σ45)))
                else if x4 = 5 then
                  bd2 (f_X7_bitsThatFit (61 + 2 * x1.toNatClampNeg) x2 2 x2 24 σ) (fun r48 σ49 =>
                  some (r48, σ49))
                else if x4 = 6 then
                  bd1 (f_X3_many  σ) (fun r52 =>
                  bd2 (f_X7_bitsThatFit (61 + 2 * x1.toNatClampNeg) x2 8 (-1) r52 σ) (fun r54 σ55 =>
                  some (r54, σ55)))
                else 
                  bd2 (f_X7_peopleThatFit (61 + 2 * x1.toNatClampNeg) σ) (fun r57 σ58 =>
                  some (r57, σ58))
              else
                some ((-2), σ))
            else
              some ((-11), σ)))
          else
            some ((-2), σ))))
def b_X4_become_18 (o50 : Nat) (u1 : Int32) (u2 : Int32) (w3 : Int32) (σ : sg_T) : Option ((Int32 × sg_T) ⊕ (Int32 × sg_T)) :=
  if (σ o50 2) ≤ w3 then
    some (.inr (w3, σ))
  else
    ck w3 40 (
    bnd (up σ (o50 + 1) w3.toNatClampNeg 0) (fun σ9 =>
    bnd (w3 + 1) (fun v11 =>
    some (.inl (v11, σ9)))))
def f_X4_become (o : Nat) (x1 : Int32) (x2 : Int32) (σ : sg_T) : Option (sg_T) :=
  bnd (up σ o 1 x1) (fun σ1 =>
  bd1 (f_X7_bound x2 0 40 σ1) (fun r4 =>
  bnd (up σ1 o 2 r4) (fun σ5 =>
  bd2 (itr (fun q => b_X4_become_18 o x1 x2 q.1 q.2) lfu (0, σ5)) (fun v14 σ15 =>
  some σ15))))
def f_X4_put (o : Nat) (x1 : Int32) (x2 : Int32) (σ : sg_T) : Option (sg_T) :=
  if x1 < 0 then
    some σ
  else
    if (σ o 2) ≤ x1 then
      some σ
    else
      if (σ o 1) = 0 then
        ck x1 40 (
        bnd (up σ (o + 1) x1.toNatClampNeg ((x2).toInt8.toInt32)) (fun σ12 =>
        some σ12))
      else
        if (σ o 1) = 1 then
          ck x1 40 (
          bnd (up σ (o + 1) x1.toNatClampNeg ((x2).toInt16.toInt32)) (fun σ9 =>
          some σ9))
        else
          ck x1 40 (
          bnd (up σ (o + 1) x1.toNatClampNeg x2) (fun σ6 =>
          some σ6))
def b_X7_film_60 (u1 : Int32) (u2 : Int32) (u3 : Int32) (o54 : Nat) (w5 : Int32) (σ : sg_T) : Option ((Int32 × sg_T) ⊕ (Int32 × sg_T)) :=
  if u3 ≤ w5 then
    some (.inr (w5, σ))
  else
    bd1 (f_X0_dawn 42 σ) (fun σ16 =>
    bd1 (f_X0_hour u2 σ16) (fun r18 =>
    bd1 (f_X4_put o54 w5 r18 σ16) (fun σ20 =>
    bd1 (f_X0_settle 42 σ20) (fun σ22 =>
    bnd (w5 + 1) (fun v23 =>
    some (.inl (v23, σ22)))))))
def f_X7_film (x1 : Int32) (x2 : Int32) (x3 : Int32) (σ : sg_T) : Option (Int32 × sg_T) :=
  bd1 (f_X7_isSheet x1 σ) (fun r2 =>
  if r2 = 0 then
    some ((-2), σ)
  else
    bd1 (f_X1_has 34 x2 σ) (fun r5 =>
    if r5 = 0 then
      some ((-2), σ)
    else
      if x3 < 0 then
        some ((-2), σ)
      else
        if x3 ≤ 20 then
          ck x1 4 (
          bd1 (f_X4_become (61 + 2 * x1.toNatClampNeg) 0 x3 σ) (fun σ11 =>
          bd1 (f_X1_copyFrom 42 34 σ11) (fun σ13 =>
          bd2 (itr (fun q => b_X7_film_60 x1 x2 x3 (61 + 2 * x1.toNatClampNeg) q.1 q.2) lfu (0, σ13)) (fun v26 σ27 =>
          some (x3, σ27)))))
        else
          some ((-2), σ)))
def f_X1_quarrel (o : Nat) (x1 : Int32) (x2 : Int32) (σ : sg_T) : Option (sg_T) :=
  bd1 (f_X1_hasTwo o x1 x2 σ) (fun r2 =>
  if r2 = 0 then
    some σ
  else
    ck ((x1 * 5) + x2) 25 (
    bnd (up σ (o + 7) ((x1 * 5) + x2).toNatClampNeg 0) (fun σ5 =>
    some σ5)))
def b_X7_missedWhenDrawn_16 (u1 : Int32) (u2 : Int32) (w3 : Int32) (w4 : Int32) (σ : sg_T) : Option ((Int32 × Int32 × sg_T) ⊕ (Int32 × Int32 × sg_T)) :=
  if u2 ≤ w4 then
    some (.inr (w3, w4, σ))
  else
    bnd (((w3 * 1103515245) + 12345)) (fun v4 =>
    bnd (((v4 * 1103515245) + 12345)) (fun v5 =>
    bd1 (f_X1_quarrel 42 (jrem (jushr v4 9) 8) (jrem (jushr v5 9) 8) σ) (fun σ7 =>
    bd1 (f_X0_dawn 42 σ7) (fun σ9 =>
    bd1 (f_X0_settle 42 σ9) (fun σ11 =>
    bnd (w4 + 1) (fun v12 =>
    some (.inl (v5, v12, σ11))))))))
def f_X7_missedWhenDrawn (x1 : Int32) (x2 : Int32) (σ : sg_T) : Option (Int32 × sg_T) :=
  bd1 (f_X1_copyFrom 42 34 σ) (fun σ2 =>
  bd3 (itr (fun q => b_X7_missedWhenDrawn_16 x1 x2 q.1 q.2.1 q.2.2) lfu (x1, 0, σ2)) (fun v15 v16 σ17 =>
  bd1 (f_X1_sum 42 4 σ17) (fun r19 =>
  some (r19, σ17))))
def f_X7_drawn (x1 : Int32) (x2 : Int32) (σ : sg_T) : Option (Int32 × sg_T) :=
  if x2 < 0 then
    some ((-2), σ)
  else
    if x2 ≤ 40 then
      bd2 (f_X7_missedWhenDrawn x1 x2 σ) (fun r4 σ5 =>
      some (r4, σ5))
    else
      some ((-2), σ)
def b_X7_chance_42 (u1 : Int32) (u2 : Int32) (u3 : Int32) (u4 : Int32) (w5 : Int32) (w6 : Int32) (σ : sg_T) : Option ((Int32 × Int32 × sg_T) ⊕ (Int32 × Int32 × sg_T)) :=
  if u2 ≤ w6 then
    some (.inr (w5, w6, σ))
  else
    bd2 (f_X7_missedWhenDrawn (u1 + w6) 10 σ) (fun r9 σ10 =>
    if r9 < u3 then
      bnd (w6 + 1) (fun v12 =>
      some (.inl (w5, v12, σ10)))
    else
      bnd (w5 + 1) (fun v14 =>
      bnd (w6 + 1) (fun v16 =>
      some (.inl (v14, v16, σ10)))))
def f_X7_chance (x1 : Int32) (x2 : Int32) (x3 : Int32) (x4 : Int32) (σ : sg_T) : Option (Int64 × sg_T) :=
  if x2 < 1 then
    some ((-4611686018427387904), σ)
  else
    if 20 < x2 then
      some ((-4611686018427387904), σ)
    else
      if x3 < 0 then
        some ((-4611686018427387904), σ)
      else
        if 99 < x3 then
          some ((-4611686018427387904), σ)
        else
          if x4 < 0 then
            some ((-4611686018427387904), σ)
          else
            if x4 ≤ 1 then
              bd3 (itr (fun q => b_X7_chance_42 x1 x2 x3 x4 q.1 q.2.1 q.2.2) lfu (0, 0, σ)) (fun v19 v20 σ21 =>
              bd1 (f_X7_partOf v19 x2 x4 σ21) (fun r23 =>
              some (r23, σ21)))
            else
              some ((-4611686018427387904), σ)
def f_X7_image  (σ : sg_T) : Option (Int32 × sg_T) :=
  bd1 (f_X1_copyFrom 50 34 σ) (fun σ2 =>
  bnd (up σ2 0 8 1) (fun σ3 =>
  bd1 (f_X1_many 50 σ3) (fun r6 =>
  some (r6, σ3))))
def f_X7_back  (σ : sg_T) : Option (Int32 × sg_T) :=
  if (σ 0 8) = 0 then
    some ((-3), σ)
  else
    bd1 (f_X1_copyFrom 34 50 σ) (fun σ3 =>
    bd1 (f_X1_many 34 σ3) (fun r5 =>
    some (r5, σ3)))
def f_X1_manyWithoutSetter (o : Nat) (σ : sg_T) : Option (Int32) :=
  bd1 (f_X1_whoseClocks o (-1) σ) (fun r2 =>
  bd1 (f_J6_bitCount r2 σ) (fun r3 =>
  some r3))
def f_X7_count (x1 : Int32) (σ : sg_T) : Option (Int32) :=
  if x1 = 0 then
    bd1 (f_X1_many 34 σ) (fun r3 =>
    some r3)
  else if x1 = 1 then
    bd1 (f_X1_manyWithoutSetter 34 σ) (fun r6 =>
    some r6)
  else if x1 = 2 then
    bd1 (f_X1_today 34 σ) (fun r9 =>
    some r9)
  else if x1 = 3 then
    bd1 (f_X3_many  σ) (fun r12 =>
    some r12)
  else if x1 = 4 then
    bd1 (f_X2_size  σ) (fun r15 =>
    some r15)
  else if x1 = 5 then
    bd1 (f_X1_rule 34 σ) (fun r18 =>
    some r18)
  else 
    some (-2)
def f_X7_isSort (x1 : Int32) (σ : sg_T) : Option (Int32) :=
  if x1 < 0 then
    some 0
  else
    bnd ((if 2 < x1 then 0 else 1) : Int32) (fun v3 =>
    cz v3 (some v3))
def f_X7_sheet (x1 : Int32) (x2 : Int32) (x3 : Int32) (σ : sg_T) : Option (Int32 × sg_T) :=
  bd1 (f_X7_isSheet x1 σ) (fun r2 =>
  if r2 = 0 then
    some ((-2), σ)
  else
    if x2 = (-1) then
      if x2 = (-1) then
        if x2 = (-1) then
          ck x1 4 (
          bnd ((if x2 = (-1) then 0 else x3) : Int32) (fun v9 =>
          bd1 (f_X4_become (61 + 2 * x1.toNatClampNeg) x2 v9 σ) (fun σ12 =>
          some (1, σ12))))
        else
          if 0 ≤ x3 then
            ck x1 4 (
            bnd ((if x2 = (-1) then 0 else x3) : Int32) (fun v16 =>
            bd1 (f_X4_become (61 + 2 * x1.toNatClampNeg) x2 v16 σ) (fun σ19 =>
            some (1, σ19))))
          else
            some ((-14), σ)
      else
        if x3 ≤ 40 then
          if x2 = (-1) then
            ck x1 4 (
            bnd ((if x2 = (-1) then 0 else x3) : Int32) (fun v24 =>
            bd1 (f_X4_become (61 + 2 * x1.toNatClampNeg) x2 v24 σ) (fun σ27 =>
            some (1, σ27))))
          else
            if 0 ≤ x3 then
              ck x1 4 (
              bnd ((if x2 = (-1) then 0 else x3) : Int32) (fun v31 =>
              bd1 (f_X4_become (61 + 2 * x1.toNatClampNeg) x2 v31 σ) (fun σ34 =>
              some (1, σ34))))
            else
              some ((-14), σ)
        else
          some ((-2), σ)
    else
      bd1 (f_X7_isSort x2 σ) (fun r36 =>
      if r36 = 0 then
        some ((-2), σ)
      else
        if x2 = (-1) then
          if x2 = (-1) then
            ck x1 4 (
            bnd ((if x2 = (-1) then 0 else x3) : Int32) (fun v42 =>
            bd1 (f_X4_become (61 + 2 * x1.toNatClampNeg) x2 v42 σ) (fun σ45 =>
            some (1, σ45))))
          else
            if 0 ≤ x3 then
              ck x1 4 (
              bnd ((if x2 = (-1) then 0 else x3) : Int32) (fun v49 =>
              bd1 (f_X4_become (61 + 2 * x1.toNatClampNeg) x2 v49 σ) (fun σ52 =>
              some (1, σ52))))
            else
              some ((-14), σ)
        else
          if x3 ≤ 40 then
            if x2 = (-1) then
              ck x1 4 (
              bnd ((if x2 = (-1) then 0 else x3) : Int32) (fun v57 =>
              bd1 (f_X4_become (61 + 2 * x1.toNatClampNeg) x2 v57 σ) (fun σ60 =>
              some (1, σ60))))
            else
              if 0 ≤ x3 then
                ck x1 4 (
                bnd ((if x2 = (-1) then 0 else x3) : Int32) (fun v64 =>
                bd1 (f_X4_become (61 + 2 * x1.toNatClampNeg) x2 v64 σ) (fun σ67 =>
                some (1, σ67))))
              else
                some ((-14), σ)
          else
            some ((-2), σ)))
def f_X4_hasRange (o : Nat) (x1 : Int32) (x2 : Int32) (σ : sg_T) : Option (Int32) :=
  if x1 < 0 then
    some 0
  else
    if x2 < 0 then
      some 0
    else
      if (σ o 2) < x1 then
        some 0
      else
        bnd ((if ((σ o 2) - x1) < x2 then 0 else 1) : Int32) (fun v5 =>
        cz v5 (some v5))
def f_X7_cell (x1 : Int32) (x2 : Int32) (x3 : Int32) (σ : sg_T) : Option (Int32 × sg_T) :=
  bd1 (f_X7_isSheet x1 σ) (fun r2 =>
  if r2 = 0 then
    some ((-2), σ)
  else
    ck x1 4 (
    bd1 (f_X4_isMissing (61 + 2 * x1.toNatClampNeg) σ) (fun r6 =>
    if r6 = 0 then
      bd1 (f_X4_hasRange (61 + 2 * x1.toNatClampNeg) x2 1 σ) (fun r9 =>
      if r9 = 0 then
        some ((-12), σ)
      else
        bd1 (f_X4_put (61 + 2 * x1.toNatClampNeg) x2 x3 σ) (fun σ12 =>
        some (1, σ12)))
    else
      some ((-11), σ))))
def f_X4_sort (o : Nat) (σ : sg_T) : Option (Int32) :=
  some (σ o 1)
def f_X4_takeFrom (o : Nat) (o1 : Nat) (x2 : Int32) (x3 : Int32) (x4 : Int32) (σ : sg_T) : Option (sg_T) :=
  bd1 (f_X4_hasRange o1 x2 x4 σ) (fun r2 =>
  if r2 = 0 then
    some σ
  else
    bd1 (f_X4_hasRange o x3 x4 σ) (fun r5 =>
    if r5 = 0 then
      some σ
    else
      cy x2 x3 x4 40 40 (
      bnd (cpd σ (o1 + 1) (o + 1) x2 x3 x4) (fun σ8 =>
      some σ8))))
def f_X7_copy (x1 : Int32) (x2 : Int32) (x3 : Int32) (x4 : Int32) (x5 : Int32) (σ : sg_T) : Option (Int32 × sg_T) :=
  bd1 (f_X7_isSheet x1 σ) (fun r2 =>
  if r2 = 0 then
    some ((-2), σ)
  else
    bd1 (f_X7_isSheet x3 σ) (fun r5 =>
    if r5 = 0 then
      some ((-2), σ)
    else
      ck x1 4 (
      ck x3 4 (
      bd1 (f_X4_isMissing (61 + 2 * x1.toNatClampNeg) σ) (fun r10 =>
      if r10 = 0 then
        bd1 (f_X4_isMissing (61 + 2 * x3.toNatClampNeg) σ) (fun r13 =>
        if r13 = 0 then
          bd1 (f_X4_sort (61 + 2 * x1.toNatClampNeg) σ) (fun r16 =>
          bd1 (f_X4_sort (61 + 2 * x3.toNatClampNeg) σ) (fun r18 =>
          if r16 = r18 then
            bd1 (f_X4_hasRange (61 + 2 * x1.toNatClampNeg) x2 x5 σ) (fun r21 =>
            if r21 = 0 then
              some ((-12), σ)
            else
              bd1 (f_X4_hasRange (61 + 2 * x3.toNatClampNeg) x4 x5 σ) (fun r24 =>
              if r24 = 0 then
                some ((-12), σ)
              else
                bd1 (f_X4_takeFrom (61 + 2 * x3.toNatClampNeg) (61 + 2 * x1.toNatClampNeg) x2 x4 x5 σ) (fun σ27 =>
                some (x5, σ27))))
          else
            some ((-13), σ)))
        else
          some ((-11), σ))
      else
        some ((-11), σ))))))
def b_X7_court_68 (u1 : Int32) (u2 : Int32) (u3 : Int32) (u4 : Int32) (o55 : Nat) (w6 : Int32) (w7 : Int32) (w8 : Int32) (σ : sg_T) : Option ((Int32 × Int32 × Int32 × sg_T) ⊕ ((Int32 × Int32 × Int32 × sg_T) ⊕ (Int32 × sg_T))) :=
  if u4 ≤ w8 then
    some (.inr (.inl (w6, w7, w8, σ)))
  else
    bd1 (f_X4_hasRange o55 w7 3 σ) (fun r18 =>
    if r18 = 0 then
      some (.inr (.inr ((-12), σ)))
    else
      bd1 (f_X4_get o55 w7 σ) (fun r21 =>
      bd1 (f_X4_get o55 (w7 + 1) σ) (fun r23 =>
      bd1 (f_X4_get o55 (w7 + 2) σ) (fun r25 =>
      bd2 (f_X1_come 34 r21 r23 r25 σ) (fun r27 σ28 =>
      if r27 < 0 then
        bnd (w7 + 3) (fun v30 =>
        bnd (w8 + 1) (fun v32 =>
        some (.inl (w6, v30, v32, σ28))))
      else
        bnd (w6 + 1) (fun v34 =>
        bnd (w7 + 3) (fun v36 =>
        bnd (w8 + 1) (fun v38 =>
        some (.inl (v34, v36, v38, σ28))))))))))
def f_X7_court (x1 : Int32) (x2 : Int32) (x3 : Int32) (x4 : Int32) (σ : sg_T) : Option (Int32 × sg_T) :=
  bd1 (f_X7_isSheet x1 σ) (fun r2 =>
  if r2 = 0 then
    some ((-2), σ)
  else
    bd1 (f_X7_isSort x2 σ) (fun r5 =>
    if r5 = 0 then
      some ((-2), σ)
    else
      if x4 < 0 then
        some ((-2), σ)
      else
        if x4 ≤ 5 then
          ck x1 4 (
          bd1 (f_X4_isMissing (61 + 2 * x1.toNatClampNeg) σ) (fun r11 =>
          if r11 = 0 then
            bd1 (f_X4_sort (61 + 2 * x1.toNatClampNeg) σ) (fun r14 =>
            if r14 = x2 then
              bs (itr (fun q => b_X7_court_68 x1 x2 x3 x4 (61 + 2 * x1.toNatClampNeg) q.1 q.2.1 q.2.2.1 q.2.2.2) lfu (0, x3, 0, σ)) (fun q => some q) (fun q => (fun v41 v42 v43 σ44 =>
              some (v41, σ44)) q.1 q.2.1 q.2.2.1 q.2.2.2)
            else
              some ((-13), σ))
          else
            some ((-11), σ)))
        else
          some ((-2), σ)))
def b_X7_isUnder_4 (u0 : Int32) (u1 : Int32) (w2 : Int32) (w3 : Int32) (σ : sg_T) : Option ((Int32 × Int32) ⊕ ((Int32 × Int32) ⊕ (Int32))) :=
  if 6 ≤ w3 then
    some (.inr (.inl (w2, w3)))
  else
    if w2 < 0 then
      some (.inr (.inl (w2, w3)))
    else
      if 6 ≤ w2 then
        some (.inr (.inl (w2, w3)))
      else
        if w2 = u1 then
          some (.inr (.inr 1))
        else
          ck w2 6 (
          bnd ((c_un w2)) (fun v6 =>
          bnd (w3 + 1) (fun v7 =>
          some (.inl (v6, v7)))))
def f_X7_isUnder (x1 : Int32) (x2 : Int32) (σ : sg_T) : Option (Int32) :=
  bs (itr (fun q => b_X7_isUnder_4 x1 x2 q.1 q.2 σ) lfu (x1, 0)) (fun q => some q) (fun q => (fun v10 v11 =>
  some 0) q.1 q.2)
def f_X7_taken (x1 : Int32) (x2 : Int32) (σ : sg_T) : Option (Int32) :=
  if x2 < 0 then
    some (-2)
  else
    if x2 < 6 then
      bd1 (f_X1_has 34 x1 σ) (fun r4 =>
      if r4 = 0 then
        some (-11)
      else
        bd1 (f_X1_get 34 7 x1 σ) (fun r7 =>
        bd1 (f_X7_isUnder r7 x2 σ) (fun r9 =>
        if r9 = 0 then
          some (-13)
        else
          bd1 (f_X1_get 34 1 x1 σ) (fun r12 =>
          some r12))))
    else
      some (-2)
def f_X8_firstText  (σ : sg_T) : Option (Int32 × sg_T) :=
  ck 0 960 (
  bnd (up σ 75 (0 : Int32).toNatClampNeg 6) (fun σ2 =>
  ck 1 960 (
  bnd (up σ2 75 (1 : Int32).toNatClampNeg (-10)) (fun σ5 =>
  ck 2 960 (
  bnd (up σ5 75 (2 : Int32).toNatClampNeg (-25)) (fun σ8 =>
  ck 3 960 (
  bnd (up σ8 75 (3 : Int32).toNatClampNeg 3) (fun σ11 =>
  ck 4 960 (
  bnd (up σ11 75 (4 : Int32).toNatClampNeg 0) (fun σ14 =>
  ck 0 18 (
  bnd (up σ14 76 (0 : Int32).toNatClampNeg 3) (fun σ17 =>
  ck 1 18 (
  bnd (up σ17 76 (1 : Int32).toNatClampNeg 4) (fun σ20 =>
  ck 2 18 (
  bnd (up σ20 76 (2 : Int32).toNatClampNeg 5) (fun σ23 =>
  some (1, σ23)))))))))))))))))
def f_X8_isIn (x1 : Int32) (x2 : Int32) (x3 : Int32) (σ : sg_T) : Option (Int32) :=
  if x1 < x2 then
    some 0
  else
    bnd ((if x3 < x1 then 0 else 1) : Int32) (fun v3 =>
    cz v3 (some v3))
def f_X8_bound (x1 : Int32) (x2 : Int32) (x3 : Int32) (σ : sg_T) : Option (Int32) :=
  some (jmax x2 (jmin x3 x1))
def b_X8_keep_2 (o51 : Nat) (w2 : Int32) (σ : sg_T) : Option ((Int32 × sg_T) ⊕ (Int32 × sg_T)) :=
  if 58 ≤ w2 then
    some (.inr (w2, σ))
  else
    ck w2 58 (
    ck w2 58 (
    bnd (up σ o51 w2.toNatClampNeg (σ 70 w2.toNatClampNeg)) (fun σ4 =>
    bnd (w2 + 1) (fun v6 =>
    some (.inl (v6, σ4))))))
def f_X8_keep (o1 : Nat) (σ : sg_T) : Option (sg_T) :=
  bd2 (itr (fun q => b_X8_keep_2 o1 q.1 q.2) lfu (0, σ)) (fun v9 σ10 =>
  some σ10)
def b_X8_lay_2 (o51 : Nat) (w2 : Int32) (σ : sg_T) : Option ((Int32 × sg_T) ⊕ (Int32 × sg_T)) :=
  if 58 ≤ w2 then
    some (.inr (w2, σ))
  else
    ck w2 58 (
    ck w2 58 (
    bnd (up σ 70 w2.toNatClampNeg (σ o51 w2.toNatClampNeg)) (fun σ4 =>
    bnd (w2 + 1) (fun v6 =>
    some (.inl (v6, σ4))))))
def f_X8_lay (o1 : Nat) (σ : sg_T) : Option (sg_T) :=
  bd2 (itr (fun q => b_X8_lay_2 o1 q.1 q.2) lfu (0, σ)) (fun v9 σ10 =>
  some σ10)
def f_X8_many  (σ : sg_T) : Option (Int32) :=
  ck 55 58 (
  some (σ 70 (55 : Int32).toNatClampNeg))
def f_X8_isOne (x1 : Int32) (σ : sg_T) : Option (Int32) :=
  ck 55 58 (
  bd1 (f_X8_isIn x1 0 ((σ 70 (55 : Int32).toNatClampNeg) - 1) σ) (fun r3 =>
  cz r3 (some r3)))
def f_X8_isTwo (x1 : Int32) (x2 : Int32) (σ : sg_T) : Option (Int32) :=
  bd1 (f_X8_isOne x1 σ) (fun r2 =>
  if r2 = 0 then
    some 0
  else
    bd1 (f_X8_isOne x2 σ) (fun r5 =>
    if r5 = 0 then
      some 0
    else
      bnd ((if x1 = x2 then 0 else 1) : Int32) (fun v8 =>
      cz v8 (some v8))))
def f_X8_of (x1 : Int32) (x2 : Int32) (σ : sg_T) : Option (Int32) :=
  ck ((11 * x1) + x2) 58 (
  some (σ 70 ((11 * x1) + x2).toNatClampNeg))
def f_X8_change (x1 : Int32) (x2 : Int32) (x3 : Int32) (σ : sg_T) : Option (sg_T) :=
  ck ((11 * x1) + x2) 58 (
  bnd (up σ 70 ((11 * x1) + x2).toNatClampNeg x3) (fun σ2 =>
  some σ2))
def f_X8_place (x1 : Int32) (x2 : Int32) (σ : sg_T) : Option (Int32) :=
  if x1 = 6 then
    if x2 < 0 then
      some (-1)
    else
      bd1 (f_X8_isTwo (x2 / 10) (jrem x2 10) σ) (fun r10 =>
      if r10 = 0 then
        some (-1)
      else
        some (((11 * (x2 / 10)) + 6) + (jrem x2 10)))
  else
    if x1 = 0 then
      some 56
    else
      bd1 (f_X8_isOne x2 σ) (fun r4 =>
      bnd ((if r4 = 0 then (-1) else ((11 * x2) + x1)) : Int32) (fun v6 =>
      some v6))
def f_X8_set (x1 : Int32) (x2 : Int32) (x3 : Int32) (σ : sg_T) : Option (Int32 × sg_T) :=
  bd1 (f_X8_isIn x1 0 6 σ) (fun r2 =>
  if r2 = 0 then
    some ((-2), σ)
  else
    ck x1 7 (
    bd1 (f_X8_isIn x3 0 (σ 73 x1.toNatClampNeg) σ) (fun r6 =>
    if r6 = 0 then
      some ((-2), σ)
    else
      bd1 (f_X8_place x1 x2 σ) (fun r9 =>
      if r9 = (-1) then
        some ((-2), σ)
      else
        bd1 (f_X8_place x1 x2 σ) (fun r12 =>
        ck r12 58 (
        bnd ((σ 70 r12.toNatClampNeg)) (fun v14 =>
        bd1 (f_X8_place x1 x2 σ) (fun r16 =>
        ck r16 58 (
        bnd (up σ 70 r16.toNatClampNeg x3) (fun σ18 =>
        some (v14, σ18)))))))))))
def b_X8_person_52 (u1 : Int32) (u2 : Int32) (u3 : Int32) (u4 : Int32) (w5 : Int32) (σ : sg_T) : Option ((Int32 × sg_T) ⊕ (Int32 × sg_T)) :=
  if 11 ≤ w5 then
    some (.inr (w5, σ))
  else
    bnd ((if 6 ≤ w5 then 1 else 0) : Int32) (fun v17 =>
    bd1 (f_X8_change u4 w5 v17 σ) (fun σ20 =>
    bnd (w5 + 1) (fun v21 =>
    some (.inl (v21, σ20)))))
def b_X8_person_112 (u1 : Int32) (u2 : Int32) (u3 : Int32) (u4 : Int32) (w5 : Int32) (σ : sg_T) : Option ((Int32 × sg_T) ⊕ (Int32 × sg_T)) :=
  if u4 ≤ w5 then
    some (.inr (w5, σ))
  else
    bd1 (f_X8_change w5 (6 + u4) 1 σ) (fun σ34 =>
    bnd (w5 + 1) (fun v35 =>
    some (.inl (v35, σ34))))
def f_X8_person (x1 : Int32) (x2 : Int32) (x3 : Int32) (σ : sg_T) : Option (Int32 × sg_T) :=
  bd1 (f_X8_isIn x1 0 5 σ) (fun r2 =>
  if r2 = 0 then
    some ((-2), σ)
  else
    bd1 (f_X8_isIn x2 0 9 σ) (fun r5 =>
    if r5 = 0 then
      some ((-2), σ)
    else
      bd1 (f_X8_isIn x3 0 23 σ) (fun r8 =>
      if r8 = 0 then
        some ((-2), σ)
      else
        bd1 (f_X8_many  σ) (fun r11 =>
        if r11 = 5 then
          some ((-4), σ)
        else
          bd1 (f_X8_many  σ) (fun r14 =>
          bd2 (itr (fun q => b_X8_person_52 x1 x2 x3 r14 q.1 q.2) lfu (0, σ)) (fun v24 σ25 =>
          bd1 (f_X8_change r14 0 x1 σ25) (fun σ27 =>
          bd1 (f_X8_change r14 1 x2 σ27) (fun σ29 =>
          bd1 (f_X8_change r14 2 x3 σ29) (fun σ31 =>
          bd2 (itr (fun q => b_X8_person_112 x1 x2 x3 r14 q.1 q.2) lfu (0, σ31)) (fun v38 σ39 =>
          ck 55 58 (
          ck 55 58 (
          bnd (up σ39 70 (55 : Int32).toNatClampNeg ((σ39 70 (55 : Int32).toNatClampNeg) + 1)) (fun σ42 =>
          some (r14, σ42))))))))))))))
def b_X8_setter_7 (u1 : Int32) (w2 : Int32) (w3 : Int32) (w4 : Int32) (σ : sg_T) : Option ((Int32 × Int32 × Int32) ⊕ (Int32 × Int32 × Int32)) :=
  bd1 (f_X8_many  σ) (fun r2 =>
  if r2 ≤ w4 then
    some (.inr (w2, w3, w4))
  else
    if w4 = u1 then
      bnd (w4 + 1) (fun v5 =>
      some (.inl (w2, w3, v5)))
    else
      bd1 (f_X8_of w4 (6 + u1) σ) (fun r8 =>
      if r8 ≤ w3 then
        bnd (w4 + 1) (fun v10 =>
        some (.inl (w2, w3, v10)))
      else
        bd1 (f_X8_of w4 (6 + u1) σ) (fun r13 =>
        bnd (w4 + 1) (fun v14 =>
        some (.inl (w4, r13, v14))))))
def f_X8_setter (x1 : Int32) (σ : sg_T) : Option (Int32) :=
  bd3 (itr (fun q => b_X8_setter_7 x1 q.1 q.2.1 q.2.2 σ) lfu ((-1), 0, 0)) (fun v17 v18 v19 =>
  some v17)
def f_X8_yes (x1 : Int32) (σ : sg_T) : Option (Int32) :=
  bnd ((if x1 = 0 then 0 else 1) : Int32) (fun v2 =>
  some v2)
def f_X8_deed (x1 : Int32) (x2 : Int32) (x3 : Int32) (σ : sg_T) : Option (Int32) :=
  if x1 = (-26) then
    some (x2 - x3)
  else if x1 = (-25) then
    some (x2 + x3)
  else if x1 = (-24) then
    bnd ((if x2 = x3 then 1 else 0) : Int32) (fun v5 =>
    bd1 (f_X8_yes v5 σ) (fun r8 =>
    some r8))
  else if x1 = (-23) then
    bnd ((if x3 ≤ x2 then 0 else 1) : Int32) (fun v11 =>
    bd1 (f_X8_yes v11 σ) (fun r14 =>
    some r14))
  else if x1 = (-22) then
    some (x2 * x3)
  else if x1 = (-21) then
    if x2 = 0 then
      bd1 (f_X8_yes 0 σ) (fun r19 =>
      some r19)
    else
      bnd ((if x3 = 0 then 0 else 1) : Int32) (fun v21 =>
      bd1 (f_X8_yes v21 σ) (fun r24 =>
      some r24))
  else if x1 = (-20) then
    if x2 = 0 then
      bnd ((if x3 = 0 then 0 else 1) : Int32) (fun v30 =>
      bd1 (f_X8_yes v30 σ) (fun r33 =>
      some r33))
    else
      bd1 (f_X8_yes 1 σ) (fun r28 =>
      some r28)
  else 
    some (x2 * x3)
def b_X8_tell_39 (u1 : Int32) (u2 : Int32) (u3 : Int32) (u4 : Int32) (u5 : Int32) (w6 : Int32) (w7 : Int32) (σ : sg_T) : Option ((Int32 × Int32 × sg_T) ⊕ (Int32 × Int32 × sg_T)) :=
  ck ((3 * u4) + u1) 18 (
  if (σ 76 ((3 * u4) + u1).toNatClampNeg) ≤ w7 then
    some (.inr (w6, w7, σ))
  else
    ck ((160 * u4) + w7) 960 (
    bnd ((σ 75 ((160 * u4) + w7).toNatClampNeg)) (fun v9 =>
    if v9 < 0 then
      if v9 ≤ (-20) then
        if v9 = (-22) then
          ck (w6 - 1) 160 (
          bnd ((if (σ 79 (w6 - 1).toNatClampNeg) = 0 then 1 else 0) : Int32) (fun v33 =>
          bd1 (f_X8_yes v33 σ) (fun r36 =>
          ck (w6 - 1) 160 (
          bnd (up σ 79 (w6 - 1).toNatClampNeg r36) (fun σ38 =>
          bnd (w7 + 1) (fun v40 =>
          some (.inl (w6, v40, σ38))))))))
        else
          if v9 = (-28) then
            ck (w6 - 1) 160 (
            ck (w6 - 1) 160 (
            bnd (up σ 79 (w6 - 1).toNatClampNeg (-(σ 79 (w6 - 1).toNatClampNeg))) (fun σ27 =>
            bnd (w7 + 1) (fun v29 =>
            some (.inl (w6, v29, σ27))))))
          else
            bnd (w6 + (-1)) (fun v14 =>
            ck (v14 - 1) 160 (
            ck v14 160 (
            bd1 (f_X8_deed v9 (σ 79 (v14 - 1).toNatClampNeg) (σ 79 v14.toNatClampNeg) σ) (fun r19 =>
            ck (v14 - 1) 160 (
            bnd (up σ 79 (v14 - 1).toNatClampNeg r19) (fun σ21 =>
            bnd (w7 + 1) (fun v23 =>
            some (.inl (v14, v23, σ21)))))))))
      else
        bnd (((-10) - v9)) (fun v42 =>
        if v42 = 0 then
          if u2 = u3 then
            ck w6 160 (
            bnd (up σ 79 w6.toNatClampNeg 0) (fun σ103 =>
            bnd (w6 + 1) (fun v105 =>
            bnd (w7 + 1) (fun v107 =>
            some (.inl (v105, v107, σ103))))))
          else
            bd1 (f_X8_of u2 (6 + u3) σ) (fun r94 =>
            ck w6 160 (
            bnd (up σ 79 w6.toNatClampNeg r94) (fun σ96 =>
            bnd (w6 + 1) (fun v98 =>
            bnd (w7 + 1) (fun v100 =>
            some (.inl (v98, v100, σ96)))))))
        else
          if v42 = 1 then
            bd1 (f_X8_of u3 2 σ) (fun r84 =>
            ck w6 160 (
            bnd (up σ 79 w6.toNatClampNeg r84) (fun σ86 =>
            bnd (w6 + 1) (fun v88 =>
            bnd (w7 + 1) (fun v90 =>
            some (.inl (v88, v90, σ86)))))))
          else
            if v42 = 2 then
              bd1 (f_X8_of u2 1 σ) (fun r75 =>
              ck w6 160 (
              bnd (up σ 79 w6.toNatClampNeg r75) (fun σ77 =>
              bnd (w6 + 1) (fun v79 =>
              bnd (w7 + 1) (fun v81 =>
              some (.inl (v79, v81, σ77)))))))
            else
              if v42 = 3 then
                ck 56 58 (
                ck w6 160 (
                bnd (up σ 79 w6.toNatClampNeg (σ 70 (56 : Int32).toNatClampNeg)) (fun σ68 =>
                bnd (w6 + 1) (fun v70 =>
                bnd (w7 + 1) (fun v72 =>
                some (.inl (v70, v72, σ68)))))))
              else
                if v42 = 4 then
                  bd1 (f_X8_of u2 3 σ) (fun r58 =>
                  ck w6 160 (
                  bnd (up σ 79 w6.toNatClampNeg r58) (fun σ60 =>
                  bnd (w6 + 1) (fun v62 =>
                  bnd (w7 + 1) (fun v64 =>
                  some (.inl (v62, v64, σ60)))))))
                else
                  bd1 (f_X8_of u3 4 σ) (fun r49 =>
                  ck w6 160 (
                  bnd (up σ 79 w6.toNatClampNeg r49) (fun σ51 =>
                  bnd (w6 + 1) (fun v53 =>
                  bnd (w7 + 1) (fun v55 =>
                  some (.inl (v53, v55, σ51))))))))
    else
      ck w6 160 (
      bnd (up σ 79 w6.toNatClampNeg v9) (fun σ110 =>
      bnd (w6 + 1) (fun v112 =>
      bnd (w7 + 1) (fun v114 =>
      some (.inl (v112, v114, σ110)))))))))
def b_X8_tell_39q2 (u1 : Int32) (u2 : Int32) (u3 : Int32) (u4 : Int32) (w6 : Int32) (w7 : Int32) (σ : sg_T) : Option ((Int32 × Int32 × sg_T) ⊕ (Int32 × Int32 × sg_T)) :=
  ck ((3 * u4) + u1) 18 (
  if (σ 76 ((3 * u4) + u1).toNatClampNeg) ≤ w7 then
    some (.inr (w6, w7, σ))
  else
    ck ((160 * u4) + w7) 960 (
    bnd ((σ 75 ((160 * u4) + w7).toNatClampNeg)) (fun v124 =>
    if v124 < 0 then
      if v124 ≤ (-20) then
        if v124 = (-22) then
          ck (w6 - 1) 160 (
          bnd ((if (σ 79 (w6 - 1).toNatClampNeg) = 0 then 1 else 0) : Int32) (fun v148 =>
          bd1 (f_X8_yes v148 σ) (fun r151 =>
          ck (w6 - 1) 160 (
          bnd (up σ 79 (w6 - 1).toNatClampNeg r151) (fun σ153 =>
          bnd (w7 + 1) (fun v155 =>
          some (.inl (w6, v155, σ153))))))))
        else
          if v124 = (-28) then
            ck (w6 - 1) 160 (
            ck (w6 - 1) 160 (
            bnd (up σ 79 (w6 - 1).toNatClampNeg (-(σ 79 (w6 - 1).toNatClampNeg))) (fun σ142 =>
            bnd (w7 + 1) (fun v144 =>
            some (.inl (w6, v144, σ142))))))
          else
            bnd (w6 + (-1)) (fun v129 =>
            ck (v129 - 1) 160 (
            ck v129 160 (
            bd1 (f_X8_deed v124 (σ 79 (v129 - 1).toNatClampNeg) (σ 79 v129.toNatClampNeg) σ) (fun r134 =>
            ck (v129 - 1) 160 (
            bnd (up σ 79 (v129 - 1).toNatClampNeg r134) (fun σ136 =>
            bnd (w7 + 1) (fun v138 =>
            some (.inl (v129, v138, σ136)))))))))
      else
        bnd (((-10) - v124)) (fun v157 =>
        if v157 = 0 then
          if u2 = u3 then
            ck w6 160 (
            bnd (up σ 79 w6.toNatClampNeg 0) (fun σ218 =>
            bnd (w6 + 1) (fun v220 =>
            bnd (w7 + 1) (fun v222 =>
            some (.inl (v220, v222, σ218))))))
          else
            bd1 (f_X8_of u2 (6 + u3) σ) (fun r209 =>
            ck w6 160 (
            bnd (up σ 79 w6.toNatClampNeg r209) (fun σ211 =>
            bnd (w6 + 1) (fun v213 =>
            bnd (w7 + 1) (fun v215 =>
            some (.inl (v213, v215, σ211)))))))
        else
          if v157 = 1 then
            bd1 (f_X8_of u3 2 σ) (fun r199 =>
            ck w6 160 (
            bnd (up σ 79 w6.toNatClampNeg r199) (fun σ201 =>
            bnd (w6 + 1) (fun v203 =>
            bnd (w7 + 1) (fun v205 =>
            some (.inl (v203, v205, σ201)))))))
          else
            if v157 = 2 then
              bd1 (f_X8_of u2 1 σ) (fun r190 =>
              ck w6 160 (
              bnd (up σ 79 w6.toNatClampNeg r190) (fun σ192 =>
              bnd (w6 + 1) (fun v194 =>
              bnd (w7 + 1) (fun v196 =>
              some (.inl (v194, v196, σ192)))))))
            else
              if v157 = 3 then
                ck 56 58 (
                ck w6 160 (
                bnd (up σ 79 w6.toNatClampNeg (σ 70 (56 : Int32).toNatClampNeg)) (fun σ183 =>
                bnd (w6 + 1) (fun v185 =>
                bnd (w7 + 1) (fun v187 =>
                some (.inl (v185, v187, σ183)))))))
              else
                if v157 = 4 then
                  bd1 (f_X8_of u2 3 σ) (fun r173 =>
                  ck w6 160 (
                  bnd (up σ 79 w6.toNatClampNeg r173) (fun σ175 =>
                  bnd (w6 + 1) (fun v177 =>
                  bnd (w7 + 1) (fun v179 =>
                  some (.inl (v177, v179, σ175)))))))
                else
                  bd1 (f_X8_of u3 4 σ) (fun r164 =>
                  ck w6 160 (
                  bnd (up σ 79 w6.toNatClampNeg r164) (fun σ166 =>
                  bnd (w6 + 1) (fun v168 =>
                  bnd (w7 + 1) (fun v170 =>
                  some (.inl (v168, v170, σ166))))))))
    else
      ck w6 160 (
      bnd (up σ 79 w6.toNatClampNeg v124) (fun σ225 =>
      bnd (w6 + 1) (fun v227 =>
      bnd (w7 + 1) (fun v229 =>
      some (.inl (v227, v229, σ225)))))))))
def f_X8_tell (x1 : Int32) (x2 : Int32) (x3 : Int32) (σ : sg_T) : Option (Int32 × sg_T) :=
  ck 57 58 (
  bnd ((σ 70 (57 : Int32).toNatClampNeg)) (fun v2 =>
  if x1 = 0 then
    bd3 (itr (fun q => b_X8_tell_39q2 x1 x2 x3 v2 q.1 q.2.1 q.2.2) lfu (0, 0, σ)) (fun v232 v233 σ234 =>
    ck 0 160 (
    some ((σ234 79 (0 : Int32).toNatClampNeg), σ234)))
  else
    ck (((3 * v2) + x1) - 1) 18 (
    bnd ((σ 76 (((3 * v2) + x1) - 1).toNatClampNeg)) (fun v5 =>
    bd3 (itr (fun q => b_X8_tell_39 x1 x2 x3 v2 v5 q.1 q.2.1 q.2.2) lfu (0, v5, σ)) (fun v117 v118 σ119 =>
    ck 0 160 (
    some ((σ119 79 (0 : Int32).toNatClampNeg), σ119)))))))
def f_X8_sets (x1 : Int32) (x2 : Int32) (σ : sg_T) : Option (Int32 × sg_T) :=
  bd2 (f_X8_tell 0 x1 x2 σ) (fun r2 σ3 =>
  bd1 (f_X8_bound r2 0 99 σ3) (fun r5 =>
  bd1 (f_X8_of x1 0 σ3) (fun r7 =>
  if r7 = 1 then
    bnd ((r5 + 2)) (fun v9 =>
    bd1 (f_X8_bound v9 0 23 σ3) (fun r11 =>
    some (r11, σ3)))
  else if r7 = 2 then
    bnd ((r5 / 2)) (fun v13 =>
    bd1 (f_X8_bound v13 0 23 σ3) (fun r15 =>
    some (r15, σ3)))
  else if r7 = 3 then
    bnd ((jmax 9 (r5 + 2))) (fun v17 =>
    bd1 (f_X8_bound v17 0 23 σ3) (fun r19 =>
    some (r19, σ3)))
  else if r7 = 4 then
    ck 56 58 (
    if (jrem (σ3 70 (56 : Int32).toNatClampNeg) 3) = 0 then
      bd1 (f_X8_of x2 2 σ3) (fun r27 =>
      bd1 (f_X8_bound r27 0 23 σ3) (fun r29 =>
      some (r29, σ3)))
    else
      bnd ((r5 / 2)) (fun v23 =>
      bd1 (f_X8_bound v23 0 23 σ3) (fun r25 =>
      some (r25, σ3))))
  else if r7 = 5 then
    bd1 (f_X8_of x1 1 σ3) (fun r32 =>
    bd1 (f_X8_bound r32 0 23 σ3) (fun r34 =>
    some (r34, σ3)))
  else 
    bd1 (f_X8_bound r5 0 23 σ3) (fun r36 =>
    some (r36, σ3)))))
def f_X8_wakes (x1 : Int32) (σ : sg_T) : Option (Int32 × sg_T) :=
  bd1 (f_X8_setter x1 σ) (fun r2 =>
  if r2 = (-1) then
    some ((-1), σ)
  else
    bd2 (f_X8_sets r2 x1 σ) (fun r5 σ6 =>
    some (r5, σ6)))
def f_X8_lateBy (x1 : Int32) (σ : sg_T) : Option (Int32 × sg_T) :=
  bd2 (f_X8_wakes x1 σ) (fun r2 σ3 =>
  if r2 = (-1) then
    some ((jmax 0 0), σ3)
  else
    bd2 (f_X8_wakes x1 σ3) (fun r6 σ7 =>
    bd1 (f_X8_of x1 2 σ7) (fun r9 =>
    some ((jmax 0 (r6 - r9)), σ7))))
def b_X8_told_120 (u1 : Int32) (u2 : Int32) (w3 : Int32) (w4 : Int32) (σ : sg_T) : Option ((Int32 × Int32) ⊕ (Int32 × Int32)) :=
  bd1 (f_X8_many  σ) (fun r23 =>
  if r23 ≤ w4 then
    some (.inr (w3, w4))
  else
    bd1 (f_X8_setter w4 σ) (fun r26 =>
    bnd ((if r26 = u1 then (1 <<< (w4 &&& 31)) else 0) : Int32) (fun v28 =>
    bnd ((w3 ||| v28)) (fun v30 =>
    bnd (w4 + 1) (fun v31 =>
    some (.inl (v30, v31)))))))
def f_X8_told (x1 : Int32) (x2 : Int32) (σ : sg_T) : Option (Int32 × sg_T) :=
  bd1 (f_X8_isIn x2 0 11 σ) (fun r2 =>
  if r2 = 0 then
    some ((-1000), σ)
  else
    if 7 ≤ x2 then
      bd1 (f_X8_isOne x1 σ) (fun r6 =>
      if r6 = 0 then
        some ((-1000), σ)
      else
        if x2 = 7 then
          bd1 (f_X8_of x1 0 σ) (fun r10 =>
          some (r10, σ))
        else if x2 = 8 then
          bd1 (f_X8_setter x1 σ) (fun r13 =>
          some (r13, σ))
        else if x2 = 9 then
          bd2 (f_X8_wakes x1 σ) (fun r16 σ17 =>
          some (r16, σ17))
        else if x2 = 10 then
          bd2 (f_X8_lateBy x1 σ) (fun r20 σ21 =>
          some (r20, σ21))
        else 
          bd2 (itr (fun q => b_X8_told_120 x1 x2 q.1 q.2 σ) lfu (0, 0)) (fun v34 v35 =>
          some (v34, σ)))
    else
      bd1 (f_X8_place x2 x1 σ) (fun r37 =>
      if r37 = (-1) then
        some ((-1000), σ)
      else
        bd1 (f_X8_place x2 x1 σ) (fun r40 =>
        ck r40 58 (
        some ((σ 70 r40.toNatClampNeg), σ)))))
def f_X8_grows (x1 : Int32) (x2 : Int32) (x3 : Int32) (σ : sg_T) : Option (Int32 × sg_T) :=
  bd2 (f_X8_tell 2 x1 x2 σ) (fun r2 σ3 =>
  bd1 (f_X8_bound r2 (-99) 99 σ3) (fun r5 =>
  bd1 (f_X8_of x1 0 σ3) (fun r7 =>
  if r7 = 1 then
    bnd ((if x3 = 0 then r5 else 0) : Int32) (fun v10 =>
    some (v10, σ3))
  else if r7 = 2 then
    some ((-r5), σ3)
  else if r7 = 3 then
    bnd ((if x3 = 0 then r5 else 0) : Int32) (fun v15 =>
    some ((1 + v15), σ3))
  else if r7 = 4 then
    ck 56 58 (
    bnd ((if (jrem (σ3 70 (56 : Int32).toNatClampNeg) 2) = 1 then (-r5) else 0) : Int32) (fun v20 =>
    some (v20, σ3)))
  else if r7 = 5 then
    some (0, σ3)
  else 
    some (r5, σ3))))
def f_X8_asks (x1 : Int32) (x2 : Int32) (x3 : Int32) (σ : sg_T) : Option (Int32 × sg_T) :=
  bd1 (f_X8_isTwo x1 x2 σ) (fun r2 =>
  if r2 = 0 then
    some ((-1000), σ)
  else
    bd1 (f_X8_isIn x3 0 2 σ) (fun r5 =>
    if r5 = 0 then
      some ((-1000), σ)
    else
      if x3 = 0 then
        bd2 (f_X8_sets x1 x2 σ) (fun r15 σ16 =>
        some (r15, σ16))
      else
        bnd ((if x3 = 1 then 1 else 0) : Int32) (fun v9 =>
        bd2 (f_X8_grows x1 x2 v9 σ) (fun r12 σ13 =>
        some (r12, σ13)))))
def f_X8_tires (x1 : Int32) (x2 : Int32) (σ : sg_T) : Option (Int32 × sg_T) :=
  bd2 (f_X8_tell 1 x1 x1 σ) (fun r2 σ3 =>
  bd1 (f_X8_bound r2 (-99) 99 σ3) (fun r5 =>
  if 6 ≤ x2 then
    bnd ((r5 + 0)) (fun v7 =>
    bd1 (f_X8_of x1 0 σ3) (fun r9 =>
    if r9 = 1 then
      bnd ((r5 / 2)) (fun v11 =>
      bd1 (f_X8_bound v11 (-99) 99 σ3) (fun r13 =>
      some (r13, σ3)))
    else if r9 = 2 then
      bd1 (f_X8_bound v7 (-99) 99 σ3) (fun r16 =>
      some (r16, σ3))
    else if r9 = 3 then
      bd1 (f_X8_bound 0 (-99) 99 σ3) (fun r19 =>
      some (r19, σ3))
    else if r9 = 4 then
      bd1 (f_X8_bound v7 (-99) 99 σ3) (fun r22 =>
      bnd ((2 * r22)) (fun v23 =>
      bd1 (f_X8_bound v23 (-99) 99 σ3) (fun r25 =>
      some (r25, σ3))))
    else if r9 = 5 then
      bd1 (f_X8_of x1 3 σ3) (fun r28 =>
      bnd ((if 50 ≤ r28 then 0 else r5) : Int32) (fun v30 =>
      bd1 (f_X8_bound v30 (-99) 99 σ3) (fun r33 =>
      some (r33, σ3))))
    else 
      bd1 (f_X8_bound r5 (-99) 99 σ3) (fun r35 =>
      some (r35, σ3))))
  else
    bd1 (f_X8_of x1 1 σ3) (fun r37 =>
    bnd ((r5 + r37)) (fun v38 =>
    bd1 (f_X8_of x1 0 σ3) (fun r40 =>
    if r40 = 1 then
      bnd ((r5 / 2)) (fun v42 =>
      bd1 (f_X8_bound v42 (-99) 99 σ3) (fun r44 =>
      some (r44, σ3)))
    else if r40 = 2 then
      bd1 (f_X8_bound v38 (-99) 99 σ3) (fun r47 =>
      some (r47, σ3))
    else if r40 = 3 then
      bd1 (f_X8_bound 0 (-99) 99 σ3) (fun r50 =>
      some (r50, σ3))
    else if r40 = 4 then
      bd1 (f_X8_bound v38 (-99) 99 σ3) (fun r53 =>
      bnd ((2 * r53)) (fun v54 =>
      bd1 (f_X8_bound v54 (-99) 99 σ3) (fun r56 =>
      some (r56, σ3))))
    else if r40 = 5 then
      bd1 (f_X8_of x1 3 σ3) (fun r59 =>
      bnd ((if 50 ≤ r59 then 0 else r5) : Int32) (fun v61 =>
      bd1 (f_X8_bound v61 (-99) 99 σ3) (fun r64 =>
      some (r64, σ3))))
    else 
      bd1 (f_X8_bound r5 (-99) 99 σ3) (fun r66 =>
      some (r66, σ3)))))))
def f_X8_woken (x1 : Int32) (x2 : Int32) (σ : sg_T) : Option (Int32 × sg_T) :=
  bd1 (f_X8_isOne x1 σ) (fun r2 =>
  if r2 = 0 then
    some ((-1000), σ)
  else
    bd1 (f_X8_isIn x2 0 23 σ) (fun r5 =>
    if r5 = 0 then
      some ((-1000), σ)
    else
      bd2 (f_X8_tires x1 x2 σ) (fun r8 σ9 =>
      some (r8, σ9))))
def f_X8_feed (x1 : Int32) (σ : sg_T) : Option (Int32 × sg_T) :=
  bd1 (f_X8_isIn x1 0 255 σ) (fun r2 =>
  if r2 = 0 then
    some ((-2), σ)
  else
    if (σ 69 6) = 160 then
      some ((-4), σ)
    else
      ck (σ 69 6) 160 (
      bnd (up σ 74 (σ 69 6).toNatClampNeg x1) (fun σ6 =>
      bnd (up σ6 69 6 ((σ6 69 6) + 1)) (fun σ8 =>
      some ((σ8 69 6), σ8)))))
def f_X8_sortAt (x1 : Int32) (σ : sg_T) : Option (Int32) :=
  if x1 < (σ 69 6) then
    ck x1 160 (
    bd1 (f_X8_isIn (σ 74 x1.toNatClampNeg) 97 122 σ) (fun r4 =>
    if r4 = 0 then
      ck x1 160 (
      bd1 (f_X8_isIn (σ 74 x1.toNatClampNeg) 48 57 σ) (fun r8 =>
      bnd ((if r8 = 0 then 3 else 2) : Int32) (fun v10 =>
      some v10)))
    else
      some 1))
  else
    some 0
def b_X8_next_0   (σ : sg_T) : Option ((sg_T) ⊕ (sg_T)) :=
  if (σ 69 6) ≤ (σ 69 7) then
    some (.inr σ)
  else
    ck (σ 69 7) 160 (
    if (σ 74 (σ 69 7).toNatClampNeg) = 32 then
      bnd (up σ 69 7 ((σ 69 7) + 1)) (fun σ4 =>
      some (.inl σ4))
    else
      ck (σ 69 7) 160 (
      if (σ 74 (σ 69 7).toNatClampNeg) = 10 then
        bnd (up σ 69 7 ((σ 69 7) + 1)) (fun σ8 =>
        some (.inl σ8))
      else
        some (.inr σ)))
def b_X8_next_89   (σ : sg_T) : Option ((sg_T) ⊕ (sg_T)) :=
  if 3 ≤ (σ 69 9) then
    some (.inr σ)
  else
    bd1 (f_X8_sortAt (σ 69 7) σ) (fun r23 =>
    if r23 = (σ 69 9) then
      bnd (up σ 69 7 ((σ 69 7) + 1)) (fun σ25 =>
      some (.inl σ25))
    else
      some (.inr σ))
def f_X8_next  (σ : sg_T) : Option (sg_T) :=
  bd1 (itr (fun q => b_X8_next_0  q) lfu σ) (fun σ11 =>
  bnd (up σ11 69 8 (σ11 69 7)) (fun σ12 =>
  bd1 (f_X8_sortAt (σ12 69 7) σ12) (fun r15 =>
  bnd (up σ12 69 9 r15) (fun σ16 =>
  if (σ16 69 9) ≤ 0 then
    some σ16
  else
    bnd (up σ16 69 7 ((σ16 69 7) + 1)) (fun σ19 =>
    bd1 (itr (fun q => b_X8_next_89  q) lfu σ19) (fun σ28 =>
    some σ28))))))
def b_X8_word_41 (u1 : Int32) (u2 : Int32) (w3 : Int32) (w4 : Int32) (σ : sg_T) : Option ((Int32 × Int32) ⊕ (Int32 × Int32)) :=
  if w3 = 0 then
    some (.inr (w3, w4))
  else
    if 6 ≤ w4 then
      some (.inr (w3, w4))
    else
      ck ((6 * u2) + w4) 72 (
      if (σ 69 7) ≤ ((σ 69 8) + w4) then
        bnd ((if (σ 77 ((6 * u2) + w4).toNatClampNeg) = 0 then 1 else 0) : Int32) (fun v8 =>
        bnd (w4 + 1) (fun v10 =>
        some (.inl (v8, v10))))
      else
        ck ((σ 69 8) + w4) 160 (
        bnd ((if (σ 77 ((6 * u2) + w4).toNatClampNeg) = (σ 74 ((σ 69 8) + w4).toNatClampNeg) then 1 else 0) : Int32) (fun v14 =>
        bnd (w4 + 1) (fun v16 =>
        some (.inl (v14, v16))))))
def b_X8_word_41q2 (u1 : Int32) (u2 : Int32) (w3 : Int32) (w4 : Int32) (σ : sg_T) : Option ((Int32 × Int32) ⊕ (Int32 × Int32)) :=
  if w3 = 0 then
    some (.inr (w3, w4))
  else
    if 6 ≤ w4 then
      some (.inr (w3, w4))
    else
      ck ((6 * u2) + w4) 72 (
      if (σ 69 7) ≤ ((σ 69 8) + w4) then
        bnd ((if (σ 77 ((6 * u2) + w4).toNatClampNeg) = 0 then 1 else 0) : Int32) (fun v34 =>
        bnd (w4 + 1) (fun v36 =>
        some (.inl (v34, v36))))
      else
        ck ((σ 69 8) + w4) 160 (
        bnd ((if (σ 77 ((6 * u2) + w4).toNatClampNeg) = (σ 74 ((σ 69 8) + w4).toNatClampNeg) then 1 else 0) : Int32) (fun v40 =>
        bnd (w4 + 1) (fun v42 =>
        some (.inl (v40, v42))))))
def b_X8_word_4  (w1 : Int32) (w2 : Int32) (σ : sg_T) : Option ((Int32 × Int32) ⊕ (Int32 × Int32)) :=
  if 12 ≤ w2 then
    some (.inr (w1, w2))
  else
    if (σ 69 9) = 1 then
      bnd ((if 6 < ((σ 69 7) - (σ 69 8)) then 0 else 1) : Int32) (fun v27 =>
      bd2 (itr (fun q => b_X8_word_41q2 w1 w2 q.1 q.2 σ) lfu (v27, 0)) (fun v45 v46 =>
      bnd ((if v45 = 0 then w1 else w2) : Int32) (fun v48 =>
      bnd (w2 + 1) (fun v50 =>
      some (.inl (v48, v50))))))
    else
      bd2 (itr (fun q => b_X8_word_41 w1 w2 q.1 q.2 σ) lfu (0, 0)) (fun v19 v20 =>
      bnd ((if v19 = 0 then w1 else w2) : Int32) (fun v22 =>
      bnd (w2 + 1) (fun v24 =>
      some (.inl (v22, v24)))))
def f_X8_word  (σ : sg_T) : Option (Int32) :=
  bd2 (itr (fun q => b_X8_word_4  q.1 q.2 σ) lfu ((-1), 0)) (fun v53 v54 =>
  some v53)
def f_X8_isSign (x1 : Int32) (σ : sg_T) : Option (Int32) :=
  if (σ 69 9) = 3 then
    ck (σ 69 8) 160 (
    bnd ((if (σ 74 (σ 69 8).toNatClampNeg) = x1 then 1 else 0) : Int32) (fun v4 =>
    cz v4 (some v4)))
  else
    some 0
def f_X8_write (x1 : Int32) (σ : sg_T) : Option (sg_T) :=
  ck ((160 * (σ 69 13)) + (σ 69 14)) 960 (
  bnd (up σ 75 ((160 * (σ 69 13)) + (σ 69 14)).toNatClampNeg x1) (fun σ2 =>
  bnd (up σ2 69 14 ((σ2 69 14) + 1)) (fun σ4 =>
  some σ4)))
def f_X8_rank (x1 : Int32) (σ : sg_T) : Option (Int32) :=
  if x1 = 0 then
    some 0
  else
    if x1 = (-20) then
      some 1
    else
      if x1 = (-21) then
        some 2
      else
        if x1 = (-22) then
          some 3
        else
          if x1 = (-23) then
            some 4
          else
            if x1 = (-24) then
              some 4
            else
              if x1 = (-27) then
                some 6
              else
                bnd ((if x1 = (-28) then 7 else 5) : Int32) (fun v9 =>
                some v9)
def f_X8_await (x1 : Int32) (σ : sg_T) : Option (sg_T) :=
  ck (σ 69 17) 160 (
  bnd (up σ 78 (σ 69 17).toNatClampNeg x1) (fun σ2 =>
  bnd (up σ2 69 17 ((σ2 69 17) + 1)) (fun σ4 =>
  some σ4)))
def f_X8_last  (σ : sg_T) : Option (Int32) :=
  if (σ 69 17) = 0 then
    some 0
  else
    ck ((σ 69 17) - 1) 160 (
    bd1 (f_X8_rank (σ 78 ((σ 69 17) - 1).toNatClampNeg) σ) (fun r4 =>
    some r4))
def b_X8_settle_0 (u1 : Int32)  (σ : sg_T) : Option ((sg_T) ⊕ (sg_T)) :=
  bd1 (f_X8_last  σ) (fun r2 =>
  if r2 ≤ 0 then
    some (.inr σ)
  else
    bd1 (f_X8_last  σ) (fun r5 =>
    if r5 < u1 then
      some (.inr σ)
    else
      bnd (up σ 69 17 ((σ 69 17) - 1)) (fun σ7 =>
      ck (σ7 69 17) 160 (
      bd1 (f_X8_write (σ7 78 (σ7 69 17).toNatClampNeg) σ7) (fun σ11 =>
      ck (σ11 69 17) 160 (
      if (σ11 78 (σ11 69 17).toNatClampNeg) = (-22) then
        bnd (up σ11 69 10 ((σ11 69 10) - 1)) (fun σ14 =>
        some (.inl σ14))
      else
        ck (σ11 69 17) 160 (
        bnd ((if (σ11 78 (σ11 69 17).toNatClampNeg) = (-28) then 1 else 0) : Int32) (fun v18 =>
        bnd (up σ11 69 10 ((σ11 69 10) - v18)) (fun σ20 =>
        some (.inl σ20))))))))))
def f_X8_settle (x1 : Int32) (σ : sg_T) : Option (sg_T) :=
  bd1 (itr (fun q => b_X8_settle_0 x1 q) lfu σ) (fun σ23 =>
  some σ23)
def f_X8_between  (σ : sg_T) : Option (Int32) :=
  bd1 (f_X8_word  σ) (fun r2 =>
  if r2 = 9 then
    some (-20)
  else
    if r2 = 10 then
      some (-21)
    else
      bd1 (f_X8_isSign 60 σ) (fun r6 =>
      if r6 = 0 then
        bd1 (f_X8_isSign 61 σ) (fun r9 =>
        if r9 = 0 then
          bd1 (f_X8_isSign 43 σ) (fun r12 =>
          if r12 = 0 then
            bd1 (f_X8_isSign 45 σ) (fun r15 =>
            if r15 = 0 then
              bd1 (f_X8_isSign 42 σ) (fun r18 =>
              bnd ((if r18 = 0 then 0 else (-27)) : Int32) (fun v20 =>
              some v20))
            else
              some (-26))
          else
            some (-25))
        else
          some (-24))
      else
        some (-23)))
def b_X8_numberThere_7  (w1 : Int32) (w2 : Int32) (σ : sg_T) : Option ((Int32 × Int32) ⊕ (Int32 × Int32)) :=
  if (σ 69 7) ≤ w2 then
    some (.inr (w1, w2))
  else
    ck w2 160 (
    bnd ((((10 * w1) + (σ 74 w2.toNatClampNeg)) - 48)) (fun v4 =>
    bnd (w2 + 1) (fun v5 =>
    some (.inl (v4, v5)))))
def f_X8_numberThere  (σ : sg_T) : Option (Int32) :=
  bnd ((σ 69 8)) (fun v1 =>
  bd2 (itr (fun q => b_X8_numberThere_7  q.1 q.2 σ) lfu (0, v1)) (fun v8 v9 =>
  some v8))
def f_X8_begin  (σ : sg_T) : Option (Int32 × sg_T) :=
  bd1 (f_X8_word  σ) (fun r2 =>
  bd1 (f_X8_isIn r2 0 5 σ) (fun r4 =>
  if r4 = 0 then
    if (σ 69 9) = 2 then
      if 4 < ((σ 69 7) - (σ 69 8)) then
        bd1 (f_X8_isSign 40 σ) (fun r45 =>
        if r45 = 0 then
          bd1 (f_X8_isSign 45 σ) (fun r48 =>
          if r48 = 0 then
            if r2 = 11 then
              bd1 (f_X8_last  σ) (fun r58 =>
              bnd ((if 3 < r58 then (-25) else (-22)) : Int32) (fun v60 =>
              if v60 = (-25) then
                some (0, σ)
              else
                if (σ 69 10) = 5 then
                  some (0, σ)
                else
                  bnd (up σ 69 10 ((σ 69 10) + 1)) (fun σ64 =>
                  bd1 (f_X8_await v60 σ64) (fun σ67 =>
                  some (2, σ67)))))
            else
              if ((-25) : Int32) = ((-25) : Int32) then
                some (0, σ)
              else
                if (σ 69 10) = 5 then
                  some (0, σ)
                else
                  bnd (up σ 69 10 ((σ 69 10) + 1)) (fun σ53 =>
                  bd1 (f_X8_await (-25) σ53) (fun σ56 =>
                  some (2, σ56)))
          else
            if ((-28) : Int32) = ((-25) : Int32) then
              some (0, σ)
            else
              if (σ 69 10) = 5 then
                some (0, σ)
              else
                bnd (up σ 69 10 ((σ 69 10) + 1)) (fun σ70 =>
                bd1 (f_X8_await (-28) σ70) (fun σ73 =>
                some (2, σ73))))
        else
          if (0 : Int32) = ((-25) : Int32) then
            some (0, σ)
          else
            if (σ 69 10) = 5 then
              some (0, σ)
            else
              bnd (up σ 69 10 ((σ 69 10) + 1)) (fun σ76 =>
              bd1 (f_X8_await 0 σ76) (fun σ79 =>
              some (2, σ79))))
      else
        bd1 (f_X8_numberThere  σ) (fun r81 =>
        bd1 (f_X8_write r81 σ) (fun σ83 =>
        some (1, σ83)))
    else
      bd1 (f_X8_isSign 40 σ) (fun r8 =>
      if r8 = 0 then
        bd1 (f_X8_isSign 45 σ) (fun r11 =>
        if r11 = 0 then
          if r2 = 11 then
            bd1 (f_X8_last  σ) (fun r21 =>
            bnd ((if 3 < r21 then (-25) else (-22)) : Int32) (fun v23 =>
            if v23 = (-25) then
              some (0, σ)
            else
              if (σ 69 10) = 5 then
                some (0, σ)
              else
                bnd (up σ 69 10 ((σ 69 10) + 1)) (fun σ27 =>
                bd1 (f_X8_await v23 σ27) (fun σ30 =>
                some (2, σ30)))))
          else
            if ((-25) : Int32) = ((-25) : Int32) then
              some (0, σ)
            else
              if (σ 69 10) = 5 then
                some (0, σ)
              else
                bnd (up σ 69 10 ((σ 69 10) + 1)) (fun σ16 =>
                bd1 (f_X8_await (-25) σ16) (fun σ19 =>
                some (2, σ19)))
        else
          if ((-28) : Int32) = ((-25) : Int32) then
            some (0, σ)
          else
            if (σ 69 10) = 5 then
              some (0, σ)
            else
              bnd (up σ 69 10 ((σ 69 10) + 1)) (fun σ33 =>
              bd1 (f_X8_await (-28) σ33) (fun σ36 =>
              some (2, σ36))))
      else
        if (0 : Int32) = ((-25) : Int32) then
          some (0, σ)
        else
          if (σ 69 10) = 5 then
            some (0, σ)
          else
            bnd (up σ 69 10 ((σ 69 10) + 1)) (fun σ39 =>
            bd1 (f_X8_await 0 σ39) (fun σ42 =>
            some (2, σ42))))
  else
    bd1 (f_X8_write ((-10) - r2) σ) (fun σ85 =>
    some (1, σ85))))
def b_X8_isE_10  (w1 : Int32) (σ : sg_T) : Option ((Int32 × sg_T) ⊕ (Int32 × sg_T)) :=
  if w1 = 2 then
    bd1 (f_X8_next  σ) (fun σ8 =>
    bd2 (f_X8_begin  σ8) (fun r10 σ11 =>
    some (.inl (r10, σ11))))
  else
    some (.inr (w1, σ))
def b_X8_isE_43 (u1 : Int32)  (σ : sg_T) : Option ((sg_T) ⊕ ((sg_T) ⊕ (Int32 × sg_T))) :=
  bd1 (f_X8_isSign 41 σ) (fun r21 =>
  if r21 = 0 then
    some (.inr (.inl σ))
  else
    bd1 (f_X8_settle 1 σ) (fun σ24 =>
    if (σ24 69 17) = 0 then
      some (.inr (.inr (0, σ24)))
    else
      bnd (up σ24 69 17 ((σ24 69 17) - 1)) (fun σ26 =>
      bnd (up σ26 69 10 ((σ26 69 10) - 1)) (fun σ28 =>
      bd1 (f_X8_settle 7 σ28) (fun σ31 =>
      bd1 (f_X8_next  σ31) (fun σ33 =>
      some (.inl σ33)))))))
def b_X8_isE_5   (σ : sg_T) : Option ((sg_T) ⊕ (Int32 × sg_T)) :=
  bd2 (f_X8_begin  σ) (fun r4 σ5 =>
  bd2 (itr (fun q => b_X8_isE_10  q.1 q.2) lfu (r4, σ5)) (fun v13 σ14 =>
  if v13 = 0 then
    some (.inr (0, σ14))
  else
    bd1 (f_X8_settle 7 σ14) (fun σ17 =>
    bd1 (f_X8_next  σ17) (fun σ19 =>
    bs (itr (fun q => b_X8_isE_43 v13 q) lfu σ19) (fun q => some (.inr q)) (fun σ35 =>
    bd1 (f_X8_between  σ35) (fun r40 =>
    if r40 = 0 then
      bd1 (f_X8_settle 1 σ35) (fun σ80 =>
      bnd ((if (σ80 69 17) = 0 then 1 else 0) : Int32) (fun v82 =>
      cz v82 (some (.inr (v82, σ80)))))
    else
      bd1 (f_X8_rank r40 σ35) (fun r43 =>
      if r43 = 4 then
        bd1 (f_X8_settle 5 σ35) (fun σ64 =>
        bd1 (f_X8_rank r40 σ64) (fun r66 =>
        if r66 = 4 then
          bd1 (f_X8_last  σ64) (fun r73 =>
          if r73 = 4 then
            some (.inr (0, σ64))
          else
            bd1 (f_X8_await r40 σ64) (fun σ76 =>
            bd1 (f_X8_next  σ76) (fun σ78 =>
            some (.inl σ78))))
        else
          bd1 (f_X8_await r40 σ64) (fun σ69 =>
          bd1 (f_X8_next  σ69) (fun σ71 =>
          some (.inl σ71)))))
      else
        bd1 (f_X8_rank r40 σ35) (fun r46 =>
        bd1 (f_X8_settle r46 σ35) (fun σ48 =>
        bd1 (f_X8_rank r40 σ48) (fun r50 =>
        if r50 = 4 then
          bd1 (f_X8_last  σ48) (fun r57 =>
          if r57 = 4 then
            some (.inr (0, σ48))
          else
            bd1 (f_X8_await r40 σ48) (fun σ60 =>
            bd1 (f_X8_next  σ60) (fun σ62 =>
            some (.inl σ62))))
        else
          bd1 (f_X8_await r40 σ48) (fun σ53 =>
          bd1 (f_X8_next  σ53) (fun σ55 =>
          some (.inl σ55)))))))))))))
def f_X8_isE  (σ : sg_T) : Option (Int32 × sg_T) :=
  bnd (up σ 69 17 0) (fun σ1 =>
  itr (fun q => b_X8_isE_5  q) lfu σ1)
def b_X8_isText_6  (w1 : Int32) (σ : sg_T) : Option ((Int32 × sg_T) ⊕ ((Int32 × sg_T) ⊕ (Int32 × sg_T))) :=
  if 3 ≤ w1 then
    some (.inr (.inl (w1, σ)))
  else
    bd1 (f_X8_word  σ) (fun r5 =>
    if r5 = (6 + w1) then
      bd1 (f_X8_next  σ) (fun σ8 =>
      bd2 (f_X8_isE  σ8) (fun r10 σ11 =>
      if r10 = 0 then
        some (.inr (.inr (0, σ11)))
      else
        bd1 (f_X8_isSign 59 σ11) (fun r14 =>
        if r14 = 0 then
          some (.inr (.inr (0, σ11)))
        else
          ck ((3 * (σ11 69 13)) + w1) 18 (
          bnd (up σ11 76 ((3 * (σ11 69 13)) + w1).toNatClampNeg (σ11 69 14)) (fun σ17 =>
          bd1 (f_X8_next  σ17) (fun σ20 =>
          bnd (w1 + 1) (fun v21 =>
          some (.inl (v21, σ20)))))))))
    else
      some (.inr (.inr (0, σ))))
def f_X8_isText  (σ : sg_T) : Option (Int32 × sg_T) :=
  bd1 (f_X8_next  σ) (fun σ2 =>
  bs (itr (fun q => b_X8_isText_6  q.1 q.2) lfu (0, σ2)) (fun q => some q) (fun q => (fun v24 σ25 =>
  bnd ((if (σ25 69 9) = 0 then 1 else 0) : Int32) (fun v30 =>
  cz v30 (some (v30, σ25)))) q.1 q.2))
def f_X8_text  (σ : sg_T) : Option (Int32 × sg_T) :=
  if (σ 69 13) = 6 then
    some ((-4), σ)
  else
    bnd (up σ 69 7 0) (fun σ2 =>
    bnd (up σ2 69 10 0) (fun σ4 =>
    bnd (up σ4 69 14 0) (fun σ6 =>
    bd2 (f_X8_isText  σ6) (fun r9 σ10 =>
    bnd (up σ10 69 6 0) (fun σ11 =>
    if r9 = 0 then
      some (((-100) - (σ11 69 8)), σ11)
    else
      bnd (up σ11 69 13 ((σ11 69 13) + 1)) (fun σ14 =>
      some (((σ14 69 13) - 1), σ14)))))))
def f_X8_force (x1 : Int32) (σ : sg_T) : Option (Int32 × sg_T) :=
  bd1 (f_X8_isIn x1 0 ((σ 69 13) - 1) σ) (fun r2 =>
  if r2 = 0 then
    some ((-2), σ)
  else
    ck 57 58 (
    bnd ((σ 70 (57 : Int32).toNatClampNeg)) (fun v5 =>
    ck 57 58 (
    bnd (up σ 70 (57 : Int32).toNatClampNeg x1) (fun σ7 =>
    some (v5, σ7))))))
def b_X8_goDay_4  (w2 : Int32) (σ : sg_T) : Option ((Int32 × sg_T) ⊕ (Int32 × sg_T)) :=
  bd1 (f_X8_many  σ) (fun r2 =>
  if r2 ≤ w2 then
    some (.inr (w2, σ))
  else
    bd1 (f_X8_setter w2 σ) (fun r5 =>
    ck w2 5 (
    bnd (up σ 80 w2.toNatClampNeg r5) (fun σ7 =>
    bd2 (f_X8_lateBy w2 σ7) (fun r10 σ11 =>
    ck w2 5 (
    bnd (up σ11 81 w2.toNatClampNeg r10) (fun σ13 =>
    ck w2 5 (
    if (σ13 80 w2.toNatClampNeg) = (-1) then
      ck w2 5 (
      bnd (up σ13 82 w2.toNatClampNeg 0) (fun σ47 =>
      ck w2 5 (
      if (σ47 80 w2.toNatClampNeg) = (-1) then
        ck w2 5 (
        bnd (up σ47 83 w2.toNatClampNeg 0) (fun σ65 =>
        bnd (w2 + 1) (fun v67 =>
        some (.inl (v67, σ65)))))
      else
        ck w2 5 (
        ck w2 5 (
        bnd ((if (σ47 81 w2.toNatClampNeg) ≤ 0 then 0 else 1) : Int32) (fun v54 =>
        bd2 (f_X8_grows (σ47 80 w2.toNatClampNeg) w2 v54 σ47) (fun r57 σ58 =>
        ck w2 5 (
        bnd (up σ58 83 w2.toNatClampNeg r57) (fun σ60 =>
        bnd (w2 + 1) (fun v62 =>
        some (.inl (v62, σ60))))))))))))
    else
      bd2 (f_X8_wakes w2 σ13) (fun r18 σ19 =>
      bd2 (f_X8_tires w2 r18 σ19) (fun r21 σ22 =>
      ck w2 5 (
      bnd (up σ22 82 w2.toNatClampNeg r21) (fun σ24 =>
      ck w2 5 (
      if (σ24 80 w2.toNatClampNeg) = (-1) then
        ck w2 5 (
        bnd (up σ24 83 w2.toNatClampNeg 0) (fun σ42 =>
        bnd (w2 + 1) (fun v44 =>
        some (.inl (v44, σ42)))))
      else
        ck w2 5 (
        ck w2 5 (
        bnd ((if (σ24 81 w2.toNatClampNeg) ≤ 0 then 0 else 1) : Int32) (fun v31 =>
        bd2 (f_X8_grows (σ24 80 w2.toNatClampNeg) w2 v31 σ24) (fun r34 σ35 =>
        ck w2 5 (
        bnd (up σ35 83 w2.toNatClampNeg r34) (fun σ37 =>
        bnd (w2 + 1) (fun v39 =>
        some (.inl (v39, σ37))))))))))))))))))))))
def b_X8_goDay_117  (w1 : Int32) (w2 : Int32) (σ : sg_T) : Option ((Int32 × Int32 × sg_T) ⊕ (Int32 × Int32 × sg_T)) :=
  bd1 (f_X8_many  σ) (fun r73 =>
  if r73 ≤ w2 then
    some (.inr (w1, w2, σ))
  else
    ck w2 5 (
    if (σ 80 w2.toNatClampNeg) = (-1) then
      bd1 (f_X8_of w2 3 σ) (fun r106 =>
      bd1 (f_X8_change w2 3 (jmax 0 (r106 - 10)) σ) (fun σ108 =>
      bd1 (f_X8_of w2 4 σ108) (fun r110 =>
      bd1 (f_X8_change w2 4 (jmin 99 (r110 + 1)) σ108) (fun σ112 =>
      bnd (w2 + 1) (fun v113 =>
      some (.inl (w1, v113, σ112)))))))
    else
      bd1 (f_X8_of w2 3 σ) (fun r78 =>
      ck w2 5 (
      bd1 (f_X8_bound (r78 + (σ 82 w2.toNatClampNeg)) 0 99 σ) (fun r81 =>
      bd1 (f_X8_change w2 3 r81 σ) (fun σ83 =>
      bd1 (f_X8_of w2 5 σ83) (fun r85 =>
      ck w2 5 (
      bd1 (f_X8_change w2 5 (jmin 9999 (r85 + (σ83 81 w2.toNatClampNeg))) σ83) (fun σ88 =>
      ck w2 5 (
      ck w2 5 (
      bd1 (f_X8_of (σ88 80 w2.toNatClampNeg) (6 + w2) σ88) (fun r92 =>
      ck w2 5 (
      bd1 (f_X8_bound (r92 + (σ88 83 w2.toNatClampNeg)) 0 9 σ88) (fun r95 =>
      bd1 (f_X8_change (σ88 80 w2.toNatClampNeg) (6 + w2) r95 σ88) (fun σ97 =>
      ck w2 5 (
      bnd ((if (σ97 81 w2.toNatClampNeg) ≤ 0 then 0 else (1 <<< (w2 &&& 31))) : Int32) (fun v100 =>
      bnd ((w1 ||| v100)) (fun v102 =>
      bnd (w2 + 1) (fun v103 =>
      some (.inl (v102, v103, σ97)))))))))))))))))))))
def f_X8_goDay  (σ : sg_T) : Option (Int32 × sg_T) :=
  bd2 (itr (fun q => b_X8_goDay_4  q.1 q.2) lfu (0, σ)) (fun v70 σ71 =>
  bd3 (itr (fun q => b_X8_goDay_117  q.1 q.2.1 q.2.2) lfu (0, 0, σ71)) (fun v116 v117 σ118 =>
  ck 56 58 (
  ck 56 58 (
  bnd (up σ118 70 (56 : Int32).toNatClampNeg ((σ118 70 (56 : Int32).toNatClampNeg) + 1)) (fun σ121 =>
  some (v116, σ121))))))
def b_X8_goDays_2 (u1 : Int32) (w2 : Int32) (σ : sg_T) : Option ((Int32 × sg_T) ⊕ (Int32 × sg_T)) :=
  if u1 ≤ w2 then
    some (.inr (w2, σ))
  else
    bd2 (f_X8_goDay  σ) (fun r3 σ4 =>
    bnd (w2 + 1) (fun v5 =>
    some (.inl (v5, σ4))))
def f_X8_goDays (x1 : Int32) (σ : sg_T) : Option (sg_T) :=
  bd2 (itr (fun q => b_X8_goDays_2 x1 q.1 q.2) lfu (0, σ)) (fun v8 σ9 =>
  some σ9)
def b_X8_all_4 (u1 : Int32) (w2 : Int32) (w3 : Int32) (σ : sg_T) : Option ((Int32 × Int32) ⊕ (Int32 × Int32)) :=
  bd1 (f_X8_many  σ) (fun r2 =>
  if r2 ≤ w3 then
    some (.inr (w2, w3))
  else
    bd1 (f_X8_of w3 u1 σ) (fun r5 =>
    bnd ((w2 + r5)) (fun v6 =>
    bnd (w3 + 1) (fun v7 =>
    some (.inl (v6, v7))))))
def f_X8_all (x1 : Int32) (σ : sg_T) : Option (Int32) :=
  bd2 (itr (fun q => b_X8_all_4 x1 q.1 q.2 σ) lfu (0, 0)) (fun v10 v11 =>
  some v10)
def b_X8_lates_4  (w1 : Int32) (w2 : Int32) (σ : sg_T) : Option ((Int32 × Int32 × sg_T) ⊕ (Int32 × Int32 × sg_T)) :=
  bd1 (f_X8_many  σ) (fun r2 =>
  if r2 ≤ w2 then
    some (.inr (w1, w2, σ))
  else
    bd2 (f_X8_lateBy w2 σ) (fun r5 σ6 =>
    bnd ((if r5 ≤ 0 then 0 else 1) : Int32) (fun v8 =>
    bnd ((w1 + v8)) (fun v10 =>
    bnd (w2 + 1) (fun v11 =>
    some (.inl (v10, v11, σ6)))))))
def f_X8_lates  (σ : sg_T) : Option (Int32 × sg_T) :=
  bd3 (itr (fun q => b_X8_lates_4  q.1 q.2.1 q.2.2) lfu (0, 0, σ)) (fun v14 v15 σ16 =>
  some (v14, σ16))
def f_X8_day  (σ : sg_T) : Option (Int32 × sg_T) :=
  ck 56 58 (
  if (σ 70 (56 : Int32).toNatClampNeg) = 999 then
    some ((-3), σ)
  else
    bd2 (f_X8_goDay  σ) (fun r4 σ5 =>
    some (r4, σ5)))
def f_X8_run (x1 : Int32) (x2 : Int32) (x3 : Int32) (σ : sg_T) : Option (Int32 × sg_T) :=
  bd1 (f_X8_isOne x1 σ) (fun r2 =>
  if r2 = 0 then
    some ((-2), σ)
  else
    bd1 (f_X8_isIn x2 0 40 σ) (fun r5 =>
    if r5 = 0 then
      some ((-2), σ)
    else
      bd1 (f_X8_isIn x3 0 4 σ) (fun r8 =>
      if r8 = 0 then
        some ((-2), σ)
      else
        bd1 (f_X8_keep 72 σ) (fun σ11 =>
        bd1 (f_X8_goDays x2 σ11) (fun σ13 =>
        if x3 = 0 then
          bd2 (f_X8_wakes x1 σ13) (fun r36 σ37 =>
          bd1 (f_X8_lay 72 σ37) (fun σ39 =>
          some (r36, σ39)))
        else
          if x3 = 1 then
            bd1 (f_X8_of x1 3 σ13) (fun r32 =>
            bd1 (f_X8_lay 72 σ13) (fun σ34 =>
            some (r32, σ34)))
          else
            if x3 = 2 then
              bd1 (f_X8_of x1 5 σ13) (fun r28 =>
              bd1 (f_X8_lay 72 σ13) (fun σ30 =>
              some (r28, σ30)))
            else
              if x3 = 3 then
                bd2 (f_X8_lates  σ13) (fun r23 σ24 =>
                bd1 (f_X8_lay 72 σ24) (fun σ26 =>
                some (r23, σ26)))
              else
                bd1 (f_X8_all 4 σ13) (fun r19 =>
                bd1 (f_X8_lay 72 σ13) (fun σ21 =>
                some (r19, σ21))))))))
def b_X8_round_24 (u1 : Int32) (w2 : Int32) (w3 : Int32) (w4 : Int32) (σ : sg_T) : Option ((Int32 × Int32 × Int32) ⊕ (Int32 × Int32 × Int32)) :=
  if w3 = (-1) then
    some (.inr (w2, w3, w4))
  else
    if ((w2 >>> (w3 &&& 31)) &&& 1) = 0 then
      bnd ((w2 ||| (1 <<< (w3 &&& 31)))) (fun v9 =>
      bd1 (f_X8_setter w3 σ) (fun r11 =>
      bnd (w4 + 1) (fun v12 =>
      some (.inl (v9, r11, v12)))))
    else
      some (.inr (w2, w3, w4))
def f_X8_round (x1 : Int32) (σ : sg_T) : Option (Int32) :=
  bd1 (f_X8_isOne x1 σ) (fun r2 =>
  if r2 = 0 then
    some (-2)
  else
    bnd ((1 <<< (x1 &&& 31))) (fun v4 =>
    bd1 (f_X8_setter x1 σ) (fun r6 =>
    bd3 (itr (fun q => b_X8_round_24 x1 q.1 q.2.1 q.2.2 σ) lfu (v4, r6, 1)) (fun v15 v16 v17 =>
    bnd ((if v16 = (-1) then (-1) else v17) : Int32) (fun v19 =>
    some v19)))))
def b_X8_arrange_39 (rec : Int32 → Int32 → Int32 → Int32 → sg_T → Option sg_T) (u1 : Int32) (u2 : Int32) (u3 : Int32) (u4 : Int32) (w5 : Int32) (σ : sg_T) : Option ((Int32 × sg_T) ⊕ (Int32 × sg_T)) :=
  bd1 (f_X8_many  σ) (fun r5 =>
  if r5 ≤ w5 then
    some (.inr (w5, σ))
  else
    if w5 = u1 then
      bnd (w5 + 1) (fun v8 =>
      some (.inl (v8, σ)))
    else
      if ((u2 >>> (w5 &&& 31)) &&& 1) = 0 then
        bd2 (f_X8_sets u1 w5 σ) (fun r14 σ15 =>
        bd1 (f_X8_of w5 2 σ15) (fun r17 =>
        bd1 (rec (u1 + 1) (u2 ||| (1 <<< (w5 &&& 31))) (u3 + (jmax 0 (r14 - r17))) (((10 * u4) + w5) + 1) σ15) (fun σ19 =>
        bnd (w5 + 1) (fun v20 =>
        some (.inl (v20, σ19))))))
      else
        bnd (w5 + 1) (fun v11 =>
        some (.inl (v11, σ))))
def f_X8_arrange (rec : Int32 → Int32 → Int32 → Int32 → sg_T → Option sg_T) (x1 : Int32) (x2 : Int32) (x3 : Int32) (x4 : Int32) (σ : sg_T) : Option (sg_T) :=
  bd1 (f_X8_many  σ) (fun r2 =>
  if x1 = r2 then
    if (σ 69 23) = (-1) then
      bnd (up σ 69 23 x3) (fun σ26 =>
      bnd (up σ26 69 24 x4) (fun σ28 =>
      some σ28))
    else
      if (σ 69 23) ≤ x3 then
        some σ
      else
        bnd (up σ 69 23 x3) (fun σ31 =>
        bnd (up σ31 69 24 x4) (fun σ33 =>
        some σ33))
  else
    bd2 (itr (fun q => b_X8_arrange_39 rec x1 x2 x3 x4 q.1 q.2) lfu (0, σ)) (fun v23 σ24 =>
    some σ24))
def g_arrange : Nat → Int32 → Int32 → Int32 → Int32 → sg_T → Option sg_T
  | 0, _, _, _, _, _ => none
  | n + 1, x1, x2, x3, x4, σ => f_X8_arrange (g_arrange n) x1 x2 x3 x4 σ
def f_X8_others (x1 : Int32) (σ : sg_T) : Option (Int32 × sg_T) :=
  bd1 (f_X8_isIn x1 0 1 σ) (fun r2 =>
  if r2 = 0 then
    some ((-2), σ)
  else
    bnd (up σ 69 23 (-1)) (fun σ4 =>
    bnd (up σ4 69 24 (-1)) (fun σ6 =>
    bd1 (f_X8_many  σ6) (fun r9 =>
    if r9 ≤ 1 then
      if x1 = 0 then
        some ((σ6 69 24), σ6)
      else
        some ((σ6 69 23), σ6)
    else
      bd1 (g_arrange rfu 0 0 0 0 σ6) (fun σ13 =>
      if x1 = 0 then
        some ((σ13 69 24), σ13)
      else
        some ((σ13 69 23), σ13))))))
def f_X8_lateBehind (x1 : Int32) (σ : sg_T) : Option (Int32 × sg_T) :=
  bd1 (f_X8_keep 72 σ) (fun σ2 =>
  bd1 (f_X8_goDays x1 σ2) (fun σ4 =>
  bd1 (f_X8_all 5 σ4) (fun r6 =>
  bd1 (f_X8_lay 72 σ4) (fun σ8 =>
  some (r6, σ8)))))
def b_X8_duty_48 (u1 : Int32) (u2 : Int32) (u3 : Int32) (u4 : Int32) (w5 : Int32) (w6 : Int32) (w7 : Int32) (σ : sg_T) : Option ((Int32 × Int32 × Int32 × sg_T) ⊕ (Int32 × Int32 × Int32 × sg_T)) :=
  if 24 ≤ w7 then
    some (.inr (w5, w6, w7, σ))
  else
    bd1 (f_X8_change u1 2 w7 σ) (fun σ14 =>
    bd2 (f_X8_lateBehind u2 σ14) (fun r16 σ17 =>
    bnd ((if w6 ≤ r16 then w5 else w7) : Int32) (fun v19 =>
    bnd ((jmin r16 w6)) (fun v21 =>
    bnd (w7 + 1) (fun v22 =>
    some (.inl (v19, v21, v22, σ17)))))))
def f_X8_duty (x1 : Int32) (x2 : Int32) (x3 : Int32) (σ : sg_T) : Option (Int32 × sg_T) :=
  bd1 (f_X8_isOne x1 σ) (fun r2 =>
  if r2 = 0 then
    some ((-2), σ)
  else
    bd1 (f_X8_isIn x2 0 20 σ) (fun r5 =>
    if r5 = 0 then
      some ((-2), σ)
    else
      bd1 (f_X8_isIn x3 0 1 σ) (fun r8 =>
      if r8 = 0 then
        some ((-2), σ)
      else
        bd1 (f_X8_of x1 2 σ) (fun r11 =>
        bd4 (itr (fun q => b_X8_duty_48 x1 x2 x3 r11 q.1 q.2.1 q.2.2.1 q.2.2.2) lfu (0, 2147483647, 0, σ)) (fun v25 v26 v27 σ28 =>
        bd1 (f_X8_change x1 2 r11 σ28) (fun σ30 =>
        bnd ((if x3 = 0 then v25 else v26) : Int32) (fun v32 =>
        some (v32, σ30))))))))
def b_X8_fonder_43 (u1 : Int32) (u2 : Int32) (u3 : Int32) (w4 : Int32) (w5 : Int32) (w6 : Int32) (σ : sg_T) : Option ((Int32 × Int32 × Int32 × sg_T) ⊕ (Int32 × Int32 × Int32 × sg_T)) :=
  bd1 (f_X8_many  σ) (fun r14 =>
  if r14 ≤ w6 then
    some (.inr (w4, w5, w6, σ))
  else
    if w6 = u1 then
      bnd (w6 + 1) (fun v17 =>
      some (.inl (w4, w5, v17, σ)))
    else
      bd1 (f_X8_of u1 (6 + w6) σ) (fun r20 =>
      bd1 (f_X8_change u1 (6 + w6) 9 σ) (fun σ22 =>
      bd2 (f_X8_lateBehind u2 σ22) (fun r24 σ25 =>
      bd1 (f_X8_change u1 (6 + w6) r20 σ25) (fun σ27 =>
      bnd ((if w5 ≤ r24 then w4 else w6) : Int32) (fun v29 =>
      bnd ((jmin r24 w5)) (fun v31 =>
      bnd (w6 + 1) (fun v32 =>
      some (.inl (v29, v31, v32, σ27))))))))))
def f_X8_fonder (x1 : Int32) (x2 : Int32) (x3 : Int32) (σ : sg_T) : Option (Int32 × sg_T) :=
  bd1 (f_X8_isOne x1 σ) (fun r2 =>
  if r2 = 0 then
    some ((-2), σ)
  else
    bd1 (f_X8_isIn x2 0 20 σ) (fun r5 =>
    if r5 = 0 then
      some ((-2), σ)
    else
      bd1 (f_X8_isIn x3 0 1 σ) (fun r8 =>
      if r8 = 0 then
        some ((-2), σ)
      else
        bd2 (f_X8_lateBehind x2 σ) (fun r11 σ12 =>
        bd4 (itr (fun q => b_X8_fonder_43 x1 x2 x3 q.1 q.2.1 q.2.2.1 q.2.2.2) lfu ((-1), r11, 0, σ12)) (fun v35 v36 v37 σ38 =>
        bnd ((if x3 = 0 then v35 else v36) : Int32) (fun v40 =>
        some (v40, σ38)))))))
def f_X8_gcd (rec : Int64 → Int64 → sg_T → Option Int64) (x1 : Int64) (x2 : Int64) (σ : sg_T) : Option (Int64) :=
  if (lg_cmp x2 0) = 0 then
    some x1
  else
    dzl x2 (
    bd1 (rec x2 (jreml x1 x2) σ) (fun r4 =>
    some r4))
def g_gcd : Nat → Int64 → Int64 → sg_T → Option Int64
  | 0, _, _, _ => none
  | n + 1, x1, x2, σ => f_X8_gcd (g_gcd n) x1 x2 σ
def f_X8_mean (x1 : Int32) (σ : sg_T) : Option (Int64) :=
  bd1 (f_X8_isIn x1 0 1 σ) (fun r2 =>
  if r2 = 0 then
    some (-4611686018427387904)
  else
    bd1 (f_X8_many  σ) (fun r5 =>
    if r5 = 0 then
      some (-4611686018427387904)
    else
      bd1 (f_X8_many  σ) (fun r8 =>
      bd1 (f_X8_all 5 σ) (fun r10 =>
      bd1 (g_gcd rfu ((r8).toInt64) ((r10).toInt64) σ) (fun r12 =>
      if x1 = 0 then
        bd1 (f_X8_all 5 σ) (fun r18 =>
        dzl r12 (
        some (((r18).toInt64) / r12)))
      else
        bd1 (f_X8_many  σ) (fun r15 =>
        dzl r12 (
        some (((r15).toInt64) / r12))))))))
def f_X8_isSheet (x1 : Int32) (σ : sg_T) : Option (Int32) :=
  bd1 (f_X8_isIn x1 0 3 σ) (fun r2 =>
  cz r2 (some r2))
def b_X8_sheet_68 (u1 : Int32) (u2 : Int32) (u3 : Int32) (w4 : Int32) (σ : sg_T) : Option ((Int32 × sg_T) ⊕ (Int32 × sg_T)) :=
  if 40 ≤ w4 then
    some (.inr (w4, σ))
  else
    ck ((40 * u1) + w4) 160 (
    bnd (up σ 86 ((40 * u1) + w4).toNatClampNeg 0) (fun σ20 =>
    bnd (w4 + 1) (fun v22 =>
    some (.inl (v22, σ20)))))
def b_X8_sheet_68q2 (u1 : Int32) (u2 : Int32) (u3 : Int32) (w4 : Int32) (σ : sg_T) : Option ((Int32 × sg_T) ⊕ (Int32 × sg_T)) :=
  if 40 ≤ w4 then
    some (.inr (w4, σ))
  else
    ck ((40 * u1) + w4) 160 (
    bnd (up σ 86 ((40 * u1) + w4).toNatClampNeg 0) (fun σ39 =>
    bnd (w4 + 1) (fun v41 =>
    some (.inl (v41, σ39)))))
def b_X8_sheet_68q3 (u1 : Int32) (u2 : Int32) (u3 : Int32) (w4 : Int32) (σ : sg_T) : Option ((Int32 × sg_T) ⊕ (Int32 × sg_T)) :=
  if 40 ≤ w4 then
    some (.inr (w4, σ))
  else
    ck ((40 * u1) + w4) 160 (
    bnd (up σ 86 ((40 * u1) + w4).toNatClampNeg 0) (fun σ59 =>
    bnd (w4 + 1) (fun v61 =>
    some (.inl (v61, σ59)))))
def b_X8_sheet_68q4 (u1 : Int32) (u2 : Int32) (u3 : Int32) (w4 : Int32) (σ : sg_T) : Option ((Int32 × sg_T) ⊕ (Int32 × sg_T)) :=
  if 40 ≤ w4 then
    some (.inr (w4, σ))
  else
    ck ((40 * u1) + w4) 160 (
    bnd (up σ 86 ((40 * u1) + w4).toNatClampNeg 0) (fun σ78 =>
    bnd (w4 + 1) (fun v80 =>
    some (.inl (v80, σ78)))))
def f_X8_sheet (x1 : Int32) (x2 : Int32) (x3 : Int32) (σ : sg_T) : Option (Int32 × sg_T) :=
  bd1 (f_X8_isSheet x1 σ) (fun r2 =>
  if r2 = 0 then
    some ((-2), σ)
  else
    bd1 (f_X8_isIn x2 (-1) 2 σ) (fun r5 =>
    if r5 = 0 then
      some ((-2), σ)
    else
      if x2 = (-1) then
        if x2 = (-1) then
          ck x1 4 (
          bnd (up σ 84 x1.toNatClampNeg x2) (fun σ10 =>
          bnd ((if x2 = (-1) then 0 else x3) : Int32) (fun v13 =>
          ck x1 4 (
          bnd (up σ10 85 x1.toNatClampNeg v13) (fun σ16 =>
          bd2 (itr (fun q => b_X8_sheet_68 x1 x2 x3 q.1 q.2) lfu (0, σ16)) (fun v25 σ26 =>
          some (1, σ26)))))))
        else
          if 0 ≤ x3 then
            ck x1 4 (
            bnd (up σ 84 x1.toNatClampNeg x2) (fun σ29 =>
            bnd ((if x2 = (-1) then 0 else x3) : Int32) (fun v32 =>
            ck x1 4 (
            bnd (up σ29 85 x1.toNatClampNeg v32) (fun σ35 =>
            bd2 (itr (fun q => b_X8_sheet_68q2 x1 x2 x3 q.1 q.2) lfu (0, σ35)) (fun v44 σ45 =>
            some (1, σ45)))))))
          else
            some ((-14), σ)
      else
        if x3 ≤ 40 then
          if x2 = (-1) then
            ck x1 4 (
            bnd (up σ 84 x1.toNatClampNeg x2) (fun σ49 =>
            bnd ((if x2 = (-1) then 0 else x3) : Int32) (fun v52 =>
            ck x1 4 (
            bnd (up σ49 85 x1.toNatClampNeg v52) (fun σ55 =>
            bd2 (itr (fun q => b_X8_sheet_68q3 x1 x2 x3 q.1 q.2) lfu (0, σ55)) (fun v64 σ65 =>
            some (1, σ65)))))))
          else
            if 0 ≤ x3 then
              ck x1 4 (
              bnd (up σ 84 x1.toNatClampNeg x2) (fun σ68 =>
              bnd ((if x2 = (-1) then 0 else x3) : Int32) (fun v71 =>
              ck x1 4 (
              bnd (up σ68 85 x1.toNatClampNeg v71) (fun σ74 =>
              bd2 (itr (fun q => b_X8_sheet_68q4 x1 x2 x3 q.1 q.2) lfu (0, σ74)) (fun v83 σ84 =>
              some (1, σ84)))))))
            else
              some ((-14), σ)
        else
          some ((-2), σ)))
def f_X8_cell (x1 : Int32) (x2 : Int32) (x3 : Int32) (σ : sg_T) : Option (Int32 × sg_T) :=
  bd1 (f_X8_isSheet x1 σ) (fun r2 =>
  if r2 = 0 then
    some ((-2), σ)
  else
    ck x1 4 (
    if (σ 84 x1.toNatClampNeg) = (-1) then
      some ((-11), σ)
    else
      ck x1 4 (
      bd1 (f_X8_isIn x2 0 ((σ 85 x1.toNatClampNeg) - 1) σ) (fun r8 =>
      if r8 = 0 then
        some ((-12), σ)
      else
        ck x1 4 (
        if (σ 84 x1.toNatClampNeg) = 0 then
          ck ((40 * x1) + x2) 160 (
          bnd (up σ 86 ((40 * x1) + x2).toNatClampNeg ((x3).toInt8.toInt32)) (fun σ21 =>
          some (1, σ21)))
        else
          ck x1 4 (
          if (σ 84 x1.toNatClampNeg) = 1 then
            ck ((40 * x1) + x2) 160 (
            bnd (up σ 86 ((40 * x1) + x2).toNatClampNeg ((x3).toInt16.toInt32)) (fun σ18 =>
            some (1, σ18)))
          else
            ck ((40 * x1) + x2) 160 (
            bnd (up σ 86 ((40 * x1) + x2).toNatClampNeg x3) (fun σ15 =>
            some (1, σ15)))))))))
def b_X8_copy_105 (u1 : Int32) (u2 : Int32) (u3 : Int32) (u4 : Int32) (u5 : Int32) (w6 : Int32) (σ : sg_T) : Option ((Int32 × sg_T) ⊕ (Int32 × sg_T)) :=
  if u5 ≤ w6 then
    some (.inr (w6, σ))
  else
    ck (((40 * u1) + u2) + w6) 160 (
    ck w6 40 (
    bnd (up σ 87 w6.toNatClampNeg (σ 86 (((40 * u1) + u2) + w6).toNatClampNeg)) (fun σ24 =>
    bnd (w6 + 1) (fun v26 =>
    some (.inl (v26, σ24))))))
def b_X8_copy_142 (u1 : Int32) (u2 : Int32) (u3 : Int32) (u4 : Int32) (u5 : Int32) (w6 : Int32) (σ : sg_T) : Option ((Int32 × sg_T) ⊕ (Int32 × sg_T)) :=
  if u5 ≤ w6 then
    some (.inr (w6, σ))
  else
    ck w6 40 (
    ck (((40 * u3) + u4) + w6) 160 (
    bnd (up σ 86 (((40 * u3) + u4) + w6).toNatClampNeg (σ 87 w6.toNatClampNeg)) (fun σ34 =>
    bnd (w6 + 1) (fun v36 =>
    some (.inl (v36, σ34))))))
def f_X8_copy (x1 : Int32) (x2 : Int32) (x3 : Int32) (x4 : Int32) (x5 : Int32) (σ : sg_T) : Option (Int32 × sg_T) :=
  bd1 (f_X8_isSheet x1 σ) (fun r2 =>
  if r2 = 0 then
    some ((-2), σ)
  else
    bd1 (f_X8_isSheet x3 σ) (fun r5 =>
    if r5 = 0 then
      some ((-2), σ)
    else
      ck x1 4 (
      if (σ 84 x1.toNatClampNeg) = (-1) then
        some ((-11), σ)
      else
        ck x3 4 (
        if (σ 84 x3.toNatClampNeg) = (-1) then
          some ((-11), σ)
        else
          ck x1 4 (
          ck x3 4 (
          if (σ 84 x1.toNatClampNeg) = (σ 84 x3.toNatClampNeg) then
            if x5 < 0 then
              some ((-12), σ)
            else
              if x2 < 0 then
                some ((-12), σ)
              else
                if x4 < 0 then
                  some ((-12), σ)
                else
                  ck x1 4 (
                  if ((σ 85 x1.toNatClampNeg) - x2) < x5 then
                    some ((-12), σ)
                  else
                    ck x3 4 (
                    if x5 ≤ ((σ 85 x3.toNatClampNeg) - x4) then
                      bd2 (itr (fun q => b_X8_copy_105 x1 x2 x3 x4 x5 q.1 q.2) lfu (0, σ)) (fun v29 σ30 =>
                      bd2 (itr (fun q => b_X8_copy_142 x1 x2 x3 x4 x5 q.1 q.2) lfu (0, σ30)) (fun v39 σ40 =>
                      some (x5, σ40)))
                    else
                      some ((-12), σ)))
          else
            some ((-13), σ)))))))
def b_X8_court_61 (u1 : Int32) (u2 : Int32) (u3 : Int32) (u4 : Int32) (w5 : Int32) (w6 : Int32) (σ : sg_T) : Option ((Int32 × Int32 × sg_T) ⊕ ((Int32 × Int32 × sg_T) ⊕ (Int32 × sg_T))) :=
  if u4 ≤ w6 then
    some (.inr (.inl (w5, w6, σ)))
  else
    bnd ((u3 + (3 * w6))) (fun v15 =>
    if u3 < 0 then
      some (.inr (.inr ((-12), σ)))
    else
      ck u1 4 (
      if v15 ≤ ((σ 85 u1.toNatClampNeg) - 3) then
        bnd (((40 * u1) + v15)) (fun v19 =>
        ck v19 160 (
        ck (v19 + 1) 160 (
        ck (v19 + 2) 160 (
        bd2 (f_X8_person (σ 86 v19.toNatClampNeg) (σ 86 (v19 + 1).toNatClampNeg) (σ 86 (v19 + 2).toNatClampNeg) σ) (fun r24 σ25 =>
        bnd ((if r24 < 0 then 0 else 1) : Int32) (fun v27 =>
        bnd ((w5 + v27)) (fun v29 =>
        bnd (w6 + 1) (fun v30 =>
        some (.inl (v29, v30, σ25))))))))))
      else
        some (.inr (.inr ((-12), σ)))))
def f_X8_court (x1 : Int32) (x2 : Int32) (x3 : Int32) (x4 : Int32) (σ : sg_T) : Option (Int32 × sg_T) :=
  bd1 (f_X8_isSheet x1 σ) (fun r2 =>
  if r2 = 0 then
    some ((-2), σ)
  else
    bd1 (f_X8_isIn x2 0 2 σ) (fun r5 =>
    if r5 = 0 then
      some ((-2), σ)
    else
      bd1 (f_X8_isIn x4 0 5 σ) (fun r8 =>
      if r8 = 0 then
        some ((-2), σ)
      else
        ck x1 4 (
        if (σ 84 x1.toNatClampNeg) = (-1) then
          some ((-11), σ)
        else
          ck x1 4 (
          if (σ 84 x1.toNatClampNeg) = x2 then
            bs (itr (fun q => b_X8_court_61 x1 x2 x3 x4 q.1 q.2.1 q.2.2) lfu (0, 0, σ)) (fun q => some q) (fun q => (fun v33 v34 σ35 =>
            some (v33, σ35)) q.1 q.2.1 q.2.2)
          else
            some ((-13), σ))))))
def b_X8_taken_30 (u1 : Int32) (u2 : Int32) (w3 : Int32) (σ : sg_T) : Option ((Int32) ⊕ (Int32)) :=
  if w3 = (-1) then
    some (.inr w3)
  else
    if w3 = u2 then
      some (.inr w3)
    else
      ck w3 6 (
      bnd ((σ 88 w3.toNatClampNeg)) (fun v12 =>
      some (.inl v12)))
def f_X8_taken (x1 : Int32) (x2 : Int32) (σ : sg_T) : Option (Int32) :=
  bd1 (f_X8_isIn x2 0 5 σ) (fun r2 =>
  if r2 = 0 then
    some (-2)
  else
    bd1 (f_X8_isOne x1 σ) (fun r5 =>
    if r5 = 0 then
      some (-11)
    else
      bd1 (f_X8_of x1 0 σ) (fun r8 =>
      bd1 (itr (fun q => b_X8_taken_30 x1 x2 q σ) lfu r8) (fun v14 =>
      if v14 = (-1) then
        some (-13)
      else
        bd1 (f_X8_of x1 1 σ) (fun r17 =>
        some r17)))))
def b_X8_otherwise_13 (u1 : Int32) (u2 : Int32) (w3 : Int32) (w4 : Int32) (σ : sg_T) : Option ((Int32 × Int32 × sg_T) ⊕ (Int32 × Int32 × sg_T)) :=
  ck u1 4 (
  if (σ 85 u1.toNatClampNeg) ≤ w4 then
    some (.inr (w3, w4, σ))
  else
    if w3 = (-1) then
      bd2 (f_X8_wakes u2 σ) (fun r7 σ8 =>
      ck ((40 * u1) + w4) 160 (
      bnd ((if r7 = (σ8 86 ((40 * u1) + w4).toNatClampNeg) then (-1) else w4) : Int32) (fun v11 =>
      bd2 (f_X8_goDay  σ8) (fun r14 σ15 =>
      bnd (w4 + 1) (fun v16 =>
      some (.inl (v11, v16, σ15)))))))
    else
      some (.inr (w3, w4, σ)))
def f_X8_otherwise (x1 : Int32) (x2 : Int32) (σ : sg_T) : Option (Int32 × sg_T) :=
  bd1 (f_X8_keep 72 σ) (fun σ2 =>
  bd3 (itr (fun q => b_X8_otherwise_13 x1 x2 q.1 q.2.1 q.2.2) lfu ((-1), 0, σ2)) (fun v19 v20 σ21 =>
  bd1 (f_X8_lay 72 σ21) (fun σ23 =>
  some (v19, σ23))))
def b_X8_fits_14 (u1 : Int32) (u2 : Int32) (u3 : Int32) (u4 : Int32) (u5 : Int32) (w6 : Int32) (w7 : Int32) (σ : sg_T) : Option ((Int32 × Int32 × sg_T) ⊕ (Int32 × Int32 × sg_T)) :=
  if u4 < w7 then
    some (.inr (w6, w7, σ))
  else
    ck u3 58 (
    bnd (up σ 70 u3.toNatClampNeg w7) (fun σ5 =>
    bd2 (f_X8_otherwise u1 u2 σ5) (fun r8 σ9 =>
    bnd ((if r8 = (-1) then 1 else 0) : Int32) (fun v11 =>
    cz v11 (
    ck w7 100 (
    bnd (up σ9 89 w7.toNatClampNeg v11) (fun σ15 =>
    if 30 ≤ w7 then
      bnd ((w6 ||| 0)) (fun v18 =>
      bnd (w7 + 1) (fun v19 =>
      some (.inl (v18, v19, σ15))))
    else
      ck w7 100 (
      bnd ((if (σ15 89 w7.toNatClampNeg) = 0 then 0 else (1 <<< (w7 &&& 31))) : Int32) (fun v23 =>
      bnd ((w6 ||| v23)) (fun v25 =>
      bnd (w7 + 1) (fun v26 =>
      some (.inl (v25, v26, σ15)))))))))))))
def f_X8_fits (x1 : Int32) (x2 : Int32) (x3 : Int32) (x4 : Int32) (σ : sg_T) : Option (Int32 × sg_T) :=
  ck x3 58 (
  bnd ((σ 70 x3.toNatClampNeg)) (fun v2 =>
  bd3 (itr (fun q => b_X8_fits_14 x1 x2 x3 x4 v2 q.1 q.2.1 q.2.2) lfu (0, 0, σ)) (fun v29 v30 σ31 =>
  ck x3 58 (
  bnd (up σ31 70 x3.toNatClampNeg v2) (fun σ33 =>
  some (v29, σ33))))))
def b_X8_tiredBy_25 (u1 : Int32) (u2 : Int32) (u3 : Int32) (u4 : Int32) (w5 : Int32) (w6 : Int32) (w7 : Int32) (σ : sg_T) : Option ((Int32 × Int32 × Int32) ⊕ (Int32 × Int32 × Int32)) :=
  if w7 < 0 then
    some (.inr (w5, w6, w7))
  else
    ck w7 100 (
    bnd ((if (σ 89 w7.toNatClampNeg) = 0 then 0 else 1) : Int32) (fun v7 =>
    bnd ((w5 + v7)) (fun v9 =>
    ck w7 100 (
    bnd ((if (σ 89 w7.toNatClampNeg) = 0 then w6 else w7) : Int32) (fun v12 =>
    bnd (w7 + (-1)) (fun v14 =>
    some (.inl (v9, v12, v14))))))))
def f_X8_tiredBy (x1 : Int32) (x2 : Int32) (x3 : Int32) (x4 : Int32) (σ : sg_T) : Option (Int32 × sg_T) :=
  bd2 (f_X8_fits x1 x2 ((11 * x3) + 3) 99 σ) (fun r2 σ3 =>
  bd3 (itr (fun q => b_X8_tiredBy_25 x1 x2 x3 x4 q.1 q.2.1 q.2.2 σ3) lfu (0, (-1), 99)) (fun v17 v18 v19 =>
  bnd ((if x4 = 0 then v18 else v17) : Int32) (fun v21 =>
  some (v21, σ3))))
def b_X8_tells_198 (u1 : Int32) (u2 : Int32) (u3 : Int32) (u4 : Int32) (w5 : Int32) (w6 : Int32) (σ : sg_T) : Option ((Int32 × Int32 × sg_T) ⊕ (Int32 × Int32 × sg_T)) :=
  bd1 (f_X8_many  σ) (fun r52 =>
  if r52 ≤ w6 then
    some (.inr (w5, w6, σ))
  else
    bd2 (f_X8_otherwise u1 w6 σ) (fun r55 σ56 =>
    bnd ((if r55 = (-1) then (1 <<< (w6 &&& 31)) else 0) : Int32) (fun v58 =>
    bnd ((w5 ||| v58)) (fun v60 =>
    bnd (w6 + 1) (fun v61 =>
    some (.inl (v60, v61, σ56)))))))
def f_X8_tells (x1 : Int32) (x2 : Int32) (x3 : Int32) (x4 : Int32) (σ : sg_T) : Option (Int32 × sg_T) :=
  bd1 (f_X8_isSheet x1 σ) (fun r2 =>
  if r2 = 0 then
    some ((-2), σ)
  else
    bd1 (f_X8_isOne x2 σ) (fun r5 =>
    if r5 = 0 then
      some ((-2), σ)
    else
      bd1 (f_X8_isOne x3 σ) (fun r8 =>
      if r8 = 0 then
        some ((-2), σ)
      else
        bd1 (f_X8_isIn x4 0 7 σ) (fun r11 =>
        if r11 = 0 then
          some ((-2), σ)
        else
          ck x1 4 (
          if (σ 84 x1.toNatClampNeg) = (-1) then
            some ((-11), σ)
          else
            ck x1 4 (
            if (σ 85 x1.toNatClampNeg) ≤ 20 then
              if x4 = 0 then
                bd2 (f_X8_otherwise x1 x2 σ) (fun r19 σ20 =>
                some (r19, σ20))
              else if x4 = 1 then
                bd2 (f_X8_fits x1 x2 (11 * x3) 5 σ) (fun r23 σ24 =>
                some (r23, σ24))
              else if x4 = 2 then
                bd2 (f_X8_fits x1 x2 ((11 * x3) + 1) 9 σ) (fun r27 σ28 =>
                some (r27, σ28))
              else if x4 = 3 then
                bnd ((if x4 = 3 then 1 else 0) : Int32) (fun v31 =>
                bd2 (f_X8_tiredBy x1 x2 x3 v31 σ) (fun r34 σ35 =>
                some (r34, σ35)))
              else if x4 = 4 then
                bnd ((if x4 = 3 then 1 else 0) : Int32) (fun v38 =>
                bd2 (f_X8_tiredBy x1 x2 x3 v38 σ) (fun r41 σ42 =>
                some (r41, σ42)))
              else if x4 = 5 then
                bd2 (f_X8_fits x1 x2 ((11 * x2) + 2) 23 σ) (fun r45 σ46 =>
                some (r45, σ46))
              else if x4 = 6 then
                bd2 (f_X8_fits x1 x2 57 ((σ 69 13) - 1) σ) (fun r49 σ50 =>
                some (r49, σ50))
              else 
                bd3 (itr (fun q => b_X8_tells_198 x1 x2 x3 x4 q.1 q.2.1 q.2.2) lfu (0, 0, σ)) (fun v64 v65 σ66 =>
                some (v64, σ66))
            else
              some ((-2), σ)))))))
def b_X8_film_47 (u1 : Int32) (u2 : Int32) (u3 : Int32) (w4 : Int32) (σ : sg_T) : Option ((Int32 × sg_T) ⊕ (Int32 × sg_T)) :=
  if u3 ≤ w4 then
    some (.inr (w4, σ))
  else
    bd2 (f_X8_wakes u2 σ) (fun r17 σ18 =>
    ck ((40 * u1) + w4) 160 (
    bnd (up σ18 86 ((40 * u1) + w4).toNatClampNeg r17) (fun σ20 =>
    bd2 (f_X8_goDay  σ20) (fun r23 σ24 =>
    bnd (w4 + 1) (fun v25 =>
    some (.inl (v25, σ24)))))))
def f_X8_film (x1 : Int32) (x2 : Int32) (x3 : Int32) (σ : sg_T) : Option (Int32 × sg_T) :=
  bd1 (f_X8_isSheet x1 σ) (fun r2 =>
  if r2 = 0 then
    some ((-2), σ)
  else
    bd1 (f_X8_isOne x2 σ) (fun r5 =>
    if r5 = 0 then
      some ((-2), σ)
    else
      bd1 (f_X8_isIn x3 0 20 σ) (fun r8 =>
      if r8 = 0 then
        some ((-2), σ)
      else
        bd2 (f_X8_sheet x1 0 x3 σ) (fun r11 σ12 =>
        bd1 (f_X8_keep 72 σ12) (fun σ14 =>
        bd2 (itr (fun q => b_X8_film_47 x1 x2 x3 q.1 q.2) lfu (0, σ14)) (fun v28 σ29 =>
        bd1 (f_X8_lay 72 σ29) (fun σ31 =>
        some (x3, σ31))))))))
def b_X8_drawn_26 (u1 : Int32) (u2 : Int32) (w3 : Int32) (w4 : Int32) (σ : sg_T) : Option ((Int32 × Int32 × sg_T) ⊕ (Int32 × Int32 × sg_T)) :=
  if u2 ≤ w4 then
    some (.inr (w3, w4, σ))
  else
    bnd (((w3 * 1103515245) + 12345)) (fun v7 =>
    bnd ((jrem (jushr v7 9) 8)) (fun v8 =>
    bnd (((v7 * 1103515245) + 12345)) (fun v9 =>
    bnd ((jrem (jushr v9 9) 8)) (fun v10 =>
    bd1 (f_X8_isTwo v8 v10 σ) (fun r12 =>
    if r12 = 0 then
      bd2 (f_X8_goDay  σ) (fun r15 σ16 =>
      bnd (w4 + 1) (fun v17 =>
      some (.inl (v9, v17, σ16))))
    else
      bd1 (f_X8_change v8 (6 + v10) 0 σ) (fun σ20 =>
      bd2 (f_X8_goDay  σ20) (fun r22 σ23 =>
      bnd (w4 + 1) (fun v24 =>
      some (.inl (v9, v24, σ23))))))))))
def f_X8_drawn (x1 : Int32) (x2 : Int32) (σ : sg_T) : Option (Int32 × sg_T) :=
  bd1 (f_X8_isIn x2 0 40 σ) (fun r2 =>
  if r2 = 0 then
    some ((-2), σ)
  else
    bd1 (f_X8_keep 72 σ) (fun σ5 =>
    bd3 (itr (fun q => b_X8_drawn_26 x1 x2 q.1 q.2.1 q.2.2) lfu (x1, 0, σ5)) (fun v27 v28 σ29 =>
    bd1 (f_X8_all 4 σ29) (fun r31 =>
    bd1 (f_X8_lay 72 σ29) (fun σ33 =>
    some (r31, σ33))))))
def b_X8_chance_40 (u1 : Int32) (u2 : Int32) (u3 : Int32) (u4 : Int32) (w5 : Int64) (w7 : Int32) (σ : sg_T) : Option ((Int64 × Int32 × sg_T) ⊕ (Int64 × Int32 × sg_T)) :=
  if u2 ≤ w7 then
    some (.inr (w5, w7, σ))
  else
    bd2 (f_X8_drawn (u1 + w7) 10 σ) (fun r12 σ13 =>
    if r12 < u3 then
      bnd ((w5 + 0)) (fun v15 =>
      bnd (w7 + 1) (fun v16 =>
      some (.inl (v15, v16, σ13))))
    else
      bnd ((w5 + 1)) (fun v18 =>
      bnd (w7 + 1) (fun v19 =>
      some (.inl (v18, v19, σ13)))))
def f_X8_chance (x1 : Int32) (x2 : Int32) (x3 : Int32) (x4 : Int32) (σ : sg_T) : Option (Int64 × sg_T) :=
  bd1 (f_X8_isIn x2 1 20 σ) (fun r2 =>
  if r2 = 0 then
    some ((-4611686018427387904), σ)
  else
    bd1 (f_X8_isIn x3 0 99 σ) (fun r5 =>
    if r5 = 0 then
      some ((-4611686018427387904), σ)
    else
      bd1 (f_X8_isIn x4 0 1 σ) (fun r8 =>
      if r8 = 0 then
        some ((-4611686018427387904), σ)
      else
        bd3 (itr (fun q => b_X8_chance_40 x1 x2 x3 x4 q.1 q.2.1 q.2.2) lfu (0, 0, σ)) (fun v22 v23 σ24 =>
        bd1 (g_gcd rfu ((x2).toInt64) v22 σ24) (fun r26 =>
        if x4 = 0 then
          dzl r26 (
          some ((v22 / r26), σ24))
        else
          dzl r26 (
          some ((((x2).toInt64) / r26), σ24)))))))
def f_X8_image  (σ : sg_T) : Option (Int32 × sg_T) :=
  bd1 (f_X8_keep 71 σ) (fun σ2 =>
  bnd (up σ2 69 3 1) (fun σ3 =>
  bd1 (f_X8_many  σ3) (fun r6 =>
  some (r6, σ3))))
def f_X8_back  (σ : sg_T) : Option (Int32 × sg_T) :=
  if (σ 69 3) = 0 then
    some ((-3), σ)
  else
    bd1 (f_X8_lay 71 σ) (fun σ3 =>
    bd1 (f_X8_many  σ3) (fun r5 =>
    some (r5, σ3)))
def b_X8_alone_4  (w1 : Int32) (w2 : Int32) (σ : sg_T) : Option ((Int32 × Int32) ⊕ (Int32 × Int32)) :=
  bd1 (f_X8_many  σ) (fun r2 =>
  if r2 ≤ w2 then
    some (.inr (w1, w2))
  else
    bd1 (f_X8_setter w2 σ) (fun r5 =>
    bnd ((if r5 = (-1) then 1 else 0) : Int32) (fun v7 =>
    bnd ((w1 + v7)) (fun v9 =>
    bnd (w2 + 1) (fun v10 =>
    some (.inl (v9, v10)))))))
def f_X8_alone  (σ : sg_T) : Option (Int32) :=
  bd2 (itr (fun q => b_X8_alone_4  q.1 q.2 σ) lfu (0, 0)) (fun v13 v14 =>
  some v13)
def f_X8_count (x1 : Int32) (σ : sg_T) : Option (Int32) :=
  if x1 = 0 then
    bd1 (f_X8_many  σ) (fun r3 =>
    some r3)
  else if x1 = 1 then
    bd1 (f_X8_alone  σ) (fun r6 =>
    some r6)
  else if x1 = 2 then
    ck 56 58 (
    some (σ 70 (56 : Int32).toNatClampNeg))
  else if x1 = 3 then
    some (σ 69 13)
  else if x1 = 4 then
    some (σ 69 6)
  else if x1 = 5 then
    ck 57 58 (
    some (σ 70 (57 : Int32).toNatClampNeg))
  else 
    some (-2)
