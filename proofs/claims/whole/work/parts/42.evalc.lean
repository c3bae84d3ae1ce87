theorem dpt_op {c : Int32} {cs : List Int32} {d e : Nat} (h : dpt (c :: cs) d = some e) (hc : -20 < c) : d < 36 ∧ dpt cs (d + 1) = some e := by
  unfold dpt at h
  rw [if_pos hc] at h
  by_cases hd : d < 36
  · rw [if_pos hd] at h; exact ⟨hd, h⟩
  · rw [if_neg hd] at h; cases h
theorem dpt_un {c : Int32} {cs : List Int32} {d e : Nat} (h : dpt (c :: cs) d = some e) (hc : ¬ -20 < c) (h2 : c = -22 ∨ c = -28) : 0 < d ∧ dpt cs d = some e := by
  unfold dpt at h
  rw [if_neg hc, if_pos h2] at h
  by_cases hd : 0 < d
  · rw [if_pos hd] at h; exact ⟨hd, h⟩
  · rw [if_neg hd] at h; cases h
theorem dpt_bi {c : Int32} {cs : List Int32} {d e : Nat} (h : dpt (c :: cs) d = some e) (hc : ¬ -20 < c) (h2 : ¬ (c = -22 ∨ c = -28)) : 1 < d ∧ dpt cs (d - 1) = some e := by
  unfold dpt at h
  rw [if_neg hc, if_neg h2] at h
  by_cases hd : 1 < d
  · rw [if_pos hd] at h; exact ⟨hd, h⟩
  · rw [if_neg hd] at h; cases h
theorem neg_of_pos {c : Int32} (h : 0 ≤ c) : ¬ c < 0 := Int32.not_lt.mpr h
theorem not_m6 {c : Int32} (h : 0 ≤ c) : ¬ c < -6 := fun q => absurd (Int32.lt_of_le_of_lt h q) (by decide)
theorem gt_m20 {c : Int32} (h : 0 ≤ c) : -20 < c := Int32.lt_of_lt_of_le (by decide) h
theorem gt_m6 {c : Int32} (h : 0 ≤ c) : ¬ c ≤ -20 := fun q => absurd (Int32.le_trans h q) (by decide)
theorem n_36 {d : Nat} (h : d < 36) : ¬ (36 : Int32) ≤ nI d := nle_of_lt (m := 36) h (by decide)
theorem n_le1 {n : Nat} (h : n < 2 ^ 30) : ¬ nI (n + 2) ≤ 1 := fun q => by
  rw [n_1, nI_leI (by omega) (by omega)] at q; omega
theorem stc_num {σ : sg_T} {o i E : Nat} {u1 c : Int32} {st : List Int32} (hc : 0 ≤ c) (hco : σ (o + 1) i = toC c) (hi : i < E) (hE : E ≤ 160) (hS : SR (σ 9) st) (hd : st.length < 36) : ∃ σ', b_X5_value_17 o u1 (nI E) (nI st.length) (nI i) σ = some (.inl (nI (est (σ 8) c st).length, nI (i + 1), σ')) ∧ SR (σ' 9) (est (σ 8) c st) ∧ ∀ p, p ≠ 9 → σ' p = σ p := by
  have e1 : toC c = c := by unfold toC; rw [if_pos hc]
  have e2 : est (σ 8) c st = c :: st := by unfold est; rw [if_pos hc]
  unfold b_X5_value_17
  rw [if_neg (nle_of_lt hi (by omega)), ck_n (by omega : i < 160) (by decide), nI_clamp (by omega), bnd_s, hco]
  rw [e1, if_neg (not_m6 hc), if_neg (n_36 hd), if_neg (neg_of_pos hc), ck_n hd (by decide), nI_clamp (by omega), bnd_s, bnd_s, bnd_s, nI_1, nI_1, e2]
  exact ⟨_, rfl, by rw [up_s]; exact hS.push c, fun p hp => up_n hp⟩
theorem stc_n0 {σ : sg_T} {o i E : Nat} {u1 : Int32} {st : List Int32} (hco : σ (o + 1) i = toC (-10)) (hi : i < E) (hE : E ≤ 160) (hS : SR (σ 9) st) (hd : st.length < 36) : ∃ σ', b_X5_value_17 o u1 (nI E) (nI st.length) (nI i) σ = some (.inl (nI (est (σ 8) (-10) st).length, nI (i + 1), σ')) ∧ SR (σ' 9) (est (σ 8) (-10) st) ∧ ∀ p, p ≠ 9 → σ' p = σ p := by
  have e1 : toC (-10) = (-1) := by decide
  have e2 : est (σ 8) (-10) st = σ 8 0 :: st := rfl
  have e3 : (((-1) : Int32) ^^^ (-1)) = nI 0 := by decide
  unfold b_X5_value_17
  rw [if_neg (nle_of_lt hi (by omega)), ck_n (by omega : i < 160) (by decide), nI_clamp (by omega), bnd_s, hco]
  rw [e1, if_neg (by decide), if_neg (n_36 hd), if_pos (by decide), e3, ck_n (by decide) (by decide), ck_n hd (by decide), nI_clamp (by omega), nI_clamp (by decide), bnd_s, bnd_s, bnd_s, nI_1, nI_1, e2]
  exact ⟨_, rfl, by rw [up_s]; exact hS.push _, fun p hp => up_n hp⟩
theorem stc_n1 {σ : sg_T} {o i E : Nat} {u1 : Int32} {st : List Int32} (hco : σ (o + 1) i = toC (-11)) (hi : i < E) (hE : E ≤ 160) (hS : SR (σ 9) st) (hd : st.length < 36) : ∃ σ', b_X5_value_17 o u1 (nI E) (nI st.length) (nI i) σ = some (.inl (nI (est (σ 8) (-11) st).length, nI (i + 1), σ')) ∧ SR (σ' 9) (est (σ 8) (-11) st) ∧ ∀ p, p ≠ 9 → σ' p = σ p := by
  have e1 : toC (-11) = (-2) := by decide
  have e2 : est (σ 8) (-11) st = σ 8 1 :: st := rfl
  have e3 : (((-2) : Int32) ^^^ (-1)) = nI 1 := by decide
  unfold b_X5_value_17
  rw [if_neg (nle_of_lt hi (by omega)), ck_n (by omega : i < 160) (by decide), nI_clamp (by omega), bnd_s, hco]
  rw [e1, if_neg (by decide), if_neg (n_36 hd), if_pos (by decide), e3, ck_n (by decide) (by decide), ck_n hd (by decide), nI_clamp (by omega), nI_clamp (by decide), bnd_s, bnd_s, bnd_s, nI_1, nI_1, e2]
  exact ⟨_, rfl, by rw [up_s]; exact hS.push _, fun p hp => up_n hp⟩
theorem stc_n2 {σ : sg_T} {o i E : Nat} {u1 : Int32} {st : List Int32} (hco : σ (o + 1) i = toC (-12)) (hi : i < E) (hE : E ≤ 160) (hS : SR (σ 9) st) (hd : st.length < 36) : ∃ σ', b_X5_value_17 o u1 (nI E) (nI st.length) (nI i) σ = some (.inl (nI (est (σ 8) (-12) st).length, nI (i + 1), σ')) ∧ SR (σ' 9) (est (σ 8) (-12) st) ∧ ∀ p, p ≠ 9 → σ' p = σ p := by
  have e1 : toC (-12) = (-3) := by decide
  have e2 : est (σ 8) (-12) st = σ 8 2 :: st := rfl
  have e3 : (((-3) : Int32) ^^^ (-1)) = nI 2 := by decide
  unfold b_X5_value_17
  rw [if_neg (nle_of_lt hi (by omega)), ck_n (by omega : i < 160) (by decide), nI_clamp (by omega), bnd_s, hco]
  rw [e1, if_neg (by decide), if_neg (n_36 hd), if_pos (by decide), e3, ck_n (by decide) (by decide), ck_n hd (by decide), nI_clamp (by omega), nI_clamp (by decide), bnd_s, bnd_s, bnd_s, nI_1, nI_1, e2]
  exact ⟨_, rfl, by rw [up_s]; exact hS.push _, fun p hp => up_n hp⟩
theorem stc_n3 {σ : sg_T} {o i E : Nat} {u1 : Int32} {st : List Int32} (hco : σ (o + 1) i = toC (-13)) (hi : i < E) (hE : E ≤ 160) (hS : SR (σ 9) st) (hd : st.length < 36) : ∃ σ', b_X5_value_17 o u1 (nI E) (nI st.length) (nI i) σ = some (.inl (nI (est (σ 8) (-13) st).length, nI (i + 1), σ')) ∧ SR (σ' 9) (est (σ 8) (-13) st) ∧ ∀ p, p ≠ 9 → σ' p = σ p := by
  have e1 : toC (-13) = (-4) := by decide
  have e2 : est (σ 8) (-13) st = σ 8 3 :: st := rfl
  have e3 : (((-4) : Int32) ^^^ (-1)) = nI 3 := by decide
  unfold b_X5_value_17
  rw [if_neg (nle_of_lt hi (by omega)), ck_n (by omega : i < 160) (by decide), nI_clamp (by omega), bnd_s, hco]
  rw [e1, if_neg (by decide), if_neg (n_36 hd), if_pos (by decide), e3, ck_n (by decide) (by decide), ck_n hd (by decide), nI_clamp (by omega), nI_clamp (by decide), bnd_s, bnd_s, bnd_s, nI_1, nI_1, e2]
  exact ⟨_, rfl, by rw [up_s]; exact hS.push _, fun p hp => up_n hp⟩
theorem stc_n4 {σ : sg_T} {o i E : Nat} {u1 : Int32} {st : List Int32} (hco : σ (o + 1) i = toC (-14)) (hi : i < E) (hE : E ≤ 160) (hS : SR (σ 9) st) (hd : st.length < 36) : ∃ σ', b_X5_value_17 o u1 (nI E) (nI st.length) (nI i) σ = some (.inl (nI (est (σ 8) (-14) st).length, nI (i + 1), σ')) ∧ SR (σ' 9) (est (σ 8) (-14) st) ∧ ∀ p, p ≠ 9 → σ' p = σ p := by
  have e1 : toC (-14) = (-5) := by decide
  have e2 : est (σ 8) (-14) st = σ 8 4 :: st := rfl
  have e3 : (((-5) : Int32) ^^^ (-1)) = nI 4 := by decide
  unfold b_X5_value_17
  rw [if_neg (nle_of_lt hi (by omega)), ck_n (by omega : i < 160) (by decide), nI_clamp (by omega), bnd_s, hco]
  rw [e1, if_neg (by decide), if_neg (n_36 hd), if_pos (by decide), e3, ck_n (by decide) (by decide), ck_n hd (by decide), nI_clamp (by omega), nI_clamp (by decide), bnd_s, bnd_s, bnd_s, nI_1, nI_1, e2]
  exact ⟨_, rfl, by rw [up_s]; exact hS.push _, fun p hp => up_n hp⟩
theorem stc_n5 {σ : sg_T} {o i E : Nat} {u1 : Int32} {st : List Int32} (hco : σ (o + 1) i = toC (-15)) (hi : i < E) (hE : E ≤ 160) (hS : SR (σ 9) st) (hd : st.length < 36) : ∃ σ', b_X5_value_17 o u1 (nI E) (nI st.length) (nI i) σ = some (.inl (nI (est (σ 8) (-15) st).length, nI (i + 1), σ')) ∧ SR (σ' 9) (est (σ 8) (-15) st) ∧ ∀ p, p ≠ 9 → σ' p = σ p := by
  have e1 : toC (-15) = (-6) := by decide
  have e2 : est (σ 8) (-15) st = σ 8 5 :: st := rfl
  have e3 : (((-6) : Int32) ^^^ (-1)) = nI 5 := by decide
  unfold b_X5_value_17
  rw [if_neg (nle_of_lt hi (by omega)), ck_n (by omega : i < 160) (by decide), nI_clamp (by omega), bnd_s, hco]
  rw [e1, if_neg (by decide), if_neg (n_36 hd), if_pos (by decide), e3, ck_n (by decide) (by decide), ck_n hd (by decide), nI_clamp (by omega), nI_clamp (by decide), bnd_s, bnd_s, bnd_s, nI_1, nI_1, e2]
  exact ⟨_, rfl, by rw [up_s]; exact hS.push _, fun p hp => up_n hp⟩
theorem stc_not {σ : sg_T} {o i E : Nat} {u1 x : Int32} {s : List Int32} (hco : σ (o + 1) i = toC (-22)) (hi : i < E) (hE : E ≤ 160) (hS : SR (σ 9) (x :: s)) (hd : (x :: s).length ≤ 36) : ∃ σ', b_X5_value_17 o u1 (nI E) (nI (x :: s).length) (nI i) σ = some (.inl (nI (est (σ 8) (-22) (x :: s)).length, nI (i + 1), σ')) ∧ SR (σ' 9) (est (σ 8) (-22) (x :: s)) ∧ ∀ p, p ≠ 9 → σ' p = σ p := by
  have e1 : toC (-22) = (-12) := by decide
  have e2 : est (σ 8) (-22) (x :: s) = (if x = 0 then 1 else 0) :: s := rfl
  have hl : s.length < 36 := hd
  unfold b_X5_value_17
  rw [if_neg (nle_of_lt hi (by omega)), ck_n (by omega : i < 160) (by decide), nI_clamp (by omega), bnd_s, hco]
  rw [e1, if_pos (by decide), if_pos (by decide), List.length_cons, if_neg (nI_nle (by omega) (by omega)), if_neg (by decide), nI_pred, ck_n hl (by decide), nI_clamp (by omega), hS.top, bnd_s, ck_n hl (by decide), bnd_s, bnd_s, nI_1, e2]
  exact ⟨_, rfl, by rw [up_s]; exact hS.put _, fun p hp => up_n hp⟩
theorem stc_neg {σ : sg_T} {o i E : Nat} {u1 x : Int32} {s : List Int32} (hco : σ (o + 1) i = toC (-28)) (hi : i < E) (hE : E ≤ 160) (hS : SR (σ 9) (x :: s)) (hd : (x :: s).length ≤ 36) : ∃ σ', b_X5_value_17 o u1 (nI E) (nI (x :: s).length) (nI i) σ = some (.inl (nI (est (σ 8) (-28) (x :: s)).length, nI (i + 1), σ')) ∧ SR (σ' 9) (est (σ 8) (-28) (x :: s)) ∧ ∀ p, p ≠ 9 → σ' p = σ p := by
  have e1 : toC (-28) = (-21) := by decide
  have e2 : est (σ 8) (-28) (x :: s) = (-x) :: s := rfl
  have hl : s.length < 36 := hd
  unfold b_X5_value_17
  rw [if_neg (nle_of_lt hi (by omega)), ck_n (by omega : i < 160) (by decide), nI_clamp (by omega), bnd_s, hco]
  rw [e1, if_pos (by decide), if_neg (by decide), if_pos (by decide), List.length_cons, if_neg (nI_nle (by omega) (by omega)), if_pos (by decide), nI_pred, ck_n hl (by decide), ck_n hl (by decide), nI_clamp (by omega), hS.top, bnd_s, bnd_s, nI_1, e2]
  exact ⟨_, rfl, by rw [up_s]; exact hS.put _, fun p hp => up_n hp⟩
theorem stc_b20 {σ : sg_T} {o i E : Nat} {u1 x y : Int32} {s : List Int32} (hco : σ (o + 1) i = toC (-20)) (hi : i < E) (hE : E ≤ 160) (hS : SR (σ 9) (y :: x :: s)) (hd : (y :: x :: s).length ≤ 36) : ∃ σ', b_X5_value_17 o u1 (nI E) (nI (y :: x :: s).length) (nI i) σ = some (.inl (nI (est (σ 8) (-20) (y :: x :: s)).length, nI (i + 1), σ')) ∧ SR (σ' 9) (est (σ 8) (-20) (y :: x :: s)) ∧ ∀ p, p ≠ 9 → σ' p = σ p := by
  have e1 : toC (-20) = (-10) := by decide
  have e2 : est (σ 8) (-20) (y :: x :: s) = dd (-20) x y :: s := rfl
  have hl : s.length + 1 < 36 := hd
  have ht : σ 9 (s.length + 1) = y := hS.top
  have ht2 : σ 9 s.length = x := hS.tail.top
  unfold b_X5_value_17
  rw [if_neg (nle_of_lt hi (by omega)), ck_n (by omega : i < 160) (by decide), nI_clamp (by omega), bnd_s, hco]
  rw [e1, if_pos (by decide), if_neg (by decide), if_neg (by decide), List.length_cons, List.length_cons, if_neg (n_le1 (by omega)), pk_m1, bnd_s, nI_pred, ck_n (by omega : s.length < 36) (by decide), ck_n hl (by decide), nI_clamp (by omega), nI_clamp (by omega), ht, ht2, join_20, bd1_s, ck_n (by omega : s.length < 36) (by decide), bnd_s, bnd_s, nI_1, e2]
  exact ⟨_, rfl, by rw [up_s]; exact hS.tail.put _, fun p hp => up_n hp⟩
theorem stc_b21 {σ : sg_T} {o i E : Nat} {u1 x y : Int32} {s : List Int32} (hco : σ (o + 1) i = toC (-21)) (hi : i < E) (hE : E ≤ 160) (hS : SR (σ 9) (y :: x :: s)) (hd : (y :: x :: s).length ≤ 36) : ∃ σ', b_X5_value_17 o u1 (nI E) (nI (y :: x :: s).length) (nI i) σ = some (.inl (nI (est (σ 8) (-21) (y :: x :: s)).length, nI (i + 1), σ')) ∧ SR (σ' 9) (est (σ 8) (-21) (y :: x :: s)) ∧ ∀ p, p ≠ 9 → σ' p = σ p := by
  have e1 : toC (-21) = (-11) := by decide
  have e2 : est (σ 8) (-21) (y :: x :: s) = dd (-21) x y :: s := rfl
  have hl : s.length + 1 < 36 := hd
  have ht : σ 9 (s.length + 1) = y := hS.top
  have ht2 : σ 9 s.length = x := hS.tail.top
  unfold b_X5_value_17
  rw [if_neg (nle_of_lt hi (by omega)), ck_n (by omega : i < 160) (by decide), nI_clamp (by omega), bnd_s, hco]
  rw [e1, if_pos (by decide), if_neg (by decide), if_neg (by decide), List.length_cons, List.length_cons, if_neg (n_le1 (by omega)), pk_m1, bnd_s, nI_pred, ck_n (by omega : s.length < 36) (by decide), ck_n hl (by decide), nI_clamp (by omega), nI_clamp (by omega), ht, ht2, join_21, bd1_s, ck_n (by omega : s.length < 36) (by decide), bnd_s, bnd_s, nI_1, e2]
  exact ⟨_, rfl, by rw [up_s]; exact hS.tail.put _, fun p hp => up_n hp⟩
theorem stc_b23 {σ : sg_T} {o i E : Nat} {u1 x y : Int32} {s : List Int32} (hco : σ (o + 1) i = toC (-23)) (hi : i < E) (hE : E ≤ 160) (hS : SR (σ 9) (y :: x :: s)) (hd : (y :: x :: s).length ≤ 36) : ∃ σ', b_X5_value_17 o u1 (nI E) (nI (y :: x :: s).length) (nI i) σ = some (.inl (nI (est (σ 8) (-23) (y :: x :: s)).length, nI (i + 1), σ')) ∧ SR (σ' 9) (est (σ 8) (-23) (y :: x :: s)) ∧ ∀ p, p ≠ 9 → σ' p = σ p := by
  have e1 : toC (-23) = (-61) := by decide
  have e2 : est (σ 8) (-23) (y :: x :: s) = dd (-23) x y :: s := rfl
  have hl : s.length + 1 < 36 := hd
  have ht : σ 9 (s.length + 1) = y := hS.top
  have ht2 : σ 9 s.length = x := hS.tail.top
  unfold b_X5_value_17
  rw [if_neg (nle_of_lt hi (by omega)), ck_n (by omega : i < 160) (by decide), nI_clamp (by omega), bnd_s, hco]
  rw [e1, if_pos (by decide), if_neg (by decide), if_neg (by decide), List.length_cons, List.length_cons, if_neg (n_le1 (by omega)), pk_m1, bnd_s, nI_pred, ck_n (by omega : s.length < 36) (by decide), ck_n hl (by decide), nI_clamp (by omega), nI_clamp (by omega), ht, ht2, join_23, bd1_s, ck_n (by omega : s.length < 36) (by decide), bnd_s, bnd_s, nI_1, e2]
  exact ⟨_, rfl, by rw [up_s]; exact hS.tail.put _, fun p hp => up_n hp⟩
theorem stc_b24 {σ : sg_T} {o i E : Nat} {u1 x y : Int32} {s : List Int32} (hco : σ (o + 1) i = toC (-24)) (hi : i < E) (hE : E ≤ 160) (hS : SR (σ 9) (y :: x :: s)) (hd : (y :: x :: s).length ≤ 36) : ∃ σ', b_X5_value_17 o u1 (nI E) (nI (y :: x :: s).length) (nI i) σ = some (.inl (nI (est (σ 8) (-24) (y :: x :: s)).length, nI (i + 1), σ')) ∧ SR (σ' 9) (est (σ 8) (-24) (y :: x :: s)) ∧ ∀ p, p ≠ 9 → σ' p = σ p := by
  have e1 : toC (-24) = (-62) := by decide
  have e2 : est (σ 8) (-24) (y :: x :: s) = dd (-24) x y :: s := rfl
  have hl : s.length + 1 < 36 := hd
  have ht : σ 9 (s.length + 1) = y := hS.top
  have ht2 : σ 9 s.length = x := hS.tail.top
  unfold b_X5_value_17
  rw [if_neg (nle_of_lt hi (by omega)), ck_n (by omega : i < 160) (by decide), nI_clamp (by omega), bnd_s, hco]
  rw [e1, if_pos (by decide), if_neg (by decide), if_neg (by decide), List.length_cons, List.length_cons, if_neg (n_le1 (by omega)), pk_m1, bnd_s, nI_pred, ck_n (by omega : s.length < 36) (by decide), ck_n hl (by decide), nI_clamp (by omega), nI_clamp (by omega), ht, ht2, join_24, bd1_s, ck_n (by omega : s.length < 36) (by decide), bnd_s, bnd_s, nI_1, e2]
  exact ⟨_, rfl, by rw [up_s]; exact hS.tail.put _, fun p hp => up_n hp⟩
theorem stc_b25 {σ : sg_T} {o i E : Nat} {u1 x y : Int32} {s : List Int32} (hco : σ (o + 1) i = toC (-25)) (hi : i < E) (hE : E ≤ 160) (hS : SR (σ 9) (y :: x :: s)) (hd : (y :: x :: s).length ≤ 36) : ∃ σ', b_X5_value_17 o u1 (nI E) (nI (y :: x :: s).length) (nI i) σ = some (.inl (nI (est (σ 8) (-25) (y :: x :: s)).length, nI (i + 1), σ')) ∧ SR (σ' 9) (est (σ 8) (-25) (y :: x :: s)) ∧ ∀ p, p ≠ 9 → σ' p = σ p := by
  have e1 : toC (-25) = (-44) := by decide
  have e2 : est (σ 8) (-25) (y :: x :: s) = dd (-25) x y :: s := rfl
  have hl : s.length + 1 < 36 := hd
  have ht : σ 9 (s.length + 1) = y := hS.top
  have ht2 : σ 9 s.length = x := hS.tail.top
  unfold b_X5_value_17
  rw [if_neg (nle_of_lt hi (by omega)), ck_n (by omega : i < 160) (by decide), nI_clamp (by omega), bnd_s, hco]
  rw [e1, if_pos (by decide), if_neg (by decide), if_neg (by decide), List.length_cons, List.length_cons, if_neg (n_le1 (by omega)), pk_m1, bnd_s, nI_pred, ck_n (by omega : s.length < 36) (by decide), ck_n hl (by decide), nI_clamp (by omega), nI_clamp (by omega), ht, ht2, join_25, bd1_s, ck_n (by omega : s.length < 36) (by decide), bnd_s, bnd_s, nI_1, e2]
  exact ⟨_, rfl, by rw [up_s]; exact hS.tail.put _, fun p hp => up_n hp⟩
theorem stc_b26 {σ : sg_T} {o i E : Nat} {u1 x y : Int32} {s : List Int32} (hco : σ (o + 1) i = toC (-26)) (hi : i < E) (hE : E ≤ 160) (hS : SR (σ 9) (y :: x :: s)) (hd : (y :: x :: s).length ≤ 36) : ∃ σ', b_X5_value_17 o u1 (nI E) (nI (y :: x :: s).length) (nI i) σ = some (.inl (nI (est (σ 8) (-26) (y :: x :: s)).length, nI (i + 1), σ')) ∧ SR (σ' 9) (est (σ 8) (-26) (y :: x :: s)) ∧ ∀ p, p ≠ 9 → σ' p = σ p := by
  have e1 : toC (-26) = (-46) := by decide
  have e2 : est (σ 8) (-26) (y :: x :: s) = dd (-26) x y :: s := rfl
  have hl : s.length + 1 < 36 := hd
  have ht : σ 9 (s.length + 1) = y := hS.top
  have ht2 : σ 9 s.length = x := hS.tail.top
  unfold b_X5_value_17
  rw [if_neg (nle_of_lt hi (by omega)), ck_n (by omega : i < 160) (by decide), nI_clamp (by omega), bnd_s, hco]
  rw [e1, if_pos (by decide), if_neg (by decide), if_neg (by decide), List.length_cons, List.length_cons, if_neg (n_le1 (by omega)), pk_m1, bnd_s, nI_pred, ck_n (by omega : s.length < 36) (by decide), ck_n hl (by decide), nI_clamp (by omega), nI_clamp (by omega), ht, ht2, join_26, bd1_s, ck_n (by omega : s.length < 36) (by decide), bnd_s, bnd_s, nI_1, e2]
  exact ⟨_, rfl, by rw [up_s]; exact hS.tail.put _, fun p hp => up_n hp⟩
theorem stc_b27 {σ : sg_T} {o i E : Nat} {u1 x y : Int32} {s : List Int32} (hco : σ (o + 1) i = toC (-27)) (hi : i < E) (hE : E ≤ 160) (hS : SR (σ 9) (y :: x :: s)) (hd : (y :: x :: s).length ≤ 36) : ∃ σ', b_X5_value_17 o u1 (nI E) (nI (y :: x :: s).length) (nI i) σ = some (.inl (nI (est (σ 8) (-27) (y :: x :: s)).length, nI (i + 1), σ')) ∧ SR (σ' 9) (est (σ 8) (-27) (y :: x :: s)) ∧ ∀ p, p ≠ 9 → σ' p = σ p := by
  have e1 : toC (-27) = (-43) := by decide
  have e2 : est (σ 8) (-27) (y :: x :: s) = dd (-27) x y :: s := rfl
  have hl : s.length + 1 < 36 := hd
  have ht : σ 9 (s.length + 1) = y := hS.top
  have ht2 : σ 9 s.length = x := hS.tail.top
  unfold b_X5_value_17
  rw [if_neg (nle_of_lt hi (by omega)), ck_n (by omega : i < 160) (by decide), nI_clamp (by omega), bnd_s, hco]
  rw [e1, if_pos (by decide), if_neg (by decide), if_neg (by decide), List.length_cons, List.length_cons, if_neg (n_le1 (by omega)), pk_m1, bnd_s, nI_pred, ck_n (by omega : s.length < 36) (by decide), ck_n hl (by decide), nI_clamp (by omega), nI_clamp (by omega), ht, ht2, join_27, bd1_s, ck_n (by omega : s.length < 36) (by decide), bnd_s, bnd_s, nI_1, e2]
  exact ⟨_, rfl, by rw [up_s]; exact hS.tail.put _, fun p hp => up_n hp⟩
theorem dpt_le : ∀ (cs : List Int32) (d e : Nat), dpt cs d = some e → d ≤ 36 → e ≤ 36
  | [], d, e, h, hd => by cases h; exact hd
  | c :: cs, d, e, h, hd => by
    by_cases hc : -20 < c
    · obtain ⟨h1, h2⟩ := dpt_op h hc; exact dpt_le cs _ e h2 (by omega)
    · by_cases h2 : c = -22 ∨ c = -28
      · obtain ⟨h3, h4⟩ := dpt_un h hc h2; exact dpt_le cs _ e h4 hd
      · obtain ⟨h3, h4⟩ := dpt_bi h hc h2; exact dpt_le cs _ e h4 (by omega)
theorem stc {σ : sg_T} {o i E : Nat} {u1 c : Int32} {cs st : List Int32} {e : Nat} (hv : vcd c) (hdp : dpt (c :: cs) st.length = some e) (hd : st.length ≤ 36) (hco : σ (o + 1) i = toC c) (hi : i < E) (hE : E ≤ 160) (hS : SR (σ 9) st) : (∃ σ', b_X5_value_17 o u1 (nI E) (nI st.length) (nI i) σ = some (.inl (nI (est (σ 8) c st).length, nI (i + 1), σ')) ∧ SR (σ' 9) (est (σ 8) c st) ∧ ∀ p, p ≠ 9 → σ' p = σ p) ∧ dpt cs (est (σ 8) c st).length = some e ∧ (est (σ 8) c st).length ≤ 36 := by
  rcases hv with h | h | h | h | h | h | h | h | h | h | h | h | h | h | h | h
  · obtain ⟨h1, h2⟩ := dpt_op hdp (gt_m20 h)
    have e2 : est (σ 8) c st = c :: st := by unfold est; rw [if_pos h]
    exact ⟨stc_num h hco hi hE hS h1, by rw [e2]; exact h2, by rw [e2]; exact h1⟩
  · subst h
    obtain ⟨h1, h2⟩ := dpt_op hdp (by decide)
    exact ⟨stc_n0 hco hi hE hS h1, h2, h1⟩
  · subst h
    obtain ⟨h1, h2⟩ := dpt_op hdp (by decide)
    exact ⟨stc_n1 hco hi hE hS h1, h2, h1⟩
  · subst h
    obtain ⟨h1, h2⟩ := dpt_op hdp (by decide)
    exact ⟨stc_n2 hco hi hE hS h1, h2, h1⟩
  · subst h
    obtain ⟨h1, h2⟩ := dpt_op hdp (by decide)
    exact ⟨stc_n3 hco hi hE hS h1, h2, h1⟩
  · subst h
    obtain ⟨h1, h2⟩ := dpt_op hdp (by decide)
    exact ⟨stc_n4 hco hi hE hS h1, h2, h1⟩
  · subst h
    obtain ⟨h1, h2⟩ := dpt_op hdp (by decide)
    exact ⟨stc_n5 hco hi hE hS h1, h2, h1⟩
  · subst h
    obtain ⟨h1, h2⟩ := dpt_bi hdp (by decide) (by decide)
    match st, h1, h2, hS, hd with
    | y :: x :: s, h1, h2, hS, hd => exact ⟨stc_b20 hco hi hE hS hd, h2, Nat.le_of_succ_le hd⟩
  · subst h
    obtain ⟨h1, h2⟩ := dpt_bi hdp (by decide) (by decide)
    match st, h1, h2, hS, hd with
    | y :: x :: s, h1, h2, hS, hd => exact ⟨stc_b21 hco hi hE hS hd, h2, Nat.le_of_succ_le hd⟩
  · subst h
    obtain ⟨h1, h2⟩ := dpt_un hdp (by decide) (by decide)
    match st, h1, h2, hS, hd with
    | x :: s, h1, h2, hS, hd => exact ⟨stc_not hco hi hE hS hd, h2, hd⟩
  · subst h
    obtain ⟨h1, h2⟩ := dpt_bi hdp (by decide) (by decide)
    match st, h1, h2, hS, hd with
    | y :: x :: s, h1, h2, hS, hd => exact ⟨stc_b23 hco hi hE hS hd, h2, Nat.le_of_succ_le hd⟩
  · subst h
    obtain ⟨h1, h2⟩ := dpt_bi hdp (by decide) (by decide)
    match st, h1, h2, hS, hd with
    | y :: x :: s, h1, h2, hS, hd => exact ⟨stc_b24 hco hi hE hS hd, h2, Nat.le_of_succ_le hd⟩
  · subst h
    obtain ⟨h1, h2⟩ := dpt_bi hdp (by decide) (by decide)
    match st, h1, h2, hS, hd with
    | y :: x :: s, h1, h2, hS, hd => exact ⟨stc_b25 hco hi hE hS hd, h2, Nat.le_of_succ_le hd⟩
  · subst h
    obtain ⟨h1, h2⟩ := dpt_bi hdp (by decide) (by decide)
    match st, h1, h2, hS, hd with
    | y :: x :: s, h1, h2, hS, hd => exact ⟨stc_b26 hco hi hE hS hd, h2, Nat.le_of_succ_le hd⟩
  · subst h
    obtain ⟨h1, h2⟩ := dpt_bi hdp (by decide) (by decide)
    match st, h1, h2, hS, hd with
    | y :: x :: s, h1, h2, hS, hd => exact ⟨stc_b27 hco hi hE hS hd, h2, Nat.le_of_succ_le hd⟩
  · subst h
    obtain ⟨h1, h2⟩ := dpt_un hdp (by decide) (by decide)
    match st, h1, h2, hS, hd with
    | x :: s, h1, h2, hS, hd => exact ⟨stc_neg hco hi hE hS hd, h2, hd⟩
/-- the class tells a row of signs -/
theorem val_c {o E : Nat} {u1 : Int32} (ho8 : o + 1 ≠ 8) (ho9 : o + 1 ≠ 9) : ∀ (cs : List Int32) (st : List Int32) (e i n : Nat) (σ : sg_T), (∀ c ∈ cs, vcd c) → dpt cs st.length = some e → st.length ≤ 36 → SR (σ 9) st → (∀ k, k < cs.length → σ (o + 1) (i + k) = toC (cs.getD k 0)) → i + cs.length = E → E ≤ 160 → cs.length < n → ∃ σ', itr (fun q => b_X5_value_17 o u1 (nI E) q.1 q.2.1 q.2.2) n (nI st.length, nI i, σ) = some (nI e, nI E, σ') ∧ SR (σ' 9) (evc (σ 8) cs st) ∧ (evc (σ 8) cs st).length = e ∧ ∀ p, p ≠ 9 → σ' p = σ p
  | [], st, e, i, n, σ, hv, hdp, hd, hS, hco, hi, hE, hn => by
    obtain ⟨n', rfl⟩ : ∃ n', n = n' + 1 := ⟨n - 1, by simp at hn; omega⟩
    cases hdp
    have hiE : i = E := by simpa using hi
    subst hiE
    refine ⟨σ, itr_r ?_, hS, rfl, fun _ _ => rfl⟩
    show b_X5_value_17 o u1 (nI i) (nI st.length) (nI i) σ = _
    unfold b_X5_value_17
    rw [if_pos (Int32.le_refl _)]
  | c :: cs, st, e, i, n, σ, hv, hdp, hd, hS, hco, hi, hE, hn => by
    obtain ⟨n', rfl⟩ : ∃ n', n = n' + 1 := ⟨n - 1, by simp at hn; omega⟩
    simp only [List.length_cons] at hi hn
    have hc0 : σ (o + 1) i = toC c := hco 0 (by simp)
    obtain ⟨⟨σ1, h1, h2, h3⟩, h4, h5⟩ := stc (u1 := u1) (E := E) (hv c (List.mem_cons_self)) hdp hd hc0 (by omega) hE hS
    obtain ⟨σ2, g1, g2, g3, g4⟩ := val_c ho8 ho9 cs (est (σ 8) c st) e (i + 1) n' σ1 (fun x hx => hv x (List.mem_cons_of_mem _ hx)) h4 h5 h2 (fun k hk => by
      rw [h3 (o + 1) ho9]
      have := hco (k + 1) (by simp; omega)
      rw [List.getD_cons_succ] at this
      rw [← this]; congr 1; omega) (by omega) hE (by omega)
    rw [h3 8 (by decide)] at g2 g3
    exact ⟨σ2, by rw [itr_l h1]; exact g1, g2, g3, fun p hp => by rw [g4 p hp, h3 p hp]⟩
