theorem of_m {σ : sg_T} {i k : Nat} (hi : i < 5) (hk : k < 11) : f_X8_of (nI i) (nI k) σ = some (σ 70 (11 * i + k)) := by
  unfold f_X8_of
  rw [n_11, pk_mul, nI_add, ck_n (by omega) (by decide), nI_clamp (by omega)]
def nmM (f : Nat → Int32) (i j : Nat) (k : Nat) : Int32 := if k = 0 then (if i = j then 0 else f (11 * i + (6 + j))) else if k = 1 then f (11 * j + 2) else if k = 2 then f (11 * i + 1) else if k = 3 then f 56 else if k = 4 then f (11 * i + 3) else f (11 * j + 4)
theorem tellq2 (u1 u2 u3 u4 u5 w6 w7 : Int32) (σ : sg_T) : b_X8_tell_39q2 u1 u2 u3 u4 w6 w7 σ = b_X8_tell_39 u1 u2 u3 u4 u5 w6 w7 σ := rfl
theorem n_160 : (160 : Int32) = nI 160 := rfl
theorem n_6j (j : Nat) : (6 : Int32) + nI j = nI (6 + j) := by rw [n_6, nI_add]
theorem stm_num {σ : sg_T} {t pt a b i E : Nat} {u5 : Int32} {c : Int32} {st : List Int32} (hc : 0 ≤ c) (ht : t < 6) (hp : pt < 3) (ha : a < 5) (hb : b < 5) (hE : σ 76 (3 * t + pt) = nI E) (hco : σ 75 (160 * t + i) = c) (hi : i < E) (hE2 : E ≤ 160) (hS : SR (σ 79) st) (hd : st.length < 36) : ∃ σ', b_X8_tell_39 (nI pt) (nI a) (nI b) (nI t) u5 (nI st.length) (nI i) σ = some (.inl (nI (est (nmM (σ 70) a b) c st).length, nI (i + 1), σ')) ∧ SR (σ' 79) (est (nmM (σ 70) a b) c st) ∧ ∀ p, p ≠ 79 → σ' p = σ p := by
  have e2 : est (nmM (σ 70) a b) c st = c :: st := by unfold est; rw [if_pos hc]
  have q1 : (3 : Int32) * nI t + nI pt = nI (3 * t + pt) := by rw [n_3, pk_mul, nI_add]
  have q2 : (160 : Int32) * nI t + nI i = nI (160 * t + i) := by rw [n_160, pk_mul, nI_add]
  unfold b_X8_tell_39
  rw [q1, ck_n (by omega) (by decide), nI_clamp (by omega), hE, if_neg (nle_of_lt hi (by omega)), q2, ck_n (by omega) (by decide), nI_clamp (by omega), hco, bnd_s]
  rw [if_neg (neg_of_pos hc), ck_n (by omega : st.length < 160) (by decide), nI_clamp (by omega), bnd_s, bnd_s, bnd_s, nI_1, nI_1, e2]
  exact ⟨_, rfl, by rw [up_s]; exact hS.push c, fun p hp => up_n hp⟩
theorem stm_n0 {σ : sg_T} {t pt a b i E : Nat} {u5 : Int32} {st : List Int32} (ht : t < 6) (hp : pt < 3) (ha : a < 5) (hb : b < 5) (hE : σ 76 (3 * t + pt) = nI E) (hco : σ 75 (160 * t + i) = (-10)) (hi : i < E) (hE2 : E ≤ 160) (hS : SR (σ 79) st) (hd : st.length < 36) : ∃ σ', b_X8_tell_39 (nI pt) (nI a) (nI b) (nI t) u5 (nI st.length) (nI i) σ = some (.inl (nI (est (nmM (σ 70) a b) (-10) st).length, nI (i + 1), σ')) ∧ SR (σ' 79) (est (nmM (σ 70) a b) (-10) st) ∧ ∀ p, p ≠ 79 → σ' p = σ p := by
  have q1 : (3 : Int32) * nI t + nI pt = nI (3 * t + pt) := by rw [n_3, pk_mul, nI_add]
  have q2 : (160 : Int32) * nI t + nI i = nI (160 * t + i) := by rw [n_160, pk_mul, nI_add]
  unfold b_X8_tell_39
  rw [q1, ck_n (by omega) (by decide), nI_clamp (by omega), hE, if_neg (nle_of_lt hi (by omega)), q2, ck_n (by omega) (by decide), nI_clamp (by omega), hco, bnd_s]
  rw [if_pos (by decide), if_neg (by decide), show ((-10 : Int32) - (-10)) = 0 from by decide, bnd_s, if_pos rfl]
  by_cases hab : a = b
  · subst hab
    have e2 : est (nmM (σ 70) a a) (-10) st = 0 :: st := by
      show nmM (σ 70) a a 0 :: st = _
      unfold nmM; rw [if_pos rfl, if_pos rfl]
    rw [if_pos rfl, ck_n (by omega : st.length < 160) (by decide), nI_clamp (by omega), bnd_s, bnd_s, bnd_s, nI_1, nI_1]
    rw [e2]
    exact ⟨_, rfl, by rw [up_s]; exact hS.push _, fun p hp => up_n hp⟩
  · have e2 : est (nmM (σ 70) a b) (-10) st = σ 70 (11 * a + (6 + b)) :: st := by
      show nmM (σ 70) a b 0 :: st = _
      unfold nmM; rw [if_pos rfl, if_neg hab]
    rw [if_neg (fun q => hab ((nI_eq (by omega) (by omega)).mp q)), n_6j, of_m ha (by omega), bd1_s, ck_n (by omega : st.length < 160) (by decide), nI_clamp (by omega), bnd_s, bnd_s, bnd_s, nI_1, nI_1]
    rw [e2]
    exact ⟨_, rfl, by rw [up_s]; exact hS.push _, fun p hp => up_n hp⟩
theorem stm_n1 {σ : sg_T} {t pt a b i E : Nat} {u5 : Int32} {st : List Int32} (ht : t < 6) (hp : pt < 3) (ha : a < 5) (hb : b < 5) (hE : σ 76 (3 * t + pt) = nI E) (hco : σ 75 (160 * t + i) = (-11)) (hi : i < E) (hE2 : E ≤ 160) (hS : SR (σ 79) st) (hd : st.length < 36) : ∃ σ', b_X8_tell_39 (nI pt) (nI a) (nI b) (nI t) u5 (nI st.length) (nI i) σ = some (.inl (nI (est (nmM (σ 70) a b) (-11) st).length, nI (i + 1), σ')) ∧ SR (σ' 79) (est (nmM (σ 70) a b) (-11) st) ∧ ∀ p, p ≠ 79 → σ' p = σ p := by
  have q1 : (3 : Int32) * nI t + nI pt = nI (3 * t + pt) := by rw [n_3, pk_mul, nI_add]
  have q2 : (160 : Int32) * nI t + nI i = nI (160 * t + i) := by rw [n_160, pk_mul, nI_add]
  unfold b_X8_tell_39
  rw [q1, ck_n (by omega) (by decide), nI_clamp (by omega), hE, if_neg (nle_of_lt hi (by omega)), q2, ck_n (by omega) (by decide), nI_clamp (by omega), hco, bnd_s]
  rw [if_pos (by decide), if_neg (by decide), show ((-10 : Int32) - (-11)) = 1 from by decide, bnd_s, if_neg (by decide), if_pos rfl]
  have e2 : est (nmM (σ 70) a b) (-11) st = σ 70 (11 * b + 2) :: st := rfl
  rw [n_2, of_m hb (by decide), bd1_s, ck_n (by omega : st.length < 160) (by decide), nI_clamp (by omega), bnd_s, bnd_s, bnd_s, nI_1, nI_1]
  rw [e2]
  exact ⟨_, rfl, by rw [up_s]; exact hS.push _, fun p hp => up_n hp⟩
theorem stm_n2 {σ : sg_T} {t pt a b i E : Nat} {u5 : Int32} {st : List Int32} (ht : t < 6) (hp : pt < 3) (ha : a < 5) (hb : b < 5) (hE : σ 76 (3 * t + pt) = nI E) (hco : σ 75 (160 * t + i) = (-12)) (hi : i < E) (hE2 : E ≤ 160) (hS : SR (σ 79) st) (hd : st.length < 36) : ∃ σ', b_X8_tell_39 (nI pt) (nI a) (nI b) (nI t) u5 (nI st.length) (nI i) σ = some (.inl (nI (est (nmM (σ 70) a b) (-12) st).length, nI (i + 1), σ')) ∧ SR (σ' 79) (est (nmM (σ 70) a b) (-12) st) ∧ ∀ p, p ≠ 79 → σ' p = σ p := by
  have q1 : (3 : Int32) * nI t + nI pt = nI (3 * t + pt) := by rw [n_3, pk_mul, nI_add]
  have q2 : (160 : Int32) * nI t + nI i = nI (160 * t + i) := by rw [n_160, pk_mul, nI_add]
  unfold b_X8_tell_39
  rw [q1, ck_n (by omega) (by decide), nI_clamp (by omega), hE, if_neg (nle_of_lt hi (by omega)), q2, ck_n (by omega) (by decide), nI_clamp (by omega), hco, bnd_s]
  rw [if_pos (by decide), if_neg (by decide), show ((-10 : Int32) - (-12)) = 2 from by decide, bnd_s, if_neg (by decide), if_neg (by decide), if_pos rfl]
  have e2 : est (nmM (σ 70) a b) (-12) st = σ 70 (11 * a + 1) :: st := rfl
  rw [show f_X8_of (nI a) 1 σ = some (σ 70 (11 * a + 1)) from of_m (k := 1) ha (by decide), bd1_s, ck_n (by omega : st.length < 160) (by decide), nI_clamp (by omega), bnd_s, bnd_s, bnd_s, nI_1, nI_1]
  rw [e2]
  exact ⟨_, rfl, by rw [up_s]; exact hS.push _, fun p hp => up_n hp⟩
theorem stm_n3 {σ : sg_T} {t pt a b i E : Nat} {u5 : Int32} {st : List Int32} (ht : t < 6) (hp : pt < 3) (ha : a < 5) (hb : b < 5) (hE : σ 76 (3 * t + pt) = nI E) (hco : σ 75 (160 * t + i) = (-13)) (hi : i < E) (hE2 : E ≤ 160) (hS : SR (σ 79) st) (hd : st.length < 36) : ∃ σ', b_X8_tell_39 (nI pt) (nI a) (nI b) (nI t) u5 (nI st.length) (nI i) σ = some (.inl (nI (est (nmM (σ 70) a b) (-13) st).length, nI (i + 1), σ')) ∧ SR (σ' 79) (est (nmM (σ 70) a b) (-13) st) ∧ ∀ p, p ≠ 79 → σ' p = σ p := by
  have q1 : (3 : Int32) * nI t + nI pt = nI (3 * t + pt) := by rw [n_3, pk_mul, nI_add]
  have q2 : (160 : Int32) * nI t + nI i = nI (160 * t + i) := by rw [n_160, pk_mul, nI_add]
  unfold b_X8_tell_39
  rw [q1, ck_n (by omega) (by decide), nI_clamp (by omega), hE, if_neg (nle_of_lt hi (by omega)), q2, ck_n (by omega) (by decide), nI_clamp (by omega), hco, bnd_s]
  rw [if_pos (by decide), if_neg (by decide), show ((-10 : Int32) - (-13)) = 3 from by decide, bnd_s, if_neg (by decide), if_neg (by decide), if_neg (by decide), if_pos rfl]
  have e2 : est (nmM (σ 70) a b) (-13) st = σ 70 56 :: st := rfl
  rw [show (56 : Int32) = nI 56 from rfl, ck_n (by decide) (by decide), nI_clamp (by decide : 56 < 2 ^ 31), ck_n (by omega : st.length < 160) (by decide), nI_clamp (by omega), bnd_s, bnd_s, bnd_s, nI_1, nI_1]
  rw [e2]
  exact ⟨_, rfl, by rw [up_s]; exact hS.push _, fun p hp => up_n hp⟩
theorem stm_n4 {σ : sg_T} {t pt a b i E : Nat} {u5 : Int32} {st : List Int32} (ht : t < 6) (hp : pt < 3) (ha : a < 5) (hb : b < 5) (hE : σ 76 (3 * t + pt) = nI E) (hco : σ 75 (160 * t + i) = (-14)) (hi : i < E) (hE2 : E ≤ 160) (hS : SR (σ 79) st) (hd : st.length < 36) : ∃ σ', b_X8_tell_39 (nI pt) (nI a) (nI b) (nI t) u5 (nI st.length) (nI i) σ = some (.inl (nI (est (nmM (σ 70) a b) (-14) st).length, nI (i + 1), σ')) ∧ SR (σ' 79) (est (nmM (σ 70) a b) (-14) st) ∧ ∀ p, p ≠ 79 → σ' p = σ p := by
  have q1 : (3 : Int32) * nI t + nI pt = nI (3 * t + pt) := by rw [n_3, pk_mul, nI_add]
  have q2 : (160 : Int32) * nI t + nI i = nI (160 * t + i) := by rw [n_160, pk_mul, nI_add]
  unfold b_X8_tell_39
  rw [q1, ck_n (by omega) (by decide), nI_clamp (by omega), hE, if_neg (nle_of_lt hi (by omega)), q2, ck_n (by omega) (by decide), nI_clamp (by omega), hco, bnd_s]
  rw [if_pos (by decide), if_neg (by decide), show ((-10 : Int32) - (-14)) = 4 from by decide, bnd_s, if_neg (by decide), if_neg (by decide), if_neg (by decide), if_neg (by decide), if_pos rfl]
  have e2 : est (nmM (σ 70) a b) (-14) st = σ 70 (11 * a + 3) :: st := rfl
  rw [n_3, of_m ha (by decide), bd1_s, ck_n (by omega : st.length < 160) (by decide), nI_clamp (by omega), bnd_s, bnd_s, bnd_s, nI_1, nI_1]
  rw [e2]
  exact ⟨_, rfl, by rw [up_s]; exact hS.push _, fun p hp => up_n hp⟩
theorem stm_n5 {σ : sg_T} {t pt a b i E : Nat} {u5 : Int32} {st : List Int32} (ht : t < 6) (hp : pt < 3) (ha : a < 5) (hb : b < 5) (hE : σ 76 (3 * t + pt) = nI E) (hco : σ 75 (160 * t + i) = (-15)) (hi : i < E) (hE2 : E ≤ 160) (hS : SR (σ 79) st) (hd : st.length < 36) : ∃ σ', b_X8_tell_39 (nI pt) (nI a) (nI b) (nI t) u5 (nI st.length) (nI i) σ = some (.inl (nI (est (nmM (σ 70) a b) (-15) st).length, nI (i + 1), σ')) ∧ SR (σ' 79) (est (nmM (σ 70) a b) (-15) st) ∧ ∀ p, p ≠ 79 → σ' p = σ p := by
  have q1 : (3 : Int32) * nI t + nI pt = nI (3 * t + pt) := by rw [n_3, pk_mul, nI_add]
  have q2 : (160 : Int32) * nI t + nI i = nI (160 * t + i) := by rw [n_160, pk_mul, nI_add]
  unfold b_X8_tell_39
  rw [q1, ck_n (by omega) (by decide), nI_clamp (by omega), hE, if_neg (nle_of_lt hi (by omega)), q2, ck_n (by omega) (by decide), nI_clamp (by omega), hco, bnd_s]
  rw [if_pos (by decide), if_neg (by decide), show ((-10 : Int32) - (-15)) = 5 from by decide, bnd_s, if_neg (by decide), if_neg (by decide), if_neg (by decide), if_neg (by decide), if_neg (by decide)]
  have e2 : est (nmM (σ 70) a b) (-15) st = σ 70 (11 * b + 4) :: st := rfl
  rw [show (4 : Int32) = nI 4 from rfl, of_m hb (by decide), bd1_s, ck_n (by omega : st.length < 160) (by decide), nI_clamp (by omega), bnd_s, bnd_s, bnd_s, nI_1, nI_1]
  rw [e2]
  exact ⟨_, rfl, by rw [up_s]; exact hS.push _, fun p hp => up_n hp⟩
theorem stm_not {σ : sg_T} {t pt a b i E : Nat} {u5 : Int32} {x : Int32} {s : List Int32} (ht : t < 6) (hp : pt < 3) (ha : a < 5) (hb : b < 5) (hE : σ 76 (3 * t + pt) = nI E) (hco : σ 75 (160 * t + i) = (-22)) (hi : i < E) (hE2 : E ≤ 160) (hS : SR (σ 79) (x :: s)) (hd : (x :: s).length ≤ 36) : ∃ σ', b_X8_tell_39 (nI pt) (nI a) (nI b) (nI t) u5 (nI (x :: s).length) (nI i) σ = some (.inl (nI (est (nmM (σ 70) a b) (-22) (x :: s)).length, nI (i + 1), σ')) ∧ SR (σ' 79) (est (nmM (σ 70) a b) (-22) (x :: s)) ∧ ∀ p, p ≠ 79 → σ' p = σ p := by
  have e2 : est (nmM (σ 70) a b) (-22) (x :: s) = (if x = 0 then 1 else 0) :: s := rfl
  have hl : s.length < 36 := hd
  have q1 : (3 : Int32) * nI t + nI pt = nI (3 * t + pt) := by rw [n_3, pk_mul, nI_add]
  have q2 : (160 : Int32) * nI t + nI i = nI (160 * t + i) := by rw [n_160, pk_mul, nI_add]
  unfold b_X8_tell_39
  rw [q1, ck_n (by omega) (by decide), nI_clamp (by omega), hE, if_neg (nle_of_lt hi (by omega)), q2, ck_n (by omega) (by decide), nI_clamp (by omega), hco, bnd_s]
  rw [if_pos (by decide), if_pos (by decide), if_pos rfl, List.length_cons, nI_pred, ck_n (by omega : s.length < 160) (by decide), nI_clamp (by omega), hS.top, bnd_s]
  have hy : f_X8_yes (if x = 0 then 1 else 0) σ = some (if x = 0 then 1 else 0) := by
    unfold f_X8_yes; rw [bnd_s]; by_cases h : x = 0 <;> simp [h]
  rw [hy, bd1_s, ck_n (by omega : s.length < 160) (by decide), bnd_s, bnd_s, nI_1, e2]
  exact ⟨_, rfl, by rw [up_s]; exact hS.put _, fun p hp => up_n hp⟩
theorem stm_neg {σ : sg_T} {t pt a b i E : Nat} {u5 : Int32} {x : Int32} {s : List Int32} (ht : t < 6) (hp : pt < 3) (ha : a < 5) (hb : b < 5) (hE : σ 76 (3 * t + pt) = nI E) (hco : σ 75 (160 * t + i) = (-28)) (hi : i < E) (hE2 : E ≤ 160) (hS : SR (σ 79) (x :: s)) (hd : (x :: s).length ≤ 36) : ∃ σ', b_X8_tell_39 (nI pt) (nI a) (nI b) (nI t) u5 (nI (x :: s).length) (nI i) σ = some (.inl (nI (est (nmM (σ 70) a b) (-28) (x :: s)).length, nI (i + 1), σ')) ∧ SR (σ' 79) (est (nmM (σ 70) a b) (-28) (x :: s)) ∧ ∀ p, p ≠ 79 → σ' p = σ p := by
  have e2 : est (nmM (σ 70) a b) (-28) (x :: s) = (-x) :: s := rfl
  have hl : s.length < 36 := hd
  have q1 : (3 : Int32) * nI t + nI pt = nI (3 * t + pt) := by rw [n_3, pk_mul, nI_add]
  have q2 : (160 : Int32) * nI t + nI i = nI (160 * t + i) := by rw [n_160, pk_mul, nI_add]
  unfold b_X8_tell_39
  rw [q1, ck_n (by omega) (by decide), nI_clamp (by omega), hE, if_neg (nle_of_lt hi (by omega)), q2, ck_n (by omega) (by decide), nI_clamp (by omega), hco, bnd_s]
  rw [if_pos (by decide), if_pos (by decide), if_neg (by decide), if_pos rfl, List.length_cons, nI_pred, ck_n (by omega : s.length < 160) (by decide), ck_n (by omega : s.length < 160) (by decide), nI_clamp (by omega), hS.top, bnd_s, bnd_s, nI_1, e2]
  exact ⟨_, rfl, by rw [up_s]; exact hS.put _, fun p hp => up_n hp⟩
theorem stm_b20 {σ : sg_T} {t pt a b i E : Nat} {u5 : Int32} {x y : Int32} {s : List Int32} (ht : t < 6) (hp : pt < 3) (ha : a < 5) (hb : b < 5) (hE : σ 76 (3 * t + pt) = nI E) (hco : σ 75 (160 * t + i) = (-20)) (hi : i < E) (hE2 : E ≤ 160) (hS : SR (σ 79) (y :: x :: s)) (hd : (y :: x :: s).length ≤ 36) : ∃ σ', b_X8_tell_39 (nI pt) (nI a) (nI b) (nI t) u5 (nI (y :: x :: s).length) (nI i) σ = some (.inl (nI (est (nmM (σ 70) a b) (-20) (y :: x :: s)).length, nI (i + 1), σ')) ∧ SR (σ' 79) (est (nmM (σ 70) a b) (-20) (y :: x :: s)) ∧ ∀ p, p ≠ 79 → σ' p = σ p := by
  have e2 : est (nmM (σ 70) a b) (-20) (y :: x :: s) = dd (-20) x y :: s := rfl
  have hl : s.length + 1 < 36 := hd
  have ht1 : σ 79 (s.length + 1) = y := hS.top
  have ht2 : σ 79 s.length = x := hS.tail.top
  have q1 : (3 : Int32) * nI t + nI pt = nI (3 * t + pt) := by rw [n_3, pk_mul, nI_add]
  have q2 : (160 : Int32) * nI t + nI i = nI (160 * t + i) := by rw [n_160, pk_mul, nI_add]
  unfold b_X8_tell_39
  rw [q1, ck_n (by omega) (by decide), nI_clamp (by omega), hE, if_neg (nle_of_lt hi (by omega)), q2, ck_n (by omega) (by decide), nI_clamp (by omega), hco, bnd_s]
  rw [if_pos (by decide), if_pos (by decide), if_neg (by decide), if_neg (by decide), List.length_cons, List.length_cons, pk_m1, bnd_s, nI_pred, ck_n (by omega : s.length < 160) (by decide), ck_n (by omega : s.length + 1 < 160) (by decide), nI_clamp (by omega), nI_clamp (by omega), ht1, ht2, deed_20, bd1_s, ck_n (by omega : s.length < 160) (by decide), bnd_s, bnd_s, nI_1, e2]
  exact ⟨_, rfl, by rw [up_s]; exact hS.tail.put _, fun p hp => up_n hp⟩
theorem stm_b21 {σ : sg_T} {t pt a b i E : Nat} {u5 : Int32} {x y : Int32} {s : List Int32} (ht : t < 6) (hp : pt < 3) (ha : a < 5) (hb : b < 5) (hE : σ 76 (3 * t + pt) = nI E) (hco : σ 75 (160 * t + i) = (-21)) (hi : i < E) (hE2 : E ≤ 160) (hS : SR (σ 79) (y :: x :: s)) (hd : (y :: x :: s).length ≤ 36) : ∃ σ', b_X8_tell_39 (nI pt) (nI a) (nI b) (nI t) u5 (nI (y :: x :: s).length) (nI i) σ = some (.inl (nI (est (nmM (σ 70) a b) (-21) (y :: x :: s)).length, nI (i + 1), σ')) ∧ SR (σ' 79) (est (nmM (σ 70) a b) (-21) (y :: x :: s)) ∧ ∀ p, p ≠ 79 → σ' p = σ p := by
  have e2 : est (nmM (σ 70) a b) (-21) (y :: x :: s) = dd (-21) x y :: s := rfl
  have hl : s.length + 1 < 36 := hd
  have ht1 : σ 79 (s.length + 1) = y := hS.top
  have ht2 : σ 79 s.length = x := hS.tail.top
  have q1 : (3 : Int32) * nI t + nI pt = nI (3 * t + pt) := by rw [n_3, pk_mul, nI_add]
  have q2 : (160 : Int32) * nI t + nI i = nI (160 * t + i) := by rw [n_160, pk_mul, nI_add]
  unfold b_X8_tell_39
  rw [q1, ck_n (by omega) (by decide), nI_clamp (by omega), hE, if_neg (nle_of_lt hi (by omega)), q2, ck_n (by omega) (by decide), nI_clamp (by omega), hco, bnd_s]
  rw [if_pos (by decide), if_pos (by decide), if_neg (by decide), if_neg (by decide), List.length_cons, List.length_cons, pk_m1, bnd_s, nI_pred, ck_n (by omega : s.length < 160) (by decide), ck_n (by omega : s.length + 1 < 160) (by decide), nI_clamp (by omega), nI_clamp (by omega), ht1, ht2, deed_21, bd1_s, ck_n (by omega : s.length < 160) (by decide), bnd_s, bnd_s, nI_1, e2]
  exact ⟨_, rfl, by rw [up_s]; exact hS.tail.put _, fun p hp => up_n hp⟩
theorem stm_b23 {σ : sg_T} {t pt a b i E : Nat} {u5 : Int32} {x y : Int32} {s : List Int32} (ht : t < 6) (hp : pt < 3) (ha : a < 5) (hb : b < 5) (hE : σ 76 (3 * t + pt) = nI E) (hco : σ 75 (160 * t + i) = (-23)) (hi : i < E) (hE2 : E ≤ 160) (hS : SR (σ 79) (y :: x :: s)) (hd : (y :: x :: s).length ≤ 36) : ∃ σ', b_X8_tell_39 (nI pt) (nI a) (nI b) (nI t) u5 (nI (y :: x :: s).length) (nI i) σ = some (.inl (nI (est (nmM (σ 70) a b) (-23) (y :: x :: s)).length, nI (i + 1), σ')) ∧ SR (σ' 79) (est (nmM (σ 70) a b) (-23) (y :: x :: s)) ∧ ∀ p, p ≠ 79 → σ' p = σ p := by
  have e2 : est (nmM (σ 70) a b) (-23) (y :: x :: s) = dd (-23) x y :: s := rfl
  have hl : s.length + 1 < 36 := hd
  have ht1 : σ 79 (s.length + 1) = y := hS.top
  have ht2 : σ 79 s.length = x := hS.tail.top
  have q1 : (3 : Int32) * nI t + nI pt = nI (3 * t + pt) := by rw [n_3, pk_mul, nI_add]
  have q2 : (160 : Int32) * nI t + nI i = nI (160 * t + i) := by rw [n_160, pk_mul, nI_add]
  unfold b_X8_tell_39
  rw [q1, ck_n (by omega) (by decide), nI_clamp (by omega), hE, if_neg (nle_of_lt hi (by omega)), q2, ck_n (by omega) (by decide), nI_clamp (by omega), hco, bnd_s]
  rw [if_pos (by decide), if_pos (by decide), if_neg (by decide), if_neg (by decide), List.length_cons, List.length_cons, pk_m1, bnd_s, nI_pred, ck_n (by omega : s.length < 160) (by decide), ck_n (by omega : s.length + 1 < 160) (by decide), nI_clamp (by omega), nI_clamp (by omega), ht1, ht2, deed_23, bd1_s, ck_n (by omega : s.length < 160) (by decide), bnd_s, bnd_s, nI_1, e2]
  exact ⟨_, rfl, by rw [up_s]; exact hS.tail.put _, fun p hp => up_n hp⟩
theorem stm_b24 {σ : sg_T} {t pt a b i E : Nat} {u5 : Int32} {x y : Int32} {s : List Int32} (ht : t < 6) (hp : pt < 3) (ha : a < 5) (hb : b < 5) (hE : σ 76 (3 * t + pt) = nI E) (hco : σ 75 (160 * t + i) = (-24)) (hi : i < E) (hE2 : E ≤ 160) (hS : SR (σ 79) (y :: x :: s)) (hd : (y :: x :: s).length ≤ 36) : ∃ σ', b_X8_tell_39 (nI pt) (nI a) (nI b) (nI t) u5 (nI (y :: x :: s).length) (nI i) σ = some (.inl (nI (est (nmM (σ 70) a b) (-24) (y :: x :: s)).length, nI (i + 1), σ')) ∧ SR (σ' 79) (est (nmM (σ 70) a b) (-24) (y :: x :: s)) ∧ ∀ p, p ≠ 79 → σ' p = σ p := by
  have e2 : est (nmM (σ 70) a b) (-24) (y :: x :: s) = dd (-24) x y :: s := rfl
  have hl : s.length + 1 < 36 := hd
  have ht1 : σ 79 (s.length + 1) = y := hS.top
  have ht2 : σ 79 s.length = x := hS.tail.top
  have q1 : (3 : Int32) * nI t + nI pt = nI (3 * t + pt) := by rw [n_3, pk_mul, nI_add]
  have q2 : (160 : Int32) * nI t + nI i = nI (160 * t + i) := by rw [n_160, pk_mul, nI_add]
  unfold b_X8_tell_39
  rw [q1, ck_n (by omega) (by decide), nI_clamp (by omega), hE, if_neg (nle_of_lt hi (by omega)), q2, ck_n (by omega) (by decide), nI_clamp (by omega), hco, bnd_s]
  rw [if_pos (by decide), if_pos (by decide), if_neg (by decide), if_neg (by decide), List.length_cons, List.length_cons, pk_m1, bnd_s, nI_pred, ck_n (by omega : s.length < 160) (by decide), ck_n (by omega : s.length + 1 < 160) (by decide), nI_clamp (by omega), nI_clamp (by omega), ht1, ht2, deed_24, bd1_s, ck_n (by omega : s.length < 160) (by decide), bnd_s, bnd_s, nI_1, e2]
  exact ⟨_, rfl, by rw [up_s]; exact hS.tail.put _, fun p hp => up_n hp⟩
theorem stm_b25 {σ : sg_T} {t pt a b i E : Nat} {u5 : Int32} {x y : Int32} {s : List Int32} (ht : t < 6) (hp : pt < 3) (ha : a < 5) (hb : b < 5) (hE : σ 76 (3 * t + pt) = nI E) (hco : σ 75 (160 * t + i) = (-25)) (hi : i < E) (hE2 : E ≤ 160) (hS : SR (σ 79) (y :: x :: s)) (hd : (y :: x :: s).length ≤ 36) : ∃ σ', b_X8_tell_39 (nI pt) (nI a) (nI b) (nI t) u5 (nI (y :: x :: s).length) (nI i) σ = some (.inl (nI (est (nmM (σ 70) a b) (-25) (y :: x :: s)).length, nI (i + 1), σ')) ∧ SR (σ' 79) (est (nmM (σ 70) a b) (-25) (y :: x :: s)) ∧ ∀ p, p ≠ 79 → σ' p = σ p := by
  have e2 : est (nmM (σ 70) a b) (-25) (y :: x :: s) = dd (-25) x y :: s := rfl
  have hl : s.length + 1 < 36 := hd
  have ht1 : σ 79 (s.length + 1) = y := hS.top
  have ht2 : σ 79 s.length = x := hS.tail.top
  have q1 : (3 : Int32) * nI t + nI pt = nI (3 * t + pt) := by rw [n_3, pk_mul, nI_add]
  have q2 : (160 : Int32) * nI t + nI i = nI (160 * t + i) := by rw [n_160, pk_mul, nI_add]
  unfold b_X8_tell_39
  rw [q1, ck_n (by omega) (by decide), nI_clamp (by omega), hE, if_neg (nle_of_lt hi (by omega)), q2, ck_n (by omega) (by decide), nI_clamp (by omega), hco, bnd_s]
  rw [if_pos (by decide), if_pos (by decide), if_neg (by decide), if_neg (by decide), List.length_cons, List.length_cons, pk_m1, bnd_s, nI_pred, ck_n (by omega : s.length < 160) (by decide), ck_n (by omega : s.length + 1 < 160) (by decide), nI_clamp (by omega), nI_clamp (by omega), ht1, ht2, deed_25, bd1_s, ck_n (by omega : s.length < 160) (by decide), bnd_s, bnd_s, nI_1, e2]
  exact ⟨_, rfl, by rw [up_s]; exact hS.tail.put _, fun p hp => up_n hp⟩
theorem stm_b26 {σ : sg_T} {t pt a b i E : Nat} {u5 : Int32} {x y : Int32} {s : List Int32} (ht : t < 6) (hp : pt < 3) (ha : a < 5) (hb : b < 5) (hE : σ 76 (3 * t + pt) = nI E) (hco : σ 75 (160 * t + i) = (-26)) (hi : i < E) (hE2 : E ≤ 160) (hS : SR (σ 79) (y :: x :: s)) (hd : (y :: x :: s).length ≤ 36) : ∃ σ', b_X8_tell_39 (nI pt) (nI a) (nI b) (nI t) u5 (nI (y :: x :: s).length) (nI i) σ = some (.inl (nI (est (nmM (σ 70) a b) (-26) (y :: x :: s)).length, nI (i + 1), σ')) ∧ SR (σ' 79) (est (nmM (σ 70) a b) (-26) (y :: x :: s)) ∧ ∀ p, p ≠ 79 → σ' p = σ p := by
  have e2 : est (nmM (σ 70) a b) (-26) (y :: x :: s) = dd (-26) x y :: s := rfl
  have hl : s.length + 1 < 36 := hd
  have ht1 : σ 79 (s.length + 1) = y := hS.top
  have ht2 : σ 79 s.length = x := hS.tail.top
  have q1 : (3 : Int32) * nI t + nI pt = nI (3 * t + pt) := by rw [n_3, pk_mul, nI_add]
  have q2 : (160 : Int32) * nI t + nI i = nI (160 * t + i) := by rw [n_160, pk_mul, nI_add]
  unfold b_X8_tell_39
  rw [q1, ck_n (by omega) (by decide), nI_clamp (by omega), hE, if_neg (nle_of_lt hi (by omega)), q2, ck_n (by omega) (by decide), nI_clamp (by omega), hco, bnd_s]
  rw [if_pos (by decide), if_pos (by decide), if_neg (by decide), if_neg (by decide), List.length_cons, List.length_cons, pk_m1, bnd_s, nI_pred, ck_n (by omega : s.length < 160) (by decide), ck_n (by omega : s.length + 1 < 160) (by decide), nI_clamp (by omega), nI_clamp (by omega), ht1, ht2, deed_26, bd1_s, ck_n (by omega : s.length < 160) (by decide), bnd_s, bnd_s, nI_1, e2]
  exact ⟨_, rfl, by rw [up_s]; exact hS.tail.put _, fun p hp => up_n hp⟩
theorem stm_b27 {σ : sg_T} {t pt a b i E : Nat} {u5 : Int32} {x y : Int32} {s : List Int32} (ht : t < 6) (hp : pt < 3) (ha : a < 5) (hb : b < 5) (hE : σ 76 (3 * t + pt) = nI E) (hco : σ 75 (160 * t + i) = (-27)) (hi : i < E) (hE2 : E ≤ 160) (hS : SR (σ 79) (y :: x :: s)) (hd : (y :: x :: s).length ≤ 36) : ∃ σ', b_X8_tell_39 (nI pt) (nI a) (nI b) (nI t) u5 (nI (y :: x :: s).length) (nI i) σ = some (.inl (nI (est (nmM (σ 70) a b) (-27) (y :: x :: s)).length, nI (i + 1), σ')) ∧ SR (σ' 79) (est (nmM (σ 70) a b) (-27) (y :: x :: s)) ∧ ∀ p, p ≠ 79 → σ' p = σ p := by
  have e2 : est (nmM (σ 70) a b) (-27) (y :: x :: s) = dd (-27) x y :: s := rfl
  have hl : s.length + 1 < 36 := hd
  have ht1 : σ 79 (s.length + 1) = y := hS.top
  have ht2 : σ 79 s.length = x := hS.tail.top
  have q1 : (3 : Int32) * nI t + nI pt = nI (3 * t + pt) := by rw [n_3, pk_mul, nI_add]
  have q2 : (160 : Int32) * nI t + nI i = nI (160 * t + i) := by rw [n_160, pk_mul, nI_add]
  unfold b_X8_tell_39
  rw [q1, ck_n (by omega) (by decide), nI_clamp (by omega), hE, if_neg (nle_of_lt hi (by omega)), q2, ck_n (by omega) (by decide), nI_clamp (by omega), hco, bnd_s]
  rw [if_pos (by decide), if_pos (by decide), if_neg (by decide), if_neg (by decide), List.length_cons, List.length_cons, pk_m1, bnd_s, nI_pred, ck_n (by omega : s.length < 160) (by decide), ck_n (by omega : s.length + 1 < 160) (by decide), nI_clamp (by omega), nI_clamp (by omega), ht1, ht2, deed_27, bd1_s, ck_n (by omega : s.length < 160) (by decide), bnd_s, bnd_s, nI_1, e2]
  exact ⟨_, rfl, by rw [up_s]; exact hS.tail.put _, fun p hp => up_n hp⟩
theorem stm {σ : sg_T} {t pt a b i E : Nat} {u5 c : Int32} {cs st : List Int32} {e : Nat} (hv : vcd c) (hdp : dpt (c :: cs) st.length = some e) (hd : st.length ≤ 36) (ht : t < 6) (hp : pt < 3) (ha : a < 5) (hb : b < 5) (hE : σ 76 (3 * t + pt) = nI E) (hco : σ 75 (160 * t + i) = c) (hi : i < E) (hE2 : E ≤ 160) (hS : SR (σ 79) st) : (∃ σ', b_X8_tell_39 (nI pt) (nI a) (nI b) (nI t) u5 (nI st.length) (nI i) σ = some (.inl (nI (est (nmM (σ 70) a b) c st).length, nI (i + 1), σ')) ∧ SR (σ' 79) (est (nmM (σ 70) a b) c st) ∧ ∀ p, p ≠ 79 → σ' p = σ p) ∧ dpt cs (est (nmM (σ 70) a b) c st).length = some e ∧ (est (nmM (σ 70) a b) c st).length ≤ 36 := by
  rcases hv with h | h | h | h | h | h | h | h | h | h | h | h | h | h | h | h
  · obtain ⟨h1, h2⟩ := dpt_op hdp (gt_m20 h)
    have e2 : est (nmM (σ 70) a b) c st = c :: st := by unfold est; rw [if_pos h]
    exact ⟨stm_num h ht hp ha hb hE hco hi hE2 hS h1, by rw [e2]; exact h2, by rw [e2]; exact h1⟩
  · subst h
    obtain ⟨h1, h2⟩ := dpt_op hdp (by decide)
    exact ⟨stm_n0 ht hp ha hb hE hco hi hE2 hS h1, h2, h1⟩
  · subst h
    obtain ⟨h1, h2⟩ := dpt_op hdp (by decide)
    exact ⟨stm_n1 ht hp ha hb hE hco hi hE2 hS h1, h2, h1⟩
  · subst h
    obtain ⟨h1, h2⟩ := dpt_op hdp (by decide)
    exact ⟨stm_n2 ht hp ha hb hE hco hi hE2 hS h1, h2, h1⟩
  · subst h
    obtain ⟨h1, h2⟩ := dpt_op hdp (by decide)
    exact ⟨stm_n3 ht hp ha hb hE hco hi hE2 hS h1, h2, h1⟩
  · subst h
    obtain ⟨h1, h2⟩ := dpt_op hdp (by decide)
    exact ⟨stm_n4 ht hp ha hb hE hco hi hE2 hS h1, h2, h1⟩
  · subst h
    obtain ⟨h1, h2⟩ := dpt_op hdp (by decide)
    exact ⟨stm_n5 ht hp ha hb hE hco hi hE2 hS h1, h2, h1⟩
  · subst h
    obtain ⟨h1, h2⟩ := dpt_bi hdp (by decide) (by decide)
    match st, h1, h2, hS, hd with
    | y :: x :: s, h1, h2, hS, hd => exact ⟨stm_b20 ht hp ha hb hE hco hi hE2 hS hd, h2, Nat.le_of_succ_le hd⟩
  · subst h
    obtain ⟨h1, h2⟩ := dpt_bi hdp (by decide) (by decide)
    match st, h1, h2, hS, hd with
    | y :: x :: s, h1, h2, hS, hd => exact ⟨stm_b21 ht hp ha hb hE hco hi hE2 hS hd, h2, Nat.le_of_succ_le hd⟩
  · subst h
    obtain ⟨h1, h2⟩ := dpt_un hdp (by decide) (by decide)
    match st, h1, h2, hS, hd with
    | x :: s, h1, h2, hS, hd => exact ⟨stm_not ht hp ha hb hE hco hi hE2 hS hd, h2, hd⟩
  · subst h
    obtain ⟨h1, h2⟩ := dpt_bi hdp (by decide) (by decide)
    match st, h1, h2, hS, hd with
    | y :: x :: s, h1, h2, hS, hd => exact ⟨stm_b23 ht hp ha hb hE hco hi hE2 hS hd, h2, Nat.le_of_succ_le hd⟩
  · subst h
    obtain ⟨h1, h2⟩ := dpt_bi hdp (by decide) (by decide)
    match st, h1, h2, hS, hd with
    | y :: x :: s, h1, h2, hS, hd => exact ⟨stm_b24 ht hp ha hb hE hco hi hE2 hS hd, h2, Nat.le_of_succ_le hd⟩
  · subst h
    obtain ⟨h1, h2⟩ := dpt_bi hdp (by decide) (by decide)
    match st, h1, h2, hS, hd with
    | y :: x :: s, h1, h2, hS, hd => exact ⟨stm_b25 ht hp ha hb hE hco hi hE2 hS hd, h2, Nat.le_of_succ_le hd⟩
  · subst h
    obtain ⟨h1, h2⟩ := dpt_bi hdp (by decide) (by decide)
    match st, h1, h2, hS, hd with
    | y :: x :: s, h1, h2, hS, hd => exact ⟨stm_b26 ht hp ha hb hE hco hi hE2 hS hd, h2, Nat.le_of_succ_le hd⟩
  · subst h
    obtain ⟨h1, h2⟩ := dpt_bi hdp (by decide) (by decide)
    match st, h1, h2, hS, hd with
    | y :: x :: s, h1, h2, hS, hd => exact ⟨stm_b27 ht hp ha hb hE hco hi hE2 hS hd, h2, Nat.le_of_succ_le hd⟩
  · subst h
    obtain ⟨h1, h2⟩ := dpt_un hdp (by decide) (by decide)
    match st, h1, h2, hS, hd with
    | x :: s, h1, h2, hS, hd => exact ⟨stm_neg ht hp ha hb hE hco hi hE2 hS hd, h2, hd⟩
theorem val_m {t pt a b E : Nat} {u5 : Int32} (ht : t < 6) (hp : pt < 3) (ha : a < 5) (hb : b < 5) (hE2 : E ≤ 160) : ∀ (cs : List Int32) (st : List Int32) (e i n : Nat) (σ : sg_T), (∀ c ∈ cs, vcd c) → dpt cs st.length = some e → st.length ≤ 36 → SR (σ 79) st → σ 76 (3 * t + pt) = nI E → (∀ k, k < cs.length → σ 75 (160 * t + (i + k)) = cs.getD k 0) → i + cs.length = E → cs.length < n → ∃ σ', itr (fun q => b_X8_tell_39 (nI pt) (nI a) (nI b) (nI t) u5 q.1 q.2.1 q.2.2) n (nI st.length, nI i, σ) = some (nI e, nI E, σ') ∧ SR (σ' 79) (evc (nmM (σ 70) a b) cs st) ∧ (evc (nmM (σ 70) a b) cs st).length = e ∧ ∀ p, p ≠ 79 → σ' p = σ p
  | [], st, e, i, n, σ, hv, hdp, hd, hS, hE, hco, hi, hn => by
    obtain ⟨n', rfl⟩ : ∃ n', n = n' + 1 := ⟨n - 1, by simp at hn; omega⟩
    cases hdp
    have hiE : i = E := by simpa using hi
    subst hiE
    refine ⟨σ, itr_r ?_, hS, rfl, fun _ _ => rfl⟩
    show b_X8_tell_39 (nI pt) (nI a) (nI b) (nI t) u5 (nI st.length) (nI i) σ = _
    have q1 : (3 : Int32) * nI t + nI pt = nI (3 * t + pt) := by rw [n_3, pk_mul, nI_add]
    unfold b_X8_tell_39
    rw [q1, ck_n (by omega) (by decide), nI_clamp (by omega), hE, if_pos (Int32.le_refl _)]
  | c :: cs, st, e, i, n, σ, hv, hdp, hd, hS, hE, hco, hi, hn => by
    obtain ⟨n', rfl⟩ : ∃ n', n = n' + 1 := ⟨n - 1, by simp at hn; omega⟩
    simp only [List.length_cons] at hi hn
    have hc0 : σ 75 (160 * t + i) = c := hco 0 (by simp)
    obtain ⟨⟨σ1, h1, h2, h3⟩, h4, h5⟩ := stm (u5 := u5) (E := E) (hv c (List.mem_cons_self)) hdp hd ht hp ha hb hE hc0 (by omega) hE2 hS
    obtain ⟨σ2, g1, g2, g3, g4⟩ := val_m ht hp ha hb hE2 cs (est (nmM (σ 70) a b) c st) e (i + 1) n' σ1 (fun x hx => hv x (List.mem_cons_of_mem _ hx)) h4 h5 h2 (by rw [h3 76 (by decide)]; exact hE) (fun k hk => by
      rw [h3 75 (by decide)]
      have := hco (k + 1) (by simp; omega)
      rw [List.getD_cons_succ] at this
      rw [← this]; congr 1; omega) (by omega) (by omega)
    rw [h3 70 (by decide)] at g2 g3
    exact ⟨σ2, by rw [itr_l h1]; exact g1, g2, g3, fun p hp => by rw [g4 p hp, h3 p hp]⟩
