/-! A DAY's end, by the class. -/
theorem jmax_comm (x y : Int32) : jmax x y = jmax y x := Int32.toInt_inj.mp (by rw [jmax_toInt, jmax_toInt]; omega)
theorem jmin_comm (x y : Int32) : jmin x y = jmin y x := Int32.toInt_inj.mp (by rw [jmin_toInt, jmin_toInt]; omega)
theorem PC.put {σ : sg_T} {o : Nat} {a : pa_T} {m : Nat} {d ru : Int32} (h : PC σ o a m d ru) {i k : Nat} (hk : k < 6) (x : Int32) : PC (up σ (o + 1 + k) i x) o (up a i k x) m d ru := by
  obtain ⟨h1, h2, h3, h4, h5, h6, h7⟩ := h
  refine ⟨h1, ?_, ?_, ?_, fun i' hi k' hk' => ?_, fun i' j hi hj hij => ?_, fun i' hi => ?_⟩
  · rw [up_ne (by omega)]; exact h2
  · rw [up_ne (by omega)]; exact h3
  · rw [up_ne (by omega)]; exact h4
  · rw [up_at, up_at, h5 i' hi k' hk']
    by_cases e : i' = i ∧ k' = k
    · rw [if_pos e, if_pos (by omega)]
    · rw [if_neg e, if_neg (by omega)]
  · rw [up_ne (by omega), up_at, if_neg (by omega)]; exact h6 i' j hi hj hij
  · rw [up_ne (by omega)]; exact h7 i' hi
theorem PC.putF {σ : sg_T} {o : Nat} {a : pa_T} {m : Nat} {d ru : Int32} (h : PC σ o a m d ru) {i j : Nat} (hi : i < m) (hj : j < m) (hij : i ≠ j) (x : Int32) : PC (up σ (o + 7) (i * 5 + j) x) o (up a i (6 + j) x) m d ru := by
  obtain ⟨h1, h2, h3, h4, h5, h6, h7⟩ := h
  refine ⟨h1, ?_, ?_, ?_, fun i' hi' k' hk' => ?_, fun i' j' hi' hj' hij' => ?_, fun i' hi' => ?_⟩
  · rw [up_ne (by omega)]; exact h2
  · rw [up_ne (by omega)]; exact h3
  · rw [up_ne (by omega)]; exact h4
  · rw [up_ne (by omega), up_at, if_neg (by omega)]; exact h5 i' hi' k' hk'
  · rw [up_at, up_at, h6 i' j' hi' hj' hij']
    by_cases e : i' = i ∧ j' = j
    · rw [if_pos (by omega), if_pos (by omega)]
    · rw [if_neg (by omega), if_neg (by omega)]
  · rw [up_nk (by omega)]; exact h7 i' hi'
/-- what one's own row comes to behind a day -/
def dA1 (S mo la fo : Int32) (b : pa_T) (i : Nat) : pa_T :=
  if S = -1 then up (up b i 3 (jmax 0 (b i 3 - 10))) i 4 (jmin 99 (b i 4 + 1))
  else up (up (up b i 3 (jmax 0 (jmin 99 (b i 3 + mo)))) i 5 (jmin 9999 (b i 5 + la))) S.toNatClampNeg (6 + i) (jmax 0 (jmin 9 (b S.toNatClampNeg (6 + i) + fo)))
def dA (T : tx_T) (ru : Nat) (a : pa_T) (m : Nat) (d : Int32) : Nat → pa_T
  | 0 => a
  | k + 1 => dA1 (setr a m k) (sMo T ru a m d k) (sLa T ru a m d k) (sFo T ru a m d k) (dA T ru a m d k) k
theorem dA_1 (T : tx_T) (ru : Nat) (a : pa_T) (m : Nat) (d : Int32) (k : Nat) : dA T ru a m d (k + 1) = dA1 (setr a m k) (sMo T ru a m d k) (sLa T ru a m d k) (sFo T ru a m d k) (dA T ru a m d k) k := rfl
theorem chi3 : c_hi 3 = 99 := by decide
theorem chi4 : c_hi 4 = 99 := by decide
theorem chi5 : c_hi 5 = 9999 := by decide
theorem chi6 : c_hi 6 = 9 := by decide
theorem miss_c {σ : sg_T} {o : Nat} {a : pa_T} {m : Nat} {d ru : Int32} (h : PC σ o a m d ru) {i : Nat} (hi : i < m) : f_X1_miss o (nI i) σ = some (up (up σ (o + 1 + 3) i (jmax 0 (a i 3 - 10))) (o + 1 + 4) i (jmin 99 (a i 4 + 1))) := by
  have hm := h.1
  have ck5 : ∀ {β : Type} (r : Option β), ck (nI i) 5 r = r := fun r => ck_n (by omega) (by decide)
  have ck4 : ∀ {β : Type} (r : Option β), ck 4 7 r = r := fun r => ck_n (i := 4) (by decide) (by decide)
  have e3 : σ (o + 4) i = a i 3 := h.2.2.2.2.1 i hi 3 (by decide)
  have e4 : σ (o + 5) i = a i 4 := h.2.2.2.2.1 i hi 4 (by decide)
  have e45 : ∀ x, up σ (o + 4) i x (o + 5) i = a i 4 := fun x => by rw [up_ne (by omega), e4]
  unfold f_X1_miss
  rw [has_in h.2.1 hm hi, bd1_s, if_neg (by decide), ck5, ck5, nI_clamp (by omega), e3, bnd_s, ck5, ck4, ck5, e45, bnd_s, chi4, jmax_comm, jmin_comm]
theorem wake_c {σ : sg_T} {o : Nat} {a : pa_T} {m : Nat} {d ru : Int32} (h : PC σ o a m d ru) {i : Nat} (hi : i < m) (x y : Int32) : f_X1_wake o (nI i) x y σ = some (up (up σ (o + 1 + 3) i (jmax 0 (jmin 99 (a i 3 + x)))) (o + 1 + 5) i (jmin 9999 (a i 5 + y))) := by
  have hm := h.1
  have ck5 : ∀ {β : Type} (r : Option β), ck (nI i) 5 r = r := fun r => ck_n (by omega) (by decide)
  have ck3 : ∀ {β : Type} (r : Option β), ck 3 7 r = r := fun r => ck_n (i := 3) (by decide) (by decide)
  have ck57 : ∀ {β : Type} (r : Option β), ck 5 7 r = r := fun r => ck_n (i := 5) (by decide) (by decide)
  have e3 : σ (o + 4) i = a i 3 := h.2.2.2.2.1 i hi 3 (by decide)
  have e5 : σ (o + 6) i = a i 5 := h.2.2.2.2.1 i hi 5 (by decide)
  have e46 : ∀ x, up σ (o + 4) i x (o + 6) i = a i 5 := fun x => by rw [up_ne (by omega), e5]
  unfold f_X1_wake
  rw [has_in h.2.1 hm hi, bd1_s, if_neg (by decide), ck5, ck3, nI_clamp (by omega), e3, bound_c, bd1_s, ck5, bnd_s, ck5, ck57, ck5, e46, bnd_s, chi5, chi3, jmin_comm (_ + y)]
theorem hasTwo_in {σ : sg_T} {o : Nat} {a : pa_T} {m : Nat} {d ru : Int32} (h : PC σ o a m d ru) {i j : Nat} (hi : i < m) (hj : j < m) (hij : i ≠ j) : f_X1_hasTwo o (nI i) (nI j) σ = some 1 := by
  have hm := h.1
  have hne : ¬ nI i = nI j := fun q => hij (by have := congrArg Int32.toNatClampNeg q; rwa [nI_clamp (by omega), nI_clamp (by omega)] at this)
  unfold f_X1_hasTwo
  rw [has_in h.2.1 hm hi, bd1_s, if_neg (by decide), has_in h.2.1 hm hj, bd1_s, if_neg (by decide), if_neg hne, bnd_s, cz_1]
theorem growF_c {σ : sg_T} {o : Nat} {a : pa_T} {m : Nat} {d ru : Int32} (h : PC σ o a m d ru) {i j : Nat} (hi : i < m) (hj : j < m) (hij : i ≠ j) (x : Int32) : f_X1_growFonder o (nI i) (nI j) x σ = some (up σ (o + 7) (i * 5 + j) (jmax 0 (jmin 9 (a i (6 + j) + x)))) := by
  have hm := h.1
  have e5 : nI i * 5 + nI j = nI (i * 5 + j) := by rw [n_5, pk_mul, nI_add]
  have ck25 : ∀ {β : Type} (r : Option β), ck (nI (i * 5 + j)) 25 r = r := fun r => ck_n (by omega) (by decide)
  have ck6 : ∀ {β : Type} (r : Option β), ck 6 7 r = r := fun r => ck_n (i := 6) (by decide) (by decide)
  unfold f_X1_growFonder
  rw [hasTwo_in h hi hj hij, bd1_s, if_neg (by decide), e5, bnd_s, ck25, ck6, nI_clamp (by omega), h.2.2.2.2.2.1 i j hi hj hij, bound_c, bd1_s, ck25, bnd_s, chi6]
def setI (T : tx_T) (ru : Nat) (a : pa_T) (m : Nat) (d : Int32) (o : Nat) (σ : sg_T) (k : Nat) (τ : sg_T) : Prop := PC τ o (dA T ru a m d k) m d (nI ru) ∧ ∀ q, ¬ (o ≤ q ∧ q < o + 8) → τ q = σ q
theorem settle_c {σ : sg_T} {o : Nat} {a : pa_T} {m : Nat} {d : Int32} {ru : Nat} {T : tx_T} (h : PC σ o a m d (nI ru)) (ho : isP o) {σ0 : sg_T} (hD : dawnI T ru a m d σ0 m σ) : ∃ τ, f_X0_settle o σ = some τ ∧ PC τ o (dA T ru a m d m) m (d + 1) (nI ru) ∧ ∀ q, ¬ (o ≤ q ∧ q < o + 8) → τ q = σ q := by
  have hm := h.1
  have hog := isP_ge ho
  have hrun : ∃ r, itr (fun q => b_X0_settle_2 o q.1 q.2) lfu (0, σ) = some r ∧ setI T ru a m d o σ m r.2 := by
    refine itr_run (f := fun q => b_X0_settle_2 o q.1 q.2) (I := fun k q => q.1 = nI k ∧ setI T ru a m d o σ k q.2) (R := fun r => setI T ru a m d o σ m r.2) m (a := (0, σ)) ⟨rfl, h, fun _ _ => rfl⟩ ?_ ?_ (by omega)
    · intro k hk ⟨w, τ⟩ ⟨hw, hP, hF⟩
      dsimp only at hw hP hF ⊢
      subst hw
      have ck5 : ∀ {β : Type} (r : Option β), ck (nI k) 5 r = r := fun r => ck_n (by omega) (by decide)
      have hmany : f_X1_many o τ = some (nI m) := by unfold f_X1_many; rw [hP.2.1]
      obtain ⟨d29, d30, d31, d4⟩ := hD.1 k hk
      unfold b_X0_settle_2
      rw [hmany, bd1_s, if_neg (nle_of_lt hk (by omega)), ck5, nI_clamp (by omega), hF 29 (by omega), d29]
      by_cases hs : setr a m k = -1
      · rw [if_pos hs, miss_c hP hk, bd1_s, bnd_s, nI_1]
        refine ⟨_, rfl, rfl, ?_, fun q hq => ?_⟩
        · dsimp only
          rw [dA_1, dA1, if_pos hs]
          exact (hP.put (i := k) (k := 3) (by decide) _).put (i := k) (k := 4) (by decide) _
        · dsimp only
          rw [up_n (by omega), up_n (by omega)]; exact hF q hq
      · obtain ⟨s, hsm, hsk, hse⟩ := (setr_cases a m k).resolve_left hs
        have hsn : (setr a m k).toNatClampNeg = s := by rw [hse]; exact nI_clamp (by omega)
        obtain ⟨d32, d33⟩ := d4 hs
        have hP1 := (hP.put (i := k) (k := 3) (by decide) (jmax 0 (jmin 99 (dA T ru a m d k k 3 + sMo T ru a m d k)))).put (i := k) (k := 5) (by decide) (jmin 9999 (dA T ru a m d k k 5 + sLa T ru a m d k))
        have t29 : ∀ q, ¬ (o ≤ q ∧ q < o + 8) → ∀ x y, up (up τ (o + 1 + 3) k x) (o + 1 + 5) k y q = σ q := fun q hq x y => by rw [up_n (by omega), up_n (by omega)]; exact hF q hq
        rw [if_neg hs, ck5, ck5, hF 32 (by omega), hF 31 (by omega), d32, d31, wake_c hP hk, bd1_s, ck5, ck5, t29 29 (by omega), t29 33 (by omega), d29, d33, hse, growF_c hP1 hsm hk hsk, bd1_s, bnd_s, nI_1]
        refine ⟨_, rfl, rfl, ?_, fun q hq => ?_⟩
        · dsimp only
          rw [dA_1, dA1, if_neg hs, hsn]
          have hb : ∀ x y, up (up (dA T ru a m d k) k 3 x) k 5 y s (6 + k) = dA T ru a m d k s (6 + k) := fun x y => by rw [up_nk (by omega), up_nk (by omega)]
          rw [hb]
          exact hP1.putF hsm hk hsk _
        · dsimp only
          rw [up_n (by omega)]; exact t29 q hq _ _
    · intro ⟨w, τ⟩ ⟨hw, hP, hF⟩
      dsimp only at hw hP hF ⊢
      subst hw
      have hmany : f_X1_many o τ = some (nI m) := by unfold f_X1_many; rw [hP.2.1]
      unfold b_X0_settle_2
      rw [hmany, bd1_s, if_pos (Int32.le_refl _)]
      exact ⟨_, rfl, hP, hF⟩
  obtain ⟨⟨w, τ⟩, h1, hP, hF⟩ := hrun
  dsimp only at hP hF
  refine ⟨up τ o 8 (d + 1), ?_, ?_, fun q hq => ?_⟩
  · unfold f_X0_settle f_X1_endDay
    rw [h1, bd2_s, bnd_s, bd1_s, hP.2.2.1]
  · obtain ⟨h1, h2, h3, h4, h5, h6, h7⟩ := hP
    refine ⟨h1, ?_, up_eq, ?_, fun i hi k hk => ?_, fun i j hi hj hij => ?_, fun i hi => ?_⟩
    · rw [up_nk (by decide)]; exact h2
    · rw [up_nk (by decide)]; exact h4
    · rw [up_ne (by omega)]; exact h5 i hi k hk
    · rw [up_ne (by omega)]; exact h6 i j hi hj hij
    · rw [up_ne (by omega)]; exact h7 i hi
  · rw [up_n (by omega)]; exact hF q hq
