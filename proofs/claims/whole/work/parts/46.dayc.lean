/-! A DAY, by the class. -/
def sWa (T : tx_T) (t : Nat) (a : pa_T) (m : Nat) (d : Int32) (i : Nat) : Int32 := if setr a m i = -1 then -1 else sHo T t a d (setr a m i).toNatClampNeg i
def sLa (T : tx_T) (t : Nat) (a : pa_T) (m : Nat) (d : Int32) (i : Nat) : Int32 := if setr a m i = -1 then 0 else jmax 0 (sHo T t a d (setr a m i).toNatClampNeg i - a i 2)
def sMo (T : tx_T) (t : Nat) (a : pa_T) (m : Nat) (d : Int32) (i : Nat) : Int32 := if setr a m i = -1 then 0 else sTi T t a d i (sWa T t a m d i)
def sFo (T : tx_T) (t : Nat) (a : pa_T) (m : Nat) (d : Int32) (i : Nat) : Int32 := if setr a m i = -1 then 0 else sGr T t a d (setr a m i).toNatClampNeg i (if sLa T t a m d i ≤ 0 then 0 else 1)
theorem setr_cases (a : pa_T) (m i : Nat) : setr a m i = -1 ∨ ∃ k, k < m ∧ k ≠ i ∧ setr a m i = nI k := sb_in a i m
theorem nI_ne_m1 {k : Nat} (h : k < 2 ^ 31) : ¬ nI k = -1 := fun q => by
  have h1 := nI_pos h
  rw [q] at h1; exact h1 (by decide)
def fD (q : Nat) : Prop := ¬ (q = 8 ∨ q = 9 ∨ (29 ≤ q ∧ q ≤ 33))
theorem TC.eq {σ τ : sg_T} {T : tx_T} {n : Nat} (h : TC σ T n) (he : ∀ q, 6 ≤ q → q < 28 → q ≠ 8 → q ≠ 9 → τ q = σ q) : TC τ T n := by
  have h6 := h.1
  refine ⟨h.1, by rw [he 6 (by decide) (by decide) (by decide) (by decide)]; exact h.2.1, fun t ht => ⟨fun p hp => ?_, fun p hp k hk => ?_⟩⟩
  · rw [he _ (by omega) (by omega) (by omega) (by omega)]; exact (h.2.2 t ht).1 p hp
  · rw [he _ (by omega) (by omega) (by omega) (by omega)]; exact (h.2.2 t ht).2 p hp k hk
theorem isP_ge {o : Nat} (h : isP o) : 34 ≤ o ∧ o ≤ 50 := by rcases h with rfl | rfl | rfl <;> omega
section DayC
variable {σ : sg_T} {o : Nat} {a : pa_T} {m : Nat} {d : Int32} {ru : Nat} {T : tx_T} {n : Nat}
def dawnI (T : tx_T) (ru : Nat) (a : pa_T) (m : Nat) (d : Int32) (σ : sg_T) (k : Nat) (τ : sg_T) : Prop := (∀ i, i < k → τ 29 i = setr a m i ∧ τ 30 i = sWa T ru a m d i ∧ τ 31 i = sLa T ru a m d i ∧ (¬ setr a m i = -1 → τ 32 i = sMo T ru a m d i ∧ τ 33 i = sFo T ru a m d i)) ∧ ∀ q, fD q → τ q = σ q
theorem dawn_c (h : PC σ o a m d (nI ru)) (ho : isP o) (hT : TC σ T n) (hO : TOk T n) (hru : ru < n) : ∃ τ, f_X0_dawn o σ = some τ ∧ dawnI T ru a m d σ m τ := by
  have hm := h.1
  have hog := isP_ge ho
  have hrun : ∃ r, itr (fun q => b_X0_dawn_2 o q.1 q.2) lfu (0, σ) = some r ∧ dawnI T ru a m d σ m r.2 := by
    refine itr_run (f := fun q => b_X0_dawn_2 o q.1 q.2) (I := fun k q => q.1 = nI k ∧ dawnI T ru a m d σ k q.2) (R := fun r => dawnI T ru a m d σ m r.2) m (a := (0, σ)) ⟨rfl, fun i hi => absurd hi (Nat.not_lt_zero _), fun _ _ => rfl⟩ ?_ ?_ (by omega)
    · intro k hk ⟨w, τ⟩ ⟨hw, hI, hF⟩
      dsimp only at hw hI hF ⊢
      subst hw
      have hP : PC τ o a m d (nI ru) := h.eq (fun p h1 h2 => hF p (by unfold fD; omega))
      have hT1 : TC τ T n := hT.eq (fun q h1 h2 h3 h4 => hF q (by unfold fD; omega))
      have hmany : f_X1_many o τ = some (nI m) := by unfold f_X1_many; rw [hP.2.1]
      have ck5 : ∀ {β : Type} (r : Option β), ck (nI k) 5 r = r := fun r => ck_n (by omega) (by decide)
      have cl : (nI k).toNatClampNeg = k := nI_clamp (by omega)
      unfold b_X0_dawn_2
      rw [hmany, bd1_s, if_neg (nle_of_lt hk (by omega)), setterOf_c hP hk, bd1_s, ck5, cl, bnd_s]
      by_cases hs : setr a m k = -1
      · rw [if_pos hs, ck5, bnd_s, ck5, bnd_s, bnd_s, nI_1]
        refine ⟨_, rfl, rfl, fun i hi => ?_, fun q hq => ?_⟩
        · dsimp only
          by_cases hik : i = k
          · subst hik
            refine ⟨?_, ?_, ?_, fun hc => absurd hs hc⟩
            · simp [up_at]
            · simp [up_at, sWa, hs]
            · simp [up_at, sLa, hs]
          · obtain ⟨g1, g2, g3, g4⟩ := hI i (by omega)
            refine ⟨?_, ?_, ?_, fun hc => ⟨?_, ?_⟩⟩
            · simp [up_at, hik, g1]
            · simp [up_at, hik, g2]
            · simp [up_at, hik, g3]
            · simp [up_at, (g4 hc).1]
            · simp [up_at, (g4 hc).2]
        · dsimp only
          unfold fD at hq
          rw [up_n (by omega), up_n (by omega), up_n (by omega)]; exact hF q hq
      · obtain ⟨s, hsm, hsk, hse⟩ := (setr_cases a m k).resolve_left hs
        have hsn : (setr a m k).toNatClampNeg = s := by rw [hse]; exact nI_clamp (by omega)
        rw [if_neg hs]
        have hP1 : PC (up τ 29 k (setr a m k)) o a m d (nI ru) := hP.eq (fun p _ _ => up_n (by omega))
        have hT2 : TC (up τ 29 k (setr a m k)) T n := hT1.eq (fun q _ _ _ _ => up_n (by omega))
        obtain ⟨σ1, e1, f1⟩ := hour_c hP1 ho hT2 hO hru hsm hk
        have e1' : f_X3_hourSet o (setr a m k) (nI k) (up τ 29 k (setr a m k)) = some (sHo T ru a d s k, σ1) := by rw [hse] at e1 ⊢; exact e1
        have hP2 : PC (up σ1 30 k (sHo T ru a d s k)) o a m d (nI ru) := (hP1.scr ho f1).eq (fun p _ _ => up_n (by omega))
        have g2 : f_X1_get o 2 (nI k) (up σ1 30 k (sHo T ru a d s k)) = some (a k 2) := get_c (w := 2) hP2 (by decide) (by decide) hk
        rw [e1', bd2_s, ck5, bnd_s, ck5, g2, bd1_s, ck5, bnd_s, ck5, up_eq]
        have hP3 : PC (up (up σ1 30 k (sHo T ru a d s k)) 31 k (jmax 0 (sHo T ru a d s k - a k 2))) o a m d (nI ru) := hP2.eq (fun p _ _ => up_n (by omega))
        have hT3 : TC (up (up σ1 30 k (sHo T ru a d s k)) 31 k (jmax 0 (sHo T ru a d s k - a k 2))) T n := hT2.eq (fun q _ _ h8 h9 => by rw [up_n (by omega), up_n (by omega)]; exact f1 q h8 h9)
        have e30 : up (up σ1 30 k (sHo T ru a d s k)) 31 k (jmax 0 (sHo T ru a d s k - a k 2)) 30 k = sHo T ru a d s k := by rw [up_ne (by decide), up_eq]
        rw [e30]
        obtain ⟨σ2, e2, f2⟩ := tire_c hP3 ho hT3 hO hru hk (sHo T ru a d s k)
        rw [e2, bd2_s, ck5, bnd_s, ck5]
        have hP4 : PC (up σ2 32 k (sTi T ru a d k (sHo T ru a d s k))) o a m d (nI ru) := (hP3.scr ho f2).eq (fun p _ _ => up_n (by omega))
        have hT4 : TC (up σ2 32 k (sTi T ru a d k (sHo T ru a d s k))) T n := hT3.eq (fun q _ _ h8 h9 => by rw [up_n (by omega)]; exact f2 q h8 h9)
        have e31 : up σ2 32 k (sTi T ru a d k (sHo T ru a d s k)) 31 k = jmax 0 (sHo T ru a d s k - a k 2) := by rw [up_ne (by decide), f2 31 (by decide) (by decide), up_eq]
        rw [e31, bnd_s]
        obtain ⟨σ3, e3, f3⟩ := grow_c hP4 ho hT4 hO hru hsm hk (if jmax 0 (sHo T ru a d s k - a k 2) ≤ 0 then 0 else 1)
        have e3' : f_X3_fonderBy o (setr a m k) (nI k) (if jmax 0 (sHo T ru a d s k - a k 2) ≤ 0 then 0 else 1) (up σ2 32 k (sTi T ru a d k (sHo T ru a d s k))) = some (sGr T ru a d s k (if jmax 0 (sHo T ru a d s k - a k 2) ≤ 0 then 0 else 1), σ3) := by rw [hse]; exact e3
        rw [e3', bd2_s, ck5, bnd_s, bnd_s, nI_1]
        have hwa : sWa T ru a m d k = sHo T ru a d s k := by unfold sWa; rw [if_neg hs, hsn]
        have hla : sLa T ru a m d k = jmax 0 (sHo T ru a d s k - a k 2) := by unfold sLa; rw [if_neg hs, hsn]
        have hmo : sMo T ru a m d k = sTi T ru a d k (sHo T ru a d s k) := by unfold sMo; rw [if_neg hs, hwa]
        have hfo : sFo T ru a m d k = sGr T ru a d s k (if jmax 0 (sHo T ru a d s k - a k 2) ≤ 0 then 0 else 1) := by unfold sFo; rw [if_neg hs, hla, hsn]
        have q33 : ∀ q, q ≠ 33 → q ≠ 8 → q ≠ 9 → up σ3 33 k (sGr T ru a d s k (if jmax 0 (sHo T ru a d s k - a k 2) ≤ 0 then 0 else 1)) q = up σ2 32 k (sTi T ru a d k (sHo T ru a d s k)) q := fun q h1 h2 h3 => by rw [up_n h1]; exact f3 q h2 h3
        have q32 : ∀ q, q ≠ 32 → q ≠ 33 → q ≠ 8 → q ≠ 9 → up σ3 33 k (sGr T ru a d s k (if jmax 0 (sHo T ru a d s k - a k 2) ≤ 0 then 0 else 1)) q = up (up σ1 30 k (sHo T ru a d s k)) 31 k (jmax 0 (sHo T ru a d s k - a k 2)) q := fun q h0 h1 h2 h3 => by rw [q33 q h1 h2 h3, up_n h0]; exact f2 q h2 h3
        refine ⟨_, rfl, rfl, fun i hi => ?_, fun q hq => ?_⟩
        · dsimp only
          have r29 : ∀ i, up σ3 33 k (sGr T ru a d s k (if jmax 0 (sHo T ru a d s k - a k 2) ≤ 0 then 0 else 1)) 29 i = up τ 29 k (setr a m k) 29 i := fun i => by rw [q32 29 (by decide) (by decide) (by decide) (by decide), up_n (by decide), up_n (by decide), f1 29 (by decide) (by decide)]
          have r30 : ∀ i, up σ3 33 k (sGr T ru a d s k (if jmax 0 (sHo T ru a d s k - a k 2) ≤ 0 then 0 else 1)) 30 i = up σ1 30 k (sHo T ru a d s k) 30 i := fun i => by rw [q32 30 (by decide) (by decide) (by decide) (by decide), up_n (by decide)]
          have r31 : ∀ i, up σ3 33 k (sGr T ru a d s k (if jmax 0 (sHo T ru a d s k - a k 2) ≤ 0 then 0 else 1)) 31 i = up (up σ1 30 k (sHo T ru a d s k)) 31 k (jmax 0 (sHo T ru a d s k - a k 2)) 31 i := fun i => by rw [q32 31 (by decide) (by decide) (by decide) (by decide)]
          have r32 : ∀ i, up σ3 33 k (sGr T ru a d s k (if jmax 0 (sHo T ru a d s k - a k 2) ≤ 0 then 0 else 1)) 32 i = up σ2 32 k (sTi T ru a d k (sHo T ru a d s k)) 32 i := fun i => by rw [q33 32 (by decide) (by decide) (by decide)]
          rw [r29, r30, r31, r32]
          by_cases hik : i = k
          · subst hik
            rw [up_eq, up_eq, up_eq, up_eq, up_eq, hwa, hla, hmo, hfo]
            exact ⟨rfl, rfl, rfl, fun _ => ⟨rfl, rfl⟩⟩
          · obtain ⟨g1, g2, g3, g4⟩ := hI i (by omega)
            have s1 : ∀ q, fD q ∨ (30 ≤ q ∧ q ≤ 33) → σ1 q = τ q := fun q hq => by
              have h89 : q ≠ 8 ∧ q ≠ 9 ∧ q ≠ 29 := by unfold fD at hq; omega
              rw [f1 q h89.1 h89.2.1, up_n h89.2.2]
            simp only [up_nk hik]
            refine ⟨g1, by rw [s1 30 (by omega)]; exact g2, by rw [s1 31 (by omega)]; exact g3, fun hc => ⟨?_, ?_⟩⟩
            · rw [f2 32 (by decide) (by decide), up_nk hik, up_nk hik, s1 32 (by omega)]; exact (g4 hc).1
            · rw [f3 33 (by decide) (by decide), up_nk hik, f2 33 (by decide) (by decide), up_nk hik, up_nk hik, s1 33 (by omega)]; exact (g4 hc).2
        · dsimp only
          have hq2 : q ≠ 8 ∧ q ≠ 9 ∧ q ≠ 29 ∧ q ≠ 30 ∧ q ≠ 31 ∧ q ≠ 32 ∧ q ≠ 33 := by unfold fD at hq; omega
          rw [q32 q hq2.2.2.2.2.2.1 hq2.2.2.2.2.2.2 hq2.1 hq2.2.1, up_n hq2.2.2.2.2.1, up_n hq2.2.2.2.1, f1 q hq2.1 hq2.2.1, up_n hq2.2.2.1]; exact hF q hq
    · intro ⟨w, τ⟩ ⟨hw, hI, hF⟩
      dsimp only at hw hI hF ⊢
      subst hw
      have hmany : f_X1_many o τ = some (nI m) := by unfold f_X1_many; rw [hF o (by unfold fD; omega), h.2.1]
      unfold b_X0_dawn_2
      rw [hmany, bd1_s, if_pos (Int32.le_refl _)]
      exact ⟨_, rfl, hI, hF⟩
  obtain ⟨r, h1, h2⟩ := hrun
  refine ⟨r.2, ?_, h2⟩
  unfold f_X0_dawn
  rw [h1]; rfl
end DayC
