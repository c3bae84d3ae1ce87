/-! Copies of people: by the class (thought, image) and by the model; days run in thought. -/
theorem cpd_ne {σ : sg_T} {q0 q1 q : Nat} {sp dp n : Int32} (h : q ≠ q1) : cpd σ q0 q1 sp dp n q = σ q := upr_n h
theorem cpd_at {σ : sg_T} {q0 q1 k : Nat} {n : Int32} (h : k < n.toNatClampNeg) : cpd σ q0 q1 0 0 n q1 k = σ q0 k := by
  unfold cpd
  rw [upr_s]
  unfold va_cpy
  have e0 : (0 : Int32).toNatClampNeg = 0 := by decide
  rw [e0, if_pos ⟨Nat.zero_le _, by omega⟩]
  congr 1; omega
def cps (σ : sg_T) (o1 o : Nat) : Nat → sg_T
  | 0 => σ
  | k + 1 => cpd (cps σ o1 o k) (o1 + (k + 1)) (o + (k + 1)) 0 0 (if k = 6 then 25 else 5)
theorem cps_1 (σ : sg_T) (o1 o k : Nat) : cps σ o1 o (k + 1) = cpd (cps σ o1 o k) (o1 + (k + 1)) (o + (k + 1)) 0 0 (if k = 6 then 25 else 5) := rfl
theorem cps_fr {σ : sg_T} {o1 o : Nat} {q : Nat} : ∀ k, k ≤ 7 → (q ≤ o ∨ o + 8 ≤ q) → cps σ o1 o k q = σ q
  | 0, _, _ => rfl
  | k + 1, hk, hq => by rw [cps_1, cpd_ne (by omega)]; exact cps_fr k (by omega) hq
theorem cps_at {σ : sg_T} {o1 o : Nat} (hd : o + 8 ≤ o1 ∨ o1 + 8 ≤ o) {j i : Nat} : ∀ k, k ≤ 7 → j < k → (i < 5 ∨ (j = 6 ∧ i < 25)) → cps σ o1 o k (o + (j + 1)) i = σ (o1 + (j + 1)) i
  | 0, _, hj, _ => absurd hj (Nat.not_lt_zero _)
  | k + 1, hk, hj, hi => by
    rw [cps_1]
    by_cases e : j = k
    · subst e
      have e5 : (5 : Int32).toNatClampNeg = 5 := by decide
      have e25 : (25 : Int32).toNatClampNeg = 25 := by decide
      rw [cpd_at ?_, cps_fr j (by omega) (by omega)]
      by_cases e6 : j = 6
      · rw [if_pos e6, e25]; omega
      · rw [if_neg e6, e5]; omega
    · rw [cpd_ne (by omega)]; exact cps_at hd k (by omega) (by omega) hi
theorem cy_5 {β : Type} (r : Option β) : cy 0 0 5 5 5 r = r := if_neg (by decide)
theorem cy_25 {β : Type} (r : Option β) : cy 0 0 25 25 25 r = r := if_neg (by decide)
theorem copy_c {σ : sg_T} {o1 o : Nat} (hd : o + 8 ≤ o1 ∨ o1 + 8 ≤ o) {a : pa_T} {m : Nat} {d ru : Int32} (h : PC σ o1 a m d ru) : ∃ τ, f_X1_copyFrom o o1 σ = some τ ∧ PC τ o a m d ru ∧ ∀ q, (q < o ∨ o + 8 ≤ q) → τ q = σ q := by
  obtain ⟨h1, h2, h3, h4, h5, h6, h7⟩ := h
  have e : f_X1_copyFrom o o1 σ = some (up (up (up (cps σ o1 o 7) o 7 (cps σ o1 o 7 o1 7)) o 8 (up (cps σ o1 o 7) o 7 (cps σ o1 o 7 o1 7) o1 8)) o 9 (up (up (cps σ o1 o 7) o 7 (cps σ o1 o 7 o1 7)) o 8 (up (cps σ o1 o 7) o 7 (cps σ o1 o 7 o1 7) o1 8) o1 9)) := by
    unfold f_X1_copyFrom
    rw [cy_5, bnd_s, cy_5, bnd_s, cy_5, bnd_s, cy_5, bnd_s, cy_5, bnd_s, cy_5, bnd_s, cy_25, bnd_s]
    rfl
  have g1 : cps σ o1 o 7 o1 = σ o1 := cps_fr 7 (by omega) (by omega)
  rw [g1] at e
  have g2 : up (cps σ o1 o 7) o 7 (σ o1 7) o1 = σ o1 := by rw [up_n (by omega), g1]
  rw [g2] at e
  have g3 : up (up (cps σ o1 o 7) o 7 (σ o1 7)) o 8 (σ o1 8) o1 = σ o1 := by rw [up_n (by omega), g2]
  rw [g3] at e
  refine ⟨_, e, ⟨h1, ?_, ?_, ?_, fun i hi k hk => ?_, fun i j hi hj hij => ?_, fun i hi => ?_⟩, fun q hq => ?_⟩
  · rw [up_nk (by decide), up_nk (by decide), up_eq]; exact h2
  · rw [up_nk (by decide), up_eq]; exact h3
  · rw [up_eq]; exact h4
  · rw [up_ne (by omega), up_ne (by omega), up_ne (by omega), show o + 1 + k = o + (k + 1) by omega, cps_at hd 7 (by omega) (by omega) (Or.inl (by omega)), show o1 + (k + 1) = o1 + 1 + k by omega]
    exact h5 i hi k hk
  · rw [up_ne (by omega), up_ne (by omega), up_ne (by omega), show o + 7 = o + (6 + 1) from rfl, cps_at hd 7 (by omega) (by omega) (Or.inr ⟨rfl, by omega⟩)]
    exact h6 i j hi hj hij
  · rw [up_ne (by omega), up_ne (by omega), up_ne (by omega), show o + 7 = o + (6 + 1) from rfl, cps_at hd 7 (by omega) (by omega) (Or.inr ⟨rfl, by omega⟩)]
    exact h7 i hi
  · rw [up_n (by omega), up_n (by omega), up_n (by omega)]; exact cps_fr 7 (by omega) (by omega)
theorem PM.cp {σ τ : sg_T} {p q : Nat} {a : pa_T} {m : Nat} {d ru : Int32} (h : PM σ p a m d ru) (he : ∀ k, k < 58 → τ q k = σ p k) : PM τ q a m d ru := by
  obtain ⟨h1, h2, h3, h4, h5, h6⟩ := h
  refine ⟨h1, ?_, ?_, ?_, fun i hi k hk => ?_, fun i j hi hj hij => ?_⟩
  · rw [he 55 (by decide)]; exact h2
  · rw [he 56 (by decide)]; exact h3
  · rw [he 57 (by decide)]; exact h4
  · rw [he _ (by omega)]; exact h5 i hi k hk
  · rw [he _ (by omega)]; exact h6 i j hi hj hij
theorem keep_m (σ : sg_T) {p : Nat} (hp : p ≠ 70) : ∃ τ, f_X8_keep p σ = some τ ∧ (∀ k, k < 58 → τ p k = σ 70 k) ∧ ∀ q, q ≠ p → τ q = σ q := by
  have hrun : ∃ r, itr (fun q => b_X8_keep_2 p q.1 q.2) lfu (0, σ) = some r ∧ ((∀ k, k < 58 → r.2 p k = σ 70 k) ∧ ∀ q, q ≠ p → r.2 q = σ q) := by
    refine itr_run (f := fun q => b_X8_keep_2 p q.1 q.2) (I := fun k q => q.1 = nI k ∧ (∀ i, i < k → q.2 p i = σ 70 i) ∧ ∀ r, r ≠ p → q.2 r = σ r) (R := fun r => (∀ k, k < 58 → r.2 p k = σ 70 k) ∧ ∀ q, q ≠ p → r.2 q = σ q) 58 (a := (0, σ)) ⟨rfl, fun i hi => absurd hi (Nat.not_lt_zero _), fun _ _ => rfl⟩ ?_ ?_ (by omega)
    · intro k hk ⟨w, τ⟩ ⟨hw, hI, hF⟩
      dsimp only at hw hI hF ⊢
      subst hw
      have c : ¬ (58 : Int32) ≤ nI k := nle_of_lt (m := 58) hk (by decide)
      unfold b_X8_keep_2
      rw [if_neg c, ck_n (by omega) (by decide), ck_n (by omega) (by decide), nI_clamp (by omega), bnd_s, bnd_s, nI_1, hF 70 (Ne.symm hp)]
      refine ⟨_, rfl, rfl, fun i hi => ?_, fun r hr => ?_⟩
      · dsimp only
        by_cases e : i = k
        · subst e; rw [up_eq]
        · rw [up_nk e]; exact hI i (by omega)
      · dsimp only
        rw [up_n hr]; exact hF r hr
    · intro ⟨w, τ⟩ ⟨hw, hI, hF⟩
      dsimp only at hw hI hF ⊢
      subst hw
      have c : (58 : Int32) ≤ nI 58 := by decide
      unfold b_X8_keep_2
      rw [if_pos c]
      exact ⟨_, rfl, hI, hF⟩
  obtain ⟨⟨w, τ⟩, h1, h2, h3⟩ := hrun
  refine ⟨τ, ?_, h2, h3⟩
  unfold f_X8_keep
  rw [h1, bd2_s]
theorem lay_m (σ : sg_T) {p : Nat} (hp : p ≠ 70) : ∃ τ, f_X8_lay p σ = some τ ∧ (∀ k, k < 58 → τ 70 k = σ p k) ∧ ∀ q, q ≠ 70 → τ q = σ q := by
  have hrun : ∃ r, itr (fun q => b_X8_lay_2 p q.1 q.2) lfu (0, σ) = some r ∧ ((∀ k, k < 58 → r.2 70 k = σ p k) ∧ ∀ q, q ≠ 70 → r.2 q = σ q) := by
    refine itr_run (f := fun q => b_X8_lay_2 p q.1 q.2) (I := fun k q => q.1 = nI k ∧ (∀ i, i < k → q.2 70 i = σ p i) ∧ ∀ r, r ≠ 70 → q.2 r = σ r) (R := fun r => (∀ k, k < 58 → r.2 70 k = σ p k) ∧ ∀ q, q ≠ 70 → r.2 q = σ q) 58 (a := (0, σ)) ⟨rfl, fun i hi => absurd hi (Nat.not_lt_zero _), fun _ _ => rfl⟩ ?_ ?_ (by omega)
    · intro k hk ⟨w, τ⟩ ⟨hw, hI, hF⟩
      dsimp only at hw hI hF ⊢
      subst hw
      have c : ¬ (58 : Int32) ≤ nI k := nle_of_lt (m := 58) hk (by decide)
      unfold b_X8_lay_2
      rw [if_neg c, ck_n (by omega) (by decide), ck_n (by omega) (by decide), nI_clamp (by omega), bnd_s, bnd_s, nI_1, hF p hp]
      refine ⟨_, rfl, rfl, fun i hi => ?_, fun r hr => ?_⟩
      · dsimp only
        by_cases e : i = k
        · subst e; rw [up_eq]
        · rw [up_nk e]; exact hI i (by omega)
      · dsimp only
        rw [up_n hr]; exact hF r hr
    · intro ⟨w, τ⟩ ⟨hw, hI, hF⟩
      dsimp only at hw hI hF ⊢
      subst hw
      have c : (58 : Int32) ≤ nI 58 := by decide
      unfold b_X8_lay_2
      rw [if_pos c]
      exact ⟨_, rfl, hI, hF⟩
  obtain ⟨⟨w, τ⟩, h1, h2, h3⟩ := hrun
  refine ⟨τ, ?_, h2, h3⟩
  unfold f_X8_lay
  rw [h1, bd2_s]
theorem sm_image : SM f_X7_image f_X8_image := by
  intro σ ⟨a, m, d, ru, T, n, h⟩
  have hW := h
  obtain ⟨hC, hM, hok, hd, hru, hTC, hTM, hO, hI, hTp, hS, hH⟩ := h
  obtain ⟨σ1, e1, hC1, f1⟩ := copy_c (o := 50) (o1 := 34) (Or.inr (by decide)) hC
  have hM1 : PM (up σ1 0 8 1) 70 a m d (nI ru) := hM.eq (by rw [up_n (by decide), f1 70 (by decide)])
  obtain ⟨σ2, e2, g2, f2⟩ := keep_m (up σ1 0 8 1) (p := 71) (by decide)
  have ke : ∀ q, q ≠ 0 → q ≠ 69 → q ≠ 71 → (q < 50 ∨ 58 ≤ q) → up σ2 69 3 1 q = σ q := fun q h1 h2 h3 h4 => by rw [up_n h2, f2 q h3, up_n h1, f1 q h4]
  have k69 : ∀ k, k ≠ 3 → up σ2 69 3 1 69 k = σ 69 k := fun k hk => by rw [up_nk hk, f2 69 (by decide), up_n (by decide), f1 69 (by decide)]
  have hM3 : PM (up σ2 69 3 1) 70 a m d (nI ru) := hM.eq (ke 70 (by decide) (by decide) (by decide) (by decide))
  refine ⟨nI m, up σ1 0 8 1, up σ2 69 3 1, ?_, ?_, a, m, d, ru, T, n, ?_⟩
  · unfold f_X7_image f_X1_many
    rw [e1, bd1_s, bnd_s, bd1_s, up_ne (by decide), hC1.2.1]
  · unfold f_X8_image
    rw [e2, bd1_s, bnd_s, many_m hM3, bd1_s]
  · refine ⟨hC.eq (fun p _ _ => ke p (by omega) (by omega) (by omega) (by omega)), hM3, hok, hd, hru, hTC.eq (fun q _ _ _ _ => ke q (by omega) (by omega) (by omega) (by omega)), ?_, hO, Or.inr ⟨?_, up_eq, a, m, d, ru, ?_, ?_, hok, hd, hru⟩, ?_, fun s hs => ?_, fun k hk => ?_⟩
    · unfold TM at hTM ⊢
      rw [k69 13 (by decide), ke 75 (by decide) (by decide) (by decide) (by decide), ke 76 (by decide) (by decide) (by decide) (by decide)]; exact hTM
    · rw [up_ne (by decide), f2 0 (by decide), up_eq]
    · exact hC1.eq (fun p _ _ => by rw [up_n (by omega), f2 p (by omega), up_n (by omega)])
    · have : PM σ2 71 a m d (nI ru) := hM1.cp g2
      exact this.eq (up_n (by decide))
    · unfold TAP at hTp ⊢
      rw [k69 6 (by decide), ke 1 (by decide) (by decide) (by decide) (by decide), ke 2 (by decide) (by decide) (by decide) (by decide), ke 74 (by decide) (by decide) (by decide) (by decide)]; exact hTp
    · rw [ke (61 + 2 * s) (by omega) (by omega) (by omega) (by omega), ke 84 (by decide) (by decide) (by decide) (by decide), ke 85 (by decide) (by decide) (by decide) (by decide), ke 86 (by decide) (by decide) (by decide) (by decide), ke (61 + 2 * s + 1) (by omega) (by omega) (by omega) (by omega)]; exact hS s hs
    · rw [ke 73 (by decide) (by decide) (by decide) (by decide), ke 88 (by decide) (by decide) (by decide) (by decide), ke 77 (by decide) (by decide) (by decide) (by decide)]; exact hH k hk
theorem sm_back : SM f_X7_back f_X8_back := by
  intro σ ⟨a, m, d, ru, T, n, h⟩
  have hW := h
  obtain ⟨hC, hM, hok, hd, hru, hTC, hTM, hO, hI, hTp, hS, hH⟩ := h
  rcases hI with ⟨i1, i2⟩ | ⟨i1, i2, a', m', d', ru', j1, j2, j3, j4, j5⟩
  · refine ⟨-3, σ, σ, ?_, ?_, a, m, d, ru, T, n, hW⟩
    · unfold f_X7_back; rw [if_pos i1]
    · unfold f_X8_back; rw [if_pos i2]
  · obtain ⟨σ1, e1, hC1, f1⟩ := copy_c (o := 34) (o1 := 50) (Or.inl (by decide)) j1
    obtain ⟨σ2, e2, g2, f2⟩ := lay_m σ1 (p := 71) (by decide)
    have hM1 : PM σ1 71 a' m' d' (nI ru') := j2.eq (f1 71 (by decide))
    have hM2 : PM σ2 70 a' m' d' (nI ru') := hM1.cp g2
    have c1 : ¬ σ 0 8 = 0 := by rw [i1]; decide
    have c2 : ¬ σ1 69 3 = 0 := by rw [f1 69 (by decide), i2]; decide
    refine ⟨nI m', σ1, σ2, ?_, ?_, a', m', d', ru', T, n, ?_⟩
    · unfold f_X7_back f_X1_many
      rw [if_neg c1, e1, bd1_s, bd1_s, hC1.2.1]
    · unfold f_X8_back
      rw [if_neg c2, e2, bd1_s, many_m hM2, bd1_s]
    · exact hW.new (hC1.eq (fun p _ _ => f2 p (by omega))) hM2 j3 j4 j5 (fun q h1 h2 h3 => by rw [f2 q h3, f1 q (by omega)])
