/-! what fits what was told -/
theorem PM.rul {σ : sg_T} {q : Nat} {a : pa_T} {m : Nat} {d ru : Int32} (h : PM σ q a m d ru) (y : Int32) : PM (up σ q 57 y) q a m d y := by
  obtain ⟨h1, h2, h3, h4, h5, h6⟩ := h
  refine ⟨h1, ?_, ?_, ?_, fun i hi k hk => ?_, fun i j hi hj hij => ?_⟩
  · rw [up_nk (by decide)]; exact h2
  · rw [up_nk (by decide)]; exact h3
  · rw [up_eq]
  · rw [up_nk (by omega)]; exact h5 i hi k hk
  · rw [up_nk (by omega)]; exact h6 i j hi hj hij
theorem PC.rul {σ : sg_T} {o : Nat} {a : pa_T} {m : Nat} {d ru : Int32} (h : PC σ o a m d ru) (y : Int32) : PC (up σ o 9 y) o a m d y := by
  obtain ⟨h1, h2, h3, h4, h5, h6, h7⟩ := h
  refine ⟨h1, ?_, ?_, ?_, fun i hi k hk => ?_, fun i j hi hj hij => ?_, fun i hi => ?_⟩
  · rw [up_nk (by decide)]; exact h2
  · rw [up_nk (by decide)]; exact h3
  · rw [up_eq]
  · rw [up_ne (by omega)]; exact h5 i hi k hk
  · rw [up_ne (by omega)]; exact h6 i j hi hj hij
  · rw [up_ne (by omega)]; exact h7 i hi
theorem put7_c {σ : sg_T} {o : Nat} {a : pa_T} {m : Nat} {d ru : Int32} (h : PC σ o a m d ru) {i : Nat} (hi : i < m) (y : Int32) : f_X1_put o 7 (nI i) y σ = some (up σ (o + 1 + 0) i y) := by
  have hm := h.1
  have hpl : f_X1_hasPlace o 7 (nI i) σ = some 1 := by
    unfold f_X1_hasPlace
    rw [if_neg (by decide), if_neg (by decide), has_in h.2.1 h.1 hi, bd1_s, cz_1]
  have hin : f_X1_placeIn 7 (nI i) σ = some (nI i) := by
    unfold f_X1_placeIn; rw [if_neg (by decide)]
  have hrow : f_X1_rowOf o 7 σ = some (o + 1 + 0) := rfl
  have hlen : plen o (o + 1 + 0) = 5 := by unfold plen; rw [if_neg (by omega)]
  unfold f_X1_put
  rw [if_neg (by decide), if_neg (by decide), if_neg (by decide), hpl, bd1_s, if_neg (by decide), hrow, bd1_s, hin, bd1_s, hlen, ck_n (by omega) (by decide), nI_clamp (by omega), bnd_s]
theorem wb_1 (p : Nat → Bool) (k : Nat) : wb p (k + 1) = if p k then wb p k ||| (1 <<< (nI k &&& 31)) else wb p k := rfl
theorem cb_1 (p : Nat → Bool) (k : Nat) : cb p (k + 1) = cb p k + (if p k then 1 else 0) := rfl
section FitsB
variable {σ : sg_T} {a : pa_T} {m : Nat} {d : Int32} {ru : Nat} {T : tx_T} {n : Nat} {b : Nat → pa_T} {rv : Nat → Nat}
/-- whether v fits what stands in the row c -/
def fit (T : tx_T) (m : Nat) (d : Int32) (i L : Nat) (c : Nat → Int32) (b : Nat → pa_T) (rv : Nat → Nat) (v : Nat) : Bool := decide (fo (fun k => decide (wk T (rv v) (b v) m d i k = c k)) L = -1)
theorem bits_c (h : PC σ 34 a m d (nI ru)) (hT : TC σ T n) (hO : TOk T n) {o L N : Nat} (ho : 61 ≤ o) (hL : L ≤ 40) (h2 : σ o 2 = nI L) (hN : N ≤ 100) {i : Nat} (hi : i < m) {w x : Int32} (hr : ∀ v, v < N → rv v < n) (hp : ∀ v, v < N → ∀ τ, PC τ 42 a m d (nI ru) → ∃ τ', f_X1_put 42 w x (nI v) τ = some τ' ∧ PC τ' 42 (b v) m d (nI (rv v)) ∧ ∀ q, ¬ (42 ≤ q ∧ q < 50) → τ' q = τ q) : ∃ τ, f_X7_bitsThatFit o (nI i) w x (nI N) σ = some (wb (fit T m d i L (σ (o + 1)) b rv) N, τ) ∧ ∀ q, fD q → ¬ (42 ≤ q ∧ q < 50) → τ q = σ q := by
  have hrun : ∃ r, itr (fun q => b_X7_bitsThatFit_6 o (nI i) w x (nI N) q.1 q.2.1 q.2.2) lfu (0, 0, σ) = some r ∧ (r.1 = wb (fit T m d i L (σ (o + 1)) b rv) N ∧ ∀ q, fD q → ¬ (42 ≤ q ∧ q < 50) → r.2.2 q = σ q) := by
    refine itr_run (f := fun q => b_X7_bitsThatFit_6 o (nI i) w x (nI N) q.1 q.2.1 q.2.2) (I := fun k q => q.1 = wb (fit T m d i L (σ (o + 1)) b rv) k ∧ q.2.1 = nI k ∧ ∀ p, fD p → ¬ (42 ≤ p ∧ p < 50) → q.2.2 p = σ p) (R := fun r => r.1 = wb (fit T m d i L (σ (o + 1)) b rv) N ∧ ∀ q, fD q → ¬ (42 ≤ q ∧ q < 50) → r.2.2 q = σ q) N (a := (0, 0, σ)) ⟨rfl, rfl, fun _ _ _ => rfl⟩ ?_ ?_ (by omega)
    · intro k hk ⟨w1, w2, τ⟩ ⟨hw1, hw2, hF⟩
      dsimp only at hw1 hw2 hF ⊢
      subst hw1 hw2
      have hC1 : PC τ 34 a m d (nI ru) := h.eq (fun p _ _ => hF p (by unfold fD; omega) (by omega))
      have hT1 : TC τ T n := hT.eq (fun q _ _ _ _ => hF q (by unfold fD; omega) (by omega))
      obtain ⟨τ1, e1, f1⟩ := first_c (b := b k) hC1 hT1 hO (hr k hk) ho hL (by rw [hF o (by unfold fD; omega) (by omega)]; exact h2) hi (hp k hk)
      rw [hF (o + 1) (by unfold fD; omega) (by omega)] at e1
      have fr : ∀ p, fD p → ¬ (42 ≤ p ∧ p < 50) → τ1 p = σ p := fun p g1 g2 => by rw [f1 p g1 g2]; exact hF p g1 g2
      unfold b_X7_bitsThatFit_6
      rw [if_neg (nle_of_lt hk (by omega)), e1, bd2_s, wb_1]
      by_cases hf : fo (fun k_1 => decide (wk T (rv k) (b k) m d i k_1 = σ (o + 1) k_1)) L = -1
      · have ht : fit T m d i L (σ (o + 1)) b rv k = true := decide_eq_true hf
        rw [if_pos hf, if_pos ht, bnd_s, bnd_s, nI_1]
        exact ⟨_, rfl, rfl, rfl, fr⟩
      · have ht : ¬ fit T m d i L (σ (o + 1)) b rv k = true := fun q => hf (of_decide_eq_true q)
        rw [if_neg hf, if_neg ht, bnd_s, nI_1]
        exact ⟨_, rfl, rfl, rfl, fr⟩
    · intro ⟨w1, w2, τ⟩ ⟨hw1, hw2, hF⟩
      dsimp only at hw1 hw2 hF ⊢
      subst hw1 hw2
      unfold b_X7_bitsThatFit_6
      rw [if_pos (Int32.le_refl _)]
      exact ⟨_, rfl, rfl, hF⟩
  obtain ⟨⟨w1, w2, τ⟩, e1, r1, f1⟩ := hrun
  dsimp only at r1 f1
  refine ⟨τ, ?_, f1⟩
  unfold f_X7_bitsThatFit
  rw [e1, bd3_s, r1]
theorem fits_m (hT : TM σ T n) (hO : TOk T n) {s L M qp : Nat} (hs : s < 4) (hL : L ≤ 40) (h2 : σ 85 s = nI L) (hM : M < 100) (hq : qp < 58) {i : Nat} (hi : i < m) (hr : ∀ v, v ≤ M → rv v < n) (hok : ∀ v, v ≤ M → OkP (b v) m) (hb : ∀ v, v ≤ M → PM (up σ 70 qp (nI v)) 70 (b v) m d (nI (rv v))) : ∃ r τ, f_X8_fits (nI s) (nI i) (nI qp) (nI M) σ = some (r, τ) ∧ (M < 30 → r = wb (fit T m d i L (fun k => σ 86 (40 * s + k)) b rv) (M + 1)) ∧ (∀ v, v ≤ M → τ 89 v = if fit T m d i L (fun k => σ 86 (40 * s + k)) b rv v = true then 1 else 0) ∧ (∀ k, k < 58 → τ 70 k = σ 70 k) ∧ ∀ q, q ≠ 70 → q ≠ 72 → ¬ (79 ≤ q ∧ q ≤ 83) → q ≠ 89 → τ q = σ q := by
  have kq : ∀ {β : Type} (r : Option β), ck (nI qp) 58 r = r := fun r => ck_n hq (by decide)
  have cq : (nI qp).toNatClampNeg = qp := nI_clamp (by omega)
  have hrun : ∃ r, itr (fun q => b_X8_fits_14 (nI s) (nI i) (nI qp) (nI M) (σ 70 qp) q.1 q.2.1 q.2.2) lfu (0, 0, σ) = some r ∧ ((M < 30 → r.1 = wb (fit T m d i L (fun k => σ 86 (40 * s + k)) b rv) (M + 1)) ∧ (∀ v, v ≤ M → r.2.2 89 v = if fit T m d i L (fun k => σ 86 (40 * s + k)) b rv v = true then 1 else 0) ∧ (∀ k, k < 58 → k ≠ qp → r.2.2 70 k = σ 70 k) ∧ ∀ q, q ≠ 70 → q ≠ 72 → ¬ (79 ≤ q ∧ q ≤ 83) → q ≠ 89 → r.2.2 q = σ q) := by
    refine itr_run (f := fun q => b_X8_fits_14 (nI s) (nI i) (nI qp) (nI M) (σ 70 qp) q.1 q.2.1 q.2.2) (I := fun k q => (k ≤ 30 → q.1 = wb (fit T m d i L (fun k => σ 86 (40 * s + k)) b rv) k) ∧ q.2.1 = nI k ∧ (∀ v, v < k → q.2.2 89 v = if fit T m d i L (fun k => σ 86 (40 * s + k)) b rv v = true then 1 else 0) ∧ (∀ k, k < 58 → k ≠ qp → q.2.2 70 k = σ 70 k) ∧ ∀ p, p ≠ 70 → p ≠ 72 → ¬ (79 ≤ p ∧ p ≤ 83) → p ≠ 89 → q.2.2 p = σ p) (R := fun r => (M < 30 → r.1 = wb (fit T m d i L (fun k => σ 86 (40 * s + k)) b rv) (M + 1)) ∧ (∀ v, v ≤ M → r.2.2 89 v = if fit T m d i L (fun k => σ 86 (40 * s + k)) b rv v = true then 1 else 0) ∧ (∀ k, k < 58 → k ≠ qp → r.2.2 70 k = σ 70 k) ∧ ∀ q, q ≠ 70 → q ≠ 72 → ¬ (79 ≤ q ∧ q ≤ 83) → q ≠ 89 → r.2.2 q = σ q) (M + 1) (a := (0, 0, σ)) ⟨fun _ => rfl, rfl, fun v hv => absurd hv (Nat.not_lt_zero _), fun _ _ _ => rfl, fun _ _ _ _ _ => rfl⟩ ?_ ?_ (by omega)
    · intro k hk ⟨w1, w2, τ⟩ ⟨hw1, hw2, h89, h70, hF⟩
      dsimp only at hw1 hw2 h89 h70 hF ⊢
      subst hw2
      have hP1 : PM (up τ 70 qp (nI k)) 70 (b k) m d (nI (rv k)) := (hb k (by omega)).cp (fun j hj => by
        by_cases hjq : j = qp
        · subst hjq; rw [up_eq, up_eq]
        · rw [up_nk hjq, up_nk hjq]; exact h70 j hj hjq)
      have hT1 : TM (up τ 70 qp (nI k)) T n := TM_scr hT (fun q hq => by rw [up_n (by omega)]; exact hF q (by omega) (by omega) (by omega) (by omega))
      obtain ⟨τ1, e1, b1, f1⟩ := other_m hP1 (hok k (by omega)) hT1 hO (hr k (by omega)) hs hL (by rw [up_ne (by decide), hF 85 (by decide) (by decide) (by decide) (by decide)]; exact h2) hi
      rw [up_n (show 86 ≠ 70 by decide), hF 86 (by decide) (by decide) (by decide) (by decide)] at e1
      have fitk : ∀ x y : Int32, (if fo (fun k_1 => decide (wk T (rv k) (b k) m d i k_1 = σ 86 (40 * s + k_1))) L = -1 then x else y) = if fit T m d i L (fun k => σ 86 (40 * s + k)) b rv k = true then x else y := fun x y => by
        by_cases hf : fo (fun k_1 => decide (wk T (rv k) (b k) m d i k_1 = σ 86 (40 * s + k_1))) L = -1
        · have ht : fit T m d i L (fun k => σ 86 (40 * s + k)) b rv k = true := decide_eq_true hf
          rw [if_pos hf, if_pos ht]
        · have ht : ¬ fit T m d i L (fun k => σ 86 (40 * s + k)) b rv k = true := fun q => hf (of_decide_eq_true q)
          rw [if_neg hf, if_neg ht]
      have nl : ¬ nI M < nI k := Int32.not_lt.mpr (le_of_le (by omega) (by omega))
      have hcz : ∀ {β : Type} (r : Option β), cz (if fit T m d i L (fun k => σ 86 (40 * s + k)) b rv k = true then 1 else 0) r = r := fun r => by
        split
        · exact cz_1 r
        · exact cz_0 r
      obtain ⟨F, eF⟩ : ∃ F : Int32, F = if fit T m d i L (fun k => σ 86 (40 * s + k)) b rv k = true then 1 else 0 := ⟨_, rfl⟩
      have h89' : ∀ v, v < k + 1 → up τ1 89 k F 89 v = if fit T m d i L (fun k => σ 86 (40 * s + k)) b rv v = true then 1 else 0 := fun v hv => by
        by_cases hvk : v = k
        · subst hvk; rw [up_eq, eF]
        · rw [up_nk hvk, f1 89 (by decide) (by decide) (by decide), up_n (by decide)]; exact h89 v (by omega)
      have h70' : ∀ j, j < 58 → j ≠ qp → up τ1 89 k F 70 j = σ 70 j := fun j hj hjq => by
        rw [up_ne (by decide), b1 j hj, up_nk hjq]; exact h70 j hj hjq
      have hF' : ∀ p, p ≠ 70 → p ≠ 72 → ¬ (79 ≤ p ∧ p ≤ 83) → p ≠ 89 → up τ1 89 k F p = σ p := fun p g1 g2 g3 g4 => by
        rw [up_n g4, f1 p g1 g2 g3, up_n g1]; exact hF p g1 g2 g3 g4
      unfold b_X8_fits_14
      rw [if_neg nl, kq, cq, bnd_s, e1, bd2_s, fitk, bnd_s, hcz, ck_n (by omega) (by decide), nI_clamp (by omega), bnd_s, ← eF]
      by_cases h30 : 30 ≤ k
      · have h30' : (30 : Int32) ≤ nI k := le_of_le (m := 30) h30 (by omega)
        rw [if_pos h30', bnd_s, bnd_s, nI_1]
        exact ⟨_, rfl, fun hk30 => by omega, rfl, h89', h70', hF'⟩
      · have h30' : ¬ (30 : Int32) ≤ nI k := nle_of_lt (m := 30) (by omega) (by decide)
        rw [if_neg h30', ck_n (by omega) (by decide), up_eq, bnd_s, bnd_s, bnd_s, nI_1]
        refine ⟨_, rfl, fun hk30 => ?_, rfl, h89', h70', hF'⟩
        dsimp only
        rw [hw1 (by omega), wb_1, eF]
        by_cases ht : fit T m d i L (fun k => σ 86 (40 * s + k)) b rv k = true
        · rw [if_pos ht, if_pos ht, if_neg (by decide)]
        · rw [if_neg ht, if_neg ht, if_pos rfl, Int32.or_zero]
    · intro ⟨w1, w2, τ⟩ ⟨hw1, hw2, h89, h70, hF⟩
      dsimp only at hw1 hw2 h89 h70 hF ⊢
      subst hw2
      have nl : nI M < nI (M + 1) := Int32.not_le.mp (nle_of_lt (by omega) (by omega))
      unfold b_X8_fits_14
      rw [if_pos nl]
      exact ⟨_, rfl, fun h30 => hw1 (by omega), fun v hv => h89 v (by omega), h70, hF⟩
  obtain ⟨⟨w1, w2, τ⟩, e1, r1, r2, r3, f1⟩ := hrun
  dsimp only at r1 r2 r3 f1
  refine ⟨w1, up τ 70 qp (σ 70 qp), ?_, r1, fun v hv => by rw [up_ne (by decide)]; exact r2 v hv, fun k hk => ?_, fun q g1 g2 g3 g4 => by rw [up_n g1]; exact f1 q g1 g2 g3 g4⟩
  · unfold f_X8_fits
    rw [kq, cq, bnd_s, e1, bd3_s, kq, bnd_s]
  · by_cases hkq : k = qp
    · subst hkq; rw [up_eq]
    · rw [up_nk hkq]; exact r3 k hk hkq
theorem by_m (p : Nat → Bool) (h89 : ∀ v, v ≤ 99 → σ 89 v = if p v = true then 1 else 0) (u1 u2 u3 u4 : Int32) : ∃ r, itr (fun q => b_X8_tiredBy_25 u1 u2 u3 u4 q.1 q.2.1 q.2.2 σ) lfu (0, -1, 99) = some r ∧ (r.1 = cb p 100 ∧ r.2.1 = fo (fun v => !p v) 100) := by
  refine itr_run (f := fun q => b_X8_tiredBy_25 u1 u2 u3 u4 q.1 q.2.1 q.2.2 σ) (I := fun c q => q.1 + cb p (100 - c) = cb p 100 ∧ (if fo (fun v => !p v) (100 - c) = -1 then q.2.1 else fo (fun v => !p v) (100 - c)) = fo (fun v => !p v) 100 ∧ q.2.2 = nI (100 - c) + (-1)) (R := fun r => r.1 = cb p 100 ∧ r.2.1 = fo (fun v => !p v) 100) 100 (a := (0, -1, 99)) ⟨Int32.zero_add _, ?_, by decide⟩ ?_ ?_ (by omega)
  · dsimp only
    by_cases h : fo (fun v => !p v) 100 = -1
    · rw [if_pos (show fo (fun v => !p v) (100 - 0) = -1 from h), h]
    · rw [if_neg (show ¬ fo (fun v => !p v) (100 - 0) = -1 from h)]
  · intro c hc ⟨w1, w2, w3⟩ ⟨h1, h2, h3⟩
    dsimp only at h1 h2 h3 ⊢
    obtain ⟨k, hk⟩ : ∃ k, 100 - c = k + 1 := ⟨99 - c, by omega⟩
    have hk2 : 100 - (c + 1) = k := by omega
    rw [hk] at h1 h2 h3
    rw [hk2]
    rw [nI_dec (by omega) (by omega)] at h3
    have h3' : w3 = nI k := h3
    subst h3'
    have hn : ¬ nI k < 0 := nI_pos (by omega)
    unfold b_X8_tiredBy_25
    rw [if_neg hn, ck_n (by omega) (by decide), nI_clamp (by omega), h89 k (by omega), bnd_s, bnd_s, ck_n (by omega) (by decide), bnd_s, bnd_s]
    rw [cb_1] at h1
    rw [fo_1] at h2
    refine ⟨_, rfl, ?_, ?_, rfl⟩
    · dsimp only
      by_cases ht : p k = true
      · rw [if_pos ht] at h1 ⊢
        rw [if_neg (by decide), Int32.add_assoc, Int32.add_comm 1]; exact h1
      · rw [if_neg ht] at h1 ⊢
        rw [if_pos rfl, Int32.add_assoc, Int32.add_comm 0]; exact h1
    · dsimp only
      by_cases ht : p k = true
      · rw [if_pos ht, if_neg (show ¬ (1 : Int32) = 0 by decide)]
        by_cases hf : fo (fun v => !p v) k = -1
        · rw [if_pos hf]
          have e : (if (!p k) = true then (-1 : Int32) else nI k) = nI k := by rw [ht]; rfl
          rw [if_pos hf, e, if_neg (nI_ne_m1 (by omega))] at h2
          exact h2
        · rw [if_neg hf]
          rw [if_neg hf, if_neg hf] at h2
          exact h2
      · have hpf : p k = false := by
          rcases hh : p k with _ | _
          · rfl
          · exact absurd hh ht
        rw [if_neg ht, if_pos rfl]
        by_cases hf : fo (fun v => !p v) k = -1
        · rw [if_pos hf]
          have e : (if (!p k) = true then (-1 : Int32) else nI k) = -1 := by rw [hpf]; rfl
          rw [if_pos hf, e, if_pos rfl] at h2
          exact h2
        · rw [if_neg hf]
          rw [if_neg hf, if_neg hf] at h2
          exact h2
  · intro ⟨w1, w2, w3⟩ ⟨h1, h2, h3⟩
    dsimp only at h1 h2 h3 ⊢
    have h3' : w3 = -1 := by rw [h3]; decide
    subst h3'
    unfold b_X8_tiredBy_25
    rw [if_pos (by decide)]
    refine ⟨_, rfl, ?_, ?_⟩
    · have : w1 + cb p 0 = w1 := Int32.add_zero w1
      rw [← h1]; exact this.symm
    · have e0 : fo (fun v => !p v) (100 - 100) = -1 := rfl
      rw [if_pos e0] at h2
      exact h2
end FitsB
