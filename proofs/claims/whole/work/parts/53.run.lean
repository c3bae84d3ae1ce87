/-! Bits and counts; days run in thought. -/
def wb (p : Nat → Bool) : Nat → Int32
  | 0 => 0
  | k + 1 => if p k then wb p k ||| (1 <<< (nI k &&& 31)) else wb p k
def cb (p : Nat → Bool) : Nat → Int32
  | 0 => 0
  | k + 1 => cb p k + (if p k then 1 else 0)
theorem wb_congr {p q : Nat → Bool} : ∀ m, (∀ i, i < m → p i = q i) → wb p m = wb q m
  | 0, _ => rfl
  | k + 1, h => by
    show (if p k then wb p k ||| (1 <<< (nI k &&& 31)) else wb p k) = (if q k then wb q k ||| (1 <<< (nI k &&& 31)) else wb q k)
    rw [h k (by omega), wb_congr k (fun i hi => h i (by omega))]
theorem cb_congr {p q : Nat → Bool} : ∀ m, (∀ i, i < m → p i = q i) → cb p m = cb q m
  | 0, _ => rfl
  | k + 1, h => by
    show cb p k + (if p k then 1 else 0) = cb q k + (if q k then 1 else 0)
    rw [h k (by omega), cb_congr k (fun i hi => h i (by omega))]
def bl (b0 b1 b2 b3 b4 : Bool) (i : Nat) : Bool := [b0, b1, b2, b3, b4].getD i false
theorem bc_all : ∀ b0 b1 b2 b3 b4 : Bool, ∀ m, m < 6 → f_J6_bitCount (wb (bl b0 b1 b2 b3 b4) m) (fun _ _ => 0) = some (cb (bl b0 b1 b2 b3 b4) m) := by decide +kernel
theorem bc (p : Nat → Bool) {m : Nat} (hm : m ≤ 5) (σ : sg_T) : f_J6_bitCount (wb p m) σ = some (cb p m) := by
  have h : ∀ i, i < m → p i = bl (p 0) (p 1) (p 2) (p 3) (p 4) i := fun i hi => by
    rcases i with _ | _ | _ | _ | _ | i
    · rfl
    · rfl
    · rfl
    · rfl
    · rfl
    · omega
  rw [wb_congr m h, cb_congr m h]
  exact bc_all _ _ _ _ _ m (by omega)
theorem wl_wb (la : Nat → Int32) : ∀ m, wl la m = wb (fun i => !decide (la i ≤ 0)) m
  | 0 => rfl
  | k + 1 => by
    rw [wl_1]
    show _ = (if (!decide (la k ≤ 0)) = true then _ else _)
    by_cases h : la k ≤ 0
    · rw [if_pos h, if_neg (by simp [h])]; exact wl_wb la k
    · rw [if_neg h, if_pos (by simp [h]), wl_wb la k]
section RunB
variable {σ : sg_T} {a : pa_T} {m : Nat} {d : Int32} {ru : Nat} {T : tx_T} {n : Nat}
def dN (T : tx_T) (ru : Nat) (a : pa_T) (m : Nat) (d : Int32) : Nat → pa_T × Int32
  | 0 => (a, d)
  | k + 1 => (dA T ru (dN T ru a m d k).1 m (dN T ru a m d k).2 m, (dN T ru a m d k).2 + 1)
theorem dN_ok (h : OkP a m) : ∀ k, OkP (dN T ru a m d k).1 m
  | 0 => h
  | k + 1 => dA_ok (dN_ok h k) m (Nat.le_refl _)
theorem pass_c (h : PC σ 42 a m d (nI ru)) (hT : TC σ T n) (hO : TOk T n) (hru : ru < n) {N : Nat} (hN : N ≤ 40) : ∃ τ, f_X7_passDays (nI N) σ = some τ ∧ PC τ 42 (dN T ru a m d N).1 m (dN T ru a m d N).2 (nI ru) ∧ ∀ q, fD q → ¬ (42 ≤ q ∧ q < 50) → τ q = σ q := by
  have isP42 : isP 42 := Or.inr (Or.inl rfl)
  have hrun : ∃ r, itr (fun q => b_X7_passDays_2 (nI N) q.1 q.2) lfu (0, σ) = some r ∧ (PC r.2 42 (dN T ru a m d N).1 m (dN T ru a m d N).2 (nI ru) ∧ ∀ q, fD q → ¬ (42 ≤ q ∧ q < 50) → r.2 q = σ q) := by
    refine itr_run (f := fun q => b_X7_passDays_2 (nI N) q.1 q.2) (I := fun k q => q.1 = nI k ∧ PC q.2 42 (dN T ru a m d k).1 m (dN T ru a m d k).2 (nI ru) ∧ ∀ p, fD p → ¬ (42 ≤ p ∧ p < 50) → q.2 p = σ p) (R := fun r => PC r.2 42 (dN T ru a m d N).1 m (dN T ru a m d N).2 (nI ru) ∧ ∀ q, fD q → ¬ (42 ≤ q ∧ q < 50) → r.2 q = σ q) N (a := (0, σ)) ⟨rfl, h, fun _ _ _ => rfl⟩ ?_ ?_ (by omega)
    · intro k hk ⟨w, τ⟩ ⟨hw, hP, hF⟩
      dsimp only at hw hP hF ⊢
      subst hw
      have hT1 : TC τ T n := hT.eq (fun q h1 h2 h3 h4 => hF q (by unfold fD; omega) (by omega))
      obtain ⟨σ1, e1, hD⟩ := dawn_c hP isP42 hT1 hO hru
      have hP1 : PC σ1 42 (dN T ru a m d k).1 m (dN T ru a m d k).2 (nI ru) := hP.eq (fun p h1 h2 => hD.2 p (by unfold fD; omega))
      obtain ⟨σ2, e2, hP2, f2⟩ := settle_c hP1 isP42 hD
      unfold b_X7_passDays_2
      rw [if_neg (nle_of_lt hk (by omega)), e1, bd1_s, e2, bd1_s, bnd_s, nI_1]
      refine ⟨_, rfl, rfl, hP2, fun p h1 h2 => ?_⟩
      dsimp only
      rw [f2 p (by omega), hD.2 p h1]; exact hF p h1 h2
    · intro ⟨w, τ⟩ ⟨hw, hP, hF⟩
      dsimp only at hw hP hF ⊢
      subst hw
      unfold b_X7_passDays_2
      rw [if_pos (Int32.le_refl _)]
      exact ⟨_, rfl, hP, hF⟩
  obtain ⟨⟨w, τ⟩, h1, h2, h3⟩ := hrun
  refine ⟨τ, ?_, h2, h3⟩
  unfold f_X7_passDays
  rw [h1, bd2_s]
theorem pass_m (h : PM σ 70 a m d (nI ru)) (hok : OkP a m) (hT : TM σ T n) (hO : TOk T n) (hru : ru < n) {N : Nat} (hN : N ≤ 40) : ∃ τ, f_X8_goDays (nI N) σ = some τ ∧ PM τ 70 (dN T ru a m d N).1 m (dN T ru a m d N).2 (nI ru) ∧ ∀ q, q ≠ 70 → ¬ (79 ≤ q ∧ q ≤ 83) → τ q = σ q := by
  have hrun : ∃ r, itr (fun q => b_X8_goDays_2 (nI N) q.1 q.2) lfu (0, σ) = some r ∧ (PM r.2 70 (dN T ru a m d N).1 m (dN T ru a m d N).2 (nI ru) ∧ ∀ q, q ≠ 70 → ¬ (79 ≤ q ∧ q ≤ 83) → r.2 q = σ q) := by
    refine itr_run (f := fun q => b_X8_goDays_2 (nI N) q.1 q.2) (I := fun k q => q.1 = nI k ∧ PM q.2 70 (dN T ru a m d k).1 m (dN T ru a m d k).2 (nI ru) ∧ ∀ p, p ≠ 70 → ¬ (79 ≤ p ∧ p ≤ 83) → q.2 p = σ p) (R := fun r => PM r.2 70 (dN T ru a m d N).1 m (dN T ru a m d N).2 (nI ru) ∧ ∀ q, q ≠ 70 → ¬ (79 ≤ q ∧ q ≤ 83) → r.2 q = σ q) N (a := (0, σ)) ⟨rfl, h, fun _ _ _ => rfl⟩ ?_ ?_ (by omega)
    · intro k hk ⟨w, τ⟩ ⟨hw, hP, hF⟩
      dsimp only at hw hP hF ⊢
      subst hw
      have hT1 : TM τ T n := TM_scr hT (fun q hq => hF q (by omega) (by omega))
      obtain ⟨σ1, e1, hP1, f1⟩ := goDay_m hP (dN_ok hok k) hT1 hO hru
      unfold b_X8_goDays_2
      rw [if_neg (nle_of_lt hk (by omega)), e1, bd2_s, bnd_s, nI_1]
      refine ⟨_, rfl, rfl, hP1, fun p h1 h2 => ?_⟩
      dsimp only
      rw [f1 p h1 h2]; exact hF p h1 h2
    · intro ⟨w, τ⟩ ⟨hw, hP, hF⟩
      dsimp only at hw hP hF ⊢
      subst hw
      unfold b_X8_goDays_2
      rw [if_pos (Int32.le_refl _)]
      exact ⟨_, rfl, hP, hF⟩
  obtain ⟨⟨w, τ⟩, h1, h2, h3⟩ := hrun
  refine ⟨τ, ?_, h2, h3⟩
  unfold f_X8_goDays
  rw [h1, bd2_s]
theorem wakes_c {o : Nat} (h : PC σ o a m d (nI ru)) (ho : isP o) (hT : TC σ T n) (hO : TOk T n) (hru : ru < n) {i : Nat} (hi : i < m) : sc (f_X0_wakes o (nI i) σ) σ (sWa T ru a m d i) := by
  have hm := h.1
  unfold f_X0_wakes sWa
  rw [setterOf_c h hi, bd1_s]
  by_cases hs : setr a m i = -1
  · rw [if_pos hs, if_pos hs]; exact ⟨σ, rfl, fun _ _ _ => rfl⟩
  · obtain ⟨s, hsm, hsk, hse⟩ := (setr_cases a m i).resolve_left hs
    rw [if_neg hs, if_neg hs, hse, nI_clamp (by omega)]
    obtain ⟨σ1, e1, f1⟩ := hour_c h ho hT hO hru hsm hi
    rw [e1, bd2_s]
    exact ⟨σ1, rfl, f1⟩
theorem lates_m (h : PM σ 70 a m d (nI ru)) (hT : TM σ T n) (hO : TOk T n) (hru : ru < n) : sm (f_X8_lates σ) σ (cb (fun i => !decide (sLa T ru a m d i ≤ 0)) m) := by
  have hm := h.1
  have hrun : ∃ r, itr (fun q => b_X8_lates_4 q.1 q.2.1 q.2.2) lfu (0, 0, σ) = some r ∧ (r.1 = cb (fun i => !decide (sLa T ru a m d i ≤ 0)) m ∧ ∀ q, q ≠ 79 → r.2.2 q = σ q) := by
    refine itr_run (f := fun q => b_X8_lates_4 q.1 q.2.1 q.2.2) (I := fun k q => q.1 = cb (fun i => !decide (sLa T ru a m d i ≤ 0)) k ∧ q.2.1 = nI k ∧ ∀ p, p ≠ 79 → q.2.2 p = σ p) (R := fun r => r.1 = cb (fun i => !decide (sLa T ru a m d i ≤ 0)) m ∧ ∀ q, q ≠ 79 → r.2.2 q = σ q) m (a := (0, 0, σ)) ⟨rfl, rfl, fun _ _ => rfl⟩ ?_ ?_ (by omega)
    · intro k hk ⟨w1, w, τ⟩ ⟨hw1, hw, hF⟩
      dsimp only at hw1 hw hF ⊢
      subst hw hw1
      have hP : PM τ 70 a m d (nI ru) := h.eq (hF 70 (by decide))
      have hT1 : TM τ T n := TM_scr hT (fun q hq => hF q (by omega))
      obtain ⟨σ1, e1, f1⟩ := lateBy_m hP hT1 hO hru hk
      unfold b_X8_lates_4
      rw [many_m hP, bd1_s, if_neg (nle_of_lt hk (by omega)), e1, bd2_s, bnd_s, bnd_s, bnd_s, nI_1]
      refine ⟨_, rfl, ?_, rfl, fun p hp => ?_⟩
      · dsimp only
        show _ = cb _ k + (if (!decide (sLa T ru a m d k ≤ 0)) = true then 1 else 0)
        by_cases hl : sLa T ru a m d k ≤ 0
        · rw [if_pos hl, if_neg (by simp [hl])]
        · rw [if_neg hl, if_pos (by simp [hl])]
      · dsimp only
        rw [f1 p hp]; exact hF p hp
    · intro ⟨w1, w, τ⟩ ⟨hw1, hw, hF⟩
      dsimp only at hw1 hw hF ⊢
      subst hw hw1
      have hP : PM τ 70 a m d (nI ru) := h.eq (hF 70 (by decide))
      unfold b_X8_lates_4
      rw [many_m hP, bd1_s, if_pos (Int32.le_refl _)]
      exact ⟨_, rfl, rfl, hF⟩
  obtain ⟨⟨w1, w, τ⟩, h1, rfl, h3⟩ := hrun
  refine ⟨τ, ?_, h3⟩
  unfold f_X8_lates
  rw [h1, bd3_s]
def sS (a : pa_T) (k : Nat) : Nat → Int32
  | 0 => 0
  | i + 1 => sS a k i + a i k
theorem sum_c {o : Nat} {ru : Int32} (h : PC σ o a m d ru) {w : Nat} (hw : 0 < w) (hw6 : w < 6) : f_X1_sum o (nI w) σ = some (sS a w m) := by
  have hm := h.1
  have hrun : itr (fun q => b_X1_sum_4 o (nI w) q.1 q.2 σ) lfu (0, 0) = some (sS a w m, nI m) := by
    refine itr_seq (fun k => (sS a w k, nI k)) m (fun k hk => ?_) ?_ (by omega)
    · show b_X1_sum_4 o (nI w) (sS a w k) (nI k) σ = _
      unfold b_X1_sum_4
      rw [h.2.1, if_neg (nle_of_lt hk (by omega)), get_c h hw hw6 hk, bd1_s, bnd_s, bnd_s, nI_1]
      rfl
    · show b_X1_sum_4 o (nI w) (sS a w m) (nI m) σ = _
      unfold b_X1_sum_4
      rw [h.2.1, if_pos (Int32.le_refl _)]
  unfold f_X1_sum
  rw [hrun, bd2_s]
theorem all_m {ru : Int32} (h : PM σ 70 a m d ru) {w : Nat} (hw6 : w < 6) : f_X8_all (nI w) σ = some (sS a w m) := by
  have hm := h.1
  have hrun : itr (fun q => b_X8_all_4 (nI w) q.1 q.2 σ) lfu (0, 0) = some (sS a w m, nI m) := by
    refine itr_seq (fun k => (sS a w k, nI k)) m (fun k hk => ?_) ?_ (by omega)
    · show b_X8_all_4 (nI w) (sS a w k) (nI k) σ = _
      unfold b_X8_all_4
      rw [many_m h, bd1_s, if_neg (nle_of_lt hk (by omega)), ofk_m h hk hw6, bd1_s, bnd_s, bnd_s, nI_1]
      rfl
    · show b_X8_all_4 (nI w) (sS a w m) (nI m) σ = _
      unfold b_X8_all_4
      rw [many_m h, bd1_s, if_pos (Int32.le_refl _)]
  unfold f_X8_all
  rw [hrun, bd2_s]
end RunB
