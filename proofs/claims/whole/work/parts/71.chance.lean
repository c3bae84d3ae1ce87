/-! mean and chance: in lowest terms by both -/
def nL (k : Nat) : Int64 := (nI k).toInt64
theorem nL_toInt {k : Nat} (h : k < 2 ^ 31) : (nL k).toInt = k := by
  unfold nL
  rw [Int32.toInt_toInt64, nI_toInt h]
theorem nLd {x y : Nat} (hx : x < 2 ^ 31) {p q : Int64} (ha : p.toInt = x) (hb : q.toInt = y) : (p / q).toInt = (x / y : Nat) := by
  have hq : x / y ≤ x := Nat.div_le_self x y
  rw [Int64.toInt_div, ha, hb, Int.tdiv_eq_ediv_of_nonneg (by omega), ← Int.natCast_ediv]
  generalize x / y = w at hq
  rw [Int.bmod_eq_of_le (by omega) (by omega)]
theorem nL_div {x y : Nat} (hx : x < 2 ^ 31) (hy : y < 2 ^ 31) : nL x / nL y = nL (x / y) := by
  have hq : x / y ≤ x := Nat.div_le_self x y
  refine Int64.toInt_inj.mp ?_
  rw [nLd hx (nL_toInt hx) (nL_toInt hy), nL_toInt (by omega)]
theorem nL_rem {x y : Nat} (hx : x < 2 ^ 31) (hy : y < 2 ^ 31) : jreml (nL x) (nL y) = nL (x % y) := by
  have hm : y * (x / y) + x % y = x := Nat.div_add_mod x y
  have h1 : (x / y) * y ≤ x := Nat.div_mul_le_self x y
  have hr : x % y ≤ x := Nat.mod_le x y
  refine Int64.toInt_inj.mp ?_
  unfold jreml
  rw [Int64.toInt_sub, Int64.toInt_mul, nLd hx (nL_toInt hx) (nL_toInt hy), nL_toInt hx, nL_toInt hy, nL_toInt (by omega), ← Int.natCast_mul]
  rw [Nat.mul_comm] at hm
  generalize x / y * y = p at hm h1
  generalize x % y = r at hm
  rw [Int.bmod_eq_of_le (n := (p : Int)) (by omega) (by omega), Int.bmod_eq_of_le (by omega) (by omega)]
  omega
theorem nId {x y : Nat} (hx : x < 2 ^ 31) {p q : Int32} (ha : p.toInt = x) (hb : q.toInt = y) : (p / q).toInt = (x / y : Nat) := by
  have hq : x / y ≤ x := Nat.div_le_self x y
  rw [Int32.toInt_div, ha, hb, Int.tdiv_eq_ediv_of_nonneg (by omega), ← Int.natCast_ediv]
  generalize x / y = w at hq
  rw [Int.bmod_eq_of_le (by omega) (by omega)]
theorem nI_quo {x y : Nat} (hx : x < 2 ^ 31) (hy : y < 2 ^ 31) : nI x / nI y = nI (x / y) := by
  have hq : x / y ≤ x := Nat.div_le_self x y
  refine Int32.toInt_inj.mp ?_
  rw [nId hx (nI_toInt hx) (nI_toInt hy), nI_toInt (by omega)]
theorem nI_mods {x y : Nat} (hx : x < 2 ^ 31) (hy : y < 2 ^ 31) : jrem (nI x) (nI y) = nI (x % y) := by
  have hm : y * (x / y) + x % y = x := Nat.div_add_mod x y
  have h1 : (x / y) * y ≤ x := Nat.div_mul_le_self x y
  have hr : x % y ≤ x := Nat.mod_le x y
  refine Int32.toInt_inj.mp ?_
  unfold jrem
  rw [Int32.toInt_sub, Int32.toInt_mul, nId hx (nI_toInt hx) (nI_toInt hy), nI_toInt hx, nI_toInt hy, nI_toInt (by omega), ← Int.natCast_mul]
  rw [Nat.mul_comm] at hm
  generalize x / y * y = p at hm h1
  generalize x % y = r at hm
  rw [Int.bmod_eq_of_le (n := (p : Int)) (by omega) (by omega), Int.bmod_eq_of_le (by omega) (by omega)]
  omega
theorem nI_dec {k : Nat} (h0 : 0 < k) (hk : k < 2 ^ 31) : nI k + (-1) = nI (k - 1) := by
  have em : (-1 : Int32).toInt = -1 := by decide
  refine Int32.toInt_inj.mp ?_
  have ek := nI_toInt hk
  rw [add_toInt (by omega) (by omega), nI_toInt hk, nI_toInt (by omega)]
  omega
theorem nI_0iff {k : Nat} (hk : k < 2 ^ 31) : nI k = 0 ↔ k = 0 := ⟨fun h => nI_inj hk (by decide) h, fun h => by rw [h]; rfl⟩
theorem part_go (σ : sg_T) {S M : Nat} (hS : S < 2 ^ 31) (hM : 0 < M) (hM20 : M ≤ 20) (x : Int32) : ∀ (k F : Nat), k ≤ M → k < F → (∀ v, k < v → v ≤ M → ¬ (S % v = 0 ∧ M % v = 0)) → ((∃ w, itr (fun q => b_X7_partOf_2 (nI S) (nI M) x q σ) F (nI k) = some (.inl w)) ∧ Nat.gcd S M = 1) ∨ itr (fun q => b_X7_partOf_2 (nI S) (nI M) x q σ) F (nI k) = some (.inr (if x = 0 then nL (S / Nat.gcd S M) else nL (M / Nat.gcd S M))) := by
  have g1 : Nat.gcd S M ∣ S := Nat.gcd_dvd_left S M
  have g2 : Nat.gcd S M ∣ M := Nat.gcd_dvd_right S M
  have g3 : Nat.gcd S M ≤ M := Nat.le_of_dvd hM g2
  have g4 : 0 < Nat.gcd S M := Nat.gcd_pos_of_pos_right S hM
  have g5 : ∀ k, (∀ v, k < v → v ≤ M → ¬ (S % v = 0 ∧ M % v = 0)) → Nat.gcd S M ≤ k := fun k hv => by
    by_cases hk : Nat.gcd S M ≤ k
    · exact hk
    · exact absurd ⟨Nat.mod_eq_zero_of_dvd g1, Nat.mod_eq_zero_of_dvd g2⟩ (hv _ (by omega) g3)
  intro k
  induction k with
  | zero =>
    intro F hk hF hv
    have := g5 0 hv
    omega
  | succ k ih =>
    intro F hk hF hv
    obtain ⟨F', rfl⟩ : ∃ n', F = n' + 1 := ⟨F - 1, by omega⟩
    by_cases h1 : k = 0
    · left
      subst h1
      have := g5 _ hv
      refine ⟨⟨nI 1, itr_r ?_⟩, by omega⟩
      show b_X7_partOf_2 (nI S) (nI M) x (nI 1) σ = _
      unfold b_X7_partOf_2
      rw [if_pos (by decide)]
    · have n1 : ¬ nI (k + 1) ≤ 1 := nle_of_lt (i := 1) (by omega) (by omega)
      have dz1 : ∀ {β : Type} (r : Option β), dz (nI (k + 1)) r = r := fun r => by
        unfold dz
        rw [if_neg (fun q => by have := (nI_0iff (by omega)).mp q; omega)]
      have r1 : jrem (nI S) (nI (k + 1)) = nI (S % (k + 1)) := nI_mods hS (by omega)
      have r2 : jrem (nI M) (nI (k + 1)) = nI (M % (k + 1)) := nI_mods (by omega) (by omega)
      have l1 : S % (k + 1) < k + 1 := Nat.mod_lt _ (by omega)
      have l2 : M % (k + 1) < k + 1 := Nat.mod_lt _ (by omega)
      have next : ¬ (S % (k + 1) = 0 ∧ M % (k + 1) = 0) → b_X7_partOf_2 (nI S) (nI M) x (nI (k + 1)) σ = some (.inl (nI k)) → ((∃ w, itr (fun q => b_X7_partOf_2 (nI S) (nI M) x q σ) (F' + 1) (nI (k + 1)) = some (.inl w)) ∧ Nat.gcd S M = 1) ∨ itr (fun q => b_X7_partOf_2 (nI S) (nI M) x q σ) (F' + 1) (nI (k + 1)) = some (.inr (if x = 0 then nL (S / Nat.gcd S M) else nL (M / Nat.gcd S M))) := fun hn hb => by
        rw [itr_l (f := fun q => b_X7_partOf_2 (nI S) (nI M) x q σ) hb]
        refine ih F' (by omega) (by omega) (fun v h3 h4 => ?_)
        by_cases h5 : v = k + 1
        · rw [h5]; exact hn
        · exact hv v (by omega) h4
      by_cases s0 : S % (k + 1) = 0
      · by_cases m0 : M % (k + 1) = 0
        · right
          have hg : Nat.gcd S M = k + 1 := by
            have h6 : k + 1 ∣ Nat.gcd S M := Nat.dvd_gcd (Nat.dvd_of_mod_eq_zero s0) (Nat.dvd_of_mod_eq_zero m0)
            have h7 := Nat.le_of_dvd g4 h6
            have h8 := g5 _ hv
            omega
          refine itr_r ?_
          show b_X7_partOf_2 (nI S) (nI M) x (nI (k + 1)) σ = _
          unfold b_X7_partOf_2
          rw [if_neg n1, dz1, r1, if_pos (by rw [s0]; rfl), dz1, r2, if_pos (by rw [m0]; rfl), dz1, dz1, nI_quo hS (by omega), nI_quo (by omega) (by omega), hg]
          by_cases x0 : x = 0
          · rw [if_pos x0, if_pos x0]; rfl
          · rw [if_neg x0, if_neg x0]; rfl
        · refine next (fun q => m0 q.2) ?_
          unfold b_X7_partOf_2
          rw [if_neg n1, dz1, r1, if_pos (by rw [s0]; rfl), dz1, r2, if_neg (fun q => m0 ((nI_0iff (by omega)).mp q)), bnd_s, nI_dec (by omega) (by omega)]
          rfl
      · refine next (fun q => s0 q.1) ?_
        unfold b_X7_partOf_2
        rw [if_neg n1, dz1, r1, if_neg (fun q => s0 ((nI_0iff (by omega)).mp q)), bnd_s, nI_dec (by omega) (by omega)]
        rfl
theorem part_c (σ : sg_T) {S M : Nat} (hS : S < 2 ^ 31) (hM : 0 < M) (hM20 : M ≤ 20) (x : Int32) : f_X7_partOf (nI S) (nI M) x σ = some (if x = 0 then nL (S / Nat.gcd S M) else nL (M / Nat.gcd S M)) := by
  unfold f_X7_partOf
  rcases part_go σ hS hM hM20 x M lfu (Nat.le_refl _) (by show M < 100000; omega) (fun v h1 h2 => by omega) with ⟨⟨w, e1⟩, hg⟩ | e1
  · rw [e1, bs_l, hg, Nat.div_one, Nat.div_one]
    by_cases x0 : x = 0
    · rw [if_pos x0, if_pos x0]; rfl
    · rw [if_neg x0, if_neg x0]; rfl
  · rw [e1, bs_r]
theorem nL_0iff {k : Nat} (hk : k < 2 ^ 31) : nL k = 0 ↔ k = 0 := ⟨fun h => by
    have := congrArg Int64.toInt h
    rw [nL_toInt hk] at this
    have e0 : (0 : Int64).toInt = 0 := by decide
    omega, fun h => by rw [h]; decide⟩
theorem cmp_0 (x : Int64) : lg_cmp x x = 0 := by
  unfold lg_cmp
  rw [if_neg (fun q => by
    have q' : x < x := q
    rw [Int64.lt_iff_toInt_lt] at q'; omega), if_pos rfl]
theorem cmp_n {x y : Int64} (h : ¬ x = y) : ¬ lg_cmp x y = 0 := by
  unfold lg_cmp
  split
  · decide
  · decide
theorem dzl_n {β : Type} {k : Nat} (h0 : 0 < k) (hk : k < 2 ^ 31) (r : Option β) : dzl (nL k) r = r := by
  unfold dzl
  rw [if_neg (fun q => by have := (nL_0iff hk).mp q; omega)]
theorem gcd_st (σ : sg_T) {x y F : Nat} (hx : x < 2 ^ 31) (hy : y < 2 ^ 31) (h0 : 0 < y) : g_gcd (F + 1) (nL x) (nL y) σ = g_gcd F (nL y) (nL (x % y)) σ := by
  show f_X8_gcd (g_gcd F) (nL x) (nL y) σ = _
  unfold f_X8_gcd
  rw [if_neg (cmp_n (fun q => by have := (nL_0iff hy).mp q; omega)), dzl_n h0 hy, nL_rem hx hy]
  rcases g_gcd F (nL y) (nL (x % y)) σ with _ | r
  · rfl
  · rfl
theorem gcd_m (σ : sg_T) : ∀ (F y x : Nat), x < 2 ^ 31 → y < 2 ^ 31 → y < F → g_gcd F (nL x) (nL y) σ = some (nL (Nat.gcd x y)) := by
  intro F
  induction F with
  | zero => intro y x _ _ h; exact absurd h (Nat.not_lt_zero _)
  | succ F ih =>
    intro y x hx hy hF
    by_cases h0 : y = 0
    · subst h0
      show f_X8_gcd (g_gcd F) (nL x) (nL 0) σ = _
      unfold f_X8_gcd
      rw [if_pos (by rw [(nL_0iff (by decide)).mpr rfl]; exact cmp_0 0), Nat.gcd_zero_right]
    · have hl := Nat.mod_lt x (show 0 < y by omega)
      rw [gcd_st σ hx hy (by omega), ih (x % y) y hy (by omega) (by omega), Nat.gcd_comm x y, Nat.gcd_rec y x, Nat.gcd_comm y (x % y)]
theorem gcd_top (σ : sg_T) {M S : Nat} (hM : M ≤ 20) (hS : S < 2 ^ 31) : g_gcd rfu (nL M) (nL S) σ = some (nL (Nat.gcd M S)) := by
  by_cases h0 : S = 0
  · subst h0
    exact gcd_m σ 64 0 M (by omega) (by omega) (by omega)
  · have hl : M % S ≤ M := Nat.mod_le M S
    show g_gcd (63 + 1) (nL M) (nL S) σ = _
    rw [gcd_st σ (by omega) hS (by omega), gcd_m σ 63 (M % S) S hS (by omega) (by omega), Nat.gcd_comm M S, Nat.gcd_rec S M, Nat.gcd_comm S (M % S)]
def SMPL (f g : sg_T → Option Int64) : Prop := ∀ σ, WRL σ → ∃ r, f σ = some r ∧ g σ = some r
def SML (f g : sg_T → Option (Int64 × sg_T)) : Prop := ∀ σ, WRL σ → ∃ r σ1 σ2, f σ = some (r, σ1) ∧ g σ1 = some (r, σ2) ∧ WRL σ2
theorem sm_mean (x : Int32) : SMPL (f_X7_mean x) (f_X8_mean x) := by
  intro σ ⟨a, m, d, ru, T, n, h⟩
  obtain ⟨hC, hM, hok, hd, hru, hTC, hTM, hO, _⟩ := h
  have hm := hC.1
  have hmn : f_X1_many 34 σ = some (nI m) := by unfold f_X1_many; rw [hC.2.1]
  by_cases x0 : x < 0
  · refine ⟨-4611686018427387904, ?_, ?_⟩
    · unfold f_X7_mean
      rw [if_pos x0]
    · unfold f_X8_mean
      rw [isIn_0 (Or.inl x0), bd1_s, if_pos rfl]
  · by_cases x1 : 1 < x
    · refine ⟨-4611686018427387904, ?_, ?_⟩
      · unfold f_X7_mean
        rw [if_neg x0, if_pos x1]
      · unfold f_X8_mean
        rw [isIn_0 (Or.inr x1), bd1_s, if_pos rfl]
    · have hin : f_X8_isIn x 0 1 σ = some 1 := isIn_1 (Int32.not_lt.mp x0) (Int32.not_lt.mp x1)
      by_cases hm0 : m = 0
      · have em : nI m = 0 := by rw [hm0]; rfl
        refine ⟨-4611686018427387904, ?_, ?_⟩
        · unfold f_X7_mean
          rw [if_neg x0, if_neg x1, hmn, bd1_s, if_pos em]
        · unfold f_X8_mean
          rw [hin, bd1_s, if_neg (by decide), many_m hM, bd1_s, if_pos em]
      · have em : ¬ nI m = 0 := fun q => hm0 ((nI_0iff (by omega)).mp q)
        have hs : ∃ S, S < 2 ^ 31 ∧ sS a 5 m = nI S := by
          have hr := sS_rng hok m (Nat.le_refl _) hm
          unfold inr at hr
          exact ⟨(sS a 5 m).toInt.toNat, by omega, Int32.toInt_inj.mp (by rw [nI_toInt (by omega)]; omega)⟩
        obtain ⟨S, hS, eS⟩ := hs
        have g4 : 0 < Nat.gcd S m := Nat.gcd_pos_of_pos_right S (by omega)
        have g5 : Nat.gcd S m ≤ m := Nat.le_of_dvd (by omega) (Nat.gcd_dvd_right S m)
        have su : f_X1_sum 34 5 σ = some (nI S) := by rw [← eS]; exact sum_c (w := 5) hC (by decide) (by decide)
        have al : f_X8_all 5 σ = some (nI S) := by rw [← eS]; exact all_m (w := 5) hM (by decide)
        have gt : g_gcd rfu (nI m).toInt64 (nI S).toInt64 σ = some (nL (Nat.gcd S m)) := by rw [Nat.gcd_comm]; exact gcd_top σ (by omega) hS
        refine ⟨if x = 0 then nL (S / Nat.gcd S m) else nL (m / Nat.gcd S m), ?_, ?_⟩
        · unfold f_X7_mean
          rw [if_neg x0, if_neg x1, hmn, bd1_s, if_neg em, su, bd1_s, bd1_s, part_c σ hS (by omega) (by omega) x, bd1_s]
        · unfold f_X8_mean
          rw [hin, bd1_s, if_neg (by decide), many_m hM, bd1_s, if_neg em, bd1_s, al, bd1_s, gt, bd1_s]
          by_cases xz : x = 0
          · rw [if_pos xz, if_pos xz, bd1_s, dzl_n g4 (by omega)]
            rw [← nL_div hS (by omega)]; rfl
          · rw [if_neg xz, if_neg xz, bd1_s, dzl_n g4 (by omega)]
            rw [← nL_div (by omega) (by omega)]; rfl
def cN (p : Nat → Bool) : Nat → Nat
  | 0 => 0
  | k + 1 => if p k = true then cN p k else cN p k + 1
theorem cN_1 (p : Nat → Bool) (k : Nat) : cN p (k + 1) = if p k = true then cN p k else cN p k + 1 := rfl
theorem cN_le (p : Nat → Bool) : ∀ k, cN p k ≤ k
  | 0 => Nat.le_refl _
  | k + 1 => by
    have := cN_le p k
    rw [cN_1]
    split <;> omega
section ChanceB
variable {σ : sg_T} {a b : pa_T} {m : Nat} {d : Int32} {ru : Nat} {T : tx_T} {n : Nat}
theorem cha_c (h : PC σ 34 a m d (nI ru)) (hT : TC σ T n) (hO : TOk T n) (hru : ru < n) {N : Nat} (hN : N ≤ 20) (x z u : Int32) : ∃ r, itr (fun q => b_X7_chance_42 x (nI N) z u q.1 q.2.1 q.2.2) lfu (0, 0, σ) = some r ∧ (r.1 = nI (cN (fun k => decide (sS (dQ T ru a m d (x + nI k) 10).1 4 m < z)) N) ∧ ∀ q, fD q → ¬ (42 ≤ q ∧ q < 50) → r.2.2 q = σ q) := by
  refine itr_run (f := fun q => b_X7_chance_42 x (nI N) z u q.1 q.2.1 q.2.2) (I := fun k q => q.1 = nI (cN (fun k => decide (sS (dQ T ru a m d (x + nI k) 10).1 4 m < z)) k) ∧ q.2.1 = nI k ∧ ∀ p, fD p → ¬ (42 ≤ p ∧ p < 50) → q.2.2 p = σ p) (R := fun r => r.1 = nI (cN (fun k => decide (sS (dQ T ru a m d (x + nI k) 10).1 4 m < z)) N) ∧ ∀ q, fD q → ¬ (42 ≤ q ∧ q < 50) → r.2.2 q = σ q) N (a := (0, 0, σ)) ⟨rfl, rfl, fun _ _ _ => rfl⟩ ?_ ?_ (by omega)
  · intro k hk ⟨w1, w, τ⟩ ⟨hw1, hw, hF⟩
    dsimp only at hw1 hw hF ⊢
    subst hw1 hw
    have hC1 : PC τ 34 a m d (nI ru) := h.eq (fun p _ _ => hF p (by unfold fD; omega) (by omega))
    have hT1 : TC τ T n := hT.eq (fun q _ _ _ _ => hF q (by unfold fD; omega) (by omega))
    obtain ⟨τ1, e1, f1⟩ := draw_c hC1 hT1 hO hru (N := 10) (by decide) (x + nI k)
    have e1' : f_X7_missedWhenDrawn (x + nI k) 10 τ = some (sS (dQ T ru a m d (x + nI k) 10).1 4 m, τ1) := e1
    have fr : ∀ p, fD p → ¬ (42 ≤ p ∧ p < 50) → τ1 p = σ p := fun p g1 g2 => by rw [f1 p g1 g2]; exact hF p g1 g2
    unfold b_X7_chance_42
    rw [if_neg (nle_of_lt hk (by omega)), e1', bd2_s, cN_1]
    by_cases hl : sS (dQ T ru a m d (x + nI k) 10).1 4 m < z
    · rw [if_pos hl, if_pos (decide_eq_true hl), bnd_s, nI_1]
      exact ⟨_, rfl, rfl, rfl, fr⟩
    · rw [if_neg hl, if_neg (by simp [hl]), bnd_s, bnd_s, nI_1, nI_1]
      exact ⟨_, rfl, rfl, rfl, fr⟩
  · intro ⟨w1, w, τ⟩ ⟨hw1, hw, hF⟩
    dsimp only at hw1 hw hF ⊢
    subst hw1 hw
    unfold b_X7_chance_42
    rw [if_pos (Int32.le_refl _)]
    exact ⟨_, rfl, rfl, hF⟩
theorem nL_1 {k : Nat} (hk : k + 1 < 2 ^ 31) : nL k + 1 = nL (k + 1) := by
  have e1 : (1 : Int64).toInt = 1 := by decide
  refine Int64.toInt_inj.mp ?_
  rw [Int64.toInt_add, nL_toInt (by omega), nL_toInt hk, e1, Int.bmod_eq_of_le (by omega) (by omega)]
  omega
theorem cha_m (h : PM σ 70 a m d (nI ru)) (hok : OkP a m) (hT : TM σ T n) (hO : TOk T n) (hru : ru < n) {N : Nat} (hN : N ≤ 20) (x z u : Int32) : ∃ r, itr (fun q => b_X8_chance_40 x (nI N) z u q.1 q.2.1 q.2.2) lfu (0, 0, σ) = some r ∧ (r.1 = nL (cN (fun k => decide (sS (dQ T ru a m d (x + nI k) 10).1 4 m < z)) N) ∧ PM r.2.2 70 a m d (nI ru) ∧ ∀ q, q ≠ 70 → q ≠ 72 → ¬ (79 ≤ q ∧ q ≤ 83) → r.2.2 q = σ q) := by
  refine itr_run (f := fun q => b_X8_chance_40 x (nI N) z u q.1 q.2.1 q.2.2) (I := fun k q => q.1 = nL (cN (fun k => decide (sS (dQ T ru a m d (x + nI k) 10).1 4 m < z)) k) ∧ q.2.1 = nI k ∧ PM q.2.2 70 a m d (nI ru) ∧ ∀ p, p ≠ 70 → p ≠ 72 → ¬ (79 ≤ p ∧ p ≤ 83) → q.2.2 p = σ p) (R := fun r => r.1 = nL (cN (fun k => decide (sS (dQ T ru a m d (x + nI k) 10).1 4 m < z)) N) ∧ PM r.2.2 70 a m d (nI ru) ∧ ∀ q, q ≠ 70 → q ≠ 72 → ¬ (79 ≤ q ∧ q ≤ 83) → r.2.2 q = σ q) N (a := (0, 0, σ)) ⟨show (0 : Int64) = nL 0 by decide, rfl, h, fun _ _ _ _ => rfl⟩ ?_ ?_ (by omega)
  · intro k hk ⟨w1, w, τ⟩ ⟨hw1, hw, hP, hF⟩
    dsimp only at hw1 hw hP hF ⊢
    subst hw1 hw
    have hc := cN_le (fun k => decide (sS (dQ T ru a m d (x + nI k) 10).1 4 m < z)) k
    have hT1 : TM τ T n := TM_scr hT (fun q hq => hF q (by omega) (by omega) (by omega))
    obtain ⟨τ1, e1, hP1, f1⟩ := draw_m hP hok hT1 hO hru (N := 10) (by decide) (x + nI k)
    have e1' : f_X8_drawn (x + nI k) 10 τ = some (sS (dQ T ru a m d (x + nI k) 10).1 4 m, τ1) := e1
    have fr : ∀ p, p ≠ 70 → p ≠ 72 → ¬ (79 ≤ p ∧ p ≤ 83) → τ1 p = σ p := fun p g1 g2 g3 => by rw [f1 p g1 g2 g3]; exact hF p g1 g2 g3
    unfold b_X8_chance_40
    rw [if_neg (nle_of_lt hk (by omega)), e1', bd2_s, cN_1]
    by_cases hl : sS (dQ T ru a m d (x + nI k) 10).1 4 m < z
    · rw [if_pos hl, if_pos (decide_eq_true hl), bnd_s, bnd_s, nI_1, Int64.add_zero]
      exact ⟨_, rfl, rfl, rfl, hP1, fr⟩
    · rw [if_neg hl, if_neg (by simp [hl]), bnd_s, bnd_s, nI_1, nL_1 (by omega)]
      exact ⟨_, rfl, rfl, rfl, hP1, fr⟩
  · intro ⟨w1, w, τ⟩ ⟨hw1, hw, hP, hF⟩
    dsimp only at hw1 hw hP hF ⊢
    subst hw1 hw
    unfold b_X8_chance_40
    rw [if_pos (Int32.le_refl _)]
    exact ⟨_, rfl, rfl, hP, hF⟩
theorem sm_chance (x y z u : Int32) : SML (f_X7_chance x y z u) (f_X8_chance x y z u) := by
  intro σ ⟨a, m, d, ru, T, n, h⟩
  have hW := h
  obtain ⟨hC, hM, hok, hd, hru, hTC, hTM, hO, _⟩ := h
  have hm := hC.1
  by_cases hy : y < 1 ∨ 20 < y
  · refine ⟨-4611686018427387904, σ, σ, ?_, ?_, a, m, d, ru, T, n, hW⟩
    · unfold f_X7_chance
      by_cases y0 : y < 1
      · rw [if_pos y0]
      · rw [if_neg y0, if_pos (hy.resolve_left y0)]
    · unfold f_X8_chance
      rw [isIn_0 hy, bd1_s, if_pos rfl]
  · have y0 : ¬ y < 1 := fun q => hy (Or.inl q)
    have y1 : ¬ 20 < y := fun q => hy (Or.inr q)
    have iny : ∀ τ, f_X8_isIn y 1 20 τ = some 1 := fun τ => isIn_1 (Int32.not_lt.mp y0) (Int32.not_lt.mp y1)
    by_cases hz : z < 0 ∨ 99 < z
    · refine ⟨-4611686018427387904, σ, σ, ?_, ?_, a, m, d, ru, T, n, hW⟩
      · unfold f_X7_chance
        rw [if_neg y0, if_neg y1]
        by_cases z0 : z < 0
        · rw [if_pos z0]
        · rw [if_neg z0, if_pos (hz.resolve_left z0)]
      · unfold f_X8_chance
        rw [iny, bd1_s, if_neg (by decide), isIn_0 hz, bd1_s, if_pos rfl]
    · have z0 : ¬ z < 0 := fun q => hz (Or.inl q)
      have z1 : ¬ 99 < z := fun q => hz (Or.inr q)
      have inz : ∀ τ, f_X8_isIn z 0 99 τ = some 1 := fun τ => isIn_1 (Int32.not_lt.mp z0) (Int32.not_lt.mp z1)
      by_cases u0 : u < 0
      · refine ⟨-4611686018427387904, σ, σ, ?_, ?_, a, m, d, ru, T, n, hW⟩
        · unfold f_X7_chance
          rw [if_neg y0, if_neg y1, if_neg z0, if_neg z1, if_pos u0]
        · unfold f_X8_chance
          rw [iny, bd1_s, if_neg (by decide), inz, bd1_s, if_neg (by decide), isIn_0 (Or.inl u0), bd1_s, if_pos rfl]
      · by_cases u1 : u ≤ 1
        · have hY : ∃ N, 0 < N ∧ N ≤ 20 ∧ y = nI N := by
            have e1 : (1 : Int32).toInt = 1 := by decide
            have e20 : (20 : Int32).toInt = 20 := by decide
            have y0' := y0
            have y1' := y1
            rw [Int32.lt_iff_toInt_lt] at y0' y1'
            exact ⟨y.toInt.toNat, by omega, by omega, Int32.toInt_inj.mp (by rw [nI_toInt (by omega)]; omega)⟩
          obtain ⟨N, hN0, hN, rfl⟩ := hY
          obtain ⟨⟨v1, v2, σ1⟩, e1, r1, f1⟩ := cha_c hC hTC hO hru hN x z u
          dsimp only at r1 f1
          subst r1
          have hM1 : PM σ1 70 a m d (nI ru) := hM.eq (f1 70 (by unfold fD; omega) (by omega))
          have hTM1 : TM σ1 T n := TM_scr hTM (fun q hq => f1 q (by unfold fD; omega) (by omega))
          obtain ⟨⟨w1, w2, σ2⟩, e2, s1, hP2, f2⟩ := cha_m hM1 hok hTM1 hO hru hN x z u
          dsimp only at s1 hP2 f2
          subst s1
          have hc := cN_le (fun k => decide (sS (dQ T ru a m d (x + nI k) 10).1 4 m < z)) N
          obtain ⟨S, eS⟩ : ∃ S, S = cN (fun k => decide (sS (dQ T ru a m d (x + nI k) 10).1 4 m < z)) N := ⟨_, rfl⟩
          rw [← eS] at e1 e2 hc
          have g4 : 0 < Nat.gcd S N := Nat.gcd_pos_of_pos_right S (by omega)
          have g5 : Nat.gcd S N ≤ N := Nat.le_of_dvd (by omega) (Nat.gcd_dvd_right S N)
          have gt : g_gcd rfu (nI N).toInt64 (nL S) σ2 = some (nL (Nat.gcd S N)) := by rw [Nat.gcd_comm]; exact gcd_top σ2 (by omega) (by omega)
          refine ⟨if u = 0 then nL (S / Nat.gcd S N) else nL (N / Nat.gcd S N), σ1, σ2, ?_, ?_, a, m, d, ru, T, n, hW.new (hC.eq (fun p _ _ => ?_)) hP2 hok hd hru (fun q h1 h2 h3 => ?_)⟩
          · unfold f_X7_chance
            rw [if_neg y0, if_neg y1, if_neg z0, if_neg z1, if_neg u0, if_pos u1, e1, bd3_s, part_c σ1 (by omega) hN0 hN u, bd1_s]
          · unfold f_X8_chance
            rw [iny, bd1_s, if_neg (by decide), inz, bd1_s, if_neg (by decide), isIn_1 (Int32.not_lt.mp u0) u1, bd1_s, if_neg (by decide), e2, bd3_s, gt, bd1_s]
            by_cases uz : u = 0
            · rw [if_pos uz, if_pos uz, dzl_n g4 (by omega), nL_div (by omega) (by omega)]
            · rw [if_neg uz, if_neg uz, dzl_n g4 (by omega)]
              rw [← nL_div (by omega) (by omega)]; rfl
          · rw [f2 p (by omega) (by omega) (by omega), f1 p (by unfold fD; omega) (by omega)]
          · unfold kp at h1
            rw [f2 q h3 (by omega) (by omega), f1 q (by unfold fD; omega) (by omega)]
        · refine ⟨-4611686018427387904, σ, σ, ?_, ?_, a, m, d, ru, T, n, hW⟩
          · unfold f_X7_chance
            rw [if_neg y0, if_neg y1, if_neg z0, if_neg z1, if_neg u0, if_neg u1]
          · unfold f_X8_chance
            rw [iny, bd1_s, if_neg (by decide), inz, bd1_s, if_neg (by decide), isIn_0 (Or.inr (Int32.not_le.mp u1)), bd1_s, if_pos rfl]
end ChanceB
