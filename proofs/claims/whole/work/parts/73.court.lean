/-! court: people come from a sheet -/
abbrev ok3 (x y z : Int32) : Prop := (0 ≤ x ∧ x ≤ 5) ∧ (0 ≤ y ∧ y ≤ 9) ∧ (0 ≤ z ∧ z ≤ 23)
theorem come_e (x y z : Int32) (σ : sg_T) : f_X1_come 34 x y z σ = f_X7_person x y z σ := by
  unfold f_X7_person
  rcases f_X1_come 34 x y z σ with _ | ⟨r, τ⟩
  · rfl
  · rfl
theorem ok3_i {x y z : Int32} (h : ok3 x y z) : inr x 0 5 ∧ inr y 0 9 ∧ inr z 0 23 := by
  have e0 : (0 : Int32).toInt = 0 := by decide
  have e5 : (5 : Int32).toInt = 5 := by decide
  have e9 : (9 : Int32).toInt = 9 := by decide
  have e23 : (23 : Int32).toInt = 23 := by decide
  obtain ⟨⟨x0, x1⟩, ⟨y0, y1⟩, z0, z1⟩ := h
  rw [Int32.le_iff_toInt_le] at x0 x1 y0 y1 z0 z1
  unfold inr; omega
section CourtB
variable {σ : sg_T} {a b : pa_T} {m : Nat} {d ru : Int32}
theorem per_c (hC : PC σ 34 a m d ru) (x y z : Int32) : (ok3 x y z ∧ m < 5 ∧ ∃ τ, f_X1_come 34 x y z σ = some (nI m, τ) ∧ PC τ 34 (aN a m x y z) (m + 1) d ru ∧ ∀ q, ¬ (34 ≤ q ∧ q ≤ 41) → τ q = σ q) ∨ (¬ (ok3 x y z ∧ m < 5) ∧ ∃ r, r < 0 ∧ f_X1_come 34 x y z σ = some (r, σ)) := by
  have hm := hC.1
  have e0 : (0 : Int32).toInt = 0 := by decide
  have e5 : (5 : Int32).toInt = 5 := by decide
  have e6 : (6 : Int32).toInt = 6 := by decide
  have e9 : (9 : Int32).toInt = 9 := by decide
  have e23 : (23 : Int32).toInt = 23 := by decide
  have e24 : (24 : Int32).toInt = 24 := by decide
  have c9 : c_hi 1 = 9 := by decide
  have ck1 : ∀ {β : Type} (r : Option β), ck 1 7 r = r := fun r => ck_n (i := 1) (by decide) (by decide)
  by_cases hb : ok3 x y z
  · have hb' := hb
    obtain ⟨⟨x0, x1⟩, ⟨y0, y1⟩, z0, z1⟩ := hb'
    have x6 : ¬ 6 ≤ x := by
      rw [Int32.le_iff_toInt_le] at x1 ⊢; omega
    have z24 : z < 24 := by
      rw [Int32.le_iff_toInt_le] at z1
      rw [Int32.lt_iff_toInt_lt]; omega
    by_cases h5 : m < 5
    · left
      obtain ⟨σ1, e1, hC1, f1⟩ := come_c hC h5 (Int32.not_lt.mpr x0) x6 (Int32.not_lt.mpr y0) (Int32.not_lt.mpr y1) (Int32.not_lt.mpr z0) z24
      exact ⟨hb, h5, σ1, by rw [come_e]; exact e1, hC1, f1⟩
    · right
      have n5 : ¬ nI m < 5 := by
        have : m = 5 := by omega
        rw [this]; decide
      refine ⟨fun q => h5 q.2, -4, by decide, ?_⟩
      unfold f_X1_come
      rw [if_neg (Int32.not_lt.mpr x0), if_neg x6, if_neg (Int32.not_lt.mpr y0), ck1, c9, if_neg (Int32.not_lt.mpr y1), if_neg (Int32.not_lt.mpr z0), if_pos z24, hC.2.1, if_neg n5]
  · right
    refine ⟨fun q => hb q.1, -2, by decide, ?_⟩
    unfold f_X1_come
    by_cases x0 : x < 0
    · rw [if_pos x0]
    · by_cases x6 : 6 ≤ x
      · rw [if_neg x0, if_pos x6]
      · by_cases y0 : y < 0
        · rw [if_neg x0, if_neg x6, if_pos y0]
        · by_cases y1 : 9 < y
          · rw [if_neg x0, if_neg x6, if_neg y0, ck1, c9, if_pos y1]
          · by_cases z0 : z < 0
            · rw [if_neg x0, if_neg x6, if_neg y0, ck1, c9, if_neg y1, if_pos z0]
            · have z24 : ¬ z < 24 := fun q => hb (by
                rw [Int32.lt_iff_toInt_lt] at x0 y0 y1 z0 q
                rw [Int32.le_iff_toInt_le] at x6
                unfold ok3
                simp only [Int32.le_iff_toInt_le]; omega)
              rw [if_neg x0, if_neg x6, if_neg y0, ck1, c9, if_neg y1, if_neg z0, if_neg z24]
theorem per_m (hM : PM σ 70 a m d ru) (x y z : Int32) : (ok3 x y z ∧ m < 5 ∧ ∃ τ, f_X8_person x y z σ = some (nI m, τ) ∧ PM τ 70 (aN a m x y z) (m + 1) d ru ∧ ∀ q, q ≠ 70 → τ q = σ q) ∨ (¬ (ok3 x y z ∧ m < 5) ∧ ∃ r, r < 0 ∧ f_X8_person x y z σ = some (r, σ)) := by
  have hm := hM.1
  by_cases hb : ok3 x y z
  · have hb' := hb
    obtain ⟨⟨x0, x1⟩, ⟨y0, y1⟩, z0, z1⟩ := hb'
    by_cases h5 : m < 5
    · left
      obtain ⟨σ2, e2, hM2, f2⟩ := come_m hM h5 x0 x1 y0 y1 z0 z1
      exact ⟨hb, h5, σ2, e2, hM2, f2⟩
    · right
      have n5 : nI m = 5 := by
        have : m = 5 := by omega
        rw [this]; rfl
      refine ⟨fun q => h5 q.2, -4, by decide, ?_⟩
      unfold f_X8_person
      rw [isIn_1 x0 x1, bd1_s, if_neg (by decide), isIn_1 y0 y1, bd1_s, if_neg (by decide), isIn_1 z0 z1, bd1_s, if_neg (by decide), many_m hM, bd1_s, if_pos n5]
  · right
    refine ⟨fun q => hb q.1, -2, by decide, ?_⟩
    unfold f_X8_person
    by_cases hx : 0 ≤ x ∧ x ≤ 5
    · by_cases hy : 0 ≤ y ∧ y ≤ 9
      · have hz : z < 0 ∨ 23 < z := by
          by_cases z0 : z < 0
          · exact Or.inl z0
          · right
            exact Int32.not_le.mp (fun q => hb ⟨hx, hy, Int32.not_lt.mp z0, q⟩)
        rw [isIn_1 hx.1 hx.2, bd1_s, if_neg (by decide), isIn_1 hy.1 hy.2, bd1_s, if_neg (by decide), isIn_0 hz, bd1_s, if_pos rfl]
      · have hy2 : y < 0 ∨ 9 < y := by
          by_cases y0 : y < 0
          · exact Or.inl y0
          · right
            exact Int32.not_le.mp (fun q => hy ⟨Int32.not_lt.mp y0, q⟩)
        rw [isIn_1 hx.1 hx.2, bd1_s, if_neg (by decide), isIn_0 hy2, bd1_s, if_pos rfl]
    · have hx2 : x < 0 ∨ 5 < x := by
        by_cases x0 : x < 0
        · exact Or.inl x0
        · right
          exact Int32.not_le.mp (fun q => hx ⟨Int32.not_lt.mp x0, q⟩)
      rw [isIn_0 hx2, bd1_s, if_pos rfl]
/-- the people behind k of the sheet's, and how many came -/
def crS (v : Nat → Int32) (i : Nat) (a : pa_T) (m : Nat) : Nat → pa_T × Nat × Nat
  | 0 => (a, m, 0)
  | k + 1 => if ok3 (v (i + 3 * k)) (v (i + 3 * k + 1)) (v (i + 3 * k + 2)) ∧ (crS v i a m k).2.1 < 5 then (aN (crS v i a m k).1 (crS v i a m k).2.1 (v (i + 3 * k)) (v (i + 3 * k + 1)) (v (i + 3 * k + 2)), (crS v i a m k).2.1 + 1, (crS v i a m k).2.2 + 1) else crS v i a m k
theorem crS_1 (v : Nat → Int32) (i : Nat) (a : pa_T) (m k : Nat) : crS v i a m (k + 1) = if ok3 (v (i + 3 * k)) (v (i + 3 * k + 1)) (v (i + 3 * k + 2)) ∧ (crS v i a m k).2.1 < 5 then (aN (crS v i a m k).1 (crS v i a m k).2.1 (v (i + 3 * k)) (v (i + 3 * k + 1)) (v (i + 3 * k + 2)), (crS v i a m k).2.1 + 1, (crS v i a m k).2.2 + 1) else crS v i a m k := rfl
theorem crS_ok {v : Nat → Int32} {i : Nat} (h : OkP a m) : ∀ k, OkP (crS v i a m k).1 (crS v i a m k).2.1
  | 0 => h
  | k + 1 => by
    rw [crS_1]
    by_cases hc : ok3 (v (i + 3 * k)) (v (i + 3 * k + 1)) (v (i + 3 * k + 2)) ∧ (crS v i a m k).2.1 < 5
    · rw [if_pos hc]
      obtain ⟨h1, h2, h3⟩ := ok3_i hc.1
      exact aN_ok (crS_ok h k) h1 h2 h3
    · rw [if_neg hc]; exact crS_ok h k
theorem get_at {o L j : Nat} (hL : L ≤ 40) (h2 : σ o 2 = nI L) (hj : j < L) : f_X4_get o (nI j) σ = some (σ (o + 1) j) := by
  unfold f_X4_get
  rw [if_neg (nI_pos (by omega)), h2, if_neg (nle_of_lt hj (by omega)), ck_n (by omega) (by decide), nI_clamp (by omega)]
theorem rng3_in {o L j : Nat} (hL : L ≤ 40) (h2 : σ o 2 = nI L) (hj : j + 3 ≤ L) : f_X4_hasRange o (nI j) 3 σ = some 1 := by
  rcases rng_cases hL h2 (nI j) 3 with ⟨_, _, _, _, _, r⟩ | ⟨_, hb⟩
  · exact r
  · exfalso
    have e3 : (3 : Int32).toInt = 3 := by decide
    have e0 : (0 : Int32).toInt = 0 := by decide
    rcases hb with hb | hb | hb
    · exact nI_pos (by omega) hb
    · exact absurd hb (by decide)
    · rw [Int32.lt_iff_toInt_lt, pk_sub_toInt (by omega) (by omega)] at hb; omega
theorem rng3_out {o L j : Nat} (hL : L ≤ 40) (h2 : σ o 2 = nI L) (hj31 : j < 2 ^ 31) (hj : ¬ j + 3 ≤ L) : f_X4_hasRange o (nI j) 3 σ = some 0 := by
  rcases rng_cases hL h2 (nI j) 3 with ⟨i, k, hik, e1, e2, _⟩ | ⟨r, _⟩
  · exfalso
    have h3 : k = 3 := nI_inj (by omega) (by decide) e2.symm
    have h4 : j = i := nI_inj hj31 (by omega) e1
    omega
  · exact r
theorem court_c (h : PC σ 34 a m d ru) {s L i N K : Nat} (hs : s < 4) (hL : L ≤ 40) (h2 : σ (61 + 2 * s) 2 = nI L) (h4 : ∀ j, j < L → σ (61 + 2 * s + 1) j = σ 86 (40 * s + j)) (hi : i < 2 ^ 31) (hN : N ≤ 5) (hK : K ≤ N) (hf : ∀ j, j < K → i + 3 * j + 3 ≤ L) (hl : K = N ∨ ¬ i + 3 * K + 3 ≤ L) (u1 u2 u3 : Int32) : ∃ τ w, itr (fun q => b_X7_court_68 u1 u2 u3 (nI N) (61 + 2 * s) q.1 q.2.1 q.2.2.1 q.2.2.2) lfu (0, nI i, 0, σ) = some (if K = N then .inl (nI (crS (fun j => σ 86 (40 * s + j)) i a m K).2.2, w, nI N, τ) else .inr (-12, τ)) ∧ PC τ 34 (crS (fun j => σ 86 (40 * s + j)) i a m K).1 (crS (fun j => σ 86 (40 * s + j)) i a m K).2.1 d ru ∧ ∀ q, ¬ (34 ≤ q ∧ q ≤ 41) → τ q = σ q := by
  have hrun : ∃ r, itr (fun q => b_X7_court_68 u1 u2 u3 (nI N) (61 + 2 * s) q.1 q.2.1 q.2.2.1 q.2.2.2) lfu (0, nI i, 0, σ) = some r ∧ (∃ τ w, r = (if K = N then .inl (nI (crS (fun j => σ 86 (40 * s + j)) i a m K).2.2, w, nI N, τ) else .inr (-12, τ)) ∧ PC τ 34 (crS (fun j => σ 86 (40 * s + j)) i a m K).1 (crS (fun j => σ 86 (40 * s + j)) i a m K).2.1 d ru ∧ ∀ q, ¬ (34 ≤ q ∧ q ≤ 41) → τ q = σ q) := by
    refine itr_run (f := fun q => b_X7_court_68 u1 u2 u3 (nI N) (61 + 2 * s) q.1 q.2.1 q.2.2.1 q.2.2.2) (I := fun k q => q.1 = nI (crS (fun j => σ 86 (40 * s + j)) i a m k).2.2 ∧ q.2.1 = nI (i + 3 * k) ∧ q.2.2.1 = nI k ∧ PC q.2.2.2 34 (crS (fun j => σ 86 (40 * s + j)) i a m k).1 (crS (fun j => σ 86 (40 * s + j)) i a m k).2.1 d ru ∧ ∀ p, ¬ (34 ≤ p ∧ p ≤ 41) → q.2.2.2 p = σ p) (R := fun r => ∃ τ w, r = (if K = N then .inl (nI (crS (fun j => σ 86 (40 * s + j)) i a m K).2.2, w, nI N, τ) else .inr (-12, τ)) ∧ PC τ 34 (crS (fun j => σ 86 (40 * s + j)) i a m K).1 (crS (fun j => σ 86 (40 * s + j)) i a m K).2.1 d ru ∧ ∀ q, ¬ (34 ≤ q ∧ q ≤ 41) → τ q = σ q) K (a := (0, nI i, 0, σ)) ⟨rfl, rfl, rfl, h, fun _ _ => rfl⟩ ?_ ?_ (by omega)
    · intro k hk ⟨w1, w2, w3, τ⟩ ⟨hw1, hw2, hw3, hP, hF⟩
      dsimp only at hw1 hw2 hw3 hP hF ⊢
      subst hw1 hw2 hw3
      have hfk := hf k hk
      have t2 : τ (61 + 2 * s) 2 = nI L := by rw [hF _ (by omega)]; exact h2
      have g : ∀ j, j < L → f_X4_get (61 + 2 * s) (nI j) τ = some (σ 86 (40 * s + j)) := fun j hj => by rw [get_at hL t2 hj, hF _ (by omega), h4 j hj]
      have a1 : nI (i + 3 * k) + 1 = nI (i + 3 * k + 1) := nI_1 _
      have a2 : nI (i + 3 * k) + 2 = nI (i + 3 * k + 2) := by rw [n_2, nI_add]
      have a3 : nI (i + 3 * k) + 3 = nI (i + 3 * (k + 1)) := by rw [n_3, nI_add]; rfl
      unfold b_X7_court_68
      rw [if_neg (nle_of_lt (by omega) (by omega)), rng3_in hL t2 hfk, bd1_s, if_neg (by decide), g _ (by omega), bd1_s, a1, g _ (by omega), bd1_s, a2, g _ (by omega), bd1_s]
      rcases per_c hP (σ 86 (40 * s + (i + 3 * k))) (σ 86 (40 * s + (i + 3 * k + 1))) (σ 86 (40 * s + (i + 3 * k + 2))) with ⟨ho, hm5, τ1, e1, hP1, f1⟩ | ⟨hn, r, hr, e1⟩
      · rw [e1, bd2_s, if_neg (nI_pos (by omega)), bnd_s, bnd_s, bnd_s, nI_1, nI_1, a3, crS_1, if_pos ⟨ho, hm5⟩]
        exact ⟨_, rfl, rfl, rfl, rfl, hP1, fun p hp => by dsimp only; rw [f1 p hp]; exact hF p hp⟩
      · rw [e1, bd2_s, if_pos hr, bnd_s, bnd_s, nI_1, a3, crS_1, if_neg hn]
        exact ⟨_, rfl, rfl, rfl, rfl, hP, hF⟩
    · intro ⟨w1, w2, w3, τ⟩ ⟨hw1, hw2, hw3, hP, hF⟩
      dsimp only at hw1 hw2 hw3 hP hF ⊢
      subst hw1 hw2 hw3
      have t2 : τ (61 + 2 * s) 2 = nI L := by rw [hF _ (by omega)]; exact h2
      unfold b_X7_court_68
      by_cases hKN : K = N
      · subst hKN
        rw [if_pos (Int32.le_refl _)]
        refine ⟨_, rfl, τ, nI (i + 3 * K), ?_, hP, hF⟩
        rw [if_pos rfl]
      · have hfk := hl.resolve_left hKN
        have hb : i + 3 * K < 2 ^ 31 := by
          by_cases hK0 : K = 0
          · omega
          · have := hf (K - 1) (by omega); omega
        rw [if_neg (nle_of_lt (by omega) (by omega)), rng3_out hL t2 hb hfk, bd1_s, if_pos rfl]
        refine ⟨_, rfl, τ, 0, ?_, hP, hF⟩
        rw [if_neg hKN]
  obtain ⟨r, e1, τ, w, e2, hP, hF⟩ := hrun
  exact ⟨τ, w, by rw [e1, e2], hP, hF⟩
theorem court_m (h : PM σ 70 a m d ru) {s L i N K : Nat} (hs : s < 4) (hL : L ≤ 40) (h2 : σ 85 s = nI L) (hi : i < 2 ^ 31) (hN : N ≤ 5) (hK : K ≤ N) (hf : ∀ j, j < K → i + 3 * j + 3 ≤ L) (hl : K = N ∨ ¬ i + 3 * K + 3 ≤ L) (u2 : Int32) : ∃ τ w, itr (fun q => b_X8_court_61 (nI s) u2 (nI i) (nI N) q.1 q.2.1 q.2.2) lfu (0, 0, σ) = some (if K = N then .inl (nI (crS (fun j => σ 86 (40 * s + j)) i a m K).2.2, w, τ) else .inr (-12, τ)) ∧ PM τ 70 (crS (fun j => σ 86 (40 * s + j)) i a m K).1 (crS (fun j => σ 86 (40 * s + j)) i a m K).2.1 d ru ∧ ∀ q, q ≠ 70 → τ q = σ q := by
  have hrun : ∃ r, itr (fun q => b_X8_court_61 (nI s) u2 (nI i) (nI N) q.1 q.2.1 q.2.2) lfu (0, 0, σ) = some r ∧ (∃ τ w, r = (if K = N then .inl (nI (crS (fun j => σ 86 (40 * s + j)) i a m K).2.2, w, τ) else .inr (-12, τ)) ∧ PM τ 70 (crS (fun j => σ 86 (40 * s + j)) i a m K).1 (crS (fun j => σ 86 (40 * s + j)) i a m K).2.1 d ru ∧ ∀ q, q ≠ 70 → τ q = σ q) := by
    have ck4 : ∀ {β : Type} (r : Option β), ck (nI s) 4 r = r := fun r => ck_n hs (by decide)
    have cl : (nI s).toNatClampNeg = s := nI_clamp (by omega)
    have e3 : (3 : Int32) = nI 3 := rfl
    have el : (nI L - 3).toInt = L - 3 := by rw [e3, pk_sub_toInt (by omega) (by decide)]; rfl
    refine itr_run (f := fun q => b_X8_court_61 (nI s) u2 (nI i) (nI N) q.1 q.2.1 q.2.2) (I := fun k q => q.1 = nI (crS (fun j => σ 86 (40 * s + j)) i a m k).2.2 ∧ q.2.1 = nI k ∧ PM q.2.2 70 (crS (fun j => σ 86 (40 * s + j)) i a m k).1 (crS (fun j => σ 86 (40 * s + j)) i a m k).2.1 d ru ∧ ∀ p, p ≠ 70 → q.2.2 p = σ p) (R := fun r => ∃ τ w, r = (if K = N then .inl (nI (crS (fun j => σ 86 (40 * s + j)) i a m K).2.2, w, τ) else .inr (-12, τ)) ∧ PM τ 70 (crS (fun j => σ 86 (40 * s + j)) i a m K).1 (crS (fun j => σ 86 (40 * s + j)) i a m K).2.1 d ru ∧ ∀ q, q ≠ 70 → τ q = σ q) K (a := (0, 0, σ)) ⟨rfl, rfl, h, fun _ _ => rfl⟩ ?_ ?_ (by omega)
    · intro k hk ⟨w1, w2, τ⟩ ⟨hw1, hw2, hP, hF⟩
      dsimp only at hw1 hw2 hP hF ⊢
      subst hw1 hw2
      have hfk := hf k hk
      have ei : nI i + 3 * nI k = nI (i + 3 * k) := by rw [e3, pk_mul, nI_add]
      have ej : (40 : Int32) * nI s + nI (i + 3 * k) = nI (40 * s + (i + 3 * k)) := by
        rw [show (40 : Int32) = nI 40 from rfl, pk_mul, nI_add]
      have a1 : nI (40 * s + (i + 3 * k)) + 1 = nI (40 * s + (i + 3 * k + 1)) := nI_1 _
      have a2 : nI (40 * s + (i + 3 * k)) + 2 = nI (40 * s + (i + 3 * k + 2)) := by rw [n_2, nI_add]; rfl
      have hle : nI (i + 3 * k) ≤ nI L - 3 := by
        rw [Int32.le_iff_toInt_le, el, nI_toInt (by omega)]; omega
      unfold b_X8_court_61
      rw [if_neg (nle_of_lt (by omega) (by omega)), ei, bnd_s, if_neg (nI_pos (by omega)), ck4, cl, hF 85 (by decide), h2, if_pos hle, ej, bnd_s, a1, a2, ck_n (by omega) (by decide), ck_n (by omega) (by decide), ck_n (by omega) (by decide), nI_clamp (by omega), nI_clamp (by omega), nI_clamp (by omega), hF 86 (by decide)]
      rcases per_m hP (σ 86 (40 * s + (i + 3 * k))) (σ 86 (40 * s + (i + 3 * k + 1))) (σ 86 (40 * s + (i + 3 * k + 2))) with ⟨ho, hm5, τ1, e1, hP1, f1⟩ | ⟨hn, r, hr, e1⟩
      · rw [e1, bd2_s, if_neg (nI_pos (by omega)), bnd_s, bnd_s, bnd_s, nI_1, nI_1, crS_1, if_pos ⟨ho, hm5⟩]
        exact ⟨_, rfl, rfl, rfl, hP1, fun p hp => by dsimp only; rw [f1 p hp]; exact hF p hp⟩
      · rw [e1, bd2_s, if_pos hr, bnd_s, bnd_s, bnd_s, nI_1, crS_1, if_neg hn, Int32.add_zero]
        exact ⟨_, rfl, rfl, rfl, hP, hF⟩
    · intro ⟨w1, w2, τ⟩ ⟨hw1, hw2, hP, hF⟩
      dsimp only at hw1 hw2 hP hF ⊢
      subst hw1 hw2
      unfold b_X8_court_61
      by_cases hKN : K = N
      · subst hKN
        rw [if_pos (Int32.le_refl _)]
        refine ⟨_, rfl, τ, nI K, ?_, hP, hF⟩
        rw [if_pos rfl]
      · have hfk := hl.resolve_left hKN
        have hb : i + 3 * K < 2 ^ 31 := by
          by_cases hK0 : K = 0
          · omega
          · have := hf (K - 1) (by omega); omega
        have ei : nI i + 3 * nI K = nI (i + 3 * K) := by rw [e3, pk_mul, nI_add]
        have hle : ¬ nI (i + 3 * K) ≤ nI L - 3 := by
          rw [Int32.le_iff_toInt_le, el, nI_toInt (by omega)]; omega
        rw [if_neg (nle_of_lt (by omega) (by omega)), ei, bnd_s, if_neg (nI_pos (by omega)), ck4, cl, hF 85 (by decide), h2, if_neg hle]
        refine ⟨_, rfl, τ, 0, ?_, hP, hF⟩
        rw [if_neg hKN]
  obtain ⟨r, e1, τ, w, e2, hP, hF⟩ := hrun
  exact ⟨τ, w, by rw [e1, e2], hP, hF⟩
/-- how far a row of threes goes -/
theorem far (i L : Nat) : ∀ N, ∃ K, K ≤ N ∧ (∀ j, j < K → i + 3 * j + 3 ≤ L) ∧ (K = N ∨ ¬ i + 3 * K + 3 ≤ L)
  | 0 => ⟨0, Nat.le_refl _, fun j hj => absurd hj (Nat.not_lt_zero _), Or.inl rfl⟩
  | N + 1 => by
    obtain ⟨K, h1, h2, h3⟩ := far i L N
    by_cases hK : K = N
    · by_cases hf : i + 3 * N + 3 ≤ L
      · refine ⟨N + 1, Nat.le_refl _, fun j hj => ?_, Or.inl rfl⟩
        by_cases hjN : j = N
        · rw [hjN]; exact hf
        · exact h2 j (by omega)
      · exact ⟨N, by omega, fun j hj => h2 j (by omega), Or.inr hf⟩
    · exact ⟨K, by omega, h2, Or.inr (h3.resolve_left hK)⟩
theorem sm_court (x y z u : Int32) : SM (f_X7_court x y z u) (f_X8_court x y z u) := by
  intro σ ⟨a, m, d, ru, T, n, h⟩
  have hW := h
  obtain ⟨hC, hM, hok, hd, hru, hTC, hTM, hO, hI, hTp, hS, hH⟩ := h
  have hm := hC.1
  have e0 : (0 : Int32).toInt = 0 := by decide
  have e2 : (2 : Int32).toInt = 2 := by decide
  have e5 : (5 : Int32).toInt = 5 := by decide
  rcases shx x with ⟨s, hs, rfl⟩ | hx
  · obtain ⟨L, hL, e1, e2, e3, e4⟩ := shSz hS hs
    have ck4 : ∀ {β : Type} (r : Option β), ck (nI s) 4 r = r := fun r => ck_n hs (by decide)
    have cl : (nI s).toNatClampNeg = s := nI_clamp (by omega)
    by_cases yb : 0 ≤ y ∧ y ≤ 2
    · have so1 : f_X7_isSort y σ = some 1 := by
        unfold f_X7_isSort
        rw [if_neg (Int32.not_lt.mpr yb.1), if_neg (Int32.not_lt.mpr yb.2), bnd_s, cz_1]
      have iy : ∀ τ, f_X8_isIn y 0 2 τ = some 1 := fun τ => isIn_1 yb.1 yb.2
      by_cases u0 : u < 0
      · refine ⟨-2, σ, σ, ?_, ?_, a, m, d, ru, T, n, hW⟩
        · unfold f_X7_court
          rw [isSheet_c1 hs, bd1_s, if_neg (by decide), so1, bd1_s, if_neg (by decide), if_pos u0]
        · unfold f_X8_court
          rw [isSheet_m1 hs, bd1_s, if_neg (by decide), iy, bd1_s, if_neg (by decide), isIn_0 (Or.inl u0), bd1_s, if_pos rfl]
      · by_cases u1 : u ≤ 5
        · have hu : ∃ N, N ≤ 5 ∧ u = nI N := by
            have u0' := u0
            have u1' := u1
            rw [Int32.lt_iff_toInt_lt] at u0'
            rw [Int32.le_iff_toInt_le] at u1'
            exact ⟨u.toInt.toNat, by omega, Int32.toInt_inj.mp (by rw [nI_toInt (by omega)]; omega)⟩
          obtain ⟨N, hN, rfl⟩ := hu
          have iu : ∀ τ, f_X8_isIn (nI N) 0 5 τ = some 1 := fun τ => isIn_1 (Int32.not_lt.mp u0) u1
          by_cases q1 : σ 84 s = -1
          · have ms : f_X4_isMissing (61 + 2 * s) σ = some 1 := by unfold f_X4_isMissing; rw [e3, if_pos q1, bnd_s, cz_1]
            refine ⟨-11, σ, σ, ?_, ?_, a, m, d, ru, T, n, hW⟩
            · unfold f_X7_court
              rw [isSheet_c1 hs, bd1_s, if_neg (by decide), so1, bd1_s, if_neg (by decide), if_neg u0, if_pos u1, ck4, cl, ms, bd1_s, if_neg (by decide)]
            · unfold f_X8_court
              rw [isSheet_m1 hs, bd1_s, if_neg (by decide), iy, bd1_s, if_neg (by decide), iu, bd1_s, if_neg (by decide), ck4, cl, if_pos q1]
          · have ms : f_X4_isMissing (61 + 2 * s) σ = some 0 := by unfold f_X4_isMissing; rw [e3, if_neg q1, bnd_s, cz_0]
            have so : f_X4_sort (61 + 2 * s) σ = some (σ 84 s) := by unfold f_X4_sort; rw [e3]
            by_cases q2 : σ 84 s = y
            · -- what both do, for an answer
              have cls : ∀ r, f_X7_court (nI s) y z (nI N) σ = r ↔ bs (itr (fun q => b_X7_court_68 (nI s) y z (nI N) (61 + 2 * s) q.1 q.2.1 q.2.2.1 q.2.2.2) lfu (0, z, 0, σ)) (fun q => some q) (fun q => (fun v41 v42 v43 σ44 => some (v41, σ44)) q.1 q.2.1 q.2.2.1 q.2.2.2) = r := fun r => by
                unfold f_X7_court
                rw [isSheet_c1 hs, bd1_s, if_neg (by decide), so1, bd1_s, if_neg (by decide), if_neg u0, if_pos u1, ck4, cl, ms, bd1_s, if_pos rfl, so, bd1_s, if_pos q2]
              have mdl : ∀ τ r, τ 84 = σ 84 → (f_X8_court (nI s) y z (nI N) τ = r ↔ bs (itr (fun q => b_X8_court_61 (nI s) y z (nI N) q.1 q.2.1 q.2.2) lfu (0, 0, τ)) (fun q => some q) (fun q => (fun v33 v34 σ35 => some (v33, σ35)) q.1 q.2.1 q.2.2) = r) := fun τ r ht => by
                unfold f_X8_court
                rw [isSheet_m1 hs, bd1_s, if_neg (by decide), iy, bd1_s, if_neg (by decide), iu, bd1_s, if_neg (by decide), ck4, cl, ht, if_neg q1, ck4, if_pos q2]
              by_cases z0 : z < 0
              · by_cases hN0 : N = 0
                · subst hN0
                  refine ⟨0, σ, σ, (cls _).mpr ?_, (mdl _ _ rfl).mpr ?_, a, m, d, ru, T, n, hW⟩
                  · have : itr (fun q => b_X7_court_68 (nI s) y z (nI 0) (61 + 2 * s) q.1 q.2.1 q.2.2.1 q.2.2.2) lfu (0, z, 0, σ) = some (.inl (0, z, 0, σ)) := by
                      refine itr_r (n := 99999) ?_
                      show b_X7_court_68 (nI s) y z (nI 0) (61 + 2 * s) 0 z 0 σ = _
                      unfold b_X7_court_68
                      rw [if_pos (by decide)]
                    rw [this, bs_l]
                  · have : itr (fun q => b_X8_court_61 (nI s) y z (nI 0) q.1 q.2.1 q.2.2) lfu (0, 0, σ) = some (.inl (0, 0, σ)) := by
                      refine itr_r (n := 99999) ?_
                      show b_X8_court_61 (nI s) y z (nI 0) 0 0 σ = _
                      unfold b_X8_court_61
                      rw [if_pos (by decide)]
                    rw [this, bs_l]
                · have nl : ¬ nI N ≤ 0 := nle_of_lt (i := 0) (by omega) (by omega)
                  refine ⟨-12, σ, σ, (cls _).mpr ?_, (mdl _ _ rfl).mpr ?_, a, m, d, ru, T, n, hW⟩
                  · have : itr (fun q => b_X7_court_68 (nI s) y z (nI N) (61 + 2 * s) q.1 q.2.1 q.2.2.1 q.2.2.2) lfu (0, z, 0, σ) = some (.inr (-12, σ)) := by
                      refine itr_r (n := 99999) ?_
                      show b_X7_court_68 (nI s) y z (nI N) (61 + 2 * s) 0 z 0 σ = _
                      have hr : f_X4_hasRange (61 + 2 * s) z 3 σ = some 0 := by
                        unfold f_X4_hasRange
                        rw [if_pos z0]
                      unfold b_X7_court_68
                      rw [if_neg nl, hr, bd1_s, if_pos rfl]
                    rw [this, bs_r]
                  · have : itr (fun q => b_X8_court_61 (nI s) y z (nI N) q.1 q.2.1 q.2.2) lfu (0, 0, σ) = some (.inr (-12, σ)) := by
                      refine itr_r (n := 99999) ?_
                      show b_X8_court_61 (nI s) y z (nI N) 0 0 σ = _
                      unfold b_X8_court_61
                      rw [if_neg nl, bnd_s, if_pos z0]
                    rw [this, bs_r]
              · obtain ⟨i, hi, rfl⟩ := nn_nI z0
                obtain ⟨K, k1, k2, k3⟩ := far i L N
                obtain ⟨σ1, w1, c1, hC1, f1⟩ := court_c hC hs hL e2 e4 hi hN k1 k2 k3 (nI s) y (nI i)
                have hM1 : PM σ1 70 a m d (nI ru) := hM.eq (f1 70 (by omega))
                obtain ⟨σ2, w2, c2, hM2, f2⟩ := court_m hM1 hs hL (by rw [f1 85 (by omega)]; exact e1) hi hN k1 k2 k3 y
                rw [f1 86 (by omega)] at c2 hM2
                have hfin : WRL σ2 := ⟨_, _, d, ru, T, n, hW.new (hC1.eq (fun p _ _ => f2 p (by omega))) hM2 (crS_ok hok K) hd hru (fun q _ g2 g3 => by rw [f2 q g3]; exact f1 q g2)⟩
                by_cases hKN : K = N
                · rw [if_pos hKN] at c1 c2
                  refine ⟨nI (crS (fun j => σ 86 (40 * s + j)) i a m K).2.2, σ1, σ2, (cls _).mpr ?_, (mdl _ _ (f1 84 (by omega))).mpr ?_, hfin⟩
                  · rw [c1, bs_l]
                  · rw [c2, bs_l]
                · rw [if_neg hKN] at c1 c2
                  refine ⟨-12, σ1, σ2, (cls _).mpr ?_, (mdl _ _ (f1 84 (by omega))).mpr ?_, hfin⟩
                  · rw [c1, bs_r]
                  · rw [c2, bs_r]
            · refine ⟨-13, σ, σ, ?_, ?_, a, m, d, ru, T, n, hW⟩
              · unfold f_X7_court
                rw [isSheet_c1 hs, bd1_s, if_neg (by decide), so1, bd1_s, if_neg (by decide), if_neg u0, if_pos u1, ck4, cl, ms, bd1_s, if_pos rfl, so, bd1_s, if_neg q2]
              · unfold f_X8_court
                rw [isSheet_m1 hs, bd1_s, if_neg (by decide), iy, bd1_s, if_neg (by decide), iu, bd1_s, if_neg (by decide), ck4, cl, if_neg q1, ck4, if_neg q2]
        · refine ⟨-2, σ, σ, ?_, ?_, a, m, d, ru, T, n, hW⟩
          · unfold f_X7_court
            rw [isSheet_c1 hs, bd1_s, if_neg (by decide), so1, bd1_s, if_neg (by decide), if_neg u0, if_neg u1]
          · unfold f_X8_court
            rw [isSheet_m1 hs, bd1_s, if_neg (by decide), iy, bd1_s, if_neg (by decide), isIn_0 (Or.inr (Int32.not_le.mp u1)), bd1_s, if_pos rfl]
    · have so0 : f_X7_isSort y σ = some 0 := by
        unfold f_X7_isSort
        by_cases y0 : y < 0
        · rw [if_pos y0]
        · rw [if_neg y0, if_pos (Int32.not_le.mp (fun q => yb ⟨Int32.not_lt.mp y0, q⟩)), bnd_s, cz_0]
      have yo : y < 0 ∨ 2 < y := by
        by_cases y0 : y < 0
        · exact Or.inl y0
        · exact Or.inr (Int32.not_le.mp (fun q => yb ⟨Int32.not_lt.mp y0, q⟩))
      refine ⟨-2, σ, σ, ?_, ?_, a, m, d, ru, T, n, hW⟩
      · unfold f_X7_court
        rw [isSheet_c1 hs, bd1_s, if_neg (by decide), so0, bd1_s, if_pos rfl]
      · unfold f_X8_court
        rw [isSheet_m1 hs, bd1_s, if_neg (by decide), isIn_0 yo, bd1_s, if_pos rfl]
  · refine ⟨-2, σ, σ, ?_, ?_, a, m, d, ru, T, n, hW⟩
    · unfold f_X7_court
      rw [isSheet_c0 hx, bd1_s, if_pos rfl]
    · unfold f_X8_court
      rw [isSheet_m0 hx, bd1_s, if_pos rfl]
end CourtB
