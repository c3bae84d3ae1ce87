/-! tells: what was told of one's waking, read back -/
theorem toC_t : toC (-14) = -5 := by decide
section TellsB
variable {σ : sg_T} {a : pa_T} {m : Nat} {d : Int32} {ru : Nat} {T : tx_T} {n : Nat} {b : Nat → pa_T} {rv : Nat → Nat}
theorem hasT_c (hT : TC σ T n) (hO : TOk T n) {t p : Nat} (ht : t < n) (hp : p < 3) (hb : f_X5_begin (10 + 3 * t) (nI p) σ = some (nI (cum T t p))) (he : f_X5_end (10 + 3 * t) (nI p) σ = some (nI (cum T t (p + 1)))) : f_X5_hasTired (10 + 3 * t) (nI p) σ = some 1 ∨ (f_X5_hasTired (10 + 3 * t) (nI p) σ = some 0 ∧ ∀ c ∈ T t p, c ≠ -14) := by
  obtain ⟨K, g1, g2, g3⟩ := fars (fun k => !decide (toC ((T t p).getD k 0) = -5)) (T t p).length
  have h160 : cum T t (p + 1) ≤ 160 := Nat.le_trans (cum_le hp) (hO t ht).1
  have hcu : cum T t (p + 1) = cum T t p + (T t p).length := rfl
  have hcode := ((hT.2.2 t ht).2 p hp)
  have hrun : ∃ r, itr (fun q => b_X5_hasTired_6 (10 + 3 * t) (nI p) q σ) lfu (nI (cum T t p)) = some r ∧ (r = if K = (T t p).length then .inl (nI (cum T t (p + 1))) else .inr 1) := by
    refine itr_run (f := fun q => b_X5_hasTired_6 (10 + 3 * t) (nI p) q σ) (I := fun k q => q = nI (cum T t p + k)) (R := fun r => r = if K = (T t p).length then .inl (nI (cum T t (p + 1))) else .inr 1) K (a := nI (cum T t p)) rfl ?_ ?_ (by omega)
    · intro k hk q hq
      subst hq
      have hne : ¬ toC ((T t p).getD k 0) = -5 := fun q => by
        have := g2 k hk
        rw [decide_eq_true q] at this
        exact absurd this (by decide)
      unfold b_X5_hasTired_6
      rw [he, bd1_s, if_neg (nle_of_lt (by omega) (by omega)), ck_n (by omega) (by decide), nI_clamp (by omega), hcode k (by omega), if_neg hne, bnd_s, nI_1]
      exact ⟨_, rfl, rfl⟩
    · intro q hq
      subst hq
      unfold b_X5_hasTired_6
      rw [he, bd1_s]
      by_cases hKL : K = (T t p).length
      · rw [if_pos (le_of_le (by omega) (by omega)), if_pos hKL, hKL]
        exact ⟨_, rfl, rfl⟩
      · have heq : toC ((T t p).getD K 0) = -5 := by
          have := g3.resolve_left hKL
          by_cases hq : toC ((T t p).getD K 0) = -5
          · exact hq
          · exfalso; apply this
            show (!decide (toC ((T t p).getD K 0) = -5)) = true
            rw [decide_eq_false hq]; rfl
        rw [if_neg (nle_of_lt (by omega) (by omega)), ck_n (by omega) (by decide), nI_clamp (by omega), hcode K (by omega), if_pos heq, if_neg hKL]
        exact ⟨_, rfl, rfl⟩
  obtain ⟨r, e1, e2⟩ := hrun
  unfold f_X5_hasTired
  rw [hb, bd1_s, e1, e2]
  by_cases hKL : K = (T t p).length
  · right
    rw [if_pos hKL, bs_l]
    refine ⟨rfl, fun c hc h14 => ?_⟩
    obtain ⟨k, hk, rfl⟩ := List.mem_iff_getElem.mp hc
    have := g2 k (by omega)
    have hg : (T t p).getD k 0 = (T t p)[k] := by
      rw [List.getD_eq_getElem?_getD, List.getElem?_eq_getElem hk]; rfl
    have h5 : toC ((T t p).getD k 0) = -5 := by rw [hg, h14]; exact toC_t
    rw [decide_eq_true h5] at this
    exact absurd this (by decide)
  · left
    rw [if_neg hKL, bs_r]
theorem minds_c (h : PC σ 34 a m d (nI ru)) (hT : TC σ T n) (hO : TOk T n) (hru : ru < n) : f_X3_mindsTired 34 σ = some 1 ∨ (f_X3_mindsTired 34 σ = some 0 ∧ noT T ru) := by
  have hn := hT.1
  have hE := (hT.2.2 ru hru).1
  have hR : f_X1_rule 34 σ = some (nI ru) := by unfold f_X1_rule; rw [h.2.2.2.1]
  have kr : ∀ {β : Type} (r : Option β), ck (nI ru) 6 r = r := fun r => ck_n (by omega) (by decide)
  have b0 : f_X5_begin (10 + 3 * ru) (nI 0) σ = some (nI (cum T ru 0)) := by
    unfold f_X5_begin; rw [if_pos (by decide)]; rfl
  have b2 : f_X5_begin (10 + 3 * ru) (nI 2) σ = some (nI (cum T ru 2)) := by
    have k1 : ∀ {β : Type} (r : Option β), ck (nI 2 - 1) 3 r = r := fun r => ck_n (i := 1) (by decide) (by decide)
    have c1 : (nI 2 - 1).toNatClampNeg = 1 := by decide
    unfold f_X5_begin
    rw [if_neg (by decide), if_neg (by decide), k1, c1, hE 1 (by decide)]
  have ee : ∀ p, p < 3 → f_X5_end (10 + 3 * ru) (nI p) σ = some (nI (cum T ru (p + 1))) := fun p hp => by
    have h3 : ¬ (3 : Int32) ≤ nI p := nle_of_lt (m := 3) hp (by decide)
    unfold f_X5_end
    rw [if_neg (nI_pos (by omega)), if_neg h3, ck_n hp (by decide), nI_clamp (by omega), hE p hp]
  unfold f_X3_mindsTired
  rw [hR, bd1_s, if_neg (nI_pos (by omega)), hT.2.1, if_neg (nle_of_lt hru (by omega)), kr, nI_clamp (by omega)]
  rcases hasT_c hT hO hru (p := 0) (by decide) b0 (ee 0 (by decide)) with h0 | ⟨h0, n0⟩
  · left
    rw [show f_X5_hasTired (10 + 3 * ru) 0 σ = some 1 from h0, bd1_s, if_neg (by decide)]
  · rw [show f_X5_hasTired (10 + 3 * ru) 0 σ = some 0 from h0, bd1_s, if_pos rfl, kr]
    rcases hasT_c hT hO hru (p := 2) (by decide) b2 (ee 2 (by decide)) with h2 | ⟨h2, n2⟩
    · left
      rw [show f_X5_hasTired (10 + 3 * ru) 2 σ = some 1 from h2, bd1_s, if_neg (by decide), bnd_s, cz_1]
    · right
      rw [show f_X5_hasTired (10 + 3 * ru) 2 σ = some 0 from h2, bd1_s, if_pos rfl, bnd_s, cz_0]
      exact ⟨rfl, fun p hp => ((hO ru hru).2 p hp).1, n0, n2⟩
theorem fit_congr {i L : Nat} {c c' : Nat → Int32} {v v' : Nat} (h : ∀ k, k < L → decide (wk T (rv v) (b v) m d i k = c k) = decide (wk T (rv v') (b v') m d i k = c' k)) : fit T m d i L c b rv v = fit T m d i L c' b rv v' := by
  unfold fit
  rw [fo_congr L h]
theorem cb_const {p : Nat → Bool} (h : ∀ v, v < 100 → p v = p 0) : cb p 100 = if p 0 = true then 100 else 0 := by
  rw [cb_congr (p := p) (q := fun _ => p 0) 100 h]
  rcases p 0 with _ | _
  · decide +kernel
  · decide +kernel
theorem fi_const {p : Nat → Bool} (h : ∀ v, v < 100 → p v = p 0) : fo (fun v => !p v) 100 = if p 0 = true then 0 else -1 := by
  by_cases h0 : p 0 = true
  · rw [if_pos h0]
    exact fo_at (K := 0) (fun j hj => absurd hj (Nat.not_lt_zero _)) (by rw [h0]; decide) (by decide) 100 (by decide)
  · rw [if_neg h0]
    refine fo_all 100 (fun j hj => ?_)
    rw [h j hj]
    rcases hh : p 0 with _ | _
    · rfl
    · exact absurd hh h0
theorem tired_c (h : PC σ 34 a m d (nI ru)) (hT : TC σ T n) (hO : TOk T n) (hru : ru < n) {o L : Nat} (ho : 61 ≤ o) (hL : L ≤ 40) (h2 : σ o 2 = nI L) {i j : Nat} (hi : i < m) (hj : j < m) {fl : Int32} (hfl : fl = 0 ∨ fl = 1) : ∃ τ, f_X7_tiredThatFits o (nI i) (nI j) fl σ = some (if fl = 0 then cb (fit T m d i L (σ (o + 1)) (fun v => up a j 3 (nI v)) (fun _ => ru)) 100 else fo (fun v => !fit T m d i L (σ (o + 1)) (fun v => up a j 3 (nI v)) (fun _ => ru) v) 100, τ) ∧ ∀ q, fD q → ¬ (42 ≤ q ∧ q < 50) → τ q = σ q := by
  obtain ⟨p, ep⟩ : ∃ p : Nat → Bool, p = fit T m d i L (σ (o + 1)) (fun v => up a j 3 (nI v)) (fun _ => ru) := ⟨_, rfl⟩
  have ck3 : ∀ {β : Type} (r : Option β), ck 3 7 r = r := fun r => ck_n (i := 3) (by decide) (by decide)
  have one : ∀ τ k, (∀ q, fD q → ¬ (42 ≤ q ∧ q < 50) → τ q = σ q) → ∃ r τ1, f_X7_firstOtherwise o (nI i) 3 (nI j) (nI k) τ = some (r, τ1) ∧ (r = -1 ↔ p k = true) ∧ ∀ q, fD q → ¬ (42 ≤ q ∧ q < 50) → τ1 q = σ q := by
    intro τ k hF
    have hC1 : PC τ 34 a m d (nI ru) := h.eq (fun p _ _ => hF p (by unfold fD; omega) (by omega))
    have hT1 : TC τ T n := hT.eq (fun q _ _ _ _ => hF q (by unfold fD; omega) (by omega))
    obtain ⟨τ1, e1, f1⟩ := first_c (b := up a j 3 (nI k)) (w := 3) (x := nI j) (v := nI k) hC1 hT1 hO hru ho hL (by rw [hF o (by unfold fD; omega) (by omega)]; exact h2) hi (fun ρ hρ => ⟨_, putk_c (w := 3) hρ (by decide) (by decide) hj (nI k), hρ.put (k := 3) (by decide) (nI k), fun q hq => up_n (by omega)⟩)
    rw [hF (o + 1) (by unfold fD; omega) (by omega)] at e1
    refine ⟨_, τ1, e1, ?_, fun q g1 g2 => by rw [f1 q g1 g2]; exact hF q g1 g2⟩
    rw [ep]
    exact ⟨fun q => decide_eq_true q, fun q => of_decide_eq_true q⟩
  rw [← ep]
  unfold f_X7_tiredThatFits
  rcases minds_c h hT hO hru with hmi | ⟨hmi, hno⟩
  · rw [hmi, bd1_s, if_neg (by decide)]
    rcases hfl with rfl | rfl
    · have hrun : ∃ r, itr (fun q => b_X7_tiredThatFits_33q2 o (nI i) (nI j) 0 q.1 q.2.1 q.2.2) lfu (0, 0, σ) = some r ∧ (∃ w τ, r = .inl (cb p 100, w, τ) ∧ ∀ q, fD q → ¬ (42 ≤ q ∧ q < 50) → τ q = σ q) := by
        refine itr_run (f := fun q => b_X7_tiredThatFits_33q2 o (nI i) (nI j) 0 q.1 q.2.1 q.2.2) (I := fun k q => q.1 = cb p k ∧ q.2.1 = nI k ∧ ∀ p, fD p → ¬ (42 ≤ p ∧ p < 50) → q.2.2 p = σ p) (R := fun r => ∃ w τ, r = .inl (cb p 100, w, τ) ∧ ∀ q, fD q → ¬ (42 ≤ q ∧ q < 50) → τ q = σ q) 100 (a := (0, 0, σ)) ⟨rfl, rfl, fun _ _ _ => rfl⟩ ?_ ?_ (by omega)
        · intro k hk ⟨w1, w2, τ⟩ ⟨hw1, hw2, hF⟩
          dsimp only at hw1 hw2 hF ⊢
          subst hw1 hw2
          obtain ⟨r, τ1, e1, hr, f1⟩ := one τ k hF
          have n99 : ¬ (99 : Int32) < nI k := Int32.not_lt.mpr (le_of_le (i := 99) (by omega) (by decide))
          unfold b_X7_tiredThatFits_33q2
          rw [ck3, chi3, if_neg n99, e1, bd2_s, cb_1]
          by_cases hf : p k = true
          · rw [if_pos (hr.mpr hf), if_pos rfl, bnd_s, bnd_s, nI_1, if_pos hf]
            exact ⟨_, rfl, rfl, rfl, f1⟩
          · rw [if_neg (fun q => hf (hr.mp q)), bnd_s, nI_1, if_neg hf, Int32.add_zero]
            exact ⟨_, rfl, rfl, rfl, f1⟩
        · intro ⟨w1, w2, τ⟩ ⟨hw1, hw2, hF⟩
          dsimp only at hw1 hw2 hF ⊢
          subst hw1 hw2
          unfold b_X7_tiredThatFits_33q2
          rw [ck3, chi3, if_pos (by decide)]
          exact ⟨_, rfl, _, τ, rfl, hF⟩
      obtain ⟨r, e1, w, τ, rfl, hF⟩ := hrun
      refine ⟨τ, ?_, hF⟩
      rw [e1, bs_l]
      dsimp only
      rw [bnd_s, if_pos rfl, if_pos rfl]
    · obtain ⟨K, g1, g2, g3⟩ := fars (fun v => !p v) 100
      have hrun : ∃ r, itr (fun q => b_X7_tiredThatFits_33q2 o (nI i) (nI j) 1 q.1 q.2.1 q.2.2) lfu (0, 0, σ) = some r ∧ (∃ τ w w', r = (if K = 100 then .inl (w', w, τ) else .inr (nI K, τ)) ∧ ∀ q, fD q → ¬ (42 ≤ q ∧ q < 50) → τ q = σ q) := by
        refine itr_run (f := fun q => b_X7_tiredThatFits_33q2 o (nI i) (nI j) 1 q.1 q.2.1 q.2.2) (I := fun k q => q.2.1 = nI k ∧ ∀ p, fD p → ¬ (42 ≤ p ∧ p < 50) → q.2.2 p = σ p) (R := fun r => ∃ τ w w', r = (if K = 100 then .inl (w', w, τ) else .inr (nI K, τ)) ∧ ∀ q, fD q → ¬ (42 ≤ q ∧ q < 50) → τ q = σ q) K (a := (0, 0, σ)) ⟨rfl, fun _ _ _ => rfl⟩ ?_ ?_ (by omega)
        · intro k hk ⟨w1, w2, τ⟩ ⟨hw2, hF⟩
          dsimp only at hw2 hF ⊢
          subst hw2
          obtain ⟨r, τ1, e1, hr, f1⟩ := one τ k hF
          have n99 : ¬ (99 : Int32) < nI k := Int32.not_lt.mpr (le_of_le (i := 99) (by omega) (by decide))
          have hnf : ¬ r = -1 := fun q => by
            have := g2 k hk
            rw [hr.mp q] at this
            exact absurd this (by decide)
          unfold b_X7_tiredThatFits_33q2
          rw [ck3, chi3, if_neg n99, e1, bd2_s, if_neg hnf, bnd_s, nI_1]
          exact ⟨_, rfl, rfl, f1⟩
        · intro ⟨w1, w2, τ⟩ ⟨hw2, hF⟩
          dsimp only at hw2 hF ⊢
          subst hw2
          unfold b_X7_tiredThatFits_33q2
          by_cases hK : K = 100
          · rw [ck3, chi3, if_pos (by rw [hK]; decide)]
            refine ⟨_, rfl, τ, nI K, w1, ?_, hF⟩
            rw [if_pos hK]
          · obtain ⟨r, τ1, e1, hr, f1⟩ := one τ K hF
            have n99 : ¬ (99 : Int32) < nI K := Int32.not_lt.mpr (le_of_le (i := 99) (by omega) (by decide))
            have hf : p K = true := by
              have := g3.resolve_left hK
              rcases hh : p K with _ | _
              · exfalso; apply this
                show (!p K) = true
                rw [hh]; rfl
              · rfl
            rw [ck3, chi3, if_neg n99, e1, bd2_s, if_pos (hr.mpr hf), if_neg (by decide)]
            refine ⟨_, rfl, τ1, 0, 0, ?_, f1⟩
            rw [if_neg hK]
      obtain ⟨r, e1, τ, w, w', er, hF⟩ := hrun
      refine ⟨τ, ?_, hF⟩
      rw [e1, er, if_neg (show ¬ (1 : Int32) = 0 by decide)]
      by_cases hK : K = 100
      · rw [if_pos hK, bs_l]
        dsimp only
        rw [bnd_s, fo_all 100 (fun v hv => g2 v (by omega)), if_neg (show ¬ (1 : Int32) = 0 by decide)]
      · rw [if_neg hK, bs_r, fo_at g2 (g3.resolve_left hK) (by omega) 100 (by omega)]
  · rw [hmi, bd1_s, if_pos rfl, ck3, show c_hi 3 + 1 = 100 by decide, bnd_s]
    have hsame : ∀ v, v < 100 → p v = p 0 := fun v _ => by
      rw [ep]
      refine fit_congr (fun k _ => ?_)
      have : wk T ru (up a j 3 (nI v)) m d i k = wk T ru (up a j 3 (nI 0)) m d i k := wk_t (fun q k hk => by rw [up_nk hk, up_nk hk]) hno d i k
      show decide (wk T ru (up a j 3 (nI v)) m d i k = _) = decide (wk T ru (up a j 3 (nI 0)) m d i k = _)
      rw [this]
    rw [cb_const hsame, fi_const hsame]
    obtain ⟨r, τ1, e1, hr, f1⟩ := one σ 0 (fun _ _ _ => rfl)
    have e1' : f_X7_firstOtherwise o (nI i) 3 (nI j) 0 σ = some (r, τ1) := e1
    have stop : ∀ w ρ, b_X7_tiredThatFits_33 o (nI i) (nI j) fl 100 w 100 ρ = some (.inr (.inl (w, 100, ρ))) := fun w ρ => by
      unfold b_X7_tiredThatFits_33
      rw [ck3, chi3, if_pos (by decide)]
    have n99 : ¬ (99 : Int32) < 0 := by decide
    by_cases hf : p 0 = true
    · rcases hfl with rfl | rfl
      · have s1 : b_X7_tiredThatFits_33 o (nI i) (nI j) 0 100 0 0 σ = some (.inl (100, 100, τ1)) := by
          unfold b_X7_tiredThatFits_33
          rw [ck3, chi3, if_neg n99, e1', bd2_s, if_pos (hr.mpr hf), if_pos rfl, bnd_s, bnd_s]
          rfl
        have : itr (fun q => b_X7_tiredThatFits_33 o (nI i) (nI j) 0 100 q.1 q.2.1 q.2.2) lfu (0, 0, σ) = some (.inl (100, 100, τ1)) :=
          (itr_l (f := fun q => b_X7_tiredThatFits_33 o (nI i) (nI j) 0 100 q.1 q.2.1 q.2.2) (n := 99999) s1).trans (itr_r (f := fun q => b_X7_tiredThatFits_33 o (nI i) (nI j) 0 100 q.1 q.2.1 q.2.2) (n := 99998) (stop 100 τ1))
        refine ⟨τ1, ?_, f1⟩
        rw [this, bs_l]
        dsimp only
        rw [bnd_s, if_pos hf, if_pos rfl, if_pos rfl]
      · have s1 : b_X7_tiredThatFits_33 o (nI i) (nI j) 1 100 0 0 σ = some (.inr (.inr (0, τ1))) := by
          unfold b_X7_tiredThatFits_33
          rw [ck3, chi3, if_neg n99, e1', bd2_s, if_pos (hr.mpr hf), if_neg (by decide)]
        have : itr (fun q => b_X7_tiredThatFits_33 o (nI i) (nI j) 1 100 q.1 q.2.1 q.2.2) lfu (0, 0, σ) = some (.inr (0, τ1)) :=
          itr_r (f := fun q => b_X7_tiredThatFits_33 o (nI i) (nI j) 1 100 q.1 q.2.1 q.2.2) (n := 99999) s1
        refine ⟨τ1, ?_, f1⟩
        rw [this, bs_r, if_neg (show ¬ (1 : Int32) = 0 by decide), if_pos hf]
    · have s1 : b_X7_tiredThatFits_33 o (nI i) (nI j) fl 100 0 0 σ = some (.inl (0, 100, τ1)) := by
        unfold b_X7_tiredThatFits_33
        rw [ck3, chi3, if_neg n99, e1', bd2_s, if_neg (fun q => hf (hr.mp q)), bnd_s]
        rfl
      have : itr (fun q => b_X7_tiredThatFits_33 o (nI i) (nI j) fl 100 q.1 q.2.1 q.2.2) lfu (0, 0, σ) = some (.inl (0, 100, τ1)) :=
        (itr_l (f := fun q => b_X7_tiredThatFits_33 o (nI i) (nI j) fl 100 q.1 q.2.1 q.2.2) (n := 99999) s1).trans (itr_r (f := fun q => b_X7_tiredThatFits_33 o (nI i) (nI j) fl 100 q.1 q.2.1 q.2.2) (n := 99998) (stop 0 τ1))
      refine ⟨τ1, ?_, f1⟩
      rw [this, bs_l]
      dsimp only
      rw [bnd_s, if_neg hf, if_neg hf]
theorem peop_c (h : PC σ 34 a m d (nI ru)) (hT : TC σ T n) (hO : TOk T n) (hru : ru < n) {o L : Nat} (ho : 61 ≤ o) (hL : L ≤ 40) (h2 : σ o 2 = nI L) : ∃ τ, f_X7_peopleThatFit o σ = some (wb (fun i => fit T m d i L (σ (o + 1)) (fun _ => a) (fun _ => ru) 0) m, τ) ∧ ∀ q, fD q → ¬ (42 ≤ q ∧ q < 50) → τ q = σ q := by
  have hm := h.1
  have hrun : ∃ r, itr (fun q => b_X7_peopleThatFit_4 o q.1 q.2.1 q.2.2) lfu (0, 0, σ) = some r ∧ (r.1 = wb (fun i => fit T m d i L (σ (o + 1)) (fun _ => a) (fun _ => ru) 0) m ∧ ∀ q, fD q → ¬ (42 ≤ q ∧ q < 50) → r.2.2 q = σ q) := by
    refine itr_run (f := fun q => b_X7_peopleThatFit_4 o q.1 q.2.1 q.2.2) (I := fun k q => q.1 = wb (fun i => fit T m d i L (σ (o + 1)) (fun _ => a) (fun _ => ru) 0) k ∧ q.2.1 = nI k ∧ ∀ p, fD p → ¬ (42 ≤ p ∧ p < 50) → q.2.2 p = σ p) (R := fun r => r.1 = wb (fun i => fit T m d i L (σ (o + 1)) (fun _ => a) (fun _ => ru) 0) m ∧ ∀ q, fD q → ¬ (42 ≤ q ∧ q < 50) → r.2.2 q = σ q) m (a := (0, 0, σ)) ⟨rfl, rfl, fun _ _ _ => rfl⟩ ?_ ?_ (by omega)
    · intro k hk ⟨w1, w2, τ⟩ ⟨hw1, hw2, hF⟩
      dsimp only at hw1 hw2 hF ⊢
      subst hw1 hw2
      have hC1 : PC τ 34 a m d (nI ru) := h.eq (fun p _ _ => hF p (by unfold fD; omega) (by omega))
      have hT1 : TC τ T n := hT.eq (fun q _ _ _ _ => hF q (by unfold fD; omega) (by omega))
      have hmn : f_X1_many 34 τ = some (nI m) := by unfold f_X1_many; rw [hC1.2.1]
      obtain ⟨τ1, e1, f1⟩ := first_c (b := a) (w := 9) (x := -1) (v := -1) hC1 hT1 hO hru ho hL (by rw [hF o (by unfold fD; omega) (by omega)]; exact h2) hk (fun ρ hρ => ⟨ρ, by unfold f_X1_put; rw [if_neg (by decide), if_neg (by decide), if_pos rfl], hρ, fun _ _ => rfl⟩)
      rw [hF (o + 1) (by unfold fD; omega) (by omega)] at e1
      have fr : ∀ p, fD p → ¬ (42 ≤ p ∧ p < 50) → τ1 p = σ p := fun p g1 g2 => by rw [f1 p g1 g2]; exact hF p g1 g2
      unfold b_X7_peopleThatFit_4
      rw [hmn, bd1_s, if_neg (nle_of_lt hk (by omega)), e1, bd2_s, wb_1]
      by_cases hf : fo (fun k_1 => decide (wk T ru a m d k k_1 = σ (o + 1) k_1)) L = -1
      · have ht : fit T m d k L (σ (o + 1)) (fun _ => a) (fun _ => ru) 0 = true := decide_eq_true hf
        rw [if_pos hf, if_pos ht, bnd_s, bnd_s, nI_1]
        exact ⟨_, rfl, rfl, rfl, fr⟩
      · have ht : ¬ fit T m d k L (σ (o + 1)) (fun _ => a) (fun _ => ru) 0 = true := fun q => hf (of_decide_eq_true q)
        rw [if_neg hf, if_neg ht, bnd_s, nI_1]
        exact ⟨_, rfl, rfl, rfl, fr⟩
    · intro ⟨w1, w2, τ⟩ ⟨hw1, hw2, hF⟩
      dsimp only at hw1 hw2 hF ⊢
      subst hw1 hw2
      have hmn : f_X1_many 34 τ = some (nI m) := by unfold f_X1_many; rw [hF 34 (by unfold fD; omega) (by omega), h.2.1]
      unfold b_X7_peopleThatFit_4
      rw [hmn, bd1_s, if_pos (Int32.le_refl _)]
      exact ⟨_, rfl, rfl, hF⟩
  obtain ⟨⟨w1, w2, τ⟩, e1, r1, f1⟩ := hrun
  dsimp only at r1 f1
  refine ⟨τ, ?_, f1⟩
  unfold f_X7_peopleThatFit
  rw [e1, bd3_s, r1]
theorem peop_m (h : PM σ 70 a m d (nI ru)) (hok : OkP a m) (hT : TM σ T n) (hO : TOk T n) (hru : ru < n) {s L : Nat} (hs : s < 4) (hL : L ≤ 40) (h2 : σ 85 s = nI L) (u2 u3 u4 : Int32) : ∃ r, itr (fun q => b_X8_tells_198 (nI s) u2 u3 u4 q.1 q.2.1 q.2.2) lfu (0, 0, σ) = some r ∧ (r.1 = wb (fun i => fit T m d i L (fun k => σ 86 (40 * s + k)) (fun _ => a) (fun _ => ru) 0) m ∧ (∀ k, k < 58 → r.2.2 70 k = σ 70 k) ∧ ∀ q, q ≠ 70 → q ≠ 72 → ¬ (79 ≤ q ∧ q ≤ 83) → r.2.2 q = σ q) := by
  have hm := h.1
  refine itr_run (f := fun q => b_X8_tells_198 (nI s) u2 u3 u4 q.1 q.2.1 q.2.2) (I := fun k q => q.1 = wb (fun i => fit T m d i L (fun k => σ 86 (40 * s + k)) (fun _ => a) (fun _ => ru) 0) k ∧ q.2.1 = nI k ∧ (∀ k, k < 58 → q.2.2 70 k = σ 70 k) ∧ ∀ p, p ≠ 70 → p ≠ 72 → ¬ (79 ≤ p ∧ p ≤ 83) → q.2.2 p = σ p) (R := fun r => r.1 = wb (fun i => fit T m d i L (fun k => σ 86 (40 * s + k)) (fun _ => a) (fun _ => ru) 0) m ∧ (∀ k, k < 58 → r.2.2 70 k = σ 70 k) ∧ ∀ q, q ≠ 70 → q ≠ 72 → ¬ (79 ≤ q ∧ q ≤ 83) → r.2.2 q = σ q) m (a := (0, 0, σ)) ⟨rfl, rfl, fun _ _ => rfl, fun _ _ _ _ => rfl⟩ ?_ ?_ (by omega)
  · intro k hk ⟨w1, w2, τ⟩ ⟨hw1, hw2, h70, hF⟩
    dsimp only at hw1 hw2 h70 hF ⊢
    subst hw1 hw2
    have hP1 : PM τ 70 a m d (nI ru) := h.cp h70
    have hT1 : TM τ T n := TM_scr hT (fun q hq => hF q (by omega) (by omega) (by omega))
    obtain ⟨τ1, e1, b1, f1⟩ := other_m hP1 hok hT1 hO hru hs hL (by rw [hF 85 (by decide) (by decide) (by decide)]; exact h2) hk
    rw [hF 86 (by decide) (by decide) (by decide)] at e1
    unfold b_X8_tells_198
    rw [many_m hP1, bd1_s, if_neg (nle_of_lt hk (by omega)), e1, bd2_s, bnd_s, bnd_s, bnd_s, nI_1]
    refine ⟨_, rfl, ?_, rfl, fun j hj => by dsimp only; rw [b1 j hj]; exact h70 j hj, fun p g1 g2 g3 => by dsimp only; rw [f1 p g1 g2 g3]; exact hF p g1 g2 g3⟩
    dsimp only
    rw [wb_1]
    by_cases hf : fo (fun k_1 => decide (wk T ru a m d k k_1 = σ 86 (40 * s + k_1))) L = -1
    · have ht : fit T m d k L (fun k => σ 86 (40 * s + k)) (fun _ => a) (fun _ => ru) 0 = true := decide_eq_true hf
      rw [if_pos hf, if_pos ht]
    · have ht : ¬ fit T m d k L (fun k => σ 86 (40 * s + k)) (fun _ => a) (fun _ => ru) 0 = true := fun q => hf (of_decide_eq_true q)
      rw [if_neg hf, if_neg ht, Int32.or_zero]
  · intro ⟨w1, w2, τ⟩ ⟨hw1, hw2, h70, hF⟩
    dsimp only at hw1 hw2 h70 hF ⊢
    subst hw1 hw2
    have hP1 : PM τ 70 a m d (nI ru) := h.cp h70
    unfold b_X8_tells_198
    rw [many_m hP1, bd1_s, if_pos (Int32.le_refl _)]
    exact ⟨_, rfl, rfl, h70, hF⟩
end TellsB
