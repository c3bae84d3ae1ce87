theorem nI_pre {M : Nat} (h : M + 1 < 2 ^ 30) : nI (M + 1) - 1 = nI M := by
  refine Int32.toInt_inj.mp ?_
  rw [n_1, pk_sub_toInt h (by decide), nI_toInt (by omega)]; omega
section TellsC
variable {σ : sg_T} {a : pa_T} {m : Nat} {d : Int32} {ru : Nat} {T : tx_T} {n : Nat} {b : Nat → pa_T} {rv : Nat → Nat}
/-- the model's people again as they were: the worlds stay side by side -/
theorem WR.same {τ : sg_T} (h : WR σ a m d ru T n) (h70 : ∀ k, k < 58 → τ 70 k = σ 70 k) (he : ∀ q, kp q → q ≠ 70 → τ q = σ q) : WR τ a m d ru T n :=
  h.new (h.1.eq (fun p _ _ => he p (by unfold kp; omega) (by omega))) (h.2.1.cp h70) h.2.2.1 h.2.2.2.1 h.2.2.2.2.1 (fun q g1 _ g3 => he q g1 g3)
theorem tell_bits (hW : WR σ a m d ru T n) {s L M qp : Nat} (hs : s < 4) (hL : L ≤ 40) (e1 : σ 85 s = nI L) (e2 : σ (61 + 2 * s) 2 = nI L) (e4 : ∀ j, j < L → σ (61 + 2 * s + 1) j = σ 86 (40 * s + j)) (hM : M < 30) (hq : qp < 58) {i : Nat} (hi : i < m) {w x : Int32} (hr : ∀ v, v ≤ M → rv v < n) (hok : ∀ v, v ≤ M → OkP (b v) m) (hp : ∀ v, v ≤ M → ∀ τ, PC τ 42 a m d (nI ru) → ∃ τ', f_X1_put 42 w x (nI v) τ = some τ' ∧ PC τ' 42 (b v) m d (nI (rv v)) ∧ ∀ q, ¬ (42 ≤ q ∧ q < 50) → τ' q = τ q) (hb : ∀ τ, PM τ 70 a m d (nI ru) → ∀ v, v ≤ M → PM (up τ 70 qp (nI v)) 70 (b v) m d (nI (rv v))) : ∃ r σ1 σ2, f_X7_bitsThatFit (61 + 2 * s) (nI i) w x (nI (M + 1)) σ = some (r, σ1) ∧ f_X8_fits (nI s) (nI i) (nI qp) (nI M) σ1 = some (r, σ2) ∧ (∀ q, fD q → ¬ (42 ≤ q ∧ q < 50) → σ1 q = σ q) ∧ WRL σ2 := by
  have hW0 := hW
  obtain ⟨hC, hM0, hok0, hd, hru, hTC, hTM, hO, _⟩ := hW0
  obtain ⟨σ1, c1, f1⟩ := bits_c (b := b) (rv := rv) (N := M + 1) hC hTC hO (by omega) hL e2 (by omega) hi (fun v hv => hr v (by omega)) (fun v hv => hp v (by omega))
  have hM1 : PM σ1 70 a m d (nI ru) := hM0.eq (f1 70 (by unfold fD; omega) (by omega))
  have hTM1 : TM σ1 T n := TM_scr hTM (fun q hq => f1 q (by unfold fD; omega) (by omega))
  obtain ⟨r, σ2, c2, r1, _, r3, f2⟩ := fits_m (σ := σ1) (b := b) (rv := rv) hTM1 hO hs hL (by rw [f1 85 (by unfold fD; omega) (by omega)]; exact e1) (show M < 100 by omega) hq hi hr hok (hb σ1 hM1)
  have hrr : r = wb (fit T m d i L (σ (61 + 2 * s + 1)) b rv) (M + 1) := by
    rw [r1 hM, f1 86 (by unfold fD; omega) (by omega)]
    refine wb_congr (M + 1) (fun v _ => fit_congr (fun k hk => ?_))
    rw [e4 k hk]
  subst hrr
  refine ⟨_, σ1, σ2, c1, c2, f1, a, m, d, ru, T, n, hW.same (fun k hk => ?_) (fun q g1 g2 => ?_)⟩
  · rw [r3 k hk, f1 70 (by unfold fD; omega) (by omega)]
  · unfold kp at g1
    rw [f2 q g2 (by omega) (by omega) (by omega), f1 q (by unfold fD; omega) (by omega)]
theorem tell_tired (hW : WR σ a m d ru T n) {s L : Nat} (hs : s < 4) (hL : L ≤ 40) (e1 : σ 85 s = nI L) (e2 : σ (61 + 2 * s) 2 = nI L) (e4 : ∀ j, j < L → σ (61 + 2 * s + 1) j = σ 86 (40 * s + j)) {i j : Nat} (hi : i < m) (hj : j < m) {fl fm : Int32} (hfl : (fl = 0 ∧ fm = 1) ∨ (fl = 1 ∧ fm = 0)) : ∃ r σ1 σ2, f_X7_tiredThatFits (61 + 2 * s) (nI i) (nI j) fl σ = some (r, σ1) ∧ f_X8_tiredBy (nI s) (nI i) (nI j) fm σ1 = some (r, σ2) ∧ (∀ q, fD q → ¬ (42 ≤ q ∧ q < 50) → σ1 q = σ q) ∧ WRL σ2 := by
  have hW0 := hW
  obtain ⟨hC, hM0, hok0, hd, hru, hTC, hTM, hO, _⟩ := hW0
  have hm := hC.1
  obtain ⟨σ1, c1, f1⟩ := tired_c hC hTC hO hru (o := 61 + 2 * s) (by omega) hL e2 hi hj (fl := fl) (by rcases hfl with h | h; exact Or.inl h.1; exact Or.inr h.1)
  have hM1 : PM σ1 70 a m d (nI ru) := hM0.eq (f1 70 (by unfold fD; omega) (by omega))
  have hTM1 : TM σ1 T n := TM_scr hTM (fun q hq => f1 q (by unfold fD; omega) (by omega))
  obtain ⟨r, σ2, c2, _, r2, r3, f2⟩ := fits_m (σ := σ1) (b := fun v => up a j 3 (nI v)) (rv := fun _ => ru) (M := 99) (qp := 11 * j + 3) hTM1 hO hs hL (by rw [f1 85 (by unfold fD; omega) (by omega)]; exact e1) (by decide) (by omega) hi (fun _ _ => hru) (fun v hv => hok0.put (by unfold inr hiK; rw [nI_toInt (by omega)]; simp; omega)) (fun v hv => hM1.put (i := j) (k := 3) (by omega) (by decide) (nI v))
  have hc : ∀ v, fit T m d i L (fun k => σ1 86 (40 * s + k)) (fun v => up a j 3 (nI v)) (fun _ => ru) v = fit T m d i L (σ (61 + 2 * s + 1)) (fun v => up a j 3 (nI v)) (fun _ => ru) v := fun v => by
    rw [f1 86 (by unfold fD; omega) (by omega)]
    refine fit_congr (fun k hk => ?_)
    rw [e4 k hk]
  obtain ⟨⟨w1, w2, w3⟩, c3, s1, s2⟩ := by_m (σ := σ2) (fit T m d i L (σ (61 + 2 * s + 1)) (fun v => up a j 3 (nI v)) (fun _ => ru)) (fun v hv => by rw [r2 v hv, hc v]) (nI s) (nI i) (nI j) fm
  dsimp only at s1 s2
  have e11 : (11 : Int32) * nI j + 3 = nI (11 * j + 3) := by rw [n_11, pk_mul, n_3, nI_add]
  have c2' : f_X8_fits (nI s) (nI i) (nI (11 * j + 3)) 99 σ1 = some (r, σ2) := c2
  refine ⟨_, σ1, σ2, c1, ?_, f1, a, m, d, ru, T, n, hW.same (fun k hk => ?_) (fun q g1 g2 => ?_)⟩
  · unfold f_X8_tiredBy
    rw [e11, c2', bd2_s, c3, bd3_s, bnd_s, s1, s2]
    rcases hfl with ⟨rfl, rfl⟩ | ⟨rfl, rfl⟩
    · rw [if_neg (show ¬ (1 : Int32) = 0 by decide), if_pos rfl]
    · rw [if_neg (show ¬ (1 : Int32) = 0 by decide), if_pos rfl]
  · rw [r3 k hk, f1 70 (by unfold fD; omega) (by omega)]
  · unfold kp at g1
    rw [f2 q g2 (by omega) (by omega) (by omega), f1 q (by unfold fD; omega) (by omega)]
theorem sm_tells (x y z u : Int32) : SM (f_X7_tells x y z u) (f_X8_tells x y z u) := by
  intro σ ⟨a, m, d, ru, T, n, h⟩
  have hW := h
  obtain ⟨hC, hM, hok, hd, hru, hTC, hTM, hO, hI, hTp, hS, hH⟩ := h
  have hm := hC.1
  have hn6 := hTC.1
  have e0 : (0 : Int32).toInt = 0 := by decide
  have e7 : (7 : Int32).toInt = 7 := by decide
  rcases shx x with ⟨s, hs, rfl⟩ | hx
  · rcases who y hC.1 with ⟨i, hi, rfl⟩ | hy
    · rcases who z hC.1 with ⟨j, hj, rfl⟩ | hz
      · by_cases u0 : u < 0
        · refine ⟨-2, σ, σ, ?_, ?_, a, m, d, ru, T, n, hW⟩
          · unfold f_X7_tells
            rw [isSheet_c1 hs, bd1_s, if_neg (by decide), has_in hC.2.1 hC.1 hi, bd1_s, if_neg (by decide), has_in hC.2.1 hC.1 hj, bd1_s, if_neg (by decide), if_pos u0]
          · unfold f_X8_tells
            rw [isSheet_m1 hs, bd1_s, if_neg (by decide), isOne_in hM hi, bd1_s, if_neg (by decide), isOne_in hM hj, bd1_s, if_neg (by decide), isIn_0 (Or.inl u0), bd1_s, if_pos rfl]
        · by_cases u1 : u ≤ 7
          · obtain ⟨L, hL, e1, e2, e3, e4⟩ := shSz hS hs
            have ck4 : ∀ {β : Type} (r : Option β), ck (nI s) 4 r = r := fun r => ck_n hs (by decide)
            have cl : (nI s).toNatClampNeg = s := nI_clamp (by omega)
            have iu : ∀ τ, f_X8_isIn u 0 7 τ = some 1 := fun τ => isIn_1 (Int32.not_lt.mp u0) u1
            by_cases q1 : σ 84 s = -1
            · have ms : f_X4_isMissing (61 + 2 * s) σ = some 1 := by unfold f_X4_isMissing; rw [e3, if_pos q1, bnd_s, cz_1]
              refine ⟨-11, σ, σ, ?_, ?_, a, m, d, ru, T, n, hW⟩
              · unfold f_X7_tells
                rw [isSheet_c1 hs, bd1_s, if_neg (by decide), has_in hC.2.1 hC.1 hi, bd1_s, if_neg (by decide), has_in hC.2.1 hC.1 hj, bd1_s, if_neg (by decide), if_neg u0, if_pos u1, ck4, cl, ms, bd1_s, if_neg (by decide)]
              · unfold f_X8_tells
                rw [isSheet_m1 hs, bd1_s, if_neg (by decide), isOne_in hM hi, bd1_s, if_neg (by decide), isOne_in hM hj, bd1_s, if_neg (by decide), iu, bd1_s, if_neg (by decide), ck4, cl, if_pos q1]
            · have ms : f_X4_isMissing (61 + 2 * s) σ = some 0 := by unfold f_X4_isMissing; rw [e3, if_neg q1, bnd_s, cz_0]
              have sz : f_X4_size (61 + 2 * s) σ = some (nI L) := by unfold f_X4_size; rw [e2]
              by_cases q2 : nI L ≤ 20
              · have cls : ∀ r, f_X7_tells (nI s) (nI i) (nI j) u σ = r ↔ (if u = 0 then
                      bd2 (f_X7_firstOtherwise (61 + 2 * s) (nI i) 9 (-1) (-1) σ) (fun r21 σ22 => some (r21, σ22))
                    else if u = 1 then bd2 (f_X7_bitsThatFit (61 + 2 * s) (nI i) 7 (nI j) 6 σ) (fun r25 σ26 => some (r25, σ26))
                    else if u = 2 then ck 1 7 (bd2 (f_X7_bitsThatFit (61 + 2 * s) (nI i) 1 (nI j) ((c_hi 1) + 1) σ) (fun r30 σ31 => some (r30, σ31)))
                    else if u = 3 then bnd ((if u = 4 then 1 else 0) : Int32) (fun v34 => bd2 (f_X7_tiredThatFits (61 + 2 * s) (nI i) (nI j) v34 σ) (fun r37 σ38 => some (r37, σ38)))
                    else if u = 4 then bnd ((if u = 4 then 1 else 0) : Int32) (fun v41 => bd2 (f_X7_tiredThatFits (61 + 2 * s) (nI i) (nI j) v41 σ) (fun r44 σ45 => some (r44, σ45)))
                    else if u = 5 then bd2 (f_X7_bitsThatFit (61 + 2 * s) (nI i) 2 (nI i) 24 σ) (fun r48 σ49 => some (r48, σ49))
                    else if u = 6 then bd1 (f_X3_many σ) (fun r52 => bd2 (f_X7_bitsThatFit (61 + 2 * s) (nI i) 8 (-1) r52 σ) (fun r54 σ55 => some (r54, σ55)))
                    else bd2 (f_X7_peopleThatFit (61 + 2 * s) σ) (fun r57 σ58 => some (r57, σ58))) = r := fun r => by
                  unfold f_X7_tells
                  rw [isSheet_c1 hs, bd1_s, if_neg (by decide), has_in hC.2.1 hC.1 hi, bd1_s, if_neg (by decide), has_in hC.2.1 hC.1 hj, bd1_s, if_neg (by decide), if_neg u0, if_pos u1, ck4, cl, ms, bd1_s, if_pos rfl, sz, bd1_s, if_pos q2]
                have mdl : ∀ τ r, (∀ q, fD q → ¬ (42 ≤ q ∧ q < 50) → τ q = σ q) → (f_X8_tells (nI s) (nI i) (nI j) u τ = r ↔ (if u = 0 then
                      bd2 (f_X8_otherwise (nI s) (nI i) τ) (fun r19 σ20 => some (r19, σ20))
                    else if u = 1 then bd2 (f_X8_fits (nI s) (nI i) (11 * nI j) 5 τ) (fun r23 σ24 => some (r23, σ24))
                    else if u = 2 then bd2 (f_X8_fits (nI s) (nI i) ((11 * nI j) + 1) 9 τ) (fun r27 σ28 => some (r27, σ28))
                    else if u = 3 then bnd ((if u = 3 then 1 else 0) : Int32) (fun v31 => bd2 (f_X8_tiredBy (nI s) (nI i) (nI j) v31 τ) (fun r34 σ35 => some (r34, σ35)))
                    else if u = 4 then bnd ((if u = 3 then 1 else 0) : Int32) (fun v38 => bd2 (f_X8_tiredBy (nI s) (nI i) (nI j) v38 τ) (fun r41 σ42 => some (r41, σ42)))
                    else if u = 5 then bd2 (f_X8_fits (nI s) (nI i) ((11 * nI i) + 2) 23 τ) (fun r45 σ46 => some (r45, σ46))
                    else if u = 6 then bd2 (f_X8_fits (nI s) (nI i) 57 ((τ 69 13) - 1) τ) (fun r49 σ50 => some (r49, σ50))
                    else bd3 (itr (fun q => b_X8_tells_198 (nI s) (nI i) (nI j) u q.1 q.2.1 q.2.2) lfu (0, 0, τ)) (fun v64 v65 σ66 => some (v64, σ66))) = r) := fun τ r hτ => by
                  have hM1 : PM τ 70 a m d (nI ru) := hM.eq (hτ 70 (by unfold fD; omega) (by omega))
                  unfold f_X8_tells
                  rw [isSheet_m1 hs, bd1_s, if_neg (by decide), isOne_in hM1 hi, bd1_s, if_neg (by decide), isOne_in hM1 hj, bd1_s, if_neg (by decide), iu, bd1_s, if_neg (by decide), ck4, cl, hτ 84 (by unfold fD; omega) (by omega), if_neg q1, ck4, hτ 85 (by unfold fD; omega) (by omega), e1, if_pos q2]
                by_cases v0 : u = 0
                · obtain ⟨σ1, c1, f1⟩ := first_c (b := a) (w := 9) (x := -1) (v := -1) hC hTC hO hru (o := 61 + 2 * s) (by omega) hL e2 hi (fun ρ hρ => ⟨ρ, by unfold f_X1_put; rw [if_neg (by decide), if_neg (by decide), if_pos rfl], hρ, fun _ _ => rfl⟩)
                  have hM1 : PM σ1 70 a m d (nI ru) := hM.eq (f1 70 (by unfold fD; omega) (by omega))
                  have hTM1 : TM σ1 T n := TM_scr hTM (fun q hq => f1 q (by unfold fD; omega) (by omega))
                  obtain ⟨σ2, c2, r2, f2⟩ := other_m hM1 hok hTM1 hO hru hs hL (by rw [f1 85 (by unfold fD; omega) (by omega)]; exact e1) hi
                  have hfo : fo (fun k => decide (wk T ru a m d i k = σ1 86 (40 * s + k))) L = fo (fun k => decide (wk T ru a m d i k = σ (61 + 2 * s + 1) k)) L := fo_congr L (fun k hk => by
                    rw [f1 86 (by unfold fD; omega) (by omega), e4 k hk])
                  rw [hfo] at c2
                  refine ⟨fo (fun k => decide (wk T ru a m d i k = σ (61 + 2 * s + 1) k)) L, σ1, σ2, (cls _).mpr ?_, (mdl _ _ f1).mpr ?_, a, m, d, ru, T, n, hW.same (fun k hk => by rw [r2 k hk, f1 70 (by unfold fD; omega) (by omega)]) (fun q g1 g2 => ?_)⟩
                  · rw [if_pos v0, c1, bd2_s]
                  · rw [if_pos v0, c2, bd2_s]
                  · unfold kp at g1
                    rw [f2 q g2 (by omega) (by omega), f1 q (by unfold fD; omega) (by omega)]
                · by_cases v1 : u = 1
                  · have e11 : (11 : Int32) * nI j = nI (11 * j + 0) := by rw [n_11, pk_mul]; rfl
                    obtain ⟨r, σ1, σ2, c1, c2, f1, hf⟩ := tell_bits (b := fun v => up a j 0 (nI v)) (rv := fun _ => ru) (M := 5) (qp := 11 * j + 0) (w := 7) (x := nI j) hW hs hL e1 e2 e4 (by decide) (by omega) hi (fun _ _ => hru) (fun v hv => hok.put (by unfold inr hiK; rw [nI_toInt (by omega)]; simp; omega)) (fun v hv ρ hρ => ⟨_, put7_c hρ hj (nI v), hρ.put (k := 0) (by decide) (nI v), fun q hq => up_n (by omega)⟩) (fun τ hτ v hv => hτ.put (i := j) (k := 0) (by omega) (by decide) (nI v))
                    have c1' : f_X7_bitsThatFit (61 + 2 * s) (nI i) 7 (nI j) 6 σ = some (r, σ1) := c1
                    have c2' : f_X8_fits (nI s) (nI i) (nI (11 * j + 0)) 5 σ1 = some (r, σ2) := c2
                    refine ⟨r, σ1, σ2, (cls _).mpr ?_, (mdl _ _ f1).mpr ?_, hf⟩
                    · rw [if_neg v0, if_pos v1, c1', bd2_s]
                    · rw [if_neg v0, if_pos v1, e11, c2', bd2_s]
                  · by_cases v2 : u = 2
                    · have e11 : (11 : Int32) * nI j + 1 = nI (11 * j + 1) := by rw [n_11, pk_mul, nI_1]
                      have ck1 : ∀ {β : Type} (r : Option β), ck 1 7 r = r := fun r => ck_n (i := 1) (by decide) (by decide)
                      obtain ⟨r, σ1, σ2, c1, c2, f1, hf⟩ := tell_bits (b := fun v => up a j 1 (nI v)) (rv := fun _ => ru) (M := 9) (qp := 11 * j + 1) (w := 1) (x := nI j) hW hs hL e1 e2 e4 (by decide) (by omega) hi (fun _ _ => hru) (fun v hv => hok.put (by unfold inr hiK; rw [nI_toInt (by omega)]; simp; omega)) (fun v hv ρ hρ => ⟨_, putk_c (w := 1) hρ (by decide) (by decide) hj (nI v), hρ.put (k := 1) (by decide) (nI v), fun q hq => up_n (by omega)⟩) (fun τ hτ v hv => hτ.put (i := j) (k := 1) (by omega) (by decide) (nI v))
                      have c1' : f_X7_bitsThatFit (61 + 2 * s) (nI i) 1 (nI j) (c_hi 1 + 1) σ = some (r, σ1) := by
                        rw [show c_hi 1 + 1 = nI (9 + 1) by decide]; exact c1
                      have c2' : f_X8_fits (nI s) (nI i) (nI (11 * j + 1)) 9 σ1 = some (r, σ2) := c2
                      refine ⟨r, σ1, σ2, (cls _).mpr ?_, (mdl _ _ f1).mpr ?_, hf⟩
                      · rw [if_neg v0, if_neg v1, if_pos v2, ck1, c1', bd2_s]
                      · rw [if_neg v0, if_neg v1, if_pos v2, e11, c2', bd2_s]
                    · by_cases v3 : u = 3
                      · subst v3
                        obtain ⟨r, σ1, σ2, c1, c2, f1, hf⟩ := tell_tired hW hs hL e1 e2 e4 hi hj (fl := 0) (fm := 1) (Or.inl ⟨rfl, rfl⟩)
                        refine ⟨r, σ1, σ2, (cls _).mpr ?_, (mdl _ _ f1).mpr ?_, hf⟩
                        · rw [if_neg v0, if_neg v1, if_neg v2, if_pos rfl, if_neg (show ¬ (3 : Int32) = 4 by decide), bnd_s, c1, bd2_s]
                        · rw [if_neg v0, if_neg v1, if_neg v2, if_pos rfl, if_pos rfl, bnd_s, c2, bd2_s]
                      · by_cases v4 : u = 4
                        · subst v4
                          obtain ⟨r, σ1, σ2, c1, c2, f1, hf⟩ := tell_tired hW hs hL e1 e2 e4 hi hj (fl := 1) (fm := 0) (Or.inr ⟨rfl, rfl⟩)
                          refine ⟨r, σ1, σ2, (cls _).mpr ?_, (mdl _ _ f1).mpr ?_, hf⟩
                          · rw [if_neg v0, if_neg v1, if_neg v2, if_neg v3, if_pos rfl, if_pos rfl, bnd_s, c1, bd2_s]
                          · rw [if_neg v0, if_neg v1, if_neg v2, if_neg v3, if_pos rfl, if_neg v3, bnd_s, c2, bd2_s]
                        · by_cases v5 : u = 5
                          · have e11 : (11 : Int32) * nI i + 2 = nI (11 * i + 2) := by rw [n_11, pk_mul, n_2, nI_add]
                            obtain ⟨r, σ1, σ2, c1, c2, f1, hf⟩ := tell_bits (b := fun v => up a i 2 (nI v)) (rv := fun _ => ru) (M := 23) (qp := 11 * i + 2) (w := 2) (x := nI i) hW hs hL e1 e2 e4 (by decide) (by omega) hi (fun _ _ => hru) (fun v hv => hok.put (by unfold inr hiK; rw [nI_toInt (by omega)]; simp; omega)) (fun v hv ρ hρ => ⟨_, putk_c (w := 2) hρ (by decide) (by decide) hi (nI v), hρ.put (k := 2) (by decide) (nI v), fun q hq => up_n (by omega)⟩) (fun τ hτ v hv => hτ.put (i := i) (k := 2) (by omega) (by decide) (nI v))
                            have c1' : f_X7_bitsThatFit (61 + 2 * s) (nI i) 2 (nI i) 24 σ = some (r, σ1) := c1
                            have c2' : f_X8_fits (nI s) (nI i) (nI (11 * i + 2)) 23 σ1 = some (r, σ2) := c2
                            refine ⟨r, σ1, σ2, (cls _).mpr ?_, (mdl _ _ f1).mpr ?_, hf⟩
                            · rw [if_neg v0, if_neg v1, if_neg v2, if_neg v3, if_neg v4, if_pos v5, c1', bd2_s]
                            · rw [if_neg v0, if_neg v1, if_neg v2, if_neg v3, if_neg v4, if_pos v5, e11, c2', bd2_s]
                          · by_cases v6 : u = 6
                            · obtain ⟨M, hMn⟩ : ∃ M, n = M + 1 := ⟨n - 1, by omega⟩
                              have hmn : f_X3_many σ = some (nI (M + 1)) := by unfold f_X3_many; rw [hTC.2.1, hMn]
                              obtain ⟨r, σ1, σ2, c1, c2, f1, hf⟩ := tell_bits (b := fun _ => a) (rv := fun v => v) (M := M) (qp := 57) (w := 8) (x := -1) hW hs hL e1 e2 e4 (by omega) (by decide) hi (fun v hv => by omega) (fun v hv => hok) (fun v hv ρ hρ => ⟨up ρ 42 9 (nI v), by unfold f_X1_put; rw [if_neg (by decide), if_pos rfl, bnd_s], hρ.rul (nI v), fun q hq => up_n (by omega)⟩) (fun τ hτ v hv => hτ.rul (nI v))
                              have c2' : f_X8_fits (nI s) (nI i) 57 (σ1 69 13 - 1) σ1 = some (r, σ2) := by
                                rw [f1 69 (by unfold fD; omega) (by omega), hTM.2.1, hMn, nI_pre (by omega)]
                                exact c2
                              refine ⟨r, σ1, σ2, (cls _).mpr ?_, (mdl _ _ f1).mpr ?_, hf⟩
                              · rw [if_neg v0, if_neg v1, if_neg v2, if_neg v3, if_neg v4, if_neg v5, if_pos v6, hmn, bd1_s, c1, bd2_s]
                              · rw [if_neg v0, if_neg v1, if_neg v2, if_neg v3, if_neg v4, if_neg v5, if_pos v6, c2', bd2_s]
                            · obtain ⟨σ1, c1, f1⟩ := peop_c hC hTC hO hru (o := 61 + 2 * s) (by omega) hL e2
                              have hM1 : PM σ1 70 a m d (nI ru) := hM.eq (f1 70 (by unfold fD; omega) (by omega))
                              have hTM1 : TM σ1 T n := TM_scr hTM (fun q hq => f1 q (by unfold fD; omega) (by omega))
                              obtain ⟨⟨w1, w2, σ2⟩, c2, r1, r2, f2⟩ := peop_m hM1 hok hTM1 hO hru hs hL (by rw [f1 85 (by unfold fD; omega) (by omega)]; exact e1) (nI i) (nI j) u
                              dsimp only at r1 r2 f2
                              have hrr : w1 = wb (fun i => fit T m d i L (σ (61 + 2 * s + 1)) (fun _ => a) (fun _ => ru) 0) m := by
                                rw [r1, f1 86 (by unfold fD; omega) (by omega)]
                                refine wb_congr m (fun v _ => ?_)
                                refine fit_congr (fun k hk => ?_)
                                rw [e4 k hk]
                              subst hrr
                              refine ⟨wb (fun i => fit T m d i L (σ (61 + 2 * s + 1)) (fun _ => a) (fun _ => ru) 0) m, σ1, σ2, (cls _).mpr ?_, (mdl _ _ f1).mpr ?_, a, m, d, ru, T, n, hW.same (fun k hk => by rw [r2 k hk, f1 70 (by unfold fD; omega) (by omega)]) (fun q g1 g2 => ?_)⟩
                              · rw [if_neg v0, if_neg v1, if_neg v2, if_neg v3, if_neg v4, if_neg v5, if_neg v6, c1, bd2_s]
                              · rw [if_neg v0, if_neg v1, if_neg v2, if_neg v3, if_neg v4, if_neg v5, if_neg v6, c2, bd3_s]
                              · unfold kp at g1
                                rw [f2 q g2 (by omega) (by omega), f1 q (by unfold fD; omega) (by omega)]
              · refine ⟨-2, σ, σ, ?_, ?_, a, m, d, ru, T, n, hW⟩
                · unfold f_X7_tells
                  rw [isSheet_c1 hs, bd1_s, if_neg (by decide), has_in hC.2.1 hC.1 hi, bd1_s, if_neg (by decide), has_in hC.2.1 hC.1 hj, bd1_s, if_neg (by decide), if_neg u0, if_pos u1, ck4, cl, ms, bd1_s, if_pos rfl, sz, bd1_s, if_neg q2]
                · unfold f_X8_tells
                  rw [isSheet_m1 hs, bd1_s, if_neg (by decide), isOne_in hM hi, bd1_s, if_neg (by decide), isOne_in hM hj, bd1_s, if_neg (by decide), iu, bd1_s, if_neg (by decide), ck4, cl, if_neg q1, ck4, e1, if_neg q2]
          · refine ⟨-2, σ, σ, ?_, ?_, a, m, d, ru, T, n, hW⟩
            · unfold f_X7_tells
              rw [isSheet_c1 hs, bd1_s, if_neg (by decide), has_in hC.2.1 hC.1 hi, bd1_s, if_neg (by decide), has_in hC.2.1 hC.1 hj, bd1_s, if_neg (by decide), if_neg u0, if_neg u1]
            · unfold f_X8_tells
              rw [isSheet_m1 hs, bd1_s, if_neg (by decide), isOne_in hM hi, bd1_s, if_neg (by decide), isOne_in hM hj, bd1_s, if_neg (by decide), isIn_0 (Or.inr (Int32.not_le.mp u1)), bd1_s, if_pos rfl]
      · refine ⟨-2, σ, σ, ?_, ?_, a, m, d, ru, T, n, hW⟩
        · unfold f_X7_tells
          rw [isSheet_c1 hs, bd1_s, if_neg (by decide), has_in hC.2.1 hC.1 hi, bd1_s, if_neg (by decide), has_out hC.2.1 hz, bd1_s, if_pos rfl]
        · unfold f_X8_tells
          rw [isSheet_m1 hs, bd1_s, if_neg (by decide), isOne_in hM hi, bd1_s, if_neg (by decide), isOne_out hM hz, bd1_s, if_pos rfl]
    · refine ⟨-2, σ, σ, ?_, ?_, a, m, d, ru, T, n, hW⟩
      · unfold f_X7_tells
        rw [isSheet_c1 hs, bd1_s, if_neg (by decide), has_out hC.2.1 hy, bd1_s, if_pos rfl]
      · unfold f_X8_tells
        rw [isSheet_m1 hs, bd1_s, if_neg (by decide), isOne_out hM hy, bd1_s, if_pos rfl]
  · refine ⟨-2, σ, σ, ?_, ?_, a, m, d, ru, T, n, hW⟩
    · unfold f_X7_tells
      rw [isSheet_c0 hx, bd1_s, if_pos rfl]
    · unfold f_X8_tells
      rw [isSheet_m0 hx, bd1_s, if_pos rfl]
end TellsC
