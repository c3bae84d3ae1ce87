/-! film: waking hours of days to come, on a sheet -/
section FilmB
variable {σ : sg_T} {a b : pa_T} {m : Nat} {d : Int32} {ru : Nat} {T : tx_T} {n : Nat}
/-- when i wakes on the k-th day to come -/
def wk (T : tx_T) (ru : Nat) (a : pa_T) (m : Nat) (d : Int32) (i k : Nat) : Int32 := sWa T ru (dN T ru a m d k).1 m (dN T ru a m d k).2 i
theorem sWa_rng (T : tx_T) (ru : Nat) (a : pa_T) (m : Nat) (d : Int32) (i : Nat) : inr (sWa T ru a m d i) (-1) 23 := by
  unfold sWa
  split
  · unfold inr; decide
  · have := sHo_rng T ru a d (setr a m i).toNatClampNeg i
    unfold inr at this ⊢; omega
theorem byte_n : ∀ k, k < 25 → (nI k - 1).toInt8.toInt32 = nI k - 1 := by decide +kernel
theorem byte_w {v : Int32} (h : inr v (-1) 23) : v.toInt8.toInt32 = v := by
  have hk : ∃ k, k < 25 ∧ v = nI k - 1 := by
    unfold inr at h
    refine ⟨(v.toInt + 1).toNat, by omega, Int32.toInt_inj.mp ?_⟩
    rw [n_1, pk_sub_toInt (by omega) (by decide)]; omega
  obtain ⟨k, hk, rfl⟩ := hk
  exact byte_n k hk
theorem hour_at {i : Nat} (hi : i < 5) : f_X0_hour (nI i) σ = some (σ 30 i) := by
  unfold f_X0_hour
  have h5 : ¬ (5 : Int32) ≤ nI i := nle_of_lt (m := 5) hi (by decide)
  rw [if_neg (nI_pos (by omega)), if_neg h5, ck_n hi (by decide), nI_clamp (by omega)]
theorem film_c (h : PC σ 42 a m d (nI ru)) (hT : TC σ T n) (hO : TOk T n) (hru : ru < n) {s L : Nat} (hs : s < 4) (hL : L ≤ 20) (s1 : σ (61 + 2 * s) 1 = 0) (s2 : σ (61 + 2 * s) 2 = nI L) {i : Nat} (hi : i < m) (u : Int32) : ∃ r, itr (fun q => b_X7_film_60 u (nI i) (nI L) (61 + 2 * s) q.1 q.2) lfu (0, σ) = some r ∧ ((∀ j, j < L → r.2 (61 + 2 * s + 1) j = wk T ru a m d i j) ∧ ∀ q, fD q → ¬ (42 ≤ q ∧ q < 50) → q ≠ 61 + 2 * s + 1 → r.2 q = σ q) := by
  have hm := h.1
  have isP42 : isP 42 := Or.inr (Or.inl rfl)
  refine itr_run (f := fun q => b_X7_film_60 u (nI i) (nI L) (61 + 2 * s) q.1 q.2) (I := fun k q => q.1 = nI k ∧ PC q.2 42 (dN T ru a m d k).1 m (dN T ru a m d k).2 (nI ru) ∧ (∀ j, j < k → q.2 (61 + 2 * s + 1) j = wk T ru a m d i j) ∧ ∀ p, fD p → ¬ (42 ≤ p ∧ p < 50) → p ≠ 61 + 2 * s + 1 → q.2 p = σ p) (R := fun r => (∀ j, j < L → r.2 (61 + 2 * s + 1) j = wk T ru a m d i j) ∧ ∀ q, fD q → ¬ (42 ≤ q ∧ q < 50) → q ≠ 61 + 2 * s + 1 → r.2 q = σ q) L (a := (0, σ)) ⟨rfl, h, fun j hj => absurd hj (Nat.not_lt_zero _), fun _ _ _ _ => rfl⟩ ?_ ?_ (by omega)
  · intro k hk ⟨w, τ⟩ ⟨hw, hP, hI, hF⟩
    dsimp only at hw hP hI hF ⊢
    subst hw
    have hT1 : TC τ T n := hT.eq (fun q _ _ _ _ => hF q (by unfold fD; omega) (by omega) (by omega))
    obtain ⟨τ1, e1, hD⟩ := dawn_c hP isP42 hT1 hO hru
    have hr : τ1 30 i = wk T ru a m d i k := (hD.1 i hi).2.1
    have z1 : τ1 (61 + 2 * s) 1 = 0 := by rw [hD.2 _ (by unfold fD; omega), hF _ (by unfold fD; omega) (by omega) (by omega)]; exact s1
    have z2 : τ1 (61 + 2 * s) 2 = nI L := by rw [hD.2 _ (by unfold fD; omega), hF _ (by unfold fD; omega) (by omega) (by omega)]; exact s2
    have e2 : f_X4_put (61 + 2 * s) (nI k) (τ1 30 i) τ1 = some (up τ1 (61 + 2 * s + 1) k (wk T ru a m d i k)) := by
      unfold f_X4_put
      rw [if_neg (nI_pos (by omega)), z2, if_neg (nle_of_lt hk (by omega)), if_pos z1, ck_n (by omega) (by decide), nI_clamp (by omega), bnd_s, hr, byte_w (show inr (wk T ru a m d i k) (-1) 23 from sWa_rng T ru _ m _ i)]
    have hD2 : dawnI T ru (dN T ru a m d k).1 m (dN T ru a m d k).2 (up τ1 (61 + 2 * s + 1) k (wk T ru a m d i k)) m (up τ1 (61 + 2 * s + 1) k (wk T ru a m d i k)) := ⟨fun j hj => by
      rw [up_n (by omega), up_n (by omega), up_n (by omega), up_n (by omega), up_n (by omega)]; exact hD.1 j hj, fun _ _ => rfl⟩
    have hP1 : PC (up τ1 (61 + 2 * s + 1) k (wk T ru a m d i k)) 42 (dN T ru a m d k).1 m (dN T ru a m d k).2 (nI ru) := hP.eq (fun p _ _ => by rw [up_n (by omega)]; exact hD.2 p (by unfold fD; omega))
    obtain ⟨τ2, e3, hP2, f2⟩ := settle_c hP1 isP42 hD2
    unfold b_X7_film_60
    rw [if_neg (nle_of_lt hk (by omega)), e1, bd1_s, hour_at (by omega), bd1_s, e2, bd1_s, e3, bd1_s, bnd_s, nI_1]
    refine ⟨_, rfl, rfl, hP2, fun j hj => ?_, fun p g1 g2 g3 => ?_⟩
    · dsimp only
      rw [f2 (61 + 2 * s + 1) (by omega)]
      by_cases hjk : j = k
      · subst hjk; rw [up_eq]
      · rw [up_nk hjk, hD.2 _ (by unfold fD; omega)]; exact hI j (by omega)
    · dsimp only
      rw [f2 p (by omega), up_n g3, hD.2 p g1]; exact hF p g1 g2 g3
  · intro ⟨w, τ⟩ ⟨hw, hP, hI, hF⟩
    dsimp only at hw hP hI hF ⊢
    subst hw
    unfold b_X7_film_60
    rw [if_pos (Int32.le_refl _)]
    exact ⟨_, rfl, hI, hF⟩
theorem film_m (h : PM σ 70 a m d (nI ru)) (hok : OkP a m) (hT : TM σ T n) (hO : TOk T n) (hru : ru < n) {s L : Nat} (hs : s < 4) (hL : L ≤ 20) {i : Nat} (hi : i < m) : ∃ r, itr (fun q => b_X8_film_47 (nI s) (nI i) (nI L) q.1 q.2) lfu (0, σ) = some r ∧ ((∀ p, r.2 86 p = if 40 * s ≤ p ∧ p < 40 * s + L then wk T ru a m d i (p - 40 * s) else σ 86 p) ∧ ∀ q, q ≠ 70 → q ≠ 86 → ¬ (79 ≤ q ∧ q ≤ 83) → r.2 q = σ q) := by
  have hm := h.1
  refine itr_run (f := fun q => b_X8_film_47 (nI s) (nI i) (nI L) q.1 q.2) (I := fun k q => q.1 = nI k ∧ PM q.2 70 (dN T ru a m d k).1 m (dN T ru a m d k).2 (nI ru) ∧ (∀ p, q.2 86 p = if 40 * s ≤ p ∧ p < 40 * s + k then wk T ru a m d i (p - 40 * s) else σ 86 p) ∧ ∀ p, p ≠ 70 → p ≠ 86 → ¬ (79 ≤ p ∧ p ≤ 83) → q.2 p = σ p) (R := fun r => (∀ p, r.2 86 p = if 40 * s ≤ p ∧ p < 40 * s + L then wk T ru a m d i (p - 40 * s) else σ 86 p) ∧ ∀ q, q ≠ 70 → q ≠ 86 → ¬ (79 ≤ q ∧ q ≤ 83) → r.2 q = σ q) L (a := (0, σ)) ⟨rfl, h, fun p => by rw [if_neg (by omega)], fun _ _ _ _ => rfl⟩ ?_ ?_ (by omega)
  · intro k hk ⟨w, τ⟩ ⟨hw, hP, hI, hF⟩
    dsimp only at hw hP hI hF ⊢
    subst hw
    have hT1 : TM τ T n := TM_scr hT (fun q hq => hF q (by omega) (by omega) (by omega))
    obtain ⟨τ1, e1, f1⟩ := wakes_m hP hT1 hO hru hi
    have e40 : (40 : Int32) * nI s + nI k = nI (40 * s + k) := by
      rw [show (40 : Int32) = nI 40 from rfl, pk_mul, nI_add]
    have hP1 : PM (up τ1 86 (40 * s + k) (wk T ru a m d i k)) 70 (dN T ru a m d k).1 m (dN T ru a m d k).2 (nI ru) := hP.eq (by rw [up_n (by decide)]; exact f1 70 (by decide))
    have hT2 : TM (up τ1 86 (40 * s + k) (wk T ru a m d i k)) T n := TM_scr hT1 (fun q hq => by rw [up_n (by omega)]; exact f1 q (by omega))
    obtain ⟨τ2, e2, hP2, f2⟩ := goDay_m hP1 (dN_ok hok k) hT2 hO hru
    unfold b_X8_film_47
    rw [if_neg (nle_of_lt hk (by omega)), e1, bd2_s, e40, ck_n (by omega) (by decide), nI_clamp (by omega), bnd_s]
    rw [show sWa T ru (dN T ru a m d k).1 m (dN T ru a m d k).2 i = wk T ru a m d i k from rfl, e2, bd2_s, bnd_s, nI_1]
    refine ⟨_, rfl, rfl, hP2, fun p => ?_, fun p g1 g2 g3 => ?_⟩
    · dsimp only
      rw [f2 86 (by decide) (by decide)]
      by_cases hp : p = 40 * s + k
      · subst hp
        rw [up_eq, if_pos (by omega), show 40 * s + k - 40 * s = k by omega]
      · rw [up_nk hp, f1 86 (by decide), hI p]
        by_cases hq : 40 * s ≤ p ∧ p < 40 * s + k
        · rw [if_pos hq, if_pos (by omega)]
        · rw [if_neg hq, if_neg (by omega)]
    · dsimp only
      rw [f2 p g1 g3, up_n g2, f1 p (by omega)]; exact hF p g1 g2 g3
  · intro ⟨w, τ⟩ ⟨hw, hP, hI, hF⟩
    dsimp only at hw hP hI hF ⊢
    subst hw
    unfold b_X8_film_47
    rw [if_pos (Int32.le_refl _)]
    exact ⟨_, rfl, hI, hF⟩
theorem sm_film (x y z : Int32) : SM (f_X7_film x y z) (f_X8_film x y z) := by
  intro σ ⟨a, m, d, ru, T, n, h⟩
  have hW := h
  obtain ⟨hC, hM, hok, hd, hru, hTC, hTM, hO, hI, hTp, hS, hH⟩ := h
  have hm := hC.1
  have e0 : (0 : Int32).toInt = 0 := by decide
  have e20 : (20 : Int32).toInt = 20 := by decide
  rcases shx x with ⟨s, hs, rfl⟩ | hx
  · rcases who y hC.1 with ⟨i, hi, rfl⟩ | hy
    · by_cases z0 : z < 0
      · refine ⟨-2, σ, σ, ?_, ?_, a, m, d, ru, T, n, hW⟩
        · unfold f_X7_film
          rw [isSheet_c1 hs, bd1_s, if_neg (by decide), has_in hC.2.1 hC.1 hi, bd1_s, if_neg (by decide), if_pos z0]
        · unfold f_X8_film
          rw [isSheet_m1 hs, bd1_s, if_neg (by decide), isOne_in hM hi, bd1_s, if_neg (by decide), isIn_0 (Or.inl z0), bd1_s, if_pos rfl]
      · by_cases z1 : z ≤ 20
        · have hz : ∃ L, L ≤ 20 ∧ z = nI L := by
            have z0' := z0
            have z1' := z1
            rw [Int32.lt_iff_toInt_lt] at z0'
            rw [Int32.le_iff_toInt_le] at z1'
            exact ⟨z.toInt.toNat, by omega, Int32.toInt_inj.mp (by rw [nI_toInt (by omega)]; omega)⟩
          obtain ⟨L, hL, rfl⟩ := hz
          have ck4 : ∀ {β : Type} (r : Option β), ck (nI s) 4 r = r := fun r => ck_n hs (by decide)
          have cl : (nI s).toNatClampNeg = s := nI_clamp (by omega)
          obtain ⟨σ1, e1, b1, b2, b3, f1⟩ := become_c σ (o := 61 + 2 * s) (L := L) (by omega) 0
          have hC1 : PC σ1 34 a m d (nI ru) := hC.eq (fun p _ _ => f1 p (by omega) (by omega))
          obtain ⟨σ2, e2, hC2, f2⟩ := copy_c (o := 42) (o1 := 34) (Or.inr (by decide)) hC1
          have hTC2 : TC σ2 T n := hTC.eq (fun q _ _ _ _ => by rw [f2 q (by omega)]; exact f1 q (by omega) (by omega))
          obtain ⟨⟨w3, σ3⟩, e3, r3, f3⟩ := film_c hC2 hTC2 hO hru hs hL (by rw [f2 _ (by omega)]; exact b1) (by rw [f2 _ (by omega)]; exact b2) hi (nI s)
          dsimp only at r3 f3
          have k3 : ∀ q, fD q → ¬ (42 ≤ q ∧ q < 50) → q ≠ 61 + 2 * s → q ≠ 61 + 2 * s + 1 → σ3 q = σ q := fun q g1 g2 g3 g4 => by rw [f3 q g1 g2 g4, f2 q (by omega), f1 q g3 g4]
          -- the model
          obtain ⟨σ4, q4⟩ : ∃ τ, τ = up (up σ3 84 s 0) 85 s (nI L) := ⟨_, rfl⟩
          have f4 : ∀ q, q ≠ 84 → q ≠ 85 → σ4 q = σ3 q := fun q g1 g2 => by rw [q4, up_n g2, up_n g1]
          obtain ⟨⟨w5, σ5⟩, e5, r5, f5⟩ := sheet_loop σ4 hs 0 (nI L)
          dsimp only at r5 f5
          have eS : f_X8_sheet (nI s) 0 (nI L) σ3 = some (1, σ5) := by
            have n1 : ¬ (0 : Int32) = -1 := by decide
            have l40 : nI L ≤ 40 := le_of_le (i := 40) (by omega) (by decide)
            have hin : f_X8_isIn 0 (-1) 2 σ3 = some 1 := isIn_1 (by decide) (by decide)
            unfold f_X8_sheet
            rw [isSheet_m1 hs, bd1_s, if_neg (by decide), hin, bd1_s, if_neg (by decide), if_neg n1, if_pos l40, if_neg n1, if_pos (nI_pos' (by omega)), ck4, cl, bnd_s, if_neg n1, bnd_s, ck4, bnd_s, sheetq4, ← q4, e5, bd2_s]
          obtain ⟨σ6, e6, b6, f6⟩ := keep_m σ5 (p := 72) (by decide)
          have k6 : ∀ q, fD q → ¬ (42 ≤ q ∧ q < 50) → q ≠ 61 + 2 * s → q ≠ 61 + 2 * s + 1 → q ≠ 72 → ¬ (84 ≤ q ∧ q ≤ 86) → σ6 q = σ q := fun q g1 g2 g3 g4 g5 g6 => by rw [f6 q g5, f5 q (by omega), f4 q (by omega) (by omega), k3 q g1 g2 g3 g4]
          have hM5 : PM σ5 70 a m d (nI ru) := hM.eq (by rw [f5 70 (by decide), f4 70 (by decide) (by decide), k3 70 (by unfold fD; omega) (by omega) (by omega) (by omega)])
          have hM6 : PM σ6 70 a m d (nI ru) := hM5.eq (f6 70 (by decide))
          have hM72 : PM σ6 72 a m d (nI ru) := hM5.cp b6
          have hTM6 : TM σ6 T n := TM_scr hTM (fun q hq => k6 q (by unfold fD; omega) (by omega) (by omega) (by omega) (by omega) (by omega))
          obtain ⟨⟨w7, σ7⟩, e7, r7, f7⟩ := film_m hM6 hok hTM6 hO hru hs hL hi
          dsimp only at r7 f7
          have hM73 : PM σ7 72 a m d (nI ru) := hM72.eq (f7 72 (by decide) (by decide) (by decide))
          obtain ⟨σ8, e8, b8, f8⟩ := lay_m σ7 (p := 72) (by decide)
          have hM8 : PM σ8 70 a m d (nI ru) := hM73.cp b8
          have k8 : ∀ q, kp q → q ≠ 70 → q ≠ 61 + 2 * s → q ≠ 61 + 2 * s + 1 → ¬ (84 ≤ q ∧ q ≤ 86) → σ8 q = σ q := fun q g1 g2 g3 g4 g5 => by
            unfold kp at g1
            rw [f8 q g2, f7 q g2 (by omega) (by omega), k6 q (by unfold fD; omega) (by omega) g3 g4 (by omega) g5]
          have hS8 : SHR σ8 := fun u hu => by
            have t84 : σ8 84 u = if u = s then 0 else σ 84 u := by
              rw [f8 84 (by decide), f7 84 (by decide) (by decide) (by decide), f6 84 (by decide), f5 84 (by decide), q4, up_ne (by decide), upw, k3 84 (by unfold fD; omega) (by omega) (by omega) (by omega)]
            have t85 : σ8 85 u = if u = s then nI L else σ 85 u := by
              rw [f8 85 (by decide), f7 85 (by decide) (by decide) (by decide), f6 85 (by decide), f5 85 (by decide), q4, upw, up_ne (by decide), k3 85 (by unfold fD; omega) (by omega) (by omega) (by omega)]
            have t86 : ∀ p, σ8 86 p = if 40 * s ≤ p ∧ p < 40 * s + L then wk T ru a m d i (p - 40 * s) else if 40 * s ≤ p ∧ p < 40 * s + 40 then 0 else σ 86 p := fun p => by
              rw [f8 86 (by decide), r7 p, f6 86 (by decide), r5 p, f4 86 (by decide) (by decide), k3 86 (by unfold fD; omega) (by omega) (by omega) (by omega)]
            by_cases hus : u = s
            · subst hus
              have tr : ∀ q, 61 ≤ q → q < 69 → σ8 q = σ3 q := fun q g1 g2 => by rw [f8 q (by omega), f7 q (by omega) (by omega) (by omega), f6 q (by omega), f5 q (by omega), f4 q (by omega) (by omega)]
              have t1 : σ8 (61 + 2 * u) = σ1 (61 + 2 * u) := by rw [tr _ (by omega) (by omega), f3 _ (by unfold fD; omega) (by omega) (by omega), f2 _ (by omega)]
              rw [if_pos rfl] at t84 t85
              rw [t1, b1, b2, t84, t85]
              refine ⟨rfl, rfl, by unfold inr; decide, by unfold inr; rw [nI_toInt (by omega)]; omega, fun j hj => ?_⟩
              rw [nI_toInt (by omega)] at hj
              rw [tr _ (by omega) (by omega), r3 j (by omega), t86 (40 * u + j), if_pos (by omega), show 40 * u + j - 40 * u = j by omega]
            · obtain ⟨u1, u2, u3, u4, u5⟩ := hS u hu
              rw [if_neg hus] at t84 t85
              rw [t84, t85, k8 (61 + 2 * u) (by unfold kp; omega) (by omega) (by omega) (by omega) (by omega), k8 (61 + 2 * u + 1) (by unfold kp; omega) (by omega) (by omega) (by omega) (by omega)]
              refine ⟨u1, u2, u3, u4, fun j hj => ?_⟩
              have hj40 : j < 40 := by
                unfold inr at u4; omega
              rw [t86 (40 * u + j), if_neg (by omega), if_neg (by omega)]
              exact u5 j hj
          obtain ⟨σa, qa⟩ : ∃ τ : sg_T, τ = upr σ8 70 (σ 70) := ⟨_, rfl⟩
          have hWa : WR (upr σ8 70 (σ 70)) a m d ru T n := hW.sheets (fun u hu => by
              rw [upr_n (by omega), upr_n (by omega), upr_n (by omega), upr_n (by omega), upr_n (by omega)]; exact hS8 u hu) (fun q g1 g2 g3 => by
              by_cases g4 : q = 70
              · rw [g4, upr_s]
              · rw [upr_n g4]; exact k8 q g1 g4 (by omega) (by omega) g3)
          have hfin : WR σ8 a m d ru T n := hWa.new (hC.eq (fun p _ _ => k8 p (by unfold kp; omega) (by omega) (by omega) (by omega) (by omega))) hM8 hok hd hru (fun q _ _ g3 => (upr_n g3).symm)
          refine ⟨nI L, σ3, σ8, ?_, ?_, a, m, d, ru, T, n, hfin⟩
          · unfold f_X7_film
            rw [isSheet_c1 hs, bd1_s, if_neg (by decide), has_in hC.2.1 hC.1 hi, bd1_s, if_neg (by decide), if_neg z0, if_pos z1, ck4, cl, e1, bd1_s, e2, bd1_s, e3, bd2_s]
          · have hM3 : PM σ3 70 a m d (nI ru) := hM.eq (k3 70 (by unfold fD; omega) (by omega) (by omega) (by omega))
            unfold f_X8_film
            rw [isSheet_m1 hs, bd1_s, if_neg (by decide), isOne_in hM3 hi, bd1_s, if_neg (by decide), isIn_1 (Int32.not_lt.mp z0) z1, bd1_s, if_neg (by decide), eS, bd2_s, e6, bd1_s, e7, bd2_s, e8, bd1_s]
        · refine ⟨-2, σ, σ, ?_, ?_, a, m, d, ru, T, n, hW⟩
          · unfold f_X7_film
            rw [isSheet_c1 hs, bd1_s, if_neg (by decide), has_in hC.2.1 hC.1 hi, bd1_s, if_neg (by decide), if_neg z0, if_neg z1]
          · unfold f_X8_film
            rw [isSheet_m1 hs, bd1_s, if_neg (by decide), isOne_in hM hi, bd1_s, if_neg (by decide), isIn_0 (Or.inr (Int32.not_le.mp z1)), bd1_s, if_pos rfl]
    · refine ⟨-2, σ, σ, ?_, ?_, a, m, d, ru, T, n, hW⟩
      · unfold f_X7_film
        rw [isSheet_c1 hs, bd1_s, if_neg (by decide), has_out hC.2.1 hy, bd1_s, if_pos rfl]
      · unfold f_X8_film
        rw [isSheet_m1 hs, bd1_s, if_neg (by decide), isOne_out hM hy, bd1_s, if_pos rfl]
  · refine ⟨-2, σ, σ, ?_, ?_, a, m, d, ru, T, n, hW⟩
    · unfold f_X7_film
      rw [isSheet_c0 hx, bd1_s, if_pos rfl]
    · unfold f_X8_film
      rw [isSheet_m0 hx, bd1_s, if_pos rfl]
end FilmB
