theorem lateBy_c {σ : sg_T} {o : Nat} {a : pa_T} {m : Nat} {d : Int32} {ru : Nat} {T : tx_T} {n : Nat} (h : PC σ o a m d (nI ru)) (ho : isP o) (hok : OkP a m) (hT : TC σ T n) (hO : TOk T n) (hru : ru < n) {i : Nat} (hi : i < m) : sc (f_X0_lateBy o (nI i) σ) σ (sLa T ru a m d i) := by
  obtain ⟨σ1, e1, f1⟩ := wakes_c h ho hT hO hru hi
  have h1 := h.scr ho f1
  have g2 : f_X1_get o 2 (nI i) σ1 = some (a i 2) := get_c (w := 2) h1 (by decide) (by decide) hi
  refine ⟨σ1, ?_, f1⟩
  unfold f_X0_lateBy
  rw [e1, bd2_s, g2, bd1_s]
  have e : jmax 0 (sWa T ru a m d i - a i 2) = sLa T ru a m d i := by
    unfold sWa sLa
    by_cases hs : setr a m i = -1
    · rw [if_pos hs, if_pos hs]
      have h2 := (hok i hi).2.2.1
      unfold inr at h2
      have e0 : (0 : Int32).toInt = 0 := by decide
      have e1 : (-1 : Int32).toInt = -1 := by decide
      refine Int32.toInt_inj.mp ?_
      rw [jmax_toInt, sub_toInt (by omega) (by omega)]; omega
    · rw [if_neg hs, if_neg hs]
  rw [e]
theorem whose_m {σ : sg_T} {a : pa_T} {m : Nat} {d ru : Int32} (h : PM σ 70 a m d ru) (x y : Int32) : itr (fun q => b_X8_told_120 x y q.1 q.2 σ) lfu (0, 0) = some (wb (fun i => decide (setr a m i = x)) m, nI m) := by
  have hm := h.1
  refine itr_seq (fun k => (wb (fun i => decide (setr a m i = x)) k, nI k)) m (fun k hk => ?_) ?_ (by omega)
  · show b_X8_told_120 x y (wb (fun i => decide (setr a m i = x)) k) (nI k) σ = some (.inl ((if decide (setr a m k = x) = true then _ else _), _))
    unfold b_X8_told_120
    rw [many_m h, bd1_s, if_neg (nle_of_lt hk (by omega)), setter_m h hk, bd1_s, bnd_s, bnd_s, bnd_s, nI_1]
    by_cases e : setr a m k = x
    · rw [if_pos e, if_pos (by simp [e])]
    · rw [if_neg e, if_neg (by simp [e]), Int32.or_zero]
  · show b_X8_told_120 x y (wb (fun i => decide (setr a m i = x)) m) (nI m) σ = _
    unfold b_X8_told_120
    rw [many_m h, bd1_s, if_pos (Int32.le_refl _)]
theorem plc {σ : sg_T} {a : pa_T} {m : Nat} {d ru : Int32} (hC : PC σ 34 a m d ru) (hM : PM σ 70 a m d ru) {w : Nat} (hw : w < 7) (y : Int32) : (f_X1_hasPlace 34 (nI w) y σ = some 0 ∧ f_X8_place (nI w) y σ = some (-1)) ∨ (f_X1_hasPlace 34 (nI w) y σ = some 1 ∧ ∃ v k, k < 58 ∧ f_X1_get 34 (nI w) y σ = some v ∧ f_X8_place (nI w) y σ = some (nI k) ∧ σ 70 k = v) := by
  have hm := hC.1
  by_cases w0 : w = 0
  · subst w0
    refine Or.inr ⟨rfl, d, 56, by decide, ?_, rfl, hM.2.2.1⟩
    show some (σ 34 8) = some d
    rw [hC.2.2.1]
  · by_cases w6 : w = 6
    · subst w6
      by_cases y0 : y < 0
      · exact Or.inl ⟨hp6_no hC (Or.inl y0), pl6_no hM (Or.inl y0)⟩
      · rcases two (y / 10) (jrem y 10) hm with ⟨i, j, hi, hj, hij, e1, e2⟩ | hout
        · exact Or.inr ⟨hp6_in hC y0 hi hj hij e1 e2, a i (6 + j), 11 * i + (6 + j), by omega, get6_c hC y0 hi hj hij e1 e2, pl6_in hM y0 hi hj hij e1 e2, hM.2.2.2.2.2 i j hi hj hij⟩
        · exact Or.inl ⟨hp6_no hC (Or.inr hout), pl6_no hM (Or.inr hout)⟩
    · rcases who y hm with ⟨i, hi, rfl⟩ | hy
      · exact Or.inr ⟨by rw [hpk hC (by omega) (by omega)]; exact has_in hC.2.1 hm hi, a i w, 11 * i + w, by omega, get_c hC (by omega) (by omega) hi, plk_in hM (by omega) (by omega) hi, hM.2.2.2.2.1 i hi w (by omega)⟩
      · exact Or.inl ⟨by rw [hpk hC (by omega) (by omega)]; exact has_out hC.2.1 hy, plk_no hM (by omega) (by omega) hy⟩
theorem sm_told (x y : Int32) : SM (f_X7_told x y) (f_X8_told x y) := by
  intro σ ⟨a, m, d, ru, T, n, h⟩
  have hW := h
  obtain ⟨hC, hM, hok, hd, hru, hTC, hTM, hO, hI, hTp, hS, hH⟩ := h
  have hm := hC.1
  have isP34 : isP 34 := Or.inl rfl
  have e0 : (0 : Int32).toInt = 0 := by decide
  have e7 : (7 : Int32).toInt = 7 := by decide
  have e11 : (11 : Int32).toInt = 11 := by decide
  by_cases hy : y < 0 ∨ 11 < y
  · refine ⟨-1000, σ, σ, ?_, ?_, a, m, d, ru, T, n, hW⟩
    · have hh : ∃ r, f_X1_has 34 x σ = some r := by
        rcases who x hm with ⟨i, hi, rfl⟩ | hx
        · exact ⟨1, has_in hC.2.1 hm hi⟩
        · exact ⟨0, has_out hC.2.1 hx⟩
      obtain ⟨r, hr⟩ := hh
      have ne : ∀ k, k < 12 → ¬ y = nI k := fun k hk q => by
        rcases hy with hy | hy
        · rw [q] at hy; exact nI_pos (by omega) hy
        · rw [q, Int32.lt_iff_toInt_lt, nI_toInt (by omega)] at hy; omega
      have n8 : ¬ y = 8 := ne 8 (by decide)
      have n9 : ¬ y = 9 := ne 9 (by decide)
      have n10 : ¬ y = 10 := ne 10 (by decide)
      have n11 : ¬ y = 11 := ne 11 (by decide)
      unfold f_X7_told
      rw [hr, bd1_s, if_neg n8, if_neg n9, if_neg n10, if_neg n11]
      have hc : (if r = 0 then some ((-1000 : Int32), σ) else some (-1000, σ)) = some (-1000, σ) := by split <;> rfl
      by_cases y0 : y < 0
      · rw [if_pos y0]; exact hc
      · have y7 : 7 < y := by
          have h11 := hy.resolve_left y0
          rw [Int32.lt_iff_toInt_lt] at h11 ⊢; omega
        rw [if_neg y0, if_pos y7]; exact hc
    · unfold f_X8_told
      rw [isIn_0 hy, bd1_s, if_pos rfl]
  · have y0 : ¬ y < 0 := fun q => hy (Or.inl q)
    have y11 : ¬ 11 < y := fun q => hy (Or.inr q)
    have hw : ∃ w, w < 12 ∧ y = nI w := by
      have y0' := y0
      have y11' := y11
      rw [Int32.lt_iff_toInt_lt] at y0' y11'
      exact ⟨y.toInt.toNat, by omega, Int32.toInt_inj.mp (by rw [nI_toInt (by omega)]; omega)⟩
    obtain ⟨w, hw, rfl⟩ := hw
    have hin : ∀ τ, f_X8_isIn (nI w) 0 11 τ = some 1 := fun τ => isIn_1 (Int32.not_lt.mp y0) (Int32.not_lt.mp y11)
    by_cases w7 : w < 7
    · have n7 : ¬ 7 < nI w := Int32.not_lt.mpr (le_of_le (i := 7) (by omega) (by decide))
      have n7' : ¬ 7 ≤ nI w := nle_of_lt (m := 7) w7 (by decide)
      rcases plc hC hM w7 x with ⟨k1, k2⟩ | ⟨k1, v, k, hk, k2, k3, k4⟩
      · refine ⟨-1000, σ, σ, ?_, ?_, a, m, d, ru, T, n, hW⟩
        · unfold f_X7_told
          rw [if_neg y0, if_neg n7, k1, bd1_s, if_pos rfl]
        · unfold f_X8_told
          rw [hin, bd1_s, if_neg (by decide), if_neg n7', k2, bd1_s, if_pos rfl]
      · refine ⟨v, σ, σ, ?_, ?_, a, m, d, ru, T, n, hW⟩
        · unfold f_X7_told
          rw [if_neg y0, if_neg n7, k1, bd1_s, if_neg (by decide), k2, bd1_s]
        · unfold f_X8_told
          rw [hin, bd1_s, if_neg (by decide), if_neg n7', k3, bd1_s, if_neg (nI_ne_m1 (by omega)), bd1_s, ck_n hk (by decide), nI_clamp (by omega), k4]
    · have y7 : (7 : Int32) ≤ nI w := le_of_le (m := 7) (by omega) (by omega)
      have hw2 : w = 7 ∨ w = 8 ∨ w = 9 ∨ w = 10 ∨ w = 11 := by omega
      rcases who x hm with ⟨i, hi, rfl⟩ | hx
      · have hs := has_in hC.2.1 hm hi
        rcases hw2 with rfl | rfl | rfl | rfl | rfl
        · have hp : f_X1_hasPlace 34 (nI 7) (nI i) σ = some 1 := by
            unfold f_X1_hasPlace
            rw [if_neg (by decide), if_neg (by decide), hs, bd1_s, cz_1]
          have hg : f_X1_get 34 (nI 7) (nI i) σ = some (a i 0) := get7_c hC hi
          have ho : f_X8_of (nI i) 0 σ = some (a i 0) := ofk_m (k := 0) hM hi (by decide)
          refine ⟨a i 0, σ, σ, ?_, ?_, a, m, d, ru, T, n, hW⟩
          · unfold f_X7_told
            rw [if_neg y0, if_neg (by decide), hp, bd1_s, if_neg (by decide), hg, bd1_s]
          · unfold f_X8_told
            rw [hin, bd1_s, if_neg (by decide), if_pos y7, isOne_in hM hi, bd1_s, if_neg (by decide), if_pos (by decide), ho, bd1_s]
        · refine ⟨setr a m i, σ, σ, ?_, ?_, a, m, d, ru, T, n, hW⟩
          · unfold f_X7_told
            rw [if_neg y0, if_pos (by decide), hs, bd1_s, if_neg (by decide), if_pos (by decide), setterOf_c hC hi, bd1_s]
          · unfold f_X8_told
            rw [hin, bd1_s, if_neg (by decide), if_pos y7, isOne_in hM hi, bd1_s, if_neg (by decide), if_neg (by decide), if_pos (by decide), setter_m hM hi, bd1_s]
        · obtain ⟨σ1, e1, f1⟩ := wakes_c hC isP34 hTC hO hru hi
          have hM1 : PM σ1 70 a m d (nI ru) := hM.eq (f1 70 (by decide) (by decide))
          have hTM1 : TM σ1 T n := TM_scr hTM (fun q hq => f1 q (by omega) (by omega))
          obtain ⟨σ2, e2, f2⟩ := wakes_m hM1 hTM1 hO hru hi
          refine ⟨sWa T ru a m d i, σ1, σ2, ?_, ?_, a, m, d, ru, T, n, hW.frame (fun q hq => ?_)⟩
          · unfold f_X7_told
            rw [if_neg y0, if_pos (by decide), hs, bd1_s, if_neg (by decide), if_neg (by decide), if_pos (by decide), e1, bd2_s]
          · unfold f_X8_told
            rw [hin, bd1_s, if_neg (by decide), if_pos y7, isOne_in hM1 hi, bd1_s, if_neg (by decide), if_neg (by decide), if_neg (by decide), if_pos (by decide), e2, bd2_s]
          · unfold kp at hq
            rw [f2 q (by omega), f1 q (by omega) (by omega)]
        · obtain ⟨σ1, e1, f1⟩ := lateBy_c hC isP34 hok hTC hO hru hi
          have hM1 : PM σ1 70 a m d (nI ru) := hM.eq (f1 70 (by decide) (by decide))
          have hTM1 : TM σ1 T n := TM_scr hTM (fun q hq => f1 q (by omega) (by omega))
          obtain ⟨σ2, e2, f2⟩ := lateBy_m hM1 hTM1 hO hru hi
          refine ⟨sLa T ru a m d i, σ1, σ2, ?_, ?_, a, m, d, ru, T, n, hW.frame (fun q hq => ?_)⟩
          · unfold f_X7_told
            rw [if_neg y0, if_pos (by decide), hs, bd1_s, if_neg (by decide), if_neg (by decide), if_neg (by decide), if_pos (by decide), e1, bd2_s]
          · unfold f_X8_told
            rw [hin, bd1_s, if_neg (by decide), if_pos y7, isOne_in hM1 hi, bd1_s, if_neg (by decide), if_neg (by decide), if_neg (by decide), if_neg (by decide), if_pos (by decide), e2, bd2_s]
          · unfold kp at hq
            rw [f2 q (by omega), f1 q (by omega) (by omega)]
        · refine ⟨wb (fun j => decide (setr a m j = nI i)) m, σ, σ, ?_, ?_, a, m, d, ru, T, n, hW⟩
          · unfold f_X7_told
            rw [if_neg y0, if_pos (by decide), hs, bd1_s, if_neg (by decide), if_neg (by decide), if_neg (by decide), if_neg (by decide), if_pos (by decide), whose_c hC, bd1_s]
          · unfold f_X8_told
            rw [hin, bd1_s, if_neg (by decide), if_pos y7, isOne_in hM hi, bd1_s, if_neg (by decide), if_neg (by decide), if_neg (by decide), if_neg (by decide), if_neg (by decide), whose_m hM, bd2_s]
      · have hs := has_out hC.2.1 hx
        refine ⟨-1000, σ, σ, ?_, ?_, a, m, d, ru, T, n, hW⟩
        · by_cases e : w = 7
          · subst e
            have hp : f_X1_hasPlace 34 (nI 7) x σ = some 0 := by
              unfold f_X1_hasPlace
              rw [if_neg (by decide), if_neg (by decide), hs, bd1_s, cz_0]
            unfold f_X7_told
            rw [if_neg y0, if_neg (by decide), hp, bd1_s, if_pos rfl]
          · have y8 : 7 < nI w := by
              rw [Int32.lt_iff_toInt_lt, nI_toInt (by omega)]; omega
            unfold f_X7_told
            rw [if_neg y0, if_pos y8, hs, bd1_s, if_pos rfl]
        · unfold f_X8_told
          rw [hin, bd1_s, if_neg (by decide), if_pos y7, isOne_out hM hx, bd1_s, if_pos rfl]
