/-! asks, image, back, feed; copies. -/
theorem sm_asks (x y z : Int32) : SM (f_X7_asks x y z) (f_X8_asks x y z) := by
  intro σ ⟨a, m, d, ru, T, n, h⟩
  have hW := h
  obtain ⟨hC, hM, hok, hd, hru, hTC, hTM, hO, _⟩ := h
  have isP34 : isP 34 := Or.inl rfl
  rcases two x y hC.1 with ⟨i, j, hi, hj, hij, rfl, rfl⟩ | hx
  · have tc := hasTwo_in hC hi hj hij
    by_cases z0 : z = 0
    · subst z0
      obtain ⟨σ1, e1, f1⟩ := hour_c hC isP34 hTC hO hru hi hj
      have hM1 : PM σ1 70 a m d (nI ru) := hM.eq (f1 70 (by decide) (by decide))
      have hTM1 : TM σ1 T n := TM_scr hTM (fun q hq => f1 q (by omega) (by omega))
      obtain ⟨σ2, e2, f2⟩ := hour_m hM1 hTM1 hO hru hi hj
      refine ⟨sHo T ru a d i j, σ1, σ2, ?_, ?_, a, m, d, ru, T, n, hW.frame (fun q hq => ?_)⟩
      · unfold f_X7_asks
        rw [tc, bd1_s, if_neg (by decide), if_pos rfl, e1, bd2_s]
      · unfold f_X8_asks
        rw [isTwo_in hM1 hi hj hij, bd1_s, if_neg (by decide), isIn_1 (by decide) (by decide), bd1_s, if_neg (by decide), if_pos rfl, e2, bd2_s]
      · unfold kp at hq
        rw [f2 q (by omega), f1 q (by omega) (by omega)]
    · by_cases z1 : z = 1
      · subst z1
        obtain ⟨σ1, e1, f1⟩ := grow_c hC isP34 hTC hO hru hi hj 1
        have hM1 : PM σ1 70 a m d (nI ru) := hM.eq (f1 70 (by decide) (by decide))
        have hTM1 : TM σ1 T n := TM_scr hTM (fun q hq => f1 q (by omega) (by omega))
        obtain ⟨σ2, e2, f2⟩ := grow_m hM1 hTM1 hO hru hi hj 1
        refine ⟨sGr T ru a d i j 1, σ1, σ2, ?_, ?_, a, m, d, ru, T, n, hW.frame (fun q hq => ?_)⟩
        · unfold f_X7_asks
          rw [tc, bd1_s, if_neg (by decide), if_neg (by decide), if_pos rfl, e1, bd2_s]
        · unfold f_X8_asks
          rw [isTwo_in hM1 hi hj hij, bd1_s, if_neg (by decide), isIn_1 (by decide) (by decide), bd1_s, if_neg (by decide), if_neg (by decide), if_pos rfl, bnd_s, e2, bd2_s]
        · unfold kp at hq
          rw [f2 q (by omega), f1 q (by omega) (by omega)]
      · by_cases z2 : z = 2
        · subst z2
          obtain ⟨σ1, e1, f1⟩ := grow_c hC isP34 hTC hO hru hi hj 0
          have hM1 : PM σ1 70 a m d (nI ru) := hM.eq (f1 70 (by decide) (by decide))
          have hTM1 : TM σ1 T n := TM_scr hTM (fun q hq => f1 q (by omega) (by omega))
          obtain ⟨σ2, e2, f2⟩ := grow_m hM1 hTM1 hO hru hi hj 0
          refine ⟨sGr T ru a d i j 0, σ1, σ2, ?_, ?_, a, m, d, ru, T, n, hW.frame (fun q hq => ?_)⟩
          · unfold f_X7_asks
            rw [tc, bd1_s, if_neg (by decide), if_neg (by decide), if_neg (by decide), if_pos rfl, e1, bd2_s]
          · unfold f_X8_asks
            rw [isTwo_in hM1 hi hj hij, bd1_s, if_neg (by decide), isIn_1 (by decide) (by decide), bd1_s, if_neg (by decide), if_neg (by decide), if_neg (by decide), bnd_s, e2, bd2_s]
          · unfold kp at hq
            rw [f2 q (by omega), f1 q (by omega) (by omega)]
        · have hz : z < 0 ∨ 2 < z := by
            by_cases h0 : z < 0
            · exact Or.inl h0
            · by_cases h2 : 2 < z
              · exact Or.inr h2
              · exfalso
                have e0 : (0 : Int32).toInt = 0 := by decide
                have e1 : (1 : Int32).toInt = 1 := by decide
                have e2 : (2 : Int32).toInt = 2 := by decide
                have n0 : ¬ z.toInt = 0 := fun q => z0 (Int32.toInt_inj.mp (by omega))
                have n1 : ¬ z.toInt = 1 := fun q => z1 (Int32.toInt_inj.mp (by omega))
                have n2 : ¬ z.toInt = 2 := fun q => z2 (Int32.toInt_inj.mp (by omega))
                rw [Int32.lt_iff_toInt_lt] at h0 h2
                omega
          refine ⟨-1000, σ, σ, ?_, ?_, a, m, d, ru, T, n, hW⟩
          · unfold f_X7_asks
            rw [tc, bd1_s, if_neg (by decide), if_neg z0, if_neg z1, if_neg z2]
          · unfold f_X8_asks
            rw [isTwo_in hM hi hj hij, bd1_s, if_neg (by decide), isIn_0 hz, bd1_s, if_pos rfl]
  · refine ⟨-1000, σ, σ, ?_, ?_, a, m, d, ru, T, n, hW⟩
    · unfold f_X7_asks
      rw [hasTwo_out hC hx, bd1_s, if_pos rfl]
    · unfold f_X8_asks
      rw [isTwo_out hM hx, bd1_s, if_pos rfl]
theorem sm_feed (x : Int32) : SM (f_X7_feed x) (f_X8_feed x) := by
  intro σ ⟨a, m, d, ru, T, n, h⟩
  have hW := h
  obtain ⟨hC, hM, hok, hd, hru, hTC, hTM, hO, hI, ⟨l, hl, t1, t2, t3⟩, hS, hH⟩ := h
  by_cases x0 : x < 0
  · refine ⟨-2, σ, σ, ?_, ?_, a, m, d, ru, T, n, hW⟩
    · unfold f_X7_feed; rw [if_pos x0]
    · unfold f_X8_feed; rw [isIn_0 (Or.inl x0), bd1_s, if_pos rfl]
  · by_cases x1 : x ≤ 255
    · have hin : f_X8_isIn x 0 255 = fun _ => some 1 := funext fun _ => isIn_1 (Int32.not_lt.mp x0) x1
      by_cases hl2 : l = 160
      · subst hl2
        have e : ¬ nI 160 < 160 := by decide
        refine ⟨-4, σ, σ, ?_, ?_, a, m, d, ru, T, n, hW⟩
        · unfold f_X7_feed f_X2_add; rw [if_neg x0, if_pos x1, t1, if_neg e, bd2_s, if_pos rfl]
        · unfold f_X8_feed; rw [hin, bd1_s, if_neg (by decide), t2, if_pos (by decide)]
      · have e : nI l < 160 := by
          have e1 : (160 : Int32).toInt = 160 := by decide
          rw [Int32.lt_iff_toInt_lt, nI_toInt (by omega)]; omega
        have e' : ¬ nI l = 160 := fun q => hl2 (nI_inj (i := l) (j := 160) (by omega) (by decide) q)
        have u1 : ∀ y, up σ 2 l y 1 1 = nI l := fun y => by rw [up_ne (by decide)]; exact t1
        have u2 : up (up σ 2 l x) 1 1 (nI (l + 1)) 69 6 = nI l := by rw [up_ne (by decide), up_ne (by decide)]; exact t2
        have u3 : up (up (up σ 2 l x) 1 1 (nI (l + 1))) 74 l x 69 6 = nI l := by rw [up_ne (by decide)]; exact u2
        refine ⟨nI (l + 1), up (up σ 2 l x) 1 1 (nI (l + 1)), up (up (up (up σ 2 l x) 1 1 (nI (l + 1))) 74 l x) 69 6 (nI (l + 1)), ?_, ?_, a, m, d, ru, T, n, ?_⟩
        · unfold f_X7_feed f_X2_add f_X2_size
          rw [if_neg x0, if_pos x1, t1, if_pos e, ck_n (by omega) (by decide), nI_clamp (by omega), bnd_s, u1, nI_1, bnd_s, bd2_s, if_neg (by decide), bd1_s, up_eq]
        · unfold f_X8_feed
          rw [hin, bd1_s, if_neg (by decide), u2, if_neg e', ck_n (by omega) (by decide), nI_clamp (by omega), bnd_s, u3, nI_1, bnd_s, up_eq]
        · have ke : ∀ q, q ≠ 1 → q ≠ 2 → q ≠ 69 → q ≠ 74 → up (up (up (up σ 2 l x) 1 1 (nI (l + 1))) 74 l x) 69 6 (nI (l + 1)) q = σ q := fun q h1 h2 h3 h4 => by rw [up_n h3, up_n h4, up_n h1, up_n h2]
          have k69 : ∀ k, k ≠ 6 → up (up (up (up σ 2 l x) 1 1 (nI (l + 1))) 74 l x) 69 6 (nI (l + 1)) 69 k = σ 69 k := fun k hk => by rw [up_nk hk, up_ne (by decide), up_ne (by decide), up_ne (by decide)]
          have k1 : ∀ k, k ≠ 1 → up (up (up (up σ 2 l x) 1 1 (nI (l + 1))) 74 l x) 69 6 (nI (l + 1)) 1 k = σ 1 k := fun k hk => by rw [up_ne (by decide), up_ne (by decide), up_nk hk, up_ne (by decide)]
          refine ⟨hC.eq (fun p _ _ => ke p (by omega) (by omega) (by omega) (by omega)), hM.eq (ke 70 (by decide) (by decide) (by decide) (by decide)), hok, hd, hru, hTC.eq (fun q _ _ _ _ => ke q (by omega) (by omega) (by omega) (by omega)), ?_, hO, ?_, ⟨l + 1, by omega, ?_, up_eq, fun i hi => ?_⟩, fun s hs => ?_, fun k hk => ?_⟩
          · unfold TM at hTM ⊢
            rw [k69 13 (by decide), ke 75 (by decide) (by decide) (by decide) (by decide), ke 76 (by decide) (by decide) (by decide) (by decide)]; exact hTM
          · unfold IMG at hI ⊢
            rw [k69 3 (by decide), ke 0 (by decide) (by decide) (by decide) (by decide)]
            rcases hI with hI | ⟨h1, h2, a', m', d', ru', h3, h4, h5⟩
            · exact Or.inl hI
            · exact Or.inr ⟨h1, h2, a', m', d', ru', h3.eq (fun p _ _ => ke p (by omega) (by omega) (by omega) (by omega)), h4.eq (ke 71 (by decide) (by decide) (by decide) (by decide)), h5⟩
          · rw [up_ne (by decide), up_ne (by decide), up_eq]
          · have v2 : up (up (up (up σ 2 l x) 1 1 (nI (l + 1))) 74 l x) 69 6 (nI (l + 1)) 2 i = up σ 2 l x 2 i := by rw [up_ne (by decide), up_ne (by decide), up_ne (by decide)]
            have v74 : up (up (up (up σ 2 l x) 1 1 (nI (l + 1))) 74 l x) 69 6 (nI (l + 1)) 74 i = up (up (up σ 2 l x) 1 1 (nI (l + 1))) 74 l x 74 i := by rw [up_ne (by decide)]
            rw [v2, v74]
            by_cases hil : i = l
            · subst hil
              rw [up_eq, up_eq]
              refine ⟨rfl, ?_⟩
              have e0 : (0 : Int32).toInt = 0 := by decide
              have e255 : (255 : Int32).toInt = 255 := by decide
              rw [Int32.lt_iff_toInt_lt] at x0
              rw [Int32.le_iff_toInt_le] at x1
              unfold inr; omega
            · rw [up_nk hil, up_nk hil, up_ne (by decide), up_ne (by decide)]
              exact t3 i (by omega)
          · rw [ke (61 + 2 * s) (by omega) (by omega) (by omega) (by omega), ke 84 (by decide) (by decide) (by decide) (by decide), ke 85 (by decide) (by decide) (by decide) (by decide), ke 86 (by decide) (by decide) (by decide) (by decide), ke (61 + 2 * s + 1) (by omega) (by omega) (by omega) (by omega)]; exact hS s hs
          · rw [ke 73 (by decide) (by decide) (by decide) (by decide), ke 88 (by decide) (by decide) (by decide) (by decide), ke 77 (by decide) (by decide) (by decide) (by decide)]; exact hH k hk
    · refine ⟨-2, σ, σ, ?_, ?_, a, m, d, ru, T, n, hW⟩
      · unfold f_X7_feed; rw [if_neg x0, if_neg x1]
      · unfold f_X8_feed; rw [isIn_0 (Or.inr (Int32.not_le.mp x1)), bd1_s, if_pos rfl]
