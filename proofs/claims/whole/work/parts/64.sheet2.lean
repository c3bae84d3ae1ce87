theorem sheetq4 : b_X8_sheet_68q4 = b_X8_sheet_68 := rfl
theorem sm_sheet (x y z : Int32) : SM (f_X7_sheet x y z) (f_X8_sheet x y z) := by
  intro σ ⟨a, m, d, ru, T, n, h⟩
  have e0 : (0 : Int32).toInt = 0 := by decide
  have e2 : (2 : Int32).toInt = 2 := by decide
  have e40 : (40 : Int32).toInt = 40 := by decide
  have em : (-1 : Int32).toInt = -1 := by decide
  rcases shx x with ⟨s, hs, rfl⟩ | hx
  · have ck4 : ∀ {β : Type} (r : Option β), ck (nI s) 4 r = r := fun r => ck_n hs (by decide)
    have cl : (nI s).toNatClampNeg = s := nI_clamp (by omega)
    by_cases y1 : y = -1
    · subst y1
      obtain ⟨σ1, b1, b2⟩ := newsheet h hs (L := 0) (by decide) (so := -1) (by unfold inr; decide)
      obtain ⟨w, σ2, b3, b4⟩ := b2 (-1) z
      refine ⟨1, σ1, σ2, ?_, ?_, b4⟩
      · unfold f_X7_sheet
        rw [isSheet_c1 hs, bd1_s, if_neg (by decide), if_pos rfl, if_pos rfl, if_pos rfl, ck4, bnd_s, if_pos rfl, cl, n_0, b1, bd1_s]
      · unfold f_X8_sheet
        rw [isSheet_m1 hs, bd1_s, if_neg (by decide), isIn_1 (by decide) (by decide), bd1_s, if_neg (by decide), if_pos rfl, if_pos rfl, ck4, cl, bnd_s, if_pos rfl, bnd_s, ck4, bnd_s]
        refine (congrArg (fun o => bd2 o (fun v25 σ26 => some ((1 : Int32), σ26))) b3).trans rfl
    · by_cases yb : 0 ≤ y ∧ y ≤ 2
      · have hso : f_X7_isSort y σ = some 1 := by
          unfold f_X7_isSort
          rw [if_neg (Int32.not_lt.mpr yb.1), if_neg (Int32.not_lt.mpr yb.2), bnd_s, cz_1]
        have yl : -1 ≤ y := by
          have := yb.1
          rw [Int32.le_iff_toInt_le] at this ⊢; omega
        have hin : ∀ τ, f_X8_isIn y (-1) 2 τ = some 1 := fun τ => isIn_1 yl yb.2
        by_cases z40 : z ≤ 40
        · by_cases z0 : 0 ≤ z
          · have hz : ∃ L, L ≤ 40 ∧ z = nI L := by
              rw [Int32.le_iff_toInt_le] at z40 z0
              exact ⟨z.toInt.toNat, by omega, Int32.toInt_inj.mp (by rw [nI_toInt (by omega)]; omega)⟩
            obtain ⟨L, hL, rfl⟩ := hz
            have hyr : inr y (-1) 2 := by
              have q1 := yb.1
              have q2 := yb.2
              rw [Int32.le_iff_toInt_le] at q1 q2
              unfold inr; omega
            obtain ⟨σ1, b1, b2⟩ := newsheet h hs hL hyr
            obtain ⟨w, σ2, b3, b4⟩ := b2 y (nI L)
            refine ⟨1, σ1, σ2, ?_, ?_, b4⟩
            · unfold f_X7_sheet
              rw [isSheet_c1 hs, bd1_s, if_neg (by decide), if_neg y1, hso, bd1_s, if_neg (by decide), if_neg y1, if_pos z40, if_neg y1, if_pos z0, ck4, bnd_s, if_neg y1, cl, b1, bd1_s]
            · unfold f_X8_sheet
              rw [isSheet_m1 hs, bd1_s, if_neg (by decide), hin, bd1_s, if_neg (by decide), if_neg y1, if_pos z40, if_neg y1, if_pos z0, ck4, cl, bnd_s, if_neg y1, bnd_s, ck4, bnd_s, sheetq4, b3, bd2_s]
          · refine ⟨-14, σ, σ, ?_, ?_, a, m, d, ru, T, n, h⟩
            · unfold f_X7_sheet
              rw [isSheet_c1 hs, bd1_s, if_neg (by decide), if_neg y1, hso, bd1_s, if_neg (by decide), if_neg y1, if_pos z40, if_neg y1, if_neg z0]
            · unfold f_X8_sheet
              rw [isSheet_m1 hs, bd1_s, if_neg (by decide), hin, bd1_s, if_neg (by decide), if_neg y1, if_pos z40, if_neg y1, if_neg z0]
        · refine ⟨-2, σ, σ, ?_, ?_, a, m, d, ru, T, n, h⟩
          · unfold f_X7_sheet
            rw [isSheet_c1 hs, bd1_s, if_neg (by decide), if_neg y1, hso, bd1_s, if_neg (by decide), if_neg y1, if_neg z40]
          · unfold f_X8_sheet
            rw [isSheet_m1 hs, bd1_s, if_neg (by decide), hin, bd1_s, if_neg (by decide), if_neg y1, if_neg z40]
      · have hso : f_X7_isSort y σ = some 0 := by
          unfold f_X7_isSort
          by_cases y0 : y < 0
          · rw [if_pos y0]
          · rw [if_neg y0, if_pos (Int32.not_le.mp (fun q => yb ⟨Int32.not_lt.mp y0, q⟩)), bnd_s, cz_0]
        have hout : f_X8_isIn y (-1) 2 σ = some 0 := by
          refine isIn_0 ?_
          have n1 : ¬ y.toInt = -1 := fun q => y1 (Int32.toInt_inj.mp (by omega))
          rw [Int32.le_iff_toInt_le, Int32.le_iff_toInt_le] at yb
          rw [Int32.lt_iff_toInt_lt, Int32.lt_iff_toInt_lt]; omega
        refine ⟨-2, σ, σ, ?_, ?_, a, m, d, ru, T, n, h⟩
        · unfold f_X7_sheet
          rw [isSheet_c1 hs, bd1_s, if_neg (by decide), if_neg y1, hso, bd1_s, if_pos rfl]
        · unfold f_X8_sheet
          rw [isSheet_m1 hs, bd1_s, if_neg (by decide), hout, bd1_s, if_pos rfl]
  · refine ⟨-2, σ, σ, ?_, ?_, a, m, d, ru, T, n, h⟩
    · unfold f_X7_sheet
      rw [isSheet_c0 hx, bd1_s, if_pos rfl]
    · unfold f_X8_sheet
      rw [isSheet_m0 hx, bd1_s, if_pos rfl]
