/-! One call of the law: both answer the same. -/
theorem law_step {xs : Nat → Int32} {n k : Nat} {σ : sg_T} (hn : n ≤ 3072) (hk : 6 * k + 6 ≤ n) (h : WRL σ) : ∃ τ, b_L_law xs n (nI (6 * k)) σ = some (.inl (nI (6 * (k + 1)), τ)) ∧ WRL τ := by
  have hst : ¬ (Int32.ofNat n) - 6 < nI (6 * k) := by
    show ¬ nI n - 6 < nI (6 * k)
    rw [Int32.lt_iff_toInt_lt, n_6, pk_sub_toInt (by omega) (by decide), nI_toInt (by omega)]; omega
  have nx : nI (6 * k) + 6 = nI (6 * (k + 1)) := by rw [n_6, nI_add]; rfl
  have c0 : ∀ {β : Type} (r : Option β), ck (nI (6 * k)) n r = r := fun r => ck_n (by omega) (by omega)
  have c1 : ∀ {β : Type} (r : Option β), ck (nI (6 * k) + 1) n r = r := fun r => by rw [show (1 : Int32) = nI 1 from rfl, nI_add]; exact ck_n (by omega) (by omega)
  have c2 : ∀ {β : Type} (r : Option β), ck (nI (6 * k) + 2) n r = r := fun r => by rw [show (2 : Int32) = nI 2 from rfl, nI_add]; exact ck_n (by omega) (by omega)
  have c3 : ∀ {β : Type} (r : Option β), ck (nI (6 * k) + 3) n r = r := fun r => by rw [show (3 : Int32) = nI 3 from rfl, nI_add]; exact ck_n (by omega) (by omega)
  have c4 : ∀ {β : Type} (r : Option β), ck (nI (6 * k) + 4) n r = r := fun r => by rw [show (4 : Int32) = nI 4 from rfl, nI_add]; exact ck_n (by omega) (by omega)
  have c5 : ∀ {β : Type} (r : Option β), ck (nI (6 * k) + 5) n r = r := fun r => by rw [show (5 : Int32) = nI 5 from rfl, nI_add]; exact ck_n (by omega) (by omega)
  unfold b_L_law
  rw [if_neg hst, c0, bnd_s]
  by_cases v0 : xs (nI (6 * k)).toNatClampNeg &&& 31 = 0
  · obtain ⟨r, σ1, σ2, e1, e2, hW⟩ := sm_set (xs (nI (6 * k) + 1).toNatClampNeg) (xs (nI (6 * k) + 2).toNatClampNeg) (xs (nI (6 * k) + 3).toNatClampNeg) σ h
    rw [if_pos v0, c1, c2, c3, e1, bd2_s, c1, c2, c3, e2, bd2_s, if_pos rfl, bnd_s, nx]
    exact ⟨σ2, rfl, hW⟩
  by_cases v1 : xs (nI (6 * k)).toNatClampNeg &&& 31 = 1
  · obtain ⟨r, σ1, σ2, e1, e2, hW⟩ := sm_person (xs (nI (6 * k) + 1).toNatClampNeg) (xs (nI (6 * k) + 2).toNatClampNeg) (xs (nI (6 * k) + 3).toNatClampNeg) σ h
    rw [if_neg v0, if_pos v1, c1, c2, c3, e1, bd2_s, c1, c2, c3, e2, bd2_s, if_pos rfl, bnd_s, nx]
    exact ⟨σ2, rfl, hW⟩
  by_cases v2 : xs (nI (6 * k)).toNatClampNeg &&& 31 = 2
  · obtain ⟨r, σ1, σ2, e1, e2, hW⟩ := sm_told (xs (nI (6 * k) + 1).toNatClampNeg) (xs (nI (6 * k) + 2).toNatClampNeg) σ h
    rw [if_neg v0, if_neg v1, if_pos v2, c1, c2, e1, bd2_s, c1, c2, e2, bd2_s, if_pos rfl, bnd_s, nx]
    exact ⟨σ2, rfl, hW⟩
  by_cases v3 : xs (nI (6 * k)).toNatClampNeg &&& 31 = 3
  · obtain ⟨r, σ1, σ2, e1, e2, hW⟩ := sm_asks (xs (nI (6 * k) + 1).toNatClampNeg) (xs (nI (6 * k) + 2).toNatClampNeg) (xs (nI (6 * k) + 3).toNatClampNeg) σ h
    rw [if_neg v0, if_neg v1, if_neg v2, if_pos v3, c1, c2, c3, e1, bd2_s, c1, c2, c3, e2, bd2_s, if_pos rfl, bnd_s, nx]
    exact ⟨σ2, rfl, hW⟩
  by_cases v4 : xs (nI (6 * k)).toNatClampNeg &&& 31 = 4
  · obtain ⟨r, σ1, σ2, e1, e2, hW⟩ := sm_woken (xs (nI (6 * k) + 1).toNatClampNeg) (xs (nI (6 * k) + 2).toNatClampNeg) σ h
    rw [if_neg v0, if_neg v1, if_neg v2, if_neg v3, if_pos v4, c1, c2, e1, bd2_s, c1, c2, e2, bd2_s, if_pos rfl, bnd_s, nx]
    exact ⟨σ2, rfl, hW⟩
  by_cases v5 : xs (nI (6 * k)).toNatClampNeg &&& 31 = 5
  · obtain ⟨r, σ1, σ2, e1, e2, hW⟩ := sm_feed (xs (nI (6 * k) + 1).toNatClampNeg) σ h
    rw [if_neg v0, if_neg v1, if_neg v2, if_neg v3, if_neg v4, if_pos v5, c1, e1, bd2_s, c1, e2, bd2_s, if_pos rfl, bnd_s, nx]
    exact ⟨σ2, rfl, hW⟩
  by_cases v6 : xs (nI (6 * k)).toNatClampNeg &&& 31 = 6
  · obtain ⟨r, σ1, σ2, e1, e2, hW⟩ := sm_text σ h
    rw [if_neg v0, if_neg v1, if_neg v2, if_neg v3, if_neg v4, if_neg v5, if_pos v6, e1, bd2_s, e2, bd2_s, if_pos rfl, bnd_s, nx]
    exact ⟨σ2, rfl, hW⟩
  by_cases v7 : xs (nI (6 * k)).toNatClampNeg &&& 31 = 7
  · obtain ⟨r, σ1, σ2, e1, e2, hW⟩ := sm_force (xs (nI (6 * k) + 1).toNatClampNeg) σ h
    rw [if_neg v0, if_neg v1, if_neg v2, if_neg v3, if_neg v4, if_neg v5, if_neg v6, if_pos v7, c1, e1, bd2_s, c1, e2, bd2_s, if_pos rfl, bnd_s, nx]
    exact ⟨σ2, rfl, hW⟩
  by_cases v8 : xs (nI (6 * k)).toNatClampNeg &&& 31 = 8
  · obtain ⟨r, σ1, σ2, e1, e2, hW⟩ := sm_day σ h
    rw [if_neg v0, if_neg v1, if_neg v2, if_neg v3, if_neg v4, if_neg v5, if_neg v6, if_neg v7, if_pos v8, e1, bd2_s, e2, bd2_s, if_pos rfl, bnd_s, nx]
    exact ⟨σ2, rfl, hW⟩
  by_cases v9 : xs (nI (6 * k)).toNatClampNeg &&& 31 = 9
  · obtain ⟨r, σ1, σ2, e1, e2, hW⟩ := sm_run (xs (nI (6 * k) + 1).toNatClampNeg) (xs (nI (6 * k) + 2).toNatClampNeg) (xs (nI (6 * k) + 3).toNatClampNeg) σ h
    rw [if_neg v0, if_neg v1, if_neg v2, if_neg v3, if_neg v4, if_neg v5, if_neg v6, if_neg v7, if_neg v8, if_pos v9, c1, c2, c3, e1, bd2_s, c1, c2, c3, e2, bd2_s, if_pos rfl, bnd_s, nx]
    exact ⟨σ2, rfl, hW⟩
  by_cases v10 : xs (nI (6 * k)).toNatClampNeg &&& 31 = 10
  · obtain ⟨r, e1, e2⟩ := sm_round (xs (nI (6 * k) + 1).toNatClampNeg) σ h
    rw [if_neg v0, if_neg v1, if_neg v2, if_neg v3, if_neg v4, if_neg v5, if_neg v6, if_neg v7, if_neg v8, if_neg v9, if_pos v10, c1, e1, bd1_s, c1, e2, bd1_s, if_pos rfl, bnd_s, nx]
    exact ⟨σ, rfl, h⟩
  by_cases v11 : xs (nI (6 * k)).toNatClampNeg &&& 31 = 11
  · obtain ⟨r, σ1, σ2, e1, e2, hW⟩ := sm_others (xs (nI (6 * k) + 1).toNatClampNeg) σ h
    rw [if_neg v0, if_neg v1, if_neg v2, if_neg v3, if_neg v4, if_neg v5, if_neg v6, if_neg v7, if_neg v8, if_neg v9, if_neg v10, if_pos v11, c1, e1, bd2_s, c1, e2, bd2_s, if_pos rfl, bnd_s, nx]
    exact ⟨σ2, rfl, hW⟩
  by_cases v12 : xs (nI (6 * k)).toNatClampNeg &&& 31 = 12
  · obtain ⟨r, σ1, σ2, e1, e2, hW⟩ := sm_duty (xs (nI (6 * k) + 1).toNatClampNeg) (xs (nI (6 * k) + 2).toNatClampNeg) (xs (nI (6 * k) + 3).toNatClampNeg) σ h
    rw [if_neg v0, if_neg v1, if_neg v2, if_neg v3, if_neg v4, if_neg v5, if_neg v6, if_neg v7, if_neg v8, if_neg v9, if_neg v10, if_neg v11, if_pos v12, c1, c2, c3, e1, bd2_s, c1, c2, c3, e2, bd2_s, if_pos rfl, bnd_s, nx]
    exact ⟨σ2, rfl, hW⟩
  by_cases v13 : xs (nI (6 * k)).toNatClampNeg &&& 31 = 13
  · obtain ⟨r, σ1, σ2, e1, e2, hW⟩ := sm_fonder (xs (nI (6 * k) + 1).toNatClampNeg) (xs (nI (6 * k) + 2).toNatClampNeg) (xs (nI (6 * k) + 3).toNatClampNeg) σ h
    rw [if_neg v0, if_neg v1, if_neg v2, if_neg v3, if_neg v4, if_neg v5, if_neg v6, if_neg v7, if_neg v8, if_neg v9, if_neg v10, if_neg v11, if_neg v12, if_pos v13, c1, c2, c3, e1, bd2_s, c1, c2, c3, e2, bd2_s, if_pos rfl, bnd_s, nx]
    exact ⟨σ2, rfl, hW⟩
  by_cases v14 : xs (nI (6 * k)).toNatClampNeg &&& 31 = 14
  · obtain ⟨r, e1, e2⟩ := sm_mean (xs (nI (6 * k) + 1).toNatClampNeg) σ h
    rw [if_neg v0, if_neg v1, if_neg v2, if_neg v3, if_neg v4, if_neg v5, if_neg v6, if_neg v7, if_neg v8, if_neg v9, if_neg v10, if_neg v11, if_neg v12, if_neg v13, if_pos v14, c1, e1, bd1_s, c1, e2, bd1_s, if_pos (cmp_0 _), bnd_s, nx]
    exact ⟨σ, rfl, h⟩
  by_cases v15 : xs (nI (6 * k)).toNatClampNeg &&& 31 = 15
  · obtain ⟨r, σ1, σ2, e1, e2, hW⟩ := sm_tells (xs (nI (6 * k) + 1).toNatClampNeg) (xs (nI (6 * k) + 2).toNatClampNeg) (xs (nI (6 * k) + 3).toNatClampNeg) (xs (nI (6 * k) + 4).toNatClampNeg) σ h
    rw [if_neg v0, if_neg v1, if_neg v2, if_neg v3, if_neg v4, if_neg v5, if_neg v6, if_neg v7, if_neg v8, if_neg v9, if_neg v10, if_neg v11, if_neg v12, if_neg v13, if_neg v14, if_pos v15, c1, c2, c3, c4, e1, bd2_s, c1, c2, c3, c4, e2, bd2_s, if_pos rfl, bnd_s, nx]
    exact ⟨σ2, rfl, hW⟩
  by_cases v16 : xs (nI (6 * k)).toNatClampNeg &&& 31 = 16
  · obtain ⟨r, σ1, σ2, e1, e2, hW⟩ := sm_film (xs (nI (6 * k) + 1).toNatClampNeg) (xs (nI (6 * k) + 2).toNatClampNeg) (xs (nI (6 * k) + 3).toNatClampNeg) σ h
    rw [if_neg v0, if_neg v1, if_neg v2, if_neg v3, if_neg v4, if_neg v5, if_neg v6, if_neg v7, if_neg v8, if_neg v9, if_neg v10, if_neg v11, if_neg v12, if_neg v13, if_neg v14, if_neg v15, if_pos v16, c1, c2, c3, e1, bd2_s, c1, c2, c3, e2, bd2_s, if_pos rfl, bnd_s, nx]
    exact ⟨σ2, rfl, hW⟩
  by_cases v17 : xs (nI (6 * k)).toNatClampNeg &&& 31 = 17
  · obtain ⟨r, σ1, σ2, e1, e2, hW⟩ := sm_drawn (xs (nI (6 * k) + 1).toNatClampNeg) (xs (nI (6 * k) + 2).toNatClampNeg) σ h
    rw [if_neg v0, if_neg v1, if_neg v2, if_neg v3, if_neg v4, if_neg v5, if_neg v6, if_neg v7, if_neg v8, if_neg v9, if_neg v10, if_neg v11, if_neg v12, if_neg v13, if_neg v14, if_neg v15, if_neg v16, if_pos v17, c1, c2, e1, bd2_s, c1, c2, e2, bd2_s, if_pos rfl, bnd_s, nx]
    exact ⟨σ2, rfl, hW⟩
  by_cases v18 : xs (nI (6 * k)).toNatClampNeg &&& 31 = 18
  · obtain ⟨r, σ1, σ2, e1, e2, hW⟩ := sm_chance (xs (nI (6 * k) + 1).toNatClampNeg) (xs (nI (6 * k) + 2).toNatClampNeg) (xs (nI (6 * k) + 3).toNatClampNeg) (xs (nI (6 * k) + 4).toNatClampNeg) σ h
    rw [if_neg v0, if_neg v1, if_neg v2, if_neg v3, if_neg v4, if_neg v5, if_neg v6, if_neg v7, if_neg v8, if_neg v9, if_neg v10, if_neg v11, if_neg v12, if_neg v13, if_neg v14, if_neg v15, if_neg v16, if_neg v17, if_pos v18, c1, c2, c3, c4, e1, bd2_s, c1, c2, c3, c4, e2, bd2_s, if_pos (cmp_0 _), bnd_s, nx]
    exact ⟨σ2, rfl, hW⟩
  by_cases v19 : xs (nI (6 * k)).toNatClampNeg &&& 31 = 19
  · obtain ⟨r, σ1, σ2, e1, e2, hW⟩ := sm_image σ h
    rw [if_neg v0, if_neg v1, if_neg v2, if_neg v3, if_neg v4, if_neg v5, if_neg v6, if_neg v7, if_neg v8, if_neg v9, if_neg v10, if_neg v11, if_neg v12, if_neg v13, if_neg v14, if_neg v15, if_neg v16, if_neg v17, if_neg v18, if_pos v19, e1, bd2_s, e2, bd2_s, if_pos rfl, bnd_s, nx]
    exact ⟨σ2, rfl, hW⟩
  by_cases v20 : xs (nI (6 * k)).toNatClampNeg &&& 31 = 20
  · obtain ⟨r, σ1, σ2, e1, e2, hW⟩ := sm_back σ h
    rw [if_neg v0, if_neg v1, if_neg v2, if_neg v3, if_neg v4, if_neg v5, if_neg v6, if_neg v7, if_neg v8, if_neg v9, if_neg v10, if_neg v11, if_neg v12, if_neg v13, if_neg v14, if_neg v15, if_neg v16, if_neg v17, if_neg v18, if_neg v19, if_pos v20, e1, bd2_s, e2, bd2_s, if_pos rfl, bnd_s, nx]
    exact ⟨σ2, rfl, hW⟩
  by_cases v21 : xs (nI (6 * k)).toNatClampNeg &&& 31 = 21
  · obtain ⟨r, e1, e2⟩ := sm_count (xs (nI (6 * k) + 1).toNatClampNeg) σ h
    rw [if_neg v0, if_neg v1, if_neg v2, if_neg v3, if_neg v4, if_neg v5, if_neg v6, if_neg v7, if_neg v8, if_neg v9, if_neg v10, if_neg v11, if_neg v12, if_neg v13, if_neg v14, if_neg v15, if_neg v16, if_neg v17, if_neg v18, if_neg v19, if_neg v20, if_pos v21, c1, e1, bd1_s, c1, e2, bd1_s, if_pos rfl, bnd_s, nx]
    exact ⟨σ, rfl, h⟩
  by_cases v22 : xs (nI (6 * k)).toNatClampNeg &&& 31 = 22
  · obtain ⟨r, σ1, σ2, e1, e2, hW⟩ := sm_sheet (xs (nI (6 * k) + 1).toNatClampNeg) (xs (nI (6 * k) + 2).toNatClampNeg) (xs (nI (6 * k) + 3).toNatClampNeg) σ h
    rw [if_neg v0, if_neg v1, if_neg v2, if_neg v3, if_neg v4, if_neg v5, if_neg v6, if_neg v7, if_neg v8, if_neg v9, if_neg v10, if_neg v11, if_neg v12, if_neg v13, if_neg v14, if_neg v15, if_neg v16, if_neg v17, if_neg v18, if_neg v19, if_neg v20, if_neg v21, if_pos v22, c1, c2, c3, e1, bd2_s, c1, c2, c3, e2, bd2_s, if_pos rfl, bnd_s, nx]
    exact ⟨σ2, rfl, hW⟩
  by_cases v23 : xs (nI (6 * k)).toNatClampNeg &&& 31 = 23
  · obtain ⟨r, σ1, σ2, e1, e2, hW⟩ := sm_cell (xs (nI (6 * k) + 1).toNatClampNeg) (xs (nI (6 * k) + 2).toNatClampNeg) (xs (nI (6 * k) + 3).toNatClampNeg) σ h
    rw [if_neg v0, if_neg v1, if_neg v2, if_neg v3, if_neg v4, if_neg v5, if_neg v6, if_neg v7, if_neg v8, if_neg v9, if_neg v10, if_neg v11, if_neg v12, if_neg v13, if_neg v14, if_neg v15, if_neg v16, if_neg v17, if_neg v18, if_neg v19, if_neg v20, if_neg v21, if_neg v22, if_pos v23, c1, c2, c3, e1, bd2_s, c1, c2, c3, e2, bd2_s, if_pos rfl, bnd_s, nx]
    exact ⟨σ2, rfl, hW⟩
  by_cases v24 : xs (nI (6 * k)).toNatClampNeg &&& 31 = 24
  · obtain ⟨r, σ1, σ2, e1, e2, hW⟩ := sm_copy (xs (nI (6 * k) + 1).toNatClampNeg) (xs (nI (6 * k) + 2).toNatClampNeg) (xs (nI (6 * k) + 3).toNatClampNeg) (xs (nI (6 * k) + 4).toNatClampNeg) (xs (nI (6 * k) + 5).toNatClampNeg) σ h
    rw [if_neg v0, if_neg v1, if_neg v2, if_neg v3, if_neg v4, if_neg v5, if_neg v6, if_neg v7, if_neg v8, if_neg v9, if_neg v10, if_neg v11, if_neg v12, if_neg v13, if_neg v14, if_neg v15, if_neg v16, if_neg v17, if_neg v18, if_neg v19, if_neg v20, if_neg v21, if_neg v22, if_neg v23, if_pos v24, c1, c2, c3, c4, c5, e1, bd2_s, c1, c2, c3, c4, c5, e2, bd2_s, if_pos rfl, bnd_s, nx]
    exact ⟨σ2, rfl, hW⟩
  by_cases v25 : xs (nI (6 * k)).toNatClampNeg &&& 31 = 25
  · obtain ⟨r, σ1, σ2, e1, e2, hW⟩ := sm_court (xs (nI (6 * k) + 1).toNatClampNeg) (xs (nI (6 * k) + 2).toNatClampNeg) (xs (nI (6 * k) + 3).toNatClampNeg) (xs (nI (6 * k) + 4).toNatClampNeg) σ h
    rw [if_neg v0, if_neg v1, if_neg v2, if_neg v3, if_neg v4, if_neg v5, if_neg v6, if_neg v7, if_neg v8, if_neg v9, if_neg v10, if_neg v11, if_neg v12, if_neg v13, if_neg v14, if_neg v15, if_neg v16, if_neg v17, if_neg v18, if_neg v19, if_neg v20, if_neg v21, if_neg v22, if_neg v23, if_neg v24, if_pos v25, c1, c2, c3, c4, e1, bd2_s, c1, c2, c3, c4, e2, bd2_s, if_pos rfl, bnd_s, nx]
    exact ⟨σ2, rfl, hW⟩
  by_cases v26 : xs (nI (6 * k)).toNatClampNeg &&& 31 = 26
  · obtain ⟨r, e1, e2⟩ := sm_taken (xs (nI (6 * k) + 1).toNatClampNeg) (xs (nI (6 * k) + 2).toNatClampNeg) σ h
    rw [if_neg v0, if_neg v1, if_neg v2, if_neg v3, if_neg v4, if_neg v5, if_neg v6, if_neg v7, if_neg v8, if_neg v9, if_neg v10, if_neg v11, if_neg v12, if_neg v13, if_neg v14, if_neg v15, if_neg v16, if_neg v17, if_neg v18, if_neg v19, if_neg v20, if_neg v21, if_neg v22, if_neg v23, if_neg v24, if_neg v25, if_pos v26, c1, c2, e1, bd1_s, c1, c2, e2, bd1_s, if_pos rfl, bnd_s, nx]
    exact ⟨σ, rfl, h⟩
  rw [if_neg v0, if_neg v1, if_neg v2, if_neg v3, if_neg v4, if_neg v5, if_neg v6, if_neg v7, if_neg v8, if_neg v9, if_neg v10, if_neg v11, if_neg v12, if_neg v13, if_neg v14, if_neg v15, if_neg v16, if_neg v17, if_neg v18, if_neg v19, if_neg v20, if_neg v21, if_neg v22, if_neg v23, if_neg v24, if_neg v25, if_neg v26, bnd_s, nx]
  exact ⟨σ, rfl, h⟩
theorem law_loop (xs : Nat → Int32) {n : Nat} (hn : n ≤ 3072) {σ : sg_T} (h : WRL σ) : itr (fun q => b_L_law xs n q.1 q.2) lfu (0, σ) = some 1 := by
  have hrun : ∃ r, itr (fun q => b_L_law xs n q.1 q.2) lfu (0, σ) = some r ∧ r = 1 := by
    refine itr_run (f := fun q => b_L_law xs n q.1 q.2) (I := fun k q => q.1 = nI (6 * k) ∧ WRL q.2) (R := fun r => r = 1) (n / 6) (a := (0, σ)) ⟨rfl, h⟩ ?_ ?_ (by omega)
    · intro k hk ⟨w, τ⟩ ⟨hw, hW⟩
      dsimp only at hw hW ⊢
      subst hw
      obtain ⟨τ2, e1, h2⟩ := law_step (xs := xs) hn (show 6 * k + 6 ≤ n by omega) hW
      exact ⟨_, e1, rfl, h2⟩
    · intro ⟨w, τ⟩ ⟨hw, hW⟩
      dsimp only at hw hW ⊢
      subst hw
      have hst : (Int32.ofNat n) - 6 < nI (6 * (n / 6)) := by
        show nI n - 6 < nI (6 * (n / 6))
        rw [Int32.lt_iff_toInt_lt, n_6, pk_sub_toInt (by omega) (by decide), nI_toInt (by omega)]; omega
      unfold b_L_law
      rw [if_pos hst]
      exact ⟨1, rfl, rfl⟩
  obtain ⟨r, e1, rfl⟩ := hrun
  exact e1
