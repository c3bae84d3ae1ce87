/-! A whole DAY, by the model. -/
def gdI (T : tx_T) (ru : Nat) (a : pa_T) (m : Nat) (d : Int32) (σ : sg_T) (k : Nat) (τ : sg_T) : Prop := (∀ i, i < k → τ 80 i = setr a m i ∧ τ 81 i = sLa T ru a m d i ∧ (¬ setr a m i = -1 → τ 82 i = sMo T ru a m d i ∧ τ 83 i = sFo T ru a m d i)) ∧ ∀ q, ¬ (79 ≤ q ∧ q ≤ 83) → τ q = σ q
section GoDayM
variable {σ : sg_T} {a : pa_T} {m : Nat} {d : Int32} {ru : Nat} {T : tx_T} {n : Nat}
theorem morn_m (h : PM σ 70 a m d (nI ru)) (hok : OkP a m) (hT : TM σ T n) (hO : TOk T n) (hru : ru < n) : ∃ r, itr (fun q => b_X8_goDay_4 q.1 q.2) lfu (0, σ) = some r ∧ gdI T ru a m d σ m r.2 := by
  have hm := h.1
  refine itr_run (f := fun q => b_X8_goDay_4 q.1 q.2) (I := fun k q => q.1 = nI k ∧ gdI T ru a m d σ k q.2) (R := fun r => gdI T ru a m d σ m r.2) m (a := (0, σ)) ⟨rfl, fun i hi => absurd hi (Nat.not_lt_zero _), fun _ _ => rfl⟩ ?_ ?_ (by omega)
  · intro k hk ⟨w, τ⟩ ⟨hw, hI, hF⟩
    dsimp only at hw hI hF ⊢
    subst hw
    have hP : PM τ 70 a m d (nI ru) := h.eq (hF 70 (by omega))
    have hT1 : TM τ T n := TM_scr hT (fun q hq => hF q (by omega))
    have ck5 : ∀ {β : Type} (r : Option β), ck (nI k) 5 r = r := fun r => ck_n (by omega) (by decide)
    have cl : (nI k).toNatClampNeg = k := nI_clamp (by omega)
    have hP1 : PM (up τ 80 k (setr a m k)) 70 a m d (nI ru) := hP.eq (up_n (by decide))
    have hT2 : TM (up τ 80 k (setr a m k)) T n := TM_scr hT1 (fun q hq => up_n (by omega))
    obtain ⟨σ1, e1, f1⟩ := lateBy_m hP1 hT2 hO hru hk
    have e80 : up σ1 81 k (sLa T ru a m d k) 80 k = setr a m k := by rw [up_ne (by decide), f1 80 (by decide), up_eq]
    have hP2 : PM (up σ1 81 k (sLa T ru a m d k)) 70 a m d (nI ru) := hP1.eq (by rw [up_n (by decide), f1 70 (by decide)])
    have hT3 : TM (up σ1 81 k (sLa T ru a m d k)) T n := TM_scr hT2 (fun q hq => by rw [up_n (by omega), f1 q (by omega)])
    unfold b_X8_goDay_4
    rw [many_m hP, bd1_s, if_neg (nle_of_lt hk (by omega)), setter_m hP hk, bd1_s, ck5, cl, bnd_s, e1, bd2_s, ck5, bnd_s, ck5, e80]
    by_cases hs : setr a m k = -1
    · have e80' : up (up σ1 81 k (sLa T ru a m d k)) 82 k 0 80 k = setr a m k := by rw [up_ne (by decide)]; exact e80
      rw [if_pos hs, ck5, bnd_s, ck5, e80', if_pos hs, ck5, bnd_s, bnd_s, nI_1]
      refine ⟨_, rfl, rfl, fun i hi => ?_, fun q hq => ?_⟩
      · dsimp only
        by_cases hik : i = k
        · subst hik
          refine ⟨?_, ?_, fun hc => absurd hs hc⟩
          · rw [up_ne (by decide), up_ne (by decide)]; exact e80
          · rw [up_ne (by decide), up_ne (by decide), up_eq]
        · obtain ⟨g1, g2, g4⟩ := hI i (by omega)
          simp only [up_nk hik]
          rw [f1 80 (by decide), f1 81 (by decide), f1 82 (by decide), f1 83 (by decide), up_nk hik, up_n (by decide), up_n (by decide), up_n (by decide)]
          exact ⟨g1, g2, g4⟩
      · dsimp only
        rw [up_n (by omega), up_n (by omega), up_n (by omega), f1 q (by omega), up_n (by omega)]; exact hF q hq
    · obtain ⟨s, hsm, hsk, hse⟩ := (setr_cases a m k).resolve_left hs
      have hsn : (setr a m k).toNatClampNeg = s := by rw [hse]; exact nI_clamp (by omega)
      have hmo : sMo T ru a m d k = sTi T ru a d k (sWa T ru a m d k) := by unfold sMo; rw [if_neg hs]
      have hfo : sFo T ru a m d k = sGr T ru a d s k (if sLa T ru a m d k ≤ 0 then 0 else 1) := by unfold sFo; rw [if_neg hs, hsn]
      obtain ⟨σ2, e2, f2⟩ := wakes_m hP2 hT3 hO hru hk
      have hP3 : PM σ2 70 a m d (nI ru) := hP2.eq (f2 70 (by decide))
      have hT4 : TM σ2 T n := TM_scr hT3 (fun q hq => f2 q (by omega))
      obtain ⟨σ3, e3, f3⟩ := tire_m hP3 hok hT4 hO hru hk (sWa T ru a m d k)
      rw [← hmo] at e3
      have hP4 : PM (up σ3 82 k (sMo T ru a m d k)) 70 a m d (nI ru) := hP3.eq (by rw [up_n (by decide), f3 70 (by decide)])
      have hT5 : TM (up σ3 82 k (sMo T ru a m d k)) T n := TM_scr hT4 (fun q hq => by rw [up_n (by omega), f3 q (by omega)])
      have s82 : ∀ q, q ≠ 79 → q ≠ 82 → up σ3 82 k (sMo T ru a m d k) q = up σ1 81 k (sLa T ru a m d k) q := fun q h1 h2 => by rw [up_n h2, f3 q h1, f2 q h1]
      have e80' : up σ3 82 k (sMo T ru a m d k) 80 k = setr a m k := by rw [s82 80 (by decide) (by decide)]; exact e80
      have e81' : up σ3 82 k (sMo T ru a m d k) 81 k = sLa T ru a m d k := by rw [s82 81 (by decide) (by decide), up_eq]
      obtain ⟨σ4, e4, f4⟩ := grow_m hP4 hT5 hO hru hsm hk (if sLa T ru a m d k ≤ 0 then 0 else 1)
      rw [← hfo, ← hse] at e4
      rw [if_neg hs, e2, bd2_s, e3, bd2_s, ck5, bnd_s, ck5, e80', if_neg hs, ck5, ck5, e81', bnd_s, e4, bd2_s, ck5, bnd_s, bnd_s, nI_1]
      refine ⟨_, rfl, rfl, fun i hi => ?_, fun q hq => ?_⟩
      · dsimp only
        by_cases hik : i = k
        · subst hik
          refine ⟨?_, ?_, fun hc => ⟨?_, ?_⟩⟩
          · rw [up_ne (by decide), f4 80 (by decide)]; exact e80'
          · rw [up_ne (by decide), f4 81 (by decide)]; exact e81'
          · rw [up_ne (by decide), f4 82 (by decide), up_eq]
          · rw [up_eq]
        · obtain ⟨g1, g2, g4⟩ := hI i (by omega)
          have t1 : ∀ q, 80 ≤ q → up σ4 83 k (sFo T ru a m d k) q i = τ q i := fun q hq => by
            rw [up_nk hik, f4 q (by omega), up_nk hik, f3 q (by omega), f2 q (by omega), up_nk hik, f1 q (by omega), up_nk hik]
          rw [t1 80 (by decide), t1 81 (by decide), t1 82 (by decide), t1 83 (by decide)]
          exact ⟨g1, g2, g4⟩
      · dsimp only
        rw [up_n (by omega), f4 q (by omega), s82 q (by omega) (by omega), up_n (by omega), f1 q (by omega), up_n (by omega)]; exact hF q hq
  · intro ⟨w, τ⟩ ⟨hw, hI, hF⟩
    dsimp only at hw hI hF ⊢
    subst hw
    have hP : PM τ 70 a m d (nI ru) := h.eq (hF 70 (by omega))
    unfold b_X8_goDay_4
    rw [many_m hP, bd1_s, if_pos (Int32.le_refl _)]
    exact ⟨_, rfl, hI, hF⟩
theorem eve_m (h : PM σ 70 a m d (nI ru)) {σ0 : sg_T} (hD : gdI T ru a m d σ0 m σ) : ∃ τ, itr (fun q => b_X8_goDay_117 q.1 q.2.1 q.2.2) lfu (0, 0, σ) = some (wl (sLa T ru a m d) m, nI m, τ) ∧ PM τ 70 (dA T ru a m d m) m d (nI ru) ∧ ∀ q, q ≠ 70 → τ q = σ q := by
  have hm := h.1
  have hrun : ∃ r, itr (fun q => b_X8_goDay_117 q.1 q.2.1 q.2.2) lfu (0, 0, σ) = some r ∧ r.1 = wl (sLa T ru a m d) m ∧ r.2.1 = nI m ∧ PM r.2.2 70 (dA T ru a m d m) m d (nI ru) ∧ ∀ q, q ≠ 70 → r.2.2 q = σ q := by
    refine itr_run (f := fun q => b_X8_goDay_117 q.1 q.2.1 q.2.2) (I := fun k q => q.1 = wl (sLa T ru a m d) k ∧ q.2.1 = nI k ∧ PM q.2.2 70 (dA T ru a m d k) m d (nI ru) ∧ ∀ p, p ≠ 70 → q.2.2 p = σ p) (R := fun r => r.1 = wl (sLa T ru a m d) m ∧ r.2.1 = nI m ∧ PM r.2.2 70 (dA T ru a m d m) m d (nI ru) ∧ ∀ q, q ≠ 70 → r.2.2 q = σ q) m (a := (0, 0, σ)) ⟨rfl, rfl, h, fun _ _ => rfl⟩ ?_ ?_ (by omega)
    · intro k hk ⟨w1, w, τ⟩ ⟨hw1, hw, hP, hF⟩
      dsimp only at hw1 hw hP hF ⊢
      subst hw hw1
      have ck5 : ∀ {β : Type} (r : Option β), ck (nI k) 5 r = r := fun r => ck_n (by omega) (by decide)
      have cl : (nI k).toNatClampNeg = k := nI_clamp (by omega)
      obtain ⟨d80, d81, d4⟩ := hD.1 k hk
      have o3 : f_X8_of (nI k) 3 τ = some (dA T ru a m d k k 3) := ofk_m (k := 3) hP hk (by decide)
      have c3 : ∀ x ρ, f_X8_change (nI k) 3 x ρ = some (up ρ 70 (11 * k + 3) x) := fun x ρ => chg_m (k := 3) (by omega) (by decide) x
      have c4 : ∀ x ρ, f_X8_change (nI k) 4 x ρ = some (up ρ 70 (11 * k + 4) x) := fun x ρ => chg_m (k := 4) (by omega) (by decide) x
      have c5 : ∀ x ρ, f_X8_change (nI k) 5 x ρ = some (up ρ 70 (11 * k + 5) x) := fun x ρ => chg_m (k := 5) (by omega) (by decide) x
      unfold b_X8_goDay_117
      rw [many_m hP, bd1_s, if_neg (nle_of_lt hk (by omega)), ck5, cl, hF 80 (by decide), d80]
      by_cases hs : setr a m k = -1
      · have hP1 := hP.put (i := k) (k := 3) (by omega) (by decide) (jmax 0 (dA T ru a m d k k 3 - 10))
        have o4 : f_X8_of (nI k) 4 (up τ 70 (11 * k + 3) (jmax 0 (dA T ru a m d k k 3 - 10))) = some (dA T ru a m d k k 4) := by
          have := ofk_m (k := 4) hP1 hk (by decide)
          rw [up_nk (by decide)] at this; exact this
        rw [if_pos hs, o3, bd1_s, c3, bd1_s, o4, bd1_s, c4, bd1_s, bnd_s, nI_1]
        have hl : sLa T ru a m d k = 0 := by unfold sLa; rw [if_pos hs]
        refine ⟨_, rfl, ?_, rfl, ?_, fun q hq => ?_⟩
        · dsimp only
          rw [wl_1, hl, if_pos (by decide)]
        · dsimp only
          rw [dA_1, dA1, if_pos hs]
          exact hP1.put (i := k) (k := 4) (by omega) (by decide) _
        · dsimp only
          rw [up_n hq, up_n hq]; exact hF q hq
      · obtain ⟨s, hsm, hsk, hse⟩ := (setr_cases a m k).resolve_left hs
        have hsn : (setr a m k).toNatClampNeg = s := by rw [hse]; exact nI_clamp (by omega)
        obtain ⟨d82, d83⟩ := d4 hs
        have hP1 := hP.put (i := k) (k := 3) (by omega) (by decide) (jmax 0 (jmin 99 (dA T ru a m d k k 3 + sMo T ru a m d k)))
        have o5 : f_X8_of (nI k) 5 (up τ 70 (11 * k + 3) (jmax 0 (jmin 99 (dA T ru a m d k k 3 + sMo T ru a m d k)))) = some (dA T ru a m d k k 5) := by
          have := ofk_m (k := 5) hP1 hk (by decide)
          rw [up_nk (by decide)] at this; exact this
        have hP2 := hP1.put (i := k) (k := 5) (by omega) (by decide) (jmin 9999 (dA T ru a m d k k 5 + sLa T ru a m d k))
        have o6 := off_m hP2 hsm hk hsk
        rw [up_nk (by omega), up_nk (by omega)] at o6
        have t1 : ∀ q, q ≠ 70 → ∀ x, up τ 70 (11 * k + 3) x q = σ q := fun q hq x => by rw [up_n hq]; exact hF q hq
        have t2 : ∀ q, q ≠ 70 → ∀ x y, up (up τ 70 (11 * k + 3) x) 70 (11 * k + 5) y q = σ q := fun q hq x y => by rw [up_n hq]; exact t1 q hq x
        have c6 : ∀ x ρ, f_X8_change (nI s) (6 + nI k) x ρ = some (up ρ 70 (11 * s + (6 + k)) x) := fun x ρ => by rw [n_6j]; exact chg_m (by omega) (by omega) x
        have t3 : ∀ q, q ≠ 70 → ∀ x y z, up (up (up τ 70 (11 * k + 3) x) 70 (11 * k + 5) y) 70 (11 * s + (6 + k)) z q = σ q := fun q hq x y z => by rw [up_n hq]; exact t2 q hq x y
        rw [if_neg hs, o3, bd1_s, ck5, hF 82 (by decide), d82, bound_m, bd1_s, c3, bd1_s, o5, bd1_s, ck5, t1 81 (by decide), d81, c5, bd1_s, ck5, ck5, t2 80 (by decide), d80, hse, o6, bd1_s, ck5, t2 83 (by decide), d83, bound_m, bd1_s, c6, bd1_s, ck5, t3 81 (by decide), d81, bnd_s, bnd_s, bnd_s, nI_1]
        refine ⟨_, rfl, ?_, rfl, ?_, fun q hq => ?_⟩
        · dsimp only
          rw [wl_1]
          by_cases hl : sLa T ru a m d k ≤ 0
          · rw [if_pos hl, if_pos hl, Int32.or_zero]
          · rw [if_neg hl, if_neg hl]
        · dsimp only
          rw [dA_1, dA1, if_neg hs, hsn]
          exact hP2.put (by omega) (by omega) _
        · dsimp only
          exact t3 q hq _ _ _
    · intro ⟨w1, w, τ⟩ ⟨hw1, hw, hP, hF⟩
      dsimp only at hw1 hw hP hF ⊢
      subst hw hw1
      unfold b_X8_goDay_117
      rw [many_m hP, bd1_s, if_pos (Int32.le_refl _)]
      exact ⟨_, rfl, rfl, rfl, hP, hF⟩
  obtain ⟨⟨w1, w, τ⟩, h1, rfl, rfl, hP, hF⟩ := hrun
  exact ⟨τ, h1, hP, hF⟩
theorem goDay_m (h : PM σ 70 a m d (nI ru)) (hok : OkP a m) (hT : TM σ T n) (hO : TOk T n) (hru : ru < n) : ∃ τ, f_X8_goDay σ = some (wl (sLa T ru a m d) m, τ) ∧ PM τ 70 (dA T ru a m d m) m (d + 1) (nI ru) ∧ ∀ q, q ≠ 70 → ¬ (79 ≤ q ∧ q ≤ 83) → τ q = σ q := by
  obtain ⟨⟨w, σ1⟩, e1, hD⟩ := morn_m h hok hT hO hru
  dsimp only at hD
  have hP1 : PM σ1 70 a m d (nI ru) := h.eq (hD.2 70 (by omega))
  obtain ⟨σ2, e2, hP2, f2⟩ := eve_m hP1 hD
  have k56 : ∀ {β : Type} (r : Option β), ck 56 58 r = r := fun r => ck_n (i := 56) (by decide) (by decide)
  have c56 : (56 : Int32).toNatClampNeg = 56 := by decide
  refine ⟨up σ2 70 56 (d + 1), ?_, ?_, fun q h1 h2 => ?_⟩
  · unfold f_X8_goDay
    rw [e1, bd2_s, e2, bd3_s, k56, k56, c56, hP2.2.2.1, bnd_s]
  · have hm := h.1
    obtain ⟨h1, h2, h3, h4, h5, h6⟩ := hP2
    refine ⟨h1, ?_, up_eq, ?_, fun i hi k hk => ?_, fun i j hi hj hij => ?_⟩
    · rw [up_nk (by decide)]; exact h2
    · rw [up_nk (by decide)]; exact h4
    · rw [up_nk (by omega)]; exact h5 i hi k hk
    · rw [up_nk (by omega)]; exact h6 i j hi hj hij
  · rw [up_n h1, f2 q h1]; exact hD.2 q h2
end GoDayM
