/-! The model is the machine: isE whole. -/
theorem btw_v {t : Int32} (h : btw t ≠ 0) : (¬ (btw t = 0 ∨ btw t = -22 ∨ btw t = -28)) ∧ t ≠ 301 ∧ rk (btw t) ≤ 7 := by
  have h301 : t ≠ 301 := fun q => h (by rw [q]; decide)
  refine ⟨?_, h301, rk_le _⟩
  unfold btw at h ⊢
  repeat' split
  all_goals (first | decide | (exfalso; simp_all))
section MsD
variable {C V : Nat → Int32} {K n : Nat} {TK : sg_T → Nat → Prop}
theorem isE_sim (hT : TKF C V K TK) : ∀ (c F : Nat) (σ : sg_T) (k : Nat) (cs W : List Int32) (res : mr_T), c ≤ F → c ≤ lfu → itr (mst C V) c (true, k, cs, W) = some res → MR TK n σ k cs W → ∃ r τ, itr (fun q => b_X8_isE_5 q) F σ = some (r, τ) ∧ FM n σ τ ∧ r = (if res.1 = true then 1 else 0) ∧ TK τ res.2.1 ∧ (res.1 = true → MS n τ res.2.2 []) := by
  intro c
  induction c using Nat.strongRecOn with
  | _ c ih =>
    intro F σ k cs W res hF hlf h hM
    have hc0 : 0 < c := by
      rcases c with _ | c
      · exact absurd (show (none : Option mr_T) = some res from h) (by simp)
      · omega
    obtain ⟨F', rfl⟩ : ∃ n', F = n' + 1 := ⟨F - 1, by omega⟩
    have hK160 := hT.2.2.2.2
    obtain ⟨r0, σ0, v, τ, e1, e2, f1, hcase⟩ := pre_loop hT c lfu σ k cs W res hlf h hM
    rcases hcase with ⟨rfl, hr1, hTK⟩ | ⟨rfl, c1, k1, cs1, W1, hc1, hTK, hM1, hl1, hne1, h1⟩
    · refine ⟨0, τ, itr_r ?_, f1, by rw [hr1]; rfl, hTK, fun q => absurd (hr1.symm.trans q) (by decide)⟩
      unfold b_X8_isE_5
      rw [e1, bd2_s, e2, bd2_s, if_pos rfl]
    · obtain ⟨τ2, e3, m2, f2, g2⟩ := settle_f (r := 7) (by decide) hM1
      have e3' : f_X8_settle 7 τ = some τ2 := e3
      have hTK2 := hT.fr hTK g2
      have hsl := stl_len (r := 7) W1 cs1
      obtain ⟨τ3, e4, m3, f3⟩ := next_m hT hTK2 m2 (by omega) hne1
      obtain ⟨out, e5, hout⟩ := clos_loop hT 1 c1 lfu τ3 (k1 + 1) _ _ res (by omega) h1 m3
      have fa := (f1.two f2).two f3
      rcases hout with ⟨τ4, rfl, f4, hr1, hTK4⟩ | ⟨τ4, c2, k2, cs2, W2, rfl, f4, hc2, h41, m4, h2⟩
      · refine ⟨0, τ4, itr_r ?_, fa.two f4, by rw [hr1]; rfl, hTK4, fun q => absurd (hr1.symm.trans q) (by decide)⟩
        unfold b_X8_isE_5
        rw [e1, bd2_s, e2, bd2_s, if_neg (by decide), e3', bd1_s, e4, bd1_s, e5, bs_r]
      · have hc20 : 0 < c2 := by
          rcases c2 with _ | c2
          · exact absurd (show (none : Option mr_T) = some res from h2) (by simp)
          · omega
        obtain ⟨c3, rfl⟩ : ∃ c3, c2 = c3 + 1 := ⟨c2 - 1, by omega⟩
        have fb := fa.two f4
        have hk2K : k2 ≤ K := (hT.1 τ4 k2 m4.1).1
        have hl2 := m4.2.2
        have hbt := between_m hT m4.1
        have hmst : mst C V (false, k2, cs2, W2) = some (mstA C k2 cs2 W2) := rfl
        unfold mstA at hmst
        rw [if_neg h41] at hmst
        by_cases hb0 : btw (C k2) = 0
        · obtain ⟨τ5, e6, m5, f5, g5⟩ := settle_f (r := 1) (by decide) m4.2.1
          have e6' : f_X8_settle 1 τ4 = some τ5 := e6
          rw [if_pos hb0] at hmst
          rw [itr_r hmst] at h2
          have hr : res = (decide ((stl 1 cs2 W2).2 = []), k2, (stl 1 cs2 W2).1) := (Option.some.inj h2).symm
          have w17 : τ5 69 17 = nI (stl 1 cs2 W2).2.length := m5.2.1
          have hl5 := m5.2.2.2.2.2.2.2
          have hv : (if τ5 69 17 = 0 then (1 : Int32) else 0) = if res.1 = true then 1 else 0 := by
            rw [hr]
            by_cases hem : (stl 1 cs2 W2).2 = []
            · rw [if_pos (by rw [w17, hem]; rfl), if_pos (decide_eq_true hem)]
            · rw [if_neg ?_, if_neg (fun q => hem (of_decide_eq_true q))]
              intro q
              rw [w17] at q
              have := (nI_0iff (by omega)).mp q
              exact hem (List.eq_nil_of_length_eq_zero this)
          refine ⟨_, τ5, itr_r ?_, fb.two f5, rfl, by rw [hr]; exact hT.fr m4.1 g5, fun q => ?_⟩
          · unfold b_X8_isE_5
            rw [e1, bd2_s, e2, bd2_s, if_neg (by decide), e3', bd1_s, e4, bd1_s, e5, bs_l, hbt, bd1_s, if_pos hb0, e6', bd1_s, bnd_s, hv]
            split
            · rw [cz_1]
            · rw [cz_0]
          · rw [hr] at q ⊢
            have hem : (stl 1 cs2 W2).2 = [] := of_decide_eq_true q
            rw [hem] at m5
            exact m5
        · obtain ⟨b1, b2, b3⟩ := btw_v hb0
          rw [if_neg hb0] at hmst
          have hk2 : k2 < K := by
            by_cases hk : k2 = K
            · rw [hk] at b2; exact absurd hT.2.2.1 b2
            · omega
          by_cases hr4 : rk (btw (C k2)) = 4
          · have n4 : nI (rk (btw (C k2))) = 4 := by rw [hr4]; rfl
            obtain ⟨τ5, e6, m5, f5, g5⟩ := settle_f (r := 5) (by decide) m4.2.1
            have e6' : f_X8_settle 5 τ4 = some τ5 := e6
            have hTK5 := hT.fr m4.1 g5
            have hsl5 := stl_len (r := 5) W2 cs2
            rw [if_pos hr4] at hmst
            have htp := tp_le (stl 5 cs2 W2).2
            by_cases ht4 : tp (stl 5 cs2 W2).2 = 4
            · rw [if_pos ht4] at hmst
              rw [itr_r hmst] at h2
              have hr : res = (false, k2, (stl 5 cs2 W2).1) := (Option.some.inj h2).symm
              refine ⟨0, τ5, itr_r ?_, fb.two f5, by rw [hr]; rfl, by rw [hr]; exact hTK5, fun q => absurd (show (false : Bool) = true by rw [hr] at q; exact q) (by decide)⟩
              unfold b_X8_isE_5
              rw [e1, bd2_s, e2, bd2_s, if_neg (by decide), e3', bd1_s, e4, bd1_s, e5, bs_l, hbt, bd1_s, if_neg hb0, rank_m, bd1_s, if_pos n4, e6', bd1_s, rank_m, bd1_s, if_pos n4, last_m m5, bd1_s, if_pos (by rw [ht4]; rfl)]
            · rw [if_neg ht4] at hmst
              rw [itr_l hmst] at h2
              obtain ⟨τ6, e7, m6, f6, g6⟩ := wait_m m5 (by omega) b1
              obtain ⟨τ7, e8, m7, f7⟩ := next_m hT (hT.fr hTK5 g6) m6 (by simp only [List.length_cons]; omega) b2
              obtain ⟨r, τ8, i1, i2, i3⟩ := ih c3 (by omega) F' τ7 (k2 + 1) _ _ res (by omega) (by omega) h2 m7
              refine ⟨r, τ8, ?_, (((fb.two f5).two f6).two f7).two i2, i3⟩
              rw [itr_l (b := τ7)]
              · exact i1
              · show b_X8_isE_5 σ = _
                have nt4 : ¬ nI (tp (stl 5 cs2 W2).2) = 4 := fun q => ht4 (nI_inj (by omega) (by decide) q)
                unfold b_X8_isE_5
                rw [e1, bd2_s, e2, bd2_s, if_neg (by decide), e3', bd1_s, e4, bd1_s, e5, bs_l, hbt, bd1_s, if_neg hb0, rank_m, bd1_s, if_pos n4, e6', bd1_s, rank_m, bd1_s, if_pos n4, last_m m5, bd1_s, if_neg nt4, e7, bd1_s, e8, bd1_s]
          · have n4 : ¬ nI (rk (btw (C k2))) = 4 := fun q => hr4 (nI_inj (by omega) (by decide) q)
            obtain ⟨τ5, e6, m5, f5, g5⟩ := settle_f (r := rk (btw (C k2))) b3 m4.2.1
            have hTK5 := hT.fr m4.1 g5
            have hsl5 := stl_len (r := rk (btw (C k2))) W2 cs2
            rw [if_neg hr4] at hmst
            rw [itr_l hmst] at h2
            obtain ⟨τ6, e7, m6, f6, g6⟩ := wait_m m5 (by omega) b1
            obtain ⟨τ7, e8, m7, f7⟩ := next_m hT (hT.fr hTK5 g6) m6 (by simp only [List.length_cons]; omega) b2
            obtain ⟨r, τ8, i1, i2, i3⟩ := ih c3 (by omega) F' τ7 (k2 + 1) _ _ res (by omega) (by omega) h2 m7
            refine ⟨r, τ8, ?_, (((fb.two f5).two f6).two f7).two i2, i3⟩
            rw [itr_l (b := τ7)]
            · exact i1
            · show b_X8_isE_5 σ = _
              unfold b_X8_isE_5
              rw [e1, bd2_s, e2, bd2_s, if_neg (by decide), e3', bd1_s, e4, bd1_s, e5, bs_l, hbt, bd1_s, if_neg hb0, rank_m, bd1_s, if_neg n4, bd1_s, e6, bd1_s, rank_m, bd1_s, if_neg n4, e7, bd1_s, e8, bd1_s]
end MsD
