section SmT2
/-- the class takes a text: what it gives, and what of it is kept -/
theorem take_c {σ : sg_T} {T : tx_T} {n l K : Nat} (hTC : TC σ T n) (hn : n < 6) (hT : TPE (σ 2) l σ) (hK1 : Pt (σ 2) l K = l) (hK2 : ∀ j, j < K → Pt (σ 2) l j < l) : (∃ τ k', f_X3_take σ = some (-100 - nI (Pt (σ 2) l k'), τ) ∧ τ 1 1 = 0 ∧ (∀ q, q ≠ 1 → q ≠ 3 → q ≠ 4 → q ≠ 5 → q ≠ 10 + 3 * n → q ≠ 10 + 3 * n + 1 → q ≠ 10 + 3 * n + 2 → τ q = σ q) ∧ TFt (fun k => Kt (σ 2) l (Pt (σ 2) l k)) (fun k => Vt (σ 2) l (Pt (σ 2) l k)) k' ∧ k' ≤ K) ∨ (∃ τ d0 d1 d2, f_X3_take σ = some (nI n, τ) ∧ τ 1 1 = 0 ∧ τ 6 3 = nI (n + 1) ∧ (∀ q, q ≠ 1 → q ≠ 3 → q ≠ 4 → q ≠ 5 → q ≠ 6 → q ≠ 10 + 3 * n → q ≠ 10 + 3 * n + 1 → q ≠ 10 + 3 * n + 2 → τ q = σ q) ∧ TOt (fun k => Kt (σ 2) l (Pt (σ 2) l k)) (fun k => Vt (σ 2) l (Pt (σ 2) l k)) d0 d1 d2 ∧ (d0 ++ d1 ++ d2).length ≤ 160 ∧ (∀ j, j < (d0 ++ d1 ++ d2).length → τ (10 + 3 * n + 1) j = toC ((d0 ++ d1 ++ d2).getD j 0)) ∧ τ (10 + 3 * n + 2) 0 = nI d0.length ∧ τ (10 + 3 * n + 2) 1 = nI (d0 ++ d1).length ∧ τ (10 + 3 * n + 2) 2 = nI (d0 ++ d1 ++ d2).length) := by
  obtain ⟨o, eo⟩ : ∃ o, o = 10 + 3 * n := ⟨_, rfl⟩
  rw [← eo]
  have hl := hT.1
  have hKl : K ≤ 160 := by
    by_cases hK0 : K = 0
    · omega
    · have h1 := hK2 (K - 1) (by omega)
      have h2 := Pt_ge (σ 2) l (K - 1) h1
      omega
  obtain ⟨σ1, e1, t1, f1⟩ := split_c hT hK1 hK2
  obtain ⟨σ2, q2⟩ : ∃ τ, τ = up (up (up σ1 1 6 0) 1 7 (nI o)) o 2 0 := ⟨_, rfl⟩
  have hCR : CR (fun k => Kt (σ 2) l (Pt (σ 2) l k)) (fun k => Vt (σ 2) l (Pt (σ 2) l k)) K o σ2 0 [] := by
    refine ⟨⟨?_, ?_, Nat.zero_le _, hKl, fun j hj => ?_, fun j hj hc => ?_, ?_, by omega, ⟨0, by decide, by rw [q2, up_eq]; rfl⟩, (Kt_301 _ _ _).mpr (by omega), fun j hj z => (Kt_301 _ _ _).mp z (hK2 j hj)⟩, by rw [q2, up_eq]; rfl, fun j hj => absurd hj (Nat.not_lt_zero _)⟩
    · rw [q2, up_ne (by omega), up_nk (by decide), up_nk (by decide)]; exact t1.2.1
    · rw [q2, up_ne (by omega), up_nk (by decide), up_eq]; rfl
    · rw [q2, up_ne (by omega), up_ne (by decide), up_ne (by decide)]; exact (t1.2.2 j (by omega)).1
    · rw [q2, up_ne (by omega), up_ne (by decide), up_ne (by decide)]; exact (t1.2.2 j (by omega)).2.2 hc
    · rw [q2, up_ne (by omega), up_eq]
  have h4 : ∀ j, j ≤ K → σ2 4 j = nI (Pt (σ 2) l j) := fun j hj => by
    rw [q2, up_ne (by omega), up_ne (by decide), up_ne (by decide)]; exact (t1.2.2 j (by omega)).2.1
  have hV : ∀ j, j ≤ K → Kt (σ 2) l (Pt (σ 2) l j) = 300 → 0 ≤ Vt (σ 2) l (Pt (σ 2) l j) := fun j hj hc => by
    have hlt : Pt (σ 2) l j < l := by
      by_cases hq : Pt (σ 2) l j < l
      · exact hq
      · rw [(Kt_301 _ _ _).mpr hq] at hc; exact absurd hc (by decide)
    exact Vt_pos hlt hc
  have n6 : nI n < 6 := Int32.not_le.mp (nle_of_lt (m := 6) hn (by decide))
  have fr2 : ∀ q, q ≠ 1 → q ≠ 3 → q ≠ 4 → q ≠ 5 → q ≠ o → σ2 q = σ q := fun q a b c d e => by
    rw [q2, up_n e, up_n a, up_n a]; exact f1.1 q a b c d
  have clr : f_X5_clear o (up (up σ1 1 6 0) 1 7 (nI o)) = some σ2 := by unfold f_X5_clear; rw [bnd_s, q2]
  have rd : ∀ r, bs (itr (fun q => b_X2_read_20 o q.1 q.2) lfu (0, σ2)) (fun q => some q) (fun q => (fun v19 σ20 => bd1 (f_X2_now σ20) (fun r25 => if r25 = 301 then some ((-1), σ20) else bd1 (f_X2_faultPlace σ20) (fun r28 => some (r28, σ20)))) q.1 q.2) = r → f_X2_read o σ = r := fun r hr => by
    unfold f_X2_read
    rw [e1, bd1_s, bnd_s, bnd_s, clr, bd1_s]
    exact hr
  rcases read3 hV hCR h4 with ⟨τ, k', e2, f2, htf, hk'⟩ | ⟨τ, d0, d1, d2, e2, f2, hto, g1, g2, g3, g4, g5⟩
  · left
    have hP := Pt_le (σ 2) l k'
    refine ⟨up τ 1 1 0, k', ?_, up_eq, fun q a b c d e g i => by rw [up_n a, f2.1 q a e g i]; exact fr2 q a b c d e, htf, hk'⟩
    unfold f_X3_take f_X2_clear
    rw [hTC.2.1, if_pos n6, ck_n hn (by decide), nI_clamp (by omega), ← eo, rd _ e2, bd2_s, bnd_s, bd1_s, if_neg (nI_ne_m1 (by omega))]
  · right
    have h63 : up τ 1 1 0 6 3 = nI n := by rw [up_ne (by decide), f2.1 6 (by decide) (by omega) (by omega) (by omega), fr2 6 (by decide) (by decide) (by decide) (by decide) (by omega)]; exact hTC.2.1
    refine ⟨up (up τ 1 1 0) 6 3 (nI (n + 1)), d0, d1, d2, ?_, by rw [up_ne (by decide), up_eq], up_eq, fun q a b c d x e g i => by rw [up_n x, up_n a, f2.1 q a e g i]; exact fr2 q a b c d e, hto, g1, fun j hj => by rw [up_ne (by omega), up_ne (by omega)]; exact g2 j hj, by rw [up_ne (by omega), up_ne (by omega)]; exact g3, by rw [up_ne (by omega), up_ne (by omega)]; exact g4, by rw [up_ne (by omega), up_ne (by omega)]; exact g5⟩
    unfold f_X3_take f_X2_clear
    rw [hTC.2.1, if_pos n6, ck_n hn (by decide), nI_clamp (by omega), ← eo, rd _ e2, bd2_s, bnd_s, bd1_s, if_pos rfl, h63, bnd_s, nI_1, bnd_s]
theorem sm_text : SM f_X7_text f_X8_text := by
  intro σ ⟨a, m, d, ru, T, n, h⟩
  have hW := h
  obtain ⟨hC, hM, hok, hd, hru, hTC, hTM, hO, hI, hTp, hS, hH⟩ := h
  have hn6 := hTC.1
  by_cases h6 : n = 6
  · subst h6
    refine ⟨-4, σ, σ, ?_, ?_, a, m, d, ru, T, 6, hW⟩
    · unfold f_X7_text f_X3_take
      rw [hTC.2.1, if_neg (by decide), bd2_s]
    · unfold f_X8_text
      rw [hTM.2.1, if_pos (by decide)]
  · have hn : n < 6 := by omega
    obtain ⟨l, hl, t1, t6, t3⟩ := hTp
    obtain ⟨K, hKl, hK1, hK2⟩ := tokK (σ 2) l
    have hT : TPE (σ 2) l σ := ⟨hl, t1, fun _ _ => rfl⟩
    have hTK := tkf (s := σ 2) (K := K) hl hK1 hK2
    have n13 : ¬ nI n = 6 := fun q => h6 (nI_inj (j := 6) (by omega) (by decide) q)
    -- the model behind the class
    have mdl : ∀ ρ, (∀ q, 69 ≤ q → ρ q = σ q) → ∃ ρ1, f_X8_next (up (up (up ρ 69 7 0) 69 10 0) 69 14 0) = some ρ1 ∧ MTK (σ 2) l K ρ1 0 ∧ MPt n ρ1 [] ∧ (∀ q, q ≠ 69 → ρ1 q = ρ q) ∧ ∀ j, j ≠ 7 → j ≠ 8 → j ≠ 9 → j ≠ 10 → j ≠ 14 → ρ1 69 j = σ 69 j := by
      intro ρ hρ
      have hm : MTP (σ 2) l (up (up (up ρ 69 7 0) 69 10 0) 69 14 0) := by
        refine ⟨hl, ?_, fun j hj => ?_, fun j hj => ?_⟩
        · rw [up_nk (by decide), up_nk (by decide), up_nk (by decide), hρ 69 (by decide)]; exact t6
        · rw [up_ne (by decide), up_ne (by decide), up_ne (by decide), hρ 74 (by decide)]; exact (t3 j hj).1.symm
        · rw [up_ne (by decide), up_ne (by decide), up_ne (by decide), hρ 77 (by decide)]; exact (hH 0 (by decide)).2.2 j hj
      obtain ⟨ρ1, e1, m1, g8, g7, g9, f1, f2⟩ := next_from hm (Nat.zero_le l) (p := 0) (by rw [up_nk (by decide), up_nk (by decide), up_eq]; rfl)
      refine ⟨ρ1, e1, ⟨Nat.zero_le _, m1, g8, g7, g9⟩, ⟨hn, ?_, ?_, ?_, fun j hj => absurd hj (Nat.not_lt_zero _), Nat.zero_le _⟩, fun q hq => by rw [f1 q hq, up_n hq, up_n hq, up_n hq], fun j a b c x y => by rw [f2 j a b c, up_nk y, up_nk x, up_nk a, hρ 69 (by decide)]⟩
      · rw [f2 10 (by decide) (by decide) (by decide), up_nk (by decide), up_eq]
      · rw [f2 13 (by decide) (by decide) (by decide), up_nk (by decide), up_nk (by decide), up_nk (by decide), hρ 69 (by decide)]; exact hTM.2.1
      · rw [f2 14 (by decide) (by decide) (by decide), up_eq]; rfl
    rcases take_c hTC hn hT hK1 hK2 with ⟨τ, k', e1, c11, cF, htf, hk'⟩ | ⟨τ, d0, d1, d2, e1, c11, c63, cF, hto, hl160, hcode, he0, he1, he2⟩
    · have cF' : ∀ q, 28 ≤ q → τ q = σ q := fun q hq => cF q (by omega) (by omega) (by omega) (by omega) (by omega) (by omega) (by omega)
      obtain ⟨ρ1, e2, hk0, hm0, g1, g2⟩ := mdl τ (fun q hq => cF' q (by omega))
      obtain ⟨ρ2, e3, hk2, f3⟩ := (text3 hTK hk0 hm0).1 k' htf
      have m13 : τ 69 13 = nI n := by rw [cF' 69 (by decide)]; exact hTM.2.1
      refine ⟨-100 - nI (Pt (σ 2) l k'), τ, up ρ2 69 6 0, ?_, ?_, a, m, d, ru, T, n, hW.text (Nat.le_refl _) ?_ ?_ hO ?_ up_eq ?_ (fun q hq => ?_)⟩
      · unfold f_X7_text
        rw [e1, bd2_s]
      · unfold f_X8_text f_X8_isText
        rw [m13, if_neg n13, bnd_s, bnd_s, bnd_s, e2, bd1_s, e3, bd2_s, bnd_s, if_pos rfl, up_nk (by decide), hk2.2.2.1]
      · obtain ⟨b1, b2, b3⟩ := hTC
        refine ⟨b1, ?_, fun t ht => ?_⟩
        · rw [up_ne (by decide), f3.1 6 (by decide) (by decide) (by decide) (by decide), g1 6 (by decide), cF 6 (by decide) (by decide) (by decide) (by decide) (by omega) (by omega) (by omega)]; exact b2
        · have hrow : ∀ q, 10 ≤ q → q < 10 + 3 * n → up ρ2 69 6 0 q = σ q := fun q z1 z2 => by
            rw [up_n (by omega), f3.1 q (by omega) (by omega) (by omega) (by omega), g1 q (by omega), cF q (by omega) (by omega) (by omega) (by omega) (by omega) (by omega) (by omega)]
          rw [hrow (10 + 3 * t + 2) (by omega) (by omega), hrow (10 + 3 * t + 1) (by omega) (by omega)]
          exact b3 t ht
      · have hTM0 := hTM
        obtain ⟨b1, b2, b3⟩ := hTM
        refine ⟨b1, ?_, fun t ht => ⟨fun p hp => ?_, fun p hp k hk => ?_⟩⟩
        · rw [up_nk (by decide), f3.2.1 13 (by decide) (by decide) (by decide) (by decide) (by decide) (by decide), g2 13 (by decide) (by decide) (by decide) (by decide) (by decide)]; exact b2
        · rw [up_ne (by decide), f3.2.2.2 _ (by omega), g1 76 (by decide), cF' 76 (by decide)]; exact (b3 t ht).1 p hp
        · have hb : cum T t p + k < 160 := by
            have h3 := (hO t ht).1
            have h4 := cum_le (T := T) (t := t) hp
            have h5 : cum T t (p + 1) = cum T t p + (T t p).length := rfl
            omega
          rw [up_ne (by decide), f3.2.2.1 _ (by omega), g1 75 (by decide), cF' 75 (by decide)]; exact (b3 t ht).2 p hp k hk
      · rw [up_ne (by decide), f3.1 1 (by decide) (by decide) (by decide) (by decide), g1 1 (by decide)]; exact c11
      · rw [up_nk (by decide), f3.2.1 3 (by decide) (by decide) (by decide) (by decide) (by decide) (by decide), g2 3 (by decide) (by decide) (by decide) (by decide) (by decide)]
      · rw [up_n (by omega), f3.1 q (by omega) (by omega) (by omega) (by omega), g1 q (by omega)]
        exact cF q (by omega) (by omega) (by omega) (by omega) (by omega) (by omega) (by omega)
    · have cF' : ∀ q, 28 ≤ q → τ q = σ q := fun q hq => cF q (by omega) (by omega) (by omega) (by omega) (by omega) (by omega) (by omega) (by omega)
      obtain ⟨ρ1, e2, hk0, hm0, g1, g2⟩ := mdl τ (fun q hq => cF' q (by omega))
      obtain ⟨ρ2, e3, f3, hmp, z0, z1, z2⟩ := (text3 hTK hk0 hm0).2 d0 d1 d2 hto
      have m13 : τ 69 13 = nI n := by rw [cF' 69 (by decide)]; exact hTM.2.1
      obtain ⟨y1, y2, y3, y4, y5, y6⟩ := hmp
      obtain ⟨ρ3, q3⟩ : ∃ ρ, ρ = up (up ρ2 69 6 0) 69 13 (nI (n + 1)) := ⟨_, rfl⟩
      have p13 : up ρ2 69 6 0 69 13 + 1 = nI (n + 1) := by rw [up_nk (by decide), y3, nI_1]
      have fr : ∀ q, q ≠ 69 → q ≠ 75 → q ≠ 76 → q ≠ 78 → ρ3 q = τ q := fun q x1 x2 x3 x4 => by
        rw [q3, up_n x1, up_n x1, f3.1 q x1 x2 x3 x4, g1 q x1]
      obtain ⟨k1, k2, k3, po0, po1, po2, _⟩ := hto
      refine ⟨nI n, τ, ρ3, ?_, ?_, a, m, d, ru, T3 T n d0 d1 d2, n + 1, hW.text (Nat.le_succ _) ?_ ?_ (hO.next hl160 po0.dok po1.dok po2.dok) ?_ ?_ ?_ (fun q hq => ?_)⟩
      · unfold f_X7_text
        rw [e1, bd2_s]
      · unfold f_X8_text f_X8_isText
        rw [m13, if_neg n13, bnd_s, bnd_s, bnd_s, e2, bd1_s, e3, bd2_s, bnd_s, if_neg (by decide), p13, bnd_s, ← q3, q3, up_eq, nI_pre (by omega)]
      · refine hTC.next hn ?_ (fun q x1 x2 => ?_) (fun j hj => ?_) ?_ ?_ ?_
        · rw [fr 6 (by decide) (by decide) (by decide) (by decide)]; exact c63
        · rw [fr q (by omega) (by omega) (by omega) (by omega)]
          exact cF q (by omega) (by omega) (by omega) (by omega) (by omega) (by omega) (by omega) (by omega)
        · rw [fr _ (by omega) (by omega) (by omega) (by omega)]; exact hcode j hj
        · rw [fr _ (by omega) (by omega) (by omega) (by omega)]; exact he0
        · rw [fr _ (by omega) (by omega) (by omega) (by omega)]; exact he1
        · rw [fr _ (by omega) (by omega) (by omega) (by omega)]; exact he2
      · refine hTM.next hO hn (by rw [q3, up_eq]) (fun p hp => ?_) (fun p hp => ?_) (fun j hj => ?_) ?_ ?_ ?_
        · rw [q3, up_ne (by decide), up_ne (by decide), f3.2.2.1 p hp, g1 75 (by decide), cF' 75 (by decide)]
        · rw [q3, up_ne (by decide), up_ne (by decide), f3.2.2.2 p hp, g1 76 (by decide), cF' 76 (by decide)]
        · rw [q3, up_ne (by decide), up_ne (by decide)]; exact y5 j hj
        · rw [q3, up_ne (by decide), up_ne (by decide)]; exact z0
        · rw [q3, up_ne (by decide), up_ne (by decide)]; exact z1
        · rw [q3, up_ne (by decide), up_ne (by decide)]; exact z2
      · rw [fr 1 (by decide) (by decide) (by decide) (by decide)]; exact c11
      · rw [q3, up_nk (by decide), up_eq]
      · rw [q3, up_nk (by decide), up_nk (by decide), f3.2.1 3 (by decide) (by decide) (by decide) (by decide) (by decide) (by decide), g2 3 (by decide) (by decide) (by decide) (by decide) (by decide)]
      · rw [fr q (by omega) (by omega) (by omega) (by omega)]
        exact cF q (by omega) (by omega) (by omega) (by omega) (by omega) (by omega) (by omega) (by omega)
end SmT2
