/-! The model's words and numbers; what is wanted of its tokens holds. -/
theorem nm_inj : ∀ w, w < 12 → ∀ v, v < 12 → (∀ c, c < 6 → nmw.getD (6 * w + c) 0 = nmw.getD (6 * v + c) 0) → w = v := by decide +kernel
section MtokC
variable {s : Nat → Int32} {l K : Nat}
theorem wm_c {q e w : Nat} (h : wm s q e w = true) : e - q ≤ 6 ∧ ∀ c, c < 6 → nmw.getD (6 * w + c) 0 = if q + c < e then s (q + c) else 0 := by
  unfold wm at h
  rw [Bool.and_eq_true, decide_eq_true_iff, List.all_eq_true] at h
  refine ⟨h.1, fun c hc => ?_⟩
  have := h.2 c (List.mem_range.mpr hc)
  by_cases hqc : q + c < e
  · rw [if_pos hqc] at this ⊢
    exact of_decide_eq_true this
  · rw [if_neg hqc] at this ⊢
    exact of_decide_eq_true this
theorem wm_one {q e w v : Nat} (hw : w < 12) (hv : v < 12) (h1 : wm s q e w = true) (h2 : wm s q e v = true) : w = v :=
  nm_inj w hw v hv (fun c hc => by rw [(wm_c h1).2 c hc, (wm_c h2).2 c hc])
def lm (p : Nat → Bool) : Nat → Int32
  | 0 => -1
  | w + 1 => if p w = true then nI w else lm p w
theorem lm_1 (p : Nat → Bool) (w : Nat) : lm p (w + 1) = if p w = true then nI w else lm p w := rfl
theorem lm_fo {p : Nat → Bool} (hu : ∀ w v, w < 12 → v < 12 → p w = true → p v = true → w = v) : ∀ L, L ≤ 12 → lm p L = fo (fun w => !p w) L
  | 0, _ => rfl
  | L + 1, hL => by
    rw [lm_1, fo_1, lm_fo hu L (by omega)]
    by_cases hp : p L = true
    · rw [if_pos hp]
      rcases fo_rng (fun w => !p w) L (by omega) with h | ⟨k, h1, h2, h3⟩
      · rw [if_pos h, if_neg (by rw [hp]; decide)]
      · exfalso
        have hk : p k = true := by
          rcases hh : p k with _ | _
          · exfalso; apply h3
            show (!p k) = true
            rw [hh]; rfl
          · rfl
        have := hu k L (by omega) (by omega) hk hp
        omega
    · have hp' : (!p L) = true := by
        rcases hh : p L with _ | _
        · rfl
        · exact absurd hh hp
      rw [if_neg hp]
      by_cases hf : fo (fun w => !p w) L = -1
      · rw [if_pos hf, if_pos hp', hf]
      · rw [if_neg hf]
theorem spell_m {σ : sg_T} (h : MTP s l σ) {q e w : Nat} (hw : w < 12) (hqe : q ≤ e) (he : e ≤ l) (h8 : σ 69 8 = nI q) (h7 : σ 69 7 = nI e) (u : Int32) : ∃ r, itr (fun z => b_X8_word_41q2 u (nI w) z.1 z.2 σ) lfu (if 6 < (nI e - nI q : Int32) then 0 else 1, 0) = some r ∧ r.1 = if wm s q e w = true then 1 else 0 := by
  have hl := h.1
  have esub : (nI e - nI q).toInt = e - q := by rw [pk_sub_toInt (by omega) (by omega)]
  have e6 : (6 : Int32).toInt = 6 := by decide
  by_cases h6 : e - q ≤ 6
  · have n6 : ¬ (6 : Int32) < nI e - nI q := by rw [Int32.lt_iff_toInt_lt, esub]; omega
    rw [if_neg n6]
    obtain ⟨p, ep⟩ : ∃ p : Nat → Bool, p = fun c => if q + c < e then decide (nmw.getD (6 * w + c) 0 = s (q + c)) else decide (nmw.getD (6 * w + c) 0 = 0) := ⟨_, rfl⟩
    obtain ⟨K, g1, g2, g3⟩ := fars p 6
    have hwm : wm s q e w = true ↔ K = 6 := by
      unfold wm
      rw [Bool.and_eq_true, decide_eq_true_iff, ← ep, List.all_eq_true]
      refine ⟨fun z => ?_, fun z => ⟨h6, fun c hc => g2 c (by have := List.mem_range.mp hc; omega)⟩⟩
      by_cases hK : K = 6
      · exact hK
      · exact absurd (z.2 K (List.mem_range.mpr (by omega))) (g3.resolve_left hK)
    have ix : ∀ c, (6 : Int32) * nI w + nI c = nI (6 * w + c) := fun c => by rw [n_6, pk_mul, nI_add]
    have step : ∀ c, c < 6 → b_X8_word_41q2 u (nI w) 1 (nI c) σ = some (.inl (if p c = true then 1 else 0, nI (c + 1))) := fun c hc => by
      have n6' : ¬ (6 : Int32) ≤ nI c := nle_of_lt (m := 6) hc (by decide)
      unfold b_X8_word_41q2
      rw [if_neg (by decide), if_neg n6', ix, ck_n (by omega) (by decide), nI_clamp (by omega), h7, h8, nI_add, h.2.2.2 _ (by omega)]
      by_cases hqc : q + c < e
      · have hp : p c = decide (nmw.getD (6 * w + c) 0 = s (q + c)) := by rw [ep]; exact if_pos hqc
        rw [if_neg (nle_of_lt hqc (by omega)), ck_n (by omega) (by decide), nI_clamp (by omega), h.2.2.1 _ (by omega), bnd_s, bnd_s, nI_1, hp]
        by_cases hs : nmw.getD (6 * w + c) 0 = s (q + c)
        · rw [if_pos hs, if_pos (decide_eq_true hs)]
        · rw [if_neg hs, if_neg (fun z => hs (of_decide_eq_true z))]
      · have hp : p c = decide (nmw.getD (6 * w + c) 0 = 0) := by rw [ep]; exact if_neg hqc
        rw [if_pos (le_of_le (by omega) (by omega)), bnd_s, bnd_s, nI_1, hp]
        by_cases hs : nmw.getD (6 * w + c) 0 = 0
        · rw [if_pos hs, if_pos (decide_eq_true hs)]
        · rw [if_neg hs, if_neg (fun z => hs (of_decide_eq_true z))]
    by_cases hK : K = 6
    · refine itr_run (f := fun z => b_X8_word_41q2 u (nI w) z.1 z.2 σ) (I := fun c z => z.1 = 1 ∧ z.2 = nI c) (R := fun r => r.1 = if wm s q e w = true then 1 else 0) 6 (a := (1, 0)) ⟨rfl, rfl⟩ ?_ ?_ (by omega)
      · intro c hc ⟨z1, z2⟩ ⟨hz1, hz2⟩
        dsimp only at hz1 hz2 ⊢
        subst hz1 hz2
        rw [step c hc, if_pos (g2 c (by omega))]
        exact ⟨_, rfl, rfl, rfl⟩
      · intro ⟨z1, z2⟩ ⟨hz1, hz2⟩
        dsimp only at hz1 hz2 ⊢
        subst hz1 hz2
        unfold b_X8_word_41q2
        rw [if_neg (by decide), if_pos (by decide), if_pos (hwm.mpr hK)]
        exact ⟨_, rfl, rfl⟩
    · refine itr_run (f := fun z => b_X8_word_41q2 u (nI w) z.1 z.2 σ) (I := fun c z => z.1 = (if c ≤ K then 1 else 0) ∧ z.2 = nI c) (R := fun r => r.1 = if wm s q e w = true then 1 else 0) (K + 1) (a := (1, 0)) ⟨by rw [if_pos (Nat.zero_le _)], rfl⟩ ?_ ?_ (by omega)
      · intro c hc ⟨z1, z2⟩ ⟨hz1, hz2⟩
        dsimp only at hz1 hz2 ⊢
        rw [if_pos (by omega)] at hz1
        subst hz1 hz2
        rw [step c (by omega)]
        refine ⟨_, rfl, ?_, rfl⟩
        dsimp only
        by_cases hcK : c = K
        · subst hcK
          rw [if_neg (g3.resolve_left hK), if_neg (by omega)]
        · rw [if_pos (g2 c (by omega)), if_pos (by omega)]
      · intro ⟨z1, z2⟩ ⟨hz1, hz2⟩
        dsimp only at hz1 hz2 ⊢
        rw [if_neg (by omega)] at hz1
        subst hz1 hz2
        unfold b_X8_word_41q2
        rw [if_pos rfl, if_neg (fun z => hK (hwm.mp z))]
        exact ⟨_, rfl, rfl⟩
  · have y6 : (6 : Int32) < nI e - nI q := by rw [Int32.lt_iff_toInt_lt, esub]; omega
    have hf : ¬ wm s q e w = true := fun z => h6 (wm_c z).1
    rw [if_pos y6, if_neg hf]
    refine ⟨(0, 0), itr_r (n := 99999) ?_, rfl⟩
    show b_X8_word_41q2 u (nI w) 0 0 σ = _
    unfold b_X8_word_41q2
    rw [if_pos rfl]
theorem word_m {σ : sg_T} {k : Nat} (h : MTK s l K σ k) : f_X8_word σ = some (wd (Kt s l (Pt s l k))) := by
  obtain ⟨hk, hm, h8, h7, h9⟩ := h
  have hPl := Pt_le s l k
  obtain ⟨q, eq⟩ : ∃ q, q = Pt s l k := ⟨_, rfl⟩
  rw [← eq] at h8 h7 h9 hPl ⊢
  by_cases hs : srt s l q = 1
  · obtain ⟨hql, hL⟩ := srt_1.mp hs
    obtain ⟨r1, r2⟩ := endt_rng s l hql
    have hEt : Et s l q = endt s l q := by unfold Et; rw [if_pos hql]
    rw [hEt] at h7
    have hrun : itr (fun z => b_X8_word_4 z.1 z.2 σ) lfu (-1, 0) = some (lm (wm s q (endt s l q)) 12, nI 12) := by
      refine itr_seq (fun w => (lm (wm s q (endt s l q)) w, nI w)) 12 (fun w hw => ?_) ?_ (by omega)
      · show b_X8_word_4 (lm (wm s q (endt s l q)) w) (nI w) σ = _
        have n12 : ¬ (12 : Int32) ≤ nI w := nle_of_lt (m := 12) hw (by decide)
        obtain ⟨⟨z1, z2⟩, e1, e2⟩ := spell_m hm hw (by omega) r2 h8 h7 (lm (wm s q (endt s l q)) w)
        dsimp only at e2
        unfold b_X8_word_4
        rw [if_neg n12, if_pos (by rw [h9]; exact hs), h7, h8, bnd_s, e1, bd2_s, bnd_s, bnd_s, nI_1, lm_1, e2]
        by_cases hp : wm s q (endt s l q) w = true
        · rw [if_pos hp, if_pos hp, if_neg (by decide)]
        · rw [if_neg hp, if_neg hp, if_pos rfl]
      · show b_X8_word_4 (lm (wm s q (endt s l q)) 12) (nI 12) σ = _
        unfold b_X8_word_4
        rw [if_pos (by decide)]
    have hw : lm (wm s q (endt s l q)) 12 = wix s q (endt s l q) := lm_fo (fun w v hw hv h1 h2 => wm_one hw hv h1 h2) 12 (Nat.le_refl _)
    have hK : Kt s l q = if wix s q (endt s l q) = -1 then 302 else wix s q (endt s l q) := by
      unfold Kt; rw [if_pos hql, if_pos hL]
    unfold f_X8_word
    rw [hrun, bd2_s, hw, hK]
    by_cases hm1 : wix s q (endt s l q) = -1
    · rw [if_pos hm1, hm1]; rfl
    · rw [if_neg hm1]
      rcases fo_rng (fun w => !wm s q (endt s l q) w) 12 (by decide) with g | ⟨j, g1, g2, _⟩
      · exact absurd g hm1
      · have g2' : wix s q (endt s l q) = nI j := g2
        rw [g2']
        unfold wd
        rw [if_pos ⟨nI_pos' (by omega), Int32.not_le.mp (nle_of_lt (m := 12) g1 (by decide))⟩]
  · have hrun : itr (fun z => b_X8_word_4 z.1 z.2 σ) lfu (-1, 0) = some (-1, nI 12) := by
      refine itr_seq (fun w => (-1, nI w)) 12 (fun w hw => ?_) ?_ (by omega)
      · show b_X8_word_4 (-1) (nI w) σ = _
        have n12 : ¬ (12 : Int32) ≤ nI w := nle_of_lt (m := 12) hw (by decide)
        have hin : itr (fun z => b_X8_word_41 (-1) (nI w) z.1 z.2 σ) lfu (0, 0) = some (0, 0) := by
          refine itr_r (n := 99999) ?_
          show b_X8_word_41 (-1) (nI w) 0 0 σ = _
          unfold b_X8_word_41
          rw [if_pos rfl]
        unfold b_X8_word_4
        rw [if_neg n12, if_neg (by rw [h9]; exact hs), hin, bd2_s, if_pos rfl, bnd_s, bnd_s, nI_1]
      · show b_X8_word_4 (-1) (nI 12) σ = _
        unfold b_X8_word_4
        rw [if_pos (by decide)]
    unfold f_X8_word
    rw [hrun, bd2_s]
    have hwd : wd (Kt s l q) = -1 := by
      rcases Kt_c s l q with ⟨h, hL, _⟩ | ⟨h, _, _, h2⟩ | ⟨h, _, _, h2⟩ | ⟨h, h2⟩
      · exact absurd (srt_1.mpr ⟨h, hL⟩) hs
      · rcases h2 with h2 | h2 <;> rw [h2] <;> decide
      · rcases h2 with ⟨hg, h2⟩ | ⟨_, h2⟩
        · rw [h2]
          rcases isG_v hg with g | g | g | g | g | g | g | g <;> rw [g] <;> decide
        · rw [h2]; decide
      · rw [h2]; decide
    rw [hwd]
theorem sign_m {σ : sg_T} {k : Nat} (h : MTK s l K σ k) {x : Int32} (hx : x = 40 ∨ x = 41 ∨ x = 42 ∨ x = 43 ∨ x = 45 ∨ x = 59 ∨ x = 60 ∨ x = 61) : f_X8_isSign x σ = some (if Kt s l (Pt s l k) = x then 1 else 0) := by
  obtain ⟨hk, hm, h8, h7, h9⟩ := h
  have hl := hm.1
  obtain ⟨q, eq⟩ : ∃ q, q = Pt s l k := ⟨_, rfl⟩
  rw [← eq] at h8 h7 h9 ⊢
  have hxG : isG x = true := decide_eq_true (by rcases hx with g | g | g | g | g | g | g | g <;> rw [g] <;> decide)
  have hx12 : ∀ w, w < 12 → ¬ nI w = x := fun w hw => by
    rcases hx with g | g | g | g | g | g | g | g <;> rw [g]
    · exact nIne (k := 40) (by omega) (by decide) (by omega)
    · exact nIne (k := 41) (by omega) (by decide) (by omega)
    · exact nIne (k := 42) (by omega) (by decide) (by omega)
    · exact nIne (k := 43) (by omega) (by decide) (by omega)
    · exact nIne (k := 45) (by omega) (by decide) (by omega)
    · exact nIne (k := 59) (by omega) (by decide) (by omega)
    · exact nIne (k := 60) (by omega) (by decide) (by omega)
    · exact nIne (k := 61) (by omega) (by decide) (by omega)
  have hx3 : ¬ (300 : Int32) = x ∧ ¬ (301 : Int32) = x ∧ ¬ (302 : Int32) = x := by
    rcases hx with g | g | g | g | g | g | g | g <;> rw [g] <;> decide
  unfold f_X8_isSign
  by_cases hs : srt s l q = 3
  · rcases srt_v (s := s) (l := l) q with ⟨g, _⟩ | ⟨g, _⟩ | ⟨g, _⟩ | ⟨_, hql, hL, hD⟩
    · rw [g] at hs; exact absurd hs (by decide)
    · rw [g] at hs; exact absurd hs (by decide)
    · rw [g] at hs; exact absurd hs (by decide)
    · rw [if_pos (by rw [h9]; exact hs), h8, ck_n (by omega) (by decide), nI_clamp (by omega), hm.2.2.1 q hql, bnd_s]
      have hK : Kt s l q = if isG (s q) = true then s q else 302 := by
        unfold Kt; rw [if_pos hql, if_neg hL, if_neg hD]
      rw [hK]
      by_cases hG : isG (s q) = true
      · rw [if_pos hG]
        by_cases hsx : s q = x
        · rw [if_pos hsx, cz_1]
        · rw [if_neg hsx, cz_0]
      · rw [if_neg hG, if_neg hx3.2.2, if_neg (fun z => hG (by rw [z]; exact hxG)), cz_0]
  · rw [if_neg (by rw [h9]; exact hs)]
    have hn : ¬ Kt s l q = x := by
      rcases Kt_c s l q with ⟨h, _, h2⟩ | ⟨h, _, _, h2⟩ | ⟨h, hL, hD, _⟩ | ⟨h, h2⟩
      · rcases h2 with h2 | ⟨w, hw, h2⟩
        · rw [h2]; exact hx3.2.2
        · rw [h2]; exact hx12 w hw
      · rcases h2 with h2 | h2
        · rw [h2]; exact hx3.2.2
        · rw [h2]; exact hx3.1
      · exfalso; apply hs
        unfold srt
        rw [if_pos h, if_neg hL, if_neg hD]
      · rw [h2]; exact hx3.2.1
    rw [if_neg hn]
theorem num_m {σ : sg_T} {k : Nat} (h : MTK s l K σ k) : ((σ 69 9 = 2 ∧ ¬ 4 < σ 69 7 - σ 69 8) ↔ Kt s l (Pt s l k) = 300) ∧ (Kt s l (Pt s l k) = 300 → f_X8_numberThere σ = some (Vt s l (Pt s l k))) := by
  obtain ⟨hk, hm, h8, h7, h9⟩ := h
  have hl := hm.1
  obtain ⟨q, eq⟩ : ∃ q, q = Pt s l k := ⟨_, rfl⟩
  rw [← eq] at h8 h7 h9 ⊢
  have e4 : (4 : Int32).toInt = 4 := by decide
  have key : Kt s l q = 300 ↔ (srt s l q = 2 ∧ endt s l q - q ≤ 4) := by
    rcases Kt_c s l q with ⟨h, hL, h2⟩ | ⟨h, hL, hD, h2⟩ | ⟨h, hL, hD, h2⟩ | ⟨h, h2⟩
    · have hs := (srt_1 (s := s) (l := l)).mpr ⟨h, hL⟩
      refine ⟨fun z => ?_, fun z => by rw [hs] at z; exact absurd z.1 (by decide)⟩
      rcases h2 with h2 | ⟨w, hw, h2⟩
      · rw [h2] at z; exact absurd z (by decide)
      · rw [h2] at z; exact absurd (nI_inj (j := 300) (by omega) (by decide) z) (by omega)
    · have hs := (srt_2 (s := s) (l := l) DL).mpr ⟨h, hD⟩
      have hK : Kt s l q = if endt s l q - q ≤ 4 then 300 else 302 := by
        unfold Kt; rw [if_pos h, if_neg hL, if_pos hD]
      rw [hK]
      by_cases h4 : endt s l q - q ≤ 4
      · rw [if_pos h4]; exact ⟨fun _ => ⟨hs, h4⟩, fun _ => rfl⟩
      · rw [if_neg h4]; exact ⟨fun z => absurd z (by decide), fun z => absurd z.2 h4⟩
    · have hs : srt s l q = 3 := by unfold srt; rw [if_pos h, if_neg hL, if_neg hD]
      refine ⟨fun z => ?_, fun z => by rw [hs] at z; exact absurd z.1 (by decide)⟩
      rcases h2 with ⟨hg, h2⟩ | ⟨_, h2⟩
      · rw [h2] at z
        rcases isG_v hg with g | g | g | g | g | g | g | g <;> (rw [g] at z; exact absurd z (by decide))
      · rw [h2] at z; exact absurd z (by decide)
    · have hs : srt s l q = 0 := by unfold srt; rw [if_neg h]
      exact ⟨fun z => by rw [h2] at z; exact absurd z (by decide), fun z => by rw [hs] at z; exact absurd z.1 (by decide)⟩
  by_cases hql : q < l
  · obtain ⟨r1, r2⟩ := endt_rng s l hql
    have hEt : Et s l q = endt s l q := by unfold Et; rw [if_pos hql]
    rw [hEt] at h7
    have esub : (nI (endt s l q) - nI q).toInt = endt s l q - q := by rw [pk_sub_toInt (by omega) (by omega)]
    have h4e : (¬ 4 < σ 69 7 - σ 69 8) ↔ endt s l q - q ≤ 4 := by
      rw [h7, h8, Int32.lt_iff_toInt_lt, esub]; omega
    refine ⟨by rw [h9, h4e]; exact key.symm, fun _ => ?_⟩
    obtain ⟨N, hN⟩ : ∃ N, endt s l q = q + N := ⟨endt s l q - q, by omega⟩
    have hrun : itr (fun z => b_X8_numberThere_7 z.1 z.2 σ) lfu (0, nI q) = some (nv s q N, nI (q + N)) := by
      refine itr_seq (fun c => (nv s q c, nI (q + c))) N (fun c hc => ?_) ?_ (by omega)
      · show b_X8_numberThere_7 (nv s q c) (nI (q + c)) σ = _
        unfold b_X8_numberThere_7
        rw [h7, hN, if_neg (nle_of_lt (by omega) (by omega)), ck_n (by omega) (by decide), nI_clamp (by omega), hm.2.2.1 _ (by omega), bnd_s, bnd_s, nI_1, Int32.mul_comm]
        rfl
      · show b_X8_numberThere_7 (nv s q N) (nI (q + N)) σ = _
        unfold b_X8_numberThere_7
        rw [h7, hN, if_pos (Int32.le_refl _)]
    unfold f_X8_numberThere
    rw [h8, bnd_s, hrun, bd2_s]
    unfold Vt
    rw [hN, show q + N - q = N by omega]
  · have hs : srt s l q = 0 := by unfold srt; rw [if_neg hql]
    have hn : ¬ Kt s l q = 300 := fun z => by have := (key.mp z).1; rw [hs] at this; exact absurd this (by decide)
    refine ⟨⟨fun z => by rw [h9, hs] at z; exact absurd z.1 (by decide), fun z => absurd z hn⟩, fun z => absurd z hn⟩
theorem tkf (hl : l ≤ 160) (hK1 : Pt s l K = l) (hK2 : ∀ j, j < K → Pt s l j < l) : TKF (fun k => Kt s l (Pt s l k)) (fun k => Vt s l (Pt s l k)) K (MTK s l K) := by
  have hKl : K ≤ 160 := by
    by_cases hK0 : K = 0
    · omega
    · have h1 := hK2 (K - 1) (by omega)
      have h2 := Pt_ge s l (K - 1) h1
      omega
  refine ⟨fun σ k h => ⟨h.1, word_m h, fun x hx => sign_m h hx, (num_m h).1, (num_m h).2, fun hk => ?_⟩, fun σ τ k h h1 h2 h3 => ?_, ?_, fun j hj => ?_, hKl⟩
  · obtain ⟨_, hm, h8, h7, h9⟩ := h
    have hql := hK2 k hk
    obtain ⟨r1, r2⟩ := endt_rng s l hql
    have hEt : Et s l (Pt s l k) = endt s l (Pt s l k) := by unfold Et; rw [if_pos hql]
    rw [hEt] at h7
    obtain ⟨τ, e1, m1, t8, t7', t9, f1, f2⟩ := next_from hm r2 h7
    have hP1 : Pt s l (k + 1) = skp s l (endt s l (Pt s l k)) := by rw [Pt_1, if_pos hql]
    exact ⟨τ, e1, ⟨hk, m1, by rw [hP1]; exact t8, by rw [hP1]; exact t7', by rw [hP1]; exact t9⟩, f1, f2⟩
  · obtain ⟨g1, g2, g3, g4, g5⟩ := h
    exact ⟨g1, g2.fr (h1 6 (by decide)) h2 h3, by rw [h1 8 (by decide)]; exact g3, by rw [h1 7 (by decide)]; exact g4, by rw [h1 9 (by decide)]; exact g5⟩
  · exact (Kt_301 s l _).mpr (by omega)
  · intro z
    exact (Kt_301 s l _).mp z (hK2 j hj)
end MtokC
