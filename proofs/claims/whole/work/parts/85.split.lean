/-! The class splits a tape into its tokens. -/
theorem let_c (x : Int32) (σ : sg_T) : f_X2_isLetter x σ = some (if isL x = true then 1 else 0) := by
  unfold f_X2_isLetter
  by_cases h1 : x < 97
  · rw [if_pos h1, if_neg (fun q => Int32.not_lt.mpr (of_decide_eq_true q).1 h1)]
  · rw [if_neg h1]
    by_cases h2 : 122 < x
    · rw [if_pos h2, bnd_s, cz_0, if_neg (fun q => Int32.not_lt.mpr (of_decide_eq_true q).2 h2)]
    · rw [if_neg h2, bnd_s, cz_1, if_pos (show isL x = true from decide_eq_true ⟨Int32.not_lt.mp h1, Int32.not_lt.mp h2⟩)]
theorem dig_c (x : Int32) (σ : sg_T) : f_X2_isDigit x σ = some (if isD x = true then 1 else 0) := by
  unfold f_X2_isDigit
  by_cases h1 : x < 48
  · rw [if_pos h1, if_neg (fun q => Int32.not_lt.mpr (of_decide_eq_true q).1 h1)]
  · rw [if_neg h1]
    by_cases h2 : 57 < x
    · rw [if_pos h2, bnd_s, cz_0, if_neg (fun q => Int32.not_lt.mpr (of_decide_eq_true q).2 h2)]
    · rw [if_neg h2, bnd_s, cz_1, if_pos (show isD x = true from decide_eq_true ⟨Int32.not_lt.mp h1, Int32.not_lt.mp h2⟩)]
theorem sgn_c (x : Int32) (σ : sg_T) : f_X2_isSign x σ = some (if isG x = true then 1 else 0) := by
  by_cases hg : isG x = true
  · rw [if_pos hg]
    rcases isG_v hg with rfl | rfl | rfl | rfl | rfl | rfl | rfl | rfl <;> rfl
  · rw [if_neg hg]
    have n : ∀ y, (y = 40 ∨ y = 41 ∨ y = 59 ∨ y = 43 ∨ y = 45 ∨ y = 42 ∨ y = 60 ∨ y = 61) → ¬ x = y := fun y hy q => hg (decide_eq_true (by rw [q]; exact hy))
    unfold f_X2_isSign
    rw [if_neg (n 40 (by decide)), if_neg (n 41 (by decide)), if_neg (n 59 (by decide)), if_neg (n 43 (by decide)), if_neg (n 45 (by decide)), if_neg (n 42 (by decide)), if_neg (n 60 (by decide)), if_neg (n 61 (by decide)), bnd_s, cz_0]
theorem t7 : ∀ w, w < 12 → ∀ c, c < 7 → tchN 1 (w * 7 + c) = if c < 6 ∧ ¬ nmw.getD (6 * w + c) 0 = 0 then nmw.getD (6 * w + c) 0 else 32 := by decide +kernel
section SplitB
variable {s : Nat → Int32} {l : Nat}
def TPE (s : Nat → Int32) (l : Nat) (σ : sg_T) : Prop := l ≤ 160 ∧ σ 1 1 = nI l ∧ ∀ i, i < l → σ 2 i = s i
theorem isL_n {b : Int32} (h : isL b = true) : ¬ b = 0 ∧ ¬ b = 32 := by
  have h1 := (of_decide_eq_true h).1
  exact ⟨fun q => by rw [q] at h1; exact absurd h1 (by decide), fun q => by rw [q] at h1; exact absurd h1 (by decide)⟩
theorem spells_c {σ : sg_T} (h : TPE s l σ) {w q e : Nat} (hw : w < 12) (hqe : q ≤ e) (he : e ≤ l) (h6 : e - q ≤ 6) (hL : ∀ j, q ≤ j → j < e → isL (s j) = true) : f_X2_spells (nI w) (nI q) (nI e) σ = some (if wm s q e w = true then 1 else 0) := by
  have hl := h.1
  obtain ⟨p, ep⟩ : ∃ p : Nat → Bool, p = fun c => if q + c < e then decide (s (q + c) = tchN 1 (w * 7 + c)) else decide (32 = tchN 1 (w * 7 + c)) := ⟨_, rfl⟩
  obtain ⟨K, g1, g2, g3⟩ := fars p 7
  have ix : ∀ c, nI w * 7 + nI c = nI (w * 7 + c) := fun c => by rw [show (7 : Int32) = nI 7 from rfl, pk_mul, nI_add]
  have step : ∀ c, c < 7 → b_X2_spells_3 (nI w) (nI q) (nI e) (nI c) σ = some (if p c = true then .inl (nI (c + 1)) else .inr (.inr 0)) := fun c hc => by
    have n7 : ¬ (7 : Int32) ≤ nI c := nle_of_lt (m := 7) hc (by decide)
    unfold b_X2_spells_3
    rw [if_neg n7, nI_add, ix]
    by_cases hqc : q + c < e
    · have hp : p c = decide (s (q + c) = tchN 1 (w * 7 + c)) := by rw [ep]; exact if_pos hqc
      rw [if_neg (nle_of_lt hqc (by omega)), ck_n (by omega) (by decide), nI_clamp (by omega), h.2.2 _ (by omega), bnd_s, ck_n (by omega) (by decide), nI_clamp (by omega), hp]
      by_cases hs : s (q + c) = tchN 1 (w * 7 + c)
      · rw [if_pos hs, bnd_s, nI_1, if_pos (decide_eq_true hs)]
      · rw [if_neg hs, if_neg (fun z => hs (of_decide_eq_true z))]
    · have hp : p c = decide (32 = tchN 1 (w * 7 + c)) := by rw [ep]; exact if_neg hqc
      rw [if_pos (le_of_le (by omega) (by omega)), ck_n (by omega) (by decide), nI_clamp (by omega), hp]
      by_cases hs : 32 = tchN 1 (w * 7 + c)
      · rw [if_pos hs, bnd_s, nI_1, if_pos (decide_eq_true hs)]
      · rw [if_neg hs, if_neg (fun z => hs (of_decide_eq_true z))]
  have hrun : ∃ r, itr (fun z => b_X2_spells_3 (nI w) (nI q) (nI e) z σ) lfu 0 = some r ∧ (r = if K = 7 then .inl (nI 7) else .inr 0) := by
    refine itr_run (f := fun z => b_X2_spells_3 (nI w) (nI q) (nI e) z σ) (I := fun c z => z = nI c) (R := fun r => r = if K = 7 then .inl (nI 7) else .inr 0) K (a := 0) rfl ?_ ?_ (by omega)
    · intro c hc z hz
      subst hz
      rw [step c (by omega), if_pos (g2 c hc)]
      exact ⟨_, rfl, rfl⟩
    · intro z hz
      subst hz
      by_cases hK : K = 7
      · subst hK
        unfold b_X2_spells_3
        rw [if_pos (by decide), if_pos rfl]
        exact ⟨_, rfl, rfl⟩
      · rw [step K (by omega), if_neg (g3.resolve_left hK), if_neg hK]
        exact ⟨_, rfl, rfl⟩
  obtain ⟨r, e1, e2⟩ := hrun
  -- all of it, and a word of the model
  have hall : (∀ c, c < 7 → p c = true) ↔ wm s q e w = true := by
    have hc1 : ∀ c, c < 6 → (p c = true ↔ (if q + c < e then decide (nmw.getD (6 * w + c) 0 = s (q + c)) else decide (nmw.getD (6 * w + c) 0 = 0)) = true) := fun c hc => by
      have ht := t7 w hw c (by omega)
      rw [ep]
      by_cases hqc : q + c < e
      · show (if q + c < e then _ else _) = true ↔ _
        rw [if_pos hqc, if_pos hqc, decide_eq_true_iff, decide_eq_true_iff, ht]
        obtain ⟨l0, l32⟩ := isL_n (hL (q + c) (by omega) hqc)
        by_cases h0 : nmw.getD (6 * w + c) 0 = 0
        · rw [if_neg (fun z => z.2 h0), h0]
          exact ⟨fun z => absurd z l32, fun z => absurd z.symm l0⟩
        · rw [if_pos ⟨hc, h0⟩]
          exact ⟨fun z => z.symm, fun z => z.symm⟩
      · show (if q + c < e then _ else _) = true ↔ _
        rw [if_neg hqc, if_neg hqc, decide_eq_true_iff, decide_eq_true_iff, ht]
        by_cases h0 : nmw.getD (6 * w + c) 0 = 0
        · rw [if_neg (fun z => z.2 h0)]
          exact ⟨fun _ => h0, fun _ => rfl⟩
        · rw [if_pos ⟨hc, h0⟩]
          refine ⟨fun z => ?_, fun z => absurd z h0⟩
          exfalso
          have hno : ∀ w, w < 12 → ∀ c, c < 6 → ¬ (32 : Int32) = nmw.getD (6 * w + c) 0 := by decide +kernel
          exact hno w hw c hc z
    unfold wm
    rw [Bool.and_eq_true, decide_eq_true_iff, List.all_eq_true]
    constructor
    · intro hh
      exact ⟨h6, fun c hc => (hc1 c (List.mem_range.mp hc)).mp (hh c (by have := List.mem_range.mp hc; omega))⟩
    · intro hh c hc
      by_cases hc6 : c < 6
      · exact (hc1 c hc6).mpr (hh.2 c (List.mem_range.mpr hc6))
      · have h6' : c = 6 := by omega
        subst h6'
        rw [ep]
        show (if q + 6 < e then _ else _) = true
        rw [if_neg (by omega), decide_eq_true_iff, t7 w hw 6 (by decide), if_neg (fun z => absurd z.1 (by decide))]
  unfold f_X2_spells
  rw [e1, e2]
  by_cases hK : K = 7
  · rw [if_pos hK, bs_l, if_pos (hall.mp (fun c hc => g2 c (by omega)))]
  · rw [if_neg hK, bs_r, if_neg (fun z => g3.resolve_left hK (hall.mpr z K (by omega)))]
theorem wordAt_c {σ : sg_T} (h : TPE s l σ) {q e : Nat} (hqe : q ≤ e) (he : e ≤ l) (hL : ∀ j, q ≤ j → j < e → isL (s j) = true) : f_X2_wordAt (nI q) (nI e) σ = some (if wix s q e = -1 then 302 else wix s q e) := by
  have hl := h.1
  obtain ⟨K, g1, g2, g3⟩ := fars (fun w => !wm s q e w) 12
  have esub : (nI e - nI q).toInt = e - q := by rw [pk_sub_toInt (by omega) (by omega)]
  have e7 : (7 : Int32).toInt = 7 := by decide
  have step : ∀ w, w < 12 → b_X2_wordAt_2 (nI q) (nI e) (nI w) σ = some (if (!wm s q e w) = true then .inl (nI (w + 1)) else .inr (.inr (nI w))) := fun w hw => by
    have n12 : ¬ (12 : Int32) ≤ nI w := nle_of_lt (m := 12) hw (by decide)
    unfold b_X2_wordAt_2
    rw [if_neg n12]
    by_cases h6 : e - q ≤ 6
    · have n7 : ¬ (7 : Int32) ≤ nI e - nI q := by rw [Int32.le_iff_toInt_le, esub]; omega
      rw [if_neg n7, spells_c h hw hqe he h6 hL, bd1_s]
      by_cases hm : wm s q e w = true
      · rw [if_pos hm, if_neg (by decide), if_neg (by rw [hm]; decide)]
      · have hm' : (!wm s q e w) = true := by
          rcases hh : wm s q e w with _ | _
          · rfl
          · exact absurd hh hm
        rw [if_neg hm, if_pos rfl, bnd_s, nI_1, if_pos hm']
    · have y7 : (7 : Int32) ≤ nI e - nI q := by rw [Int32.le_iff_toInt_le, esub]; omega
      have hm' : (!wm s q e w) = true := by
        unfold wm
        rw [decide_eq_false h6]; rfl
      rw [if_pos y7, bnd_s, nI_1, if_pos hm']
  have hrun : ∃ r, itr (fun z => b_X2_wordAt_2 (nI q) (nI e) z σ) lfu 0 = some r ∧ (r = if K = 12 then .inl (nI 12) else .inr (nI K)) := by
    refine itr_run (f := fun z => b_X2_wordAt_2 (nI q) (nI e) z σ) (I := fun c z => z = nI c) (R := fun r => r = if K = 12 then .inl (nI 12) else .inr (nI K)) K (a := 0) rfl ?_ ?_ (by omega)
    · intro c hc z hz
      subst hz
      rw [step c (by omega), if_pos (g2 c hc)]
      exact ⟨_, rfl, rfl⟩
    · intro z hz
      subst hz
      by_cases hK : K = 12
      · subst hK
        unfold b_X2_wordAt_2
        rw [if_pos (by decide), if_pos rfl]
        exact ⟨_, rfl, rfl⟩
      · rw [step K (by omega), if_neg (g3.resolve_left hK), if_neg hK]
        exact ⟨_, rfl, rfl⟩
  obtain ⟨r, e1, e2⟩ := hrun
  unfold f_X2_wordAt
  rw [e1, e2]
  unfold wix
  by_cases hK : K = 12
  · rw [if_pos hK, bs_l, if_pos (fo_all 12 (fun w hw => g2 w (by omega)))]
  · have hf := fo_at g2 (g3.resolve_left hK) (by omega) 12 (by omega)
    rw [if_neg hK, bs_r, hf, if_neg (nI_ne_m1 (by omega))]
theorem runl_c {σ : sg_T} (h : TPE s l σ) {p : Nat} (hp : p ≤ l) (u1 u2 : Int32) : itr (fun q => b_X2_splitOff_18 u1 u2 q σ) lfu (nI p) = some (nI (rnl (fun j => isL (s j)) l p)) := by
  have hl := h.1
  obtain ⟨h1, h2, h3, h4⟩ := rnl_rng (fun j => isL (s j)) hp
  obtain ⟨N, hN⟩ : ∃ N, rnl (fun j => isL (s j)) l p = p + N := ⟨rnl (fun j => isL (s j)) l p - p, by omega⟩
  rw [hN] at h2 h3 h4 ⊢
  refine itr_seq (fun k => nI (p + k)) N (fun k hk => ?_) ?_ (by omega)
  · show b_X2_splitOff_18 u1 u2 (nI (p + k)) σ = _
    have hL : isL (s (p + k)) = true := h4 (p + k) (by omega) (by omega)
    unfold b_X2_splitOff_18
    rw [h.2.1, if_neg (nle_of_lt (by omega) (by omega)), ck_n (by omega) (by decide), nI_clamp (by omega), h.2.2 _ (by omega), let_c, bd1_s, if_pos hL, if_neg (by decide), bnd_s, nI_1]
    rfl
  · show b_X2_splitOff_18 u1 u2 (nI (p + N)) σ = _
    unfold b_X2_splitOff_18
    by_cases hpl : p + N < l
    · have hL : ¬ isL (s (p + N)) = true := fun q => h3 ⟨hpl, q⟩
      rw [h.2.1, if_neg (nle_of_lt hpl (by omega)), ck_n (by omega) (by decide), nI_clamp (by omega), h.2.2 _ hpl, let_c, bd1_s, if_neg hL, if_pos rfl]
    · rw [h.2.1, if_pos (le_of_le (by omega) (by omega))]
theorem rund_c {σ : sg_T} (h : TPE s l σ) {p : Nat} (hp : p ≤ l) (u1 u2 : Int32) : itr (fun q => b_X2_splitOff_69 u1 u2 q σ) lfu (nI p) = some (nI (rnl (fun j => isD (s j)) l p)) := by
  have hl := h.1
  obtain ⟨h1, h2, h3, h4⟩ := rnl_rng (fun j => isD (s j)) hp
  obtain ⟨N, hN⟩ : ∃ N, rnl (fun j => isD (s j)) l p = p + N := ⟨rnl (fun j => isD (s j)) l p - p, by omega⟩
  rw [hN] at h2 h3 h4 ⊢
  refine itr_seq (fun k => nI (p + k)) N (fun k hk => ?_) ?_ (by omega)
  · show b_X2_splitOff_69 u1 u2 (nI (p + k)) σ = _
    have hL : isD (s (p + k)) = true := h4 (p + k) (by omega) (by omega)
    unfold b_X2_splitOff_69
    rw [h.2.1, if_neg (nle_of_lt (by omega) (by omega)), ck_n (by omega) (by decide), nI_clamp (by omega), h.2.2 _ (by omega), dig_c, bd1_s, if_pos hL, if_neg (by decide), bnd_s, nI_1]
    rfl
  · show b_X2_splitOff_69 u1 u2 (nI (p + N)) σ = _
    unfold b_X2_splitOff_69
    by_cases hpl : p + N < l
    · have hL : ¬ isD (s (p + N)) = true := fun q => h3 ⟨hpl, q⟩
      rw [h.2.1, if_neg (nle_of_lt hpl (by omega)), ck_n (by omega) (by decide), nI_clamp (by omega), h.2.2 _ hpl, dig_c, bd1_s, if_neg hL, if_pos rfl]
    · rw [h.2.1, if_pos (le_of_le (by omega) (by omega))]
theorem num_c {σ : sg_T} (h : TPE s l σ) {q e : Nat} (hqe : q ≤ e) (he : e ≤ l) : itr (fun z => b_X2_addNumber_22 (nI q) (nI e) z.1 z.2 σ) lfu (0, nI q) = some (nv s q (e - q), nI e) := by
  have hl := h.1
  obtain ⟨N, hN⟩ : ∃ N, e = q + N := ⟨e - q, by omega⟩
  subst hN
  rw [show q + N - q = N by omega]
  refine itr_seq (fun k => (nv s q k, nI (q + k))) N (fun k hk => ?_) ?_ (by omega)
  · show b_X2_addNumber_22 (nI q) (nI (q + N)) (nv s q k) (nI (q + k)) σ = _
    unfold b_X2_addNumber_22
    rw [if_neg (nle_of_lt (by omega) (by omega)), ck_n (by omega) (by decide), nI_clamp (by omega), h.2.2 _ (by omega), bnd_s, bnd_s, nI_1]
    rfl
  · show b_X2_addNumber_22 (nI q) (nI (q + N)) (nv s q N) (nI (q + N)) σ = _
    unfold b_X2_addNumber_22
    rw [if_pos (Int32.le_refl _)]
/-- j tokens stand there -/
def TS (s : Nat → Int32) (l : Nat) (σ : sg_T) (j : Nat) : Prop := TPE s l σ ∧ σ 1 5 = nI j ∧ ∀ i, i < j → σ 3 i = Kt s l (Pt s l i) ∧ σ 4 i = nI (Pt s l i) ∧ (Kt s l (Pt s l i) = 300 → σ 5 i = Vt s l (Pt s l i))
def FS (σ τ : sg_T) : Prop := (∀ q, q ≠ 1 → q ≠ 3 → q ≠ 4 → q ≠ 5 → τ q = σ q) ∧ ∀ j, j ≠ 5 → τ 1 j = σ 1 j
theorem FS.rfl' (σ : sg_T) : FS σ σ := ⟨fun _ _ _ _ _ => rfl, fun _ _ => rfl⟩
theorem FS.two {σ τ ρ : sg_T} (h1 : FS σ τ) (h2 : FS τ ρ) : FS σ ρ := ⟨fun q a b c d => by rw [h2.1 q a b c d, h1.1 q a b c d], fun j hj => by rw [h2.2 j hj, h1.2 j hj]⟩
theorem tok_c {σ : sg_T} {j : Nat} (h : TS s l σ j) (hj : j ≤ 160) {c v : Int32} (hc : c = Kt s l (Pt s l j)) (hv : Kt s l (Pt s l j) = 300 → v = Vt s l (Pt s l j)) : ∃ τ, f_X2_addToken c (nI (Pt s l j)) v σ = some τ ∧ TS s l τ (j + 1) ∧ FS σ τ := by
  obtain ⟨⟨h1, h2, h3⟩, h5, h6⟩ := h
  have n160 : ¬ (160 : Int32) < nI j := Int32.not_lt.mpr (le_of_le (i := 160) hj (by decide))
  unfold f_X2_addToken
  rw [h5, if_neg n160, ck_n (by omega) (by decide), nI_clamp (by omega), bnd_s, up_ne (show 1 ≠ 3 by decide), h5, ck_n (by omega) (by decide), nI_clamp (by omega), bnd_s, up_ne (show 1 ≠ 4 by decide), up_ne (show 1 ≠ 3 by decide), h5, ck_n (by omega) (by decide), nI_clamp (by omega), bnd_s, up_ne (show 1 ≠ 5 by decide), up_ne (show 1 ≠ 4 by decide), up_ne (show 1 ≠ 3 by decide), h5, bnd_s, nI_1]
  refine ⟨_, rfl, ⟨⟨h1, ?_, fun i hi => ?_⟩, up_eq, fun i hi => ?_⟩, fun q a b c d => by rw [up_n a, up_n d, up_n c, up_n b], fun k hk => by rw [up_nk hk, up_ne (by decide), up_ne (by decide), up_ne (by decide)]⟩
  · rw [up_nk (by decide), up_ne (by decide), up_ne (by decide), up_ne (by decide)]; exact h2
  · rw [up_ne (by decide), up_ne (by decide), up_ne (by decide), up_ne (by decide)]; exact h3 i hi
  · by_cases hij : i = j
    · subst hij
      refine ⟨?_, ?_, fun q => ?_⟩
      · rw [up_ne (by decide), up_ne (by decide), up_ne (by decide), up_eq]; exact hc
      · rw [up_ne (by decide), up_ne (by decide), up_eq]
      · rw [up_ne (by decide), up_eq]; exact hv q
    · obtain ⟨k1, k2, k3⟩ := h6 i (by omega)
      refine ⟨?_, ?_, fun q => ?_⟩
      · rw [up_ne (by decide), up_ne (by decide), up_ne (by decide), up_nk hij]; exact k1
      · rw [up_ne (by decide), up_ne (by decide), up_nk hij, up_ne (by decide)]; exact k2
      · rw [up_ne (by decide), up_nk hij, up_ne (by decide), up_ne (by decide)]; exact k3 q
theorem off_c {σ : sg_T} {j : Nat} (h : TS s l σ j) (hj : j ≤ 160) (hp : Pt s l j < l) : ∃ τ, f_X2_splitOff (nI (Pt s l j)) σ = some (nI (endt s l (Pt s l j)), τ) ∧ TS s l τ (j + 1) ∧ FS σ τ := by
  have hl := h.1.1
  obtain ⟨q, eq⟩ : ∃ q, q = Pt s l j := ⟨_, rfl⟩
  obtain ⟨r1, r2⟩ := endt_rng s l hp
  rw [← eq] at hp r1 r2
  unfold f_X2_splitOff
  rw [← eq, ck_n (by omega) (by decide), nI_clamp (by omega), h.1.2.2 q hp, bnd_s, let_c, bd1_s]
  by_cases hL : isL (s q) = true
  · have ee : endt s l q = rnl (fun j => isL (s j)) l (q + 1) := by unfold endt; rw [if_pos hL]
    have hLs : ∀ i, q ≤ i → i < endt s l q → isL (s i) = true := fun i g1 g2 => by
      by_cases hi : i = q
      · rw [hi]; exact hL
      · rw [ee] at g2
        exact (rnl_rng (fun j => isL (s j)) (l := l) (p := q + 1) (by omega)).2.2.2 i (by omega) g2
    have hK : Kt s l q = if wix s q (endt s l q) = -1 then 302 else wix s q (endt s l q) := by
      unfold Kt; rw [if_pos hp, if_pos hL]
    obtain ⟨τ, e1, t1, f1⟩ := tok_c h hj (c := if wix s q (endt s l q) = -1 then 302 else wix s q (endt s l q)) (v := 0) (by rw [← eq]; exact hK.symm) (fun z => by
      rw [← eq, hK] at z
      exfalso
      by_cases hw : wix s q (endt s l q) = -1
      · rw [if_pos hw] at z; exact absurd z (by decide)
      · rw [if_neg hw] at z
        rcases fo_rng (fun w => !wm s q (endt s l q) w) 12 (by decide) with g | ⟨k, g1, g2, _⟩
        · exact hw g
        · have g2' : wix s q (endt s l q) = nI k := g2
          rw [g2'] at z
          exact absurd (nI_inj (j := 300) (by omega) (by decide) z) (by omega))
    rw [← eq] at e1
    rw [if_pos hL, if_neg (by decide), nI_1, bnd_s, runl_c h.1 (by omega), bd1_s, ← ee, wordAt_c h.1 (by omega) r2 hLs, bd1_s, e1, bd1_s]
    exact ⟨τ, rfl, t1, f1⟩
  · rw [if_neg hL, if_pos rfl, dig_c, bd1_s]
    by_cases hD : isD (s q) = true
    · have ee : endt s l q = rnl (fun j => isD (s j)) l (q + 1) := by unfold endt; rw [if_neg hL, if_pos hD]
      have hK : Kt s l q = if endt s l q - q ≤ 4 then 300 else 302 := by
        unfold Kt; rw [if_pos hp, if_neg hL, if_pos hD]
      rw [if_pos hD, if_neg (by decide), nI_1, bnd_s, rund_c h.1 (by omega), bd1_s, ← ee]
      have e4 : (4 : Int32).toInt = 4 := by decide
      unfold f_X2_addNumber
      by_cases h4 : endt s l q - q ≤ 4
      · rw [if_pos h4] at hK
        have h4' : nI (endt s l q) - nI q ≤ 4 := by
          rw [Int32.le_iff_toInt_le, pk_sub_toInt (by omega) (by omega)]; omega
        obtain ⟨τ, e1, t1, f1⟩ := tok_c h hj (c := 300) (v := nv s q (endt s l q - q)) (by rw [← eq]; exact hK.symm) (fun _ => by rw [← eq]; rfl)
        rw [← eq] at e1
        rw [if_pos h4', num_c h.1 (by omega) r2, bd2_s, e1, bd1_s, bd1_s]
        exact ⟨τ, rfl, t1, f1⟩
      · rw [if_neg h4] at hK
        have h4' : ¬ nI (endt s l q) - nI q ≤ 4 := by
          rw [Int32.le_iff_toInt_le, pk_sub_toInt (by omega) (by omega)]; omega
        obtain ⟨τ, e1, t1, f1⟩ := tok_c h hj (c := 302) (v := 0) (by rw [← eq]; exact hK.symm) (fun z => by rw [← eq, hK] at z; exact absurd z (by decide))
        rw [← eq] at e1
        rw [if_neg h4', e1, bd1_s, bd1_s]
        exact ⟨τ, rfl, t1, f1⟩
    · have ee : endt s l q = q + 1 := by unfold endt; rw [if_neg hL, if_neg hD]
      have hK : Kt s l q = if isG (s q) = true then s q else 302 := by
        unfold Kt; rw [if_pos hp, if_neg hL, if_neg hD]
      rw [if_neg hD, if_pos rfl, sgn_c, bd1_s, bnd_s]
      have hcode : (if (if isG (s q) = true then (1 : Int32) else 0) = 0 then (302 : Int32) else s q) = Kt s l (Pt s l j) := by
        rw [← eq, hK]
        by_cases hG : isG (s q) = true
        · rw [if_pos hG, if_neg (by decide), if_pos hG]
        · rw [if_neg hG, if_pos rfl, if_neg hG]
      obtain ⟨τ, e1, t1, f1⟩ := tok_c h hj (c := if (if isG (s q) = true then (1 : Int32) else 0) = 0 then (302 : Int32) else s q) (v := 0) hcode (fun z => by
        rw [← eq, hK] at z
        exfalso
        by_cases hG : isG (s q) = true
        · rw [if_pos hG] at z
          rcases isG_v hG with g | g | g | g | g | g | g | g <;> (rw [g] at z; exact absurd z (by decide))
        · rw [if_neg hG] at z; exact absurd z (by decide))
      rw [← eq] at e1
      rw [e1, bd1_s, nI_1, ee]
      exact ⟨τ, rfl, t1, f1⟩
theorem split_c {σ : sg_T} (h : TPE s l σ) {K : Nat} (hK1 : Pt s l K = l) (hK2 : ∀ j, j < K → Pt s l j < l) : ∃ τ, f_X2_split σ = some τ ∧ TS s l τ (K + 1) ∧ FS σ τ := by
  have hl := h.1
  obtain ⟨σ1, q1⟩ : ∃ τ, τ = up σ 1 5 0 := ⟨_, rfl⟩
  have f1 : FS σ σ1 := ⟨fun q a _ _ _ => by rw [q1, up_n a], fun j hj => by rw [q1, up_nk hj]⟩
  have hTS0 : TS s l σ1 0 := ⟨⟨hl, by rw [q1, up_nk (by decide)]; exact h.2.1, fun i hi => by rw [q1, up_ne (by decide)]; exact h.2.2 i hi⟩, by rw [q1, up_eq]; rfl, fun i hi => absurd hi (Nat.not_lt_zero _)⟩
  have hrun : ∃ r, itr (fun q => b_X2_split_9 q.1 q.2.1 q.2.2) lfu (0, 0, σ1) = some r ∧ (TS s l r.2.2 K ∧ FS σ1 r.2.2) := by
    refine itr_run (f := fun q => b_X2_split_9 q.1 q.2.1 q.2.2) (I := fun i q => ∃ e j, q.1 = nI e ∧ q.2.1 = nI i ∧ e ≤ l ∧ TS s l q.2.2 j ∧ Pt s l j = skp s l (max e i) ∧ (∀ t, t < j → Pt s l t < l) ∧ FS σ1 q.2.2) (R := fun r => TS s l r.2.2 K ∧ FS σ1 r.2.2) l (a := (0, 0, σ1)) ⟨0, 0, rfl, rfl, Nat.zero_le _, hTS0, rfl, fun t ht => absurd ht (Nat.not_lt_zero _), FS.rfl' σ1⟩ ?_ ?_ (by omega)
    · intro i hi ⟨w1, w2, τ⟩ ⟨e, j, hw1, hw2, he, hTS, hP, hB, hF⟩
      dsimp only at hw1 hw2 hTS hF ⊢
      subst hw1 hw2
      unfold b_X2_split_9
      rw [hTS.1.2.1, if_neg (nle_of_lt hi (by omega))]
      by_cases hie : i < e
      · have h1 : nI i < nI e := Int32.not_le.mp (nle_of_lt hie (by omega))
        rw [if_pos h1, bnd_s, nI_1]
        refine ⟨_, rfl, e, j, rfl, rfl, he, hTS, ?_, hB, hF⟩
        rw [hP, show max e (i + 1) = max e i by omega]
      · have h1 : ¬ nI i < nI e := Int32.not_lt.mpr (le_of_le (by omega) (by omega))
        have hmx : max e i = i := by omega
        rw [hmx] at hP
        rw [if_neg h1, ck_n (by omega) (by decide), nI_clamp (by omega), hTS.1.2.2 i hi]
        by_cases hb : isB (s i) = true
        · have hbl : skp s l i = skp s l (i + 1) := rnl_s _ ⟨hi, hb⟩
          have hgo : Pt s l j = skp s l (max e (i + 1)) := by rw [hP, hbl, show max e (i + 1) = i + 1 by omega]
          by_cases h32 : s i = 32
          · rw [if_pos h32, bnd_s, nI_1]
            exact ⟨_, rfl, e, j, rfl, rfl, he, hTS, hgo, hB, hF⟩
          · rw [if_neg h32, ck_n (by omega) (by decide), if_pos ((of_decide_eq_true hb).resolve_left h32), bnd_s, nI_1]
            exact ⟨_, rfl, e, j, rfl, rfl, he, hTS, hgo, hB, hF⟩
        · have hst : skp s l i = i := rnl_e _ (fun q => hb q.2)
          have hPi : Pt s l j = i := by rw [hP, hst]
          have h32 : ¬ s i = 32 := fun q => hb (decide_eq_true (Or.inl q))
          have h10 : ¬ s i = 10 := fun q => hb (decide_eq_true (Or.inr q))
          have hPl : Pt s l j < l := by omega
          have hj : j ≤ 160 := by
            have := Pt_ge s l j hPl; omega
          obtain ⟨τ1, e1, t1, g1⟩ := off_c hTS hj hPl
          rw [hPi] at e1
          obtain ⟨r1, r2⟩ := endt_rng s l hi
          rw [if_neg h32, ck_n (by omega) (by decide), if_neg h10, e1, bd2_s, bnd_s, nI_1]
          refine ⟨_, rfl, endt s l i, j + 1, rfl, rfl, r2, t1, ?_, fun t ht => ?_, hF.two g1⟩
          · rw [Pt_1, if_pos hPl, hPi, show max (endt s l i) (i + 1) = endt s l i by omega]
          · by_cases htj : t = j
            · rw [htj]; exact hPl
            · exact hB t (by omega)
    · intro ⟨w1, w2, τ⟩ ⟨e, j, hw1, hw2, he, hTS, hP, hB, hF⟩
      dsimp only at hw1 hw2 hTS hF ⊢
      subst hw1 hw2
      have hmx : max e l = l := by omega
      have hPl : Pt s l j = l := by
        rw [hP, hmx]
        exact rnl_e _ (fun q => absurd q.1 (Nat.lt_irrefl _))
      have hjK : j = K := by
        by_cases h1 : j < K
        · have := hK2 j h1; omega
        · by_cases h2 : K < j
          · have := hB K h2; omega
          · omega
      subst hjK
      unfold b_X2_split_9
      rw [hTS.1.2.1, if_pos (Int32.le_refl _)]
      exact ⟨_, rfl, hTS, hF⟩
  obtain ⟨⟨w1, w2, τ⟩, e1, t1, g1⟩ := hrun
  dsimp only at t1 g1
  have hKl : K ≤ 160 := by
    by_cases hK0 : K = 0
    · omega
    · have h1 := hK2 (K - 1) (by omega)
      have h2 := Pt_ge s l (K - 1) h1
      omega
  have hKK : Kt s l (Pt s l K) = 301 := (Kt_301 s l _).mpr (by omega)
  obtain ⟨τ2, e2, t2, g2⟩ := tok_c t1 hKl (c := 301) (v := 0) hKK.symm (fun z => by rw [hKK] at z; exact absurd z (by decide))
  refine ⟨τ2, ?_, t2, (f1.two g1).two g2⟩
  rw [hK1] at e2
  unfold f_X2_split
  rw [bnd_s, ← q1, e1, bd3_s, t1.1.2.1, e2, bd1_s]
end SplitB
