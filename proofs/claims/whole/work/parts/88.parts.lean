/-! A part of a text, by both. -/
section PartB
variable {C V : Nat → Int32} {K o : Nat}
/-- a part is at fault at k' -/
def PFt (C V : Nat → Int32) (w k : Nat) (cs : List Int32) (k' : Nat) : Prop := (C k ≠ nI (6 + w) ∧ k' = k) ∨ (C k = nI (6 + w) ∧ ∃ c res, c ≤ 200 ∧ itr (mst C V) c (true, k + 1, cs, []) = some res ∧ res.2.1 = k' ∧ (res.1 = true → C k' ≠ 59))
/-- a part is read, up to k2 -/
def POk (C V : Nat → Int32) (w k : Nat) (cs : List Int32) (k2 : Nat) (ds : List Int32) : Prop := C k = nI (6 + w) ∧ ∃ c k', c ≤ 200 ∧ itr (mst C V) c (true, k + 1, cs, []) = some (true, k', cs ++ ds) ∧ C k' = 59 ∧ k2 = k' + 1 ∧ (cs ++ ds).length ≤ k' ∧ dok ds 31
theorem okW0 (k : Nat) : okW C 0 0 k [] := ⟨Nat.le_refl _, rfl, fun q => absurd q (by decide)⟩
theorem fl_itr {s : mc_T} {k0 k : Nat} (h : Fl C V s k0 k) : ∃ cs, itr (mst C V) (1 + (k - k0)) s = some (false, k, cs) := by
  obtain ⟨s', cs, h1, h2⟩ := h
  exact ⟨cs, by rw [h1 1]; exact itr_r h2⟩
/-- where an E outside of brackets ends -/
theorem end_top {k : Nat} {cs W ds : List Int32} (hc : clo C 0 k cs W) (hs : stl 1 cs W = (ds, [])) : ∃ res : mr_T, mst C V (false, k, cs, W) = some (.inr res) ∧ res.2.1 = k ∧ (C k = 59 → res = (true, k, ds)) := by
  by_cases h41 : C k = 41
  · refine ⟨(false, k, (stl 1 cs W).1), ?_, rfl, fun q => absurd (h41.symm.trans q) (by decide)⟩
    show some (mstA C k cs W) = _
    unfold mstA
    rw [if_pos h41, if_pos (by rw [hs])]
    rfl
  · have h42 := hc.1 (by decide)
    obtain ⟨h43, h45⟩ := hc.2.1 (by decide)
    have hcm := hc.2.2.1 (by decide)
    have h10 := hc.2.2.2.1 (by decide)
    have h9 := hc.2.2.2.2 (by decide)
    by_cases hcmp : C k = 60 ∨ C k = 61
    · have ht := hcm hcmp
      have hbt : btw (C k) ≠ 0 ∧ rk (btw (C k)) = 4 ∧ C k ≠ 59 := by
        rcases hcmp with h | h <;> rw [h] <;> decide
      refine ⟨(false, k, (stl 5 cs W).1), ?_, rfl, fun q => absurd q hbt.2.2⟩
      show some (mstA C k cs W) = _
      unfold mstA
      rw [if_neg h41, if_neg hbt.1, if_pos hbt.2.1, if_pos ht]
      rfl
    · have hb : btw (C k) = 0 := by
        unfold btw
        rw [if_neg h9, if_neg h10, if_neg (fun q => hcmp (Or.inl q)), if_neg (fun q => hcmp (Or.inr q)), if_neg h43, if_neg h45, if_neg h42]
      refine ⟨(true, k, ds), ?_, rfl, fun _ => rfl⟩
      show some (mstA C k cs W) = _
      unfold mstA
      rw [if_neg h41, if_pos hb, hs]
      rfl
def FP (o : Nat) (σ τ : sg_T) : Prop := (∀ q, q ≠ 1 → q ≠ o → q ≠ o + 1 → q ≠ o + 2 → τ q = σ q) ∧ ∀ j, j ≠ 6 → τ 1 j = σ 1 j
theorem FP.two {σ τ ρ : sg_T} (h1 : FP o σ τ) (h2 : FP o τ ρ) : FP o σ ρ := ⟨fun q a b c d => by rw [h2.1 q a b c d, h1.1 q a b c d], fun j hj => by rw [h2.2 j hj, h1.2 j hj]⟩
theorem FP.of {σ τ : sg_T} (h : FR o σ τ) : FP o σ τ := ⟨fun q a b c _ => h.1 q a b c, h.2⟩
theorem CF.eq {σ τ : sg_T} {k : Nat} (h : CF C V K o σ k) (h1 : ∀ j, τ 1 j = σ 1 j) (h3 : τ 3 = σ 3) (h5 : τ 5 = σ 5) (ho : τ o = σ o) : CF C V K o τ k := by
  obtain ⟨g1, g2, g3, g4, g5, g6, g7, g8, g9, g10, g11⟩ := h
  exact ⟨by rw [h1]; exact g1, by rw [h1]; exact g2, g3, g4, fun j hj => by rw [h3]; exact g5 j hj, fun j hj hc => by rw [h5]; exact g6 j hj hc, by rw [h1]; exact g7, g8, by rw [ho]; exact g9, g10, g11⟩
theorem endP_c {σ : sg_T} {k w : Nat} (h : CF C V K o σ k) (hw : w < 3) : f_X5_endPart o (nI w) σ = some (up σ (o + 2) w (σ o 2)) ∧ CF C V K o (up σ (o + 2) w (σ o 2)) k ∧ FP o σ (up σ (o + 2) w (σ o 2)) := by
  have h8 := h.2.2.2.2.2.2.2.1
  have h3 : ¬ (3 : Int32) ≤ nI w := nle_of_lt (m := 3) hw (by decide)
  refine ⟨?_, h.eq (fun j => by rw [up_ne (by omega)]) (up_n (by omega)) (up_n (by omega)) (up_n (by omega)), fun q a b c d => up_n d, fun j _ => by rw [up_ne (by omega)]⟩
  unfold f_X5_endPart
  rw [if_neg (nI_pos (by omega)), if_neg h3, ck_n hw (by decide), nI_clamp (by omega), bnd_s]
theorem part_rd (hV : ∀ j, j ≤ K → C j = 300 → 0 ≤ V j) {w k : Nat} {cs : List Int32} {σ : sg_T} (hw : w < 3) (h : CR C V K o σ k cs) (hlen : cs.length ≤ k) : (∃ τ k', f_X2_readPart (nI w) σ = some (0, τ) ∧ FP o σ τ ∧ CF C V K o τ k' ∧ PFt C V w k cs k') ∨ (∃ τ k2 ds, f_X2_readPart (nI w) σ = some (1, τ) ∧ FP o σ τ ∧ CR C V K o τ k2 (cs ++ ds) ∧ POk C V w k cs k2 ds ∧ (cs ++ ds).length ≤ k2 ∧ ∀ j, τ (o + 2) j = if j = w then nI (cs ++ ds).length else σ (o + 2) j) := by
  have h8 := h.1.2.2.2.2.2.2.2.1
  have hK160 := h.1.2.2.2.1
  have e6 : (6 : Int32) + nI w = nI (6 + w) := by rw [n_6, nI_add]
  unfold f_X2_readPart
  rw [e6]
  by_cases hc : C k = nI (6 + w)
  · have hne : C k ≠ 301 := by rw [hc]; exact nIne (k := 301) (by omega) (by decide) (by omega)
    have hkK := lt_K h.1 hne
    have hCR1 := h.go hne
    have fgo := FR.go (o := o) σ (nI (k + 1)) h8
    obtain ⟨r, τ, k', e1, f1, hres⟩ := (rd_all (o := o) hV 64).1 0 (k + 1) cs _ (by decide) hCR1 (by omega) (by decide)
    have e1' : g_read rfu 0 0 (up σ 1 6 (nI (k + 1))) = some (r, τ) := e1
    rw [pass_y h.1 hc, bd2_s, if_neg (by decide), e1', bd2_s]
    rcases hres with ⟨rfl, hCF, hk', hFl⟩ | ⟨rfl, ds, hCR2, hk', hl2, hd2, hM2⟩
    · left
      obtain ⟨p1, p2, p3⟩ := endP_c hCF hw
      obtain ⟨cs', hi⟩ := fl_itr (hFl [] (okW0 _))
      have hkK' := hCF.2.2.1
      rw [if_pos rfl, cT_o hCF, cl_o hCF, p1, bd1_s]
      exact ⟨_, k', rfl, (FP.of (fgo.two f1)).two p3, p2, Or.inr ⟨hc, 1 + (k' - (k + 1)), _, by omega, hi, rfl, fun q => absurd (show (false : Bool) = true from q) (by decide)⟩⟩
    · obtain ⟨cs1, W1, h1, h2, h3⟩ := hM2 [] (okW0 _)
      have h2' : stl 1 cs1 W1 = (cs ++ ds, []) := h2
      obtain ⟨res, m1, m2, m3⟩ := end_top (V := V) h3 h2'
      have hkK' := hCR2.1.2.2.1
      have hi : itr (mst C V) (1 + (k' - (k + 1))) (true, k + 1, cs, []) = some res := by rw [h1 1]; exact itr_r m1
      have hl3 : (cs ++ ds).length ≤ k' := by rw [List.length_append]; omega
      rw [if_neg (by decide)]
      by_cases h59 : C k' = 59
      · right
        have hne' : C k' ≠ 301 := by rw [h59]; decide
        have hCR3 := hCR2.go hne'
        obtain ⟨p1, p2, p3⟩ := endP_c hCR3.1 hw
        rw [pass_y hCR2.1 h59, bd2_s, if_neg (by decide), bnd_s, cT_o hCR3.1, cl_o hCR3.1, p1, bd1_s, cz_1]
        have eo : up τ 1 6 (nI (k' + 1)) o 2 = nI (cs ++ ds).length := hCR3.2.1
        refine ⟨_, k' + 1, ds, rfl, ((FP.of (fgo.two f1)).two (FP.of (FR.go τ _ h8))).two p3, ⟨p2, ?_, fun j hj => ?_⟩, ⟨hc, 1 + (k' - (k + 1)), k', by omega, by rw [hi, m3 h59], h59, rfl, hl3, hd2⟩, by omega, fun j => ?_⟩
        · rw [up_ne (by omega)]; exact eo
        · rw [up_ne (by omega)]; exact hCR3.2.2 j hj
        · rw [eo, upw]
          by_cases hj : j = w
          · rw [if_pos hj, if_pos hj]
          · rw [if_neg hj, if_neg hj, up_ne (by omega), f1.1 (o + 2) (by omega) (by omega) (by omega), up_ne (by omega)]
      · left
        obtain ⟨p1, p2, p3⟩ := endP_c hCR2.1 hw
        rw [pass_n hCR2.1 h59, bd2_s, if_pos rfl, bnd_s, cT_o hCR2.1, cl_o hCR2.1, p1, bd1_s, cz_0]
        exact ⟨_, k', rfl, (FP.of (fgo.two f1)).two p3, p2, Or.inr ⟨hc, 1 + (k' - (k + 1)), res, by omega, hi, m2, fun _ => h59⟩⟩
  · left
    obtain ⟨p1, p2, p3⟩ := endP_c h.1 hw
    rw [pass_n h.1 hc, bd2_s, if_pos rfl, cT_o h.1, cl_o h.1, p1, bd1_s]
    exact ⟨_, k, rfl, p3, p2, Or.inl ⟨hc, rfl⟩⟩
end PartB
section PartM
variable {C V : Nat → Int32} {K n : Nat} {TK : sg_T → Nat → Prop}
/-- the model between parts -/
def MPt (n : Nat) (σ : sg_T) (cs : List Int32) : Prop := n < 6 ∧ σ 69 10 = 0 ∧ σ 69 13 = nI n ∧ σ 69 14 = nI cs.length ∧ (∀ j, j < cs.length → σ 75 (160 * n + j) = cs.getD j 0) ∧ cs.length ≤ 160
def FQ (n : Nat) (σ τ : sg_T) : Prop := (∀ q, q ≠ 69 → q ≠ 75 → q ≠ 76 → q ≠ 78 → τ q = σ q) ∧ (∀ j, j ≠ 7 → j ≠ 8 → j ≠ 9 → j ≠ 10 → j ≠ 14 → j ≠ 17 → τ 69 j = σ 69 j) ∧ (∀ p, p < 160 * n → τ 75 p = σ 75 p) ∧ ∀ p, p < 3 * n → τ 76 p = σ 76 p
theorem FQ.two {σ τ ρ : sg_T} (h1 : FQ n σ τ) (h2 : FQ n τ ρ) : FQ n σ ρ := ⟨fun q a b c d => by rw [h2.1 q a b c d, h1.1 q a b c d], fun j a b c d e f => by rw [h2.2.1 j a b c d e f, h1.2.1 j a b c d e f], fun p hp => by rw [h2.2.2.1 p hp, h1.2.2.1 p hp], fun p hp => by rw [h2.2.2.2 p hp, h1.2.2.2 p hp]⟩
theorem FQ.of {σ τ : sg_T} (h : FM n σ τ) : FQ n σ τ := ⟨fun q a b _ d => h.1 q a b d, h.2.1, h.2.2, fun p _ => by rw [h.1 76 (by decide) (by decide) (by decide)]⟩
theorem part_m (hT : TKF C V K TK) {w k : Nat} {cs : List Int32} {σ : sg_T} (hw : w < 3) (hTK : TK σ k) (hM : MPt n σ cs) (hlen : cs.length ≤ k) : (∀ k', PFt C V w k cs k' → ∃ τ, b_X8_isText_6 (nI w) σ = some (.inr (.inr (0, τ))) ∧ TK τ k' ∧ FQ n σ τ) ∧ (∀ k2 ds, POk C V w k cs k2 ds → ∃ τ, b_X8_isText_6 (nI w) σ = some (.inl (nI (w + 1), τ)) ∧ TK τ k2 ∧ MPt n τ (cs ++ ds) ∧ FQ n σ τ ∧ ∀ j, τ 76 j = if j = 3 * n + w then nI (cs ++ ds).length else σ 76 j) := by
  obtain ⟨t0, t1, t2, t3, t4, t5⟩ := hT.1 σ k hTK
  obtain ⟨h1, h2, h3, h4, h5, h6⟩ := hM
  have e6 : (6 : Int32) + nI w = nI (6 + w) := by rw [n_6, nI_add]
  have n3 : ¬ (3 : Int32) ≤ nI w := nle_of_lt (m := 3) hw (by decide)
  have hwd : wd (C k) = nI (6 + w) ↔ C k = nI (6 + w) := by
    unfold wd
    by_cases hc : 0 ≤ C k ∧ C k < 12
    · rw [if_pos hc]
    · rw [if_neg hc]
      refine ⟨fun q => absurd q.symm (nI_ne_m1 (by omega)), fun q => ?_⟩
      exfalso; apply hc; rw [q]
      exact ⟨nI_pos' (by omega), Int32.not_le.mp (nle_of_lt (m := 12) (by omega) (by decide))⟩
  -- past the word
  have go : C k = nI (6 + w) → ∀ c res, c ≤ 200 → itr (mst C V) c (true, k + 1, cs, []) = some res → ∃ ρ r τ, f_X8_next σ = some ρ ∧ f_X8_isE ρ = some (r, τ) ∧ FM n σ τ ∧ r = (if res.1 = true then 1 else 0) ∧ TK τ res.2.1 ∧ (res.1 = true → MS n τ res.2.2 []) := by
    intro hc c res hc200 hi
    have hkK : k < K := by
      by_cases hk : k = K
      · subst hk
        rw [hT.2.2.1] at hc
        exact absurd (nI_inj (i := 301) (by decide) (by omega) hc) (by omega)
      · omega
    obtain ⟨ρ, e1, hT1, f1, f2⟩ := t5 hkK
    have fm1 : FM n σ (up ρ 69 17 0) := ⟨fun q a _ _ => by rw [up_n a]; exact f1 q a, fun j a b c _ _ f => by rw [up_nk f]; exact f2 j a b c, fun p _ => by rw [up_ne (by decide), f1 75 (by decide)]⟩
    have hTK1 : TK (up ρ 69 17 0) (k + 1) := hT.2.1 ρ _ (k + 1) hT1 (fun j hj => up_nk (by omega)) (up_n (by decide)) (up_n (by decide))
    have hMS : MS n (up ρ 69 17 0) cs [] := by
      refine ⟨h1, by rw [up_eq]; rfl, SR_nil _, ?_, ?_, ?_, fun j hj => ?_, by simp only [List.length_nil]; omega⟩
      · rw [up_nk (by decide), f2 10 (by decide) (by decide) (by decide), h2]; rfl
      · rw [up_nk (by decide), f2 13 (by decide) (by decide) (by decide), h3]
      · rw [up_nk (by decide), f2 14 (by decide) (by decide) (by decide), h4]
      · rw [up_ne (by decide), f1 75 (by decide)]; exact h5 j hj
    obtain ⟨r, τ, e2, f3, g1, g2, g3⟩ := isE_sim hT c lfu (up ρ 69 17 0) (k + 1) cs [] res (by show c ≤ 100000; omega) (by show c ≤ 100000; omega) hi ⟨hTK1, hMS, by simp only [List.length_nil]; omega⟩
    refine ⟨ρ, r, τ, e1, ?_, fm1.two f3, g1, g2, g3⟩
    unfold f_X8_isE
    rw [bnd_s]
    exact e2
  refine ⟨fun k' hPF => ?_, fun k2 ds hPO => ?_⟩
  · unfold b_X8_isText_6
    rw [if_neg n3, t1, bd1_s, e6]
    rcases hPF with ⟨hc, rfl⟩ | ⟨hc, c, res, hc200, hi, hres, h59⟩
    · rw [if_neg (fun q => hc (hwd.mp q))]
      exact ⟨σ, rfl, hTK, FQ.of (FM.rfl' σ)⟩
    · obtain ⟨ρ, r, τ, e1, e2, f1, g1, g2, g3⟩ := go hc c res hc200 hi
      rw [if_pos (hwd.mpr hc), e1, bd1_s, e2, bd2_s]
      rw [hres] at g2
      by_cases hr : res.1 = true
      · rw [if_pos hr] at g1
        have hs := (hT.1 τ k' g2).2.2.1 59 (by decide)
        rw [g1, if_neg (by decide), hs, if_neg (h59 hr), bd1_s, if_pos rfl]
        exact ⟨τ, rfl, g2, FQ.of f1⟩
      · rw [if_neg hr] at g1
        rw [g1, if_pos rfl]
        exact ⟨τ, rfl, g2, FQ.of f1⟩
  · obtain ⟨hc, c, k', hc200, hi, h59, hk2, hl, _⟩ := hPO
    obtain ⟨ρ, r, τ, e1, e2, f1, g1, g2, g3⟩ := go hc c _ hc200 hi
    have g2' : TK τ k' := g2
    have g1' : r = 1 := g1
    have g3' : MS n τ (cs ++ ds) [] := g3 rfl
    obtain ⟨m1, m2, m3, m4, m5, m6, m7, m8⟩ := g3'
    have hs := (hT.1 τ k' g2').2.2.1 59 (by decide)
    have ei : (3 : Int32) * τ 69 13 + nI w = nI (3 * n + w) := by rw [m5, n_3, pk_mul, nI_add]
    obtain ⟨τ1, q1⟩ : ∃ ρ, ρ = up τ 76 (3 * n + w) (nI (cs ++ ds).length) := ⟨_, rfl⟩
    have hTK1 : TK τ1 k' := hT.2.1 τ τ1 k' g2' (fun j _ => by rw [q1, up_ne (by decide)]) (by rw [q1, up_n (by decide)]) (by rw [q1, up_n (by decide)])
    have hkK : k' < K := by
      by_cases hk : k' = K
      · subst hk
        rw [hT.2.2.1] at h59
        exact absurd h59 (by decide)
      · have := (hT.1 τ k' g2').1; omega
    obtain ⟨τ2, e3, hT2, f3, f4⟩ := (hT.1 τ1 k' hTK1).2.2.2.2.2 hkK
    unfold b_X8_isText_6
    rw [if_neg n3, t1, bd1_s, e6, if_pos (hwd.mpr hc), e1, bd1_s, e2, bd2_s, g1', if_neg (by decide), hs, if_pos h59, bd1_s, if_neg (by decide), ei, ck_n (by omega) (by decide), nI_clamp (by omega), m6, bnd_s, ← q1, e3, bd1_s, bnd_s, nI_1]
    refine ⟨τ2, rfl, by rw [hk2]; exact hT2, ⟨h1, ?_, ?_, ?_, fun j hj => ?_, by simp only [List.length_nil] at m8; omega⟩, (FQ.of f1).two ⟨fun q a b c d => by rw [f3 q a, q1, up_n c], fun j a b c _ _ _ => by rw [f4 j a b c, q1, up_ne (by decide)], fun p _ => by rw [f3 75 (by decide), q1, up_ne (by decide)], fun p hp => by rw [f3 76 (by decide), q1, up_nk (by omega)]⟩, fun j => ?_⟩
    · rw [f4 10 (by decide) (by decide) (by decide), q1, up_ne (by decide), m4]; rfl
    · rw [f4 13 (by decide) (by decide) (by decide), q1, up_ne (by decide)]; exact m5
    · rw [f4 14 (by decide) (by decide) (by decide), q1, up_ne (by decide)]; exact m6
    · rw [f3 75 (by decide), q1, up_ne (by decide)]; exact m7 j hj
    · rw [f3 76 (by decide), q1, upw, f1.1 76 (by decide) (by decide) (by decide)]
end PartM
