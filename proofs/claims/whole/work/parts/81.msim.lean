/-! The model is the machine: its pieces. -/
def wd (c : Int32) : Int32 := if 0 ≤ c ∧ c < 12 then c else -1
/-- what is wanted of the model's tokens -/
def TKF (C V : Nat → Int32) (K : Nat) (TK : sg_T → Nat → Prop) : Prop :=
  (∀ σ k, TK σ k → k ≤ K ∧ f_X8_word σ = some (wd (C k)) ∧ (∀ x, (x = 40 ∨ x = 41 ∨ x = 42 ∨ x = 43 ∨ x = 45 ∨ x = 59 ∨ x = 60 ∨ x = 61) → f_X8_isSign x σ = some (if C k = x then 1 else 0)) ∧ ((σ 69 9 = 2 ∧ ¬ 4 < σ 69 7 - σ 69 8) ↔ C k = 300) ∧ (C k = 300 → f_X8_numberThere σ = some (V k)) ∧ (k < K → ∃ τ, f_X8_next σ = some τ ∧ TK τ (k + 1) ∧ (∀ q, q ≠ 69 → τ q = σ q) ∧ ∀ j, j ≠ 7 → j ≠ 8 → j ≠ 9 → τ 69 j = σ 69 j)) ∧
  (∀ σ τ k, TK σ k → (∀ j, j = 6 ∨ j = 7 ∨ j = 8 ∨ j = 9 → τ 69 j = σ 69 j) → τ 74 = σ 74 → τ 77 = σ 77 → TK τ k) ∧ C K = 301 ∧ (∀ j, j < K → C j ≠ 301) ∧ K ≤ 160
def MS (n : Nat) (σ : sg_T) (cs W : List Int32) : Prop := n < 6 ∧ σ 69 17 = nI W.length ∧ SR (σ 78) W ∧ σ 69 10 = nI (opn W) ∧ σ 69 13 = nI n ∧ σ 69 14 = nI cs.length ∧ (∀ j, j < cs.length → σ 75 (160 * n + j) = cs.getD j 0) ∧ cs.length + W.length ≤ 160
def FM (n : Nat) (σ τ : sg_T) : Prop := (∀ q, q ≠ 69 → q ≠ 75 → q ≠ 78 → τ q = σ q) ∧ (∀ j, j ≠ 7 → j ≠ 8 → j ≠ 9 → j ≠ 10 → j ≠ 14 → j ≠ 17 → τ 69 j = σ 69 j) ∧ ∀ p, p < 160 * n → τ 75 p = σ 75 p
/-- the tokens are not touched -/
def FT (σ τ : sg_T) : Prop := (∀ j, j = 6 ∨ j = 7 ∨ j = 8 ∨ j = 9 → τ 69 j = σ 69 j) ∧ τ 74 = σ 74 ∧ τ 77 = σ 77
section MsB
variable {C V : Nat → Int32} {K n : Nat} {TK : sg_T → Nat → Prop}
theorem FM.rfl' (σ : sg_T) : FM n σ σ := ⟨fun _ _ _ _ => rfl, fun _ _ _ _ _ _ _ => rfl, fun _ _ => rfl⟩
theorem FM.two {σ τ ρ : sg_T} (h1 : FM n σ τ) (h2 : FM n τ ρ) : FM n σ ρ := ⟨fun q a b c => by rw [h2.1 q a b c, h1.1 q a b c], fun j a b c d e f => by rw [h2.2.1 j a b c d e f, h1.2.1 j a b c d e f], fun p hp => by rw [h2.2.2 p hp, h1.2.2 p hp]⟩
theorem FT.rfl' (σ : sg_T) : FT σ σ := ⟨fun _ _ => rfl, rfl, rfl⟩
theorem FT.two {σ τ ρ : sg_T} (h1 : FT σ τ) (h2 : FT τ ρ) : FT σ ρ := ⟨fun j hj => by rw [h2.1 j hj, h1.1 j hj], by rw [h2.2.1, h1.2.1], by rw [h2.2.2, h1.2.2]⟩
theorem TKF.fr (hT : TKF C V K TK) {σ τ : sg_T} {k : Nat} (h : TK σ k) (hf : FT σ τ) : TK τ k := hT.2.1 σ τ k h hf.1 hf.2.1 hf.2.2
theorem rank_m (c : Int32) (σ : sg_T) : f_X8_rank c σ = some (nI (rk c)) := by
  unfold f_X8_rank rk
  by_cases h0 : c = 0
  · rw [if_pos h0, if_pos h0]; rfl
  · rw [if_neg h0, if_neg h0]
    by_cases h1 : c = -20
    · rw [if_pos h1, if_pos h1]; rfl
    · rw [if_neg h1, if_neg h1]
      by_cases h2 : c = -21
      · rw [if_pos h2, if_pos h2]; rfl
      · rw [if_neg h2, if_neg h2]
        by_cases h3 : c = -22
        · rw [if_pos h3, if_pos h3]; rfl
        · rw [if_neg h3, if_neg h3]
          by_cases h4 : c = -23
          · rw [if_pos h4, if_pos h4]; rfl
          · rw [if_neg h4, if_neg h4]
            by_cases h5 : c = -24
            · rw [if_pos h5, if_pos h5]; rfl
            · rw [if_neg h5, if_neg h5]
              by_cases h6 : c = -27
              · rw [if_pos h6, if_pos h6]; rfl
              · rw [if_neg h6, if_neg h6, bnd_s]
                by_cases h7 : c = -28
                · rw [if_pos h7, if_pos h7]; rfl
                · rw [if_neg h7, if_neg h7]; rfl
theorem rk_le (c : Int32) : rk c ≤ 7 := by
  unfold rk
  repeat' split
  all_goals omega
theorem tp_le (W : List Int32) : tp W ≤ 7 := by
  rcases W with _ | ⟨c, W⟩
  · exact Nat.zero_le _
  · exact rk_le c
theorem last_m {σ : sg_T} {cs W : List Int32} (h : MS n σ cs W) : f_X8_last σ = some (nI (tp W)) := by
  obtain ⟨h1, h2, h3, h4, h5, h6, h7, h8⟩ := h
  unfold f_X8_last
  rcases W with _ | ⟨c, W⟩
  · rw [if_pos (by rw [h2]; rfl)]; rfl
  · have hl : (c :: W).length = W.length + 1 := rfl
    have hne : ¬ σ 69 17 = 0 := by
      rw [h2, hl]
      exact fun q => by have := (nI_0iff (by omega)).mp q; omega
    have e1 : σ 69 17 - 1 = nI W.length := by rw [h2, hl]; exact nI_pre (by omega)
    have ht : σ 78 W.length = c := h3.top
    rw [if_neg hne, e1, ck_n (by omega) (by decide), nI_clamp (by omega), ht, rank_m, bd1_s]
    rfl
theorem write_m {σ : sg_T} {cs W : List Int32} (h : MS n σ cs W) (hl : cs.length + W.length < 160) (c : Int32) : ∃ τ, f_X8_write c σ = some τ ∧ MS n τ (cs ++ [c]) W ∧ FM n σ τ ∧ FT σ τ ∧ τ 78 = σ 78 := by
  obtain ⟨h1, h2, h3, h4, h5, h6, h7, h8⟩ := h
  have e1 : (160 : Int32) * σ 69 13 + σ 69 14 = nI (160 * n + cs.length) := by
    rw [h5, h6, show (160 : Int32) = nI 160 from rfl, pk_mul, nI_add]
  unfold f_X8_write
  rw [e1, ck_n (by omega) (by decide), nI_clamp (by omega), bnd_s, bnd_s, up_ne (show 69 ≠ 75 by decide), h6, nI_1]
  have el : (cs ++ [c]).length = cs.length + 1 := by simp
  refine ⟨_, rfl, ⟨h1, ?_, ?_, ?_, ?_, ?_, fun j hj => ?_, by rw [el]; omega⟩, ⟨fun q a b _ => by rw [up_n a, up_n b], fun j _ _ _ _ hj _ => by rw [up_nk hj, up_ne (by decide)], fun p hp => by rw [up_ne (by decide), up_nk (by omega)]⟩, ⟨fun j hj => by rw [up_nk (by omega), up_ne (by decide)], by rw [up_n (by decide), up_n (by decide)], by rw [up_n (by decide), up_n (by decide)]⟩, by rw [up_n (by decide), up_n (by decide)]⟩
  · rw [up_nk (by decide), up_ne (by decide)]; exact h2
  · rw [up_n (by decide), up_n (by decide)]; exact h3
  · rw [up_nk (by decide), up_ne (by decide)]; exact h4
  · rw [up_nk (by decide), up_ne (by decide)]; exact h5
  · rw [up_eq, el]
  · rw [up_ne (by decide), up_at]
    rw [el] at hj
    by_cases hjl : j = cs.length
    · rw [if_pos ⟨rfl, by omega⟩, hjl]
      simp
    · rw [if_neg (by omega), h7 j (by omega), List.getD_eq_getElem?_getD, List.getD_eq_getElem?_getD, List.getElem?_append_left (by omega)]
theorem await_m {σ : sg_T} {cs W : List Int32} (h : MS n σ cs W) (hl : cs.length + W.length < 160) {c : Int32} {d : Nat} (hd : σ 69 10 = nI d → True) : ∃ τ, f_X8_await c σ = some τ ∧ τ 69 17 = nI (c :: W).length ∧ SR (τ 78) (c :: W) ∧ (∀ q, q ≠ 69 → q ≠ 78 → τ q = σ q) ∧ ∀ j, j ≠ 17 → τ 69 j = σ 69 j := by
  obtain ⟨h1, h2, h3, h4, h5, h6, h7, h8⟩ := h
  unfold f_X8_await
  rw [h2, ck_n (by omega) (by decide), nI_clamp (by omega), bnd_s, bnd_s, up_ne (show 69 ≠ 78 by decide), h2, nI_1]
  refine ⟨_, rfl, up_eq, ?_, fun q a b => by rw [up_n a, up_n b], fun j hj => by rw [up_nk hj, up_ne (by decide)]⟩
  rw [up_n (by decide), up_row]
  exact h3.push c
theorem MS.eq {σ τ : sg_T} {cs W : List Int32} (h : MS n σ cs W) (h17 : τ 69 17 = σ 69 17) (h78 : τ 78 = σ 78) (h10 : τ 69 10 = σ 69 10) (h13 : τ 69 13 = σ 69 13) (h14 : τ 69 14 = σ 69 14) (h75 : τ 75 = σ 75) : MS n τ cs W := by
  obtain ⟨h1, h2, h3, h4, h5, h6, h7, h8⟩ := h
  exact ⟨h1, by rw [h17]; exact h2, by rw [h78]; exact h3, by rw [h10]; exact h4, by rw [h13]; exact h5, by rw [h14]; exact h6, fun j hj => by rw [h75]; exact h7 j hj, h8⟩
/-- an operator waits -/
theorem wait_m {σ : sg_T} {cs W : List Int32} (h : MS n σ cs W) (hl : cs.length + W.length < 160) {c : Int32} (hc : ¬ (c = 0 ∨ c = -22 ∨ c = -28)) : ∃ τ, f_X8_await c σ = some τ ∧ MS n τ cs (c :: W) ∧ FM n σ τ ∧ FT σ τ := by
  obtain ⟨τ, e1, t1, t2, t3, t4⟩ := await_m h hl (c := c) (d := 0) (fun _ => trivial)
  obtain ⟨h1, h2, h3, h4, h5, h6, h7, h8⟩ := h
  refine ⟨τ, e1, ⟨h1, t1, t2, ?_, by rw [t4 13 (by decide)]; exact h5, by rw [t4 14 (by decide)]; exact h6, fun j hj => by rw [t3 75 (by decide) (by decide)]; exact h7 j hj, by simp only [List.length_cons]; omega⟩, ⟨fun q a _ c => t3 q a c, fun j _ _ _ _ _ hj => t4 j hj, fun p _ => by rw [t3 75 (by decide) (by decide)]⟩, fun j hj => t4 j (by omega), t3 74 (by decide) (by decide), t3 77 (by decide) (by decide)⟩
  show τ 69 10 = nI ((if c = 0 ∨ c = -22 ∨ c = -28 then 1 else 0) + opn W)
  rw [if_neg hc, Nat.zero_add, t4 10 (by decide)]; exact h4
/-- a bracket, a minus or a not waits, and one more is open -/
theorem open_m {σ : sg_T} {cs W : List Int32} (h : MS n σ cs W) (hl : cs.length + W.length < 160) {c : Int32} (hc : c = 0 ∨ c = -22 ∨ c = -28) : ∃ τ, f_X8_await c (up σ 69 10 (σ 69 10 + 1)) = some τ ∧ MS n τ cs (c :: W) ∧ FM n σ τ ∧ FT σ τ := by
  have h' := h
  obtain ⟨h1, h2, h3, h4, h5, h6, h7, h8⟩ := h
  obtain ⟨σ1, q1⟩ : ∃ τ, τ = up σ 69 10 (σ 69 10 + 1) := ⟨_, rfl⟩
  -- beside σ1 the waiting row is σ's
  have hx : f_X8_await c σ1 = some (up (up σ1 78 W.length c) 69 17 (nI (W.length + 1))) := by
    have w17 : σ1 69 17 = nI W.length := by rw [q1, up_nk (by decide)]; exact h2
    unfold f_X8_await
    rw [w17, ck_n (by omega) (by decide), nI_clamp (by omega), bnd_s, bnd_s, up_ne (show 69 ≠ 78 by decide), w17, nI_1]
  rw [← q1]
  refine ⟨_, hx, ⟨h1, by rw [up_eq]; rfl, ?_, ?_, ?_, ?_, fun j hj => ?_, by simp only [List.length_cons]; omega⟩, ⟨fun q a _ c => by rw [up_n a, up_n c, q1, up_n a], fun j _ _ _ h10 _ h17 => by rw [up_nk h17, up_ne (by decide), q1, up_nk h10], fun p _ => by rw [up_n (by decide), up_n (by decide), q1, up_n (by decide)]⟩, fun j hj => by rw [up_nk (by omega), up_ne (by decide), q1, up_nk (by omega)], by rw [up_n (by decide), up_n (by decide), q1, up_n (by decide)], by rw [up_n (by decide), up_n (by decide), q1, up_n (by decide)]⟩
  · rw [up_n (by decide), up_row, q1, up_n (by decide)]
    exact h3.push c
  · show _ = nI ((if c = 0 ∨ c = -22 ∨ c = -28 then 1 else 0) + opn W)
    rw [if_pos hc, up_nk (by decide), up_ne (by decide), q1, up_eq, h4, nI_1, Nat.add_comm]
  · rw [up_nk (by decide), up_ne (by decide), q1, up_nk (by decide)]; exact h5
  · rw [up_nk (by decide), up_ne (by decide), q1, up_nk (by decide)]; exact h6
  · rw [up_ne (by decide), up_ne (by decide), q1, up_ne (by decide)]; exact h7 j hj
theorem settle_m {r : Nat} (hr : r ≤ 7) : ∀ (W cs : List Int32) (σ : sg_T) (F : Nat), MS n σ cs W → W.length < F → ∃ τ, itr (fun q => b_X8_settle_0 (nI r) q) F σ = some τ ∧ MS n τ (stl r cs W).1 (stl r cs W).2 ∧ FM n σ τ ∧ FT σ τ := by
  intro W
  induction W with
  | nil =>
    intro cs σ F h hF
    obtain ⟨F', rfl⟩ : ∃ n', F = n' + 1 := ⟨F - 1, by simp only [List.length_nil] at hF; omega⟩
    refine ⟨σ, itr_r ?_, h, FM.rfl' σ, FT.rfl' σ⟩
    unfold b_X8_settle_0
    rw [last_m h, bd1_s, if_pos (by decide)]
  | cons c W ih =>
    intro cs σ F h hF
    simp only [List.length_cons] at hF
    obtain ⟨F', rfl⟩ : ∃ n', F = n' + 1 := ⟨F - 1, by omega⟩
    have hrk := rk_le c
    have hla : f_X8_last σ = some (nI (rk c)) := last_m h
    rw [stl_c]
    by_cases hc : 0 < rk c ∧ r ≤ rk c
    · rw [if_pos hc]
      have hl0 : ¬ nI (rk c) ≤ 0 := nle_of_lt (i := 0) hc.1 (by omega)
      have hlr : ¬ nI (rk c) < nI r := Int32.not_lt.mpr (le_of_le hc.2 (by omega))
      have h' := h
      obtain ⟨h1, h2, h3, h4, h5, h6, h7, h8⟩ := h'
      simp only [List.length_cons] at h8 h2
      have e17 : σ 69 17 - 1 = nI W.length := by rw [h2]; exact nI_pre (by omega)
      have ht : σ 78 W.length = c := h3.top
      obtain ⟨σ1, q1⟩ : ∃ τ, τ = up σ 69 17 (nI W.length) := ⟨_, rfl⟩
      obtain ⟨σa, qa⟩ : ∃ τ, τ = up (up σ 69 17 (nI W.length)) 69 10 (nI (opn W)) := ⟨_, rfl⟩
      -- beside the count of what is open, this is the machine's state
      have hMa : MS n σa cs W := by
        refine ⟨h1, ?_, ?_, ?_, ?_, ?_, fun j hj => ?_, by omega⟩
        · rw [qa, up_nk (by decide), up_eq]
        · rw [qa, up_n (by decide), up_n (by decide)]; exact h3.tail
        · rw [qa, up_eq]
        · rw [qa, up_nk (by decide), up_nk (by decide)]; exact h5
        · rw [qa, up_nk (by decide), up_nk (by decide)]; exact h6
        · rw [qa, up_ne (by decide), up_ne (by decide)]; exact h7 j hj
      have hcl : cs.length + W.length < 160 := by omega
      have w13 : σ1 69 13 = nI n := by rw [q1, up_nk (by decide)]; exact h5
      have w14 : σ1 69 14 = nI cs.length := by rw [q1, up_nk (by decide)]; exact h6
      have ep : (160 : Int32) * σ1 69 13 + σ1 69 14 = nI (160 * n + cs.length) := by
        rw [w13, w14, show (160 : Int32) = nI 160 from rfl, pk_mul, nI_add]
      obtain ⟨σ2, q2⟩ : ∃ τ, τ = up (up σ1 75 (160 * n + cs.length) c) 69 14 (nI (cs.length + 1)) := ⟨_, rfl⟩
      have hw : f_X8_write c σ1 = some σ2 := by
        unfold f_X8_write
        rw [ep, ck_n (by omega) (by decide), nI_clamp (by omega), bnd_s, bnd_s, up_ne (show 69 ≠ 75 by decide), w14, nI_1, q2]
      have s17 : σ2 69 17 = nI W.length := by rw [q2, up_nk (by decide), up_ne (by decide), q1, up_eq]
      have s78 : σ2 78 = σ 78 := by rw [q2, up_n (by decide), up_n (by decide), q1, up_n (by decide)]
      have s10 : σ2 69 10 = nI (opn (c :: W)) := by rw [q2, up_nk (by decide), up_ne (by decide), q1, up_nk (by decide)]; exact h4
      have hc0 : ¬ c = 0 := fun q => by
        have hz : rk c = 0 := by rw [q]; rfl
        omega
      have hb : b_X8_settle_0 (nI r) σ = some (.inl (up σ2 69 10 (nI (opn W)))) := by
        unfold b_X8_settle_0
        rw [hla, bd1_s, if_neg hl0, bd1_s, if_neg hlr, e17, bnd_s, ← q1]
        have c17 : σ1 69 17 = nI W.length := by rw [q1, up_eq]
        have c78 : σ1 78 W.length = c := by rw [q1, up_ne (by decide)]; exact ht
        rw [c17, ck_n (by omega) (by decide), nI_clamp (by omega), c78, hw, bd1_s, s17, ck_n (by omega) (by decide), nI_clamp (by omega), s78, ht]
        by_cases h22 : c = -22
        · have ho : opn (c :: W) = opn W + 1 := by
            show (if c = 0 ∨ c = -22 ∨ c = -28 then 1 else 0) + opn W = _
            rw [if_pos (Or.inr (Or.inl h22)), Nat.add_comm]
          have hoW : opn (c :: W) ≤ 160 := by
            have hle : ∀ X : List Int32, opn X ≤ X.length := fun X => by
              induction X with
              | nil => exact Nat.le_refl _
              | cons y X ihX =>
                show (if y = 0 ∨ y = -22 ∨ y = -28 then 1 else 0) + opn X ≤ X.length + 1
                split <;> omega
            have := hle (c :: W)
            simp only [List.length_cons] at this; omega
          rw [if_pos h22, bnd_s, s10, ho, nI_pre (by omega)]
        · rw [if_neg h22, ck_n (by omega) (by decide), bnd_s, bnd_s, s10]
          by_cases h28 : c = -28
          · have ho : opn (c :: W) = opn W + 1 := by
              show (if c = 0 ∨ c = -22 ∨ c = -28 then 1 else 0) + opn W = _
              rw [if_pos (Or.inr (Or.inr h28)), Nat.add_comm]
            have hoW : opn (c :: W) ≤ 160 := by
              have hle : ∀ X : List Int32, opn X ≤ X.length := fun X => by
                induction X with
                | nil => exact Nat.le_refl _
                | cons y X ihX =>
                  show (if y = 0 ∨ y = -22 ∨ y = -28 then 1 else 0) + opn X ≤ X.length + 1
                  split <;> omega
              have := hle (c :: W)
              simp only [List.length_cons] at this; omega
            rw [if_pos h28, ho, nI_pre (by omega)]
          · have ho : opn (c :: W) = opn W := by
              show (if c = 0 ∨ c = -22 ∨ c = -28 then 1 else 0) + opn W = _
              rw [if_neg (fun q => q.elim hc0 (fun q => q.elim h22 h28)), Nat.zero_add]
            rw [if_neg h28, ho, Int32.sub_zero]
      have hM2 : MS n (up σ2 69 10 (nI (opn W))) (cs ++ [c]) W := by
        have el : (cs ++ [c]).length = cs.length + 1 := by simp
        refine ⟨h1, ?_, ?_, up_eq, ?_, ?_, fun j hj => ?_, by rw [el]; omega⟩
        · rw [up_nk (by decide)]; exact s17
        · rw [up_n (by decide), s78]; exact h3.tail
        · rw [up_nk (by decide), q2, up_nk (by decide), up_ne (by decide)]; exact w13
        · rw [up_nk (by decide), q2, up_eq, el]
        · rw [el] at hj
          rw [up_ne (by decide), q2, up_ne (by decide), up_at]
          by_cases hjl : j = cs.length
          · rw [if_pos ⟨rfl, by omega⟩, hjl]
            simp
          · rw [if_neg (by omega), q1, up_ne (by decide), h7 j (by omega), List.getD_eq_getElem?_getD, List.getD_eq_getElem?_getD, List.getElem?_append_left (by omega)]
      have f2 : FM n σ (up σ2 69 10 (nI (opn W))) := ⟨fun q a b _ => by rw [up_n a, q2, up_n a, up_n b, q1, up_n a], fun j _ _ _ h10 h14 h17 => by rw [up_nk h10, q2, up_nk h14, up_ne (by decide), q1, up_nk h17], fun p hp => by rw [up_ne (by decide), q2, up_ne (by decide), up_nk (by omega), q1, up_ne (by decide)]⟩
      have g2 : FT σ (up σ2 69 10 (nI (opn W))) := ⟨fun j hj => by rw [up_nk (by omega), q2, up_nk (by omega), up_ne (by decide), q1, up_nk (by omega)], by rw [up_n (by decide), q2, up_n (by decide), up_n (by decide), q1, up_n (by decide)], by rw [up_n (by decide), q2, up_n (by decide), up_n (by decide), q1, up_n (by decide)]⟩
      obtain ⟨τ, i1, i2, i3, i4⟩ := ih (cs ++ [c]) _ F' hM2 (by omega)
      refine ⟨τ, ?_, i2, f2.two i3, g2.two i4⟩
      rw [itr_l hb]; exact i1
    · rw [if_neg hc]
      refine ⟨σ, itr_r ?_, h, FM.rfl' σ, FT.rfl' σ⟩
      unfold b_X8_settle_0
      rw [hla, bd1_s]
      by_cases h0 : 0 < rk c
      · have hlr : nI (rk c) < nI r := Int32.not_le.mp (nle_of_lt (by omega) (by omega))
        have hl0 : ¬ nI (rk c) ≤ 0 := nle_of_lt (i := 0) h0 (by omega)
        rw [if_neg hl0, bd1_s, if_pos hlr]
      · rw [if_pos (by rw [show rk c = 0 by omega]; decide)]
theorem settle_f {r : Nat} (hr : r ≤ 7) {W cs : List Int32} {σ : sg_T} (h : MS n σ cs W) : ∃ τ, f_X8_settle (nI r) σ = some τ ∧ MS n τ (stl r cs W).1 (stl r cs W).2 ∧ FM n σ τ ∧ FT σ τ := by
  have h8 := h.2.2.2.2.2.2.2
  obtain ⟨τ, e1, e2, e3, e4⟩ := settle_m hr W cs σ lfu h (by show W.length < 100000; omega)
  exact ⟨τ, by unfold f_X8_settle; rw [e1, bd1_s], e2, e3, e4⟩
end MsB
