theorem become_c (σ : sg_T) {o L : Nat} (hL : L ≤ 40) (so : Int32) : ∃ τ, f_X4_become o so (nI L) σ = some τ ∧ τ o 1 = so ∧ τ o 2 = nI L ∧ (∀ i, i < L → τ (o + 1) i = 0) ∧ ∀ q, q ≠ o → q ≠ o + 1 → τ q = σ q := by
  have e40 : (40 : Int32).toInt = 40 := by decide
  have e0 : (0 : Int32).toInt = 0 := by decide
  have eb : jmax 0 (jmin 40 (nI L)) = nI L := Int32.toInt_inj.mp (by rw [jmax_toInt, jmin_toInt, nI_toInt (by omega)]; omega)
  obtain ⟨⟨w, τ⟩, e1, g1, g2⟩ := become_loop (up (up σ o 1 so) o 2 (nI L)) (o := o) hL up_eq so (nI L)
  dsimp only at g1 g2
  refine ⟨τ, ?_, ?_, ?_, g1, fun q h1 h2 => ?_⟩
  · unfold f_X4_become
    rw [bnd_s, bound_c, bd1_s, eb, bnd_s, e1, bd2_s]
  · rw [g2 o (by omega), up_nk (by decide), up_eq]
  · rw [g2 o (by omega), up_eq]
  · rw [g2 q h2, up_n h1, up_n h1]
theorem SHR.new {σ τ : sg_T} (h : SHR σ) {s L : Nat} (hs : s < 4) (hL : L ≤ 40) {so : Int32} (hso : inr so (-1) 2) (t1 : τ (61 + 2 * s) 1 = so) (t2 : τ (61 + 2 * s) 2 = nI L) (t3 : ∀ i, i < L → τ (61 + 2 * s + 1) i = 0) (t4 : ∀ k, τ 84 k = if k = s then so else σ 84 k) (t5 : ∀ k, τ 85 k = if k = s then nI L else σ 85 k) (t6 : ∀ p, τ 86 p = if 40 * s ≤ p ∧ p < 40 * s + 40 then 0 else σ 86 p) (t7 : ∀ q, 61 ≤ q → q ≤ 68 → q ≠ 61 + 2 * s → q ≠ 61 + 2 * s + 1 → τ q = σ q) : SHR τ := by
  intro t ht
  have eL := nI_toInt (n := L) (by omega)
  by_cases e : t = s
  · subst e
    rw [t1, t2, t4, t5, if_pos rfl, if_pos rfl]
    refine ⟨rfl, rfl, hso, ?_, fun j hj => ?_⟩
    · unfold inr; omega
    · have ht2 : 40 * t ≤ 40 * t + j ∧ 40 * t + j < 40 * t + 40 := by omega
      rw [t3 j (by omega), t6, if_pos ht2]
  · obtain ⟨h1, h2, h3, h4, h5⟩ := h t ht
    rw [t4, t5, if_neg e, if_neg e, t7 (61 + 2 * t) (by omega) (by omega) (by omega) (by omega), t7 (61 + 2 * t + 1) (by omega) (by omega) (by omega) (by omega)]
    refine ⟨h1, h2, h3, h4, fun j hj => ?_⟩
    unfold inr at h4
    have ht2 : ¬ (40 * s ≤ 40 * t + j ∧ 40 * t + j < 40 * s + 40) := by omega
    rw [t6, if_neg ht2]; exact h5 j hj
theorem upw (σ : sg_T) (p j : Nat) (x : Int32) (k : Nat) : up σ p j x p k = if k = j then x else σ p k := by
  rw [up_at]
  by_cases c : k = j
  · rw [if_pos ⟨rfl, c⟩, if_pos c]
  · rw [if_neg (fun q => c q.2), if_neg c]
/-- both lay a new sheet -/
theorem newsheet {σ : sg_T} {a : pa_T} {m : Nat} {d : Int32} {ru : Nat} {T : tx_T} {n : Nat} (h : WR σ a m d ru T n) {s L : Nat} (hs : s < 4) (hL : L ≤ 40) {so : Int32} (hso : inr so (-1) 2) : ∃ σ1, f_X4_become (61 + 2 * s) so (nI L) σ = some σ1 ∧ ∀ u v, ∃ w σ2, itr (fun q => b_X8_sheet_68 (nI s) u v q.1 q.2) lfu (0, up (up σ1 84 s so) 85 s (nI L)) = some (w, σ2) ∧ WRL σ2 := by
  obtain ⟨σ1, e1, b1, b2, b3, b4⟩ := become_c σ (o := 61 + 2 * s) hL so
  refine ⟨σ1, e1, fun u v => ?_⟩
  obtain ⟨⟨w, σ2⟩, e2, g1, g2⟩ := sheet_loop (up (up σ1 84 s so) 85 s (nI L)) hs u v
  dsimp only at g1 g2
  have u1 : ∀ q, q ≠ 84 → q ≠ 85 → q ≠ 86 → σ2 q = σ1 q := fun q h1 h2 h3 => by rw [g2 q h3, up_n h2, up_n h1]
  refine ⟨w, σ2, e2, a, m, d, ru, T, n, h.sheets (h.rst.2.2.1.new hs hL hso ?_ ?_ (fun i hi => ?_) (fun k => ?_) (fun k => ?_) (fun p => ?_) (fun q h1 h2 h3 h4 => ?_)) (fun q _ h2 h3 => ?_)⟩
  · rw [u1 _ (by omega) (by omega) (by omega)]; exact b1
  · rw [u1 _ (by omega) (by omega) (by omega)]; exact b2
  · rw [u1 _ (by omega) (by omega) (by omega)]; exact b3 i hi
  · rw [g2 84 (by decide), up_ne (by decide), upw, b4 84 (by omega) (by omega)]
  · rw [g2 85 (by decide), upw, up_ne (by decide), b4 85 (by omega) (by omega)]
  · rw [g1, up_ne (by decide), up_ne (by decide), b4 86 (by omega) (by omega)]
  · rw [u1 q (by omega) (by omega) (by omega), b4 q h3 h4]
  · rw [u1 q (by omega) (by omega) (by omega), b4 q (by omega) (by omega)]
