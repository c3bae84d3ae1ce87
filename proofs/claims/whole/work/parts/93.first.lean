/-! The first text and the first state. -/
def s0 (i : Nat) : Int32 := if i < 35 then tchN 0 i else 0
def cT0 (k : Nat) : Int32 := ([6, 300, 43, 0, 59, 7, 300, 59, 8, 300, 59] : List Int32).getD k 301
def vT0 (k : Nat) : Int32 := Vt s0 35 (Pt s0 35 k)
theorem pt_11 : Pt s0 35 11 = 35 := by decide +kernel
theorem pt_lt : ∀ j, j < 11 → Pt s0 35 j < 35 := by decide +kernel
theorem kt_lt : ∀ j, j < 11 → Kt s0 35 (Pt s0 35 j) = cT0 j := by decide +kernel
theorem vt_1 : vT0 1 = 6 := by decide +kernel
theorem vt_6 : vT0 6 = 3 := by decide +kernel
theorem vt_9 : vT0 9 = 0 := by decide +kernel
theorem pt_ge : ∀ k, Pt s0 35 (11 + k) = 35
  | 0 => pt_11
  | k + 1 => by
    show Pt s0 35 ((11 + k) + 1) = 35
    rw [Pt_1, pt_ge k, if_neg (by decide)]
theorem cT0_e : (fun k => Kt s0 35 (Pt s0 35 k)) = cT0 := by
  funext k
  by_cases hk : k < 11
  · exact kt_lt k hk
  · obtain ⟨j, rfl⟩ : ∃ j, k = 11 + j := ⟨k - 11, by omega⟩
    rw [pt_ge j, (Kt_301 s0 35 35).mpr (by decide)]
    unfold cT0
    rw [List.getD_eq_getElem?_getD, List.getElem?_eq_none (by simp)]
    rfl
theorem addAll_c {σ : sg_T} (h11 : σ 1 1 = 0) : ∃ τ, f_X2_addAll σ = some τ ∧ τ 1 1 = nI 35 ∧ (∀ i, τ 2 i = if i < 35 then tchN 0 i else σ 2 i) ∧ ∀ q, q ≠ 1 → q ≠ 2 → τ q = σ q := by
  have hrun : ∃ r, itr (fun q => b_X2_addAll_2 q.1 q.2) lfu (0, σ) = some r ∧ (r.2 1 1 = nI 35 ∧ (∀ i, r.2 2 i = if i < 35 then tchN 0 i else σ 2 i) ∧ ∀ q, q ≠ 1 → q ≠ 2 → r.2 q = σ q) := by
    refine itr_run (f := fun q => b_X2_addAll_2 q.1 q.2) (I := fun c q => q.1 = nI c ∧ q.2 1 1 = nI c ∧ (∀ i, q.2 2 i = if i < c then tchN 0 i else σ 2 i) ∧ ∀ p, p ≠ 1 → p ≠ 2 → q.2 p = σ p) (R := fun r => r.2 1 1 = nI 35 ∧ (∀ i, r.2 2 i = if i < 35 then tchN 0 i else σ 2 i) ∧ ∀ q, q ≠ 1 → q ≠ 2 → r.2 q = σ q) 35 (a := (0, σ)) ⟨rfl, h11, fun i => by rw [if_neg (Nat.not_lt_zero _)], fun _ _ _ => rfl⟩ ?_ ?_ (by decide)
    · intro c hc ⟨w, τ⟩ ⟨hw, h1, h2, h3⟩
      dsimp only at hw h1 h2 h3 ⊢
      subst hw
      have n35 : ¬ (35 : Int32) ≤ nI c := nle_of_lt (m := 35) hc (by decide)
      have l160 : nI c < 160 := Int32.not_le.mp (nle_of_lt (m := 160) (by omega) (by decide))
      unfold b_X2_addAll_2 f_X2_add
      rw [if_neg n35, ck_n hc (by decide), nI_clamp (by omega), h1, if_pos l160, ck_n (by omega) (by decide), nI_clamp (by omega), bnd_s, up_ne (show 1 ≠ 2 by decide), h1, nI_1, bnd_s, bd2_s, bnd_s]
      refine ⟨_, rfl, rfl, by dsimp only; rw [up_eq], fun i => ?_, fun q a b => by dsimp only; rw [up_n a, up_n b]; exact h3 q a b⟩
      dsimp only
      rw [up_ne (by decide), upw]
      by_cases hi : i = c
      · rw [if_pos hi, if_pos (by omega), hi]
      · rw [if_neg hi, h2 i]
        by_cases hic : i < c
        · rw [if_pos hic, if_pos (by omega)]
        · rw [if_neg hic, if_neg (by omega)]
    · intro ⟨w, τ⟩ ⟨hw, h1, h2, h3⟩
      dsimp only at hw h1 h2 h3 ⊢
      subst hw
      unfold b_X2_addAll_2
      rw [if_pos (by decide)]
      exact ⟨_, rfl, h1, h2, h3⟩
  obtain ⟨⟨w, τ⟩, e1, h1, h2, h3⟩ := hrun
  refine ⟨τ, ?_, h1, h2, h3⟩
  unfold f_X2_addAll
  rw [e1, bd2_s]
theorem mst_v {k : Nat} {cs W : List Int32} {v : Int32} (hc : cT0 k = 300) (hv : vT0 k = v) : mst cT0 vT0 (true, k, cs, W) = some (mA (k + 1) (stl 7 (cs ++ [v]) W)) := by
  show some (mstB cT0 vT0 k cs W) = _
  unfold mstB
  rw [hc, if_neg (by decide), if_pos rfl, hv]
theorem m_0 : itr (mst cT0 vT0) 200 (true, 1, [], []) = some (true, 4, [6, -10, -25]) :=
  (itr_l (n := 199) (mst_v (k := 1) (by decide) vt_1)).trans ((itr_l (n := 198) (show mst cT0 vT0 (false, 2, [6], []) = some (.inl (true, 3, [6], [-25])) by decide)).trans ((itr_l (n := 197) (show mst cT0 vT0 (true, 3, [6], [-25]) = some (.inl (false, 4, [6, -10], [-25])) from rfl)).trans (itr_r (n := 196) (show mst cT0 vT0 (false, 4, [6, -10], [-25]) = some (.inr (true, 4, [6, -10, -25])) by decide))))
theorem m_1 : itr (mst cT0 vT0) 200 (true, 6, [6, -10, -25], []) = some (true, 7, [6, -10, -25, 3]) :=
  (itr_l (n := 199) (mst_v (k := 6) (by decide) vt_6)).trans (itr_r (n := 198) (show mst cT0 vT0 (false, 7, [6, -10, -25, 3], []) = some (.inr (true, 7, [6, -10, -25, 3])) by decide))
theorem m_2 : itr (mst cT0 vT0) 200 (true, 9, [6, -10, -25, 3], []) = some (true, 10, [6, -10, -25, 3, 0]) :=
  (itr_l (n := 199) (mst_v (k := 9) (by decide) vt_9)).trans (itr_r (n := 198) (show mst cT0 vT0 (false, 10, [6, -10, -25, 3, 0], []) = some (.inr (true, 10, [6, -10, -25, 3, 0])) by decide))
theorem m_det {c : Nat} {s : mc_T} {r r' : mr_T} (hc : c ≤ 200) (h : itr (mst cT0 vT0) c s = some r) (h' : itr (mst cT0 vT0) 200 s = some r') : r = r' := by
  have h2 := itr_more c (200 - c) h
  rw [show c + (200 - c) = 200 by omega, h'] at h2
  exact (Option.some.inj h2).symm
theorem po_det {w k k2 q : Nat} {cs ds es : List Int32} (h : POk cT0 vT0 w k cs k2 ds) (hm : itr (mst cT0 vT0) 200 (true, k + 1, cs, []) = some (true, q, cs ++ es)) : ds = es ∧ k2 = q + 1 := by
  obtain ⟨_, c, k', hc, hi, _, hk2, _⟩ := h
  have := m_det hc hi hm
  rw [Prod.mk.injEq, Prod.mk.injEq] at this
  exact ⟨List.append_cancel_left this.2.2, by omega⟩
theorem pf_det {w k q k' : Nat} {cs es : List Int32} (h : PFt cT0 vT0 w k cs k') (hk : cT0 k = nI (6 + w)) (hm : itr (mst cT0 vT0) 200 (true, k + 1, cs, []) = some (true, q, es)) (h59 : cT0 q = 59) : False := by
  rcases h with ⟨h1, _⟩ | ⟨_, c, res, hc, hi, hr, h2⟩
  · exact h1 hk
  · have := m_det hc hi hm
    subst this
    have hq : q = k' := hr
    subst hq
    exact h2 rfl h59
theorem first_no {k' : Nat} (h : TFt cT0 vT0 k') : False := by
  rcases h with h | ⟨k1, d0, p0, h⟩
  · exact pf_det h (by decide) m_0 (by decide)
  · obtain ⟨rfl, rfl⟩ := po_det (es := [6, -10, -25]) p0 m_0
    rcases h with h | ⟨k2, d1, p1, h⟩
    · exact pf_det h (by decide) m_1 (by decide)
    · obtain ⟨rfl, rfl⟩ := po_det (es := [3]) p1 m_1
      rcases h with h | ⟨k3, d2, p2, h, _⟩
      · exact pf_det h (by decide) m_2 (by decide)
      · obtain ⟨rfl, rfl⟩ := po_det (es := [0]) p2 m_2
        exact h (by decide)
theorem first_yes {d0 d1 d2 : List Int32} (h : TOt cT0 vT0 d0 d1 d2) : d0 = [6, -10, -25] ∧ d1 = [3] ∧ d2 = [0] ∧ dok d0 31 ∧ dok d1 31 ∧ dok d2 31 := by
  obtain ⟨k1, k2, k3, p0, p1, p2, _⟩ := h
  have g0 := p0.dok
  have g1 := p1.dok
  have g2 := p2.dok
  obtain ⟨rfl, rfl⟩ := po_det (es := [6, -10, -25]) p0 m_0
  obtain ⟨rfl, rfl⟩ := po_det (es := [3]) p1 m_1
  obtain ⟨rfl, rfl⟩ := po_det (es := [0]) p2 m_2
  exact ⟨rfl, rfl, rfl, g0, g1, g2⟩
theorem first_st : ∃ sA sT rT, f_X2_addAll (zm1 (upr (fun _ _ => 0) 0 zz)) = some sA ∧ f_X3_take sA = some (rT, sT) ∧ sT 1 1 = 0 ∧ sT 0 8 = 0 ∧ TC sT (T3 (fun _ _ => []) 0 [6, -10, -25] [3] [0]) 1 ∧ TOk (T3 (fun _ _ => []) 0 [6, -10, -25] [3] [0]) 1 := by
  obtain ⟨sA, e1, a1, a2, a3⟩ := addAll_c (σ := zm1 (upr (fun _ _ => 0) 0 zz)) rfl
  have hs : sA 2 = s0 := by
    funext i
    rw [a2 i]
    rfl
  have hTC : TC sA (fun _ _ => []) 0 := ⟨by decide, by rw [a3 6 (by decide) (by decide)]; rfl, fun t ht => absurd ht (Nat.not_lt_zero _)⟩
  have hT : TPE (sA 2) 35 sA := ⟨by decide, a1, fun _ _ => rfl⟩
  have htk := take_c (K := 11) hTC (by decide) hT (by rw [hs]; exact pt_11) (fun j hj => by rw [hs]; exact pt_lt j hj)
  rw [hs] at htk
  have eV : (fun k => Vt s0 35 (Pt s0 35 k)) = vT0 := rfl
  rw [cT0_e, eV] at htk
  rcases htk with ⟨τ, k', _, _, _, htf, _⟩ | ⟨τ, d0, d1, d2, e2, c11, c63, cF, hto, hl160, hcode, he0, he1, he2⟩
  · exact absurd htf (fun z => first_no z)
  · obtain ⟨rfl, rfl, rfl, g0, g1, g2⟩ := first_yes hto
    refine ⟨sA, τ, nI 0, e1, e2, c11, ?_, hTC.next (by decide) c63 (fun q z1 z2 => by omega) hcode he0 he1 he2, TOk.next (fun t ht => absurd ht (Nat.not_lt_zero _)) hl160 g0 g1 g2⟩
    rw [cF 0 (by decide) (by decide) (by decide) (by decide) (by decide) (by decide) (by decide) (by decide), a3 0 (by decide) (by decide)]
    rfl
