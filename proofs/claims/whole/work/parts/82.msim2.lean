/-! The model is the machine: begin, between, and its three loops. -/
def bgT (r2 : Int32) (σ : sg_T) : Option (Int32 × sg_T) :=
  bd1 (f_X8_isSign 40 σ) (fun r8 =>
  if r8 = 0 then
    bd1 (f_X8_isSign 45 σ) (fun r11 =>
    if r11 = 0 then
      if r2 = 11 then
        bd1 (f_X8_last σ) (fun r21 =>
        bnd ((if 3 < r21 then (-25) else (-22)) : Int32) (fun v23 =>
        if v23 = (-25) then some (0, σ)
        else if (σ 69 10) = 5 then some (0, σ)
        else bnd (up σ 69 10 ((σ 69 10) + 1)) (fun σ27 => bd1 (f_X8_await v23 σ27) (fun σ30 => some (2, σ30)))))
      else
        if ((-25) : Int32) = ((-25) : Int32) then some (0, σ)
        else if (σ 69 10) = 5 then some (0, σ)
        else bnd (up σ 69 10 ((σ 69 10) + 1)) (fun σ16 => bd1 (f_X8_await (-25) σ16) (fun σ19 => some (2, σ19)))
    else
      if ((-28) : Int32) = ((-25) : Int32) then some (0, σ)
      else if (σ 69 10) = 5 then some (0, σ)
      else bnd (up σ 69 10 ((σ 69 10) + 1)) (fun σ33 => bd1 (f_X8_await (-28) σ33) (fun σ36 => some (2, σ36))))
  else
    if (0 : Int32) = ((-25) : Int32) then some (0, σ)
    else if (σ 69 10) = 5 then some (0, σ)
    else bnd (up σ 69 10 ((σ 69 10) + 1)) (fun σ39 => bd1 (f_X8_await 0 σ39) (fun σ42 => some (2, σ42))))
theorem begin_e (σ : sg_T) : f_X8_begin σ = bd1 (f_X8_word σ) (fun r2 => bd1 (f_X8_isIn r2 0 5 σ) (fun r4 => if r4 = 0 then (if (σ 69 9) = 2 then (if 4 < ((σ 69 7) - (σ 69 8)) then bgT r2 σ else bd1 (f_X8_numberThere σ) (fun r81 => bd1 (f_X8_write r81 σ) (fun σ83 => some (1, σ83)))) else bgT r2 σ) else bd1 (f_X8_write ((-10) - r2) σ) (fun σ85 => some (1, σ85)))) := rfl
section MsC
variable {C V : Nat → Int32} {K n : Nat} {TK : sg_T → Nat → Prop}
/-- what begin does, beside the machine's step -/
def bgR (C V : Nat → Int32) (n k : Nat) (cs W : List Int32) (σ : sg_T) (r : Int32) (τ : sg_T) : Prop :=
  FM n σ τ ∧ FT σ τ ∧ ((r = 1 ∧ C k ≠ 301 ∧ ∃ c, mstB C V k cs W = mA (k + 1) (stl 7 (cs ++ [c]) W) ∧ MS n τ (cs ++ [c]) W) ∨ (r = 2 ∧ C k ≠ 301 ∧ ∃ c, mstB C V k cs W = mB (k + 1) (cs, W) c ∧ MS n τ cs (c :: W)) ∨ (r = 0 ∧ mstB C V k cs W = mF k cs))
theorem begin_m (hT : TKF C V K TK) {σ : sg_T} {k : Nat} {cs W : List Int32} (h : TK σ k) (hM : MS n σ cs W) (hl : cs.length + W.length ≤ k) : ∃ r τ, f_X8_begin σ = some (r, τ) ∧ bgR C V n k cs W σ r τ := by
  obtain ⟨t0, t1, t2, t3, t4, t5⟩ := hT.1 σ k h
  obtain ⟨_, _, hKe, hKn, hK160⟩ := hT
  have hltK : C k ≠ 301 → k < K := fun hc => by
    by_cases hk : k = K
    · subst hk; exact absurd hKe hc
    · omega
  have hopn := hM.2.2.2.1
  have hopl : opn W ≤ 160 := by
    have hle : ∀ X : List Int32, opn X ≤ X.length := fun X => by
      induction X with
      | nil => exact Nat.le_refl _
      | cons y X ihX =>
        show (if y = 0 ∨ y = -22 ∨ y = -28 then 1 else 0) + opn X ≤ X.length + 1
        split <;> omega
    have := hle W
    omega
  have ho5 : (σ 69 10 = 5) ↔ opn W = 5 := by
    rw [hopn]
    exact ⟨fun q => nI_inj (by omega) (by decide) q, fun q => by rw [q]; rfl⟩
  rw [begin_e, t1, bd1_s]
  by_cases hnm : 0 ≤ C k ∧ C k < 6
  · have hne : C k ≠ 301 := fun q => by rw [q] at hnm; exact absurd hnm.2 (by decide)
    have hkK := hltK hne
    have h6 : C k ≤ 5 := by
      have e5 : (5 : Int32).toInt = 5 := by decide
      have e6 : (6 : Int32).toInt = 6 := by decide
      have := hnm.2
      rw [Int32.lt_iff_toInt_lt] at this
      rw [Int32.le_iff_toInt_le]; omega
    have h12 : C k < 12 := Int32.lt_trans hnm.2 (by decide)
    have hwd : wd (C k) = C k := by unfold wd; rw [if_pos ⟨hnm.1, h12⟩]
    obtain ⟨τ, e1, m1, f1, g1, _⟩ := write_m hM (by omega) (-10 - C k)
    rw [hwd, isIn_1 hnm.1 h6, bd1_s, if_neg (by decide), e1, bd1_s]
    refine ⟨1, τ, rfl, f1, g1, Or.inl ⟨rfl, hne, -10 - C k, ?_, m1⟩⟩
    unfold mstB
    rw [if_pos hnm]
  · have hin : f_X8_isIn (wd (C k)) 0 5 σ = some 0 := by
      refine isIn_0 ?_
      unfold wd
      by_cases hc : 0 ≤ C k ∧ C k < 12
      · rw [if_pos hc]
        right
        have e5 : (5 : Int32).toInt = 5 := by decide
        have e6 : (6 : Int32).toInt = 6 := by decide
        have hn6 : ¬ C k < 6 := fun q => hnm ⟨hc.1, q⟩
        rw [Int32.lt_iff_toInt_lt] at hn6 ⊢
        omega
      · rw [if_neg hc]; left; decide
    rw [hin, bd1_s, if_pos rfl]
    by_cases h300 : C k = 300
    · have hs := t3.mpr h300
      have hne : C k ≠ 301 := by rw [h300]; decide
      have hkK := hltK hne
      obtain ⟨τ, e1, m1, f1, g1, _⟩ := write_m hM (by omega) (V k)
      rw [if_pos hs.1, if_neg hs.2, t4 h300, bd1_s, e1, bd1_s]
      refine ⟨1, τ, rfl, f1, g1, Or.inl ⟨rfl, hne, V k, ?_, m1⟩⟩
      unfold mstB
      rw [if_neg hnm, if_pos h300]
    · have htree : ∃ r τ, bgT (wd (C k)) σ = some (r, τ) ∧ bgR C V n k cs W σ r τ := by
        unfold bgT
        rw [t2 40 (Or.inl rfl), bd1_s]
        by_cases h40 : C k = 40
        · have hne : C k ≠ 301 := by rw [h40]; decide
          have hkK := hltK hne
          rw [if_pos h40, if_neg (by decide), if_neg (by decide)]
          by_cases h5 : opn W = 5
          · rw [if_pos (ho5.mpr h5)]
            refine ⟨0, σ, rfl, FM.rfl' σ, FT.rfl' σ, Or.inr (Or.inr ⟨rfl, ?_⟩)⟩
            unfold mstB
            rw [if_neg hnm, if_neg h300, if_pos h40, if_pos h5]
          · obtain ⟨τ, e1, m1, f1, g1⟩ := open_m hM (by omega) (c := 0) (Or.inl rfl)
            rw [if_neg (fun q => h5 (ho5.mp q)), bnd_s, e1, bd1_s]
            refine ⟨2, τ, rfl, f1, g1, Or.inr (Or.inl ⟨rfl, hne, 0, ?_, m1⟩)⟩
            unfold mstB
            rw [if_neg hnm, if_neg h300, if_pos h40, if_neg h5]
        · rw [if_neg h40, if_pos rfl, t2 45 (by decide), bd1_s]
          by_cases h45 : C k = 45
          · have hne : C k ≠ 301 := by rw [h45]; decide
            have hkK := hltK hne
            rw [if_pos h45, if_neg (by decide), if_neg (by decide)]
            by_cases h5 : opn W = 5
            · rw [if_pos (ho5.mpr h5)]
              refine ⟨0, σ, rfl, FM.rfl' σ, FT.rfl' σ, Or.inr (Or.inr ⟨rfl, ?_⟩)⟩
              unfold mstB
              rw [if_neg hnm, if_neg h300, if_neg h40, if_pos h45, if_pos h5]
            · obtain ⟨τ, e1, m1, f1, g1⟩ := open_m hM (by omega) (c := -28) (Or.inr (Or.inr rfl))
              rw [if_neg (fun q => h5 (ho5.mp q)), bnd_s, e1, bd1_s]
              refine ⟨2, τ, rfl, f1, g1, Or.inr (Or.inl ⟨rfl, hne, -28, ?_, m1⟩)⟩
              unfold mstB
              rw [if_neg hnm, if_neg h300, if_neg h40, if_pos h45, if_neg h5]
          · rw [if_neg h45, if_pos rfl]
            by_cases h11 : C k = 11
            · have hne : C k ≠ 301 := by rw [h11]; decide
              have hkK := hltK hne
              have hwd : wd (C k) = 11 := by rw [h11]; decide
              have htp := tp_le W
              rw [if_pos hwd, last_m hM, bd1_s, bnd_s]
              by_cases h3 : 3 < tp W
              · have h3' : (3 : Int32) < nI (tp W) := Int32.not_le.mp (nle_of_lt (i := 3) h3 (by omega))
                rw [if_pos h3', if_pos rfl]
                refine ⟨0, σ, rfl, FM.rfl' σ, FT.rfl' σ, Or.inr (Or.inr ⟨rfl, ?_⟩)⟩
                unfold mstB
                rw [if_neg hnm, if_neg h300, if_neg h40, if_neg h45, if_pos h11, if_pos h3]
              · have h3' : ¬ (3 : Int32) < nI (tp W) := Int32.not_lt.mpr (le_of_le (i := 3) (by omega) (by decide))
                rw [if_neg h3', if_neg (show ¬ (-22 : Int32) = -25 by decide)]
                by_cases h5 : opn W = 5
                · rw [if_pos (ho5.mpr h5)]
                  refine ⟨0, σ, rfl, FM.rfl' σ, FT.rfl' σ, Or.inr (Or.inr ⟨rfl, ?_⟩)⟩
                  unfold mstB
                  rw [if_neg hnm, if_neg h300, if_neg h40, if_neg h45, if_pos h11, if_neg h3, if_pos h5]
                · obtain ⟨τ, e1, m1, f1, g1⟩ := open_m hM (by omega) (c := -22) (Or.inr (Or.inl rfl))
                  rw [if_neg (fun q => h5 (ho5.mp q)), bnd_s, e1, bd1_s]
                  refine ⟨2, τ, rfl, f1, g1, Or.inr (Or.inl ⟨rfl, hne, -22, ?_, m1⟩)⟩
                  unfold mstB
                  rw [if_neg hnm, if_neg h300, if_neg h40, if_neg h45, if_pos h11, if_neg h3, if_neg h5]
            · have hwd : ¬ wd (C k) = 11 := by
                unfold wd
                split
                · exact h11
                · decide
              rw [if_neg hwd, if_pos rfl]
              refine ⟨0, σ, rfl, FM.rfl' σ, FT.rfl' σ, Or.inr (Or.inr ⟨rfl, ?_⟩)⟩
              unfold mstB
              rw [if_neg hnm, if_neg h300, if_neg h40, if_neg h45, if_neg h11]
      by_cases hs : σ 69 9 = 2
      · have hlong : 4 < σ 69 7 - σ 69 8 := by
          by_cases hq : 4 < σ 69 7 - σ 69 8
          · exact hq
          · exact absurd (t3.mp ⟨hs, hq⟩) h300
        rw [if_pos hs, if_pos hlong]
        exact htree
      · rw [if_neg hs]
        exact htree
theorem between_m (hT : TKF C V K TK) {σ : sg_T} {k : Nat} (h : TK σ k) : f_X8_between σ = some (btw (C k)) := by
  obtain ⟨t0, t1, t2, t3, t4, t5⟩ := hT.1 σ k h
  unfold f_X8_between btw
  rw [t1, bd1_s]
  have w9 : wd (C k) = 9 ↔ C k = 9 := by
    unfold wd
    by_cases hc : 0 ≤ C k ∧ C k < 12
    · rw [if_pos hc]
    · rw [if_neg hc]
      exact ⟨fun q => absurd q (by decide), fun q => absurd (by rw [q]; decide) hc⟩
  have w10 : wd (C k) = 10 ↔ C k = 10 := by
    unfold wd
    by_cases hc : 0 ≤ C k ∧ C k < 12
    · rw [if_pos hc]
    · rw [if_neg hc]
      exact ⟨fun q => absurd q (by decide), fun q => absurd (by rw [q]; decide) hc⟩
  by_cases h9 : C k = 9
  · rw [if_pos (w9.mpr h9), if_pos h9]
  · rw [if_neg (fun q => h9 (w9.mp q)), if_neg h9]
    by_cases h10 : C k = 10
    · rw [if_pos (w10.mpr h10), if_pos h10]
    · rw [if_neg (fun q => h10 (w10.mp q)), if_neg h10, t2 60 (by decide), bd1_s]
      by_cases h60 : C k = 60
      · rw [if_pos h60, if_pos h60, if_neg (by decide)]
      · rw [if_neg h60, if_neg h60, if_pos rfl, t2 61 (by decide), bd1_s]
        by_cases h61 : C k = 61
        · rw [if_pos h61, if_pos h61, if_neg (by decide)]
        · rw [if_neg h61, if_neg h61, if_pos rfl, t2 43 (by decide), bd1_s]
          by_cases h43 : C k = 43
          · rw [if_pos h43, if_pos h43, if_neg (by decide)]
          · rw [if_neg h43, if_neg h43, if_pos rfl, t2 45 (by decide), bd1_s]
            by_cases h45 : C k = 45
            · rw [if_pos h45, if_pos h45, if_neg (by decide)]
            · rw [if_neg h45, if_neg h45, if_pos rfl, t2 42 (by decide), bd1_s, bnd_s]
              by_cases h42 : C k = 42
              · rw [if_pos h42, if_pos h42, if_neg (by decide)]
              · rw [if_neg h42, if_neg h42, if_pos rfl]
/-- the model at a token, beside the machine -/
def MR (TK : sg_T → Nat → Prop) (n : Nat) (σ : sg_T) (k : Nat) (cs W : List Int32) : Prop := TK σ k ∧ MS n σ cs W ∧ cs.length + W.length ≤ k
theorem next_m (hT : TKF C V K TK) {σ : sg_T} {k : Nat} {cs W : List Int32} (h : TK σ k) (hM : MS n σ cs W) (hl : cs.length + W.length ≤ k + 1) (hne : C k ≠ 301) : ∃ τ, f_X8_next σ = some τ ∧ MR TK n τ (k + 1) cs W ∧ FM n σ τ := by
  obtain ⟨t0, t1, t2, t3, t4, t5⟩ := hT.1 σ k h
  have hkK : k < K := by
    by_cases hk : k = K
    · subst hk; exact absurd hT.2.2.1 hne
    · omega
  obtain ⟨τ, e1, h1, f1, f2⟩ := t5 hkK
  exact ⟨τ, e1, ⟨h1, hM.eq (f2 17 (by decide) (by decide) (by decide)) (f1 78 (by decide)) (f2 10 (by decide) (by decide) (by decide)) (f2 13 (by decide) (by decide) (by decide)) (f2 14 (by decide) (by decide) (by decide)) (f1 75 (by decide)), hl⟩, fun q a _ _ => f1 q a, fun j a b c _ _ _ => f2 j a b c, fun p _ => by rw [f1 75 (by decide)]⟩
/-- before an operand -/
theorem pre_loop (hT : TKF C V K TK) : ∀ (c F : Nat) (σ : sg_T) (k : Nat) (cs W : List Int32) (res : mr_T), c ≤ F → itr (mst C V) c (true, k, cs, W) = some res → MR TK n σ k cs W → ∃ r0 σ0 v τ, f_X8_begin σ = some (r0, σ0) ∧ itr (fun q => b_X8_isE_10 q.1 q.2) F (r0, σ0) = some (v, τ) ∧ FM n σ τ ∧ ((v = 0 ∧ res.1 = false ∧ TK τ res.2.1) ∨ (v = 1 ∧ ∃ c' k' cs' W', c' < c ∧ TK τ k' ∧ MS n τ cs' W' ∧ cs'.length + W'.length ≤ k' + 1 ∧ C k' ≠ 301 ∧ itr (mst C V) c' (false, k' + 1, (stl 7 cs' W').1, (stl 7 cs' W').2) = some res)) := by
  intro c
  induction c with
  | zero => intro F σ k cs W res _ h; exact absurd (show (none : Option mr_T) = some res from h) (by simp)
  | succ c ih =>
    intro F σ k cs W res hF h hM
    obtain ⟨F', rfl⟩ : ∃ n', F = n' + 1 := ⟨F - 1, by omega⟩
    obtain ⟨r, τ, e1, f1, g1, hcase⟩ := begin_m hT hM.1 hM.2.1 hM.2.2
    have hmst : mst C V (true, k, cs, W) = some (mstB C V k cs W) := rfl
    have hTK : TK τ k := hT.fr hM.1 g1
    have hlen := hM.2.2
    rcases hcase with ⟨rfl, hne, x, hm, m1⟩ | ⟨rfl, hne, x, hm, m1⟩ | ⟨rfl, hm⟩
    · refine ⟨1, τ, 1, τ, e1, itr_r ?_, f1, Or.inr ⟨rfl, c, k, cs ++ [x], W, by omega, hTK, m1, by simp only [List.length_append, List.length_cons, List.length_nil]; omega, hne, ?_⟩⟩
      · show b_X8_isE_10 1 τ = _
        unfold b_X8_isE_10
        rw [if_neg (by decide)]
      · rw [hm] at hmst
        rw [itr_l hmst] at h
        exact h
    · obtain ⟨τ2, e2, hM2, f2⟩ := next_m hT hTK m1 (by simp only [List.length_cons]; omega) hne
      rw [hm] at hmst
      rw [itr_l hmst] at h
      obtain ⟨r0, σ0, v, τ3, i1, i2, i3, i4⟩ := ih F' τ2 (k + 1) cs (x :: W) res (by omega) h hM2
      refine ⟨2, τ, v, τ3, e1, ?_, (f1.two f2).two i3, ?_⟩
      · rw [itr_l (b := (r0, σ0))]
        · exact i2
        · show b_X8_isE_10 2 τ = _
          unfold b_X8_isE_10
          rw [if_pos rfl, e2, bd1_s, i1, bd2_s]
      · rcases i4 with ⟨j1, j2, j3⟩ | ⟨j1, c', k', cs', W', j2, j3⟩
        · exact Or.inl ⟨j1, j2, j3⟩
        · exact Or.inr ⟨j1, c', k', cs', W', by omega, j3⟩
    · refine ⟨0, τ, 0, τ, e1, itr_r ?_, f1, Or.inl ⟨rfl, ?_⟩⟩
      · show b_X8_isE_10 0 τ = _
        unfold b_X8_isE_10
        rw [if_neg (by decide)]
      · rw [hm] at hmst
        rw [itr_r hmst] at h
        have hr : res = (false, k, cs) := (Option.some.inj h).symm
        rw [hr]
        exact ⟨rfl, hTK⟩
/-- behind an operand: brackets that close -/
theorem clos_loop (hT : TKF C V K TK) (u : Int32) : ∀ (c F : Nat) (σ : sg_T) (k : Nat) (cs W : List Int32) (res : mr_T), c ≤ F → itr (mst C V) c (false, k, cs, W) = some res → MR TK n σ k cs W → ∃ out, itr (fun q => b_X8_isE_43 u q) F σ = some out ∧ ((∃ τ, out = .inr (0, τ) ∧ FM n σ τ ∧ res.1 = false ∧ TK τ res.2.1) ∨ (∃ τ c' k' cs' W', out = .inl τ ∧ FM n σ τ ∧ c' ≤ c ∧ C k' ≠ 41 ∧ MR TK n τ k' cs' W' ∧ itr (mst C V) c' (false, k', cs', W') = some res)) := by
  intro c
  induction c with
  | zero => intro F σ k cs W res _ h; exact absurd (show (none : Option mr_T) = some res from h) (by simp)
  | succ c ih =>
    intro F σ k cs W res hF h hM
    obtain ⟨F', rfl⟩ : ∃ n', F = n' + 1 := ⟨F - 1, by omega⟩
    obtain ⟨t0, t1, t2, t3, t4, t5⟩ := hT.1 σ k hM.1
    have hlen := hM.2.2
    by_cases h41 : C k = 41
    · have hne : C k ≠ 301 := by rw [h41]; decide
      obtain ⟨τ, e1, m1, f1, g1⟩ := settle_f (r := 1) (by decide) hM.2.1
      have e1' : f_X8_settle 1 σ = some τ := e1
      have hTK := hT.fr hM.1 g1
      have hmst : mst C V (false, k, cs, W) = some (mstA C k cs W) := rfl
      unfold mstA at hmst
      rw [if_pos h41] at hmst
      have hsl := stl_len (r := 1) W cs
      have w17 : τ 69 17 = nI (stl 1 cs W).2.length := m1.2.1
      by_cases hem : (stl 1 cs W).2 = []
      · rw [if_pos hem] at hmst
        rw [itr_r hmst] at h
        have hr : res = (false, k, (stl 1 cs W).1) := (Option.some.inj h).symm
        refine ⟨.inr (0, τ), itr_r ?_, Or.inl ⟨τ, rfl, f1, by rw [hr], by rw [hr]; exact hTK⟩⟩
        unfold b_X8_isE_43
        rw [t2 41 (by decide), if_pos h41, bd1_s, if_neg (by decide), e1', bd1_s, if_pos (by rw [w17, hem]; rfl)]
      · rw [if_neg hem] at hmst
        rw [itr_l hmst] at h
        rcases hw2 : (stl 1 cs W).2 with _ | ⟨y, W2⟩
        · exact absurd hw2 hem
        · rw [hw2] at m1 h w17 hsl
          -- the bracket itself: what stopped settle 1 has rank 0
          have hy : rk y = 0 ∧ y = 0 := by
            have hs := stl_two (Nat.le_refl 1) W cs
            rw [hw2, stl_c] at hs
            by_cases hq : 0 < rk y ∧ 1 ≤ rk y
            · rw [if_pos hq] at hs
              have hl1 := stl_len (r := 1) W2 ((stl 1 cs W).1 ++ [y])
              have hl2 := stl_len (r := 1) W2 ((stl 1 cs W).1 ++ [y])
              rw [hs, hw2] at hl1
              have : (stl 1 cs W).1.length + (y :: W2).length = ((stl 1 cs W).1 ++ [y]).length + W2.length := hl1
              have hle : (stl 1 ((stl 1 cs W).1 ++ [y]) W2).2.length ≤ W2.length := by
                have hgen : ∀ (X : List Int32) (a : List Int32), (stl 1 a X).2.length ≤ X.length := fun X => by
                  induction X with
                  | nil => intro a; exact Nat.le_refl _
                  | cons z X ihX =>
                    intro a
                    rw [stl_c]
                    split
                    · have := ihX (a ++ [z]); simp only [List.length_cons]; omega
                    · exact Nat.le_refl _
                exact hgen W2 _
              rw [hs, hw2] at hle
              simp only [List.length_cons] at hle
              omega
            · have hr0 : rk y = 0 := by omega
              refine ⟨hr0, ?_⟩
              unfold rk at hr0
              by_cases hy0 : y = 0
              · exact hy0
              · rw [if_neg hy0] at hr0
                repeat' split at hr0
                all_goals omega
          obtain ⟨hrk0, hy0⟩ := hy
          obtain ⟨h1, h2, h3, h4, h5, h6, h7, h8⟩ := m1
          simp only [List.length_cons] at h8 w17 hsl
          have hopW : opn (y :: W2) = opn W2 + 1 := by
            show (if y = 0 ∨ y = -22 ∨ y = -28 then 1 else 0) + opn W2 = _
            rw [if_pos (Or.inl hy0), Nat.add_comm]
          have hop2 : opn W2 ≤ 160 := by
            have hle : ∀ X : List Int32, opn X ≤ X.length := fun X => by
              induction X with
              | nil => exact Nat.le_refl _
              | cons z X ihX =>
                show (if z = 0 ∨ z = -22 ∨ z = -28 then 1 else 0) + opn X ≤ X.length + 1
                split <;> omega
            have := hle W2
            omega
          obtain ⟨τ2, q2⟩ : ∃ ρ, ρ = up (up τ 69 17 (nI W2.length)) 69 10 (nI (opn W2)) := ⟨_, rfl⟩
          have hM2 : MS n τ2 (stl 1 cs W).1 W2 := by
            refine ⟨h1, ?_, ?_, ?_, ?_, ?_, fun j hj => ?_, by omega⟩
            · rw [q2, up_nk (by decide), up_eq]
            · rw [q2, up_n (by decide), up_n (by decide)]; exact h3.tail
            · rw [q2, up_eq]
            · rw [q2, up_nk (by decide), up_nk (by decide)]; exact h5
            · rw [q2, up_nk (by decide), up_nk (by decide)]; exact h6
            · rw [q2, up_ne (by decide), up_ne (by decide)]; exact h7 j hj
          have f2 : FM n τ τ2 := ⟨fun q a _ _ => by rw [q2, up_n a, up_n a], fun j _ _ _ h10 _ h17 => by rw [q2, up_nk h10, up_nk h17], fun p _ => by rw [q2, up_ne (by decide), up_ne (by decide)]⟩
          have g2 : FT τ τ2 := ⟨fun j hj => by rw [q2, up_nk (by omega), up_nk (by omega)], by rw [q2, up_n (by decide), up_n (by decide)], by rw [q2, up_n (by decide), up_n (by decide)]⟩
          have hTK2 := hT.fr hTK g2
          obtain ⟨τ3, e3, m3, f3, g3⟩ := settle_f (r := 7) (by decide) hM2
          have e3' : f_X8_settle 7 τ2 = some τ3 := e3
          have hTK3 := hT.fr hTK2 g3
          have hsl7 := stl_len (r := 7) W2 (stl 1 cs W).1
          obtain ⟨τ4, e4, m4, f4⟩ := next_m hT hTK3 m3 (by omega) hne
          obtain ⟨out, i1, i2⟩ := ih F' τ4 (k + 1) _ _ res (by omega) h m4
          have hstep : b_X8_isE_43 u σ = some (.inl τ4) := by
            have n17 : ¬ τ 69 17 = 0 := by
              rw [w17]
              exact fun q => by have := (nI_0iff (by omega)).mp q; omega
            have d17 : τ 69 17 - 1 = nI W2.length := by rw [w17]; exact nI_pre (by omega)
            have d10 : up τ 69 17 (nI W2.length) 69 10 - 1 = nI (opn W2) := by
              rw [up_nk (by decide), h4, hopW]; exact nI_pre (by omega)
            unfold b_X8_isE_43
            rw [t2 41 (by decide), if_pos h41, bd1_s, if_neg (by decide), e1', bd1_s, if_neg n17, d17, bnd_s, d10, bnd_s, ← q2, e3', bd1_s, e4, bd1_s]
          refine ⟨out, by rw [itr_l hstep]; exact i1, ?_⟩
          rcases i2 with ⟨τ5, j1, j2, j3⟩ | ⟨τ5, c', k', cs', W', j1, j2, j3, j4⟩
          · exact Or.inl ⟨τ5, j1, (((f1.two f2).two f3).two f4).two j2, j3⟩
          · exact Or.inr ⟨τ5, c', k', cs', W', j1, (((f1.two f2).two f3).two f4).two j2, by omega, j4⟩
    · refine ⟨.inl σ, itr_r ?_, Or.inr ⟨σ, c + 1, k, cs, W, rfl, FM.rfl' σ, Nat.le_refl _, h41, hM, h⟩⟩
      unfold b_X8_isE_43
      rw [t2 41 (by decide), if_neg h41, bd1_s, if_pos rfl]
end MsC
