/-! others: who had best set whose clock; every way gone through by both -/
theorem WR.fr69 {σ τ : sg_T} {a : pa_T} {m : Nat} {d : Int32} {ru : Nat} {T : tx_T} {n : Nat} (h : WR σ a m d ru T n) (he : ∀ q, kp q → q ≠ 69 → τ q = σ q) (h3 : τ 69 3 = σ 69 3) (h6 : τ 69 6 = σ 69 6) (h13 : τ 69 13 = σ 69 13) : WR τ a m d ru T n := by
  have ke : ∀ q, q = 0 ∨ q = 1 ∨ q = 2 ∨ (10 ≤ q ∧ q < 28) ∨ (34 ≤ q ∧ q < 42) ∨ (50 ≤ q ∧ q ≤ 57) ∨ (60 ≤ q ∧ q ≤ 68) ∨ q = 70 ∨ q = 71 ∨ (73 ≤ q ∧ q ≤ 77) ∨ (84 ≤ q ∧ q ≤ 86) ∨ q = 88 → τ q = σ q := fun q hq => he q (by unfold kp; omega) (by omega)
  obtain ⟨hC, hM, hok, hd, hru, hTC, hTM, hO, hI, hTp, hS, hH⟩ := h
  refine ⟨hC.eq (fun p _ _ => ke p (by omega)), hM.eq (ke 70 (by omega)), hok, hd, hru, hTC.eq (fun q _ _ _ _ => he q (by unfold kp; omega) (by omega)), ?_, hO, ?_, ?_, fun s hs => ?_, fun k hk => ?_⟩
  · unfold TM at hTM ⊢
    rw [h13, ke 75 (by omega), ke 76 (by omega)]; exact hTM
  · unfold IMG at hI ⊢
    rw [ke 0 (by omega), h3]
    rcases hI with hI | ⟨h1, h2, a', m', d', ru', g3, g4, g5⟩
    · exact Or.inl hI
    · exact Or.inr ⟨h1, h2, a', m', d', ru', g3.eq (fun p _ _ => ke p (by omega)), g4.eq (ke 71 (by omega)), g5⟩
  · unfold TAP at hTp ⊢
    rw [ke 1 (by omega), h6, ke 2 (by omega), ke 74 (by omega)]; exact hTp
  · rw [ke (61 + 2 * s) (by omega), ke 84 (by omega), ke 85 (by omega), ke 86 (by omega), ke (61 + 2 * s + 1) (by omega)]; exact hS s hs
  · rw [ke 73 (by omega), ke 88 (by omega), ke 77 (by omega)]; exact hH k hk
abbrev ws_T : Type := Option (Int32 × Int32)
def wlf (dg la : Int32) : ws_T → ws_T
  | none => some (la, dg)
  | some (l, g) => if l ≤ la then some (l, g) else some (la, dg)
def wyl (lt : Nat → Nat → Int32) (rec : Nat → Int32 → Int32 → ws_T → ws_T) (x1 b : Nat) (dg la : Int32) : Nat → ws_T → ws_T
  | 0, s => s
  | k + 1, s => if k = x1 ∨ ¬ (b / 2 ^ k) % 2 = 0 then wyl lt rec x1 b dg la k s else rec (b + 2 ^ k) (dg * 10 + nI k + 1) (la + lt x1 k) (wyl lt rec x1 b dg la k s)
theorem wyl_1 (lt : Nat → Nat → Int32) (rec : Nat → Int32 → Int32 → ws_T → ws_T) (x1 b : Nat) (dg la : Int32) (k : Nat) (s : ws_T) : wyl lt rec x1 b dg la (k + 1) s = if k = x1 ∨ ¬ (b / 2 ^ k) % 2 = 0 then wyl lt rec x1 b dg la k s else rec (b + 2 ^ k) (dg * 10 + nI k + 1) (la + lt x1 k) (wyl lt rec x1 b dg la k s) := rfl
def wy (lt : Nat → Nat → Int32) (m : Nat) : Nat → Nat → Nat → Int32 → Int32 → ws_T → ws_T
  | 0, _, _, dg, la, s => wlf dg la s
  | e + 1, x1, b, dg, la, s => wyl lt (wy lt m e (x1 + 1)) x1 b dg la m s
def wyb (m : Nat) : Nat → Nat → Nat → Bool
  | 0, _, _ => true
  | e + 1, x1, b => (List.range m).any (fun k => !decide (k = x1 ∨ ¬ (b / 2 ^ k) % 2 = 0) && wyb m e (x1 + 1) (b + 2 ^ k))
theorem wlf_n (dg la : Int32) (s : ws_T) : wlf dg la s ≠ none := by
  rcases s with _ | ⟨l, g⟩
  · intro h; exact absurd h (by simp [wlf])
  · show (if l ≤ la then some (l, g) else some (la, dg)) ≠ none
    split <;> simp
theorem wyl_mono {lt : Nat → Nat → Int32} {rec : Nat → Int32 → Int32 → ws_T → ws_T} (hr : ∀ b dg la s, s ≠ none → rec b dg la s ≠ none) (x1 b : Nat) (dg la : Int32) : ∀ (k : Nat) (s : ws_T), s ≠ none → wyl lt rec x1 b dg la k s ≠ none
  | 0, s, h => h
  | k + 1, s, h => by
    rw [wyl_1]
    split
    · exact wyl_mono hr x1 b dg la k s h
    · exact hr _ _ _ _ (wyl_mono hr x1 b dg la k s h)
theorem wy_mono (lt : Nat → Nat → Int32) (m : Nat) : ∀ (e x1 b : Nat) (dg la : Int32) (s : ws_T), s ≠ none → wy lt m e x1 b dg la s ≠ none
  | 0, _, _, dg, la, s, _ => wlf_n dg la s
  | e + 1, x1, b, dg, la, s, h => wyl_mono (fun b dg la s h => wy_mono lt m e (x1 + 1) b dg la s h) x1 b dg la m s h
theorem wyl_some {lt : Nat → Nat → Int32} {rec : Nat → Int32 → Int32 → ws_T → ws_T} (hr : ∀ b dg la s, s ≠ none → rec b dg la s ≠ none) (x1 b : Nat) (dg la : Int32) {j : Nat} (hj : ¬ (j = x1 ∨ ¬ (b / 2 ^ j) % 2 = 0)) (h2 : ∀ dg la s, rec (b + 2 ^ j) dg la s ≠ none) : ∀ (k : Nat) (s : ws_T), j < k → wyl lt rec x1 b dg la k s ≠ none
  | 0, s, h => absurd h (Nat.not_lt_zero _)
  | k + 1, s, h => by
    rw [wyl_1]
    by_cases hk : j = k
    · subst hk
      rw [if_neg hj]
      exact h2 _ _ _
    · have := wyl_some (lt := lt) hr x1 b dg la hj h2 k s (by omega)
      split
      · exact this
      · exact hr _ _ _ _ this
theorem wy_some (lt : Nat → Nat → Int32) (m : Nat) : ∀ (e x1 b : Nat) (dg la : Int32) (s : ws_T), wyb m e x1 b = true → wy lt m e x1 b dg la s ≠ none
  | 0, _, _, dg, la, s, _ => wlf_n dg la s
  | e + 1, x1, b, dg, la, s, h => by
    have h' : (List.range m).any (fun k => !decide (k = x1 ∨ ¬ (b / 2 ^ k) % 2 = 0) && wyb m e (x1 + 1) (b + 2 ^ k)) = true := h
    rw [List.any_eq_true] at h'
    obtain ⟨j, hj, h1⟩ := h'
    rw [Bool.and_eq_true] at h1
    have hjm : j < m := List.mem_range.mp hj
    have h2 : ¬ (j = x1 ∨ ¬ (b / 2 ^ j) % 2 = 0) := by
      have := h1.1
      intro q
      rw [decide_eq_true q] at this
      exact absurd this (by decide)
    exact wyl_some (fun b dg la s h => wy_mono lt m e (x1 + 1) b dg la s h) x1 b dg la h2 (fun dg la s => wy_some lt m e (x1 + 1) (b + 2 ^ j) dg la s h1.2) m s hjm
theorem wyb_all : ∀ m, m < 6 → 2 ≤ m → wyb m m 0 0 = true := by decide +kernel
def WC (σ : sg_T) : ws_T → Prop
  | none => σ 58 2 = 1000000 ∧ σ 58 3 = -1
  | some (l, g) => σ 58 2 = l ∧ σ 58 3 = g ∧ inr l 0 115
def WM (σ : sg_T) : ws_T → Prop
  | none => σ 69 23 = -1 ∧ σ 69 24 = -1
  | some (l, g) => σ 69 23 = l ∧ σ 69 24 = g ∧ inr l 0 115
theorem lf_c {σ : sg_T} {s : ws_T} (h : WC σ s) {dg la : Int32} (hl : inr la 0 115) : ∃ τ, (if (σ 58 2) ≤ la then some σ else bnd (up σ 58 2 la) (fun σ3 => bnd (up σ3 58 3 dg) (fun σ5 => some σ5))) = some τ ∧ WC τ (wlf dg la s) ∧ (∀ q, q ≠ 58 → τ q = σ q) ∧ τ 58 1 = σ 58 1 := by
  have e6 : (1000000 : Int32).toInt = 1000000 := by decide
  have nw : ∀ s', (s' = some (la, dg)) → WC (up (up σ 58 2 la) 58 3 dg) s' := fun s' e => by
    rw [e]
    exact ⟨by rw [up_nk (by decide), up_eq], up_eq, hl⟩
  rcases s with _ | ⟨l, g⟩
  · have hn : ¬ σ 58 2 ≤ la := by
      unfold inr at hl
      rw [h.1, Int32.le_iff_toInt_le]; omega
    rw [if_neg hn, bnd_s, bnd_s]
    exact ⟨_, rfl, nw _ rfl, fun q hq => by rw [up_n hq, up_n hq], by rw [up_nk (by decide), up_nk (by decide)]⟩
  · obtain ⟨h1, h2, h3⟩ := h
    by_cases hc : l ≤ la
    · rw [h1, if_pos hc]
      refine ⟨_, rfl, ?_, fun _ _ => rfl, rfl⟩
      show WC σ (if l ≤ la then some (l, g) else some (la, dg))
      rw [if_pos hc]; exact ⟨h1, h2, h3⟩
    · rw [h1, if_neg hc, bnd_s, bnd_s]
      refine ⟨_, rfl, nw _ ?_, fun q hq => by rw [up_n hq, up_n hq], by rw [up_nk (by decide), up_nk (by decide)]⟩
      show (if l ≤ la then some (l, g) else some (la, dg)) = _
      rw [if_neg hc]
section OthersB
variable {σ : sg_T} {a : pa_T} {m : Nat} {d : Int32} {ru : Nat} {T : tx_T} {n : Nat}
def lat (T : tx_T) (ru : Nat) (a : pa_T) (d : Int32) (i j : Nat) : Int32 := jmax 0 (sHo T ru a d i j - a j 2)
theorem lat_rng (hok : OkP a m) {i j : Nat} (hj : j < m) : inr (lat T ru a d i j) 0 23 := by
  have e0 : (0 : Int32).toInt = 0 := by decide
  have h1 := sHo_rng T ru a d i j
  have h2 := (hok j hj).2.2.1
  unfold lat inr at *
  rw [jmax_toInt, sub_toInt (by omega) (by omega)]; omega
def ROW (σ : sg_T) (m : Nat) (lt : Nat → Nat → Int32) : Prop := σ 58 1 = nI m ∧ ∀ i j, i < m → j < m → i ≠ j → σ 59 (i * 5 + j) = lt i j
theorem go_c {lt : Nat → Nat → Int32} (hm : m ≤ 5) (hlt : ∀ i j, j < m → inr (lt i j) 0 23) : ∀ (e x1 b : Nat) (dg la : Int32) (s : ws_T) (σ : sg_T) (F : Nat), x1 + e = m → e < F → b < 32 → inr la 0 (23 * x1) → ROW σ m lt → WC σ s → ∃ τ, g_goOn F (nI x1) (nI b) dg la σ = some τ ∧ WC τ (wy lt m e x1 b dg la s) ∧ ROW τ m lt ∧ ∀ q, q ≠ 58 → τ q = σ q := by
  intro e
  induction e with
  | zero =>
    intro x1 b dg la s σ F hx hF hb hl hR hW
    obtain ⟨F', rfl⟩ : ∃ n', F = n' + 1 := ⟨F - 1, by omega⟩
    obtain ⟨τ, e1, h1, h2, h3⟩ := lf_c hW (dg := dg) (la := la) (by unfold inr at hl ⊢; omega)
    refine ⟨τ, ?_, h1, ⟨by rw [h3]; exact hR.1, fun i j hi hj hij => by rw [h2 59 (by decide)]; exact hR.2 i j hi hj hij⟩, h2⟩
    show f_X6_goOn (g_goOn F') (nI x1) (nI b) dg la σ = _
    unfold f_X6_goOn
    rw [hR.1, if_pos (le_of_le (by omega) (by omega))]
    exact e1
  | succ e ih =>
    intro x1 b dg la s σ F hx hF hb hl hR hW
    obtain ⟨F', rfl⟩ : ∃ n', F = n' + 1 := ⟨F - 1, by omega⟩
    have hrun : ∃ r, itr (fun q => b_X6_goOn_37 (g_goOn F') (nI x1) (nI b) dg la q.1 q.2) lfu (0, σ) = some r ∧ (WC r.2 (wyl lt (wy lt m e (x1 + 1)) x1 b dg la m s) ∧ ROW r.2 m lt ∧ ∀ q, q ≠ 58 → r.2 q = σ q) := by
      refine itr_run (f := fun q => b_X6_goOn_37 (g_goOn F') (nI x1) (nI b) dg la q.1 q.2) (I := fun k q => q.1 = nI k ∧ WC q.2 (wyl lt (wy lt m e (x1 + 1)) x1 b dg la k s) ∧ ROW q.2 m lt ∧ ∀ p, p ≠ 58 → q.2 p = σ p) (R := fun r => WC r.2 (wyl lt (wy lt m e (x1 + 1)) x1 b dg la m s) ∧ ROW r.2 m lt ∧ ∀ q, q ≠ 58 → r.2 q = σ q) m (a := (0, σ)) ⟨rfl, hW, hR, fun _ _ => rfl⟩ ?_ ?_ (by omega)
      · intro k hk ⟨w, τ⟩ ⟨hw, hI, hR1, hF1⟩
        dsimp only at hw hI hR1 hF1 ⊢
        subst hw
        have e5 : nI x1 * 5 + nI k = nI (x1 * 5 + k) := by rw [n_5, pk_mul, nI_add]
        unfold b_X6_goOn_37
        rw [hR1.1, if_neg (nle_of_lt hk (by omega))]
        by_cases hkx : k = x1
        · subst hkx
          rw [if_pos rfl, bnd_s, nI_1]
          refine ⟨_, rfl, rfl, ?_, hR1, hF1⟩
          rw [wyl_1, if_pos (Or.inl rfl)]; exact hI
        · rw [if_neg (nIne (by omega) (by omega) hkx)]
          by_cases hbit : (b / 2 ^ k) % 2 = 0
          · obtain ⟨t1, t2, t3⟩ := bt1 b hb k (by omega) hbit
            have hl1 : inr (la + lt x1 k) 0 (23 * (x1 + 1)) := by
              have := hlt x1 k hk
              unfold inr at this hl ⊢
              rw [add_toInt (by omega) (by omega)]; omega
            obtain ⟨τ1, g1, g2, g3, g4⟩ := ih (x1 + 1) (b + 2 ^ k) (dg * 10 + nI k + 1) (la + lt x1 k) _ τ F' (by omega) (by omega) t2 hl1 hR1 hI
            rw [if_pos ((bt0 b hb k (by omega)).mpr hbit), e5, ck_n (by omega) (by decide), t1, nI_1, nI_clamp (by omega), hR1.2 x1 k (by omega) hk (fun q => hkx q.symm), g1, bd1_s, bnd_s, nI_1]
            refine ⟨_, rfl, rfl, ?_, g3, fun p hp => by dsimp only; rw [g4 p hp]; exact hF1 p hp⟩
            rw [wyl_1, if_neg (fun q => q.elim hkx (fun z => z hbit))]; exact g2
          · rw [if_neg (fun q => hbit ((bt0 b hb k (by omega)).mp q)), bnd_s, nI_1]
            refine ⟨_, rfl, rfl, ?_, hR1, hF1⟩
            rw [wyl_1, if_pos (Or.inr hbit)]; exact hI
      · intro ⟨w, τ⟩ ⟨hw, hI, hR1, hF1⟩
        dsimp only at hw hI hR1 hF1 ⊢
        subst hw
        refine ⟨(nI m, τ), ?_, hI, hR1, hF1⟩
        unfold b_X6_goOn_37
        rw [hR1.1, if_pos (Int32.le_refl _)]
    obtain ⟨⟨w, τ⟩, e1, h1, h2, h3⟩ := hrun
    refine ⟨τ, ?_, h1, h2, h3⟩
    show f_X6_goOn (g_goOn F') (nI x1) (nI b) dg la σ = _
    unfold f_X6_goOn
    have x5 : nI x1 < 5 := Int32.not_le.mp (nle_of_lt (m := 5) (by omega) (by decide))
    rw [hR.1, if_neg (nle_of_lt (by omega) (by omega)), if_pos x5, e1, bd2_s]
theorem lf_m {s : ws_T} (h : WM σ s) {dg la : Int32} (hl : inr la 0 115) : ∃ τ, (if (σ 69 23) = (-1) then bnd (up σ 69 23 la) (fun σ26 => bnd (up σ26 69 24 dg) (fun σ28 => some σ28)) else if (σ 69 23) ≤ la then some σ else bnd (up σ 69 23 la) (fun σ31 => bnd (up σ31 69 24 dg) (fun σ33 => some σ33))) = some τ ∧ WM τ (wlf dg la s) ∧ (∀ q, q ≠ 69 → τ q = σ q) ∧ ∀ k, k < 23 → τ 69 k = σ 69 k := by
  have nw : ∀ s', (s' = some (la, dg)) → WM (up (up σ 69 23 la) 69 24 dg) s' := fun s' e => by
    rw [e]
    exact ⟨by rw [up_nk (by decide), up_eq], up_eq, hl⟩
  rcases s with _ | ⟨l, g⟩
  · rw [if_pos h.1, bnd_s, bnd_s]
    exact ⟨_, rfl, nw _ rfl, fun q hq => by rw [up_n hq, up_n hq], fun k hk => by rw [up_nk (by omega), up_nk (by omega)]⟩
  · obtain ⟨h1, h2, h3⟩ := h
    have hn : ¬ σ 69 23 = -1 := fun q => by
      have em : (-1 : Int32).toInt = -1 := by decide
      unfold inr at h3
      rw [← h1, q] at h3; omega
    by_cases hc : l ≤ la
    · rw [if_neg hn, h1, if_pos hc]
      refine ⟨_, rfl, ?_, fun _ _ => rfl, fun _ _ => rfl⟩
      show WM σ (if l ≤ la then some (l, g) else some (la, dg))
      rw [if_pos hc]; exact ⟨h1, h2, h3⟩
    · rw [if_neg hn, h1, if_neg hc, bnd_s, bnd_s]
      refine ⟨_, rfl, nw _ ?_, fun q hq => by rw [up_n hq, up_n hq], fun k hk => by rw [up_nk (by omega), up_nk (by omega)]⟩
      show (if l ≤ la then some (l, g) else some (la, dg)) = _
      rw [if_neg hc]
theorem WM.fr {τ : sg_T} {s : ws_T} (h : WM σ s) (he : τ 69 = σ 69) : WM τ s := by
  rcases s with _ | ⟨l, g⟩
  · show τ 69 23 = -1 ∧ τ 69 24 = -1
    rw [he]; exact h
  · show τ 69 23 = l ∧ τ 69 24 = g ∧ inr l 0 115
    rw [he]; exact h
theorem go_m (hok : OkP a m) (hO : TOk T n) (hru : ru < n) : ∀ (e x1 b : Nat) (dg la : Int32) (s : ws_T) (σ : sg_T) (F : Nat), PM σ 70 a m d (nI ru) → TM σ T n → x1 + e = m → e < F → b < 32 → inr la 0 (23 * x1) → WM σ s → ∃ τ, g_arrange F (nI x1) (nI b) la dg σ = some τ ∧ WM τ (wy (lat T ru a d) m e x1 b dg la s) ∧ (∀ q, q ≠ 69 → q ≠ 79 → τ q = σ q) ∧ ∀ k, k < 23 → τ 69 k = σ 69 k := by
  intro e
  induction e with
  | zero =>
    intro x1 b dg la s σ F hP hT hx hF hb hl hW
    have hm := hP.1
    obtain ⟨F', rfl⟩ : ∃ n', F = n' + 1 := ⟨F - 1, by omega⟩
    obtain ⟨τ, e1, h1, h2, h3⟩ := lf_m hW (dg := dg) (la := la) (by unfold inr at hl ⊢; omega)
    refine ⟨τ, ?_, h1, fun q hq _ => h2 q hq, h3⟩
    show f_X8_arrange (g_arrange F') (nI x1) (nI b) la dg σ = _
    unfold f_X8_arrange
    have hxm : x1 = m := by omega
    rw [many_m hP, bd1_s, if_pos (by rw [hxm])]
    exact e1
  | succ e ih =>
    intro x1 b dg la s σ F hP hT hx hF hb hl hW
    have hm := hP.1
    obtain ⟨F', rfl⟩ : ∃ n', F = n' + 1 := ⟨F - 1, by omega⟩
    have hrun : ∃ r, itr (fun q => b_X8_arrange_39 (g_arrange F') (nI x1) (nI b) la dg q.1 q.2) lfu (0, σ) = some r ∧ (WM r.2 (wyl (lat T ru a d) (wy (lat T ru a d) m e (x1 + 1)) x1 b dg la m s) ∧ (∀ q, q ≠ 69 → q ≠ 79 → r.2 q = σ q) ∧ ∀ k, k < 23 → r.2 69 k = σ 69 k) := by
      refine itr_run (f := fun q => b_X8_arrange_39 (g_arrange F') (nI x1) (nI b) la dg q.1 q.2) (I := fun k q => q.1 = nI k ∧ WM q.2 (wyl (lat T ru a d) (wy (lat T ru a d) m e (x1 + 1)) x1 b dg la k s) ∧ (∀ p, p ≠ 69 → p ≠ 79 → q.2 p = σ p) ∧ ∀ p, p < 23 → q.2 69 p = σ 69 p) (R := fun r => WM r.2 (wyl (lat T ru a d) (wy (lat T ru a d) m e (x1 + 1)) x1 b dg la m s) ∧ (∀ q, q ≠ 69 → q ≠ 79 → r.2 q = σ q) ∧ ∀ k, k < 23 → r.2 69 k = σ 69 k) m (a := (0, σ)) ⟨rfl, hW, fun _ _ _ => rfl, fun _ _ => rfl⟩ ?_ ?_ (by omega)
      · intro k hk ⟨w, τ⟩ ⟨hw, hI, hF1, hF2⟩
        dsimp only at hw hI hF1 hF2 ⊢
        subst hw
        have hP1 : PM τ 70 a m d (nI ru) := hP.eq (hF1 70 (by decide) (by decide))
        have hT1 : TM τ T n := by
          unfold TM at hT ⊢
          rw [hF2 13 (by decide), hF1 75 (by decide) (by decide), hF1 76 (by decide) (by decide)]; exact hT
        unfold b_X8_arrange_39
        rw [many_m hP1, bd1_s, if_neg (nle_of_lt hk (by omega))]
        by_cases hkx : k = x1
        · subst hkx
          rw [if_pos rfl, bnd_s, nI_1]
          refine ⟨_, rfl, rfl, ?_, hF1, hF2⟩
          rw [wyl_1, if_pos (Or.inl rfl)]; exact hI
        · rw [if_neg (nIne (by omega) (by omega) hkx)]
          by_cases hbit : (b / 2 ^ k) % 2 = 0
          · obtain ⟨t1, t2, t3⟩ := bt1 b hb k (by omega) hbit
            have hl1 : inr (la + lat T ru a d x1 k) 0 (23 * (x1 + 1)) := by
              have := lat_rng (T := T) (ru := ru) (d := d) hok (i := x1) hk
              unfold inr at this hl ⊢
              rw [add_toInt (by omega) (by omega)]; omega
            obtain ⟨τ1, e1, f1⟩ := hour_m hP1 hT1 hO hru (i := x1) (j := k) (by omega) hk
            have hP2 : PM τ1 70 a m d (nI ru) := hP1.eq (f1 70 (by decide))
            have hT2 : TM τ1 T n := TM_scr hT1 (fun q hq => f1 q (by omega))
            have o2 : f_X8_of (nI k) 2 τ1 = some (a k 2) := ofk_m (k := 2) hP2 hk (by decide)
            obtain ⟨τ2, g1, g2, g3, g4⟩ := ih (x1 + 1) (b + 2 ^ k) (dg * 10 + nI k + 1) (la + lat T ru a d x1 k) _ τ1 F' hP2 hT2 (by omega) (by omega) t2 hl1 (hI.fr (f1 69 (by decide)))
            have e10 : (10 : Int32) * dg + nI k + 1 = dg * 10 + nI k + 1 := by rw [Int32.mul_comm]
            rw [if_pos ((bt0 b hb k (by omega)).mpr hbit), e1, bd2_s, o2, bd1_s, t1, nI_1, e10]
            rw [show la + jmax 0 (sHo T ru a d x1 k - a k 2) = la + lat T ru a d x1 k from rfl, g1, bd1_s, bnd_s, nI_1]
            refine ⟨_, rfl, rfl, ?_, fun p h1 h2 => by dsimp only; rw [g3 p h1 h2, f1 p h2]; exact hF1 p h1 h2, fun p hp => by dsimp only; rw [g4 p hp, f1 69 (by decide)]; exact hF2 p hp⟩
            rw [wyl_1, if_neg (fun q => q.elim hkx (fun z => z hbit))]; exact g2
          · rw [if_neg (fun q => hbit ((bt0 b hb k (by omega)).mp q)), bnd_s, nI_1]
            refine ⟨_, rfl, rfl, ?_, hF1, hF2⟩
            rw [wyl_1, if_pos (Or.inr hbit)]; exact hI
      · intro ⟨w, τ⟩ ⟨hw, hI, hF1, hF2⟩
        dsimp only at hw hI hF1 hF2 ⊢
        subst hw
        have hP1 : PM τ 70 a m d (nI ru) := hP.eq (hF1 70 (by decide) (by decide))
        refine ⟨(nI m, τ), ?_, hI, hF1, hF2⟩
        unfold b_X8_arrange_39
        rw [many_m hP1, bd1_s, if_pos (Int32.le_refl _)]
    obtain ⟨⟨w, τ⟩, e1, h1, h2, h3⟩ := hrun
    refine ⟨τ, ?_, h1, h2, h3⟩
    show f_X8_arrange (g_arrange F') (nI x1) (nI b) la dg σ = _
    unfold f_X8_arrange
    rw [many_m hP, bd1_s, if_neg (nIne (by omega) (by omega) (by omega)), e1, bd2_s]
theorem find_in (h : PC σ 34 a m d (nI ru)) (hT : TC σ T n) (hO : TOk T n) (hru : ru < n) (h58 : σ 58 1 = nI m) {i : Nat} (hi : i < m) : ∃ r, itr (fun q => b_X6_find_21 34 (nI i) q.1 q.2) lfu (0, σ) = some r ∧ ((∀ j, j < m → j ≠ i → r.2 59 (i * 5 + j) = lat T ru a d i j) ∧ (∀ p, ¬ (i * 5 ≤ p ∧ p < i * 5 + 5) → r.2 59 p = σ 59 p) ∧ ∀ q, q ≠ 8 → q ≠ 9 → q ≠ 59 → r.2 q = σ q) := by
  have hm := h.1
  refine itr_run (f := fun q => b_X6_find_21 34 (nI i) q.1 q.2) (I := fun k q => q.1 = nI k ∧ (∀ j, j < k → j ≠ i → q.2 59 (i * 5 + j) = lat T ru a d i j) ∧ (∀ p, ¬ (i * 5 ≤ p ∧ p < i * 5 + 5) → q.2 59 p = σ 59 p) ∧ ∀ p, p ≠ 8 → p ≠ 9 → p ≠ 59 → q.2 p = σ p) (R := fun r => (∀ j, j < m → j ≠ i → r.2 59 (i * 5 + j) = lat T ru a d i j) ∧ (∀ p, ¬ (i * 5 ≤ p ∧ p < i * 5 + 5) → r.2 59 p = σ 59 p) ∧ ∀ q, q ≠ 8 → q ≠ 9 → q ≠ 59 → r.2 q = σ q) m (a := (0, σ)) ⟨rfl, fun j hj => absurd hj (Nat.not_lt_zero _), fun _ _ => rfl, fun _ _ _ _ => rfl⟩ ?_ ?_ (by omega)
  · intro k hk ⟨w, τ⟩ ⟨hw, hI, hF1, hF2⟩
    dsimp only at hw hI hF1 hF2 ⊢
    subst hw
    unfold b_X6_find_21
    rw [hF2 58 (by decide) (by decide) (by decide), h58, if_neg (nle_of_lt hk (by omega))]
    by_cases hki : k = i
    · subst hki
      rw [if_pos rfl, bnd_s, nI_1]
      exact ⟨_, rfl, rfl, fun j hj hji => hI j (by omega) hji, hF1, hF2⟩
    · have hC1 : PC τ 34 a m d (nI ru) := h.eq (fun p _ _ => hF2 p (by omega) (by omega) (by omega))
      have hT1 : TC τ T n := hT.eq (fun q _ _ h3 h4 => hF2 q h3 h4 (by omega))
      obtain ⟨τ1, e1, f1⟩ := hour_c hC1 (Or.inl rfl) hT1 hO hru hi hk
      have hC2 : PC τ1 34 a m d (nI ru) := hC1.eq (fun p _ _ => f1 p (by omega) (by omega))
      have g2 : f_X1_get 34 2 (nI k) τ1 = some (a k 2) := get_c (w := 2) hC2 (by decide) (by decide) hk
      have e5 : nI i * 5 + nI k = nI (i * 5 + k) := by rw [n_5, pk_mul, nI_add]
      rw [if_neg (nIne (by omega) (by omega) (fun q => hki q.symm)), e1, bd2_s, g2, bd1_s, e5, ck_n (by omega) (by decide), nI_clamp (by omega), bnd_s, bnd_s, nI_1]
      refine ⟨_, rfl, rfl, fun j hj hji => ?_, fun p hp => ?_, fun p h1 h2 h3 => by dsimp only; rw [up_n h3, f1 p h1 h2]; exact hF2 p h1 h2 h3⟩
      · dsimp only
        by_cases hjk : j = k
        · subst hjk; rw [up_eq]; rfl
        · rw [up_nk (by omega), f1 59 (by decide) (by decide)]; exact hI j (by omega) hji
      · dsimp only
        rw [up_nk (by omega), f1 59 (by decide) (by decide)]; exact hF1 p hp
  · intro ⟨w, τ⟩ ⟨hw, hI, hF1, hF2⟩
    dsimp only at hw hI hF1 hF2 ⊢
    subst hw
    refine ⟨(nI m, τ), ?_, hI, hF1, hF2⟩
    unfold b_X6_find_21
    rw [hF2 58 (by decide) (by decide) (by decide), h58, if_pos (Int32.le_refl _)]
theorem find_out (h : PC σ 34 a m d (nI ru)) (hT : TC σ T n) (hO : TOk T n) (hru : ru < n) (h58 : σ 58 1 = nI m) : ∃ r, itr (fun q => b_X6_find_10 34 q.1 q.2) lfu (0, σ) = some r ∧ ((∀ i j, i < m → j < m → i ≠ j → r.2 59 (i * 5 + j) = lat T ru a d i j) ∧ ∀ q, q ≠ 8 → q ≠ 9 → q ≠ 59 → r.2 q = σ q) := by
  have hm := h.1
  refine itr_run (f := fun q => b_X6_find_10 34 q.1 q.2) (I := fun k q => q.1 = nI k ∧ (∀ i j, i < k → j < m → i ≠ j → q.2 59 (i * 5 + j) = lat T ru a d i j) ∧ ∀ p, p ≠ 8 → p ≠ 9 → p ≠ 59 → q.2 p = σ p) (R := fun r => (∀ i j, i < m → j < m → i ≠ j → r.2 59 (i * 5 + j) = lat T ru a d i j) ∧ ∀ q, q ≠ 8 → q ≠ 9 → q ≠ 59 → r.2 q = σ q) m (a := (0, σ)) ⟨rfl, fun i j hi => absurd hi (Nat.not_lt_zero _), fun _ _ _ _ => rfl⟩ ?_ ?_ (by omega)
  · intro k hk ⟨w, τ⟩ ⟨hw, hI, hF2⟩
    dsimp only at hw hI hF2 ⊢
    subst hw
    have hC1 : PC τ 34 a m d (nI ru) := h.eq (fun p _ _ => hF2 p (by omega) (by omega) (by omega))
    have hT1 : TC τ T n := hT.eq (fun q _ _ h3 h4 => hF2 q h3 h4 (by omega))
    obtain ⟨⟨w, τ1⟩, e1, h1, h2, h3⟩ := find_in hC1 hT1 hO hru (by rw [hF2 58 (by decide) (by decide) (by decide)]; exact h58) hk
    dsimp only at h1 h2 h3
    unfold b_X6_find_10
    rw [hF2 58 (by decide) (by decide) (by decide), h58, if_neg (nle_of_lt hk (by omega)), e1, bd2_s, bnd_s, nI_1]
    refine ⟨_, rfl, rfl, fun i j hi hj hij => ?_, fun p g1 g2 g3 => by dsimp only; rw [h3 p g1 g2 g3]; exact hF2 p g1 g2 g3⟩
    by_cases hik : i = k
    · subst hik; exact h1 j hj (fun q => hij q.symm)
    · dsimp only
      rw [h2 _ (by omega)]; exact hI i j (by omega) hj hij
  · intro ⟨w, τ⟩ ⟨hw, hI, hF2⟩
    dsimp only at hw hI hF2 ⊢
    subst hw
    refine ⟨(nI m, τ), ?_, hI, hF2⟩
    unfold b_X6_find_10
    rw [hF2 58 (by decide) (by decide) (by decide), h58, if_pos (Int32.le_refl _)]
theorem sm_others (x : Int32) : SM (f_X7_others x) (f_X8_others x) := by
  intro σ ⟨a, m, d, ru, T, n, h⟩
  have hW := h
  obtain ⟨hC, hM, hok, hd, hru, hTC, hTM, hO, hI, hTp, hS, hH⟩ := h
  have hm := hC.1
  have hmn : f_X1_many 34 σ = some (nI m) := by unfold f_X1_many; rw [hC.2.1]
  by_cases x0 : x < 0
  · refine ⟨-2, σ, σ, ?_, ?_, a, m, d, ru, T, n, hW⟩
    · unfold f_X7_others
      rw [if_pos x0]
    · unfold f_X8_others
      rw [isIn_0 (Or.inl x0), bd1_s, if_pos rfl]
  · by_cases x1 : x ≤ 1
    · have hin : ∀ τ, f_X8_isIn x 0 1 τ = some 1 := fun τ => isIn_1 (Int32.not_lt.mp x0) x1
      by_cases h2 : 2 ≤ m
      · have h2' : (2 : Int32) ≤ nI m := le_of_le (m := 2) h2 (by omega)
        have n1 : ¬ nI m ≤ 1 := nle_of_lt (i := 1) (by omega) (by omega)
        obtain ⟨σ1, q1⟩ : ∃ τ, τ = up σ 58 1 (nI m) := ⟨_, rfl⟩
        have f1 : ∀ q, q ≠ 58 → σ1 q = σ q := fun q hq => by rw [q1]; exact up_n hq
        have h58 : σ1 58 1 = nI m := by rw [q1]; exact up_eq
        have hC1 : PC σ1 34 a m d (nI ru) := hC.eq (fun p _ _ => f1 p (by omega))
        have hTC1 : TC σ1 T n := hTC.eq (fun q _ _ _ _ => f1 q (by omega))
        obtain ⟨⟨w2, σ2⟩, e2, r2, f2⟩ := find_out hC1 hTC1 hO hru h58
        dsimp only at r2 f2
        obtain ⟨σ3, q3⟩ : ∃ τ, τ = up (up σ2 58 2 1000000) 58 3 (-1) := ⟨_, rfl⟩
        have f3 : ∀ q, q ≠ 58 → σ3 q = σ2 q := fun q hq => by rw [q3, up_n hq, up_n hq]
        have hR3 : ROW σ3 m (lat T ru a d) := ⟨by rw [q3, up_nk (by decide), up_nk (by decide), f2 58 (by decide) (by decide) (by decide)]; exact h58, fun i j hi hj hij => by rw [f3 59 (by decide)]; exact r2 i j hi hj hij⟩
        have hW3 : WC σ3 none := ⟨by rw [q3, up_nk (by decide), up_eq], by rw [q3, up_eq]⟩
        obtain ⟨σ4, e4, c4, r4, f4⟩ := go_c hm (fun i j hj => lat_rng (T := T) (ru := ru) (d := d) hok (i := i) hj) m 0 0 0 0 none σ3 rfu (by omega) (by show m < 64; omega) (by decide) (by unfold inr; decide) hR3 hW3
        have k4 : ∀ q, q ≠ 8 → q ≠ 9 → q ≠ 58 → q ≠ 59 → σ4 q = σ q := fun q g1 g2 g3 g4 => by rw [f4 q g3, f3 q g3, f2 q g1 g2 g4, f1 q g3]
        obtain ⟨σ5, q5⟩ : ∃ τ, τ = up (up σ4 69 23 (-1)) 69 24 (-1) := ⟨_, rfl⟩
        have f5 : ∀ q, q ≠ 69 → σ5 q = σ4 q := fun q hq => by rw [q5, up_n hq, up_n hq]
        have g5 : ∀ k, k < 23 → σ5 69 k = σ4 69 k := fun k hk => by rw [q5, up_nk (by omega), up_nk (by omega)]
        have hM5 : PM σ5 70 a m d (nI ru) := hM.eq (by rw [f5 70 (by decide), k4 70 (by decide) (by decide) (by decide) (by decide)])
        have hTM5 : TM σ5 T n := by
          unfold TM at hTM ⊢
          rw [g5 13 (by decide), f5 75 (by decide), f5 76 (by decide), k4 69 (by decide) (by decide) (by decide) (by decide), k4 75 (by decide) (by decide) (by decide) (by decide), k4 76 (by decide) (by decide) (by decide) (by decide)]; exact hTM
        have hW5 : WM σ5 none := ⟨by rw [q5, up_nk (by decide), up_eq], by rw [q5, up_eq]⟩
        obtain ⟨σ6, e6, c6, f6, g6⟩ := go_m hok hO hru m 0 0 0 0 none σ5 rfu hM5 hTM5 (by omega) (by show m < 64; omega) (by decide) (by unfold inr; decide) hW5
        have hsome := wy_some (lat T ru a d) m m 0 0 0 0 none (wyb_all m (by omega) h2)
        rcases hw : wy (lat T ru a d) m m 0 0 0 0 none with _ | ⟨l, g⟩
        · exact absurd hw hsome
        · rw [hw] at c4 c6
          obtain ⟨c41, c42, _⟩ := c4
          obtain ⟨c61, c62, _⟩ := c6
          have efind : f_X6_find 34 σ = some σ4 := by
            unfold f_X6_find
            rw [hmn, bd1_s, bnd_s, ← q1, e2, bd2_s, bnd_s, bnd_s, ← q3, n_0]
            rw [n_0] at e4
            rw [e4, bd1_s]
          refine ⟨if x = 0 then g else l, σ4, σ6, ?_, ?_, a, m, d, ru, T, n, hW.fr69 (fun q h1 h3 => ?_) ?_ ?_ ?_⟩
          · unfold f_X7_others
            rw [if_neg x0, if_pos x1, hmn, bd1_s, if_pos h2', efind, bd1_s]
            by_cases xz : x = 0
            · unfold f_X6_digits
              rw [if_pos xz, if_pos xz, bd1_s, c42]
            · unfold f_X6_late
              rw [if_neg xz, if_neg xz, bd1_s, c41]
          · unfold f_X8_others
            rw [hin, bd1_s, if_neg (by decide), bnd_s, bnd_s, ← q5, many_m hM5, bd1_s, if_neg n1, n_0]
            rw [n_0] at e6
            rw [e6, bd1_s]
            by_cases xz : x = nI 0
            · rw [if_pos xz, if_pos xz, c62]
            · rw [if_neg xz, if_neg xz, c61]
          · unfold kp at h1
            rw [f6 q h3 (by omega), f5 q h3, k4 q (by omega) (by omega) (by omega) (by omega)]
          · rw [g6 3 (by decide), g5 3 (by decide), k4 69 (by decide) (by decide) (by decide) (by decide)]
          · rw [g6 6 (by decide), g5 6 (by decide), k4 69 (by decide) (by decide) (by decide) (by decide)]
          · rw [g6 13 (by decide), g5 13 (by decide), k4 69 (by decide) (by decide) (by decide) (by decide)]
      · have h2' : ¬ (2 : Int32) ≤ nI m := nle_of_lt (m := 2) (by omega) (by decide)
        have n1 : nI m ≤ 1 := le_of_le (i := 1) (by omega) (by decide)
        obtain ⟨σ5, q5⟩ : ∃ τ, τ = up (up σ 69 23 (-1)) 69 24 (-1) := ⟨_, rfl⟩
        have f5 : ∀ q, q ≠ 69 → σ5 q = σ q := fun q hq => by rw [q5, up_n hq, up_n hq]
        have g5 : ∀ k, k < 23 → σ5 69 k = σ 69 k := fun k hk => by rw [q5, up_nk (by omega), up_nk (by omega)]
        have hM5 : PM σ5 70 a m d (nI ru) := hM.eq (f5 70 (by decide))
        refine ⟨-1, σ, σ5, ?_, ?_, a, m, d, ru, T, n, hW.fr69 (fun q _ h3 => f5 q h3) (g5 3 (by decide)) (g5 6 (by decide)) (g5 13 (by decide))⟩
        · unfold f_X7_others
          rw [if_neg x0, if_pos x1, hmn, bd1_s, if_neg h2']
        · have s23 : σ5 69 23 = -1 := by rw [q5, up_nk (by decide), up_eq]
          have s24 : σ5 69 24 = -1 := by rw [q5, up_eq]
          unfold f_X8_others
          rw [hin, bd1_s, if_neg (by decide), bnd_s, bnd_s, ← q5, many_m hM5, bd1_s, if_pos n1]
          by_cases xz : x = 0
          · rw [if_pos xz, s24]
          · rw [if_neg xz, s23]
    · refine ⟨-2, σ, σ, ?_, ?_, a, m, d, ru, T, n, hW⟩
      · unfold f_X7_others
        rw [if_neg x0, if_neg x1]
      · unfold f_X8_others
        rw [isIn_0 (Or.inr (Int32.not_le.mp x1)), bd1_s, if_pos rfl]
end OthersB
