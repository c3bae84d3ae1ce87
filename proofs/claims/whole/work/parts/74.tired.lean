/-! Where no part that matters names how tired one is, hours don't depend on it. -/
def EqT (a b : pa_T) : Prop := ∀ i k, k ≠ 3 → a i k = b i k
theorem est_c4 {nm nm' : Nat → Int32} (h : ∀ k, k < 6 → k ≠ 4 → nm k = nm' k) {c : Int32} (hc : vcd c) (h4 : c ≠ -14) (st : List Int32) : est nm c st = est nm' c st := by
  rcases hc with h0 | rfl | rfl | rfl | rfl | rfl | rfl | rfl | rfl | rfl | rfl | rfl | rfl | rfl | rfl | rfl
  · unfold est; rw [if_pos h0, if_pos h0]
  · show nm 0 :: st = nm' 0 :: st
    rw [h 0 (by decide) (by decide)]
  · show nm 1 :: st = nm' 1 :: st
    rw [h 1 (by decide) (by decide)]
  · show nm 2 :: st = nm' 2 :: st
    rw [h 2 (by decide) (by decide)]
  · show nm 3 :: st = nm' 3 :: st
    rw [h 3 (by decide) (by decide)]
  · exact absurd rfl h4
  · show nm 5 :: st = nm' 5 :: st
    rw [h 5 (by decide) (by decide)]
  all_goals rfl
theorem evc_c4 {nm nm' : Nat → Int32} (h : ∀ k, k < 6 → k ≠ 4 → nm k = nm' k) : ∀ (cs st : List Int32), (∀ c ∈ cs, vcd c) → (∀ c ∈ cs, c ≠ -14) → evc nm cs st = evc nm' cs st
  | [], _, _, _ => rfl
  | c :: cs, st, hv, h4 => by
    show evc nm cs (est nm c st) = evc nm' cs (est nm' c st)
    rw [est_c4 h (hv c List.mem_cons_self) (h4 c List.mem_cons_self), evc_c4 h cs _ (fun x hx => hv x (List.mem_cons_of_mem _ hx)) (fun x hx => h4 x (List.mem_cons_of_mem _ hx))]
theorem nmS_t {a b : pa_T} (h : EqT a b) (d : Int32) (i j : Nat) : ∀ k, k < 6 → k ≠ 4 → nmS a d i j k = nmS b d i j k := by
  intro k hk h4
  rcases (show k = 0 ∨ k = 1 ∨ k = 2 ∨ k = 3 ∨ k = 5 by omega) with rfl | rfl | rfl | rfl | rfl
  · show (if i = j then 0 else a i (6 + j)) = (if i = j then 0 else b i (6 + j))
    rw [h i (6 + j) (by omega)]
  · exact h j 2 (by decide)
  · exact h i 1 (by decide)
  · rfl
  · exact h j 4 (by decide)
section TiredB
variable {a b : pa_T} {T : tx_T} {t : Nat} {m : Nat}
theorem tv_t (h : EqT a b) {p : Nat} (hv : ∀ c ∈ T t p, vcd c) (hn : ∀ c ∈ T t p, c ≠ -14) (d : Int32) (i j : Nat) : tv T t p a d i j = tv T t p b d i j := by
  unfold tv
  rw [evc_c4 (nmS_t h d i j) _ _ hv hn]
theorem sb_t (h : EqT a b) (i : Nat) : ∀ k, sb a i k = sb b i k
  | 0 => rfl
  | k + 1 => by rw [sb_1, sb_1, sb_t h i k, h k (6 + i) (by omega)]
theorem setr_t (h : EqT a b) (i : Nat) : setr a m i = setr b m i := by
  unfold setr; rw [sb_t h i m]
def noT (T : tx_T) (t : Nat) : Prop := (∀ p, p < 3 → ∀ c ∈ T t p, vcd c) ∧ (∀ c ∈ T t 0, c ≠ -14) ∧ ∀ c ∈ T t 2, c ≠ -14
theorem sHo_t (h : EqT a b) (hn : noT T t) (d : Int32) (i j : Nat) : sHo T t a d i j = sHo T t b d i j := by
  unfold sHo
  rw [tv_t h (hn.1 0 (by decide)) hn.2.1 d i j, h i 0 (by decide), h j 2 (by decide), h i 1 (by decide)]
theorem sGr_t (h : EqT a b) (hn : noT T t) (d : Int32) (i j : Nat) (l : Int32) : sGr T t a d i j l = sGr T t b d i j l := by
  unfold sGr
  rw [tv_t h (hn.1 2 (by decide)) hn.2.2 d i j, h i 0 (by decide)]
theorem sWa_t (h : EqT a b) (hn : noT T t) (d : Int32) (i : Nat) : sWa T t a m d i = sWa T t b m d i := by
  unfold sWa
  rw [setr_t h i, sHo_t h hn d _ i]
theorem sLa_t (h : EqT a b) (hn : noT T t) (d : Int32) (i : Nat) : sLa T t a m d i = sLa T t b m d i := by
  unfold sLa
  rw [setr_t h i, sHo_t h hn d _ i, h i 2 (by decide)]
theorem sFo_t (h : EqT a b) (hn : noT T t) (d : Int32) (i : Nat) : sFo T t a m d i = sFo T t b m d i := by
  unfold sFo
  rw [setr_t h i, sLa_t h hn d i, sGr_t h hn d _ i]
theorem up_t {x y : Int32} (h : EqT a b) (i : Nat) : EqT (up a i 3 x) (up b i 3 y) := fun j k hk => by
  rw [up_nk hk, up_nk hk]; exact h j k hk
theorem up_t2 {x y : Int32} (h : EqT a b) (i k : Nat) (hxy : x = y) : EqT (up a i k x) (up b i k y) := fun j q hq => by
  rw [up_at, up_at, hxy, h j q hq]
theorem dA1_t {S mo mo' la fo : Int32} (h : EqT a b) (i : Nat) : EqT (dA1 S mo la fo a i) (dA1 S mo' la fo b i) := by
  unfold dA1
  by_cases hs : S = -1
  · rw [if_pos hs, if_pos hs]
    exact up_t2 (up_t h i) i 4 (by rw [h i 4 (by decide)])
  · rw [if_neg hs, if_neg hs]
    refine up_t2 (up_t2 (up_t h i) i 5 ?_) _ _ ?_
    · rw [h i 5 (by decide)]
    · rw [h _ _ (by omega)]
theorem dA_t (h : EqT a b) (hn : noT T t) (d : Int32) : ∀ k, EqT (dA T t a m d k) (dA T t b m d k)
  | 0 => h
  | k + 1 => by
    rw [dA_1, dA_1, setr_t h k, sLa_t h hn d k, sFo_t h hn d k]
    exact dA1_t (dA_t h hn d k) k
theorem dN_t (h : EqT a b) (hn : noT T t) (d : Int32) : ∀ k, EqT (dN T t a m d k).1 (dN T t b m d k).1 ∧ (dN T t a m d k).2 = (dN T t b m d k).2
  | 0 => ⟨h, rfl⟩
  | k + 1 => by
    obtain ⟨h1, h2⟩ := dN_t h hn d k
    refine ⟨?_, ?_⟩
    · show EqT (dA T t (dN T t a m d k).1 m (dN T t a m d k).2 m) (dA T t (dN T t b m d k).1 m (dN T t b m d k).2 m)
      rw [h2]
      exact dA_t h1 hn _ m
    · show (dN T t a m d k).2 + 1 = (dN T t b m d k).2 + 1
      rw [h2]
theorem wk_t (h : EqT a b) (hn : noT T t) (d : Int32) (i k : Nat) : wk T t a m d i k = wk T t b m d i k := by
  obtain ⟨h1, h2⟩ := dN_t (m := m) h hn d k
  unfold wk
  rw [h2]
  exact sWa_t h1 hn _ i
end TiredB
/-- the first place at which something doesn't hold, or -1 -/
def fo (p : Nat → Bool) : Nat → Int32
  | 0 => -1
  | L + 1 => if fo p L = -1 then (if p L then -1 else nI L) else fo p L
theorem fo_1 (p : Nat → Bool) (L : Nat) : fo p (L + 1) = if fo p L = -1 then (if p L then -1 else nI L) else fo p L := rfl
theorem fo_all {p : Nat → Bool} : ∀ L, (∀ j, j < L → p j = true) → fo p L = -1
  | 0, _ => rfl
  | L + 1, h => by rw [fo_1, if_pos (fo_all L (fun j hj => h j (by omega))), if_pos (h L (by omega))]
theorem fo_at {p : Nat → Bool} {K : Nat} (h1 : ∀ j, j < K → p j = true) (h2 : ¬ p K = true) (hK : K < 2 ^ 31) : ∀ L, K < L → fo p L = nI K
  | 0, h => absurd h (Nat.not_lt_zero _)
  | L + 1, h => by
    rw [fo_1]
    by_cases hL : K = L
    · subst hL
      rw [if_pos (fo_all K h1), if_neg h2]
    · have := fo_at h1 h2 hK L (by omega)
      rw [if_neg (by rw [this]; exact nI_ne_m1 hK), this]
theorem fo_congr {p q : Nat → Bool} : ∀ L, (∀ j, j < L → p j = q j) → fo p L = fo q L
  | 0, _ => rfl
  | L + 1, h => by rw [fo_1, fo_1, fo_congr L (fun j hj => h j (by omega)), h L (by omega)]
theorem fars (p : Nat → Bool) : ∀ N, ∃ K, K ≤ N ∧ (∀ j, j < K → p j = true) ∧ (K = N ∨ ¬ p K = true)
  | 0 => ⟨0, Nat.le_refl _, fun j hj => absurd hj (Nat.not_lt_zero _), Or.inl rfl⟩
  | N + 1 => by
    obtain ⟨K, h1, h2, h3⟩ := fars p N
    by_cases hK : K = N
    · by_cases hf : p N = true
      · refine ⟨N + 1, Nat.le_refl _, fun j hj => ?_, Or.inl rfl⟩
        by_cases hjN : j = N
        · rw [hjN]; exact hf
        · exact h2 j (by omega)
      · exact ⟨N, by omega, fun j hj => h2 j (by omega), Or.inr hf⟩
    · exact ⟨K, by omega, h2, Or.inr (h3.resolve_left hK)⟩
section FirstB
variable {σ : sg_T} {a b : pa_T} {m : Nat} {d : Int32} {ru ru' : Nat} {T : tx_T} {n : Nat}
theorem first_c (h : PC σ 34 a m d (nI ru)) (hT : TC σ T n) (hO : TOk T n) (hru' : ru' < n) {o L : Nat} (ho : 61 ≤ o) (hL : L ≤ 40) (h2 : σ o 2 = nI L) {i : Nat} (hi : i < m) {w x v : Int32} (hp : ∀ τ, PC τ 42 a m d (nI ru) → ∃ τ', f_X1_put 42 w x v τ = some τ' ∧ PC τ' 42 b m d (nI ru') ∧ ∀ q, ¬ (42 ≤ q ∧ q < 50) → τ' q = τ q) : ∃ τ, f_X7_firstOtherwise o (nI i) w x v σ = some (fo (fun k => decide (wk T ru' b m d i k = σ (o + 1) k)) L, τ) ∧ ∀ q, fD q → ¬ (42 ≤ q ∧ q < 50) → τ q = σ q := by
  have hm := h.1
  have isP42 : isP 42 := Or.inr (Or.inl rfl)
  obtain ⟨σ1, e1, hC1, f1⟩ := copy_c (o := 42) (o1 := 34) (Or.inr (by decide)) h
  obtain ⟨σ2, e2, hC2, f2⟩ := hp σ1 hC1
  have k2 : ∀ q, ¬ (42 ≤ q ∧ q < 50) → σ2 q = σ q := fun q hq => by rw [f2 q hq, f1 q (by omega)]
  obtain ⟨K, g1, g2, g3⟩ := fars (fun k => decide (wk T ru' b m d i k = σ (o + 1) k)) L
  have hrun : ∃ r, itr (fun q => b_X7_firstOtherwise_26 o (nI i) w x v q.1 q.2) lfu (0, σ2) = some r ∧ (∃ τ, r = (if K = L then .inl (nI L, τ) else .inr (nI K, τ)) ∧ ∀ q, fD q → ¬ (42 ≤ q ∧ q < 50) → τ q = σ q) := by
    refine itr_run (f := fun q => b_X7_firstOtherwise_26 o (nI i) w x v q.1 q.2) (I := fun k q => q.1 = nI k ∧ PC q.2 42 (dN T ru' b m d k).1 m (dN T ru' b m d k).2 (nI ru') ∧ ∀ p, fD p → ¬ (42 ≤ p ∧ p < 50) → q.2 p = σ p) (R := fun r => ∃ τ, r = (if K = L then .inl (nI L, τ) else .inr (nI K, τ)) ∧ ∀ q, fD q → ¬ (42 ≤ q ∧ q < 50) → τ q = σ q) K (a := (0, σ2)) ⟨rfl, hC2, fun p _ hp => k2 p hp⟩ ?_ ?_ (by omega)
    · intro k hk ⟨w1, τ⟩ ⟨hw, hP, hF⟩
      dsimp only at hw hP hF ⊢
      subst hw
      have hT1 : TC τ T n := hT.eq (fun q _ _ _ _ => hF q (by unfold fD; omega) (by omega))
      obtain ⟨τ1, τ2, c1, c2, hP2, hD, k3⟩ := day_c hP hT1 hO hru'
      have sz : f_X4_size o τ = some (nI L) := by unfold f_X4_size; rw [hF o (by unfold fD; omega) (by omega), h2]
      have t2 : τ1 o 2 = nI L := by rw [hD.2 o (by unfold fD; omega), hF o (by unfold fD; omega) (by omega)]; exact h2
      have eq1 : wk T ru' b m d i k = σ (o + 1) k := of_decide_eq_true (g2 k hk)
      have eq2 : τ1 30 i = τ1 (o + 1) k := by
        rw [hD.2 (o + 1) (by unfold fD; omega), hF (o + 1) (by unfold fD; omega) (by omega), ← eq1]
        exact (hD.1 i hi).2.1
      unfold b_X7_firstOtherwise_26
      rw [sz, bd1_s, if_neg (nle_of_lt (by omega) (by omega)), c1, bd1_s, hour_at (by omega), bd1_s, get_at hL t2 (by omega), bd1_s, if_pos eq2, c2, bd1_s, bnd_s, nI_1]
      exact ⟨_, rfl, rfl, hP2, fun p q1 q2 => by dsimp only; rw [k3 p q1 q2]; exact hF p q1 q2⟩
    · intro ⟨w1, τ⟩ ⟨hw, hP, hF⟩
      dsimp only at hw hP hF ⊢
      subst hw
      have sz : f_X4_size o τ = some (nI L) := by unfold f_X4_size; rw [hF o (by unfold fD; omega) (by omega), h2]
      unfold b_X7_firstOtherwise_26
      rw [sz, bd1_s]
      by_cases hKL : K = L
      · rw [if_pos (by rw [hKL]; exact Int32.le_refl _)]
        refine ⟨_, rfl, τ, ?_, hF⟩
        rw [if_pos hKL, hKL]
      · have hT1 : TC τ T n := hT.eq (fun q _ _ _ _ => hF q (by unfold fD; omega) (by omega))
        obtain ⟨τ1, τ2, c1, c2, hP2, hD, k3⟩ := day_c hP hT1 hO hru'
        have t2 : τ1 o 2 = nI L := by rw [hD.2 o (by unfold fD; omega), hF o (by unfold fD; omega) (by omega)]; exact h2
        have neq1 : ¬ wk T ru' b m d i K = σ (o + 1) K := fun q => g3.resolve_left hKL (decide_eq_true q)
        have neq2 : ¬ τ1 30 i = τ1 (o + 1) K := by
          rw [hD.2 (o + 1) (by unfold fD; omega), hF (o + 1) (by unfold fD; omega) (by omega)]
          intro q
          exact neq1 (((hD.1 i hi).2.1).symm.trans q)
        rw [if_neg (nle_of_lt (by omega) (by omega)), c1, bd1_s, hour_at (by omega), bd1_s, get_at hL t2 (by omega), bd1_s, if_neg neq2]
        refine ⟨_, rfl, τ1, ?_, fun q q1 q2 => by rw [hD.2 q q1]; exact hF q q1 q2⟩
        rw [if_neg hKL]
  obtain ⟨r, e3, τ, er, hF⟩ := hrun
  refine ⟨τ, ?_, hF⟩
  unfold f_X7_firstOtherwise
  rw [e1, bd1_s, e2, bd1_s, e3, er]
  by_cases hKL : K = L
  · rw [if_pos hKL, bs_l, fo_all L (fun j hj => g2 j (by omega))]
  · rw [if_neg hKL, bs_r, fo_at g2 (g3.resolve_left hKL) (by omega) L (by omega)]
theorem other_m (h : PM σ 70 b m d (nI ru)) (hok : OkP b m) (hT : TM σ T n) (hO : TOk T n) (hru : ru < n) {s L : Nat} (hs : s < 4) (hL : L ≤ 40) (h2 : σ 85 s = nI L) {i : Nat} (hi : i < m) : ∃ τ, f_X8_otherwise (nI s) (nI i) σ = some (fo (fun k => decide (wk T ru b m d i k = σ 86 (40 * s + k))) L, τ) ∧ (∀ k, k < 58 → τ 70 k = σ 70 k) ∧ ∀ q, q ≠ 70 → q ≠ 72 → ¬ (79 ≤ q ∧ q ≤ 83) → τ q = σ q := by
  obtain ⟨σ1, e1, b1, f1⟩ := keep_m σ (p := 72) (by decide)
  have h1 : PM σ1 70 b m d (nI ru) := h.eq (f1 70 (by decide))
  have hT1 : TM σ1 T n := TM_scr hT (fun q hq => f1 q (by omega))
  have ck4 : ∀ {β : Type} (r : Option β), ck (nI s) 4 r = r := fun r => ck_n hs (by decide)
  have cl : (nI s).toNatClampNeg = s := nI_clamp (by omega)
  obtain ⟨p, ep⟩ : ∃ p : Nat → Bool, p = (fun k => decide (wk T ru b m d i k = σ 86 (40 * s + k))) := ⟨_, rfl⟩
  -- k goes on, behind K it stops
  obtain ⟨K, g1, g2, g3⟩ := fars p L
  have stepk : ∀ k τ, k < L → PM τ 70 (dN T ru b m d k).1 m (dN T ru b m d k).2 (nI ru) → (∀ q, q ≠ 70 → ¬ (79 ≤ q ∧ q ≤ 83) → τ q = σ1 q) → ∃ τ', b_X8_otherwise_13 (nI s) (nI i) (-1) (nI k) τ = some (.inl (if p k = true then -1 else nI k, nI (k + 1), τ')) ∧ PM τ' 70 (dN T ru b m d (k + 1)).1 m (dN T ru b m d (k + 1)).2 (nI ru) ∧ ∀ q, q ≠ 70 → ¬ (79 ≤ q ∧ q ≤ 83) → τ' q = σ1 q := by
    intro k τ hk hP hF
    have hT2 : TM τ T n := TM_scr hT1 (fun q hq => hF q (by omega) (by omega))
    obtain ⟨τ1, c1, k1⟩ := wakes_m hP hT2 hO hru hi
    have hP1 : PM τ1 70 (dN T ru b m d k).1 m (dN T ru b m d k).2 (nI ru) := hP.eq (k1 70 (by decide))
    have hT3 : TM τ1 T n := TM_scr hT2 (fun q hq => k1 q (by omega))
    obtain ⟨τ2, c2, hP2, k2⟩ := goDay_m hP1 (dN_ok hok k) hT3 hO hru
    have e40 : (40 : Int32) * nI s + nI k = nI (40 * s + k) := by
      rw [show (40 : Int32) = nI 40 from rfl, pk_mul, nI_add]
    refine ⟨τ2, ?_, hP2, fun q q1 q2 => by rw [k2 q q1 q2, k1 q (by omega)]; exact hF q q1 q2⟩
    unfold b_X8_otherwise_13
    rw [ck4, cl, hF 85 (by decide) (by decide), f1 85 (by decide), h2, if_neg (nle_of_lt hk (by omega)), if_pos rfl, c1, bd2_s, e40, ck_n (by omega) (by decide), nI_clamp (by omega), bnd_s, c2, bd2_s, bnd_s, nI_1, k1 86 (by decide), hF 86 (by decide) (by decide), f1 86 (by decide)]
    have hp : (p k = true) = (sWa T ru (dN T ru b m d k).1 m (dN T ru b m d k).2 i = σ 86 (40 * s + k)) := by
      rw [ep]
      exact propext ⟨fun q => of_decide_eq_true q, fun q => decide_eq_true q⟩
    by_cases hc : sWa T ru (dN T ru b m d k).1 m (dN T ru b m d k).2 i = σ 86 (40 * s + k)
    · rw [if_pos hc, if_pos (hp.mpr hc)]
    · rw [if_neg hc, if_neg (fun q => hc (hp.mp q))]
  have hrun : ∃ r, itr (fun q => b_X8_otherwise_13 (nI s) (nI i) q.1 q.2.1 q.2.2) lfu (-1, 0, σ1) = some r ∧ (r.1 = (if K = L then -1 else nI K) ∧ ∀ q, q ≠ 70 → ¬ (79 ≤ q ∧ q ≤ 83) → r.2.2 q = σ1 q) := by
    by_cases hKL : K = L
    · subst hKL
      refine itr_run (f := fun q => b_X8_otherwise_13 (nI s) (nI i) q.1 q.2.1 q.2.2) (I := fun k q => q.1 = -1 ∧ q.2.1 = nI k ∧ PM q.2.2 70 (dN T ru b m d k).1 m (dN T ru b m d k).2 (nI ru) ∧ ∀ p, p ≠ 70 → ¬ (79 ≤ p ∧ p ≤ 83) → q.2.2 p = σ1 p) (R := fun r => r.1 = (if K = K then -1 else nI K) ∧ ∀ q, q ≠ 70 → ¬ (79 ≤ q ∧ q ≤ 83) → r.2.2 q = σ1 q) K (a := (-1, 0, σ1)) ⟨rfl, rfl, h1, fun _ _ _ => rfl⟩ ?_ ?_ (by omega)
      · intro k hk ⟨w1, w2, τ⟩ ⟨hw1, hw2, hP, hF⟩
        dsimp only at hw1 hw2 hP hF ⊢
        subst hw1 hw2
        obtain ⟨τ', c1, hP1, k1⟩ := stepk k τ hk hP hF
        rw [c1, if_pos (g2 k hk)]
        exact ⟨_, rfl, rfl, rfl, hP1, k1⟩
      · intro ⟨w1, w2, τ⟩ ⟨hw1, hw2, hP, hF⟩
        dsimp only at hw1 hw2 hP hF ⊢
        subst hw1 hw2
        unfold b_X8_otherwise_13
        rw [ck4, cl, hF 85 (by decide) (by decide), f1 85 (by decide), h2, if_pos (Int32.le_refl _)]
        exact ⟨_, rfl, by rw [if_pos rfl], hF⟩
    · refine itr_run (f := fun q => b_X8_otherwise_13 (nI s) (nI i) q.1 q.2.1 q.2.2) (I := fun k q => q.1 = (if k ≤ K then -1 else nI K) ∧ q.2.1 = nI k ∧ PM q.2.2 70 (dN T ru b m d k).1 m (dN T ru b m d k).2 (nI ru) ∧ ∀ p, p ≠ 70 → ¬ (79 ≤ p ∧ p ≤ 83) → q.2.2 p = σ1 p) (R := fun r => r.1 = (if K = L then -1 else nI K) ∧ ∀ q, q ≠ 70 → ¬ (79 ≤ q ∧ q ≤ 83) → r.2.2 q = σ1 q) (K + 1) (a := (-1, 0, σ1)) ⟨by rw [if_pos (Nat.zero_le _)], rfl, h1, fun _ _ _ => rfl⟩ ?_ ?_ (by omega)
      · intro k hk ⟨w1, w2, τ⟩ ⟨hw1, hw2, hP, hF⟩
        dsimp only at hw1 hw2 hP hF ⊢
        rw [if_pos (by omega)] at hw1
        subst hw1 hw2
        obtain ⟨τ', c1, hP1, k1⟩ := stepk k τ (by omega) hP hF
        rw [c1]
        refine ⟨_, rfl, ?_, rfl, hP1, k1⟩
        dsimp only
        by_cases hkK : k = K
        · subst hkK
          rw [if_neg (g3.resolve_left hKL), if_neg (by omega)]
        · rw [if_pos (g2 k (by omega)), if_pos (by omega)]
      · intro ⟨w1, w2, τ⟩ ⟨hw1, hw2, hP, hF⟩
        dsimp only at hw1 hw2 hP hF ⊢
        rw [if_neg (by omega)] at hw1
        subst hw1 hw2
        unfold b_X8_otherwise_13
        rw [ck4, cl, hF 85 (by decide) (by decide), f1 85 (by decide), h2]
        by_cases hle : nI L ≤ nI (K + 1)
        · rw [if_pos hle]
          exact ⟨_, rfl, by rw [if_neg hKL], hF⟩
        · rw [if_neg hle, if_neg (nI_ne_m1 (by omega))]
          exact ⟨_, rfl, by rw [if_neg hKL], hF⟩
  obtain ⟨⟨w1, w2, τ⟩, e2, r1, f2⟩ := hrun
  dsimp only at r1 f2
  obtain ⟨σ3, e4, b4, f4⟩ := lay_m τ (p := 72) (by decide)
  refine ⟨σ3, ?_, fun k hk => by rw [b4 k hk, f2 72 (by decide) (by decide), b1 k hk], fun q h1 h2 h3 => by rw [f4 q h1, f2 q h1 h3, f1 q h2]⟩
  unfold f_X8_otherwise
  rw [e1, bd1_s, e2, bd3_s, e4, bd1_s, r1, ← ep]
  by_cases hKL : K = L
  · rw [if_pos hKL, fo_all L (fun j hj => g2 j (by omega))]
  · rw [if_neg hKL, fo_at g2 (g3.resolve_left hKL) (by omega) L (by omega)]
end FirstB
