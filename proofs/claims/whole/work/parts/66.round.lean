/-! round (who sets whose in a ring), taken (a kind under a kind) -/
def pcn (b : Nat) : Nat := b % 2 + b / 2 % 2 + b / 4 % 2 + b / 8 % 2 + b / 16 % 2
theorem bt0 : ∀ b, b < 32 → ∀ r, r < 5 → ((((nI b >>> (nI r &&& 31)) &&& 1) = 0) ↔ (b / 2 ^ r) % 2 = 0) := by decide +kernel
theorem bt1 : ∀ b, b < 32 → ∀ r, r < 5 → (b / 2 ^ r) % 2 = 0 → (nI b ||| (1 <<< (nI r &&& 31)) = nI (b + 2 ^ r) ∧ b + 2 ^ r < 32 ∧ pcn (b + 2 ^ r) = pcn b + 1) := by decide +kernel
theorem bt2 : ∀ b, b < 32 → pcn b = 5 → ∀ r, r < 5 → ¬ (b / 2 ^ r) % 2 = 0 := by decide +kernel
theorem bt3 : ∀ r, r < 5 → ((1 : Int32) <<< (nI r &&& 31) = nI (2 ^ r) ∧ 2 ^ r < 32 ∧ pcn (2 ^ r) = 1) := by decide +kernel
theorem round_go {σ : sg_T} {a : pa_T} {m : Nat} {d ru : Int32} (hC : PC σ 34 a m d ru) (hM : PM σ 70 a m d ru) (x : Int32) : ∀ (e b cur k F G : Nat), cur < m → b < 32 → pcn b = k → k + e = 5 → e < F → e < G → ∃ r v1 v2 v3, itr (fun q => b_X7_round_23 x q.1 q.2.1 q.2.2 σ) F (nI b, nI cur, nI k) = some (.inr r) ∧ itr (fun q => b_X8_round_24 x q.1 q.2.1 q.2.2 σ) G (nI b, setr a m cur, nI k) = some (v1, v2, v3) ∧ (if v2 = -1 then -1 else v3) = r := by
  intro e
  induction e with
  | zero =>
    intro b cur k F G hc hb hp hk hF hG
    obtain ⟨F', rfl⟩ : ∃ n', F = n' + 1 := ⟨F - 1, by omega⟩
    obtain ⟨G', rfl⟩ : ∃ n', G = n' + 1 := ⟨G - 1, by omega⟩
    have hm := hC.1
    have k5 : ¬ (5 : Int32) < nI k := Int32.not_lt.mpr (le_of_le (i := 5) (by omega) (by decide))
    rcases setr_cases a m cur with hs | ⟨r, hr, _, hs⟩
    · refine ⟨-1, nI b, -1, nI k, itr_r ?_, itr_r ?_, if_pos rfl⟩
      · show b_X7_round_23 x (nI b) (nI cur) (nI k) σ = _
        unfold b_X7_round_23
        rw [if_neg k5, setterOf_c hC hc, bd1_s, if_pos hs]
      · show b_X8_round_24 x (nI b) (setr a m cur) (nI k) σ = _
        unfold b_X8_round_24
        rw [if_pos hs, hs]
    · have hne : ¬ setr a m cur = -1 := by rw [hs]; exact nI_ne_m1 (by omega)
      have hbit : ¬ ((nI b >>> (setr a m cur &&& 31)) &&& 1) = 0 := by
        rw [hs]
        exact fun q => bt2 b hb (by omega) r (by omega) ((bt0 b hb r (by omega)).mp q)
      refine ⟨nI k, nI b, setr a m cur, nI k, itr_r ?_, itr_r ?_, if_neg hne⟩
      · show b_X7_round_23 x (nI b) (nI cur) (nI k) σ = _
        unfold b_X7_round_23
        rw [if_neg k5, setterOf_c hC hc, bd1_s, if_neg hne, if_neg hbit]
      · show b_X8_round_24 x (nI b) (setr a m cur) (nI k) σ = _
        unfold b_X8_round_24
        rw [if_neg hne, if_neg hbit]
  | succ e ih =>
    intro b cur k F G hc hb hp hk hF hG
    obtain ⟨F', rfl⟩ : ∃ n', F = n' + 1 := ⟨F - 1, by omega⟩
    obtain ⟨G', rfl⟩ : ∃ n', G = n' + 1 := ⟨G - 1, by omega⟩
    have hm := hC.1
    have k5 : ¬ (5 : Int32) < nI k := Int32.not_lt.mpr (le_of_le (i := 5) (by omega) (by decide))
    rcases setr_cases a m cur with hs | ⟨r, hr, _, hs⟩
    · refine ⟨-1, nI b, -1, nI k, itr_r ?_, itr_r ?_, if_pos rfl⟩
      · show b_X7_round_23 x (nI b) (nI cur) (nI k) σ = _
        unfold b_X7_round_23
        rw [if_neg k5, setterOf_c hC hc, bd1_s, if_pos hs]
      · show b_X8_round_24 x (nI b) (setr a m cur) (nI k) σ = _
        unfold b_X8_round_24
        rw [if_pos hs, hs]
    · have hne : ¬ setr a m cur = -1 := by rw [hs]; exact nI_ne_m1 (by omega)
      by_cases hbit : ((nI b >>> (setr a m cur &&& 31)) &&& 1) = 0
      · have hb2 : (b / 2 ^ r) % 2 = 0 := by
          rw [hs] at hbit
          exact (bt0 b hb r (by omega)).mp hbit
        obtain ⟨t1, t2, t3⟩ := bt1 b hb r (by omega) hb2
        obtain ⟨r', v1, v2, v3, i1, i2, i3⟩ := ih (b + 2 ^ r) r (k + 1) F' G' hr t2 (by omega) (by omega) (by omega) (by omega)
        refine ⟨r', v1, v2, v3, ?_, ?_, i3⟩
        · rw [itr_l (b := (nI (b + 2 ^ r), nI r, nI (k + 1)))]
          · exact i1
          · show b_X7_round_23 x (nI b) (nI cur) (nI k) σ = _
            unfold b_X7_round_23
            rw [if_neg k5, setterOf_c hC hc, bd1_s, if_neg hne, if_pos hbit, bnd_s, bnd_s, hs, t1, nI_1]
        · rw [itr_l (b := (nI (b + 2 ^ r), setr a m r, nI (k + 1)))]
          · exact i2
          · show b_X8_round_24 x (nI b) (setr a m cur) (nI k) σ = _
            unfold b_X8_round_24
            rw [if_neg hne, if_pos hbit, bnd_s, hs, t1, setter_m hM hr, bd1_s, bnd_s, nI_1]
      · refine ⟨nI k, nI b, setr a m cur, nI k, itr_r ?_, itr_r ?_, if_neg hne⟩
        · show b_X7_round_23 x (nI b) (nI cur) (nI k) σ = _
          unfold b_X7_round_23
          rw [if_neg k5, setterOf_c hC hc, bd1_s, if_neg hne, if_neg hbit]
        · show b_X8_round_24 x (nI b) (setr a m cur) (nI k) σ = _
          unfold b_X8_round_24
          rw [if_neg hne, if_neg hbit]
theorem sm_round (x : Int32) : SMP (f_X7_round x) (f_X8_round x) := by
  intro σ ⟨a, m, d, ru, T, n, h⟩
  obtain ⟨hC, hM, hok, hd, hru, hTC, hTM, hO, hI, hTp, hS, hH⟩ := h
  have hm := hC.1
  rcases who x hC.1 with ⟨i, hi, rfl⟩ | hx
  · obtain ⟨t1, t2, t3⟩ := bt3 i (by omega)
    obtain ⟨r, v1, v2, v3, g1, g2, g3⟩ := round_go hC hM (nI i) 4 (2 ^ i) i 1 lfu lfu hi t2 t3 rfl (by decide) (by decide)
    refine ⟨r, ?_, ?_⟩
    · unfold f_X7_round
      rw [has_in hC.2.1 hC.1 hi, bd1_s, if_neg (by decide), t1, bnd_s, n_1, g1, bs_r]
    · unfold f_X8_round
      rw [isOne_in hM hi, bd1_s, if_neg (by decide), t1, bnd_s, setter_m hM hi, bd1_s]
      refine (congrArg (fun z => bd3 z _) g2).trans ?_
      rw [bd3_s, bnd_s, g3]
  · refine ⟨-2, ?_, ?_⟩
    · unfold f_X7_round
      rw [has_out hC.2.1 hx, bd1_s, if_pos rfl]
    · unfold f_X8_round
      rw [isOne_out hM hx, bd1_s, if_pos rfl]
def btk (t q : Int32) : Option (Int32 ⊕ Int32) := if q = -1 then some (.inr q) else if q = t then some (.inr q) else ck q 6 (bnd (c_un q) (fun v => some (.inl v)))
theorem btk_e {σ : sg_T} (hH : HIG σ) (x t : Int32) : (fun q => b_X8_taken_30 x t q σ) = btk t := by
  funext q
  unfold b_X8_taken_30 btk
  rcases whoN q (m := 6) (by decide) with ⟨i, hi, rfl⟩ | hq
  · rw [nI_clamp (by omega), (hH i (by omega)).2.1 hi]
  · have hn : ∀ {β : Type} (r : Option β), ck q 6 r = none := fun r => by
      unfold ck
      rw [if_pos]
      rcases hq with hq | hq
      · exact Or.inl hq
      · right
        have e : (6 : Nat) = (nI 6).toNatClampNeg := by decide
        rw [Int32.le_iff_toInt_le, nI_toInt (by decide)] at hq
        have : q.toNatClampNeg = q.toInt.toNat := rfl
        omega
    rw [hn, hn]
theorem tk_all : ∀ k, k < 6 → ∀ t, t < 6 → (itr (btk (nI t)) 8 (nI k) = some (-1) ∧ bs (itr (fun q => b_X7_isUnder_4 (nI k) (nI t) q.1 q.2 (fun _ _ => 0)) 8 (nI k, 0)) (fun q => some q) (fun _ => some (0 : Int32)) = some 0) ∨ (itr (btk (nI t)) 8 (nI k) = some (nI t) ∧ bs (itr (fun q => b_X7_isUnder_4 (nI k) (nI t) q.1 q.2 (fun _ _ => 0)) 8 (nI k, 0)) (fun q => some q) (fun _ => some (0 : Int32)) = some 1) := by decide +kernel
theorem bs_up {α β γ : Type} {o o' : Option (α ⊕ β)} (h : ∀ r, o = some r → o' = some r) {kr : β → Option γ} {k : α → Option γ} {v : γ} (hb : bs o kr k = some v) : bs o' kr k = some v := by
  rcases o with _ | r
  · exact absurd (show (none : Option γ) = some v from hb) (by simp)
  · rw [h r rfl]; exact hb
theorem itr_more {α β : Type} {f : α → Option (α ⊕ β)} : ∀ (n e : Nat) {a : α} {r : β}, itr f n a = some r → itr f (n + e) a = some r
  | 0, e, a, r, h => by
    have h0 : itr f 0 a = none := rfl
    rw [h0] at h; exact absurd h (by simp)
  | n + 1, e, a, r, h => by
    have e1 : n + 1 + e = (n + e) + 1 := by omega
    rw [e1]
    rcases hf : f a with _ | (a' | r')
    · have : itr f (n + 1) a = none := by
        show (match f a with | none => none | some (.inl a') => itr f n a' | some (.inr b) => some b) = none
        rw [hf]
      rw [this] at h; exact absurd h (by simp)
    · rw [itr_l hf] at h ⊢
      exact itr_more n e h
    · rw [itr_r hf] at h ⊢
      exact h
theorem sm_taken (x y : Int32) : SMP (f_X7_taken x y) (f_X8_taken x y) := by
  intro σ ⟨a, m, d, ru, T, n, h⟩
  obtain ⟨hC, hM, hok, hd, hru, hTC, hTM, hO, hI, hTp, hS, hH⟩ := h
  have hm := hC.1
  have e5 : (5 : Int32).toInt = 5 := by decide
  have e6 : (6 : Int32).toInt = 6 := by decide
  have e0 : (0 : Int32).toInt = 0 := by decide
  rcases whoN y (m := 6) (by decide) with ⟨t, ht, rfl⟩ | hy
  · have hin : f_X8_isIn (nI t) 0 5 σ = some 1 := isIn_1 (nI_pos' (by omega)) (le_of_le (i := 5) (by omega) (by decide))
    have hlt : nI t < 6 := Int32.not_le.mp (nle_of_lt (m := 6) ht (by decide))
    rcases who x hC.1 with ⟨i, hi, rfl⟩ | hx
    · have hk : ∃ k, k < 6 ∧ a i 0 = nI k := by
        have h0 := (hok i hi).1
        unfold inr at h0
        exact ⟨(a i 0).toInt.toNat, by omega, Int32.toInt_inj.mp (by rw [nI_toInt (by omega)]; omega)⟩
      obtain ⟨k, hk, ek⟩ := hk
      have lf : lfu = 8 + 99992 := rfl
      have un : ∀ v, bs (itr (fun q => b_X7_isUnder_4 (nI k) (nI t) q.1 q.2 (fun _ _ => 0)) 8 (nI k, 0)) (fun q => some q) (fun _ => some (0 : Int32)) = some v → f_X7_isUnder (nI k) (nI t) σ = some v := fun v hv => by
        unfold f_X7_isUnder
        refine bs_up (fun r hr => ?_) hv
        rw [lf]
        exact itr_more 8 99992 hr
      rcases tk_all k hk t ht with h1 | h1
      · refine ⟨-13, ?_, ?_⟩
        · unfold f_X7_taken
          rw [if_neg (nI_pos (by omega)), if_pos hlt, has_in hC.2.1 hC.1 hi, bd1_s, if_neg (by decide), get7_c hC hi, bd1_s, ek, un _ h1.2, bd1_s, if_pos rfl]
        · unfold f_X8_taken
          rw [hin, bd1_s, if_neg (by decide), isOne_in hM hi, bd1_s, if_neg (by decide), show f_X8_of (nI i) 0 σ = some (a i 0) from ofk_m (k := 0) hM hi (by decide), bd1_s, btk_e hH, ek, lf, itr_more 8 99992 h1.1, bd1_s, if_pos rfl]
      · refine ⟨a i 1, ?_, ?_⟩
        · unfold f_X7_taken
          rw [if_neg (nI_pos (by omega)), if_pos hlt, has_in hC.2.1 hC.1 hi, bd1_s, if_neg (by decide), get7_c hC hi, bd1_s, ek, un _ h1.2, bd1_s, if_neg (by decide), show f_X1_get 34 1 (nI i) σ = some (a i 1) from get_c (w := 1) hC (by decide) (by decide) hi, bd1_s]
        · unfold f_X8_taken
          rw [hin, bd1_s, if_neg (by decide), isOne_in hM hi, bd1_s, if_neg (by decide), show f_X8_of (nI i) 0 σ = some (a i 0) from ofk_m (k := 0) hM hi (by decide), bd1_s, btk_e hH, ek, lf, itr_more 8 99992 h1.1, bd1_s, if_neg (nI_ne_m1 (by omega)), show f_X8_of (nI i) 1 σ = some (a i 1) from ofk_m (k := 1) hM hi (by decide), bd1_s]
    · refine ⟨-11, ?_, ?_⟩
      · unfold f_X7_taken
        rw [if_neg (nI_pos (by omega)), if_pos hlt, has_out hC.2.1 hx, bd1_s, if_pos rfl]
      · unfold f_X8_taken
        rw [hin, bd1_s, if_neg (by decide), isOne_out hM hx, bd1_s, if_pos rfl]
  · refine ⟨-2, ?_, ?_⟩
    · unfold f_X7_taken
      by_cases y0 : y < 0
      · rw [if_pos y0]
      · have y1 : ¬ y < 6 := Int32.not_lt.mpr (hy.resolve_left y0)
        rw [if_neg y0, if_neg y1]
    · unfold f_X8_taken
      rw [isIn_0 ?_, bd1_s, if_pos rfl]
      rcases hy with hy | hy
      · exact Or.inl hy
      · right
        rw [Int32.le_iff_toInt_le, nI_toInt (by decide)] at hy
        rw [Int32.lt_iff_toInt_lt]; omega
