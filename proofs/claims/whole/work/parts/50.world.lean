/-! The two worlds side by side, and the first deeds: day, asks, woken, force. -/
def IMG (σ : sg_T) (n : Nat) : Prop := (σ 0 8 = 0 ∧ σ 69 3 = 0) ∨ (σ 0 8 = 1 ∧ σ 69 3 = 1 ∧ ∃ a m d ru, PC σ 50 a m d (nI ru) ∧ PM σ 71 a m d (nI ru) ∧ OkP a m ∧ inr d 0 999 ∧ ru < n)
def TAP (σ : sg_T) : Prop := ∃ l, l ≤ 160 ∧ σ 1 1 = nI l ∧ σ 69 6 = nI l ∧ ∀ i, i < l → σ 2 i = σ 74 i ∧ inr (σ 2 i) 0 255
def SHR (σ : sg_T) : Prop := ∀ s, s < 4 → σ (61 + 2 * s) 1 = σ 84 s ∧ σ (61 + 2 * s) 2 = σ 85 s ∧ inr (σ 84 s) (-1) 2 ∧ inr (σ 85 s) 0 40 ∧ ∀ j : Nat, (j : Int) < (σ 85 s).toInt → σ (61 + 2 * s + 1) j = σ 86 (40 * s + j)
/-- the model's words: six names, sets, tires, grows, or, and, not; six letters each -/
def nmw : List Int32 := [102, 111, 110, 100, 0, 0, 100, 117, 116, 121, 0, 0, 110, 117, 109, 98, 101, 114, 100, 97, 121, 0, 0, 0, 116, 105, 114, 101, 100, 0, 109, 105, 115, 115, 101, 100, 115, 101, 116, 115, 0, 0, 116, 105, 114, 101, 115, 0, 103, 114, 111, 119, 115, 0, 111, 114, 0, 0, 0, 0, 97, 110, 100, 0, 0, 0, 110, 111, 116, 0, 0, 0]
def HIG (σ : sg_T) : Prop := ∀ k, k < 7 → σ 73 k = c_hi (nI k) ∧ (k < 6 → σ 88 k = c_un (nI k)) ∧ ∀ j, j < 72 → σ 77 j = nmw.getD j 0
def WR (σ : sg_T) (a : pa_T) (m : Nat) (d : Int32) (ru : Nat) (T : tx_T) (n : Nat) : Prop := PC σ 34 a m d (nI ru) ∧ PM σ 70 a m d (nI ru) ∧ OkP a m ∧ inr d 0 999 ∧ ru < n ∧ TC σ T n ∧ TM σ T n ∧ TOk T n ∧ IMG σ n ∧ TAP σ ∧ SHR σ ∧ HIG σ
def WRL (σ : sg_T) : Prop := ∃ a m d ru T n, WR σ a m d ru T n
def kp (q : Nat) : Prop := ¬ (q = 8 ∨ q = 9 ∨ (29 ≤ q ∧ q ≤ 33) ∨ (42 ≤ q ∧ q ≤ 49) ∨ q = 58 ∨ q = 59 ∨ q = 72 ∨ (78 ≤ q ∧ q ≤ 83) ∨ q = 87 ∨ 89 ≤ q)
/-- all but the people and the texts -/
def RST (σ : sg_T) (n : Nat) : Prop := IMG σ n ∧ TAP σ ∧ SHR σ ∧ HIG σ
theorem RST.frame {σ τ : sg_T} {n : Nat} (h : RST σ n) (he : ∀ q, kp q → ¬ (34 ≤ q ∧ q ≤ 41) → q ≠ 70 → τ q = σ q) : RST τ n := by
  have ke : ∀ q, q = 0 ∨ q = 1 ∨ q = 2 ∨ (50 ≤ q ∧ q ≤ 57) ∨ (60 ≤ q ∧ q ≤ 69) ∨ q = 71 ∨ (73 ≤ q ∧ q ≤ 77) ∨ (84 ≤ q ∧ q ≤ 86) ∨ q = 88 → τ q = σ q := fun q hq => he q (by unfold kp; omega) (by omega) (by omega)
  obtain ⟨hI, hTp, hS, hH⟩ := h
  refine ⟨?_, ?_, fun s hs => ?_, fun k hk => ?_⟩
  · unfold IMG at hI ⊢
    rw [ke 0 (by omega), ke 69 (by omega)]
    rcases hI with hI | ⟨h1, h2, a, m, d, ru, h3, h4, h5⟩
    · exact Or.inl hI
    · exact Or.inr ⟨h1, h2, a, m, d, ru, h3.eq (fun p _ _ => ke p (by omega)), h4.eq (ke 71 (by omega)), h5⟩
  · unfold TAP at hTp ⊢
    rw [ke 1 (by omega), ke 69 (by omega), ke 2 (by omega), ke 74 (by omega)]; exact hTp
  · rw [ke (61 + 2 * s) (by omega), ke 84 (by omega), ke 85 (by omega), ke 86 (by omega), ke (61 + 2 * s + 1) (by omega)]; exact hS s hs
  · rw [ke 73 (by omega), ke 88 (by omega), ke 77 (by omega)]; exact hH k hk
theorem WR.rst {σ : sg_T} {a : pa_T} {m : Nat} {d : Int32} {ru : Nat} {T : tx_T} {n : Nat} (h : WR σ a m d ru T n) : RST σ n := h.2.2.2.2.2.2.2.2
theorem TC_scr {σ τ : sg_T} {T : tx_T} {n : Nat} (h : TC σ T n) (he : ∀ q, kp q → ¬ (34 ≤ q ∧ q ≤ 41) → q ≠ 70 → τ q = σ q) : TC τ T n := h.eq (fun q h1 h2 h3 h4 => he q (by unfold kp; omega) (by omega) (by omega))
/-- new people, and all else kept -/
theorem WR.new {σ τ : sg_T} {a b : pa_T} {m m' : Nat} {d d' : Int32} {ru ru' : Nat} {T : tx_T} {n : Nat} (h : WR σ a m d ru T n) (hc : PC τ 34 b m' d' (nI ru')) (hm : PM τ 70 b m' d' (nI ru')) (ho : OkP b m') (hd : inr d' 0 999) (hr : ru' < n) (he : ∀ q, kp q → ¬ (34 ≤ q ∧ q ≤ 41) → q ≠ 70 → τ q = σ q) : WR τ b m' d' ru' T n := by
  obtain ⟨r1, r2, r3, r4⟩ := h.rst.frame he
  obtain ⟨_, _, _, _, _, h6, h7, h8, _⟩ := h
  exact ⟨hc, hm, ho, hd, hr, TC_scr h6 he, TM_scr h7 (fun q hq => he q (by unfold kp; omega) (by omega) (by omega)), h8, r1, r2, r3, r4⟩
theorem WR.frame {σ τ : sg_T} {a : pa_T} {m : Nat} {d : Int32} {ru : Nat} {T : tx_T} {n : Nat} (h : WR σ a m d ru T n) (he : ∀ q, kp q → τ q = σ q) : WR τ a m d ru T n :=
  h.new (h.1.eq (fun p _ _ => he p (by unfold kp; omega))) (h.2.1.eq (he 70 (by unfold kp; omega))) h.2.2.1 h.2.2.2.1 h.2.2.2.2.1 (fun q hq _ _ => he q hq)
/-- both give the same, and the worlds stay side by side -/
def SM (f g : sg_T → Option (Int32 × sg_T)) : Prop := ∀ σ, WRL σ → ∃ r σ1 σ2, f σ = some (r, σ1) ∧ g σ1 = some (r, σ2) ∧ WRL σ2
theorem isIn_1 {x lo hi : Int32} {σ : sg_T} (h1 : lo ≤ x) (h2 : x ≤ hi) : f_X8_isIn x lo hi σ = some 1 := by
  unfold f_X8_isIn
  rw [if_neg (Int32.not_lt.mpr h1), if_neg (Int32.not_lt.mpr h2), bnd_s, cz_1]
theorem isIn_0 {x lo hi : Int32} {σ : sg_T} (h : x < lo ∨ hi < x) : f_X8_isIn x lo hi σ = some 0 := by
  unfold f_X8_isIn
  by_cases h1 : x < lo
  · rw [if_pos h1]
  · rw [if_neg h1, if_pos (h.resolve_left h1), bnd_s, cz_0]
theorem who (x : Int32) {m : Nat} (hm : m ≤ 5) : (∃ i, i < m ∧ x = nI i) ∨ (x < 0 ∨ nI m ≤ x) := by
  by_cases h0 : x < 0
  · exact Or.inr (Or.inl h0)
  · by_cases h1 : nI m ≤ x
    · exact Or.inr (Or.inr h1)
    · left
      have e0 : (0 : Int32).toInt = 0 := by decide
      rw [Int32.lt_iff_toInt_lt] at h0
      rw [Int32.le_iff_toInt_le, nI_toInt (by omega)] at h1
      refine ⟨x.toInt.toNat, by omega, Int32.toInt_inj.mp ?_⟩
      rw [nI_toInt (by omega)]; omega
theorem isOne_in {σ : sg_T} {a : pa_T} {m : Nat} {d ru : Int32} (h : PM σ 70 a m d ru) {i : Nat} (hi : i < m) : f_X8_isOne (nI i) σ = some 1 := by
  have hm := h.1
  have k55 : ∀ {β : Type} (r : Option β), ck 55 58 r = r := fun r => ck_n (i := 55) (by decide) (by decide)
  have c55 : (55 : Int32).toNatClampNeg = 55 := by decide
  unfold f_X8_isOne
  rw [k55, c55, h.2.1, isIn_1 (nI_pos' (by omega)) ?_, bd1_s, cz_1]
  rw [Int32.le_iff_toInt_le, n_1, pk_sub_toInt (by omega) (by decide), nI_toInt (by omega)]; omega
theorem isOne_out {σ : sg_T} {a : pa_T} {m : Nat} {d ru : Int32} (h : PM σ 70 a m d ru) {x : Int32} (hx : x < 0 ∨ nI m ≤ x) : f_X8_isOne x σ = some 0 := by
  have hm := h.1
  have k55 : ∀ {β : Type} (r : Option β), ck 55 58 r = r := fun r => ck_n (i := 55) (by decide) (by decide)
  have c55 : (55 : Int32).toNatClampNeg = 55 := by decide
  unfold f_X8_isOne
  rw [k55, c55, h.2.1, isIn_0 ?_, bd1_s, cz_0]
  rcases hx with hx | hx
  · exact Or.inl hx
  · right
    rw [Int32.le_iff_toInt_le, nI_toInt (by omega)] at hx
    rw [Int32.lt_iff_toInt_lt, n_1, pk_sub_toInt (by omega) (by decide)]; omega
theorem isTwo_in {σ : sg_T} {a : pa_T} {m : Nat} {d ru : Int32} (h : PM σ 70 a m d ru) {i j : Nat} (hi : i < m) (hj : j < m) (hij : i ≠ j) : f_X8_isTwo (nI i) (nI j) σ = some 1 := by
  have hm := h.1
  unfold f_X8_isTwo
  rw [isOne_in h hi, bd1_s, if_neg (by decide), isOne_in h hj, bd1_s, if_neg (by decide), if_neg (fun q => hij (nI_inj (by omega) (by omega) q)), bnd_s, cz_1]
theorem two (x y : Int32) {m : Nat} (hm : m ≤ 5) : (∃ i j, i < m ∧ j < m ∧ i ≠ j ∧ x = nI i ∧ y = nI j) ∨ ((x < 0 ∨ nI m ≤ x) ∨ ((∃ i, i < m ∧ x = nI i) ∧ (y < 0 ∨ nI m ≤ y)) ∨ ((∃ i, i < m ∧ x = nI i) ∧ x = y)) := by
  rcases who x hm with ⟨i, hi, rfl⟩ | hx
  · rcases who y hm with ⟨j, hj, rfl⟩ | hy
    · by_cases hij : i = j
      · subst hij; exact Or.inr (Or.inr (Or.inr ⟨⟨i, hi, rfl⟩, rfl⟩))
      · exact Or.inl ⟨i, j, hi, hj, hij, rfl, rfl⟩
    · exact Or.inr (Or.inr (Or.inl ⟨⟨i, hi, rfl⟩, hy⟩))
  · exact Or.inr (Or.inl hx)
theorem hasTwo_out {σ : sg_T} {o : Nat} {a : pa_T} {m : Nat} {d ru : Int32} (h : PC σ o a m d ru) {x y : Int32} (hx : (x < 0 ∨ nI m ≤ x) ∨ ((∃ i, i < m ∧ x = nI i) ∧ (y < 0 ∨ nI m ≤ y)) ∨ ((∃ i, i < m ∧ x = nI i) ∧ x = y)) : f_X1_hasTwo o x y σ = some 0 := by
  unfold f_X1_hasTwo
  rcases hx with hx | ⟨⟨i, hi, rfl⟩, hy⟩ | ⟨⟨i, hi, rfl⟩, rfl⟩
  · rw [has_out h.2.1 hx, bd1_s, if_pos rfl]
  · rw [has_in h.2.1 h.1 hi, bd1_s, if_neg (by decide), has_out h.2.1 hy, bd1_s, if_pos rfl]
  · rw [has_in h.2.1 h.1 hi, bd1_s, if_neg (by decide), bd1_s, if_neg (by decide), if_pos rfl, bnd_s, cz_0]
theorem isTwo_out {σ : sg_T} {a : pa_T} {m : Nat} {d ru : Int32} (h : PM σ 70 a m d ru) {x y : Int32} (hx : (x < 0 ∨ nI m ≤ x) ∨ ((∃ i, i < m ∧ x = nI i) ∧ (y < 0 ∨ nI m ≤ y)) ∨ ((∃ i, i < m ∧ x = nI i) ∧ x = y)) : f_X8_isTwo x y σ = some 0 := by
  unfold f_X8_isTwo
  rcases hx with hx | ⟨⟨i, hi, rfl⟩, hy⟩ | ⟨⟨i, hi, rfl⟩, rfl⟩
  · rw [isOne_out h hx, bd1_s, if_pos rfl]
  · rw [isOne_in h hi, bd1_s, if_neg (by decide), isOne_out h hy, bd1_s, if_pos rfl]
  · rw [isOne_in h hi, bd1_s, if_neg (by decide), bd1_s, if_neg (by decide), if_pos rfl, bnd_s, cz_0]
theorem sm_day : SM f_X7_day f_X8_day := by
  intro σ ⟨a, m, d, ru, T, n, h⟩
  have hW := h
  obtain ⟨hC, hM, hok, hd, hru, hTC, hTM, hO, _⟩ := h
  have k56 : ∀ {β : Type} (r : Option β), ck 56 58 r = r := fun r => ck_n (i := 56) (by decide) (by decide)
  have c56 : (56 : Int32).toNatClampNeg = 56 := by decide
  have e999 : (999 : Int32).toInt = 999 := by decide
  by_cases h9 : d < 999
  · have hne : ¬ d = 999 := fun q => by rw [q] at h9; exact absurd h9 (by decide)
    have isP34 : isP 34 := Or.inl rfl
    obtain ⟨σ1, e1, hD⟩ := dawn_c hC isP34 hTC hO hru
    have hC1 : PC σ1 34 a m d (nI ru) := hC.eq (fun p h1 h2 => hD.2 p (by unfold fD; omega))
    obtain ⟨σ2, e2, hC2, f2⟩ := settle_c hC1 isP34 hD
    have hl : ∀ i, i < m → σ2 31 i = sLa T ru a m d i := fun i hi => by rw [f2 31 (by omega)]; exact (hD.1 i hi).2.2.1
    have e3 := late_c hC2.2.1 hC2.1 hl
    have s2 : ∀ q, fD q → ¬ (34 ≤ q ∧ q < 42) → σ2 q = σ q := fun q h1 h2 => by rw [f2 q h2]; exact hD.2 q h1
    have hM2 : PM σ2 70 a m d (nI ru) := hM.eq (s2 70 (by unfold fD; omega) (by omega))
    have hTM2 : TM σ2 T n := TM_scr hTM (fun q hq => s2 q (by unfold fD; omega) (by omega))
    obtain ⟨σ3, e4, hM3, f3⟩ := goDay_m hM2 hok hTM2 hO hru
    refine ⟨wl (sLa T ru a m d) m, σ2, σ3, ?_, ?_, dA T ru a m d m, m, d + 1, ru, T, n, ?_⟩
    · unfold f_X7_day
      rw [today_c hC, bd1_s, if_pos h9, e1, bd1_s, e2, bd1_s, e3, bd1_s]
    · unfold f_X8_day
      rw [k56, c56, hM2.2.2.1, if_neg hne, e4, bd2_s]
    · refine hW.new (hC2.eq (fun p h1 h2 => f3 p (by omega) (by omega))) hM3 (dA_ok hok m (Nat.le_refl _)) ?_ hru (fun q h1 h2 h3 => ?_)
      · have e1 : (1 : Int32).toInt = 1 := by decide
        rw [Int32.lt_iff_toInt_lt, e999] at h9
        unfold inr at hd ⊢
        rw [add_toInt (by omega) (by omega)]; omega
      · unfold kp at h1
        rw [f3 q h3 (by omega)]; exact s2 q (by unfold fD; omega) (by omega)
  · have he : d = 999 := by
      refine Int32.toInt_inj.mp ?_
      rw [Int32.lt_iff_toInt_lt, e999] at h9
      unfold inr at hd
      omega
    refine ⟨-3, σ, σ, ?_, ?_, a, m, d, ru, T, n, hW⟩
    · unfold f_X7_day
      rw [today_c hC, bd1_s, if_neg h9]
    · unfold f_X8_day
      rw [k56, c56, hM.2.2.1, if_pos he]
theorem sm_woken (x y : Int32) : SM (f_X7_woken x y) (f_X8_woken x y) := by
  intro σ ⟨a, m, d, ru, T, n, h⟩
  have hW := h
  obtain ⟨hC, hM, hok, hd, hru, hTC, hTM, hO, _⟩ := h
  have isP34 : isP 34 := Or.inl rfl
  rcases who x hC.1 with ⟨i, hi, rfl⟩ | hx
  · by_cases y0 : y < 0
    · refine ⟨-1000, σ, σ, ?_, ?_, a, m, d, ru, T, n, hW⟩
      · unfold f_X7_woken
        rw [has_in hC.2.1 hC.1 hi, bd1_s, if_neg (by decide), if_pos y0]
      · unfold f_X8_woken
        rw [isOne_in hM hi, bd1_s, if_neg (by decide), isIn_0 (Or.inl y0), bd1_s, if_pos rfl]
    · by_cases y1 : y < 24
      · have y2 : y ≤ 23 := by
          have e1 : (24 : Int32).toInt = 24 := by decide
          have e2 : (23 : Int32).toInt = 23 := by decide
          rw [Int32.lt_iff_toInt_lt] at y1
          rw [Int32.le_iff_toInt_le]; omega
        obtain ⟨σ1, e1, f1⟩ := tire_c hC isP34 hTC hO hru hi y
        have hM1 : PM σ1 70 a m d (nI ru) := hM.eq (f1 70 (by decide) (by decide))
        have hTM1 : TM σ1 T n := TM_scr hTM (fun q hq => f1 q (by omega) (by omega))
        obtain ⟨σ2, e2, f2⟩ := tire_m hM1 hok hTM1 hO hru hi y
        refine ⟨sTi T ru a d i y, σ1, σ2, ?_, ?_, a, m, d, ru, T, n, hW.frame (fun q hq => ?_)⟩
        · unfold f_X7_woken
          rw [has_in hC.2.1 hC.1 hi, bd1_s, if_neg (by decide), if_neg y0, if_pos y1, e1, bd2_s]
        · unfold f_X8_woken
          rw [isOne_in hM1 hi, bd1_s, if_neg (by decide), isIn_1 (Int32.not_lt.mp y0) y2, bd1_s, if_neg (by decide), e2, bd2_s]
        · unfold kp at hq
          rw [f2 q (by omega), f1 q (by omega) (by omega)]
      · have y2 : 23 < y := by
          have e1 : (24 : Int32).toInt = 24 := by decide
          have e2 : (23 : Int32).toInt = 23 := by decide
          rw [Int32.lt_iff_toInt_lt] at y1
          rw [Int32.lt_iff_toInt_lt]; omega
        refine ⟨-1000, σ, σ, ?_, ?_, a, m, d, ru, T, n, hW⟩
        · unfold f_X7_woken
          rw [has_in hC.2.1 hC.1 hi, bd1_s, if_neg (by decide), if_neg y0, if_neg y1]
        · unfold f_X8_woken
          rw [isOne_in hM hi, bd1_s, if_neg (by decide), isIn_0 (Or.inr y2), bd1_s, if_pos rfl]
  · refine ⟨-1000, σ, σ, ?_, ?_, a, m, d, ru, T, n, hW⟩
    · unfold f_X7_woken
      rw [has_out hC.2.1 hx, bd1_s, if_pos rfl]
    · unfold f_X8_woken
      rw [isOne_out hM hx, bd1_s, if_pos rfl]
theorem sm_force (x : Int32) : SM (f_X7_force x) (f_X8_force x) := by
  intro σ ⟨a, m, d, ru, T, n, h⟩
  have hW := h
  obtain ⟨hC, hM, hok, hd, hru, hTC, hTM, hO, _⟩ := h
  have hn := hTC.1
  have k57 : ∀ {β : Type} (r : Option β), ck 57 58 r = r := fun r => ck_n (i := 57) (by decide) (by decide)
  have c57 : (57 : Int32).toNatClampNeg = 57 := by decide
  have hmn : f_X3_many σ = some (nI n) := by unfold f_X3_many; rw [hTC.2.1]
  have e0 : (0 : Int32).toInt = 0 := by decide
  have en : (nI n - 1).toInt = n - 1 := by rw [n_1, pk_sub_toInt (by omega) (by decide)]; rfl
  have en0 : (nI n).toInt = n := nI_toInt (by omega)
  by_cases x0 : x < 0
  · refine ⟨-2, σ, σ, ?_, ?_, a, m, d, ru, T, n, hW⟩
    · unfold f_X7_force
      rw [if_pos x0]
    · unfold f_X8_force
      rw [isIn_0 (Or.inl x0), bd1_s, if_pos rfl]
  · by_cases x1 : x < nI n
    · have x2 : x ≤ nI n - 1 := by
        rw [Int32.lt_iff_toInt_lt] at x1
        rw [Int32.le_iff_toInt_le]; omega
      have hx : ∃ k, k < n ∧ x = nI k := by
        rw [Int32.lt_iff_toInt_lt] at x0 x1
        exact ⟨x.toInt.toNat, by omega, Int32.toInt_inj.mp (by rw [nI_toInt (by omega)]; omega)⟩
      obtain ⟨k, hk, rfl⟩ := hx
      refine ⟨nI ru, up σ 34 9 (nI k), up (up σ 34 9 (nI k)) 70 57 (nI k), ?_, ?_, a, m, d, k, T, n, ?_⟩
      · unfold f_X7_force f_X1_rule f_X1_put
        rw [if_neg x0, hmn, bd1_s, if_pos x1, bd1_s, if_neg (by decide), if_pos rfl, bnd_s, bd1_s, hC.2.2.2.1]
      · unfold f_X8_force
        rw [up_n (by decide), up_n (by decide), hTM.2.1, isIn_1 (Int32.not_lt.mp x0) x2, bd1_s, if_neg (by decide), k57, bnd_s, k57, c57, bnd_s, hM.2.2.2.1]
      · refine hW.new ?_ ?_ hok hd hk (fun q h1 h2 h3 => ?_)
        · obtain ⟨h1, h2, h3, h4, h5, h6, h7⟩ := hC
          refine ⟨h1, ?_, ?_, ?_, fun i hi k hk => ?_, fun i j hi hj hij => ?_, fun i hi => ?_⟩
          · rw [up_ne (by decide), up_nk (by decide)]; exact h2
          · rw [up_ne (by decide), up_nk (by decide)]; exact h3
          · rw [up_ne (by decide), up_eq]
          · rw [up_ne (by omega), up_ne (by omega)]; exact h5 i hi k hk
          · rw [up_ne (by omega), up_ne (by omega)]; exact h6 i j hi hj hij
          · rw [up_ne (by omega), up_ne (by omega)]; exact h7 i hi
        · have hm := hC.1
          obtain ⟨h1, h2, h3, h4, h5, h6⟩ := hM
          refine ⟨h1, ?_, ?_, ?_, fun i hi k hk => ?_, fun i j hi hj hij => ?_⟩
          · rw [up_nk (by decide), up_ne (by decide)]; exact h2
          · rw [up_nk (by decide), up_ne (by decide)]; exact h3
          · rw [up_eq]
          · rw [up_nk (by omega), up_ne (by omega)]; exact h5 i hi k hk
          · rw [up_nk (by omega), up_ne (by omega)]; exact h6 i j hi hj hij
        · rw [up_n h3, up_n (by omega)]
    · have x2 : nI n - 1 < x := by
        rw [Int32.lt_iff_toInt_lt] at x1 ⊢
        omega
      refine ⟨-2, σ, σ, ?_, ?_, a, m, d, ru, T, n, hW⟩
      · unfold f_X7_force
        rw [if_neg x0, hmn, bd1_s, if_neg x1]
      · unfold f_X8_force
        rw [hTM.2.1, isIn_0 (Or.inr x2), bd1_s, if_pos rfl]
