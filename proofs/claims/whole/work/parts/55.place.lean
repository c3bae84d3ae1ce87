/-! A number's place; count; set. -/
def SMP (f g : sg_T → Option Int32) : Prop := ∀ σ, WRL σ → ∃ r, f σ = some r ∧ g σ = some r
theorem whose_c {σ : sg_T} {o : Nat} {a : pa_T} {m : Nat} {d ru : Int32} (h : PC σ o a m d ru) (x : Int32) : f_X1_whoseClocks o x σ = some (wb (fun i => decide (setr a m i = x)) m) := by
  have hm := h.1
  have hrun : itr (fun q => b_X1_whoseClocks_4 o x q.1 q.2 σ) lfu (0, 0) = some (wb (fun i => decide (setr a m i = x)) m, nI m) := by
    refine itr_seq (fun k => (wb (fun i => decide (setr a m i = x)) k, nI k)) m (fun k hk => ?_) ?_ (by omega)
    · show b_X1_whoseClocks_4 o x (wb (fun i => decide (setr a m i = x)) k) (nI k) σ = some (.inl ((if decide (setr a m k = x) = true then _ else _), _))
      unfold b_X1_whoseClocks_4
      rw [h.2.1, if_neg (nle_of_lt hk (by omega)), setterOf_c h hk, bd1_s]
      by_cases e : setr a m k = x
      · rw [if_pos e, if_pos (by simp [e]), bnd_s, bnd_s, nI_1]
      · rw [if_neg e, if_neg (by simp [e]), bnd_s, nI_1]
    · show b_X1_whoseClocks_4 o x (wb (fun i => decide (setr a m i = x)) m) (nI m) σ = _
      unfold b_X1_whoseClocks_4
      rw [h.2.1, if_pos (Int32.le_refl _)]
  unfold f_X1_whoseClocks
  rw [hrun, bd2_s]
theorem alone_m {σ : sg_T} {a : pa_T} {m : Nat} {d ru : Int32} (h : PM σ 70 a m d ru) : f_X8_alone σ = some (cb (fun i => decide (setr a m i = -1)) m) := by
  have hm := h.1
  have hrun : itr (fun q => b_X8_alone_4 q.1 q.2 σ) lfu (0, 0) = some (cb (fun i => decide (setr a m i = -1)) m, nI m) := by
    refine itr_seq (fun k => (cb (fun i => decide (setr a m i = -1)) k, nI k)) m (fun k hk => ?_) ?_ (by omega)
    · show b_X8_alone_4 (cb (fun i => decide (setr a m i = -1)) k) (nI k) σ = some (.inl (cb (fun i => decide (setr a m i = -1)) k + (if decide (setr a m k = -1) = true then 1 else 0), _))
      unfold b_X8_alone_4
      rw [many_m h, bd1_s, if_neg (nle_of_lt hk (by omega)), setter_m h hk, bd1_s, bnd_s, bnd_s, bnd_s, nI_1]
      by_cases e : setr a m k = -1
      · rw [if_pos e, if_pos (by simp [e])]
      · rw [if_neg e, if_neg (by simp [e])]
    · show b_X8_alone_4 (cb (fun i => decide (setr a m i = -1)) m) (nI m) σ = _
      unfold b_X8_alone_4
      rw [many_m h, bd1_s, if_pos (Int32.le_refl _)]
  unfold f_X8_alone
  rw [hrun, bd2_s]
theorem sm_count (x : Int32) : SMP (f_X7_count x) (f_X8_count x) := by
  intro σ ⟨a, m, d, ru, T, n, h⟩
  obtain ⟨hC, hM, hok, hd, hru, hTC, hTM, hO, hI, ⟨l, hl, t1, t2, t3⟩, hS, hH⟩ := h
  have k56 : ∀ {β : Type} (r : Option β), ck 56 58 r = r := fun r => ck_n (i := 56) (by decide) (by decide)
  have c56 : (56 : Int32).toNatClampNeg = 56 := by decide
  have k57 : ∀ {β : Type} (r : Option β), ck 57 58 r = r := fun r => ck_n (i := 57) (by decide) (by decide)
  have c57 : (57 : Int32).toNatClampNeg = 57 := by decide
  have e1 : f_X1_many 34 σ = some (nI m) := by unfold f_X1_many; rw [hC.2.1]
  have e2 : f_X1_manyWithoutSetter 34 σ = some (cb (fun i => decide (setr a m i = -1)) m) := by
    unfold f_X1_manyWithoutSetter
    rw [whose_c hC, bd1_s, bc _ hC.1, bd1_s]
  have e3 : f_X3_many σ = some (nI n) := by unfold f_X3_many; rw [hTC.2.1]
  have e4 : f_X2_size σ = some (nI l) := by unfold f_X2_size; rw [t1]
  have e5 : f_X1_rule 34 σ = some (nI ru) := by unfold f_X1_rule; rw [hC.2.2.2.1]
  unfold f_X7_count f_X8_count
  rw [e1, e2, e3, e4, e5, today_c hC, many_m hM, alone_m hM, k56, k57, c56, c57, hM.2.2.1, hM.2.2.2.1, hTM.2.1, t2]
  simp only [bd1_s]
  repeat' split
  all_goals exact ⟨_, rfl, rfl⟩
theorem nn_nI {x : Int32} (h : ¬ x < 0) : ∃ k, k < 2 ^ 31 ∧ x = nI k := by
  have e0 : (0 : Int32).toInt = 0 := by decide
  rw [Int32.lt_iff_toInt_lt] at h
  have := x.toInt_lt
  exact ⟨x.toInt.toNat, by omega, Int32.toInt_inj.mp (by rw [nI_toInt (by omega)]; omega)⟩
theorem d10 {x : Int32} (h : ¬ x < 0) : ¬ x / 10 < 0 ∧ ¬ jrem x 10 < 0 := by
  obtain ⟨k, hk, rfl⟩ := nn_nI h
  have e10 : (10 : Int32) = nI 10 := rfl
  unfold jrem
  rw [e10, pk_rem hk (by decide) (by decide), pk_div hk (by decide) (by decide)]
  exact ⟨nI_pos (by omega), nI_pos (by omega)⟩
def out2 (m : Nat) (x y : Int32) : Prop := (x < 0 ∨ nI m ≤ x) ∨ ((∃ i, i < m ∧ x = nI i) ∧ (y < 0 ∨ nI m ≤ y)) ∨ ((∃ i, i < m ∧ x = nI i) ∧ x = y)
section Place
variable {σ : sg_T} {o : Nat} {a : pa_T} {m : Nat} {d ru : Int32}
theorem hp6_no (h : PC σ o a m d ru) {x : Int32} (hx : x < 0 ∨ out2 m (x / 10) (jrem x 10)) : f_X1_hasPlace o 6 x σ = some 0 := by
  have hm := h.1
  unfold f_X1_hasPlace
  rw [if_neg (by decide), if_pos rfl]
  by_cases x0 : x < 0
  · rw [if_pos x0]
  · obtain ⟨d1, d2⟩ := d10 x0
    rw [if_neg x0, h.2.1]
    rcases hx.resolve_left x0 with g | ⟨⟨i, hi, g1⟩, g2⟩ | ⟨⟨i, hi, g1⟩, g2⟩
    · rw [if_pos (g.resolve_left d1)]
    · rw [g1, if_neg (nle_of_lt hi (by omega)), if_pos (g2.resolve_left d2)]
    · rw [← g2, g1, if_neg (nle_of_lt hi (by omega)), if_neg (nle_of_lt hi (by omega)), if_pos rfl, bnd_s, cz_0]
theorem hp6_in (h : PC σ o a m d ru) {x : Int32} (x0 : ¬ x < 0) {i j : Nat} (hi : i < m) (hj : j < m) (hij : i ≠ j) (e1 : x / 10 = nI i) (e2 : jrem x 10 = nI j) : f_X1_hasPlace o 6 x σ = some 1 := by
  have hm := h.1
  unfold f_X1_hasPlace
  rw [if_neg (by decide), if_pos rfl, if_neg x0, h.2.1, e1, e2, if_neg (nle_of_lt hi (by omega)), if_neg (nle_of_lt hj (by omega)), if_neg (fun q => hij (nI_inj (by omega) (by omega) q)), bnd_s, cz_1]
theorem pi6 {x : Int32} {i j : Nat} (e1 : x / 10 = nI i) (e2 : jrem x 10 = nI j) : f_X1_placeIn 6 x σ = some (nI (i * 5 + j)) := by
  unfold f_X1_placeIn
  rw [if_pos rfl, e1, e2, n_5, pk_mul, nI_add]
theorem get6_c (h : PC σ o a m d ru) {x : Int32} (x0 : ¬ x < 0) {i j : Nat} (hi : i < m) (hj : j < m) (hij : i ≠ j) (e1 : x / 10 = nI i) (e2 : jrem x 10 = nI j) : f_X1_get o 6 x σ = some (a i (6 + j)) := by
  have hm := h.1
  have hrow : f_X1_rowOf o 6 σ = some (o + 7) := rfl
  have hlen : plen o (o + 7) = 25 := by unfold plen; rw [if_pos rfl]
  unfold f_X1_get
  rw [if_neg (by decide), hp6_in h x0 hi hj hij e1 e2, bd1_s, if_neg (by decide), hrow, bd1_s, pi6 e1 e2, bd1_s, hlen, ck_n (by omega) (by decide), nI_clamp (by omega), h.2.2.2.2.2.1 i j hi hj hij]
theorem put6_c (h : PC σ o a m d ru) {x : Int32} (x0 : ¬ x < 0) {i j : Nat} (hi : i < m) (hj : j < m) (hij : i ≠ j) (e1 : x / 10 = nI i) (e2 : jrem x 10 = nI j) (y : Int32) : f_X1_put o 6 x y σ = some (up σ (o + 7) (i * 5 + j) y) := by
  have hm := h.1
  have hrow : f_X1_rowOf o 6 σ = some (o + 7) := rfl
  have hlen : plen o (o + 7) = 25 := by unfold plen; rw [if_pos rfl]
  unfold f_X1_put
  rw [if_neg (by decide), if_neg (by decide), if_neg (by decide), hp6_in h x0 hi hj hij e1 e2, bd1_s, if_neg (by decide), hrow, bd1_s, pi6 e1 e2, bd1_s, hlen, ck_n (by omega) (by decide), nI_clamp (by omega), bnd_s]
theorem pl6_no (h : PM σ 70 a m d ru) {x : Int32} (hx : x < 0 ∨ out2 m (x / 10) (jrem x 10)) : f_X8_place 6 x σ = some (-1) := by
  unfold f_X8_place
  rw [if_pos rfl]
  by_cases x0 : x < 0
  · rw [if_pos x0]
  · rw [if_neg x0, isTwo_out h (hx.resolve_left x0), bd1_s, if_pos rfl]
theorem pl6_in (h : PM σ 70 a m d ru) {x : Int32} (x0 : ¬ x < 0) {i j : Nat} (hi : i < m) (hj : j < m) (hij : i ≠ j) (e1 : x / 10 = nI i) (e2 : jrem x 10 = nI j) : f_X8_place 6 x σ = some (nI (11 * i + (6 + j))) := by
  unfold f_X8_place
  rw [if_pos rfl, if_neg x0, e1, e2, isTwo_in h hi hj hij, bd1_s, if_neg (by decide), n_11, n_6, pk_mul, nI_add, nI_add, Nat.add_assoc]
theorem nIne {w k : Nat} (hw : w < 2 ^ 31) (hk : k < 2 ^ 31) (h : w ≠ k) : ¬ nI w = nI k := fun q => h (nI_inj hw hk q)
theorem hpk (h : PC σ o a m d ru) {w : Nat} (h0 : 0 < w) (h6 : w < 6) (x : Int32) : f_X1_hasPlace o (nI w) x σ = f_X1_has o x σ := by
  unfold f_X1_hasPlace
  have n0 : ¬ nI w = 0 := nIne (k := 0) (by omega) (by decide) (by omega)
  have n6 : ¬ nI w = 6 := nIne (k := 6) (by omega) (by decide) (by omega)
  rw [if_neg n0, if_neg n6]
  rcases who x h.1 with ⟨i, hi, rfl⟩ | hx
  · rw [has_in h.2.1 h.1 hi, bd1_s, cz_1]
  · rw [has_out h.2.1 hx, bd1_s, cz_0]
theorem rowk {w : Nat} (h0 : 0 < w) (h6 : w < 6) : f_X1_rowOf o (nI w) σ = some (o + 1 + w) := by
  rcases w with _ | _ | _ | _ | _ | _ | w
  · omega
  · rfl
  · rfl
  · rfl
  · rfl
  · rfl
  · omega
theorem putk_c (h : PC σ o a m d ru) {w i : Nat} (h0 : 0 < w) (h6 : w < 6) (hi : i < m) (y : Int32) : f_X1_put o (nI w) (nI i) y σ = some (up σ (o + 1 + w) i y) := by
  have hm := h.1
  have n0 : ¬ nI w = 0 := nIne (k := 0) (by omega) (by decide) (by omega)
  have n8 : ¬ nI w = 8 := nIne (k := 8) (by omega) (by decide) (by omega)
  have n9 : ¬ nI w = 9 := nIne (k := 9) (by omega) (by decide) (by omega)
  have n6 : ¬ nI w = 6 := nIne (k := 6) (by omega) (by decide) (by omega)
  have hlen : plen o (o + 1 + w) = 5 := by unfold plen; rw [if_neg (by omega)]
  have hin : f_X1_placeIn (nI w) (nI i) σ = some (nI i) := by unfold f_X1_placeIn; rw [if_neg n6]
  unfold f_X1_put
  rw [if_neg n0, if_neg n8, if_neg n9, hpk h h0 h6, has_in h.2.1 hm hi, bd1_s, if_neg (by decide), rowk h0 h6, bd1_s, hin, bd1_s, hlen, ck_n (by omega) (by decide), nI_clamp (by omega), bnd_s]
theorem plk_in (h : PM σ 70 a m d ru) {w i : Nat} (h0 : 0 < w) (h6 : w < 6) (hi : i < m) : f_X8_place (nI w) (nI i) σ = some (nI (11 * i + w)) := by
  have n0 : ¬ nI w = 0 := nIne (k := 0) (by omega) (by decide) (by omega)
  have n6 : ¬ nI w = 6 := nIne (k := 6) (by omega) (by decide) (by omega)
  unfold f_X8_place
  rw [if_neg n6, if_neg n0, isOne_in h hi, bd1_s, if_neg (by decide), bnd_s, n_11, pk_mul, nI_add]
theorem plk_no (h : PM σ 70 a m d ru) {w : Nat} (h0 : 0 < w) (h6 : w < 6) {x : Int32} (hx : x < 0 ∨ nI m ≤ x) : f_X8_place (nI w) x σ = some (-1) := by
  have n0 : ¬ nI w = 0 := nIne (k := 0) (by omega) (by decide) (by omega)
  have n6 : ¬ nI w = 6 := nIne (k := 6) (by omega) (by decide) (by omega)
  unfold f_X8_place
  rw [if_neg n6, if_neg n0, isOne_out h hx, bd1_s, if_pos rfl, bnd_s]
end Place
