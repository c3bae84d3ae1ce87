/-! Ranges behind a day; who is late; a DAY, by the model. -/
def hiK (k : Nat) : Int := if k = 0 then 5 else if k = 1 then 9 else if k = 2 then 23 else if k = 3 then 99 else if k = 4 then 99 else if k = 5 then 9999 else 9
theorem okp_iff (a : pa_T) (m : Nat) : OkP a m ↔ ∀ i, i < m → ∀ k, (k < 6 ∨ ∃ j, j < m ∧ i ≠ j ∧ k = 6 + j) → inr (a i k) 0 (hiK k) := by
  constructor
  · intro h i hi k hk
    obtain ⟨h0, h1, h2, h3, h4, h5, h6⟩ := h i hi
    rcases hk with hk | ⟨j, hj, hij, rfl⟩
    · rcases k with _ | _ | _ | _ | _ | _ | k
      · exact h0
      · exact h1
      · exact h2
      · exact h3
      · exact h4
      · exact h5
      · omega
    · have e : hiK (6 + j) = 9 := by unfold hiK; rw [if_neg (by omega), if_neg (by omega), if_neg (by omega), if_neg (by omega), if_neg (by omega), if_neg (by omega)]
      rw [e]; exact h6 j hj hij
  · intro h i hi
    refine ⟨h i hi 0 (Or.inl (by decide)), h i hi 1 (Or.inl (by decide)), h i hi 2 (Or.inl (by decide)), h i hi 3 (Or.inl (by decide)), h i hi 4 (Or.inl (by decide)), h i hi 5 (Or.inl (by decide)), fun j hj hij => ?_⟩
    have e : hiK (6 + j) = 9 := by unfold hiK; rw [if_neg (by omega), if_neg (by omega), if_neg (by omega), if_neg (by omega), if_neg (by omega), if_neg (by omega)]
    have := h i hi (6 + j) (Or.inr ⟨j, hj, hij, rfl⟩)
    rwa [e] at this
theorem OkP.put {a : pa_T} {m : Nat} (h : OkP a m) {i k : Nat} {x : Int32} (hx : inr x 0 (hiK k)) : OkP (up a i k x) m := by
  rw [okp_iff] at h ⊢
  intro i' hi' k' hk'
  rw [up_at]
  by_cases e : i' = i ∧ k' = k
  · rw [if_pos e, e.2]; exact hx
  · rw [if_neg e]; exact h i' hi' k' hk'
theorem B23_rng (x : Int32) : inr (B23 x) 0 23 := by
  unfold B23 inr
  rw [jmax_toInt, jmin_toInt, (by decide : (23 : Int32).toInt = 23), (by decide : (0 : Int32).toInt = 0)]
  omega
theorem B99_rng (x : Int32) : inr (B99 x) (-99) 99 := by
  unfold B99 inr
  rw [jmax_toInt, jmin_toInt, (by decide : (99 : Int32).toInt = 99), (by decide : (-99 : Int32).toInt = -99)]
  omega
theorem sHo_rng (T : tx_T) (t : Nat) (a : pa_T) (d : Int32) (i j : Nat) : inr (sHo T t a d i j) 0 23 := by
  unfold sHo
  repeat' split
  all_goals exact B23_rng _
theorem sTi_rng (T : tx_T) (t : Nat) (a : pa_T) (d : Int32) (i : Nat) (h : Int32) : inr (sTi T t a d i h) (-99) 99 := by
  unfold sTi
  split
  · exact B99_rng _
  · split
    · exact B99_rng _
    · split
      · exact B99_rng _
      · split
        · exact B99_rng _
        · split
          · exact B99_rng _
          · exact B99_rng _
theorem neg_rng {x : Int32} {b : Int} (hb : b < 1000) (h : inr x (-b) b) : inr (-x) (-b) b := by
  unfold inr at h ⊢
  have e : -x = 0 - x := by rw [Int32.zero_sub]
  have e0 : (0 : Int32).toInt = 0 := by decide
  rw [e, sub_toInt (by omega) (by omega)]
  omega
theorem sGr_rng (T : tx_T) (t : Nat) (a : pa_T) (d : Int32) (i j : Nat) (l : Int32) : inr (sGr T t a d i j l) (-99) 100 := by
  have hb := bnt_rng 2 (tv T t 2 a d i j)
  have hb2 : inr (bnt 2 (tv T t 2 a d i j)) (-99) 100 := ⟨hb.1, by omega⟩
  have hn : inr (-(bnt 2 (tv T t 2 a d i j))) (-99) 100 := by
    have := neg_rng (b := 99) (by decide) (x := bnt 2 (tv T t 2 a d i j)) hb
    exact ⟨this.1, by have := this.2; omega⟩
  have h0 : inr (0 : Int32) (-99) 100 := by unfold inr; decide
  have hp : ∀ x : Int32, inr x (-99) 99 → inr (x + 1) (-99) 100 := fun x hx => by
    unfold inr at hx ⊢
    have e1 : (1 : Int32).toInt = 1 := by decide
    rw [add_toInt (by omega) (by omega)]; omega
  unfold sGr
  split
  · split
    · exact hb2
    · exact h0
  · split
    · exact hn
    · split
      · apply hp
        split
        · exact hb
        · unfold inr; decide
      · split
        · split
          · exact hn
          · exact h0
        · split
          · exact h0
          · exact hb2
theorem sLa_rng (T : tx_T) (t : Nat) (a : pa_T) (m : Nat) (d : Int32) (i : Nat) (h2 : inr (a i 2) 0 23) : inr (sLa T t a m d i) 0 23 := by
  unfold sLa
  have e0 : (0 : Int32).toInt = 0 := by decide
  split
  · unfold inr; decide
  · have h := sHo_rng T t a d (setr a m i).toNatClampNeg i
    unfold inr at h h2 ⊢
    rw [jmax_toInt, sub_toInt (by omega) (by omega)]
    omega
theorem sMo_rng (T : tx_T) (t : Nat) (a : pa_T) (m : Nat) (d : Int32) (i : Nat) : inr (sMo T t a m d i) (-99) 99 := by
  unfold sMo
  split
  · unfold inr; decide
  · exact sTi_rng ..
theorem sFo_rng (T : tx_T) (t : Nat) (a : pa_T) (m : Nat) (d : Int32) (i : Nat) : inr (sFo T t a m d i) (-99) 100 := by
  unfold sFo
  split
  · unfold inr; decide
  · exact sGr_rng ..
theorem dA1_ok {S mo la fo : Int32} {b : pa_T} {m i : Nat} (h : OkP b m) (hi : i < m) (hl : inr la 0 23) : OkP (dA1 S mo la fo b i) m := by
  have h3 := (h i hi).2.2.2.1
  have h4 := (h i hi).2.2.2.2.1
  have h5 := (h i hi).2.2.2.2.2.1
  have e0 : (0 : Int32).toInt = 0 := by decide
  have e1 : (1 : Int32).toInt = 1 := by decide
  have e9 : (9 : Int32).toInt = 9 := by decide
  have e10 : (10 : Int32).toInt = 10 := by decide
  have e99 : (99 : Int32).toInt = 99 := by decide
  have e9999 : (9999 : Int32).toInt = 9999 := by decide
  unfold dA1
  unfold inr at h3 h4 h5 hl
  split
  · refine (h.put (k := 3) ?_).put (k := 4) ?_
    · show inr _ 0 99
      unfold inr
      rw [jmax_toInt, sub_toInt (by omega) (by omega)]; omega
    · show inr _ 0 99
      unfold inr
      rw [jmin_toInt, add_toInt (by omega) (by omega)]; omega
  · refine ((h.put (k := 3) ?_).put (k := 5) ?_).put (k := 6 + i) ?_
    · show inr _ 0 99
      unfold inr
      rw [jmax_toInt, jmin_toInt]; omega
    · show inr _ 0 9999
      unfold inr
      rw [jmin_toInt, add_toInt (by omega) (by omega)]; omega
    · have e : hiK (6 + i) = 9 := by unfold hiK; rw [if_neg (by omega), if_neg (by omega), if_neg (by omega), if_neg (by omega), if_neg (by omega), if_neg (by omega)]
      rw [e]
      unfold inr
      rw [jmax_toInt, jmin_toInt]; omega
theorem dA_ok {T : tx_T} {ru : Nat} {a : pa_T} {m : Nat} {d : Int32} (h : OkP a m) : ∀ k, k ≤ m → OkP (dA T ru a m d k) m
  | 0, _ => h
  | k + 1, hk => by
    rw [dA_1]
    exact dA1_ok (dA_ok h k (by omega)) (by omega) (sLa_rng T ru a m d k (h k (by omega)).2.2.1)
/-- who is late, as bits -/
def wl (la : Nat → Int32) : Nat → Int32
  | 0 => 0
  | k + 1 => if la k ≤ 0 then wl la k else wl la k ||| (1 <<< (nI k &&& 31))
theorem wl_1 (la : Nat → Int32) (k : Nat) : wl la (k + 1) = if la k ≤ 0 then wl la k else wl la k ||| (1 <<< (nI k &&& 31)) := rfl
theorem late_c {σ : sg_T} {o m : Nat} {la : Nat → Int32} (hm : σ o 7 = nI m) (hm5 : m ≤ 5) (hl : ∀ i, i < m → σ 31 i = la i) : f_X0_whoIsLate o σ = some (wl la m) := by
  have hmany : f_X1_many o σ = some (nI m) := by unfold f_X1_many; rw [hm]
  have hrun : itr (fun q => b_X0_whoIsLate_4 o q.1 q.2 σ) lfu (0, 0) = some (wl la m, nI m) := by
    refine itr_seq (fun k => (wl la k, nI k)) m (fun k hk => ?_) ?_ (by omega)
    · show b_X0_whoIsLate_4 o (wl la k) (nI k) σ = _
      unfold b_X0_whoIsLate_4
      rw [hmany, bd1_s, if_neg (nle_of_lt hk (by omega)), ck_n (by omega) (by decide), nI_clamp (by omega), hl k hk, wl_1]
      by_cases h : la k ≤ 0
      · rw [if_pos h, if_pos h, bnd_s, nI_1]
      · rw [if_neg h, if_neg h, bnd_s, bnd_s, nI_1]
    · show b_X0_whoIsLate_4 o (wl la m) (nI m) σ = _
      unfold b_X0_whoIsLate_4
      rw [hmany, bd1_s, if_pos (Int32.le_refl _)]
  unfold f_X0_whoIsLate
  rw [hrun, bd2_s]
theorem PM.put {σ : sg_T} {q : Nat} {a : pa_T} {m : Nat} {d ru : Int32} (h : PM σ q a m d ru) {i k : Nat} (hi : i < 5) (hk : k < 11) (x : Int32) : PM (up σ q (11 * i + k) x) q (up a i k x) m d ru := by
  obtain ⟨h1, h2, h3, h4, h5, h6⟩ := h
  refine ⟨h1, ?_, ?_, ?_, fun i' hi' k' hk' => ?_, fun i' j' hi' hj' hij' => ?_⟩
  · rw [up_nk (by omega)]; exact h2
  · rw [up_nk (by omega)]; exact h3
  · rw [up_nk (by omega)]; exact h4
  · rw [up_at, up_at, h5 i' hi' k' hk']
    by_cases e : i' = i ∧ k' = k
    · rw [if_pos (by omega), if_pos (by omega)]
    · rw [if_neg (by omega), if_neg (by omega)]
  · rw [up_at, up_at, h6 i' j' hi' hj' hij']
    by_cases e : i' = i ∧ 6 + j' = k
    · rw [if_pos (by omega), if_pos (by omega)]
    · rw [if_neg (by omega), if_neg (by omega)]
theorem ofk_m {σ : sg_T} {a : pa_T} {m : Nat} {d ru : Int32} (h : PM σ 70 a m d ru) {i k : Nat} (hi : i < m) (hk : k < 6) : f_X8_of (nI i) (nI k) σ = some (a i k) := by
  have := h.1
  rw [of_m (by omega) (by omega), h.2.2.2.2.1 i hi k hk]
theorem off_m {σ : sg_T} {a : pa_T} {m : Nat} {d ru : Int32} (h : PM σ 70 a m d ru) {i j : Nat} (hi : i < m) (hj : j < m) (hij : i ≠ j) : f_X8_of (nI i) (6 + nI j) σ = some (a i (6 + j)) := by
  have := h.1
  rw [n_6j, of_m (by omega) (by omega), h.2.2.2.2.2 i j hi hj hij]
theorem chg_m {σ : sg_T} {i k : Nat} (hi : i < 5) (hk : k < 11) (x : Int32) : f_X8_change (nI i) (nI k) x σ = some (up σ 70 (11 * i + k) x) := by
  unfold f_X8_change
  rw [n_11, pk_mul, nI_add, ck_n (by omega) (by decide), nI_clamp (by omega), bnd_s]
theorem many_m {σ : sg_T} {a : pa_T} {m : Nat} {d ru : Int32} (h : PM σ 70 a m d ru) : f_X8_many σ = some (nI m) := by
  unfold f_X8_many
  have k55 : ∀ {β : Type} (r : Option β), ck 55 58 r = r := fun r => ck_n (i := 55) (by decide) (by decide)
  rw [k55]
  exact congrArg some h.2.1
theorem nI_inj {i j : Nat} (hi : i < 2 ^ 31) (hj : j < 2 ^ 31) (h : nI i = nI j) : i = j := by
  have := congrArg Int32.toNatClampNeg h
  rwa [nI_clamp hi, nI_clamp hj] at this
theorem setter_m {σ : sg_T} {a : pa_T} {m : Nat} {d ru : Int32} (h : PM σ 70 a m d ru) {i : Nat} (hi : i < m) : f_X8_setter (nI i) σ = some (setr a m i) := by
  have hm := h.1
  have hl : itr (fun q => b_X8_setter_7 (nI i) q.1 q.2.1 q.2.2 σ) lfu ((-1), 0, 0) = some ((sb a i m).1, (sb a i m).2, nI m) := by
    refine itr_seq (fun k => ((sb a i k).1, (sb a i k).2, nI k)) m (fun k hk => ?_) ?_ (by omega)
    · show b_X8_setter_7 (nI i) (sb a i k).1 (sb a i k).2 (nI k) σ = _
      unfold b_X8_setter_7
      rw [many_m h, bd1_s, if_neg (nle_of_lt hk (by omega))]
      by_cases hki : k = i
      · subst hki
        rw [if_pos rfl, bnd_s, nI_1, sb_1, if_neg (fun z => z.1 rfl)]
      · rw [if_neg (fun q => hki (nI_inj (by omega) (by omega) q)), off_m h hk hi hki, bd1_s]
        by_cases hc : a k (6 + i) ≤ (sb a i k).2
        · rw [if_pos hc, bnd_s, nI_1, sb_1, if_neg (fun z => Int32.not_lt.mpr hc z.2)]
        · rw [if_neg hc, bd1_s, bnd_s, nI_1, sb_1, if_pos ⟨hki, Int32.not_le.mp hc⟩]
    · show b_X8_setter_7 (nI i) (sb a i m).1 (sb a i m).2 (nI m) σ = _
      unfold b_X8_setter_7
      rw [many_m h, bd1_s, if_pos (Int32.le_refl _)]
  unfold f_X8_setter
  rw [hl, bd3_s]
  rfl
section DayM
variable {σ : sg_T} {a : pa_T} {m : Nat} {d : Int32} {ru : Nat} {T : tx_T} {n : Nat}
theorem wakes_m (h : PM σ 70 a m d (nI ru)) (hT : TM σ T n) (hO : TOk T n) (hru : ru < n) {i : Nat} (hi : i < m) : sm (f_X8_wakes (nI i) σ) σ (sWa T ru a m d i) := by
  have hm := h.1
  unfold f_X8_wakes sWa
  rw [setter_m h hi, bd1_s]
  by_cases hs : setr a m i = -1
  · rw [if_pos hs, if_pos hs]; exact ⟨σ, rfl, fun _ _ => rfl⟩
  · obtain ⟨s, hsm, hsk, hse⟩ := (setr_cases a m i).resolve_left hs
    rw [if_neg hs, if_neg hs, hse, nI_clamp (by omega)]
    obtain ⟨σ1, e1, f1⟩ := hour_m h hT hO hru hsm hi
    rw [e1, bd2_s]
    exact ⟨σ1, rfl, f1⟩
theorem TM_scr {τ : sg_T} (hT : TM σ T n) (he : ∀ q, q = 69 ∨ q = 75 ∨ q = 76 → τ q = σ q) : TM τ T n := by
  unfold TM at hT ⊢
  rw [he 69 (by decide), he 75 (by decide), he 76 (by decide)]
  exact hT
theorem sWa_m1 {i : Nat} (hs : ¬ setr a m i = -1) : ¬ sWa T ru a m d i = -1 := fun q => by
  have h := (sHo_rng T ru a d (setr a m i).toNatClampNeg i).1
  unfold sWa at q
  rw [if_neg hs] at q
  rw [q] at h
  exact absurd h (by decide)
theorem lateBy_m (h : PM σ 70 a m d (nI ru)) (hT : TM σ T n) (hO : TOk T n) (hru : ru < n) {i : Nat} (hi : i < m) : sm (f_X8_lateBy (nI i) σ) σ (sLa T ru a m d i) := by
  obtain ⟨σ1, e1, f1⟩ := wakes_m h hT hO hru hi
  have h1 : PM σ1 70 a m d (nI ru) := h.eq (f1 70 (by decide))
  have hT1 : TM σ1 T n := TM_scr hT (fun q hq => f1 q (by omega))
  obtain ⟨σ2, e2, f2⟩ := wakes_m h1 hT1 hO hru hi
  have h2 : PM σ2 70 a m d (nI ru) := h1.eq (f2 70 (by decide))
  have g2 : f_X8_of (nI i) 2 σ2 = some (a i 2) := ofk_m (k := 2) h2 hi (by decide)
  unfold f_X8_lateBy
  rw [e1, bd2_s]
  by_cases hs : setr a m i = -1
  · have hw : sWa T ru a m d i = -1 := by unfold sWa; rw [if_pos hs]
    have hl : sLa T ru a m d i = 0 := by unfold sLa; rw [if_pos hs]
    rw [if_pos hw, hl]
    exact ⟨σ1, by rfl, f1⟩
  · have hl : sLa T ru a m d i = jmax 0 (sWa T ru a m d i - a i 2) := by unfold sLa sWa; rw [if_neg hs, if_neg hs]
    rw [if_neg (sWa_m1 hs), e2, bd2_s, g2, bd1_s, hl]
    exact ⟨σ2, rfl, fun q hq => by rw [f2 q hq]; exact f1 q hq⟩
end DayM
