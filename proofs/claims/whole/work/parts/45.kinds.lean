/-! What each KIND makes of it. -/
def B23 (x : Int32) : Int32 := jmax 0 (jmin 23 x)
def B99 (x : Int32) : Int32 := jmax (-99) (jmin 99 x)
def sHo (T : tx_T) (t : Nat) (a : pa_T) (d : Int32) (i j : Nat) : Int32 :=
  if a i 0 = 1 then B23 (bnt 0 (tv T t 0 a d i j) + 2) else if a i 0 = 2 then B23 (bnt 0 (tv T t 0 a d i j) / 2) else if a i 0 = 3 then B23 (jmax 9 (bnt 0 (tv T t 0 a d i j) + 2)) else if a i 0 = 4 then (if jrem d 3 = 0 then B23 (a j 2) else B23 (bnt 0 (tv T t 0 a d i j) / 2)) else if a i 0 = 5 then B23 (a i 1) else B23 (bnt 0 (tv T t 0 a d i j))
def sTi (T : tx_T) (t : Nat) (a : pa_T) (d : Int32) (i : Nat) (h : Int32) : Int32 :=
  if a i 0 = 1 then B99 (bnt 1 (tv T t 1 a d i i) / 2) else if a i 0 = 2 then B99 (if 6 ≤ h then bnt 1 (tv T t 1 a d i i) else bnt 1 (tv T t 1 a d i i) + a i 1) else if a i 0 = 3 then B99 0 else if a i 0 = 4 then B99 (2 * (if 6 ≤ h then bnt 1 (tv T t 1 a d i i) else bnt 1 (tv T t 1 a d i i) + a i 1)) else if a i 0 = 5 then B99 (if 50 ≤ a i 3 then 0 else bnt 1 (tv T t 1 a d i i)) else B99 (bnt 1 (tv T t 1 a d i i))
def sGr (T : tx_T) (t : Nat) (a : pa_T) (d : Int32) (i j : Nat) (l : Int32) : Int32 :=
  if a i 0 = 1 then (if l = 0 then bnt 2 (tv T t 2 a d i j) else 0) else if a i 0 = 2 then -(bnt 2 (tv T t 2 a d i j)) else if a i 0 = 3 then (if l = 0 then bnt 2 (tv T t 2 a d i j) else 0) + 1 else if a i 0 = 4 then (if jrem d 2 = 1 then -(bnt 2 (tv T t 2 a d i j)) else 0) else if a i 0 = 5 then 0 else bnt 2 (tv T t 2 a d i j)
theorem bound_c (x l h : Int32) (σ : sg_T) : f_X7_bound x l h σ = some (jmax l (jmin h x)) := rfl
theorem bound_m (x l h : Int32) (σ : sg_T) : f_X8_bound x l h σ = some (jmax l (jmin h x)) := rfl
theorem get_c {σ : sg_T} {o : Nat} {a : pa_T} {m : Nat} {d ru : Int32} (h : PC σ o a m d ru) {w i : Nat} (hw : 0 < w) (hw6 : w < 6) (hi : i < m) : f_X1_get o (nI w) (nI i) σ = some (a i w) := by
  obtain ⟨h1, h2, h3, h4, h5, h6, h7⟩ := h
  have hpl : f_X1_hasPlace o (nI w) (nI i) σ = some 1 := by
    unfold f_X1_hasPlace
    rw [if_neg (nI_ne0 hw (by omega)), n_6, if_neg (fun q => by rw [nI_eq (by omega) (by omega)] at q; omega), has_in h2 h1 hi, bd1_s, cz_1]
  have hin : f_X1_placeIn (nI w) (nI i) σ = some (nI i) := by
    unfold f_X1_placeIn
    rw [n_6, if_neg (fun q => by rw [nI_eq (by omega) (by omega)] at q; omega)]
  have hrow : f_X1_rowOf o (nI w) σ = some (o + 1 + w) := by
    unfold f_X1_rowOf
    rcases (show w = 1 ∨ w = 2 ∨ w = 3 ∨ w = 4 ∨ w = 5 by omega) with rfl | rfl | rfl | rfl | rfl <;> rfl
  have hlen : plen o (o + 1 + w) = 5 := by unfold plen; rw [if_neg (by omega)]
  unfold f_X1_get
  rw [if_neg (nI_ne0 hw (by omega)), hpl, bd1_s, if_neg (by decide), hrow, bd1_s, hin, bd1_s, hlen, ck_n (by omega) (by decide), nI_clamp (by omega), h5 i hi w hw6]
theorem get7_c {σ : sg_T} {o : Nat} {a : pa_T} {m : Nat} {d ru : Int32} (h : PC σ o a m d ru) {i : Nat} (hi : i < m) : f_X1_get o 7 (nI i) σ = some (a i 0) := by
  obtain ⟨h1, h2, h3, h4, h5, h6, h7⟩ := h
  have hpl : f_X1_hasPlace o 7 (nI i) σ = some 1 := by
    unfold f_X1_hasPlace
    rw [if_neg (by decide), if_neg (by decide), has_in h2 h1 hi, bd1_s, cz_1]
  have hin : f_X1_placeIn 7 (nI i) σ = some (nI i) := by
    unfold f_X1_placeIn; rw [if_neg (by decide)]
  have hrow : f_X1_rowOf o 7 σ = some (o + 1 + 0) := rfl
  have hlen : plen o (o + 1 + 0) = 5 := by unfold plen; rw [if_neg (by omega)]
  unfold f_X1_get
  rw [if_neg (by decide), hpl, bd1_s, if_neg (by decide), hrow, bd1_s, hin, bd1_s, hlen, ck_n (by omega) (by decide), nI_clamp (by omega), h5 i hi 0 (by decide)]
theorem today_c {σ : sg_T} {o : Nat} {a : pa_T} {m : Nat} {d ru : Int32} (h : PC σ o a m d ru) : f_X1_today o σ = some d := by
  unfold f_X1_today; rw [h.2.2.1]
theorem PC.scr {σ τ : sg_T} {o : Nat} {a : pa_T} {m : Nat} {d ru : Int32} (h : PC σ o a m d ru) (ho : isP o) (he : ∀ q, q ≠ 8 → q ≠ 9 → τ q = σ q) : PC τ o a m d ru :=
  h.eq (fun p h1 h2 => he p (by rcases ho with rfl | rfl | rfl <;> omega) (by rcases ho with rfl | rfl | rfl <;> omega))
/-- what a class-side lemma says: it answers v and touches nothing but two scratch rows -/
def sc (o : Option (Int32 × sg_T)) (σ : sg_T) (v : Int32) : Prop := ∃ σ', o = some (v, σ') ∧ ∀ q, q ≠ 8 → q ≠ 9 → σ' q = σ q
def sm (o : Option (Int32 × sg_T)) (σ : sg_T) (v : Int32) : Prop := ∃ σ', o = some (v, σ') ∧ ∀ q, q ≠ 79 → σ' q = σ q
section Kinds
variable {σ : sg_T} {o : Nat} {a : pa_T} {m : Nat} {d : Int32} {ru : Nat} {T : tx_T} {n : Nat}
theorem hour_c (h : PC σ o a m d (nI ru)) (ho : isP o) (hT : TC σ T n) (hO : TOk T n) (hru : ru < n) {i j : Nat} (hi : i < m) (hj : j < m) : sc (f_X3_hourSet o (nI i) (nI j) σ) σ (sHo T ru a d i j) := by
  obtain ⟨σ1, h1, h2⟩ := tell_c (p := 0) h ho hT hO hru (by decide) hi hj
  have hP := h.scr ho h2
  refine ⟨σ1, ?_, h2⟩
  have h1' : f_X3_tell 0 o (nI i) (nI j) σ = some (bnt 0 (tv T ru 0 a d i j), σ1) := h1
  have g1 : f_X1_get o 1 (nI i) σ1 = some (a i 1) := get_c (w := 1) hP (by decide) (by decide) hi
  have g2 : f_X1_get o 2 (nI j) σ1 = some (a j 2) := get_c (w := 2) hP (by decide) (by decide) hj
  unfold f_X3_hourSet sHo
  simp only [h1', bd2_s, get7_c hP hi, bd1_s, bnd_s, bound_c, g1, g2, today_c hP]
  repeat' split
  all_goals rfl
theorem tire_c (h : PC σ o a m d (nI ru)) (ho : isP o) (hT : TC σ T n) (hO : TOk T n) (hru : ru < n) {i : Nat} (hi : i < m) (hh : Int32) : sc (f_X3_tiredBy o (nI i) hh σ) σ (sTi T ru a d i hh) := by
  obtain ⟨σ1, h1, h2⟩ := tell_c (p := 1) h ho hT hO hru (by decide) hi hi
  have hP := h.scr ho h2
  refine ⟨σ1, ?_, h2⟩
  have h1' : f_X3_tell 1 o (nI i) (nI i) σ = some (bnt 1 (tv T ru 1 a d i i), σ1) := h1
  have g1 : f_X1_get o 1 (nI i) σ1 = some (a i 1) := get_c (w := 1) hP (by decide) (by decide) hi
  have g3 : f_X1_get o 3 (nI i) σ1 = some (a i 3) := get_c (w := 3) hP (by decide) (by decide) hi
  unfold f_X3_tiredBy sTi
  simp only [h1', bd2_s, get7_c hP hi, bd1_s, bnd_s, bound_c, g1, g3]
  by_cases h6 : (6 : Int32) ≤ hh
  · simp only [if_pos h6]
    repeat' split
    all_goals rfl
  · simp only [if_neg h6]
    repeat' split
    all_goals rfl
theorem grow_c (h : PC σ o a m d (nI ru)) (ho : isP o) (hT : TC σ T n) (hO : TOk T n) (hru : ru < n) {i j : Nat} (hi : i < m) (hj : j < m) (l : Int32) : sc (f_X3_fonderBy o (nI i) (nI j) l σ) σ (sGr T ru a d i j l) := by
  obtain ⟨σ1, h1, h2⟩ := tell_c (p := 2) h ho hT hO hru (by decide) hi hj
  have hP := h.scr ho h2
  refine ⟨σ1, ?_, h2⟩
  have h1' : f_X3_tell 2 o (nI i) (nI j) σ = some (bnt 2 (tv T ru 2 a d i j), σ1) := h1
  unfold f_X3_fonderBy sGr
  simp only [h1', bd2_s, get7_c hP hi, bd1_s, bnd_s, today_c hP]
  repeat' split
  all_goals first | rfl | simp_all
theorem hour_m (h : PM σ 70 a m d (nI ru)) (hT : TM σ T n) (hO : TOk T n) (hru : ru < n) {i j : Nat} (hi : i < m) (hj : j < m) : sm (f_X8_sets (nI i) (nI j) σ) σ (sHo T ru a d i j) := by
  obtain ⟨σ1, h1, h2⟩ := tell_m (p := 0) h hT hO hru (by decide) hi hj
  have hP : PM σ1 70 a m d (nI ru) := h.eq (h2 70 (by decide))
  refine ⟨σ1, ?_, h2⟩
  have hm := hP.1
  have h1' : f_X8_tell 0 (nI i) (nI j) σ = some (tv T ru 0 a d i j, σ1) := h1
  have g0 : f_X8_of (nI i) 0 σ1 = some (a i 0) := by rw [← hP.2.2.2.2.1 i hi 0 (by decide)]; exact of_m (k := 0) (by omega) (by decide)
  have g1 : f_X8_of (nI i) 1 σ1 = some (a i 1) := by rw [← hP.2.2.2.2.1 i hi 1 (by decide)]; exact of_m (k := 1) (by omega) (by decide)
  have g2 : f_X8_of (nI j) 2 σ1 = some (a j 2) := by rw [← hP.2.2.2.2.1 j hj 2 (by decide)]; exact of_m (k := 2) (by omega) (by decide)
  have gd : σ1 70 (56 : Int32).toNatClampNeg = d := hP.2.2.1
  have k56 : ∀ {β : Type} (r : Option β), ck 56 58 r = r := fun r => ck_n (i := 56) (by decide) (by decide)
  unfold f_X8_sets sHo
  simp only [h1', bd2_s, g0, bd1_s, bnd_s, bound_m, g1, g2, gd, k56]
  repeat' split
  all_goals rfl
theorem grow_m (h : PM σ 70 a m d (nI ru)) (hT : TM σ T n) (hO : TOk T n) (hru : ru < n) {i j : Nat} (hi : i < m) (hj : j < m) (l : Int32) : sm (f_X8_grows (nI i) (nI j) l σ) σ (sGr T ru a d i j l) := by
  obtain ⟨σ1, h1, h2⟩ := tell_m (p := 2) h hT hO hru (by decide) hi hj
  have hP : PM σ1 70 a m d (nI ru) := h.eq (h2 70 (by decide))
  refine ⟨σ1, ?_, h2⟩
  have hm := hP.1
  have h1' : f_X8_tell 2 (nI i) (nI j) σ = some (tv T ru 2 a d i j, σ1) := h1
  have g0 : f_X8_of (nI i) 0 σ1 = some (a i 0) := by rw [← hP.2.2.2.2.1 i hi 0 (by decide)]; exact of_m (k := 0) (by omega) (by decide)
  have gd : σ1 70 (56 : Int32).toNatClampNeg = d := hP.2.2.1
  have k56 : ∀ {β : Type} (r : Option β), ck 56 58 r = r := fun r => ck_n (i := 56) (by decide) (by decide)
  unfold f_X8_grows sGr
  simp only [h1', bd2_s, g0, bd1_s, bnd_s, bound_m, gd, k56, Int32.add_comm 1]
  repeat' split
  all_goals rfl
end Kinds
theorem dbl_n : ∀ k, k < 208 → B99 (2 * B99 (nI k - 99)) = B99 (2 * (nI k - 99)) := by decide +kernel
theorem jmax_toInt (x y : Int32) : (jmax x y).toInt = max x.toInt y.toInt := by
  unfold jmax
  by_cases h : x < y
  · rw [if_pos h]; rw [Int32.lt_iff_toInt_lt] at h; omega
  · rw [if_neg h]; rw [Int32.lt_iff_toInt_lt] at h; omega
theorem jmin_toInt (x y : Int32) : (jmin x y).toInt = min x.toInt y.toInt := by
  unfold jmin
  by_cases h : y < x
  · rw [if_pos h]; rw [Int32.lt_iff_toInt_lt] at h; omega
  · rw [if_neg h]; rw [Int32.lt_iff_toInt_lt] at h; omega
theorem add_toInt {x y : Int32} (h1 : -2147483648 ≤ x.toInt + y.toInt) (h2 : x.toInt + y.toInt < 2147483648) : (x + y).toInt = x.toInt + y.toInt := by
  rw [Int32.toInt_add]
  exact Int.bmod_eq_of_le_mul_two (by omega) (by omega)
theorem sub_toInt {x y : Int32} (h1 : -2147483648 ≤ x.toInt - y.toInt) (h2 : x.toInt - y.toInt < 2147483648) : (x - y).toInt = x.toInt - y.toInt := by
  rw [Int32.toInt_sub]
  exact Int.bmod_eq_of_le_mul_two (by omega) (by omega)
theorem of_rng {x : Int32} (h1 : -99 ≤ x.toInt) (h2 : x.toInt ≤ 108) : ∃ k, k < 208 ∧ x = nI k - 99 := by
  refine ⟨(x.toInt + 99).toNat, by omega, Int32.toInt_inj.mp ?_⟩
  have e99 : (99 : Int32) = nI 99 := rfl
  rw [e99, pk_sub_toInt (by omega) (by decide)]
  omega
theorem dbl {x : Int32} (h1 : -99 ≤ x.toInt) (h2 : x.toInt ≤ 108) : B99 (2 * B99 x) = B99 (2 * x) := by
  obtain ⟨k, hk, rfl⟩ := of_rng h1 h2
  exact dbl_n k hk
theorem bnt_rng (p : Nat) (v : Int32) : -99 ≤ (bnt p v).toInt ∧ (bnt p v).toInt ≤ 99 := by
  unfold bnt
  rw [jmax_toInt, jmin_toInt]
  have e1 : (99 : Int32).toInt = 99 := by decide
  have e2 : (-99 : Int32).toInt = -99 := by decide
  have e3 : (0 : Int32).toInt = 0 := by decide
  by_cases h : p = 0
  · rw [if_pos h, e1, e3]; omega
  · rw [if_neg h, e1, e2]; omega
theorem tire_m {σ : sg_T} {a : pa_T} {m : Nat} {d : Int32} {ru : Nat} {T : tx_T} {n : Nat} (h : PM σ 70 a m d (nI ru)) (hok : OkP a m) (hT : TM σ T n) (hO : TOk T n) (hru : ru < n) {i : Nat} (hi : i < m) (hh : Int32) : sm (f_X8_tires (nI i) hh σ) σ (sTi T ru a d i hh) := by
  obtain ⟨σ1, h1, h2⟩ := tell_m (p := 1) h hT hO hru (by decide) hi hi
  have hP : PM σ1 70 a m d (nI ru) := h.eq (h2 70 (by decide))
  refine ⟨σ1, ?_, h2⟩
  have hm := hP.1
  have h1' : f_X8_tell 1 (nI i) (nI i) σ = some (tv T ru 1 a d i i, σ1) := h1
  have g0 : f_X8_of (nI i) 0 σ1 = some (a i 0) := by rw [← hP.2.2.2.2.1 i hi 0 (by decide)]; exact of_m (k := 0) (by omega) (by decide)
  have g1 : f_X8_of (nI i) 1 σ1 = some (a i 1) := by rw [← hP.2.2.2.2.1 i hi 1 (by decide)]; exact of_m (k := 1) (by omega) (by decide)
  have g3 : f_X8_of (nI i) 3 σ1 = some (a i 3) := by rw [← hP.2.2.2.2.1 i hi 3 (by decide)]; exact of_m (k := 3) (by omega) (by decide)
  have hb := bnt_rng 1 (tv T ru 1 a d i i)
  have hnum : inr (a i 1) 0 9 := (hok i hi).2.1
  have hbe : ∀ x : Int32, jmax (-99) (jmin 99 x) = B99 x := fun _ => rfl
  have hbt : B99 (tv T ru 1 a d i i) = bnt 1 (tv T ru 1 a d i i) := rfl
  unfold f_X8_tires sTi
  simp only [h1', bd2_s, g0, bd1_s, bnd_s, bound_m, g1, g3, hbe, hbt]
  by_cases h6 : (6 : Int32) ≤ hh
  · simp only [if_pos h6, Int32.add_zero, dbl hb.1 (by omega)]
    repeat' split
    all_goals rfl
  · have ha := add_toInt (x := bnt 1 (tv T ru 1 a d i i)) (y := a i 1) (by have := hnum.1; omega) (by have := hnum.2; omega)
    simp only [if_neg h6, dbl (x := bnt 1 (tv T ru 1 a d i i) + a i 1) (by rw [ha]; have := hnum.1; omega) (by rw [ha]; have := hnum.2; omega)]
    repeat' split
    all_goals rfl
