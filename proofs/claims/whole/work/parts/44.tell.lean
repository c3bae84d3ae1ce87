/-! What THE RULE tells, by both. -/
abbrev tx_T : Type := Nat → Nat → List Int32
def cum (T : tx_T) (t : Nat) : Nat → Nat
  | 0 => 0
  | p + 1 => cum T t p + (T t p).length
def TC (σ : sg_T) (T : tx_T) (n : Nat) : Prop := n ≤ 6 ∧ σ 6 3 = nI n ∧ ∀ t, t < n → (∀ p, p < 3 → σ (10 + 3 * t + 2) p = nI (cum T t (p + 1))) ∧ ∀ p, p < 3 → ∀ k, k < (T t p).length → σ (10 + 3 * t + 1) (cum T t p + k) = toC ((T t p).getD k 0)
def TM (σ : sg_T) (T : tx_T) (n : Nat) : Prop := n ≤ 6 ∧ σ 69 13 = nI n ∧ ∀ t, t < n → (∀ p, p < 3 → σ 76 (3 * t + p) = nI (cum T t (p + 1))) ∧ ∀ p, p < 3 → ∀ k, k < (T t p).length → σ 75 (160 * t + (cum T t p + k)) = (T t p).getD k 0
def TOk (T : tx_T) (n : Nat) : Prop := ∀ t, t < n → cum T t 3 ≤ 160 ∧ ∀ p, p < 3 → (∀ c ∈ T t p, vcd c) ∧ dpt (T t p) 0 = some 1
theorem cum_le {T : tx_T} {t p : Nat} (hp : p < 3) : cum T t (p + 1) ≤ cum T t 3 := by
  rcases (show p = 0 ∨ p = 1 ∨ p = 2 by omega) with rfl | rfl | rfl
  · show cum T t 1 ≤ cum T t 1 + (T t 1).length + (T t 2).length
    omega
  · show cum T t 2 ≤ cum T t 2 + (T t 2).length
    omega
  · exact Nat.le_refl _
theorem est_congr {nm nm' : Nat → Int32} (h : ∀ k, k < 6 → nm k = nm' k) {c : Int32} (hc : vcd c) (st : List Int32) : est nm c st = est nm' c st := by
  rcases hc with h0 | rfl | rfl | rfl | rfl | rfl | rfl | rfl | rfl | rfl | rfl | rfl | rfl | rfl | rfl | rfl
  · unfold est; rw [if_pos h0, if_pos h0]
  · show nm 0 :: st = nm' 0 :: st
    rw [h 0 (by decide)]
  · show nm 1 :: st = nm' 1 :: st
    rw [h 1 (by decide)]
  · show nm 2 :: st = nm' 2 :: st
    rw [h 2 (by decide)]
  · show nm 3 :: st = nm' 3 :: st
    rw [h 3 (by decide)]
  · show nm 4 :: st = nm' 4 :: st
    rw [h 4 (by decide)]
  · show nm 5 :: st = nm' 5 :: st
    rw [h 5 (by decide)]
  all_goals rfl
theorem evc_congr {nm nm' : Nat → Int32} (h : ∀ k, k < 6 → nm k = nm' k) : ∀ (cs st : List Int32), (∀ c ∈ cs, vcd c) → evc nm cs st = evc nm' cs st
  | [], _, _ => rfl
  | c :: cs, st, hv => by
    show evc nm cs (est nm c st) = evc nm' cs (est nm' c st)
    rw [est_congr h (hv c List.mem_cons_self), evc_congr h cs _ (fun x hx => hv x (List.mem_cons_of_mem _ hx))]
def nmS (a : pa_T) (d : Int32) (i j : Nat) (k : Nat) : Int32 := if k = 0 then (if i = j then 0 else a i (6 + j)) else if k = 1 then a j 2 else if k = 2 then a i 1 else if k = 3 then d else if k = 4 then a i 3 else a j 4
/-- what a part of a text tells of two -/
def tv (T : tx_T) (t p : Nat) (a : pa_T) (d : Int32) (i j : Nat) : Int32 := (evc (nmS a d i j) (T t p) []).getD 0 0
theorem SR_0 {f : Nat → Int32} {st : List Int32} (h : SR f st) (h1 : st.length = 1) : f 0 = st.getD 0 0 := by
  have := h 0 (by omega)
  rw [h1] at this
  exact this
theorem SR_nil (f : Nat → Int32) : SR f [] := fun k hk => by simp at hk
theorem value_c {σ : sg_T} {T : tx_T} {n t p : Nat} (hT : TC σ T n) (hO : TOk T n) (ht : t < n) (hp : p < 3) : ∃ σ', f_X5_value (10 + 3 * t) (nI p) σ = some ((evc (σ 8) (T t p) []).getD 0 0, σ') ∧ ∀ q, q ≠ 9 → σ' q = σ q := by
  obtain ⟨h6, hn, hall⟩ := hT
  obtain ⟨hends, hcode⟩ := hall t ht
  obtain ⟨hsum, hok⟩ := hO t ht
  obtain ⟨hv, hdp⟩ := hok p hp
  have hcl := Nat.le_trans (cum_le (T := T) (t := t) hp) hsum
  have hend : f_X5_end (10 + 3 * t) (nI p) σ = some (nI (cum T t (p + 1))) := by
    unfold f_X5_end
    rw [if_neg (nI_pos (by omega)), n_3, if_neg (nle_of_lt hp (by decide)), ck_n hp (by decide), nI_clamp (by omega), hends p hp]
  have hbeg : f_X5_begin (10 + 3 * t) (nI p) σ = some (nI (cum T t p)) := by
    unfold f_X5_begin
    by_cases h0 : p = 0
    · subst h0
      rw [if_pos (by decide)]; rfl
    · obtain ⟨p', rfl⟩ : ∃ p', p = p' + 1 := ⟨p - 1, by omega⟩
      rw [if_neg (nI_nle (by omega) (by omega)), n_3, if_neg (nle_of_lt hp (by decide)), nI_pred, ck_n (by omega) (by decide), nI_clamp (by omega), hends p' (by omega)]
  obtain ⟨σ1, h1, h2, h3, h4⟩ := val_c (o := 10 + 3 * t) (E := cum T t (p + 1)) (u1 := nI p) (by omega) (by omega) (T t p) [] 1 (cum T t p) lfu σ hv hdp (by simp) (SR_nil _) (hcode p hp) rfl hcl (by
    have : (T t p).length ≤ cum T t (p + 1) := by show _ ≤ cum T t p + (T t p).length; omega
    show (T t p).length < 100000
    omega)
  refine ⟨σ1, ?_, h4⟩
  unfold f_X5_value
  rw [hend, bd1_s, hbeg, bd1_s]
  have h1' : itr (fun q => b_X5_value_17 (10 + 3 * t) (nI p) (nI (cum T t (p + 1))) q.1 q.2.1 q.2.2) lfu (0, nI (cum T t p), σ) = some (nI 1, nI (cum T t (p + 1)), σ1) := h1
  rw [h1', bd3_s, if_neg (by decide), show nI 1 - 1 = nI 0 from rfl, ck_n (by decide) (by decide), nI_clamp (by decide), SR_0 h2 h3]
theorem names_c {σ : sg_T} {o : Nat} {a : pa_T} {m : Nat} {d ru : Int32} (h : PC σ o a m d ru) (ho : isP o) {i j : Nat} (hi : i < m) (hj : j < m) : ∃ σ', f_X1_tellNames o (nI i) (nI j) σ = some σ' ∧ (∀ k, k < 6 → σ' 8 k = nmS a d i j k) ∧ ∀ q, q ≠ 8 → σ' q = σ q := by
  obtain ⟨h1, h2, h3, h4, h5, h6, h7⟩ := h
  have hoN : ∀ k, k < 8 → o + k ≠ 8 := fun k hk => by rcases ho with rfl | rfl | rfl <;> omega
  have e5 : nI i * 5 + nI j = nI (i * 5 + j) := by rw [n_5, pk_mul, nI_add]
  have ef : σ (o + 7) (i * 5 + j) = nmS a d i j 0 := by
    unfold nmS
    rw [if_pos rfl]
    by_cases hij : i = j
    · subst hij; rw [if_pos rfl]; exact h7 i (by omega)
    · rw [if_neg hij]; exact h6 i j hi hj hij
  refine ⟨up (up (up (up (up (up σ 8 0 (nmS a d i j 0)) 8 1 (a j 2)) 8 2 (a i 1)) 8 3 d) 8 4 (a i 3)) 8 5 (a j 4), ?_, ?_, fun q hq => ?_⟩
  · unfold f_X1_tellNames
    rw [has_in h2 h1 hi, bd1_s, if_neg (by decide), has_in h2 h1 hj, bd1_s, if_neg (by decide), if_neg (by decide), e5, ck_n (by omega) (by decide), nI_clamp (by omega), ef]
    have k0 : ∀ {β : Type} (r : Option β), ck 0 6 r = r := fun r => ck_n (i := 0) (by decide) (by decide)
    have k1 : ∀ {β : Type} (r : Option β), ck 1 6 r = r := fun r => ck_n (i := 1) (by decide) (by decide)
    have k2 : ∀ {β : Type} (r : Option β), ck 2 6 r = r := fun r => ck_n (i := 2) (by decide) (by decide)
    have k3 : ∀ {β : Type} (r : Option β), ck 3 6 r = r := fun r => ck_n (i := 3) (by decide) (by decide)
    have k4 : ∀ {β : Type} (r : Option β), ck 4 6 r = r := fun r => ck_n (i := 4) (by decide) (by decide)
    have k5 : ∀ {β : Type} (r : Option β), ck 5 6 r = r := fun r => ck_n (i := 5) (by decide) (by decide)
    have ci : ∀ {β : Type} (r : Option β), ck (nI i) 5 r = r := fun r => ck_n (by omega) (by decide)
    have cj : ∀ {β : Type} (r : Option β), ck (nI j) 5 r = r := fun r => ck_n (by omega) (by decide)
    have t0 : (0 : Int32).toNatClampNeg = 0 := by decide
    have t1 : (1 : Int32).toNatClampNeg = 1 := by decide
    have t2 : (2 : Int32).toNatClampNeg = 2 := by decide
    have t3 : (3 : Int32).toNatClampNeg = 3 := by decide
    have t4 : (4 : Int32).toNatClampNeg = 4 := by decide
    have t5 : (5 : Int32).toNatClampNeg = 5 := by decide
    have g2 : σ (o + 3) j = a j 2 := h5 j hj 2 (by decide)
    have g1 : σ (o + 2) i = a i 1 := h5 i hi 1 (by decide)
    have g3 : σ (o + 4) i = a i 3 := h5 i hi 3 (by decide)
    have g4 : σ (o + 5) j = a j 4 := h5 j hj 4 (by decide)
    simp only [k0, k1, k2, k3, k4, k5, ci, cj, bnd_s, t0, t1, t2, t3, t4, t5, nI_clamp (show i < 2 ^ 31 by omega), nI_clamp (show j < 2 ^ 31 by omega), up_n (hoN 0 (by decide)), up_n (hoN 2 (by decide)), up_n (hoN 3 (by decide)), up_n (hoN 4 (by decide)), up_n (hoN 5 (by decide)), g1, g2, g3, g4]
    have ho8 : ∀ (τ : sg_T) (j : Nat) (x : Int32), up τ 8 j x o = τ o := fun τ j x => up_n (hoN 0 (by decide))
    simp only [ho8, h3]
  · intro k hk
    rcases (show k = 0 ∨ k = 1 ∨ k = 2 ∨ k = 3 ∨ k = 4 ∨ k = 5 by omega) with rfl | rfl | rfl | rfl | rfl | rfl <;> simp [up_at, nmS]
  · simp only [up_n hq]
def bnt (p : Nat) (v : Int32) : Int32 := jmax (if p = 0 then 0 else -99) (jmin 99 v)
theorem tell_c {σ : sg_T} {o : Nat} {a : pa_T} {m : Nat} {d : Int32} {ru : Nat} {T : tx_T} {n : Nat} (h : PC σ o a m d (nI ru)) (ho : isP o) (hT : TC σ T n) (hO : TOk T n) (hru : ru < n) {p i j : Nat} (hp : p < 3) (hi : i < m) (hj : j < m) : ∃ σ', f_X3_tell (nI p) o (nI i) (nI j) σ = some (bnt p (tv T ru p a d i j), σ') ∧ ∀ q, q ≠ 8 → q ≠ 9 → σ' q = σ q := by
  obtain ⟨σ1, e1, e2, e3⟩ := names_c h ho hi hj
  have hn6 := hT.1
  have hT1 : TC σ1 T n := by
    refine ⟨hT.1, by rw [e3 6 (by decide)]; exact hT.2.1, fun t ht => ⟨fun p hp => ?_, fun p hp k hk => ?_⟩⟩
    · rw [e3 _ (by omega)]; exact (hT.2.2 t ht).1 p hp
    · rw [e3 _ (by omega)]; exact (hT.2.2 t ht).2 p hp k hk
  obtain ⟨σ2, g1, g2⟩ := value_c hT1 hO hru hp
  refine ⟨σ2, ?_, fun q h8 h9 => by rw [g2 q h9, e3 q h8]⟩
  have hr : f_X1_rule o σ = some (nI ru) := by
    unfold f_X1_rule; rw [h.2.2.2.1]
  unfold f_X3_tell
  rw [hr, bd1_s, if_neg (nI_pos (by omega)), hT.2.1, if_pos (nI_lt hru (by omega)), e1, bd1_s, ck_n (by omega) (by decide), nI_clamp (by omega), g1, bd2_s, bnd_s]
  have hev : (evc (σ1 8) (T ru p) []).getD 0 0 = tv T ru p a d i j := by
    unfold tv; rw [evc_congr e2 _ _ ((hO ru hru).2 p hp).1]
  rw [hev]
  have hb : (if nI p = 0 then (0 : Int32) else -99) = if p = 0 then 0 else -99 := by
    by_cases h0 : p = 0
    · subst h0; rfl
    · rw [if_neg h0, if_neg (nI_ne0 (by omega) (by omega))]
  rw [hb]
  rfl
theorem tell_m {σ : sg_T} {a : pa_T} {m : Nat} {d : Int32} {ru : Nat} {T : tx_T} {n : Nat} (h : PM σ 70 a m d (nI ru)) (hT : TM σ T n) (hO : TOk T n) (hru : ru < n) {p i j : Nat} (hp : p < 3) (hi : i < m) (hj : j < m) : ∃ σ', f_X8_tell (nI p) (nI i) (nI j) σ = some (tv T ru p a d i j, σ') ∧ ∀ q, q ≠ 79 → σ' q = σ q := by
  obtain ⟨h1, h2, h3, h4, h5, h6⟩ := h
  obtain ⟨hT6, hTn, hall⟩ := hT
  obtain ⟨hends, hcode⟩ := hall ru hru
  obtain ⟨hsum, hok⟩ := hO ru hru
  obtain ⟨hv, hdp⟩ := hok p hp
  have hcl := Nat.le_trans (cum_le (T := T) (t := ru) hp) hsum
  have hfu : (T ru p).length < lfu := by
    have : (T ru p).length ≤ cum T ru (p + 1) := by show _ ≤ cum T ru p + (T ru p).length; omega
    show (T ru p).length < 100000
    omega
  have hnm : ∀ k, k < 6 → nmM (σ 70) i j k = nmS a d i j k := by
    intro k hk
    unfold nmM nmS
    have q1 : i ≠ j → σ 70 (11 * i + (6 + j)) = a i (6 + j) := fun hij => h6 i j hi hj hij
    by_cases hij : i = j
    · simp only [if_pos hij, h5 j hj 2 (by decide), h5 i hi 1 (by decide), h3, h5 i hi 3 (by decide), h5 j hj 4 (by decide)]
    · simp only [if_neg hij, q1 hij, h5 j hj 2 (by decide), h5 i hi 1 (by decide), h3, h5 i hi 3 (by decide), h5 j hj 4 (by decide)]
  have fin : ∀ σ' : sg_T, SR (σ' 79) (evc (nmM (σ 70) i j) (T ru p) []) → (evc (nmM (σ 70) i j) (T ru p) []).length = 1 → σ' 79 0 = tv T ru p a d i j := by
    intro σ' g2 g3
    rw [SR_0 g2 g3]
    unfold tv
    rw [evc_congr hnm _ _ hv]
  have k57 : ∀ {β : Type} (r : Option β), ck 57 58 r = r := fun r => ck_n (i := 57) (by decide) (by decide)
  have k0 : ∀ {β : Type} (r : Option β), ck 0 160 r = r := fun r => ck_n (i := 0) (by decide) (by decide)
  have e57 : σ 70 (57 : Int32).toNatClampNeg = nI ru := h4
  unfold f_X8_tell
  rw [k57, e57, bnd_s]
  by_cases hp0 : p = 0
  · subst hp0
    obtain ⟨σ1, g1, g2, g3, g4⟩ := val_m (u5 := 0) (by omega : ru < 6) hp (by omega : i < 5) (by omega : j < 5) hcl (T ru 0) [] 1 0 lfu σ hv hdp (by simp) (SR_nil _) (hends 0 hp) (fun k hk => hcode 0 hp k hk) (by show 0 + _ = 0 + _; rfl) hfu
    have g1' : itr (fun q => b_X8_tell_39q2 (nI 0) (nI i) (nI j) (nI ru) q.1 q.2.1 q.2.2) lfu (0, 0, σ) = some (nI 1, nI (cum T ru 1), σ1) := g1
    rw [if_pos (show nI 0 = 0 from rfl), g1', bd3_s, k0]
    exact ⟨σ1, by rw [← fin σ1 g2 g3]; rfl, g4⟩
  · obtain ⟨p', rfl⟩ : ∃ p', p = p' + 1 := ⟨p - 1, by omega⟩
    have q1 : (3 : Int32) * nI ru + nI (p' + 1) - 1 = nI (3 * ru + p') := by rw [n_3, pk_mul, nI_add, ← Nat.add_assoc, nI_pred]
    obtain ⟨σ1, g1, g2, g3, g4⟩ := val_m (u5 := nI (cum T ru (p' + 1))) (by omega : ru < 6) hp (by omega : i < 5) (by omega : j < 5) hcl (T ru (p' + 1)) [] 1 (cum T ru (p' + 1)) lfu σ hv hdp (by simp) (SR_nil _) (hends (p' + 1) hp) (fun k hk => hcode (p' + 1) hp k hk) rfl hfu
    rw [if_neg (nI_ne0 (by omega) (by omega)), q1, ck_n (by omega) (by decide), nI_clamp (by omega), hends p' (by omega), bnd_s]
    have g1' : itr (fun q => b_X8_tell_39 (nI (p' + 1)) (nI i) (nI j) (nI ru) (nI (cum T ru (p' + 1))) q.1 q.2.1 q.2.2) lfu (0, nI (cum T ru (p' + 1)), σ) = some (nI 1, nI (cum T ru (p' + 1 + 1)), σ1) := g1
    rw [g1', bd3_s, k0]
    exact ⟨σ1, by rw [← fin σ1 g2 g3]; rfl, g4⟩
