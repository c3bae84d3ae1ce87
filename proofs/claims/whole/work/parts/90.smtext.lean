/-! text: both answer the same, and the worlds stay side by side. -/
def T3 (T : tx_T) (n : Nat) (d0 d1 d2 : List Int32) : tx_T := fun t p => if t = n then (if p = 0 then d0 else if p = 1 then d1 else d2) else T t p
section SmText
variable {T : tx_T} {n : Nat} {d0 d1 d2 : List Int32}
theorem T3_lt {t p : Nat} (h : t < n) : T3 T n d0 d1 d2 t p = T t p := by
  unfold T3; rw [if_neg (by omega)]
theorem cum_lt {t : Nat} (h : t < n) : ∀ p, cum (T3 T n d0 d1 d2) t p = cum T t p
  | 0 => rfl
  | p + 1 => by
    show cum (T3 T n d0 d1 d2) t p + (T3 T n d0 d1 d2 t p).length = cum T t p + (T t p).length
    rw [cum_lt h p, T3_lt h]
theorem T3_n (p : Nat) : T3 T n d0 d1 d2 n p = if p = 0 then d0 else if p = 1 then d1 else d2 := by
  unfold T3; rw [if_pos rfl]
theorem cum_n : cum (T3 T n d0 d1 d2) n 0 = 0 ∧ cum (T3 T n d0 d1 d2) n 1 = d0.length ∧ cum (T3 T n d0 d1 d2) n 2 = (d0 ++ d1).length ∧ cum (T3 T n d0 d1 d2) n 3 = (d0 ++ d1 ++ d2).length := by
  have h1 : cum (T3 T n d0 d1 d2) n 1 = d0.length := by
    show 0 + (T3 T n d0 d1 d2 n 0).length = _
    rw [T3_n, if_pos rfl]; omega
  have h2 : cum (T3 T n d0 d1 d2) n 2 = (d0 ++ d1).length := by
    show cum (T3 T n d0 d1 d2) n 1 + (T3 T n d0 d1 d2 n 1).length = _
    rw [h1, T3_n, if_neg (by decide), if_pos rfl, List.length_append]
  refine ⟨rfl, h1, h2, ?_⟩
  show cum (T3 T n d0 d1 d2) n 2 + (T3 T n d0 d1 d2 n 2).length = _
  rw [h2, T3_n, if_neg (by decide), if_neg (by decide), List.length_append (bs := d2)]
/-- a sign of a part is a sign of the whole -/
theorem sign_at {p k : Nat} (hp : p < 3) (hk : k < (T3 T n d0 d1 d2 n p).length) : cum (T3 T n d0 d1 d2) n p + k < (d0 ++ d1 ++ d2).length ∧ (d0 ++ d1 ++ d2).getD (cum (T3 T n d0 d1 d2) n p + k) 0 = (T3 T n d0 d1 d2 n p).getD k 0 := by
  obtain ⟨c0, c1, c2, c3⟩ := cum_n (T := T) (n := n) (d0 := d0) (d1 := d1) (d2 := d2)
  rw [T3_n] at hk ⊢
  rcases (show p = 0 ∨ p = 1 ∨ p = 2 by omega) with rfl | rfl | rfl
  · rw [if_pos rfl] at hk ⊢
    rw [c0]
    simp only [List.length_append]
    refine ⟨by omega, ?_⟩
    rw [List.getD_eq_getElem?_getD, List.getD_eq_getElem?_getD, List.append_assoc, List.getElem?_append_left (by omega), Nat.zero_add]
  · rw [if_neg (by decide), if_pos rfl] at hk ⊢
    rw [c1]
    simp only [List.length_append]
    refine ⟨by omega, ?_⟩
    rw [List.getD_eq_getElem?_getD, List.getD_eq_getElem?_getD, List.append_assoc, List.getElem?_append_right (by omega), List.getElem?_append_left (by omega)]
    rw [show d0.length + k - d0.length = k by omega]
  · rw [if_neg (by decide), if_neg (by decide)] at hk ⊢
    rw [c2]
    refine ⟨by rw [List.length_append (bs := d2)]; omega, ?_⟩
    rw [List.getD_eq_getElem?_getD, List.getD_eq_getElem?_getD, List.getElem?_append_right (by omega)]
    rw [show (d0 ++ d1).length + k - (d0 ++ d1).length = k by omega]
theorem TC.next {σ τ : sg_T} (h : TC σ T n) (hn : n < 6) (h6 : τ 6 3 = nI (n + 1)) (hr : ∀ q, 10 ≤ q → q < 10 + 3 * n → τ q = σ q) (hc : ∀ j, j < (d0 ++ d1 ++ d2).length → τ (10 + 3 * n + 1) j = toC ((d0 ++ d1 ++ d2).getD j 0)) (e0 : τ (10 + 3 * n + 2) 0 = nI d0.length) (e1 : τ (10 + 3 * n + 2) 1 = nI (d0 ++ d1).length) (e2 : τ (10 + 3 * n + 2) 2 = nI (d0 ++ d1 ++ d2).length) : TC τ (T3 T n d0 d1 d2) (n + 1) := by
  obtain ⟨c0, c1, c2, c3⟩ := cum_n (T := T) (n := n) (d0 := d0) (d1 := d1) (d2 := d2)
  refine ⟨by omega, h6, fun t ht => ?_⟩
  by_cases htn : t = n
  · subst htn
    refine ⟨fun p hp => ?_, fun p hp k hk => ?_⟩
    · rcases (show p = 0 ∨ p = 1 ∨ p = 2 by omega) with rfl | rfl | rfl
      · rw [c1]; exact e0
      · rw [c2]; exact e1
      · rw [c3]; exact e2
    · obtain ⟨g1, g2⟩ := sign_at hp hk
      rw [hc _ g1, g2]
  · have htn' : t < n := by omega
    obtain ⟨g1, g2⟩ := h.2.2 t htn'
    refine ⟨fun p hp => ?_, fun p hp k hk => ?_⟩
    · rw [hr _ (by omega) (by omega), cum_lt htn']; exact g1 p hp
    · rw [T3_lt htn'] at hk ⊢
      rw [hr _ (by omega) (by omega), cum_lt htn']; exact g2 p hp k hk
theorem TM.next {σ τ : sg_T} (h : TM σ T n) (hO : TOk T n) (hn : n < 6) (h13 : τ 69 13 = nI (n + 1)) (hr : ∀ p, p < 160 * n → τ 75 p = σ 75 p) (hr6 : ∀ p, p < 3 * n → τ 76 p = σ 76 p) (hc : ∀ j, j < (d0 ++ d1 ++ d2).length → τ 75 (160 * n + j) = (d0 ++ d1 ++ d2).getD j 0) (e0 : τ 76 (3 * n + 0) = nI d0.length) (e1 : τ 76 (3 * n + 1) = nI (d0 ++ d1).length) (e2 : τ 76 (3 * n + 2) = nI (d0 ++ d1 ++ d2).length) : TM τ (T3 T n d0 d1 d2) (n + 1) := by
  obtain ⟨c0, c1, c2, c3⟩ := cum_n (T := T) (n := n) (d0 := d0) (d1 := d1) (d2 := d2)
  refine ⟨by omega, h13, fun t ht => ?_⟩
  by_cases htn : t = n
  · subst htn
    refine ⟨fun p hp => ?_, fun p hp k hk => ?_⟩
    · rcases (show p = 0 ∨ p = 1 ∨ p = 2 by omega) with rfl | rfl | rfl
      · rw [c1]; exact e0
      · rw [c2]; exact e1
      · rw [c3]; exact e2
    · obtain ⟨g1, g2⟩ := sign_at hp hk
      rw [hc _ g1, g2]
  · have htn' : t < n := by omega
    obtain ⟨g1, g2⟩ := h.2.2 t htn'
    refine ⟨fun p hp => ?_, fun p hp k hk => ?_⟩
    · rw [hr6 _ (by omega), cum_lt htn']; exact g1 p hp
    · rw [T3_lt htn'] at hk ⊢
      have hb : cum T t p + k < 160 := by
        have h3 := (hO t htn').1
        have h4 := cum_le (T := T) (t := t) hp
        have h5 : cum T t (p + 1) = cum T t p + (T t p).length := rfl
        omega
      rw [cum_lt htn', hr _ (by omega)]; exact g2 p hp k hk
theorem TOk.next (h : TOk T n) (hl : (d0 ++ d1 ++ d2).length ≤ 160) (g0 : dok d0 31) (g1 : dok d1 31) (g2 : dok d2 31) : TOk (T3 T n d0 d1 d2) (n + 1) := by
  obtain ⟨c0, c1, c2, c3⟩ := cum_n (T := T) (n := n) (d0 := d0) (d1 := d1) (d2 := d2)
  have one : ∀ ds, dok ds 31 → (∀ c ∈ ds, vcd c) ∧ dpt ds 0 = some 1 := fun ds hd => ⟨hd.1, by
    have := hd.2 0 [] (by decide)
    rw [List.append_nil] at this
    rw [this]; rfl⟩
  intro t ht
  by_cases htn : t = n
  · subst htn
    refine ⟨by rw [c3]; exact hl, fun p hp => ?_⟩
    rw [T3_n]
    rcases (show p = 0 ∨ p = 1 ∨ p = 2 by omega) with rfl | rfl | rfl
    · rw [if_pos rfl]; exact one d0 g0
    · rw [if_neg (by decide), if_pos rfl]; exact one d1 g1
    · rw [if_neg (by decide), if_neg (by decide)]; exact one d2 g2
  · have htn' : t < n := by omega
    obtain ⟨g1, g2⟩ := h t htn'
    refine ⟨by rw [cum_lt htn']; exact g1, fun p hp => ?_⟩
    rw [T3_lt htn']; exact g2 p hp
/-- all but the texts and the tape is as it was -/
theorem WR.text {σ τ : sg_T} {a : pa_T} {m : Nat} {d : Int32} {ru n' : Nat} {T' : tx_T} (h : WR σ a m d ru T n) (hn : n ≤ n') (hC' : TC τ T' n') (hM' : TM τ T' n') (hO' : TOk T' n') (h11 : τ 1 1 = 0) (h66 : τ 69 6 = 0) (h3 : τ 69 3 = σ 69 3) (he : ∀ q, q = 0 ∨ (34 ≤ q ∧ q ≤ 41) ∨ (50 ≤ q ∧ q ≤ 57) ∨ (60 ≤ q ∧ q ≤ 68) ∨ q = 70 ∨ q = 71 ∨ q = 73 ∨ q = 77 ∨ (84 ≤ q ∧ q ≤ 86) ∨ q = 88 → τ q = σ q) : WR τ a m d ru T' n' := by
  obtain ⟨hC, hM, hok, hd, hru, hTC, hTM, hO, hI, hTp, hS, hH⟩ := h
  refine ⟨hC.eq (fun p _ _ => he p (by omega)), hM.eq (he 70 (by omega)), hok, hd, by omega, hC', hM', hO', ?_, ⟨0, Nat.zero_le _, h11, h66, fun i hi => absurd hi (Nat.not_lt_zero _)⟩, fun s hs => ?_, fun k hk => ?_⟩
  · unfold IMG at hI ⊢
    rw [he 0 (by omega), h3]
    rcases hI with hI | ⟨h1, h2, a', m', d', ru', g3, g4, g5, g6, g7⟩
    · exact Or.inl hI
    · exact Or.inr ⟨h1, h2, a', m', d', ru', g3.eq (fun p _ _ => he p (by omega)), g4.eq (he 71 (by omega)), g5, g6, by omega⟩
  · rw [he (61 + 2 * s) (by omega), he 84 (by omega), he 85 (by omega), he 86 (by omega), he (61 + 2 * s + 1) (by omega)]; exact hS s hs
  · rw [he 73 (by omega), he 88 (by omega), he 77 (by omega)]; exact hH k hk
theorem Vt_pos {s : Nat → Int32} {l q : Nat} (hql : q < l) (h : Kt s l q = 300) : 0 ≤ Vt s l q := by
  rcases Kt_c s l q with ⟨_, _, h2⟩ | ⟨_, hL, hD, _⟩ | ⟨_, _, _, h2⟩ | ⟨h2, _⟩
  · exfalso
    rcases h2 with h2 | ⟨w, hw, h2⟩
    · rw [h2] at h; exact absurd h (by decide)
    · rw [h2] at h; exact absurd (nI_inj (j := 300) (by omega) (by decide) h) (by omega)
  · have hK : Kt s l q = if endt s l q - q ≤ 4 then 300 else 302 := by
      unfold Kt; rw [if_pos hql, if_neg hL, if_pos hD]
    have h4 : endt s l q - q ≤ 4 := by
      by_cases h4 : endt s l q - q ≤ 4
      · exact h4
      · rw [hK, if_neg h4] at h; exact absurd h (by decide)
    have ee : endt s l q = rnl (fun j => isD (s j)) l (q + 1) := by unfold endt; rw [if_neg hL, if_pos hD]
    obtain ⟨b1, b2, b3, b4⟩ := rnl_rng (fun j => isD (s j)) (l := l) (p := q + 1) (by omega)
    rw [← ee] at b4
    have hr := nv_rng s (q := q) (endt s l q - q) h4 (fun i hi => by
      by_cases hi0 : i = 0
      · rw [hi0]; exact hD
      · exact b4 (q + i) (by omega) (by omega))
    have e0 : (0 : Int32).toInt = 0 := by decide
    rw [Int32.le_iff_toInt_le, e0]
    exact hr.1
  · exfalso
    rcases h2 with ⟨hg, h2⟩ | ⟨_, h2⟩
    · rw [h2] at h
      rcases isG_v hg with g | g | g | g | g | g | g | g <;> (rw [g] at h; exact absurd h (by decide))
    · rw [h2] at h; exact absurd h (by decide)
  · exact absurd hql h2
end SmText
