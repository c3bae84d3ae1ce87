/-! The class's reading, level by level, beside the machine. -/
section RdB
variable {C V : Nat → Int32} {K o : Nat}
theorem dok_le {ds : List Int32} {N M : Nat} (h : dok ds N) (hN : N ≤ M) : dok ds M := ⟨h.1, fun e rest he => h.2 e rest (by omega)⟩
theorem dpt_b {c : Int32} (h1 : ¬ -20 < c) (h2 : ¬ (c = -22 ∨ c = -28)) (rest : List Int32) (e : Nat) : dpt (c :: rest) (e + 1 + 1) = dpt rest (e + 1) := by
  show (if -20 < c then _ else if c = -22 ∨ c = -28 then _ else (if 1 < e + 1 + 1 then dpt rest (e + 1 + 1 - 1) else none)) = _
  rw [if_neg h1, if_neg h2, if_pos (by omega)]
  rfl
theorem dpt_u {c : Int32} (h1 : ¬ -20 < c) (h2 : c = -22 ∨ c = -28) (rest : List Int32) (e : Nat) : dpt (c :: rest) (e + 1) = dpt rest (e + 1) := by
  show (if -20 < c then _ else if c = -22 ∨ c = -28 then (if 0 < e + 1 then dpt rest (e + 1) else none) else _) = _
  rw [if_neg h1, if_pos h2, if_pos (by omega)]
theorem dpt_l {c : Int32} (h1 : -20 < c) (rest : List Int32) {e : Nat} (he : e < 36) : dpt (c :: rest) e = dpt rest (e + 1) := by
  show (if -20 < c then (if e < 36 then dpt rest (e + 1) else none) else _) = _
  rw [if_pos h1, if_pos he]
theorem dok_bin {ds ds2 : List Int32} {c : Int32} {N N2 : Nat} (h : dok ds N) (h2 : dok ds2 N2) (hN : N2 + 1 ≤ N) (hv : vcd c) (c1 : ¬ -20 < c) (c2 : ¬ (c = -22 ∨ c = -28)) : dok (ds ++ (ds2 ++ [c])) N := by
  refine ⟨fun x hx => ?_, fun e rest he => ?_⟩
  · rcases List.mem_append.mp hx with hx | hx
    · exact h.1 x hx
    · rcases List.mem_append.mp hx with hx | hx
      · exact h2.1 x hx
      · rw [List.mem_singleton.mp hx]; exact hv
  · rw [List.append_assoc, h.2 e _ he, List.append_assoc, h2.2 (e + 1) _ (by omega)]
    exact dpt_b c1 c2 rest e
theorem dok_un {ds : List Int32} {c : Int32} {N : Nat} (h : dok ds N) (hv : vcd c) (c1 : ¬ -20 < c) (c2 : c = -22 ∨ c = -28) : dok (ds ++ [c]) N := by
  refine ⟨fun x hx => ?_, fun e rest he => ?_⟩
  · rcases List.mem_append.mp hx with hx | hx
    · exact h.1 x hx
    · rw [List.mem_singleton.mp hx]; exact hv
  · rw [List.append_assoc, h.2 e _ he]
    exact dpt_u c1 c2 rest e
theorem dok_leaf {c : Int32} {N : Nat} (hN : 1 ≤ N) (hv : vcd c) (c1 : -20 < c) : dok [c] N := by
  refine ⟨fun x hx => ?_, fun e rest he => ?_⟩
  · rw [List.mem_singleton.mp hx]; exact hv
  · exact dpt_l c1 rest (by omega)
theorem step_c {σ : sg_T} {k : Nat} (h : CF C V K o σ k) (x : Int32) : ∃ τ, f_X5_addStep o x σ = some τ ∧ CF C V K o τ k ∧ FR o σ τ := by
  obtain ⟨τ, e, h1, h2⟩ := add_f h (x ^^^ (-1))
  exact ⟨τ, by unfold f_X5_addStep; rw [e, bd1_s], h1, h2⟩
theorem step_r {σ : sg_T} {k : Nat} {cs : List Int32} (h : CR C V K o σ k cs) (hl : cs.length < 160) {x c : Int32} (hx : x ^^^ (-1) = toC c) : ∃ τ, f_X5_addStep o x σ = some τ ∧ CR C V K o τ k (cs ++ [c]) ∧ FR o σ τ := by
  obtain ⟨τ, e, h1, h2⟩ := add_r h hl hx
  exact ⟨τ, by unfold f_X5_addStep; rw [e, bd1_s], h1, h2⟩
/-- a level with operators from the left: E, and, sum, term -/
theorem lvl_loop {F lv x k : Nat} {cs : List Int32} (hsub : RDs C V K o F (lv + 1)) (hx : x ≤ 5) (hF : 6 * (5 - x) + (6 - (lv + 1)) ≤ F) (hlen : cs.length ≤ k) (body : Int32 × sg_T → Option ((Int32 × sg_T) ⊕ ((Int32 × sg_T) ⊕ (Int32 × sg_T)))) (ops : Int32 → Prop)
    (hno : ∀ w σ j, 0 < w → w < 2 ^ 31 → CF C V K o σ j → ¬ ops (C j) → body (nI w, σ) = some (.inr (.inl (nI w, σ))))
    (hyes : ∀ w σ j, 0 < w → w < 2 ^ 31 → CF C V K o σ j → ops (C j) → body (nI w, σ) = bd2 (g_read F (lv + 1) (nI x) (up σ 1 6 (nI (j + 1)))) (fun r12 σ13 => if r12 = 0 then some (.inr (.inr (0, σ13))) else cT (σ13 1 7) (bd1 (f_X5_addStep ((σ13 1 7).toNatClampNeg) (C j) σ13) (fun σ18 => bnd (nI w + (-1)) (fun v19 => some (.inl (v19, σ18)))))))
    (hop : ∀ t, ops t → btw t ≠ 0 ∧ rk (btw t) = rkl lv ∧ t ^^^ (-1) = toC (btw t) ∧ t ≠ 301 ∧ t ≠ 41 ∧ vcd (btw t) ∧ (¬ -20 < btw t) ∧ ¬ (btw t = 0 ∨ btw t = -22 ∨ btw t = -28))
    (hr4 : rkl lv ≠ 4) (hr0 : 0 < rkl lv) (hrr : rkl lv < rkl (lv + 1)) (hbr : bdl lv < rkl lv) (hrb : rkl lv ≤ bdl (lv + 1)) (h11 : 3 ≤ lv + 1 → 3 < rkl lv) (hlv : lv ≤ 4)
    (hclo : ∀ j cs W, clo C (lv + 1) j cs W → ¬ ops (C j) → clo C lv j cs W) :
    ∀ (e w n kj : Nat) (dsj : List Int32) (σ : sg_T), K ≤ kj + e → e < w → e < n → w < 2 ^ 31 → CR C V K o σ kj (cs ++ dsj) → k < kj → dsj.length ≤ kj - k → dok dsj (nd lv x) → (∀ W, okW C lv x k W → ∃ cs1 W1, Rch C V (kj - k) (true, k, cs, W) (false, kj, cs1, W1) ∧ stl (rkl lv) cs1 W1 = (cs ++ dsj, W) ∧ clo C (lv + 1) kj cs1 W1) → ∃ out, itr body n (nI w, σ) = some out ∧ ((∃ τ k', out = .inr (0, τ) ∧ FR o σ τ ∧ rdF C V K o lv x k cs τ k') ∨ (∃ τ k' w' ds, out = .inl (w', τ) ∧ FR o σ τ ∧ rdT C V K o lv x k cs τ k' ds)) := by
  intro e
  induction e with
  | zero =>
    intro w n kj dsj σ hK hw hn hw31 hCR hkj hl hd hM
    obtain ⟨n', rfl⟩ : ∃ n', n = n' + 1 := ⟨n - 1, by omega⟩
    have hkK := hCR.1.2.2.1
    have hkK' : kj = K := by omega
    have hno' : ¬ ops (C kj) := fun q => (hop _ q).2.2.2.1 (by rw [hkK']; exact hCR.1.2.2.2.2.2.2.2.2.2.1)
    refine ⟨_, itr_r (hno w σ kj hw hw31 hCR.1 hno'), Or.inr ⟨σ, kj, nI w, dsj, rfl, FR.rfl' σ, hCR, hkj, hl, hd, fun W hW => ?_⟩⟩
    obtain ⟨cs1, W1, h1, h2, h3⟩ := hM W hW
    exact ⟨cs1, W1, h1, by rw [h2, stl_lo hr0 _ (by have := hW.1; omega)], hclo _ _ _ h3 hno'⟩
  | succ e ih =>
    intro w n kj dsj σ hK hw hn hw31 hCR hkj hl hd hM
    obtain ⟨n', rfl⟩ : ∃ n', n = n' + 1 := ⟨n - 1, by omega⟩
    by_cases ho : ops (C kj)
    · obtain ⟨o1, o2, o3, o4, o5, o6, o7, o8⟩ := hop _ ho
      have hkK := lt_K hCR.1 o4
      have hK160 := hCR.1.2.2.2.1
      have hCR1 := hCR.go o4
      have lcs : (cs ++ dsj).length ≤ kj := by rw [List.length_append]; omega
      have hmst : ∀ W, okW C lv x k W → Rch C V (kj + 1 - k) (true, k, cs, W) (true, kj + 1, cs ++ dsj, btw (C kj) :: W) ∧ okW C (lv + 1) x (kj + 1) (btw (C kj) :: W) := fun W hW => by
        obtain ⟨cs1, W1, h1, h2, h3⟩ := hM W hW
        have hs : mst C V (false, kj, cs1, W1) = some (.inl (true, kj + 1, cs ++ dsj, btw (C kj) :: W)) := by
          show some (mstA C kj cs1 W1) = _
          unfold mstA
          rw [if_neg o5, if_neg o1, o2, if_neg hr4, h2]
          rfl
        refine ⟨h1.two (Rch.one hs) (by omega), ?_, ?_, fun q _ => ?_⟩
        · show rk (btw (C kj)) ≤ _
          rw [o2]; exact hrb
        · show (if btw (C kj) = 0 ∨ btw (C kj) = -22 ∨ btw (C kj) = -28 then 1 else 0) + opn W = x
          rw [if_neg o8, Nat.zero_add]; exact hW.2.1
        · show 3 < rk (btw (C kj))
          rw [o2]; exact h11 q
      obtain ⟨r, τ, k', e1, f1, hres⟩ := hsub x (kj + 1) (cs ++ dsj) _ hx hCR1 (by omega) hF
      have fgo := FR.go (o := o) σ (nI (kj + 1)) hCR.1.2.2.2.2.2.2.2.1
      have hb := hyes w σ kj (by omega) hw31 hCR.1 ho
      rw [e1, bd2_s] at hb
      rcases hres with ⟨rfl, hCF, hk', hFl⟩ | ⟨rfl, ds2, hCR2, hk', hl2, hd2, hM2⟩
      · rw [if_pos rfl] at hb
        refine ⟨_, itr_r hb, Or.inl ⟨τ, k', rfl, fgo.two f1, hCF, by omega, fun W hW => ?_⟩⟩
        obtain ⟨g1, g2⟩ := hmst W hW
        exact Fl.after g1 (hFl _ g2) (by omega) (by omega)
      · have lcs2 : ((cs ++ dsj) ++ ds2).length < 160 := by
          have h3 := hCR2.1.2.2.1
          rw [List.length_append]; omega
        obtain ⟨τ2, e2, hCR3, f2⟩ := step_r hCR2 lcs2 o3
        have w1 : nI w + (-1) = nI (w - 1) := nI_dec (by omega) hw31
        rw [if_neg (by decide), cT_o hCR2.1, cl_o hCR2.1, e2, bd1_s, bnd_s, w1] at hb
        have eapp : cs ++ dsj ++ ds2 ++ [btw (C kj)] = cs ++ (dsj ++ (ds2 ++ [btw (C kj)])) := by simp only [List.append_assoc]
        rw [eapp] at hCR3
        obtain ⟨out, i1, i2⟩ := ih (w - 1) n' k' (dsj ++ (ds2 ++ [btw (C kj)])) τ2 (by omega) (by omega) (by omega) (by omega) hCR3 (by omega) (by
            simp only [List.length_append, List.length_cons, List.length_nil]; omega) (dok_bin hd hd2 (by unfold nd; omega) o6 o7 (fun q => o8 (Or.inr q))) (fun W hW => by
            obtain ⟨g1, g2⟩ := hmst W hW
            obtain ⟨cs2, W2, h1, h2, h3⟩ := hM2 _ g2
            refine ⟨cs2, W2, g1.two h1 (by omega), ?_, h3⟩
            have hz : 0 < rk (btw (C kj)) ∧ rkl lv ≤ rk (btw (C kj)) := by rw [o2]; exact ⟨hr0, Nat.le_refl _⟩
            have htW := hW.1
            rw [← stl_two (Nat.le_of_lt hrr) W2 cs2, h2, stl_two (Nat.le_of_lt hrr), stl_c, if_pos hz, stl_lo hr0 _ (by omega), eapp])
        refine ⟨out, by rw [itr_l hb]; exact i1, ?_⟩
        rcases i2 with ⟨τ3, k3, j1, j2, j3⟩ | ⟨τ3, k3, w3, ds3, j1, j2, j3⟩
        · exact Or.inl ⟨τ3, k3, j1, ((fgo.two f1).two f2).two j2, j3⟩
        · exact Or.inr ⟨τ3, k3, w3, ds3, j1, ((fgo.two f1).two f2).two j2, j3⟩
    · refine ⟨_, itr_r (hno w σ kj (by omega) hw31 hCR.1 ho), Or.inr ⟨σ, kj, nI w, dsj, rfl, FR.rfl' σ, hCR, hkj, hl, hd, fun W hW => ?_⟩⟩
      obtain ⟨cs1, W1, h1, h2, h3⟩ := hM W hW
      exact ⟨cs1, W1, h1, by rw [h2, stl_lo hr0 _ (by have := hW.1; omega)], hclo _ _ _ h3 ho⟩
theorem lvl {F lv : Nat} (hsub : RDs C V K o F (lv + 1)) (body : Nat → Int32 × sg_T → Option ((Int32 × sg_T) ⊕ ((Int32 × sg_T) ⊕ (Int32 × sg_T)))) (ops : Int32 → Prop)
    (hread : ∀ x σ, g_read (F + 1) lv (nI x) σ = bd2 (g_read F (lv + 1) (nI x) σ) (fun r2 σ3 => if r2 = 0 then some (0, σ3) else bnd (σ3 1 5) (fun v5 => bs (itr (body x) lfu (v5, σ3)) (fun q => some q) (fun q => (fun v22 σ23 => some (1, σ23)) q.1 q.2))))
    (hno : ∀ x w σ j, 0 < w → w < 2 ^ 31 → CF C V K o σ j → ¬ ops (C j) → body x (nI w, σ) = some (.inr (.inl (nI w, σ))))
    (hyes : ∀ x w σ j, 0 < w → w < 2 ^ 31 → CF C V K o σ j → ops (C j) → body x (nI w, σ) = bd2 (g_read F (lv + 1) (nI x) (up σ 1 6 (nI (j + 1)))) (fun r12 σ13 => if r12 = 0 then some (.inr (.inr (0, σ13))) else cT (σ13 1 7) (bd1 (f_X5_addStep ((σ13 1 7).toNatClampNeg) (C j) σ13) (fun σ18 => bnd (nI w + (-1)) (fun v19 => some (.inl (v19, σ18)))))))
    (hop : ∀ t, ops t → btw t ≠ 0 ∧ rk (btw t) = rkl lv ∧ t ^^^ (-1) = toC (btw t) ∧ t ≠ 301 ∧ t ≠ 41 ∧ vcd (btw t) ∧ (¬ -20 < btw t) ∧ ¬ (btw t = 0 ∨ btw t = -22 ∨ btw t = -28))
    (hr4 : rkl lv ≠ 4) (hr0 : 0 < rkl lv) (hrr : rkl lv < rkl (lv + 1)) (hbr : bdl lv < rkl lv) (hrb : rkl lv ≤ bdl (lv + 1)) (h11 : 3 ≤ lv + 1 → 3 < rkl lv) (hlv : lv ≤ 4) (hlv2 : lv ≠ 2)
    (hclo : ∀ j cs W, clo C (lv + 1) j cs W → ¬ ops (C j) → clo C lv j cs W) : RDs C V K o (F + 1) lv := by
  intro x k cs σ hx hCR hlen hF
  obtain ⟨r, τ, k', e1, f1, hres⟩ := hsub x k cs σ hx hCR hlen (by omega)
  have hr := hread x σ
  rw [e1, bd2_s] at hr
  have hokW : ∀ W, okW C lv x k W → okW C (lv + 1) x k W := fun W hW => ⟨by have := hW.1; omega, hW.2.1, fun q h11 => hW.2.2 (by omega) h11⟩
  rcases hres with ⟨rfl, hCF, hk', hFl⟩ | ⟨rfl, ds, hCR2, hk', hl2, hd2, hM2⟩
  · rw [if_pos rfl] at hr
    exact ⟨0, τ, k', hr, f1, Or.inl ⟨rfl, hCF, hk', fun W hW => hFl W (hokW W hW)⟩⟩
  · have hK160 := hCR2.1.2.2.2.1
    have h15 : τ 1 5 = nI (K + 1) := hCR2.1.1
    obtain ⟨out, i1, i2⟩ := lvl_loop hsub hx (by omega) hlen (body x) ops (hno x) (hyes x) hop hr4 hr0 hrr hbr hrb h11 hlv hclo K (K + 1) lfu k' ds τ (by omega) (by omega) (by show K < 100000; omega) (by omega) hCR2 hk' hl2 (dok_le hd2 (by unfold nd; omega)) (fun W hW => by
      obtain ⟨cs1, W1, h1, h2, h3⟩ := hM2 W (hokW W hW)
      refine ⟨cs1, W1, h1, ?_, h3⟩
      have htW := hW.1
      rw [← stl_two (Nat.le_of_lt hrr) W1 cs1, h2, stl_two (Nat.le_of_lt hrr), stl_lo hr0 _ (by omega)])
    rw [if_neg (by decide), bnd_s, h15, i1] at hr
    rcases i2 with ⟨τ3, k3, j1, j2, j3⟩ | ⟨τ3, k3, w3, ds3, j1, j2, j3⟩
    · rw [j1, bs_r] at hr
      exact ⟨0, τ3, k3, hr, f1.two j2, Or.inl ⟨rfl, j3⟩⟩
    · rw [j1, bs_l] at hr
      exact ⟨1, τ3, k3, hr, f1.two j2, Or.inr ⟨rfl, ds3, j3⟩⟩
theorem wpos {w : Nat} (h : 0 < w) (h31 : w < 2 ^ 31) : ¬ nI w ≤ 0 := nle_of_lt (i := 0) h h31
theorem rd_term {F : Nat} (hsub : RDs C V K o F 5) : RDs C V K o (F + 1) 4 := by
  refine lvl (lv := 4) hsub (fun x q => b_X2_readTerm_15 (g_read F) (nI x) q.1 q.2) (fun t => t = 42) (fun x σ => rfl) ?_ ?_ ?_ (by decide) (by decide) (by decide) (by decide) (by decide) (by decide) (by decide) (by decide) ?_
  · intro x w σ j hw h31 h hn
    show b_X2_readTerm_15 (g_read F) (nI x) (nI w) σ = _
    unfold b_X2_readTerm_15
    rw [if_neg (wpos hw h31), pass_n h hn, bd2_s, if_pos rfl]
  · intro x w σ j hw h31 h hy
    show b_X2_readTerm_15 (g_read F) (nI x) (nI w) σ = _
    unfold b_X2_readTerm_15
    rw [if_neg (wpos hw h31), pass_y h hy, bd2_s, if_neg (by decide), show C j = 42 from hy]
  · intro t ht
    subst ht
    unfold vcd; decide
  · intro j cs W h hn
    exact ⟨fun _ => hn, fun q => absurd q (by decide), fun q => absurd q (by decide), fun q => absurd q (by decide), fun q => absurd q (by decide)⟩
theorem rd_sum {F : Nat} (hsub : RDs C V K o F 4) : RDs C V K o (F + 1) 3 := by
  refine lvl (lv := 3) hsub (fun x q => b_X2_readSum_15 (g_read F) (nI x) q.1 q.2) (fun t => t = 43 ∨ t = 45) (fun x σ => rfl) ?_ ?_ ?_ (by decide) (by decide) (by decide) (by decide) (by decide) (by decide) (by decide) (by decide) ?_
  · intro x w σ j hw h31 h hn
    show b_X2_readSum_15 (g_read F) (nI x) (nI w) σ = _
    unfold b_X2_readSum_15
    rw [if_neg (wpos hw h31), now_k h, bd1_s, if_neg (fun q => hn (Or.inl q)), bd1_s, if_neg (fun q => hn (Or.inr q))]
  · intro x w σ j hw h31 h hy
    show b_X2_readSum_15 (g_read F) (nI x) (nI w) σ = _
    unfold b_X2_readSum_15
    by_cases h43 : C j = 43
    · rw [if_neg (wpos hw h31), now_k h, bd1_s, if_pos h43, bd1_s, bnd_s, h.2.1, nI_1]
    · rw [if_neg (wpos hw h31), now_k h, bd1_s, if_neg h43, bd1_s, if_pos (hy.resolve_left h43), bd1_s, bnd_s, h.2.1, nI_1]
  · intro t ht
    rcases ht with rfl | rfl <;> (unfold vcd; decide)
  · intro j cs W h hn
    exact ⟨fun _ => h.1 (by decide), fun _ => ⟨fun q => hn (Or.inl q), fun q => hn (Or.inr q)⟩, fun q => absurd q (by decide), fun q => absurd q (by decide), fun q => absurd q (by decide)⟩
theorem rd_and {F : Nat} (hsub : RDs C V K o F 2) : RDs C V K o (F + 1) 1 := by
  refine lvl (lv := 1) hsub (fun x q => b_X2_readAnd_15 (g_read F) (nI x) q.1 q.2) (fun t => t = 10) (fun x σ => rfl) ?_ ?_ ?_ (by decide) (by decide) (by decide) (by decide) (by decide) (by decide) (by decide) (by decide) ?_
  · intro x w σ j hw h31 h hn
    show b_X2_readAnd_15 (g_read F) (nI x) (nI w) σ = _
    unfold b_X2_readAnd_15
    rw [if_neg (wpos hw h31), pass_n h hn, bd2_s, if_pos rfl]
  · intro x w σ j hw h31 h hy
    show b_X2_readAnd_15 (g_read F) (nI x) (nI w) σ = _
    unfold b_X2_readAnd_15
    rw [if_neg (wpos hw h31), pass_y h hy, bd2_s, if_neg (by decide), show C j = 10 from hy]
  · intro t ht
    subst ht
    unfold vcd; decide
  · intro j cs W h hn
    exact ⟨fun _ => h.1 (by decide), fun _ => h.2.1 (by decide), fun _ => h.2.2.1 (by decide), fun _ => hn, fun q => absurd q (by decide)⟩
theorem rd_e {F : Nat} (hsub : RDs C V K o F 1) : RDs C V K o (F + 1) 0 := by
  refine lvl (lv := 0) hsub (fun x q => b_X2_readE_15 (g_read F) (nI x) q.1 q.2) (fun t => t = 9) (fun x σ => rfl) ?_ ?_ ?_ (by decide) (by decide) (by decide) (by decide) (by decide) (by decide) (by decide) (by decide) ?_
  · intro x w σ j hw h31 h hn
    show b_X2_readE_15 (g_read F) (nI x) (nI w) σ = _
    unfold b_X2_readE_15
    rw [if_neg (wpos hw h31), pass_n h hn, bd2_s, if_pos rfl]
  · intro x w σ j hw h31 h hy
    show b_X2_readE_15 (g_read F) (nI x) (nI w) σ = _
    unfold b_X2_readE_15
    rw [if_neg (wpos hw h31), pass_y h hy, bd2_s, if_neg (by decide), show C j = 9 from hy]
  · intro t ht
    subst ht
    unfold vcd; decide
  · intro j cs W h hn
    exact ⟨fun _ => h.1 (by decide), fun _ => h.2.1 (by decide), fun _ => h.2.2.1 (by decide), fun _ => h.2.2.2.1 (by decide), fun _ => hn⟩
end RdB
