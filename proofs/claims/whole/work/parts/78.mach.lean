/-! Reading a text: the machine that the model is, on a row of tokens. -/
def rk (c : Int32) : Nat := if c = 0 then 0 else if c = -20 then 1 else if c = -21 then 2 else if c = -22 then 3 else if c = -23 then 4 else if c = -24 then 4 else if c = -27 then 6 else if c = -28 then 7 else 5
def tp : List Int32 → Nat
  | [] => 0
  | c :: _ => rk c
def opn : List Int32 → Nat
  | [] => 0
  | c :: W => (if c = 0 ∨ c = -22 ∨ c = -28 then 1 else 0) + opn W
def stl (r : Nat) : List Int32 → List Int32 → List Int32 × List Int32
  | cs, [] => (cs, [])
  | cs, c :: W => if 0 < rk c ∧ r ≤ rk c then stl r (cs ++ [c]) W else (cs, c :: W)
theorem stl_n (r : Nat) (cs : List Int32) : stl r cs [] = (cs, []) := rfl
theorem stl_c (r : Nat) (cs : List Int32) (c : Int32) (W : List Int32) : stl r cs (c :: W) = if 0 < rk c ∧ r ≤ rk c then stl r (cs ++ [c]) W else (cs, c :: W) := rfl
theorem stl_lo {r : Nat} (h0 : 0 < r) (cs : List Int32) {W : List Int32} (h : tp W < r) : stl r cs W = (cs, W) := by
  rcases W with _ | ⟨c, W⟩
  · rfl
  · have h' : rk c < r := h
    rw [stl_c, if_neg (by omega)]
theorem stl_two {r q : Nat} (hrq : r ≤ q) : ∀ (W cs : List Int32), stl r (stl q cs W).1 (stl q cs W).2 = stl r cs W
  | [], cs => rfl
  | c :: W, cs => by
    rw [stl_c q]
    by_cases h : 0 < rk c ∧ q ≤ rk c
    · rw [if_pos h, stl_two hrq W (cs ++ [c]), stl_c r, if_pos ⟨h.1, by omega⟩]
    · rw [if_neg h]
theorem stl_len {r : Nat} : ∀ (W cs : List Int32), (stl r cs W).1.length + (stl r cs W).2.length = cs.length + W.length
  | [], cs => rfl
  | c :: W, cs => by
    rw [stl_c]
    by_cases h : 0 < rk c ∧ r ≤ rk c
    · rw [if_pos h, stl_len W (cs ++ [c])]
      simp only [List.length_append, List.length_cons, List.length_nil]; omega
    · rw [if_neg h]
/-- what stands between two, as the model writes it; 0: nothing that does -/
def btw (t : Int32) : Int32 := if t = 9 then -20 else if t = 10 then -21 else if t = 60 then -23 else if t = 61 then -24 else if t = 43 then -25 else if t = 45 then -26 else if t = 42 then -27 else 0
abbrev mc_T : Type := Bool × Nat × List Int32 × List Int32
abbrev mr_T : Type := Bool × Nat × List Int32
def mA (k : Nat) (s : List Int32 × List Int32) : mc_T ⊕ mr_T := .inl (false, k, s.1, s.2)
def mB (k : Nat) (s : List Int32 × List Int32) (c : Int32) : mc_T ⊕ mr_T := .inl (true, k, s.1, c :: s.2)
def mF (k : Nat) (cs : List Int32) : mc_T ⊕ mr_T := .inr (false, k, cs)
def mstB (C V : Nat → Int32) (k : Nat) (cs W : List Int32) : mc_T ⊕ mr_T :=
  if 0 ≤ C k ∧ C k < 6 then mA (k + 1) (stl 7 (cs ++ [-10 - C k]) W)
  else if C k = 300 then mA (k + 1) (stl 7 (cs ++ [V k]) W)
  else if C k = 40 then (if opn W = 5 then mF k cs else mB (k + 1) (cs, W) 0)
  else if C k = 45 then (if opn W = 5 then mF k cs else mB (k + 1) (cs, W) (-28))
  else if C k = 11 then (if 3 < tp W then mF k cs else if opn W = 5 then mF k cs else mB (k + 1) (cs, W) (-22))
  else mF k cs
def mstA (C : Nat → Int32) (k : Nat) (cs W : List Int32) : mc_T ⊕ mr_T :=
  if C k = 41 then (if (stl 1 cs W).2 = [] then mF k (stl 1 cs W).1 else mA (k + 1) (stl 7 (stl 1 cs W).1 (stl 1 cs W).2.tail))
  else if btw (C k) = 0 then .inr (decide ((stl 1 cs W).2 = []), k, (stl 1 cs W).1)
  else if rk (btw (C k)) = 4 then (if tp (stl 5 cs W).2 = 4 then mF k (stl 5 cs W).1 else mB (k + 1) (stl 5 cs W) (btw (C k)))
  else mB (k + 1) (stl (rk (btw (C k))) cs W) (btw (C k))
def mst (C V : Nat → Int32) (s : mc_T) : Option (mc_T ⊕ mr_T) := some (if s.1 = true then mstB C V s.2.1 s.2.2.1 s.2.2.2 else mstA C s.2.1 s.2.2.1 s.2.2.2)
def Rch (C V : Nat → Int32) (c : Nat) (s s' : mc_T) : Prop := ∀ n, itr (mst C V) (n + c) s = itr (mst C V) n s'
theorem Rch.two {C V : Nat → Int32} {c e g : Nat} {s s' s'' : mc_T} (h1 : Rch C V c s s') (h2 : Rch C V e s' s'') (hg : g = c + e) : Rch C V g s s'' := fun n => by
  rw [hg, show n + (c + e) = (n + e) + c by omega, h1, h2]
theorem Rch.one {C V : Nat → Int32} {s s' : mc_T} (h : mst C V s = some (.inl s')) : Rch C V 1 s s' := fun n => itr_l h
def Fl (C V : Nat → Int32) (s : mc_T) (k0 k : Nat) : Prop := ∃ s' cs, Rch C V (k - k0) s s' ∧ mst C V s' = some (.inr (false, k, cs))
theorem Fl.after {C V : Nat → Int32} {s s' : mc_T} {k0 k1 k : Nat} (h1 : Rch C V (k1 - k0) s s') (h2 : Fl C V s' k1 k) (h01 : k0 ≤ k1) (h1k : k1 ≤ k) : Fl C V s k0 k := by
  obtain ⟨s'', cs, h3, h4⟩ := h2
  exact ⟨s'', cs, h1.two h3 (by omega), h4⟩
theorem Fl.now {C V : Nat → Int32} {s : mc_T} {k : Nat} {cs : List Int32} (h : mst C V s = some (mF k cs)) : Fl C V s k k :=
  ⟨s, cs, fun n => by rw [Nat.sub_self]; rfl, h⟩
/-! The class at its tokens. -/
section ReadB
variable {C V : Nat → Int32} {K o : Nat}
def CF (C V : Nat → Int32) (K o : Nat) (σ : sg_T) (k : Nat) : Prop := σ 1 5 = nI (K + 1) ∧ σ 1 6 = nI k ∧ k ≤ K ∧ K ≤ 160 ∧ (∀ j, j ≤ K → σ 3 j = C j) ∧ (∀ j, j ≤ K → C j = 300 → σ 5 j = V j) ∧ σ 1 7 = nI o ∧ (o = 10 ∨ o = 13 ∨ o = 16 ∨ o = 19 ∨ o = 22 ∨ o = 25) ∧ (∃ L, L ≤ 160 ∧ σ o 2 = nI L) ∧ C K = 301 ∧ ∀ j, j < K → C j ≠ 301
def CR (C V : Nat → Int32) (K o : Nat) (σ : sg_T) (k : Nat) (cs : List Int32) : Prop := CF C V K o σ k ∧ σ o 2 = nI cs.length ∧ ∀ j, j < cs.length → σ (o + 1) j = toC (cs.getD j 0)
def FR (o : Nat) (σ τ : sg_T) : Prop := (∀ q, q ≠ 1 → q ≠ o → q ≠ o + 1 → τ q = σ q) ∧ ∀ j, j ≠ 6 → τ 1 j = σ 1 j
theorem FR.rfl' (σ : sg_T) : FR o σ σ := ⟨fun _ _ _ _ => rfl, fun _ _ => rfl⟩
theorem FR.two {σ τ ρ : sg_T} (h1 : FR o σ τ) (h2 : FR o τ ρ) : FR o σ ρ := ⟨fun q a b c => by rw [h2.1 q a b c, h1.1 q a b c], fun j hj => by rw [h2.2 j hj, h1.2 j hj]⟩
theorem now_k {σ : sg_T} {k : Nat} (h : CF C V K o σ k) : f_X2_now σ = some (C k) := by
  obtain ⟨h1, h2, h3, h4, h5, _⟩ := h
  unfold f_X2_now
  rw [h1, h2, if_neg (nle_of_lt (by omega) (by omega)), ck_n (by omega) (by decide), nI_clamp (by omega), h5 k h3]
theorem lt_K {σ : sg_T} {k : Nat} (h : CF C V K o σ k) (hc : C k ≠ 301) : k < K := by
  have h3 := h.2.2.1
  by_cases hk : k = K
  · subst hk; exact absurd h.2.2.2.2.2.2.2.2.2.1 hc
  · omega
theorem CF.go {σ : sg_T} {k : Nat} (h : CF C V K o σ k) (hc : C k ≠ 301) : CF C V K o (up σ 1 6 (nI (k + 1))) (k + 1) := by
  have hk := lt_K h hc
  obtain ⟨h1, h2, h3, h4, h5, h6, h7, h8, ⟨L, hL, h9⟩, h10, h11⟩ := h
  refine ⟨?_, up_eq, by omega, h4, fun j hj => ?_, fun j hj hc => ?_, ?_, h8, ⟨L, hL, ?_⟩, h10, h11⟩
  · rw [up_nk (by decide)]; exact h1
  · rw [up_ne (by decide)]; exact h5 j hj
  · rw [up_ne (by decide)]; exact h6 j hj hc
  · rw [up_nk (by decide)]; exact h7
  · rw [up_ne (by omega)]; exact h9
theorem CR.go {σ : sg_T} {k : Nat} {cs : List Int32} (h : CR C V K o σ k cs) (hc : C k ≠ 301) : CR C V K o (up σ 1 6 (nI (k + 1))) (k + 1) cs := by
  have h8 := h.1.2.2.2.2.2.2.2.1
  refine ⟨h.1.go hc, ?_, fun j hj => ?_⟩
  · rw [up_ne (by omega)]; exact h.2.1
  · rw [up_ne (by omega)]; exact h.2.2 j hj
theorem FR.go (σ : sg_T) (x : Int32) (h8 : o = 10 ∨ o = 13 ∨ o = 16 ∨ o = 19 ∨ o = 22 ∨ o = 25) : FR o σ (up σ 1 6 x) := ⟨fun q a _ _ => up_n a, fun j hj => up_nk hj⟩
theorem pass_y {σ : sg_T} {k : Nat} (h : CF C V K o σ k) {x : Int32} (hx : C k = x) : f_X2_pass x σ = some (1, up σ 1 6 (nI (k + 1))) := by
  unfold f_X2_pass
  rw [now_k h, bd1_s, if_pos hx, bnd_s, h.2.1, nI_1]
theorem pass_n {σ : sg_T} {k : Nat} (h : CF C V K o σ k) {x : Int32} (hx : ¬ C k = x) : f_X2_pass x σ = some (0, σ) := by
  unfold f_X2_pass
  rw [now_k h, bd1_s, if_neg hx]
theorem cT_o {σ : sg_T} {k : Nat} (h : CF C V K o σ k) {β : Type} (r : Option β) : cT (σ 1 7) r = r := by
  obtain ⟨_, _, _, _, _, _, h7, h8, _⟩ := h
  unfold cT
  rw [h7]
  rcases h8 with rfl | rfl | rfl | rfl | rfl | rfl <;> rfl
theorem cl_o {σ : sg_T} {k : Nat} (h : CF C V K o σ k) : (σ 1 7).toNatClampNeg = o := by
  obtain ⟨_, _, _, _, _, _, h7, h8, _⟩ := h
  rw [h7, nI_clamp (by omega)]
theorem add_f {σ : sg_T} {k : Nat} (h : CF C V K o σ k) (x : Int32) : ∃ τ, f_X5_addNumber o x σ = some τ ∧ CF C V K o τ k ∧ FR o σ τ := by
  have h' := h
  obtain ⟨h1, h2, h3, h4, h5, h6, h7, h8, ⟨L, hL, h9⟩, h10, h11⟩ := h
  unfold f_X5_addNumber
  by_cases h160 : L = 160
  · rw [h9, if_pos (by rw [h160]; decide)]
    exact ⟨σ, rfl, h', FR.rfl' σ⟩
  · have n160 : ¬ (160 : Int32) ≤ nI L := nle_of_lt (m := 160) (by omega) (by decide)
    rw [h9, if_neg n160, ck_n (by omega) (by decide), nI_clamp (by omega), bnd_s, bnd_s]
    have e9 : up σ (o + 1) L x o 2 = nI L := by rw [up_ne (by omega)]; exact h9
    rw [e9, nI_1]
    refine ⟨_, rfl, ⟨?_, ?_, h3, h4, fun j hj => ?_, fun j hj hc => ?_, ?_, h8, ⟨L + 1, by omega, up_eq⟩, h10, h11⟩, fun q a b c => ?_, fun j hj => ?_⟩
    · rw [up_ne (by omega), up_ne (by omega)]; exact h1
    · rw [up_ne (by omega), up_ne (by omega)]; exact h2
    · rw [up_ne (by omega), up_ne (by omega)]; exact h5 j hj
    · rw [up_ne (by omega), up_ne (by omega)]; exact h6 j hj hc
    · rw [up_ne (by omega), up_ne (by omega)]; exact h7
    · rw [up_n b, up_n c]
    · rw [up_ne (by omega), up_ne (by omega)]
theorem add_r {σ : sg_T} {k : Nat} {cs : List Int32} (h : CR C V K o σ k cs) (hl : cs.length < 160) {x c : Int32} (hx : x = toC c) : ∃ τ, f_X5_addNumber o x σ = some τ ∧ CR C V K o τ k (cs ++ [c]) ∧ FR o σ τ := by
  have h' := h
  obtain ⟨⟨h1, h2, h3, h4, h5, h6, h7, h8, _, h10, h11⟩, h12, h13⟩ := h
  have n160 : ¬ (160 : Int32) ≤ nI cs.length := nle_of_lt (m := 160) hl (by decide)
  have e9 : up σ (o + 1) cs.length x o 2 = nI cs.length := by rw [up_ne (by omega)]; exact h12
  unfold f_X5_addNumber
  rw [h12, if_neg n160, ck_n hl (by decide), nI_clamp (by omega), bnd_s, bnd_s, e9, nI_1]
  have el : (cs ++ [c]).length = cs.length + 1 := by simp
  refine ⟨_, rfl, ⟨⟨?_, ?_, h3, h4, fun j hj => ?_, fun j hj hc => ?_, ?_, h8, ⟨cs.length + 1, by omega, up_eq⟩, h10, h11⟩, by rw [up_eq, el], fun j hj => ?_⟩, fun q a b c => ?_, fun j hj => ?_⟩
  · rw [up_ne (by omega), up_ne (by omega)]; exact h1
  · rw [up_ne (by omega), up_ne (by omega)]; exact h2
  · rw [up_ne (by omega), up_ne (by omega)]; exact h5 j hj
  · rw [up_ne (by omega), up_ne (by omega)]; exact h6 j hj hc
  · rw [up_ne (by omega), up_ne (by omega)]; exact h7
  · rw [up_ne (by omega), up_at]
    rw [el] at hj
    by_cases hjl : j = cs.length
    · rw [if_pos ⟨rfl, hjl⟩, hjl, hx]
      simp
    · rw [if_neg (fun q => hjl q.2), h13 j (by omega)]
      congr 1
      rw [List.getD_eq_getElem?_getD, List.getD_eq_getElem?_getD, List.getElem?_append_left (by omega)]
  · rw [up_n b, up_n c]
  · rw [up_ne (by omega), up_ne (by omega)]
def rkl (lv : Nat) : Nat := if lv = 0 then 1 else if lv = 1 then 2 else if lv = 2 then 3 else if lv = 3 then 5 else if lv = 4 then 6 else 7
def bdl (lv : Nat) : Nat := if lv = 0 then 0 else if lv = 1 then 1 else if lv = 2 then 3 else if lv = 3 then 4 else if lv = 4 then 5 else 7
def clo (C : Nat → Int32) (lv k : Nat) (cs W : List Int32) : Prop := (lv ≤ 4 → C k ≠ 42) ∧ (lv ≤ 3 → C k ≠ 43 ∧ C k ≠ 45) ∧ (lv ≤ 2 → (C k = 60 ∨ C k = 61) → tp (stl 5 cs W).2 = 4) ∧ (lv ≤ 1 → C k ≠ 10) ∧ (lv ≤ 0 → C k ≠ 9)
def okW (C : Nat → Int32) (lv x k : Nat) (W : List Int32) : Prop := tp W ≤ bdl lv ∧ opn W = x ∧ (3 ≤ lv → C k = 11 → 3 < tp W)
def nd (lv x : Nat) : Nat := 1 + 5 * (5 - x) + (5 - lv)
def dok (ds : List Int32) (N : Nat) : Prop := (∀ c ∈ ds, vcd c) ∧ ∀ e rest, e + N ≤ 36 → dpt (ds ++ rest) e = dpt rest (e + 1)
/-- what reading at a level does -/
def rdF (C V : Nat → Int32) (K o lv x k : Nat) (cs : List Int32) (τ : sg_T) (k' : Nat) : Prop := CF C V K o τ k' ∧ k ≤ k' ∧ ∀ W, okW C lv x k W → Fl C V (true, k, cs, W) k k'
def rdT (C V : Nat → Int32) (K o lv x k : Nat) (cs : List Int32) (τ : sg_T) (k' : Nat) (ds : List Int32) : Prop := CR C V K o τ k' (cs ++ ds) ∧ k < k' ∧ ds.length ≤ k' - k ∧ dok ds (nd lv x) ∧ ∀ W, okW C lv x k W → ∃ cs1 W1, Rch C V (k' - k) (true, k, cs, W) (false, k', cs1, W1) ∧ stl (rkl lv) cs1 W1 = stl (rkl lv) (cs ++ ds) W ∧ clo C lv k' cs1 W1
def RDs (C V : Nat → Int32) (K o F lv : Nat) : Prop := ∀ x k cs σ, x ≤ 5 → CR C V K o σ k cs → cs.length ≤ k → 6 * (5 - x) + (6 - lv) ≤ F → ∃ r τ k', g_read F lv (nI x) σ = some (r, τ) ∧ FR o σ τ ∧ ((r = 0 ∧ rdF C V K o lv x k cs τ k') ∨ (r = 1 ∧ ∃ ds, rdT C V K o lv x k cs τ k' ds))
end ReadB
