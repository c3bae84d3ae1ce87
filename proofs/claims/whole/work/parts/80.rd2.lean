section RdC
variable {C V : Nat → Int32} {K o : Nat}
theorem xlt {x : Nat} (h : x < 5) : nI x < 5 := Int32.not_le.mp (nle_of_lt (m := 5) h (by decide))
theorem xge {x : Nat} (h : ¬ x < 5) (h5 : x ≤ 5) : ¬ nI x < 5 := by
  have : x = 5 := by omega
  rw [this]; decide
theorem app3 (a b : List Int32) (c : Int32) : a ++ b ++ [c] = a ++ (b ++ [c]) := by rw [List.append_assoc]
theorem rd_not {F : Nat} (hN : RDs C V K o F 2) (hS : RDs C V K o F 3) : RDs C V K o (F + 1) 2 := by
  intro x k cs σ hx hCR hlen hF
  have hg : g_read (F + 1) 2 (nI x) σ = f_X2_readNot (g_read F) (nI x) σ := rfl
  have h8 := hCR.1.2.2.2.2.2.2.2.1
  have hK160 := hCR.1.2.2.2.1
  unfold f_X2_readNot at hg
  rw [now_k hCR.1, bd1_s] at hg
  by_cases h11 : C k = 11
  · have hne : C k ≠ 301 := by rw [h11]; decide
    rw [if_pos h11] at hg
    by_cases hx5 : x < 5
    · rw [if_pos (xlt hx5), bnd_s, hCR.1.2.1, nI_1, nI_1] at hg
      have hCR1 := hCR.go hne
      have hkK := lt_K hCR.1 hne
      obtain ⟨r, τ, k', e1, f1, hres⟩ := hN (x + 1) (k + 1) cs _ (by omega) hCR1 (by omega) (by omega)
      have fgo := FR.go (o := o) σ (nI (k + 1)) h8
      have hmst : ∀ W, okW C 2 x k W → Rch C V 1 (true, k, cs, W) (true, k + 1, cs, -22 :: W) ∧ okW C 2 (x + 1) (k + 1) (-22 :: W) := fun W hW => by
        have ht : tp W ≤ 3 := hW.1
        have hop := hW.2.1
        refine ⟨Rch.one ?_, (show rk (-22) ≤ 3 by decide), ?_, fun q => absurd q (by decide)⟩
        · show some (mstB C V k cs W) = _
          unfold mstB
          rw [h11, if_neg (by decide), if_neg (by decide), if_neg (by decide), if_neg (by decide), if_pos rfl, if_neg (by omega), if_neg (by omega)]
          rfl
        · show (if (-22 : Int32) = 0 ∨ (-22 : Int32) = -22 ∨ (-22 : Int32) = -28 then 1 else 0) + opn W = x + 1
          rw [if_pos (by decide), hop]; omega
      rw [e1, bd2_s] at hg
      rcases hres with ⟨rfl, hCF, hk', hFl⟩ | ⟨rfl, ds, hCR2, hk', hl2, hd2, hM2⟩
      · obtain ⟨τ2, e2, hCF2, f2⟩ := step_c hCF 11
        rw [cT_o hCF, cl_o hCF, e2, bd1_s, cz_0] at hg
        refine ⟨0, τ2, k', hg, (fgo.two f1).two f2, Or.inl ⟨rfl, hCF2, by omega, fun W hW => ?_⟩⟩
        obtain ⟨g1, g2⟩ := hmst W hW
        exact Fl.after (k1 := k + 1) (by rw [show k + 1 - k = 1 by omega]; exact g1) (hFl _ g2) (by omega) hk'
      · have lcs2 : (cs ++ ds).length < 160 := by
          have h3 := hCR2.1.2.2.1
          rw [List.length_append]; omega
        obtain ⟨τ2, e2, hCR3, f2⟩ := step_r hCR2 lcs2 (x := 11) (c := -22) (by decide)
        rw [cT_o hCR2.1, cl_o hCR2.1, e2, bd1_s, cz_1] at hg
        rw [app3] at hCR3
        refine ⟨1, τ2, k', hg, (fgo.two f1).two f2, Or.inr ⟨rfl, ds ++ [-22], hCR3, by omega, by simp only [List.length_append, List.length_cons, List.length_nil]; omega, dok_un (dok_le hd2 (by unfold nd; omega)) (by unfold vcd; decide) (by decide) (by decide), fun W hW => ?_⟩⟩
        obtain ⟨g1, g2⟩ := hmst W hW
        obtain ⟨cs1, W1, h1, h2, h3⟩ := hM2 _ g2
        refine ⟨cs1, W1, g1.two h1 (by omega), ?_, h3⟩
        rw [h2, stl_c, if_pos (by decide), app3]
    · rw [if_neg (xge hx5 hx)] at hg
      refine ⟨0, σ, k, hg, FR.rfl' σ, Or.inl ⟨rfl, hCR.1, Nat.le_refl _, fun W hW => ?_⟩⟩
      have ht : tp W ≤ 3 := hW.1
      have hop := hW.2.1
      refine Fl.now (cs := cs) ?_
      show some (mstB C V k cs W) = _
      unfold mstB
      rw [h11, if_neg (by decide), if_neg (by decide), if_neg (by decide), if_neg (by decide), if_pos rfl, if_neg (by omega), if_pos (by omega)]
  · rw [if_neg h11] at hg
    obtain ⟨r, τ, k1, e1, f1, hres⟩ := hS x k cs σ hx hCR hlen (by omega)
    have hokW : ∀ W, okW C 2 x k W → okW C 3 x k W := fun W hW => ⟨Nat.le_trans hW.1 (by decide), hW.2.1, fun _ q => absurd q h11⟩
    rw [e1, bd2_s] at hg
    rcases hres with ⟨rfl, hCF, hk', hFl⟩ | ⟨rfl, ds, hCR2, hk', hl2, hd2, hM2⟩
    · rw [if_pos rfl] at hg
      exact ⟨0, τ, k1, hg, f1, Or.inl ⟨rfl, hCF, hk', fun W hW => hFl W (hokW W hW)⟩⟩
    · rw [if_neg (by decide), now_k hCR2.1, bd1_s] at hg
      by_cases hcmp : C k1 = 60 ∨ C k1 = 61
      · have hne : C k1 ≠ 301 := by rcases hcmp with h | h <;> rw [h] <;> decide
        have hbt : btw (C k1) ≠ 0 ∧ rk (btw (C k1)) = 4 ∧ C k1 ^^^ (-1) = toC (btw (C k1)) ∧ C k1 ≠ 41 ∧ vcd (btw (C k1)) ∧ (¬ -20 < btw (C k1)) ∧ ¬ (btw (C k1) = 0 ∨ btw (C k1) = -22 ∨ btw (C k1) = -28) := by
          rcases hcmp with h | h <;> rw [h] <;> (unfold vcd; decide)
        obtain ⟨b1, b2, b3, b4, b5, b6, b7⟩ := hbt
        have hCR3 := hCR2.go hne
        have hkK := lt_K hCR2.1 hne
        have lcs1 : (cs ++ ds).length ≤ k1 := by rw [List.length_append]; omega
        obtain ⟨r, τ2, k2, e2, f2, hres⟩ := hS x (k1 + 1) (cs ++ ds) _ hx hCR3 (by omega) (by omega)
        have fgo := FR.go (o := o) τ (nI (k1 + 1)) h8
        have hmst : ∀ W, okW C 2 x k W → Rch C V (k1 + 1 - k) (true, k, cs, W) (true, k1 + 1, cs ++ ds, btw (C k1) :: W) ∧ okW C 3 x (k1 + 1) (btw (C k1) :: W) := fun W hW => by
          obtain ⟨cs1, W1, h1, h2, h3⟩ := hM2 W (hokW W hW)
          have ht : tp W ≤ 3 := hW.1
          have h2' : stl 5 cs1 W1 = (cs ++ ds, W) := by
            have : stl 5 cs1 W1 = stl 5 (cs ++ ds) W := h2
            rw [this, stl_lo (by decide) _ (by omega)]
          have hs : mst C V (false, k1, cs1, W1) = some (.inl (true, k1 + 1, cs ++ ds, btw (C k1) :: W)) := by
            show some (mstA C k1 cs1 W1) = _
            unfold mstA
            rw [if_neg b4, if_neg b1, if_pos b2, h2', if_neg (show ¬ tp W = 4 by omega)]
            rfl
          refine ⟨h1.two (Rch.one hs) (by omega), ?_, ?_, fun _ _ => ?_⟩
          · show rk (btw (C k1)) ≤ 4
            omega
          · show (if btw (C k1) = 0 ∨ btw (C k1) = -22 ∨ btw (C k1) = -28 then 1 else 0) + opn W = x
            rw [if_neg b7, Nat.zero_add]; exact hW.2.1
          · show 3 < rk (btw (C k1))
            omega
        have hg2 : g_read (F + 1) 2 (nI x) σ = bd2 (g_read F 3 (nI x) (up τ 1 6 (nI (k1 + 1)))) (fun r14 σ15 => cT (σ15 1 7) (bd1 (f_X5_addStep ((σ15 1 7).toNatClampNeg) (C k1) σ15) (fun σ19 => cz r14 (some (r14, σ19))))) := by
          rw [hg]
          by_cases h60 : C k1 = 60
          · rw [if_pos h60, bnd_s, hCR2.1.2.1, nI_1]
          · rw [if_neg h60, if_pos (hcmp.resolve_left h60), bnd_s, hCR2.1.2.1, nI_1]
        rw [e2, bd2_s] at hg2
        rcases hres with ⟨rfl, hCF, hk2, hFl⟩ | ⟨rfl, ds2, hCR4, hk2, hl3, hd3, hM3⟩
        · obtain ⟨τ3, e3, hCF3, f3⟩ := step_c hCF (C k1)
          rw [cT_o hCF, cl_o hCF, e3, bd1_s, cz_0] at hg2
          refine ⟨0, τ3, k2, hg2, ((f1.two fgo).two f2).two f3, Or.inl ⟨rfl, hCF3, by omega, fun W hW => ?_⟩⟩
          obtain ⟨g1, g2⟩ := hmst W hW
          exact Fl.after g1 (hFl _ g2) (by omega) hk2
        · have lcs2 : ((cs ++ ds) ++ ds2).length < 160 := by
            have h3 := hCR4.1.2.2.1
            rw [List.length_append]; omega
          obtain ⟨τ3, e3, hCR5, f3⟩ := step_r hCR4 lcs2 b3
          rw [cT_o hCR4.1, cl_o hCR4.1, e3, bd1_s, cz_1] at hg2
          have eapp : cs ++ ds ++ ds2 ++ [btw (C k1)] = cs ++ (ds ++ (ds2 ++ [btw (C k1)])) := by simp only [List.append_assoc]
          rw [eapp] at hCR5
          refine ⟨1, τ3, k2, hg2, ((f1.two fgo).two f2).two f3, Or.inr ⟨rfl, ds ++ (ds2 ++ [btw (C k1)]), hCR5, by omega, by simp only [List.length_append, List.length_cons, List.length_nil]; omega, dok_bin (dok_le hd2 (by unfold nd; omega)) hd3 (by unfold nd; omega) b5 b6 (fun q => b7 (Or.inr q)), fun W hW => ?_⟩⟩
          obtain ⟨g1, g2⟩ := hmst W hW
          obtain ⟨cs2, W2, h1, h2, h3⟩ := hM3 _ g2
          have h2' : stl 5 cs2 W2 = (cs ++ ds ++ ds2, btw (C k1) :: W) := by
            have : stl 5 cs2 W2 = stl 5 (cs ++ ds ++ ds2) (btw (C k1) :: W) := h2
            rw [this, stl_lo (by decide) _ (show rk (btw (C k1)) < 5 by omega)]
          refine ⟨cs2, W2, g1.two h1 (by omega), ?_, fun _ => h3.1 (by decide), fun _ => h3.2.1 (by decide), fun _ _ => ?_, fun q => absurd q (by decide), fun q => absurd q (by decide)⟩
          · show stl 3 cs2 W2 = stl 3 _ W
            rw [← stl_two (show 3 ≤ 5 by decide) W2 cs2, h2', stl_c, if_pos (by omega), eapp]
          · rw [h2']; exact b2
      · have hg2 : g_read (F + 1) 2 (nI x) σ = some (1, τ) := by
          rw [hg, if_neg (fun q => hcmp (Or.inl q)), if_neg (fun q => hcmp (Or.inr q))]
        refine ⟨1, τ, k1, hg2, f1, Or.inr ⟨rfl, ds, hCR2, hk', hl2, dok_le hd2 (by unfold nd; omega), fun W hW => ?_⟩⟩
        obtain ⟨cs1, W1, h1, h2, h3⟩ := hM2 W (hokW W hW)
        refine ⟨cs1, W1, h1, ?_, fun _ => h3.1 (by decide), fun _ => h3.2.1 (by decide), fun _ q => absurd q hcmp, fun q => absurd q (by decide), fun q => absurd q (by decide)⟩
        show stl 3 cs1 W1 = stl 3 _ W
        have h2' : stl 5 cs1 W1 = stl 5 (cs ++ ds) W := h2
        rw [← stl_two (show 3 ≤ 5 by decide) W1 cs1, h2', stl_two (by decide)]
/-- an E that ends where nothing of it can go on, inside a bracket -/
theorem end_fail {k : Nat} {cs W : List Int32} (hc : clo C 0 k cs W) (h41 : C k ≠ 41) (hn : (stl 1 cs W).2 ≠ []) : ∃ cs', mst C V (false, k, cs, W) = some (mF k cs') := by
  have h42 := hc.1 (by decide)
  obtain ⟨h43, h45⟩ := hc.2.1 (by decide)
  have hcm := hc.2.2.1 (by decide)
  have h10 := hc.2.2.2.1 (by decide)
  have h9 := hc.2.2.2.2 (by decide)
  by_cases hcmp : C k = 60 ∨ C k = 61
  · have ht := hcm hcmp
    have hbt : btw (C k) ≠ 0 ∧ rk (btw (C k)) = 4 := by
      rcases hcmp with h | h <;> rw [h] <;> decide
    refine ⟨(stl 5 cs W).1, ?_⟩
    show some (mstA C k cs W) = _
    unfold mstA
    rw [if_neg h41, if_neg hbt.1, if_pos hbt.2, if_pos ht]
  · have hb : btw (C k) = 0 := by
      unfold btw
      rw [if_neg h9, if_neg h10, if_neg (fun q => hcmp (Or.inl q)), if_neg (fun q => hcmp (Or.inr q)), if_neg h43, if_neg h45, if_neg h42]
    refine ⟨(stl 1 cs W).1, ?_⟩
    show some (mstA C k cs W) = _
    unfold mstA
    rw [if_neg h41, if_pos hb, decide_eq_false hn]
    rfl
theorem name_x : ∀ t, t < 6 → (nI t ^^^ (-1) = toC (-10 - nI t) ∧ vcd (-10 - nI t) ∧ -20 < -10 - nI t ∧ 0 ≤ nI t ∧ nI t < 6) := by
  intro t ht
  rcases (show t = 0 ∨ t = 1 ∨ t = 2 ∨ t = 3 ∨ t = 4 ∨ t = 5 by omega) with rfl | rfl | rfl | rfl | rfl | rfl <;> (unfold vcd; decide)
theorem toC_n {c : Int32} (h : 0 ≤ c) : toC c = c := by
  unfold toC; rw [if_pos h]
theorem leaf {F x k : Nat} {cs : List Int32} {σ τ : sg_T} {c : Int32} (hlen : cs.length ≤ k) (hg : g_read F 5 (nI x) σ = some (1, up τ 1 6 (nI (k + 1)))) (hCR : CR C V K o τ k (cs ++ [c])) (hf : FR o σ τ) (hne : C k ≠ 301) (hv : vcd c) (c1 : -20 < c) (hm : ∀ W, mstB C V k cs W = mA (k + 1) (stl 7 (cs ++ [c]) W)) : ∃ r τ k', g_read F 5 (nI x) σ = some (r, τ) ∧ FR o σ τ ∧ ((r = 0 ∧ rdF C V K o 5 x k cs τ k') ∨ (r = 1 ∧ ∃ ds, rdT C V K o 5 x k cs τ k' ds)) := by
  refine ⟨1, _, k + 1, hg, hf.two (FR.go τ _ hCR.1.2.2.2.2.2.2.2.1), Or.inr ⟨rfl, [c], hCR.go hne, by omega, by simp only [List.length_cons, List.length_nil]; omega, dok_leaf (by unfold nd; omega) hv c1, fun W _ => ?_⟩⟩
  refine ⟨(stl 7 (cs ++ [c]) W).1, (stl 7 (cs ++ [c]) W).2, ?_, ?_, fun q => absurd q (by decide), fun q => absurd q (by decide), fun q => absurd q (by decide), fun q => absurd q (by decide), fun q => absurd q (by decide)⟩
  · rw [show k + 1 - k = 1 by omega]
    refine Rch.one ?_
    show some (mstB C V k cs W) = _
    rw [hm W]
    rfl
  · show stl 7 _ _ = stl 7 _ _
    rw [stl_two (Nat.le_refl _)]
theorem rd_one {F : Nat} (hV : ∀ j, j ≤ K → C j = 300 → 0 ≤ V j) (hE : RDs C V K o F 0) (hO : RDs C V K o F 5) : RDs C V K o (F + 1) 5 := by
  intro x k cs σ hx hCR hlen hF
  have hg : g_read (F + 1) 5 (nI x) σ = f_X2_readOne (g_read F) (nI x) σ := rfl
  have h8 := hCR.1.2.2.2.2.2.2.2.1
  have hK160 := hCR.1.2.2.2.1
  have hkK0 := hCR.1.2.2.1
  unfold f_X2_readOne at hg
  rw [now_k hCR.1, bd1_s] at hg
  by_cases h300 : C k = 300
  · have hne : C k ≠ 301 := by rw [h300]; decide
    have hkK := lt_K hCR.1 hne
    have hv0 := hV k hkK0 h300
    obtain ⟨τ, e1, hCR1, f1⟩ := add_r hCR (by omega) (x := V k) (c := V k) (by rw [toC_n hv0])
    have h5k : σ 5 k = V k := hCR.1.2.2.2.2.2.1 k hkK0 h300
    rw [if_pos h300, hCR.1.1, hCR.1.2.1, if_neg (nle_of_lt (by omega) (by omega)), cT_o hCR.1, ck_n (by omega) (by decide), cl_o hCR.1, nI_clamp (by omega), h5k, e1, bd1_s, bnd_s, hCR1.1.2.1, nI_1] at hg
    refine leaf hlen hg hCR1 f1 hne (Or.inl hv0) ?_ (fun W => ?_)
    · exact Int32.lt_of_lt_of_le (by decide) hv0
    · unfold mstB
      rw [if_neg (by rw [h300]; decide), if_pos h300]
  · rw [if_neg h300] at hg
    by_cases hnm : 0 ≤ C k ∧ C k < 6
    · have hnt : ∃ t, t < 6 ∧ C k = nI t := by
        have e0 : (0 : Int32).toInt = 0 := by decide
        have e6 : (6 : Int32).toInt = 6 := by decide
        have h1 := hnm.1
        have h2 := hnm.2
        rw [Int32.le_iff_toInt_le] at h1
        rw [Int32.lt_iff_toInt_lt] at h2
        exact ⟨(C k).toInt.toNat, by omega, Int32.toInt_inj.mp (by rw [nI_toInt (by omega)]; omega)⟩
      obtain ⟨t, ht, et⟩ := hnt
      obtain ⟨n1, n2, n3, n4, n5⟩ := name_x t ht
      have hne : C k ≠ 301 := by
        rw [et]
        exact nIne (k := 301) (by omega) (by decide) (by omega)
      have hkK := lt_K hCR.1 hne
      obtain ⟨τ, e1, hCR1, f1⟩ := step_r hCR (by omega) (x := C k) (c := -10 - C k) (by rw [et]; exact n1)
      rw [if_neg (Int32.not_lt.mpr hnm.1), if_neg (Int32.not_le.mpr hnm.2), cT_o hCR.1, cl_o hCR.1, e1, bd1_s, bnd_s, hCR1.1.2.1, nI_1] at hg
      refine leaf hlen hg hCR1 f1 hne (by rw [et]; exact n2) (by rw [et]; exact n3) (fun W => ?_)
      unfold mstB
      rw [if_pos hnm]
    · by_cases h40 : C k = 40
      · have hne : C k ≠ 301 := by rw [h40]; decide
        rw [h40, if_neg (by decide), if_pos (by decide), if_pos rfl] at hg
        by_cases hx5 : x < 5
        · rw [if_pos (xlt hx5), bnd_s, if_pos rfl, hCR.1.2.1, nI_1, nI_1] at hg
          have hCR1 := hCR.go hne
          have hkK := lt_K hCR.1 hne
          obtain ⟨r, τ, k', e1, f1, hres⟩ := hE (x + 1) (k + 1) cs _ (by omega) hCR1 (by omega) (by omega)
          have fgo := FR.go (o := o) σ (nI (k + 1)) h8
          have hmst : ∀ W, okW C 5 x k W → Rch C V 1 (true, k, cs, W) (true, k + 1, cs, 0 :: W) ∧ okW C 0 (x + 1) (k + 1) (0 :: W) := fun W hW => by
            have hop := hW.2.1
            refine ⟨Rch.one ?_, (show rk 0 ≤ 0 by decide), ?_, fun q => absurd q (by decide)⟩
            · show some (mstB C V k cs W) = _
              unfold mstB
              rw [if_neg hnm, if_neg h300, if_pos h40, if_neg (by omega)]
              rfl
            · show (if (0 : Int32) = 0 ∨ (0 : Int32) = -22 ∨ (0 : Int32) = -28 then 1 else 0) + opn W = x + 1
              rw [if_pos (by decide), hop]; omega
          rw [e1, bd2_s] at hg
          rcases hres with ⟨rfl, hCF, hk', hFl⟩ | ⟨rfl, ds, hCR2, hk', hl2, hd2, hM2⟩
          · rw [if_pos rfl] at hg
            refine ⟨0, τ, k', hg, fgo.two f1, Or.inl ⟨rfl, hCF, by omega, fun W hW => ?_⟩⟩
            obtain ⟨g1, g2⟩ := hmst W hW
            exact Fl.after (k1 := k + 1) (by rw [show k + 1 - k = 1 by omega]; exact g1) (hFl _ g2) (by omega) hk'
          · rw [if_neg (by decide)] at hg
            have hend : ∀ W, okW C 5 x k W → ∃ cs1 W1, Rch C V (k' - k) (true, k, cs, W) (false, k', cs1, W1) ∧ stl 1 cs1 W1 = (cs ++ ds, 0 :: W) ∧ clo C 0 k' cs1 W1 := fun W hW => by
              obtain ⟨g1, g2⟩ := hmst W hW
              obtain ⟨cs1, W1, h1, h2, h3⟩ := hM2 _ g2
              refine ⟨cs1, W1, g1.two h1 (by omega), ?_, h3⟩
              have h2' : stl 1 cs1 W1 = stl 1 (cs ++ ds) (0 :: W) := h2
              rw [h2', stl_lo (by decide) _ (show rk 0 < 1 by decide)]
            by_cases h41 : C k' = 41
            · have hne' : C k' ≠ 301 := by rw [h41]; decide
              rw [pass_y hCR2.1 h41, bd2_s, if_neg (by decide), bnd_s, cz_1] at hg
              have hCR3 := hCR2.go hne'
              refine ⟨1, _, k' + 1, hg, (fgo.two f1).two (FR.go τ _ h8), Or.inr ⟨rfl, ds, hCR3, by omega, by omega, dok_le hd2 (by unfold nd; omega), fun W hW => ?_⟩⟩
              obtain ⟨cs1, W1, h1, h2, h3⟩ := hend W hW
              have hs : mst C V (false, k', cs1, W1) = some (.inl (false, k' + 1, (stl 7 (cs ++ ds) W).1, (stl 7 (cs ++ ds) W).2)) := by
                show some (mstA C k' cs1 W1) = _
                unfold mstA
                rw [if_pos h41, h2, if_neg (by simp)]
                rfl
              refine ⟨_, _, h1.two (Rch.one hs) (by omega), ?_, fun q => absurd q (by decide), fun q => absurd q (by decide), fun q => absurd q (by decide), fun q => absurd q (by decide), fun q => absurd q (by decide)⟩
              show stl 7 _ _ = stl 7 _ _
              rw [stl_two (Nat.le_refl _)]
            · rw [pass_n hCR2.1 h41, bd2_s, if_pos rfl, bnd_s, cz_0] at hg
              refine ⟨0, τ, k', hg, fgo.two f1, Or.inl ⟨rfl, hCR2.1, by omega, fun W hW => ?_⟩⟩
              obtain ⟨cs1, W1, h1, h2, h3⟩ := hend W hW
              obtain ⟨cs', hs⟩ := end_fail (V := V) h3 h41 (by rw [h2]; simp)
              exact Fl.after h1 (Fl.now hs) (by omega) (Nat.le_refl _)
        · rw [if_neg (xge hx5 hx)] at hg
          refine ⟨0, σ, k, hg, FR.rfl' σ, Or.inl ⟨rfl, hCR.1, Nat.le_refl _, fun W hW => ?_⟩⟩
          have hop := hW.2.1
          refine Fl.now (cs := cs) ?_
          show some (mstB C V k cs W) = _
          unfold mstB
          rw [if_neg hnm, if_neg h300, if_pos h40, if_pos (by omega)]
      · by_cases h45 : C k = 45
        · have hne : C k ≠ 301 := by rw [h45]; decide
          rw [h45, if_neg (by decide), if_pos (by decide), if_neg (by decide), if_pos rfl] at hg
          by_cases hx5 : x < 5
          · rw [if_pos (xlt hx5), bnd_s, if_neg (show ¬ (45 : Int32) = 40 by decide), hCR.1.2.1, nI_1, nI_1] at hg
            have hCR1 := hCR.go hne
            have hkK := lt_K hCR.1 hne
            obtain ⟨r, τ, k', e1, f1, hres⟩ := hO (x + 1) (k + 1) cs _ (by omega) hCR1 (by omega) (by omega)
            have fgo := FR.go (o := o) σ (nI (k + 1)) h8
            have hmst : ∀ W, okW C 5 x k W → Rch C V 1 (true, k, cs, W) (true, k + 1, cs, -28 :: W) ∧ okW C 5 (x + 1) (k + 1) (-28 :: W) := fun W hW => by
              have hop := hW.2.1
              refine ⟨Rch.one ?_, (show rk (-28) ≤ 7 by decide), ?_, fun _ _ => (show 3 < rk (-28) by decide)⟩
              · show some (mstB C V k cs W) = _
                unfold mstB
                rw [if_neg hnm, if_neg h300, if_neg h40, if_pos h45, if_neg (by omega)]
                rfl
              · show (if (-28 : Int32) = 0 ∨ (-28 : Int32) = -22 ∨ (-28 : Int32) = -28 then 1 else 0) + opn W = x + 1
                rw [if_pos (by decide), hop]; omega
            rw [e1, bd2_s] at hg
            rcases hres with ⟨rfl, hCF, hk', hFl⟩ | ⟨rfl, ds, hCR2, hk', hl2, hd2, hM2⟩
            · obtain ⟨τ2, e2, hCF2, f2⟩ := step_c hCF 20
              rw [cT_o hCF, cl_o hCF, e2, bd1_s, cz_0] at hg
              refine ⟨0, τ2, k', hg, (fgo.two f1).two f2, Or.inl ⟨rfl, hCF2, by omega, fun W hW => ?_⟩⟩
              obtain ⟨g1, g2⟩ := hmst W hW
              exact Fl.after (k1 := k + 1) (by rw [show k + 1 - k = 1 by omega]; exact g1) (hFl _ g2) (by omega) hk'
            · have lcs2 : (cs ++ ds).length < 160 := by
                have h3 := hCR2.1.2.2.1
                rw [List.length_append]; omega
              obtain ⟨τ2, e2, hCR3, f2⟩ := step_r hCR2 lcs2 (x := 20) (c := -28) (by decide)
              rw [cT_o hCR2.1, cl_o hCR2.1, e2, bd1_s, cz_1] at hg
              rw [app3] at hCR3
              refine ⟨1, τ2, k', hg, (fgo.two f1).two f2, Or.inr ⟨rfl, ds ++ [-28], hCR3, by omega, by simp only [List.length_append, List.length_cons, List.length_nil]; omega, dok_un (dok_le hd2 (by unfold nd; omega)) (by unfold vcd; decide) (by decide) (by decide), fun W hW => ?_⟩⟩
              obtain ⟨g1, g2⟩ := hmst W hW
              obtain ⟨cs1, W1, h1, h2, h3⟩ := hM2 _ g2
              refine ⟨cs1, W1, g1.two h1 (by omega), ?_, h3⟩
              rw [h2, stl_c, if_pos (by decide), app3]
          · rw [if_neg (xge hx5 hx)] at hg
            refine ⟨0, σ, k, hg, FR.rfl' σ, Or.inl ⟨rfl, hCR.1, Nat.le_refl _, fun W hW => ?_⟩⟩
            have hop := hW.2.1
            refine Fl.now (cs := cs) ?_
            show some (mstB C V k cs W) = _
            unfold mstB
            rw [if_neg hnm, if_neg h300, if_neg h40, if_pos h45, if_pos (by omega)]
        · have hg2 : g_read (F + 1) 5 (nI x) σ = some (0, σ) := by
            rw [hg]
            by_cases hlt : C k < 0
            · rw [if_pos hlt, if_neg h40, if_neg h45]
            · rw [if_neg hlt, if_pos (Int32.not_lt.mp (fun q => hnm ⟨Int32.not_lt.mp hlt, q⟩)), if_neg h40, if_neg h45]
          refine ⟨0, σ, k, hg2, FR.rfl' σ, Or.inl ⟨rfl, hCR.1, Nat.le_refl _, fun W hW => ?_⟩⟩
          refine Fl.now (cs := cs) ?_
          show some (mstB C V k cs W) = _
          unfold mstB
          rw [if_neg hnm, if_neg h300, if_neg h40, if_neg h45]
          by_cases h11 : C k = 11
          · rw [if_pos h11, if_pos (hW.2.2 (by decide) h11)]
          · rw [if_neg h11]
theorem rd_all (hV : ∀ j, j ≤ K → C j = 300 → 0 ≤ V j) : ∀ F, RDs C V K o F 0 ∧ RDs C V K o F 1 ∧ RDs C V K o F 2 ∧ RDs C V K o F 3 ∧ RDs C V K o F 4 ∧ RDs C V K o F 5 := by
  intro F
  induction F with
  | zero =>
    refine ⟨?_, ?_, ?_, ?_, ?_, ?_⟩ <;> (intro x k cs σ _ _ _ h; exfalso; omega)
  | succ F ih =>
    obtain ⟨h0, h1, h2, h3, h4, h5⟩ := ih
    exact ⟨rd_e h1, rd_and h2, rd_not h2 h3, rd_sum h4, rd_term h5, rd_one hV h0 h5⟩
end RdC
