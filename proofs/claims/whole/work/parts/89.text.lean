/-! text: a whole one, by both. -/
/-- a text is at fault at k' -/
def TFt (C V : Nat → Int32) (k' : Nat) : Prop := PFt C V 0 0 [] k' ∨ (∃ k1 d0, POk C V 0 0 [] k1 d0 ∧ (PFt C V 1 k1 d0 k' ∨ ∃ k2 d1, POk C V 1 k1 d0 k2 d1 ∧ (PFt C V 2 k2 (d0 ++ d1) k' ∨ ∃ k3 d2, POk C V 2 k2 (d0 ++ d1) k3 d2 ∧ C k3 ≠ 301 ∧ k' = k3)))
def TOt (C V : Nat → Int32) (d0 d1 d2 : List Int32) : Prop := ∃ k1 k2 k3, POk C V 0 0 [] k1 d0 ∧ POk C V 1 k1 d0 k2 d1 ∧ POk C V 2 k2 (d0 ++ d1) k3 d2 ∧ C k3 = 301
theorem POk.len {C V : Nat → Int32} {w k k2 : Nat} {cs ds : List Int32} (h : POk C V w k cs k2 ds) : (cs ++ ds).length ≤ k2 := by
  obtain ⟨_, _, k', _, _, _, h1, h2, _⟩ := h
  omega
theorem POk.dok {C V : Nat → Int32} {w k k2 : Nat} {cs ds : List Int32} (h : POk C V w k cs k2 ds) : dok ds 31 := by
  obtain ⟨_, _, _, _, _, _, _, _, h2⟩ := h
  exact h2
section TextC
variable {C V : Nat → Int32} {K o : Nat}
theorem fault_c {P : Nat → Nat} {σ : sg_T} {k : Nat} (h : CF C V K o σ k) (h4 : ∀ j, j ≤ K → σ 4 j = nI (P j)) : f_X2_faultPlace σ = some (nI (P k)) := by
  obtain ⟨h1, h2, h3, h5, _⟩ := h
  unfold f_X2_faultPlace
  rw [h1, h2, if_neg (nle_of_lt (by omega) (by omega)), ck_n (by omega) (by decide), nI_clamp (by omega), h4 k h3]
theorem read3 (hV : ∀ j, j ≤ K → C j = 300 → 0 ≤ V j) {P : Nat → Nat} {σ : sg_T} (h : CR C V K o σ 0 []) (h4 : ∀ j, j ≤ K → σ 4 j = nI (P j)) : (∃ τ k', bs (itr (fun q => b_X2_read_20 o q.1 q.2) lfu (0, σ)) (fun q => some q) (fun q => (fun v19 σ20 => bd1 (f_X2_now σ20) (fun r25 => if r25 = 301 then some ((-1), σ20) else bd1 (f_X2_faultPlace σ20) (fun r28 => some (r28, σ20)))) q.1 q.2) = some (nI (P k'), τ) ∧ FP o σ τ ∧ TFt C V k' ∧ k' ≤ K) ∨ (∃ τ d0 d1 d2, bs (itr (fun q => b_X2_read_20 o q.1 q.2) lfu (0, σ)) (fun q => some q) (fun q => (fun v19 σ20 => bd1 (f_X2_now σ20) (fun r25 => if r25 = 301 then some ((-1), σ20) else bd1 (f_X2_faultPlace σ20) (fun r28 => some (r28, σ20)))) q.1 q.2) = some (-1, τ) ∧ FP o σ τ ∧ TOt C V d0 d1 d2 ∧ (d0 ++ d1 ++ d2).length ≤ 160 ∧ (∀ j, j < (d0 ++ d1 ++ d2).length → τ (o + 1) j = toC ((d0 ++ d1 ++ d2).getD j 0)) ∧ τ (o + 2) 0 = nI d0.length ∧ τ (o + 2) 1 = nI (d0 ++ d1).length ∧ τ (o + 2) 2 = nI (d0 ++ d1 ++ d2).length) := by
  have h8 := h.1.2.2.2.2.2.2.2.1
  have hK160 := h.1.2.2.2.1
  have n3 : ∀ w, w < 3 → ¬ (3 : Int32) ≤ nI w := fun w hw => nle_of_lt (m := 3) hw (by decide)
  have fl : ∀ w ρ τ k', w < 3 → f_X2_readPart (nI w) ρ = some (0, τ) → CF C V K o τ k' → (∀ j, j ≤ K → τ 4 j = nI (P j)) → b_X2_read_20 o (nI w) ρ = some (.inr (.inr (nI (P k'), τ))) := fun w ρ τ k' hw e1 e2 e3 => by
    unfold b_X2_read_20
    rw [if_neg (n3 w hw), e1, bd2_s, if_pos rfl, fault_c e2 e3, bd1_s]
  have ok : ∀ w ρ τ, w < 3 → f_X2_readPart (nI w) ρ = some (1, τ) → b_X2_read_20 o (nI w) ρ = some (.inl (nI (w + 1), τ)) := fun w ρ τ hw e1 => by
    unfold b_X2_read_20
    rw [if_neg (n3 w hw), e1, bd2_s, if_neg (by decide), bnd_s, nI_1]
  have r4 : ∀ {ρ τ : sg_T}, FP o ρ τ → (∀ j, j ≤ K → ρ 4 j = nI (P j)) → ∀ j, j ≤ K → τ 4 j = nI (P j) := fun hf g j hj => by rw [hf.1 4 (by decide) (by omega) (by omega) (by omega)]; exact g j hj
  rcases part_rd hV (w := 0) (by decide) h (Nat.le_refl _) with ⟨τ, k', e1, f1, c1, p1⟩ | ⟨σ1, k1, d0, e1, f1, c1, p1, l1, t1⟩
  · left
    refine ⟨τ, k', ?_, f1, Or.inl p1, c1.2.2.1⟩
    have : itr (fun q => b_X2_read_20 o q.1 q.2) lfu (0, σ) = some (.inr (nI (P k'), τ)) := itr_r (f := fun q => b_X2_read_20 o q.1 q.2) (n := 99999) (fl 0 σ τ k' (by decide) e1 c1 (r4 f1 h4))
    rw [this, bs_r]
  · rw [List.nil_append] at c1 l1 t1
    rcases part_rd hV (w := 1) (by decide) c1 l1 with ⟨τ, k', e2, f2, c2, p2⟩ | ⟨σ2, k2, d1, e2, f2, c2, p2, l2, t2⟩
    · left
      refine ⟨τ, k', ?_, f1.two f2, Or.inr ⟨k1, d0, p1, Or.inl p2⟩, c2.2.2.1⟩
      have : itr (fun q => b_X2_read_20 o q.1 q.2) lfu (0, σ) = some (.inr (nI (P k'), τ)) := (itr_l (f := fun q => b_X2_read_20 o q.1 q.2) (n := 99999) (ok 0 σ σ1 (by decide) e1)).trans (itr_r (f := fun q => b_X2_read_20 o q.1 q.2) (n := 99998) (fl 1 σ1 τ k' (by decide) e2 c2 (r4 (f1.two f2) h4)))
      rw [this, bs_r]
    · rcases part_rd hV (w := 2) (by decide) c2 l2 with ⟨τ, k', e3, f3, c3, p3⟩ | ⟨σ3, k3, d2, e3, f3, c3, p3, l3, t3⟩
      · left
        refine ⟨τ, k', ?_, (f1.two f2).two f3, Or.inr ⟨k1, d0, p1, Or.inr ⟨k2, d1, p2, Or.inl p3⟩⟩, c3.2.2.1⟩
        have : itr (fun q => b_X2_read_20 o q.1 q.2) lfu (0, σ) = some (.inr (nI (P k'), τ)) := ((itr_l (f := fun q => b_X2_read_20 o q.1 q.2) (n := 99999) (ok 0 σ σ1 (by decide) e1)).trans (itr_l (f := fun q => b_X2_read_20 o q.1 q.2) (n := 99998) (ok 1 σ1 σ2 (by decide) e2))).trans (itr_r (f := fun q => b_X2_read_20 o q.1 q.2) (n := 99997) (fl 2 σ2 τ k' (by decide) e3 c3 (r4 ((f1.two f2).two f3) h4)))
        rw [this, bs_r]
      · have fa := (f1.two f2).two f3
        have hend : itr (fun q => b_X2_read_20 o q.1 q.2) lfu (0, σ) = some (.inl (nI 3, σ3)) := by
          refine (((itr_l (f := fun q => b_X2_read_20 o q.1 q.2) (n := 99999) (ok 0 σ σ1 (by decide) e1)).trans (itr_l (f := fun q => b_X2_read_20 o q.1 q.2) (n := 99998) (ok 1 σ1 σ2 (by decide) e2))).trans (itr_l (f := fun q => b_X2_read_20 o q.1 q.2) (n := 99997) (ok 2 σ2 σ3 (by decide) e3))).trans (itr_r (f := fun q => b_X2_read_20 o q.1 q.2) (n := 99996) ?_)
          show b_X2_read_20 o (nI 3) σ3 = _
          unfold b_X2_read_20
          rw [if_pos (by decide)]
        rw [hend, bs_l]
        dsimp only
        rw [now_k c3.1, bd1_s]
        by_cases h301 : C k3 = 301
        · right
          rw [if_pos h301]
          refine ⟨σ3, d0, d1, d2, rfl, fa, ⟨k1, k2, k3, p1, p2, p3, h301⟩, ?_, c3.2.2, ?_, ?_, ?_⟩
          · have := c3.1.2.2.1; omega
          · rw [t3 0, if_neg (by decide), t2 0, if_neg (by decide), t1 0, if_pos rfl]
          · rw [t3 1, if_neg (by decide), t2 1, if_pos rfl]
          · rw [t3 2, if_pos rfl]
        · left
          rw [if_neg h301, fault_c c3.1 (r4 fa h4), bd1_s]
          exact ⟨σ3, k3, rfl, fa, Or.inr ⟨k1, d0, p1, Or.inr ⟨k2, d1, p2, Or.inr ⟨k3, d2, p3, h301, rfl⟩⟩⟩, c3.1.2.2.1⟩
end TextC
section TextM
variable {s : Nat → Int32} {l K n : Nat}
theorem text3 (hT : TKF (fun k => Kt s l (Pt s l k)) (fun k => Vt s l (Pt s l k)) K (MTK s l K)) {σ : sg_T} (hTK : MTK s l K σ 0) (hM : MPt n σ []) : (∀ k', TFt (fun k => Kt s l (Pt s l k)) (fun k => Vt s l (Pt s l k)) k' → ∃ τ, bs (itr (fun q => b_X8_isText_6 q.1 q.2) lfu (0, σ)) (fun q => some q) (fun q => (fun v24 σ25 => bnd ((if (σ25 69 9) = 0 then 1 else 0) : Int32) (fun v30 => cz v30 (some (v30, σ25)))) q.1 q.2) = some (0, τ) ∧ MTK s l K τ k' ∧ FQ n σ τ) ∧ (∀ d0 d1 d2, TOt (fun k => Kt s l (Pt s l k)) (fun k => Vt s l (Pt s l k)) d0 d1 d2 → ∃ τ, bs (itr (fun q => b_X8_isText_6 q.1 q.2) lfu (0, σ)) (fun q => some q) (fun q => (fun v24 σ25 => bnd ((if (σ25 69 9) = 0 then 1 else 0) : Int32) (fun v30 => cz v30 (some (v30, σ25)))) q.1 q.2) = some (1, τ) ∧ FQ n σ τ ∧ MPt n τ (d0 ++ d1 ++ d2) ∧ τ 76 (3 * n + 0) = nI d0.length ∧ τ 76 (3 * n + 1) = nI (d0 ++ d1).length ∧ τ 76 (3 * n + 2) = nI (d0 ++ d1 ++ d2).length) := by
  have hsrt : ∀ τ k, MTK s l K τ k → (τ 69 9 = 0 ↔ Kt s l (Pt s l k) = 301) := fun τ k h => by
    obtain ⟨_, _, _, _, h9⟩ := h
    rw [h9, Kt_301]
    rcases srt_v (s := s) (l := l) (Pt s l k) with ⟨g, g2⟩ | ⟨g, g2, _⟩ | ⟨g, g2, _⟩ | ⟨g, g2, _⟩
    · exact ⟨fun _ => g2, fun _ => g⟩
    · rw [g]; exact ⟨fun z => absurd z (by decide), fun z => absurd g2 z⟩
    · rw [g]; exact ⟨fun z => absurd z (by decide), fun z => absurd g2 z⟩
    · rw [g]; exact ⟨fun z => absurd z (by decide), fun z => absurd g2 z⟩
  have fin : ∀ ρ, b_X8_isText_6 (nI 3) ρ = some (.inr (.inl (nI 3, ρ))) := fun ρ => by
    unfold b_X8_isText_6
    rw [if_pos (by decide)]
  obtain ⟨pf0, po0⟩ := part_m hT (w := 0) (by decide) hTK hM (Nat.le_refl _)
  have three : ∀ k1 k2 k3 d0 d1 d2, POk (fun k => Kt s l (Pt s l k)) (fun k => Vt s l (Pt s l k)) 0 0 [] k1 d0 → POk (fun k => Kt s l (Pt s l k)) (fun k => Vt s l (Pt s l k)) 1 k1 d0 k2 d1 → POk (fun k => Kt s l (Pt s l k)) (fun k => Vt s l (Pt s l k)) 2 k2 (d0 ++ d1) k3 d2 → ∃ τ, itr (fun q => b_X8_isText_6 q.1 q.2) lfu (0, σ) = some (.inl (nI 3, τ)) ∧ MTK s l K τ k3 ∧ FQ n σ τ ∧ MPt n τ (d0 ++ d1 ++ d2) ∧ τ 76 (3 * n + 0) = nI d0.length ∧ τ 76 (3 * n + 1) = nI (d0 ++ d1).length ∧ τ 76 (3 * n + 2) = nI (d0 ++ d1 ++ d2).length := by
    intro k1 k2 k3 d0 d1 d2 p0 p1 p2
    obtain ⟨σ1, e1, k1', m1, f1, t1⟩ := po0 k1 d0 p0
    have l1 := p0.len
    rw [List.nil_append] at m1 t1 l1
    obtain ⟨_, po1⟩ := part_m hT (w := 1) (by decide) k1' m1 l1
    obtain ⟨σ2, e2, k2', m2, f2, t2⟩ := po1 k2 d1 p1
    obtain ⟨_, po2⟩ := part_m hT (w := 2) (by decide) k2' m2 p1.len
    obtain ⟨σ3, e3, k3', m3, f3, t3⟩ := po2 k3 d2 p2
    refine ⟨σ3, ?_, k3', (f1.two f2).two f3, m3, ?_, ?_, ?_⟩
    · exact (((itr_l (f := fun q => b_X8_isText_6 q.1 q.2) (n := 99999) (a := (0, σ)) e1).trans (itr_l (f := fun q => b_X8_isText_6 q.1 q.2) (n := 99998) (a := (nI 1, σ1)) e2)).trans (itr_l (f := fun q => b_X8_isText_6 q.1 q.2) (n := 99997) (a := (nI 2, σ2)) e3)).trans (itr_r (f := fun q => b_X8_isText_6 q.1 q.2) (n := 99996) (a := (nI 3, σ3)) (fin σ3))
    · rw [t3 (3 * n + 0), if_neg (by omega), t2 (3 * n + 0), if_neg (by omega), t1 (3 * n + 0), if_pos rfl]
    · rw [t3 (3 * n + 1), if_neg (by omega), t2 (3 * n + 1), if_pos rfl]
    · rw [t3 (3 * n + 2), if_pos rfl]
  refine ⟨fun k' hTF => ?_, fun d0 d1 d2 hTO => ?_⟩
  · rcases hTF with hp | ⟨k1, d0, p0, hp | ⟨k2, d1, p1, hp | ⟨k3, d2, p2, h301, rfl⟩⟩⟩
    · obtain ⟨τ, e1, h1, f1⟩ := pf0 k' hp
      have : itr (fun q => b_X8_isText_6 q.1 q.2) lfu (0, σ) = some (.inr (0, τ)) := itr_r (f := fun q => b_X8_isText_6 q.1 q.2) (n := 99999) e1
      exact ⟨τ, by rw [this, bs_r], h1, f1⟩
    · obtain ⟨σ1, e1, k1', m1, f1, t1⟩ := po0 k1 d0 p0
      have l1 := p0.len
      rw [List.nil_append] at m1 t1 l1
      obtain ⟨pf1, _⟩ := part_m hT (w := 1) (by decide) k1' m1 l1
      obtain ⟨τ, e2, h2, f2⟩ := pf1 k' hp
      have : itr (fun q => b_X8_isText_6 q.1 q.2) lfu (0, σ) = some (.inr (0, τ)) := (itr_l (f := fun q => b_X8_isText_6 q.1 q.2) (n := 99999) (a := (0, σ)) e1).trans (itr_r (f := fun q => b_X8_isText_6 q.1 q.2) (n := 99998) (a := (nI 1, σ1)) e2)
      exact ⟨τ, by rw [this, bs_r], h2, f1.two f2⟩
    · obtain ⟨σ1, e1, k1', m1, f1, t1⟩ := po0 k1 d0 p0
      have l1 := p0.len
      rw [List.nil_append] at m1 t1 l1
      obtain ⟨_, po1⟩ := part_m hT (w := 1) (by decide) k1' m1 l1
      obtain ⟨σ2, e2, k2', m2, f2, t2⟩ := po1 k2 d1 p1
      obtain ⟨pf2, _⟩ := part_m hT (w := 2) (by decide) k2' m2 p1.len
      obtain ⟨τ, e3, h3, f3⟩ := pf2 k' hp
      have : itr (fun q => b_X8_isText_6 q.1 q.2) lfu (0, σ) = some (.inr (0, τ)) := ((itr_l (f := fun q => b_X8_isText_6 q.1 q.2) (n := 99999) (a := (0, σ)) e1).trans (itr_l (f := fun q => b_X8_isText_6 q.1 q.2) (n := 99998) (a := (nI 1, σ1)) e2)).trans (itr_r (f := fun q => b_X8_isText_6 q.1 q.2) (n := 99997) (a := (nI 2, σ2)) e3)
      exact ⟨τ, by rw [this, bs_r], h3, (f1.two f2).two f3⟩
    · obtain ⟨τ, e1, h1, f1, _⟩ := three k1 k2 k' d0 d1 d2 p0 p1 p2
      refine ⟨τ, ?_, h1, f1⟩
      rw [e1, bs_l]
      dsimp only
      rw [if_neg (fun z => h301 ((hsrt τ k' h1).mp z)), bnd_s, cz_0]
  · obtain ⟨k1, k2, k3, p0, p1, p2, h301⟩ := hTO
    obtain ⟨τ, e1, h1, f1, g1, g2, g3, g4⟩ := three k1 k2 k3 d0 d1 d2 p0 p1 p2
    refine ⟨τ, ?_, f1, g1, g2, g3, g4⟩
    rw [e1, bs_l]
    dsimp only
    rw [if_pos ((hsrt τ k3 h1).mpr h301), bnd_s, cz_1]
end TextM
