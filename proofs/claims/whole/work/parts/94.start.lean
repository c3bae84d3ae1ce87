/-! The two worlds stand side by side at the start. -/
def zf (sT : sg_T) : sg_T := zq2 1 (up (up (up (up (up (up (up (up (zq1 (upr (zm2 sT) 69 zz)) 75 (0 : Int32).toNatClampNeg 6) 75 (1 : Int32).toNatClampNeg (-10)) 75 (2 : Int32).toNatClampNeg (-25)) 75 (3 : Int32).toNatClampNeg 3) 75 (4 : Int32).toNatClampNeg 0) 76 (0 : Int32).toNatClampNeg 3) 76 (1 : Int32).toNatClampNeg 4) 76 (2 : Int32).toNatClampNeg 5)
theorem zf_77 : ∀ j, j < 72 → zf (fun _ _ => 0) 77 j = nmw.getD j 0 := by decide +kernel
theorem zf_73 : ∀ j, j < 7 → zf (fun _ _ => 0) 73 j = c_hi (nI j) := by decide +kernel
theorem zf_88 : ∀ j, j < 6 → zf (fun _ _ => 0) 88 j = c_un (nI j) := by decide +kernel
theorem zf_e77 (sT : sg_T) : zf sT 77 = zf (fun _ _ => 0) 77 := by
  simp (decide := true) only [zf, zq2, zq1, zm2, ze_X4, ze_X6, ze_X1, ze_X0, up_n, upr_n, up_row, upr_s]
theorem zf_e73 (sT : sg_T) : zf sT 73 = zf (fun _ _ => 0) 73 := by
  simp (decide := true) only [zf, zq2, zq1, zm2, ze_X4, ze_X6, ze_X1, ze_X0, up_n, upr_n, up_row, upr_s]
theorem zf_e88 (sT : sg_T) : zf sT 88 = zf (fun _ _ => 0) 88 := by
  simp (decide := true) only [zf, zq2, zq1, zm2, ze_X4, ze_X6, ze_X1, ze_X0, up_n, upr_n, up_row, upr_s]
theorem zf_z34 (sT : sg_T) : zf sT 34 = zz := by
  simp (decide := true) only [zf, zq2, zq1, zm2, ze_X4, ze_X6, ze_X1, ze_X0, up_n, upr_n, up_row, upr_s]
theorem zf_z35 (sT : sg_T) : zf sT 35 = zz := by
  simp (decide := true) only [zf, zq2, zq1, zm2, ze_X4, ze_X6, ze_X1, ze_X0, up_n, upr_n, up_row, upr_s]
theorem zf_z36 (sT : sg_T) : zf sT 36 = zz := by
  simp (decide := true) only [zf, zq2, zq1, zm2, ze_X4, ze_X6, ze_X1, ze_X0, up_n, upr_n, up_row, upr_s]
theorem zf_z37 (sT : sg_T) : zf sT 37 = zz := by
  simp (decide := true) only [zf, zq2, zq1, zm2, ze_X4, ze_X6, ze_X1, ze_X0, up_n, upr_n, up_row, upr_s]
theorem zf_z38 (sT : sg_T) : zf sT 38 = zz := by
  simp (decide := true) only [zf, zq2, zq1, zm2, ze_X4, ze_X6, ze_X1, ze_X0, up_n, upr_n, up_row, upr_s]
theorem zf_z39 (sT : sg_T) : zf sT 39 = zz := by
  simp (decide := true) only [zf, zq2, zq1, zm2, ze_X4, ze_X6, ze_X1, ze_X0, up_n, upr_n, up_row, upr_s]
theorem zf_z40 (sT : sg_T) : zf sT 40 = zz := by
  simp (decide := true) only [zf, zq2, zq1, zm2, ze_X4, ze_X6, ze_X1, ze_X0, up_n, upr_n, up_row, upr_s]
theorem zf_z41 (sT : sg_T) : zf sT 41 = zz := by
  simp (decide := true) only [zf, zq2, zq1, zm2, ze_X4, ze_X6, ze_X1, ze_X0, up_n, upr_n, up_row, upr_s]
theorem zf_z70 (sT : sg_T) : zf sT 70 = zz := by
  simp (decide := true) only [zf, zq2, zq1, zm2, ze_X4, ze_X6, ze_X1, ze_X0, up_n, upr_n, up_row, upr_s]
theorem zf_z62 (sT : sg_T) : zf sT 62 = zz := by
  simp (decide := true) only [zf, zq2, zq1, zm2, ze_X4, ze_X6, ze_X1, ze_X0, up_n, upr_n, up_row, upr_s]
theorem zf_z64 (sT : sg_T) : zf sT 64 = zz := by
  simp (decide := true) only [zf, zq2, zq1, zm2, ze_X4, ze_X6, ze_X1, ze_X0, up_n, upr_n, up_row, upr_s]
theorem zf_z66 (sT : sg_T) : zf sT 66 = zz := by
  simp (decide := true) only [zf, zq2, zq1, zm2, ze_X4, ze_X6, ze_X1, ze_X0, up_n, upr_n, up_row, upr_s]
theorem zf_z68 (sT : sg_T) : zf sT 68 = zz := by
  simp (decide := true) only [zf, zq2, zq1, zm2, ze_X4, ze_X6, ze_X1, ze_X0, up_n, upr_n, up_row, upr_s]
theorem zf_z85 (sT : sg_T) : zf sT 85 = zz := by
  simp (decide := true) only [zf, zq2, zq1, zm2, ze_X4, ze_X6, ze_X1, ze_X0, up_n, upr_n, up_row, upr_s]
theorem zf_z86 (sT : sg_T) : zf sT 86 = zz := by
  simp (decide := true) only [zf, zq2, zq1, zm2, ze_X4, ze_X6, ze_X1, ze_X0, up_n, upr_n, up_row, upr_s]
theorem zf_z61 (sT : sg_T) : zf sT 61 = upd zz 1 (-1) := by
  simp (decide := true) only [zf, zq2, zq1, zm2, ze_X4, ze_X6, ze_X1, ze_X0, up_n, upr_n, up_row, upr_s]
theorem zf_z63 (sT : sg_T) : zf sT 63 = upd zz 1 (-1) := by
  simp (decide := true) only [zf, zq2, zq1, zm2, ze_X4, ze_X6, ze_X1, ze_X0, up_n, upr_n, up_row, upr_s]
theorem zf_z65 (sT : sg_T) : zf sT 65 = upd zz 1 (-1) := by
  simp (decide := true) only [zf, zq2, zq1, zm2, ze_X4, ze_X6, ze_X1, ze_X0, up_n, upr_n, up_row, upr_s]
theorem zf_z67 (sT : sg_T) : zf sT 67 = upd zz 1 (-1) := by
  simp (decide := true) only [zf, zq2, zq1, zm2, ze_X4, ze_X6, ze_X1, ze_X0, up_n, upr_n, up_row, upr_s]
theorem zf_z69 (sT : sg_T) : zf sT 69 = upd zz 13 1 := by
  simp (decide := true) only [zf, zq2, zq1, zm2, ze_X4, ze_X6, ze_X1, ze_X0, up_n, upr_n, up_row, upr_s]
theorem zf_e75 (sT : sg_T) : zf sT 75 = zf (fun _ _ => 0) 75 := by
  simp (decide := true) only [zf, zq2, zq1, zm2, ze_X4, ze_X6, ze_X1, ze_X0, up_n, upr_n, up_row, upr_s]
theorem zf_e76 (sT : sg_T) : zf sT 76 = zf (fun _ _ => 0) 76 := by
  simp (decide := true) only [zf, zq2, zq1, zm2, ze_X4, ze_X6, ze_X1, ze_X0, up_n, upr_n, up_row, upr_s]
theorem zf_e84 (sT : sg_T) : zf sT 84 = zf (fun _ _ => 0) 84 := by
  simp (decide := true) only [zf, zq2, zq1, zm2, ze_X4, ze_X6, ze_X1, ze_X0, up_n, upr_n, up_row, upr_s]
theorem zf_o0 (sT : sg_T) : zf sT 0 = sT 0 := by
  simp (decide := true) only [zf, zq2, zq1, zm2, ze_X4, ze_X6, ze_X1, ze_X0, up_n, upr_n, up_row, upr_s]
theorem zf_o1 (sT : sg_T) : zf sT 1 = sT 1 := by
  simp (decide := true) only [zf, zq2, zq1, zm2, ze_X4, ze_X6, ze_X1, ze_X0, up_n, upr_n, up_row, upr_s]
theorem zf_o6 (sT : sg_T) : zf sT 6 = sT 6 := by
  simp (decide := true) only [zf, zq2, zq1, zm2, ze_X4, ze_X6, ze_X1, ze_X0, up_n, upr_n, up_row, upr_s]
theorem zf_o7 (sT : sg_T) : zf sT 7 = sT 7 := by
  simp (decide := true) only [zf, zq2, zq1, zm2, ze_X4, ze_X6, ze_X1, ze_X0, up_n, upr_n, up_row, upr_s]
theorem zf_o8 (sT : sg_T) : zf sT 8 = sT 8 := by
  simp (decide := true) only [zf, zq2, zq1, zm2, ze_X4, ze_X6, ze_X1, ze_X0, up_n, upr_n, up_row, upr_s]
theorem zf_o9 (sT : sg_T) : zf sT 9 = sT 9 := by
  simp (decide := true) only [zf, zq2, zq1, zm2, ze_X4, ze_X6, ze_X1, ze_X0, up_n, upr_n, up_row, upr_s]
theorem zf_o10 (sT : sg_T) : zf sT 10 = sT 10 := by
  simp (decide := true) only [zf, zq2, zq1, zm2, ze_X4, ze_X6, ze_X1, ze_X0, up_n, upr_n, up_row, upr_s]
theorem zf_o11 (sT : sg_T) : zf sT 11 = sT 11 := by
  simp (decide := true) only [zf, zq2, zq1, zm2, ze_X4, ze_X6, ze_X1, ze_X0, up_n, upr_n, up_row, upr_s]
theorem zf_o12 (sT : sg_T) : zf sT 12 = sT 12 := by
  simp (decide := true) only [zf, zq2, zq1, zm2, ze_X4, ze_X6, ze_X1, ze_X0, up_n, upr_n, up_row, upr_s]
theorem zf_o13 (sT : sg_T) : zf sT 13 = sT 13 := by
  simp (decide := true) only [zf, zq2, zq1, zm2, ze_X4, ze_X6, ze_X1, ze_X0, up_n, upr_n, up_row, upr_s]
theorem zf_o14 (sT : sg_T) : zf sT 14 = sT 14 := by
  simp (decide := true) only [zf, zq2, zq1, zm2, ze_X4, ze_X6, ze_X1, ze_X0, up_n, upr_n, up_row, upr_s]
theorem zf_o15 (sT : sg_T) : zf sT 15 = sT 15 := by
  simp (decide := true) only [zf, zq2, zq1, zm2, ze_X4, ze_X6, ze_X1, ze_X0, up_n, upr_n, up_row, upr_s]
theorem zf_o16 (sT : sg_T) : zf sT 16 = sT 16 := by
  simp (decide := true) only [zf, zq2, zq1, zm2, ze_X4, ze_X6, ze_X1, ze_X0, up_n, upr_n, up_row, upr_s]
theorem zf_o17 (sT : sg_T) : zf sT 17 = sT 17 := by
  simp (decide := true) only [zf, zq2, zq1, zm2, ze_X4, ze_X6, ze_X1, ze_X0, up_n, upr_n, up_row, upr_s]
theorem zf_o18 (sT : sg_T) : zf sT 18 = sT 18 := by
  simp (decide := true) only [zf, zq2, zq1, zm2, ze_X4, ze_X6, ze_X1, ze_X0, up_n, upr_n, up_row, upr_s]
theorem zf_o19 (sT : sg_T) : zf sT 19 = sT 19 := by
  simp (decide := true) only [zf, zq2, zq1, zm2, ze_X4, ze_X6, ze_X1, ze_X0, up_n, upr_n, up_row, upr_s]
theorem zf_o20 (sT : sg_T) : zf sT 20 = sT 20 := by
  simp (decide := true) only [zf, zq2, zq1, zm2, ze_X4, ze_X6, ze_X1, ze_X0, up_n, upr_n, up_row, upr_s]
theorem zf_o21 (sT : sg_T) : zf sT 21 = sT 21 := by
  simp (decide := true) only [zf, zq2, zq1, zm2, ze_X4, ze_X6, ze_X1, ze_X0, up_n, upr_n, up_row, upr_s]
theorem zf_o22 (sT : sg_T) : zf sT 22 = sT 22 := by
  simp (decide := true) only [zf, zq2, zq1, zm2, ze_X4, ze_X6, ze_X1, ze_X0, up_n, upr_n, up_row, upr_s]
theorem zf_o23 (sT : sg_T) : zf sT 23 = sT 23 := by
  simp (decide := true) only [zf, zq2, zq1, zm2, ze_X4, ze_X6, ze_X1, ze_X0, up_n, upr_n, up_row, upr_s]
theorem zf_o24 (sT : sg_T) : zf sT 24 = sT 24 := by
  simp (decide := true) only [zf, zq2, zq1, zm2, ze_X4, ze_X6, ze_X1, ze_X0, up_n, upr_n, up_row, upr_s]
theorem zf_o25 (sT : sg_T) : zf sT 25 = sT 25 := by
  simp (decide := true) only [zf, zq2, zq1, zm2, ze_X4, ze_X6, ze_X1, ze_X0, up_n, upr_n, up_row, upr_s]
theorem zf_o26 (sT : sg_T) : zf sT 26 = sT 26 := by
  simp (decide := true) only [zf, zq2, zq1, zm2, ze_X4, ze_X6, ze_X1, ze_X0, up_n, upr_n, up_row, upr_s]
theorem zf_o27 (sT : sg_T) : zf sT 27 = sT 27 := by
  simp (decide := true) only [zf, zq2, zq1, zm2, ze_X4, ze_X6, ze_X1, ze_X0, up_n, upr_n, up_row, upr_s]
theorem zf_84 : ∀ j, j < 4 → zf (fun _ _ => 0) 84 j = -1 := by decide +kernel
theorem zf_75 : ∀ j, j < 5 → zf (fun _ _ => 0) 75 j = ([6, -10, -25, 3, 0] : List Int32).getD j 0 := by decide +kernel
theorem zf_76 : zf (fun _ _ => 0) 76 0 = 3 ∧ zf (fun _ _ => 0) 76 1 = 4 ∧ zf (fun _ _ => 0) 76 2 = 5 := by decide +kernel
theorem zf_t (sT : sg_T) : ∀ q, 6 ≤ q → q < 28 → zf sT q = sT q := by
  intro q h1 h2
  rcases (show q = 6 ∨ q = 7 ∨ q = 8 ∨ q = 9 ∨ q = 10 ∨ q = 11 ∨ q = 12 ∨ q = 13 ∨ q = 14 ∨ q = 15 ∨ q = 16 ∨ q = 17 ∨ q = 18 ∨ q = 19 ∨ q = 20 ∨ q = 21 ∨ q = 22 ∨ q = 23 ∨ q = 24 ∨ q = 25 ∨ q = 26 ∨ q = 27 by omega) with rfl | rfl | rfl | rfl | rfl | rfl | rfl | rfl | rfl | rfl | rfl | rfl | rfl | rfl | rfl | rfl | rfl | rfl | rfl | rfl | rfl | rfl
  · exact zf_o6 sT
  · exact zf_o7 sT
  · exact zf_o8 sT
  · exact zf_o9 sT
  · exact zf_o10 sT
  · exact zf_o11 sT
  · exact zf_o12 sT
  · exact zf_o13 sT
  · exact zf_o14 sT
  · exact zf_o15 sT
  · exact zf_o16 sT
  · exact zf_o17 sT
  · exact zf_o18 sT
  · exact zf_o19 sT
  · exact zf_o20 sT
  · exact zf_o21 sT
  · exact zf_o22 sT
  · exact zf_o23 sT
  · exact zf_o24 sT
  · exact zf_o25 sT
  · exact zf_o26 sT
  · exact zf_o27 sT
theorem start_wr {sT : sg_T} (h11 : sT 1 1 = 0) (h08 : sT 0 8 = 0) (hTC : TC sT (T3 (fun _ _ => []) 0 [6, -10, -25] [3] [0]) 1) (hO : TOk (T3 (fun _ _ => []) 0 [6, -10, -25] [3] [0]) 1) : WRL (zf sT) := by
  have r34 : ∀ k, zf sT 34 k = 0 := fun k => by rw [zf_z34]; rfl
  have r41 : ∀ k, zf sT 41 k = 0 := fun k => by rw [zf_z41]; rfl
  have r70 : ∀ k, zf sT 70 k = 0 := fun k => by rw [zf_z70]; rfl
  have r85 : ∀ k, zf sT 85 k = 0 := fun k => by rw [zf_z85]; rfl
  have r69 : zf sT 69 3 = 0 ∧ zf sT 69 6 = 0 ∧ zf sT 69 13 = 1 := by rw [zf_z69]; exact ⟨rfl, rfl, rfl⟩
  have hi0 : inr (-1) (-1) 2 := by unfold inr; decide
  have hi1 : inr 0 0 40 := by unfold inr; decide
  refine ⟨fun _ _ => 0, 0, 0, 0, T3 (fun _ _ => []) 0 [6, -10, -25] [3] [0], 1, ⟨by decide, r34 7, r34 8, r34 9, fun i hi => absurd hi (Nat.not_lt_zero _), fun i j hi => absurd hi (Nat.not_lt_zero _), fun i _ => r41 _⟩, ⟨by decide, r70 55, r70 56, r70 57, fun i hi => absurd hi (Nat.not_lt_zero _), fun i j hi => absurd hi (Nat.not_lt_zero _)⟩, fun i hi => absurd hi (Nat.not_lt_zero _), by unfold inr; decide, by decide, hTC.eq (fun q a b _ _ => zf_t sT q a b), ?_, hO, Or.inl ⟨?_, r69.1⟩, ⟨0, by decide, ?_, r69.2.1, fun i hi => absurd hi (Nat.not_lt_zero _)⟩, fun s hs => ?_, fun k hk => ?_⟩
  · obtain ⟨c0, c1, c2, c3⟩ := cum_n (T := fun _ _ => []) (n := 0) (d0 := [6, -10, -25]) (d1 := [3]) (d2 := [0])
    obtain ⟨y0, y1, y2⟩ := zf_76
    refine ⟨by decide, r69.2.2, fun t ht => ?_⟩
    have ht0 : t = 0 := by omega
    subst ht0
    rw [zf_e76, zf_e75]
    refine ⟨fun p hp => ?_, fun p hp k hk => ?_⟩
    · rcases (show p = 0 ∨ p = 1 ∨ p = 2 by omega) with rfl | rfl | rfl
      · rw [c1]; exact y0
      · rw [c2]; exact y1
      · rw [c3]; exact y2
    · obtain ⟨g1, g2⟩ := sign_at hp hk
      rw [← g2, show 160 * 0 + (cum (T3 (fun _ _ => []) 0 [6, -10, -25] [3] [0]) 0 p + k) = cum (T3 (fun _ _ => []) 0 [6, -10, -25] [3] [0]) 0 p + k by omega]
      exact zf_75 _ g1
  · rw [zf_o0]; exact h08
  · rw [zf_o1]; exact h11
  · rw [zf_e84, r85 s, zf_84 s hs]
    rcases (show s = 0 ∨ s = 1 ∨ s = 2 ∨ s = 3 by omega) with rfl | rfl | rfl | rfl
    · exact ⟨by rw [zf_z61]; rfl, by rw [zf_z61]; rfl, hi0, hi1, fun j hj => absurd (show (j : Int) < 0 from hj) (by omega)⟩
    · exact ⟨by rw [zf_z63]; rfl, by rw [zf_z63]; rfl, hi0, hi1, fun j hj => absurd (show (j : Int) < 0 from hj) (by omega)⟩
    · exact ⟨by rw [zf_z65]; rfl, by rw [zf_z65]; rfl, hi0, hi1, fun j hj => absurd (show (j : Int) < 0 from hj) (by omega)⟩
    · exact ⟨by rw [zf_z67]; rfl, by rw [zf_z67]; rfl, hi0, hi1, fun j hj => absurd (show (j : Int) < 0 from hj) (by omega)⟩
  · rw [zf_e77, zf_e73, zf_e88]
    exact ⟨zf_73 k hk, fun h6 => zf_88 k h6, fun j hj => zf_77 j hj⟩
