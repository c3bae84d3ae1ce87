theorem pure_law (n : Nat) (xs : Nat → Int32) (hn : n ≤ 3072) : ∃ (sA sT : sg_T) (rT : Int32) (sF : sg_T) (rF : Int32), f_X2_addAll (zm1 (upr (fun _ _ => 0) 0 zz)) = some sA ∧ f_X3_take sA = some (rT, sT) ∧ f_X8_firstText (zq1 (upr (zm2 sT) 69 zz)) = some (rF, sF) ∧ itr (fun q => b_L_law xs n q.1 q.2) lfu (0, zq2 rF sF) = some 1 := by
  obtain ⟨sA, sT, rT, e1, e2, h11, h08, hTC, hO⟩ := first_st
  exact ⟨sA, sT, rT, _, 1, e1, e2, rfl, law_loop xs hn (start_wr h11 h08 hTC hO)⟩
