def lw_fl : List Cond := flatC (Jvm.Cond.and given_1 narrow_1)
def tm_s (i : Nat) : Term := match i with
  | 0 => .string RX7 23
  | _ => .string RX2 98
theorem fl_hi : ∀ j, j < 7 → Cond.eq (.elem (.static RX7 "HIGHEST" "[I") (.int (Int32.ofNat j))) (.int (([999, 9, 23, 99, 99, 9999, 9] : List Int32).getD j 0)) ∈ lw_fl := by decide +kernel
theorem fl_un : ∀ j, j < 6 → Cond.eq (.elem (.static RX7 "UNDER" "[I") (.int (Int32.ofNat j))) (.int (([-1, 0, 0, 1, 2, 0] : List Int32).getD j 0)) ∈ lw_fl := by decide +kernel
theorem fl_s1 : ∀ i, i < 2 → Cond.exactly (tm_s i) "java/lang/String" ∈ lw_fl ∧ Cond.eq (.field (tm_s i) "java/lang/String" "coder" "B") (.int 0) ∈ lw_fl ∧ Cond.arrayOf (.field (tm_s i) "java/lang/String" "value" "[B") .byte ∈ lw_fl ∧ Cond.eq (.length (.field (tm_s i) "java/lang/String" "value" "[B")) (.int (Int32.ofNat (tx_l.getD i 0))) ∈ lw_fl := by decide +kernel
theorem fl_s2 : ∀ j, j < 35 → Cond.eq (.elem (.field (tm_s 0) "java/lang/String" "value" "[B") (.int (Int32.ofNat j))) (.int ((tx_y.getD 0 []).getD j 0)) ∈ lw_fl := by decide +kernel
theorem fl_s3 : ∀ j, j < 84 → Cond.eq (.elem (.field (tm_s 1) "java/lang/String" "value" "[B") (.int (Int32.ofNat j))) (.int ((tx_y.getD 1 []).getD j 0)) ∈ lw_fl := by decide +kernel
theorem fl_m : (Cond.arrayOf (.static RX7 "HIGHEST" "[I") .int ∈ lw_fl ∧ Cond.eq (.length (.static RX7 "HIGHEST" "[I")) (.int 7) ∈ lw_fl ∧ Cond.arrayOf (.static RX7 "UNDER" "[I") .int ∈ lw_fl ∧ Cond.eq (.length (.static RX7 "UNDER" "[I")) (.int 6) ∈ lw_fl) ∧ Cond.eq (.static RJ0 "COMPACT_STRINGS" "Z") (.int 1) ∈ lw_fl ∧ Cond.isRef (.static RJ3 "SIOOBE_FORMATTER" "Ljava/util/function/BiFunction;") ∈ lw_fl ∧ Cond.not (Cond.eq (tm_s 0) (tm_s 1)) ∈ lw_fl := by decide +kernel
theorem nest_in : ∀ w ∈ lw_nest, w ∈ lw_tbl := by decide +kernel
theorem nest_tab : ∀ w ∈ lw_nest, w.onTables = true := by decide +kernel
set_option maxHeartbeats 4000000 in
set_option maxRecDepth 100000 in
/-- what the start gives: the classes, the array classes, the fixed rows, the texts -/
theorem law_ini {s : State} {b : Nat} (hts : ∀ w ∈ lw_tbl, w.before #[Value.ref b] s = true) (hgv : (Jvm.Cond.and given_1 narrow_1).before #[Value.ref b] s = true) : ∃ B : zb_T, zba B = s.heap.size ∧ va_K B.1 vwCl (ztys B) s ∧ GsA B.2.2.2 (zA B) s s.heap ∧ va_AO RX5 s ∧ va_AO RX4 s := by
  have hg : ∀ w ∈ lw_good, w.before #[Value.ref b] s = true := fun w hw => hts w (List.mem_filter.mp hw).1
  have hs : ∀ c ∈ lw_fl, c.before #[Value.ref b] s = true := flat_of_before _ hgv
  have hA : ∀ a : Nat, a < s.heap.size → ¬ (fun q => s.heap.size ≤ q) a := fun a h => Nat.not_le.mpr h
  obtain ⟨c0, i0, hk0⟩ := u_known (C := RX0) (T := TX0) (N := 6) (n := 6) hg iwX0 (hg _ qw320)
  obtain ⟨c1, i1, hk1⟩ := u_known (C := RX1) (T := TX1) (N := 10) (n := 10) hg iwX1 (hg _ qw346)
  obtain ⟨c2, i2, hk2⟩ := u_known (C := RX2) (T := TX2) (N := 8) (n := 8) hg iwX2 (hg _ qw92)
  obtain ⟨c3, i3, hk3⟩ := u_known (C := RX3) (T := TX3) (N := 4) (n := 4) hg iwX3 (hg _ qw124)
  obtain ⟨c4, i4, hk4⟩ := u_known (C := RX4) (T := TX4) (N := 3) (n := 3) hg iwX4 (hg _ qw403)
  obtain ⟨c5, i5, hk5⟩ := u_known (C := RX5) (T := TX5) (N := 3) (n := 3) hg iwX5 (hg _ qw131)
  obtain ⟨c6, i6, hk6⟩ := u_known (C := RX6) (T := TX6) (N := 4) (n := 4) hg iwX6 (hg _ qw383)
  obtain ⟨c7, i7, hk7⟩ := u_known (C := RX7) (T := TX7) (N := 9) (n := 9) hg iwX7 (hg _ qw84)
  obtain ⟨c8, i8, hk8⟩ := u_known (C := RX8) (T := TX8) (N := 31) (n := 31) hg iwX8 (hg _ qw857)
  obtain ⟨cI, kI, pI, fI, gI, tI⟩ := Cond.arrayClass_spec (hg _ qw122)
  obtain ⟨cC, kC, pC, fC, gC, tC⟩ := Cond.arrayClass_spec (hg _ qw960)
  obtain ⟨cZ, kZ, pZ, fZ, gZ, tZ⟩ := Cond.arrayClass_spec (hg _ qw961)
  have ho5 : (Cond.arrayOver (.object RX5)).before #[Value.ref b] s = true := hts _ (List.mem_of_getElem? (i := 130) (by decide +kernel))
  have ho4 : (Cond.arrayOver (.object RX4)).before #[Value.ref b] s = true := hts _ (List.mem_of_getElem? (i := 402) (by decide +kernel))
  obtain ⟨pT, cT, kT, aT, -, gT, tT, fT⟩ := Cond.arrayOver_spec ho5
  obtain ⟨pS, cS, kS, aS, -, gS, tS, fS⟩ := Cond.arrayOver_spec ho4
  obtain ⟨tH, vH, hH⟩ := va_Tof (tm := .static RX7 "HIGHEST" "[I") (f := fn_hi) (N := 7) (A := fun q => s.heap.size ≤ q) (by decide) (hs _ fl_m.1.1) (va_eqt (hs _ fl_m.1.2.1)) (fun j hj => va_eqt (hs _ (fl_hi j hj))) hA
  obtain ⟨tU, vU, hU⟩ := va_Tof (tm := .static RX7 "UNDER" "[I") (f := fn_un) (N := 6) (A := fun q => s.heap.size ≤ q) (by decide) (hs _ fl_m.1.2.2.1) (va_eqt (hs _ fl_m.1.2.2.2)) (fun j hj => va_eqt (hs _ (fl_un j hj))) hA
  obtain ⟨adK, adV, hS, hev⟩ := vk_Sof (N := 2) (tm := tm_s) (len := tx_l) (byt := tx_y) (A := fun q => s.heap.size ≤ q) tx_len (fun i hi => hs _ (fl_s1 i hi).1) (fun i hi => hs _ (fl_s1 i hi).2.1) (fun i hi => hs _ (fl_s1 i hi).2.2.1) (fun i hi => hs _ (fl_s1 i hi).2.2.2) (fun i hi j hj => by
      rcases (show i = 0 ∨ i = 1 by omega) with rfl | rfl
      · exact hs _ (fl_s2 j hj)
      · exact hs _ (fl_s3 j hj)) (fun i j hi hj hij => by
      rcases (show (i = 0 ∧ j = 1) ∨ (i = 1 ∧ j = 0) by omega) with ⟨rfl, rfl⟩ | ⟨rfl, rfl⟩
      · exact Or.inl (hs _ fl_m.2.2.2)
      · exact Or.inr (hs _ fl_m.2.2.2)) hA
  refine ⟨(((fun k => match k with | 0 => c0 | 1 => c1 | 2 => c2 | 3 => c3 | 4 => c4 | 5 => c5 | 6 => c6 | 7 => c7 | _ => c8), (fun k => match k with | 0 => i0 | 1 => i1 | 2 => i2 | 3 => i3 | 4 => i4 | 5 => i5 | 6 => i6 | 7 => i7 | _ => i8)), (fun ty => match ty with | .int => cI | .char => cC | .boolean => cZ | .object n => if n = RX5 then cT else cS | _ => cI), s.heap.size, (fun i => match i with | 0 => tH | 1 => tU | 2 => adK 0 | 3 => adK 1 | 4 => adV 0 | _ => adV 1)), rfl, ⟨?_, ?_⟩, ?_, va_AO.of ho5, va_AO.of ho4⟩
  · intro c q hq
    match c, hq with
    | 0, hq => cases hq; exact hk0
    | 1, hq => cases hq; exact hk1
    | 2, hq => cases hq; exact hk2
    | 3, hq => cases hq; exact hk3
    | 4, hq => cases hq; exact hk4
    | 5, hq => cases hq; exact hk5
    | 6, hq => cases hq; exact hk6
    | 7, hq => cases hq; exact hk7
    | 8, hq => cases hq; exact hk8
    | c + 9, hq => simp [vwCl] at hq
  · have h54 : ¬ (RX4 : String) = RX5 := by decide
    intro k q hq
    match k, hq with
    | 0, hq => cases hq; exact ⟨fun n z => ⟨fun k h => (by cases h), kI, gI, pI, tI⟩, fI⟩
    | 1, hq => cases hq; exact ⟨fun n z => ⟨fun k h => (by cases h), kC, gC, pC, tC⟩, fC⟩
    | 2, hq => cases hq; exact ⟨fun n z => ⟨fun k h => (by cases h), kZ, gZ, pZ, tZ⟩, fZ⟩
    | 3, hq =>
      cases hq
      show ArrOfT s (if RX5 = RX5 then cT else cS) (.object RX5) ∧ va_RA s (if RX5 = RX5 then cT else cS) (.object RX5)
      rw [if_pos rfl]
      exact ⟨fun n z => ⟨fun k h => (by cases h), kT, gT, pT, tT⟩, kT, pT, gT, tT, aT, fT⟩
    | 4, hq =>
      cases hq
      show ArrOfT s (if RX4 = RX5 then cT else cS) (.object RX4) ∧ va_RA s (if RX4 = RX5 then cT else cS) (.object RX4)
      rw [if_neg h54]
      exact ⟨fun n z => ⟨fun k h => (by cases h), kS, gS, pS, tS⟩, kS, pS, gS, tS, aS, fS⟩
    | k + 5, hq => simp [ztys] at hq
  · refine ⟨⟨va_Zref (hts _ (List.mem_of_getElem? (i := 459) (by decide +kernel))) (hg _ qw67) vH hA, hH⟩, ⟨va_Zref (hts _ (List.mem_of_getElem? (i := 855) (by decide +kernel))) (hg _ qw67) vU hA, hU⟩, fun w hw => va_Nw.of (nest_tab w hw) (hts w (nest_in w hw)), ⟨vk_R.of (hts _ (List.mem_of_getElem? (i := 159) (by decide +kernel))) (hev 0 (by decide)), vk_R.of (hts _ (List.mem_of_getElem? (i := 243) (by decide +kernel))) (hev 1 (by decide)), ⟨fun i hi => ?_, fun i j hi hj he => ?_⟩⟩, va_Zof (hts _ (List.mem_of_getElem? (i := 173) (by decide +kernel))) (hg _ qw71) (va_eqi (hs _ fl_m.2.1)) hA, va_Zqof (hts _ (List.mem_of_getElem? (i := 189) (by decide +kernel))) (hg _ qw73) (hs _ fl_m.2.2.1) hA⟩
    · rcases (show i = 0 ∨ i = 1 by omega) with rfl | rfl
      · exact hS.1 0 (by decide)
      · exact hS.1 1 (by decide)
    · rcases (show i = 0 ∨ i = 1 by omega) with rfl | rfl <;> rcases (show j = 0 ∨ j = 1 by omega) with rfl | rfl
      · rfl
      · exact hS.2 0 1 (by decide) (by decide) he
      · exact hS.2 1 0 (by decide) (by decide) he
      · rfl
