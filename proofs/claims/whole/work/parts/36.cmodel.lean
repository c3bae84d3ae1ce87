theorem cf_142 : LC59 ++ [.inl (.int, 58)] = LC60 := rfl
theorem cf_143 : LC59.length = 70 := rfl
theorem cf_144 : Lg LC60 69 (.inr (.inr (8, [1, 1, 1, 0, 1, 1, 0, 0, 0, 0, 0, 1, 1, 0, 0, 1, 1, 0, 1, 1, 1, 1, 1, 0, 0, 1, 1, 1, 1, 1, 1]))) := ⟨(Nat.le_of_ble_eq_true rfl), rfl⟩
theorem cf_145 : LC60.set 69 (.inr (.inr (8, [1, 1, 1, 0, 1, 1, 0, 0, 0, 0, 0, 1, 1, 0, 0, 1, 1, 0, 1, 1, 1, 1, 1, 0, 0, 1, 1, 1, 1, 1, 1].set 0 (70 + 3)))) = LC61 := rfl
theorem cf_146 : LC61 ++ [.inl (.int, 58)] = LC62 := rfl
theorem cf_147 : LC61.length = 71 := rfl
theorem cf_148 : Lg LC62 69 (.inr (.inr (8, [73, 1, 1, 0, 1, 1, 0, 0, 0, 0, 0, 1, 1, 0, 0, 1, 1, 0, 1, 1, 1, 1, 1, 0, 0, 1, 1, 1, 1, 1, 1]))) := ⟨(Nat.le_of_ble_eq_true rfl), rfl⟩
theorem cf_149 : LC62.set 69 (.inr (.inr (8, [73, 1, 1, 0, 1, 1, 0, 0, 0, 0, 0, 1, 1, 0, 0, 1, 1, 0, 1, 1, 1, 1, 1, 0, 0, 1, 1, 1, 1, 1, 1].set 1 (71 + 3)))) = LC63 := rfl
theorem cf_150 : LC63 ++ [.inl (.int, 58)] = LC64 := rfl
theorem cf_151 : LC63.length = 72 := rfl
theorem cf_152 : Lg LC64 69 (.inr (.inr (8, [73, 74, 1, 0, 1, 1, 0, 0, 0, 0, 0, 1, 1, 0, 0, 1, 1, 0, 1, 1, 1, 1, 1, 0, 0, 1, 1, 1, 1, 1, 1]))) := ⟨(Nat.le_of_ble_eq_true rfl), rfl⟩
theorem cf_153 : LC64.set 69 (.inr (.inr (8, [73, 74, 1, 0, 1, 1, 0, 0, 0, 0, 0, 1, 1, 0, 0, 1, 1, 0, 1, 1, 1, 1, 1, 0, 0, 1, 1, 1, 1, 1, 1].set 2 (72 + 3)))) = LC65 := rfl
theorem cf_154 : LC65 ++ [.inl (.int, 7)] = LC66 := rfl
theorem cf_155 : LC65.length = 73 := rfl
theorem cf_156 : Lg LC66 73 (.inl (.int, 7)) := ⟨(Nat.le_of_ble_eq_true rfl), rfl⟩
theorem cf_157 : Lg LC66 69 (.inr (.inr (8, [73, 74, 75, 0, 1, 1, 0, 0, 0, 0, 0, 1, 1, 0, 0, 1, 1, 0, 1, 1, 1, 1, 1, 0, 0, 1, 1, 1, 1, 1, 1]))) := ⟨(Nat.le_of_ble_eq_true rfl), rfl⟩
theorem cf_158 : LC66.set 69 (.inr (.inr (8, [73, 74, 75, 0, 1, 1, 0, 0, 0, 0, 0, 1, 1, 0, 0, 1, 1, 0, 1, 1, 1, 1, 1, 0, 0, 1, 1, 1, 1, 1, 1].set 4 (73 + 3)))) = LC67 := rfl
theorem cf_159 : LC67 ++ [.inl (.int, 160)] = LC68 := rfl
theorem cf_160 : LC67.length = 74 := rfl
theorem cf_161 : Lg LC68 69 (.inr (.inr (8, [73, 74, 75, 0, 76, 1, 0, 0, 0, 0, 0, 1, 1, 0, 0, 1, 1, 0, 1, 1, 1, 1, 1, 0, 0, 1, 1, 1, 1, 1, 1]))) := ⟨(Nat.le_of_ble_eq_true rfl), rfl⟩
theorem cf_162 : LC68.set 69 (.inr (.inr (8, [73, 74, 75, 0, 76, 1, 0, 0, 0, 0, 0, 1, 1, 0, 0, 1, 1, 0, 1, 1, 1, 1, 1, 0, 0, 1, 1, 1, 1, 1, 1].set 5 (74 + 3)))) = LC69 := rfl
theorem cf_163 : LC69 ++ [.inl (.int, 960)] = LC70 := rfl
theorem cf_164 : LC69.length = 75 := rfl
theorem cf_165 : Lg LC70 69 (.inr (.inr (8, [73, 74, 75, 0, 76, 77, 0, 0, 0, 0, 0, 1, 1, 0, 0, 1, 1, 0, 1, 1, 1, 1, 1, 0, 0, 1, 1, 1, 1, 1, 1]))) := ⟨(Nat.le_of_ble_eq_true rfl), rfl⟩
theorem cf_166 : LC70.set 69 (.inr (.inr (8, [73, 74, 75, 0, 76, 77, 0, 0, 0, 0, 0, 1, 1, 0, 0, 1, 1, 0, 1, 1, 1, 1, 1, 0, 0, 1, 1, 1, 1, 1, 1].set 11 (75 + 3)))) = LC71 := rfl
theorem cf_167 : LC71 ++ [.inl (.int, 18)] = LC72 := rfl
theorem cf_168 : LC71.length = 76 := rfl
theorem cf_169 : Lg LC72 69 (.inr (.inr (8, [73, 74, 75, 0, 76, 77, 0, 0, 0, 0, 0, 78, 1, 0, 0, 1, 1, 0, 1, 1, 1, 1, 1, 0, 0, 1, 1, 1, 1, 1, 1]))) := ⟨(Nat.le_of_ble_eq_true rfl), rfl⟩
theorem cf_170 : LC72.set 69 (.inr (.inr (8, [73, 74, 75, 0, 76, 77, 0, 0, 0, 0, 0, 78, 1, 0, 0, 1, 1, 0, 1, 1, 1, 1, 1, 0, 0, 1, 1, 1, 1, 1, 1].set 12 (76 + 3)))) = LC73 := rfl
theorem cf_171 : Lg LC73 69 (.inr (.inr (8, [73, 74, 75, 0, 76, 77, 0, 0, 0, 0, 0, 78, 79, 0, 0, 1, 1, 0, 1, 1, 1, 1, 1, 0, 0, 1, 1, 1, 1, 1, 1]))) := ⟨(Nat.le_of_ble_eq_true rfl), rfl⟩
theorem cf_172 : LC73 ++ [.inl (.char, 72)] = LC74 := rfl
theorem cf_173 : LC73.length = 77 := rfl
theorem cf_174 : Lg LC74 77 (.inl (.char, 72)) := ⟨(Nat.le_of_ble_eq_true rfl), rfl⟩
theorem cf_175 : Lg LC74 69 (.inr (.inr (8, [73, 74, 75, 0, 76, 77, 0, 0, 0, 0, 0, 78, 79, 0, 0, 1, 1, 0, 1, 1, 1, 1, 1, 0, 0, 1, 1, 1, 1, 1, 1]))) := ⟨(Nat.le_of_ble_eq_true rfl), rfl⟩
theorem cf_176 : LC74.set 69 (.inr (.inr (8, [73, 74, 75, 0, 76, 77, 0, 0, 0, 0, 0, 78, 79, 0, 0, 1, 1, 0, 1, 1, 1, 1, 1, 0, 0, 1, 1, 1, 1, 1, 1].set 15 (77 + 3)))) = LC75 := rfl
theorem cf_177 : LC75 ++ [.inl (.int, 160)] = LC76 := rfl
theorem cf_178 : LC75.length = 78 := rfl
theorem cf_179 : Lg LC76 69 (.inr (.inr (8, [73, 74, 75, 0, 76, 77, 0, 0, 0, 0, 0, 78, 79, 0, 0, 80, 1, 0, 1, 1, 1, 1, 1, 0, 0, 1, 1, 1, 1, 1, 1]))) := ⟨(Nat.le_of_ble_eq_true rfl), rfl⟩
theorem cf_180 : LC76.set 69 (.inr (.inr (8, [73, 74, 75, 0, 76, 77, 0, 0, 0, 0, 0, 78, 79, 0, 0, 80, 1, 0, 1, 1, 1, 1, 1, 0, 0, 1, 1, 1, 1, 1, 1].set 16 (78 + 3)))) = LC77 := rfl
theorem cf_181 : LC77 ++ [.inl (.int, 160)] = LC78 := rfl
theorem cf_182 : LC77.length = 79 := rfl
theorem cf_183 : Lg LC78 69 (.inr (.inr (8, [73, 74, 75, 0, 76, 77, 0, 0, 0, 0, 0, 78, 79, 0, 0, 80, 81, 0, 1, 1, 1, 1, 1, 0, 0, 1, 1, 1, 1, 1, 1]))) := ⟨(Nat.le_of_ble_eq_true rfl), rfl⟩
theorem cf_184 : LC78.set 69 (.inr (.inr (8, [73, 74, 75, 0, 76, 77, 0, 0, 0, 0, 0, 78, 79, 0, 0, 80, 81, 0, 1, 1, 1, 1, 1, 0, 0, 1, 1, 1, 1, 1, 1].set 18 (79 + 3)))) = LC79 := rfl
theorem cf_185 : LC79 ++ [.inl (.int, 5)] = LC80 := rfl
theorem cf_186 : LC79.length = 80 := rfl
theorem cf_187 : Lg LC80 69 (.inr (.inr (8, [73, 74, 75, 0, 76, 77, 0, 0, 0, 0, 0, 78, 79, 0, 0, 80, 81, 0, 82, 1, 1, 1, 1, 0, 0, 1, 1, 1, 1, 1, 1]))) := ⟨(Nat.le_of_ble_eq_true rfl), rfl⟩
theorem cf_188 : LC80.set 69 (.inr (.inr (8, [73, 74, 75, 0, 76, 77, 0, 0, 0, 0, 0, 78, 79, 0, 0, 80, 81, 0, 82, 1, 1, 1, 1, 0, 0, 1, 1, 1, 1, 1, 1].set 19 (80 + 3)))) = LC81 := rfl
theorem cf_189 : LC81 ++ [.inl (.int, 5)] = LC82 := rfl
theorem cf_190 : LC81.length = 81 := rfl
theorem cf_191 : Lg LC82 69 (.inr (.inr (8, [73, 74, 75, 0, 76, 77, 0, 0, 0, 0, 0, 78, 79, 0, 0, 80, 81, 0, 82, 83, 1, 1, 1, 0, 0, 1, 1, 1, 1, 1, 1]))) := ⟨(Nat.le_of_ble_eq_true rfl), rfl⟩
theorem cf_192 : LC82.set 69 (.inr (.inr (8, [73, 74, 75, 0, 76, 77, 0, 0, 0, 0, 0, 78, 79, 0, 0, 80, 81, 0, 82, 83, 1, 1, 1, 0, 0, 1, 1, 1, 1, 1, 1].set 20 (81 + 3)))) = LC83 := rfl
theorem cf_193 : LC83 ++ [.inl (.int, 5)] = LC84 := rfl
theorem cf_194 : LC83.length = 82 := rfl
theorem cf_195 : Lg LC84 69 (.inr (.inr (8, [73, 74, 75, 0, 76, 77, 0, 0, 0, 0, 0, 78, 79, 0, 0, 80, 81, 0, 82, 83, 84, 1, 1, 0, 0, 1, 1, 1, 1, 1, 1]))) := ⟨(Nat.le_of_ble_eq_true rfl), rfl⟩
theorem cf_196 : LC84.set 69 (.inr (.inr (8, [73, 74, 75, 0, 76, 77, 0, 0, 0, 0, 0, 78, 79, 0, 0, 80, 81, 0, 82, 83, 84, 1, 1, 0, 0, 1, 1, 1, 1, 1, 1].set 21 (82 + 3)))) = LC85 := rfl
theorem cf_197 : LC85 ++ [.inl (.int, 5)] = LC86 := rfl
theorem cf_198 : LC85.length = 83 := rfl
theorem cf_199 : Lg LC86 69 (.inr (.inr (8, [73, 74, 75, 0, 76, 77, 0, 0, 0, 0, 0, 78, 79, 0, 0, 80, 81, 0, 82, 83, 84, 85, 1, 0, 0, 1, 1, 1, 1, 1, 1]))) := ⟨(Nat.le_of_ble_eq_true rfl), rfl⟩
theorem cf_200 : LC86.set 69 (.inr (.inr (8, [73, 74, 75, 0, 76, 77, 0, 0, 0, 0, 0, 78, 79, 0, 0, 80, 81, 0, 82, 83, 84, 85, 1, 0, 0, 1, 1, 1, 1, 1, 1].set 22 (83 + 3)))) = LC87 := rfl
theorem cf_201 : LC87 ++ [.inl (.int, 4)] = LC88 := rfl
theorem cf_202 : LC87.length = 84 := rfl
theorem cf_203 : Lg LC88 84 (.inl (.int, 4)) := ⟨(Nat.le_of_ble_eq_true rfl), rfl⟩
theorem cf_204 : Lg LC88 69 (.inr (.inr (8, [73, 74, 75, 0, 76, 77, 0, 0, 0, 0, 0, 78, 79, 0, 0, 80, 81, 0, 82, 83, 84, 85, 86, 0, 0, 1, 1, 1, 1, 1, 1]))) := ⟨(Nat.le_of_ble_eq_true rfl), rfl⟩
theorem cf_205 : LC88.set 69 (.inr (.inr (8, [73, 74, 75, 0, 76, 77, 0, 0, 0, 0, 0, 78, 79, 0, 0, 80, 81, 0, 82, 83, 84, 85, 86, 0, 0, 1, 1, 1, 1, 1, 1].set 25 (84 + 3)))) = LC89 := rfl
theorem cf_206 : LC89 ++ [.inl (.int, 4)] = LC90 := rfl
theorem cf_207 : LC89.length = 85 := rfl
theorem cf_208 : Lg LC90 69 (.inr (.inr (8, [73, 74, 75, 0, 76, 77, 0, 0, 0, 0, 0, 78, 79, 0, 0, 80, 81, 0, 82, 83, 84, 85, 86, 0, 0, 87, 1, 1, 1, 1, 1]))) := ⟨(Nat.le_of_ble_eq_true rfl), rfl⟩
theorem cf_209 : LC90.set 69 (.inr (.inr (8, [73, 74, 75, 0, 76, 77, 0, 0, 0, 0, 0, 78, 79, 0, 0, 80, 81, 0, 82, 83, 84, 85, 86, 0, 0, 87, 1, 1, 1, 1, 1].set 26 (85 + 3)))) = LC91 := rfl
theorem cf_210 : LC91 ++ [.inl (.int, 160)] = LC92 := rfl
theorem cf_211 : LC91.length = 86 := rfl
theorem cf_212 : Lg LC92 69 (.inr (.inr (8, [73, 74, 75, 0, 76, 77, 0, 0, 0, 0, 0, 78, 79, 0, 0, 80, 81, 0, 82, 83, 84, 85, 86, 0, 0, 87, 88, 1, 1, 1, 1]))) := ⟨(Nat.le_of_ble_eq_true rfl), rfl⟩
theorem cf_213 : LC92.set 69 (.inr (.inr (8, [73, 74, 75, 0, 76, 77, 0, 0, 0, 0, 0, 78, 79, 0, 0, 80, 81, 0, 82, 83, 84, 85, 86, 0, 0, 87, 88, 1, 1, 1, 1].set 27 (86 + 3)))) = LC93 := rfl
theorem cf_214 : LC93 ++ [.inl (.int, 40)] = LC94 := rfl
theorem cf_215 : LC93.length = 87 := rfl
theorem cf_216 : Lg LC94 69 (.inr (.inr (8, [73, 74, 75, 0, 76, 77, 0, 0, 0, 0, 0, 78, 79, 0, 0, 80, 81, 0, 82, 83, 84, 85, 86, 0, 0, 87, 88, 89, 1, 1, 1]))) := ⟨(Nat.le_of_ble_eq_true rfl), rfl⟩
theorem cf_217 : LC94.set 69 (.inr (.inr (8, [73, 74, 75, 0, 76, 77, 0, 0, 0, 0, 0, 78, 79, 0, 0, 80, 81, 0, 82, 83, 84, 85, 86, 0, 0, 87, 88, 89, 1, 1, 1].set 28 (87 + 3)))) = LC95 := rfl
theorem cf_218 : LC95 ++ [.inl (.int, 6)] = LC96 := rfl
theorem cf_219 : LC95.length = 88 := rfl
theorem cf_220 : Lg LC96 88 (.inl (.int, 6)) := ⟨(Nat.le_of_ble_eq_true rfl), rfl⟩
theorem cf_221 : Lg LC96 69 (.inr (.inr (8, [73, 74, 75, 0, 76, 77, 0, 0, 0, 0, 0, 78, 79, 0, 0, 80, 81, 0, 82, 83, 84, 85, 86, 0, 0, 87, 88, 89, 90, 1, 1]))) := ⟨(Nat.le_of_ble_eq_true rfl), rfl⟩
theorem cf_222 : LC96.set 69 (.inr (.inr (8, [73, 74, 75, 0, 76, 77, 0, 0, 0, 0, 0, 78, 79, 0, 0, 80, 81, 0, 82, 83, 84, 85, 86, 0, 0, 87, 88, 89, 90, 1, 1].set 29 (88 + 3)))) = LC97 := rfl
theorem cf_223 : LC97 ++ [.inl (.boolean, 100)] = LC98 := rfl
theorem cf_224 : LC97.length = 89 := rfl
theorem cf_225 : Lg LC98 69 (.inr (.inr (8, [73, 74, 75, 0, 76, 77, 0, 0, 0, 0, 0, 78, 79, 0, 0, 80, 81, 0, 82, 83, 84, 85, 86, 0, 0, 87, 88, 89, 90, 91, 1]))) := ⟨(Nat.le_of_ble_eq_true rfl), rfl⟩
theorem cf_226 : LC98.set 69 (.inr (.inr (8, [73, 74, 75, 0, 76, 77, 0, 0, 0, 0, 0, 78, 79, 0, 0, 80, 81, 0, 82, 83, 84, 85, 86, 0, 0, 87, 88, 89, 90, 91, 1].set 30 (89 + 3)))) = LC99 := rfl
theorem shm_c {B : zb_T} : ShM (mkE B LC73) := ⟨mkE_I _ _, ⟨(Nat.le_of_ble_eq_true rfl), rfl⟩, ⟨(Nat.le_of_ble_eq_true rfl), rfl⟩, ⟨(Nat.le_of_ble_eq_true rfl), rfl⟩⟩
def zq1 (σ : sg_T) : sg_T :=
  upr (upr (upr (up (up (up (up (up (up (up (upr (upr (upr (upr (σ) 70 zz) 71 zz) 72 zz) 73 zz) 73 (0 : Int32).toNatClampNeg 999) 73 (1 : Int32).toNatClampNeg 9) 73 (2 : Int32).toNatClampNeg 23) 73 (3 : Int32).toNatClampNeg 99) 73 (4 : Int32).toNatClampNeg 99) 73 (5 : Int32).toNatClampNeg 9999) 73 (6 : Int32).toNatClampNeg 9) 74 zz) 75 zz) 76 zz
def zq2 (rF : Int32) (sF : sg_T) : sg_T :=
  upr (up (up (up (up (up (up (upr (upr (upr (upr (up (up (up (up (upr (upr (upr (upr (upr (upr (upr (up (up (up (up (up (up (up (up (up (up (up (up (up (up (up (up (up (up (up (up (up (up (up (up (up (up (up (up (up (up (up (up (up (up (up (up (up (up (up (up (up (up (up (up (up (up (up (up (up (up (up (up (up (up (up (up (up (up (up (up (up (up (up (up (up (up (up (up (up (up (up (up (upr (up (sF) 69 13 rF) 77 zz) 77 (0 : Int32).toNatClampNeg 102) 77 (1 : Int32).toNatClampNeg 111) 77 (2 : Int32).toNatClampNeg 110) 77 (3 : Int32).toNatClampNeg 100) 77 (4 : Int32).toNatClampNeg 0) 77 (5 : Int32).toNatClampNeg 0) 77 (6 : Int32).toNatClampNeg 100) 77 (7 : Int32).toNatClampNeg 117) 77 (8 : Int32).toNatClampNeg 116) 77 (9 : Int32).toNatClampNeg 121) 77 (10 : Int32).toNatClampNeg 0) 77 (11 : Int32).toNatClampNeg 0) 77 (12 : Int32).toNatClampNeg 110) 77 (13 : Int32).toNatClampNeg 117) 77 (14 : Int32).toNatClampNeg 109) 77 (15 : Int32).toNatClampNeg 98) 77 (16 : Int32).toNatClampNeg 101) 77 (17 : Int32).toNatClampNeg 114) 77 (18 : Int32).toNatClampNeg 100) 77 (19 : Int32).toNatClampNeg 97) 77 (20 : Int32).toNatClampNeg 121) 77 (21 : Int32).toNatClampNeg 0) 77 (22 : Int32).toNatClampNeg 0) 77 (23 : Int32).toNatClampNeg 0) 77 (24 : Int32).toNatClampNeg 116) 77 (25 : Int32).toNatClampNeg 105) 77 (26 : Int32).toNatClampNeg 114) 77 (27 : Int32).toNatClampNeg 101) 77 (28 : Int32).toNatClampNeg 100) 77 (29 : Int32).toNatClampNeg 0) 77 (30 : Int32).toNatClampNeg 109) 77 (31 : Int32).toNatClampNeg 105) 77 (32 : Int32).toNatClampNeg 115) 77 (33 : Int32).toNatClampNeg 115) 77 (34 : Int32).toNatClampNeg 101) 77 (35 : Int32).toNatClampNeg 100) 77 (36 : Int32).toNatClampNeg 115) 77 (37 : Int32).toNatClampNeg 101) 77 (38 : Int32).toNatClampNeg 116) 77 (39 : Int32).toNatClampNeg 115) 77 (40 : Int32).toNatClampNeg 0) 77 (41 : Int32).toNatClampNeg 0) 77 (42 : Int32).toNatClampNeg 116) 77 (43 : Int32).toNatClampNeg 105) 77 (44 : Int32).toNatClampNeg 114) 77 (45 : Int32).toNatClampNeg 101) 77 (46 : Int32).toNatClampNeg 115) 77 (47 : Int32).toNatClampNeg 0) 77 (48 : Int32).toNatClampNeg 103) 77 (49 : Int32).toNatClampNeg 114) 77 (50 : Int32).toNatClampNeg 111) 77 (51 : Int32).toNatClampNeg 119) 77 (52 : Int32).toNatClampNeg 115) 77 (53 : Int32).toNatClampNeg 0) 77 (54 : Int32).toNatClampNeg 111) 77 (55 : Int32).toNatClampNeg 114) 77 (56 : Int32).toNatClampNeg 0) 77 (57 : Int32).toNatClampNeg 0) 77 (58 : Int32).toNatClampNeg 0) 77 (59 : Int32).toNatClampNeg 0) 77 (60 : Int32).toNatClampNeg 97) 77 (61 : Int32).toNatClampNeg 110) 77 (62 : Int32).toNatClampNeg 100) 77 (63 : Int32).toNatClampNeg 0) 77 (64 : Int32).toNatClampNeg 0) 77 (65 : Int32).toNatClampNeg 0) 77 (66 : Int32).toNatClampNeg 110) 77 (67 : Int32).toNatClampNeg 111) 77 (68 : Int32).toNatClampNeg 116) 77 (69 : Int32).toNatClampNeg 0) 77 (70 : Int32).toNatClampNeg 0) 77 (71 : Int32).toNatClampNeg 0) 78 zz) 79 zz) 80 zz) 81 zz) 82 zz) 83 zz) 84 zz) 84 (0 : Int32).toNatClampNeg (-1)) 84 (1 : Int32).toNatClampNeg (-1)) 84 (2 : Int32).toNatClampNeg (-1)) 84 (3 : Int32).toNatClampNeg (-1)) 85 zz) 86 zz) 87 zz) 88 zz) 88 (0 : Int32).toNatClampNeg (-1)) 88 (1 : Int32).toNatClampNeg 0) 88 (2 : Int32).toNatClampNeg 0) 88 (3 : Int32).toNatClampNeg 1) 88 (4 : Int32).toNatClampNeg 2) 88 (5 : Int32).toNatClampNeg 0) 89 zz
theorem okX8_init : yX8_init.cls ≠ "java/lang/invoke/MethodHandle" ∧ yX8_init.cls ≠ "java/lang/invoke/VarHandle" ∧ (parseMethodDescriptor yX8_init.desc).map (fun d => d.parameters.length) = some 0 := by decide +kernel
abbrev rm_X8_init : Room := { frames := 2, cells := 20, slots := 2045, locals := 200 }
set_option maxHeartbeats 4000000 in
set_option maxRecDepth 100000 in
theorem n_X8 {l : Launch} {B : zb_T} {σ sF : sg_T} {rF : Int32} (h3 : f_X8_firstText (zq1 σ) = some (rF, sF)) : Cn l yX8_init cX8_init 1 rm_X8_init B [.ref (zba B + 69)] LC59 σ LC99 (zq2 rF sF) 20 2045 := by
  refine Cn.start (by decide) rfl (Nat.le_of_ble_eq_true rfl) ?_
  intro p e s m below meth c X hin hw ls hl
  have X : Cz B p s m _ meth c cX8_init 1 RX8 none := X
  have hl : lv_has ls 1 [(0, .ref (zba B + 69))] := hl
  refine lv_aload_n X.1 X.2.1 dX8_init_0 rfl (lv_at hl 0 rfl) ?_
  refine z_obj X hl.1 qw861 qw89 qw90 (Nat.le_of_ble_eq_true rfl) (Nat.le_of_ble_eq_true rfl) dX8_init_1 ?_
  refine lv_aload_n X.1 X.2.1 dX8_init_4 rfl (lv_at hl 0 rfl) ?_
  refine lv_bipush (v := 58) X.1 X.2.1 dX8_init_5 (by decide) ?_
  refine y_newa X hw (atype := .int) (ty := .int) rfl qw122 (y_fc (k := 0) X.2.2.2.2.2.1 rfl (Or.inl rfl)) rfl (k := 58) (by decide) (by decide) (by decide) (Nat.le_of_ble_eq_true rfl) (Nat.le_of_ble_eq_true rfl) (L' := LC60) (q := 70) cf_142 cf_143 dX8_init_7 (fun H hw => ?_)
  obtain ⟨σ1, e2⟩ : ∃ x, x = upr σ 70 zz := ⟨_, rfl⟩
  rw [← e2] at hw
  refine y_putR X hin hw cf_144 (C := RX8) (T := TX8) (N := 31) rfl iwX8 tyX8 tyX8_ok nmX8 0 (by decide) (Nat.le_of_ble_eq_true rfl) qw866 rfl rfl (q := 70) rfl rfl (L' := LC61) cf_145 dX8_init_9 (fun H locs hw => ?_)
  refine lv_aload_n X.1 X.2.1 dX8_init_12 rfl (lv_at hl 0 rfl) ?_
  refine lv_bipush (v := 58) X.1 X.2.1 dX8_init_13 (by decide) ?_
  refine y_newa X hw (atype := .int) (ty := .int) rfl qw122 (y_fc (k := 0) X.2.2.2.2.2.1 rfl (Or.inl rfl)) rfl (k := 58) (by decide) (by decide) (by decide) (Nat.le_of_ble_eq_true rfl) (Nat.le_of_ble_eq_true rfl) (L' := LC62) (q := 71) cf_146 cf_147 dX8_init_15 (fun H hw => ?_)
  obtain ⟨σ3, e4⟩ : ∃ x, x = upr σ1 71 zz := ⟨_, rfl⟩
  rw [← e4] at hw
  refine y_putR X hin hw cf_148 (C := RX8) (T := TX8) (N := 31) rfl iwX8 tyX8 tyX8_ok nmX8 1 (by decide) (Nat.le_of_ble_eq_true rfl) qw867 rfl rfl (q := 71) rfl rfl (L' := LC63) cf_149 dX8_init_17 (fun H locs hw => ?_)
  refine lv_aload_n X.1 X.2.1 dX8_init_20 rfl (lv_at hl 0 rfl) ?_
  refine lv_bipush (v := 58) X.1 X.2.1 dX8_init_21 (by decide) ?_
  refine y_newa X hw (atype := .int) (ty := .int) rfl qw122 (y_fc (k := 0) X.2.2.2.2.2.1 rfl (Or.inl rfl)) rfl (k := 58) (by decide) (by decide) (by decide) (Nat.le_of_ble_eq_true rfl) (Nat.le_of_ble_eq_true rfl) (L' := LC64) (q := 72) cf_150 cf_151 dX8_init_23 (fun H hw => ?_)
  obtain ⟨σ5, e6⟩ : ∃ x, x = upr σ3 72 zz := ⟨_, rfl⟩
  rw [← e6] at hw
  refine y_putR X hin hw cf_152 (C := RX8) (T := TX8) (N := 31) rfl iwX8 tyX8 tyX8_ok nmX8 2 (by decide) (Nat.le_of_ble_eq_true rfl) qw868 rfl rfl (q := 72) rfl rfl (L' := LC65) cf_153 dX8_init_25 (fun H locs hw => ?_)
  refine lv_aload_n X.1 X.2.1 dX8_init_28 rfl (lv_at hl 0 rfl) ?_
  refine lv_bipush (v := 7) X.1 X.2.1 dX8_init_29 (by decide) ?_
  refine y_newa X hw (atype := .int) (ty := .int) rfl qw122 (y_fc (k := 0) X.2.2.2.2.2.1 rfl (Or.inl rfl)) rfl (k := 7) (by decide) (by decide) (by decide) (Nat.le_of_ble_eq_true rfl) (Nat.le_of_ble_eq_true rfl) (L' := LC66) (q := 73) cf_154 cf_155 dX8_init_31 (fun H hw => ?_)
  obtain ⟨σ7, e8⟩ : ∃ x, x = upr σ5 73 zz := ⟨_, rfl⟩
  rw [← e8] at hw
  refine lv_dup X.1 X.2.1 dX8_init_33 rfl ?_
  refine lv_iconst (v := 0) X.1 X.2.1 dX8_init_34 (by decide) ?_
  refine lv_sipush (v := 999) X.1 X.2.1 dX8_init_35 (by decide) ?_
  refine z_iast X hw (pl := 73) (n := 7) cf_156 (show vp_in 0 7 by unfold vp_in; decide) dX8_init_38 (fun H locs hw => ?_)
  obtain ⟨σ9, e10⟩ : ∃ x, x = up σ7 73 (0 : Int32).toNatClampNeg 999 := ⟨_, rfl⟩
  rw [← e10] at hw
  refine lv_dup X.1 X.2.1 dX8_init_39 rfl ?_
  refine lv_iconst (v := 1) X.1 X.2.1 dX8_init_40 (by decide) ?_
  refine lv_bipush (v := 9) X.1 X.2.1 dX8_init_41 (by decide) ?_
  refine z_iast X hw (pl := 73) (n := 7) cf_156 (show vp_in 1 7 by unfold vp_in; decide) dX8_init_43 (fun H locs hw => ?_)
  obtain ⟨σ11, e12⟩ : ∃ x, x = up σ9 73 (1 : Int32).toNatClampNeg 9 := ⟨_, rfl⟩
  rw [← e12] at hw
  refine lv_dup X.1 X.2.1 dX8_init_44 rfl ?_
  refine lv_iconst (v := 2) X.1 X.2.1 dX8_init_45 (by decide) ?_
  refine lv_bipush (v := 23) X.1 X.2.1 dX8_init_46 (by decide) ?_
  refine z_iast X hw (pl := 73) (n := 7) cf_156 (show vp_in 2 7 by unfold vp_in; decide) dX8_init_48 (fun H locs hw => ?_)
  obtain ⟨σ13, e14⟩ : ∃ x, x = up σ11 73 (2 : Int32).toNatClampNeg 23 := ⟨_, rfl⟩
  rw [← e14] at hw
  refine lv_dup X.1 X.2.1 dX8_init_49 rfl ?_
  refine lv_iconst (v := 3) X.1 X.2.1 dX8_init_50 (by decide) ?_
  refine lv_bipush (v := 99) X.1 X.2.1 dX8_init_51 (by decide) ?_
  refine z_iast X hw (pl := 73) (n := 7) cf_156 (show vp_in 3 7 by unfold vp_in; decide) dX8_init_53 (fun H locs hw => ?_)
  obtain ⟨σ15, e16⟩ : ∃ x, x = up σ13 73 (3 : Int32).toNatClampNeg 99 := ⟨_, rfl⟩
  rw [← e16] at hw
  refine lv_dup X.1 X.2.1 dX8_init_54 rfl ?_
  refine lv_iconst (v := 4) X.1 X.2.1 dX8_init_55 (by decide) ?_
  refine lv_bipush (v := 99) X.1 X.2.1 dX8_init_56 (by decide) ?_
  refine z_iast X hw (pl := 73) (n := 7) cf_156 (show vp_in 4 7 by unfold vp_in; decide) dX8_init_58 (fun H locs hw => ?_)
  obtain ⟨σ17, e18⟩ : ∃ x, x = up σ15 73 (4 : Int32).toNatClampNeg 99 := ⟨_, rfl⟩
  rw [← e18] at hw
  refine lv_dup X.1 X.2.1 dX8_init_59 rfl ?_
  refine lv_iconst (v := 5) X.1 X.2.1 dX8_init_60 (by decide) ?_
  refine lv_sipush (v := 9999) X.1 X.2.1 dX8_init_61 (by decide) ?_
  refine z_iast X hw (pl := 73) (n := 7) cf_156 (show vp_in 5 7 by unfold vp_in; decide) dX8_init_64 (fun H locs hw => ?_)
  obtain ⟨σ19, e20⟩ : ∃ x, x = up σ17 73 (5 : Int32).toNatClampNeg 9999 := ⟨_, rfl⟩
  rw [← e20] at hw
  refine lv_dup X.1 X.2.1 dX8_init_65 rfl ?_
  refine lv_bipush (v := 6) X.1 X.2.1 dX8_init_66 (by decide) ?_
  refine lv_bipush (v := 9) X.1 X.2.1 dX8_init_68 (by decide) ?_
  refine z_iast X hw (pl := 73) (n := 7) cf_156 (show vp_in 6 7 by unfold vp_in; decide) dX8_init_70 (fun H locs hw => ?_)
  obtain ⟨σ21, e22⟩ : ∃ x, x = up σ19 73 (6 : Int32).toNatClampNeg 9 := ⟨_, rfl⟩
  rw [← e22] at hw
  refine y_putR X hin hw cf_157 (C := RX8) (T := TX8) (N := 31) rfl iwX8 tyX8 tyX8_ok nmX8 4 (by decide) (Nat.le_of_ble_eq_true rfl) qw870 rfl rfl (q := 73) rfl rfl (L' := LC67) cf_158 dX8_init_71 (fun H locs hw => ?_)
  refine lv_aload_n X.1 X.2.1 dX8_init_74 rfl (lv_at hl 0 rfl) ?_
  refine lv_sipush (v := 160) X.1 X.2.1 dX8_init_75 (by decide) ?_
  refine y_newa X hw (atype := .int) (ty := .int) rfl qw122 (y_fc (k := 0) X.2.2.2.2.2.1 rfl (Or.inl rfl)) rfl (k := 160) (by decide) (by decide) (by decide) (Nat.le_of_ble_eq_true rfl) (Nat.le_of_ble_eq_true rfl) (L' := LC68) (q := 74) cf_159 cf_160 dX8_init_78 (fun H hw => ?_)
  obtain ⟨σ23, e24⟩ : ∃ x, x = upr σ21 74 zz := ⟨_, rfl⟩
  rw [← e24] at hw
  refine y_putR X hin hw cf_161 (C := RX8) (T := TX8) (N := 31) rfl iwX8 tyX8 tyX8_ok nmX8 5 (by decide) (Nat.le_of_ble_eq_true rfl) qw871 rfl rfl (q := 74) rfl rfl (L' := LC69) cf_162 dX8_init_80 (fun H locs hw => ?_)
  refine lv_aload_n X.1 X.2.1 dX8_init_83 rfl (lv_at hl 0 rfl) ?_
  refine lv_sipush (v := 960) X.1 X.2.1 dX8_init_84 (by decide) ?_
  refine y_newa X hw (atype := .int) (ty := .int) rfl qw122 (y_fc (k := 0) X.2.2.2.2.2.1 rfl (Or.inl rfl)) rfl (k := 960) (by decide) (by decide) (by decide) (Nat.le_of_ble_eq_true rfl) (Nat.le_of_ble_eq_true rfl) (L' := LC70) (q := 75) cf_163 cf_164 dX8_init_87 (fun H hw => ?_)
  obtain ⟨σ25, e26⟩ : ∃ x, x = upr σ23 75 zz := ⟨_, rfl⟩
  rw [← e26] at hw
  refine y_putR X hin hw cf_165 (C := RX8) (T := TX8) (N := 31) rfl iwX8 tyX8 tyX8_ok nmX8 11 (by decide) (Nat.le_of_ble_eq_true rfl) qw877 rfl rfl (q := 75) rfl rfl (L' := LC71) cf_166 dX8_init_89 (fun H locs hw => ?_)
  refine lv_aload_n X.1 X.2.1 dX8_init_92 rfl (lv_at hl 0 rfl) ?_
  refine lv_bipush (v := 18) X.1 X.2.1 dX8_init_93 (by decide) ?_
  refine y_newa X hw (atype := .int) (ty := .int) rfl qw122 (y_fc (k := 0) X.2.2.2.2.2.1 rfl (Or.inl rfl)) rfl (k := 18) (by decide) (by decide) (by decide) (Nat.le_of_ble_eq_true rfl) (Nat.le_of_ble_eq_true rfl) (L' := LC72) (q := 76) cf_167 cf_168 dX8_init_95 (fun H hw => ?_)
  obtain ⟨σ27, e28⟩ : ∃ x, x = upr σ25 76 zz := ⟨_, rfl⟩
  rw [← e28] at hw
  refine y_putR X hin hw cf_169 (C := RX8) (T := TX8) (N := 31) rfl iwX8 tyX8 tyX8_ok nmX8 12 (by decide) (Nat.le_of_ble_eq_true rfl) qw878 rfl rfl (q := 76) rfl rfl (L' := LC73) cf_170 dX8_init_97 (fun H locs hw => ?_)
  refine lv_aload_n X.1 X.2.1 dX8_init_100 rfl (lv_at hl 0 rfl) ?_
  refine lv_aload_n X.1 X.2.1 dX8_init_101 rfl (lv_at hl 0 rfl) ?_
  have hF : f_X8_firstText σ27 = some (rF, sF) := by rw [e28, e26, e24, e22, e20, e18, e16, e14, e12, e10, e8, e6, e4, e2]; exact h3
  refine z_callC X hw (k_X8_firstText (E := mkE B LC73) shm_c hF) (pl := 69) (ci := 8) (ks := [73, 74, 75, 0, 76, 77, 0, 0, 0, 0, 0, 78, 79, 0, 0, 1, 1, 0, 1, 1, 1, 1, 1, 0, 0, 1, 1, 1, 1, 1, 1]) cf_171 (C := RX8) (T := TX8) (N := 31) rfl qw862 qw864 qw27 qw79 qw865 okX8_firstText ⟨rfl, rfl⟩ ⟨(Nat.le_of_ble_eq_true rfl), (Nat.le_of_ble_eq_true rfl)⟩ ⟨(Nat.le_of_ble_eq_true rfl), (Nat.le_of_ble_eq_true rfl)⟩ rfl hl.1 (rest := [.ref (zba B + 69)]) rfl (Nat.le_of_ble_eq_true rfl) dX8_init_102 (st1 := [.int rF, .ref (zba B + 69)]) rfl (fun H locs hw => ?_)
  refine z_put X hw (pl := 69) (ci := 8) (ks := [73, 74, 75, 0, 76, 77, 0, 0, 0, 0, 0, 78, 79, 0, 0, 1, 1, 0, 1, 1, 1, 1, 1, 0, 0, 1, 1, 1, 1, 1, 1]) cf_171 (C := RX8) (T := TX8) (N := 31) rfl iwX8 tyX8 tyX8_ok nmX8 13 (by decide) (Nat.le_of_ble_eq_true rfl) qw879 rfl (v := .int rF) rfl rfl (x := rF) rfl dX8_init_105 (fun H locs hw => ?_)
  obtain ⟨σ29, e30⟩ : ∃ x, x = up sF 69 13 rF := ⟨_, rfl⟩
  rw [← e30] at hw
  refine lv_aload_n X.1 X.2.1 dX8_init_108 rfl (lv_at hl 0 rfl) ?_
  refine lv_bipush (v := 72) X.1 X.2.1 dX8_init_109 (by decide) ?_
  refine y_newa X hw (atype := .char) (ty := .char) rfl qw960 (y_fc (k := 1) X.2.2.2.2.2.1 rfl (Or.inr (Or.inl rfl))) rfl (k := 72) (by decide) (by decide) (by decide) (Nat.le_of_ble_eq_true rfl) (Nat.le_of_ble_eq_true rfl) (L' := LC74) (q := 77) cf_172 cf_173 dX8_init_111 (fun H hw => ?_)
  obtain ⟨σ31, e32⟩ : ∃ x, x = upr σ29 77 zz := ⟨_, rfl⟩
  rw [← e32] at hw
  refine lv_dup X.1 X.2.1 dX8_init_113 rfl ?_
  refine lv_iconst (v := 0) X.1 X.2.1 dX8_init_114 (by decide) ?_
  refine lv_bipush (v := 102) X.1 X.2.1 dX8_init_115 (by decide) ?_
  refine z_cast X hw (pl := 77) (n := 72) cf_174 (by decide +kernel) (show vp_in 0 72 by unfold vp_in; decide) dX8_init_117 (fun H locs hw => ?_)
  obtain ⟨σ33, e34⟩ : ∃ x, x = up σ31 77 (0 : Int32).toNatClampNeg 102 := ⟨_, rfl⟩
  rw [← e34] at hw
  refine lv_dup X.1 X.2.1 dX8_init_118 rfl ?_
  refine lv_iconst (v := 1) X.1 X.2.1 dX8_init_119 (by decide) ?_
  refine lv_bipush (v := 111) X.1 X.2.1 dX8_init_120 (by decide) ?_
  refine z_cast X hw (pl := 77) (n := 72) cf_174 (by decide +kernel) (show vp_in 1 72 by unfold vp_in; decide) dX8_init_122 (fun H locs hw => ?_)
  obtain ⟨σ35, e36⟩ : ∃ x, x = up σ33 77 (1 : Int32).toNatClampNeg 111 := ⟨_, rfl⟩
  rw [← e36] at hw
  refine lv_dup X.1 X.2.1 dX8_init_123 rfl ?_
  refine lv_iconst (v := 2) X.1 X.2.1 dX8_init_124 (by decide) ?_
  refine lv_bipush (v := 110) X.1 X.2.1 dX8_init_125 (by decide) ?_
  refine z_cast X hw (pl := 77) (n := 72) cf_174 (by decide +kernel) (show vp_in 2 72 by unfold vp_in; decide) dX8_init_127 (fun H locs hw => ?_)
  obtain ⟨σ37, e38⟩ : ∃ x, x = up σ35 77 (2 : Int32).toNatClampNeg 110 := ⟨_, rfl⟩
  rw [← e38] at hw
  refine lv_dup X.1 X.2.1 dX8_init_128 rfl ?_
  refine lv_iconst (v := 3) X.1 X.2.1 dX8_init_129 (by decide) ?_
  refine lv_bipush (v := 100) X.1 X.2.1 dX8_init_130 (by decide) ?_
  refine z_cast X hw (pl := 77) (n := 72) cf_174 (by decide +kernel) (show vp_in 3 72 by unfold vp_in; decide) dX8_init_132 (fun H locs hw => ?_)
  obtain ⟨σ39, e40⟩ : ∃ x, x = up σ37 77 (3 : Int32).toNatClampNeg 100 := ⟨_, rfl⟩
  rw [← e40] at hw
  refine lv_dup X.1 X.2.1 dX8_init_133 rfl ?_
  refine lv_iconst (v := 4) X.1 X.2.1 dX8_init_134 (by decide) ?_
  refine lv_iconst (v := 0) X.1 X.2.1 dX8_init_135 (by decide) ?_
  refine z_cast X hw (pl := 77) (n := 72) cf_174 (by decide +kernel) (show vp_in 4 72 by unfold vp_in; decide) dX8_init_136 (fun H locs hw => ?_)
  obtain ⟨σ41, e42⟩ : ∃ x, x = up σ39 77 (4 : Int32).toNatClampNeg 0 := ⟨_, rfl⟩
  rw [← e42] at hw
  refine lv_dup X.1 X.2.1 dX8_init_137 rfl ?_
  refine lv_iconst (v := 5) X.1 X.2.1 dX8_init_138 (by decide) ?_
  refine lv_iconst (v := 0) X.1 X.2.1 dX8_init_139 (by decide) ?_
  refine z_cast X hw (pl := 77) (n := 72) cf_174 (by decide +kernel) (show vp_in 5 72 by unfold vp_in; decide) dX8_init_140 (fun H locs hw => ?_)
  obtain ⟨σ43, e44⟩ : ∃ x, x = up σ41 77 (5 : Int32).toNatClampNeg 0 := ⟨_, rfl⟩
  rw [← e44] at hw
  refine lv_dup X.1 X.2.1 dX8_init_141 rfl ?_
  refine lv_bipush (v := 6) X.1 X.2.1 dX8_init_142 (by decide) ?_
  refine lv_bipush (v := 100) X.1 X.2.1 dX8_init_144 (by decide) ?_
  refine z_cast X hw (pl := 77) (n := 72) cf_174 (by decide +kernel) (show vp_in 6 72 by unfold vp_in; decide) dX8_init_146 (fun H locs hw => ?_)
  obtain ⟨σ45, e46⟩ : ∃ x, x = up σ43 77 (6 : Int32).toNatClampNeg 100 := ⟨_, rfl⟩
  rw [← e46] at hw
  refine lv_dup X.1 X.2.1 dX8_init_147 rfl ?_
  refine lv_bipush (v := 7) X.1 X.2.1 dX8_init_148 (by decide) ?_
  refine lv_bipush (v := 117) X.1 X.2.1 dX8_init_150 (by decide) ?_
  refine z_cast X hw (pl := 77) (n := 72) cf_174 (by decide +kernel) (show vp_in 7 72 by unfold vp_in; decide) dX8_init_152 (fun H locs hw => ?_)
  obtain ⟨σ47, e48⟩ : ∃ x, x = up σ45 77 (7 : Int32).toNatClampNeg 117 := ⟨_, rfl⟩
  rw [← e48] at hw
  refine lv_dup X.1 X.2.1 dX8_init_153 rfl ?_
  refine lv_bipush (v := 8) X.1 X.2.1 dX8_init_154 (by decide) ?_
  refine lv_bipush (v := 116) X.1 X.2.1 dX8_init_156 (by decide) ?_
  refine z_cast X hw (pl := 77) (n := 72) cf_174 (by decide +kernel) (show vp_in 8 72 by unfold vp_in; decide) dX8_init_158 (fun H locs hw => ?_)
  obtain ⟨σ49, e50⟩ : ∃ x, x = up σ47 77 (8 : Int32).toNatClampNeg 116 := ⟨_, rfl⟩
  rw [← e50] at hw
  refine lv_dup X.1 X.2.1 dX8_init_159 rfl ?_
  refine lv_bipush (v := 9) X.1 X.2.1 dX8_init_160 (by decide) ?_
  refine lv_bipush (v := 121) X.1 X.2.1 dX8_init_162 (by decide) ?_
  refine z_cast X hw (pl := 77) (n := 72) cf_174 (by decide +kernel) (show vp_in 9 72 by unfold vp_in; decide) dX8_init_164 (fun H locs hw => ?_)
  obtain ⟨σ51, e52⟩ : ∃ x, x = up σ49 77 (9 : Int32).toNatClampNeg 121 := ⟨_, rfl⟩
  rw [← e52] at hw
  refine lv_dup X.1 X.2.1 dX8_init_165 rfl ?_
  refine lv_bipush (v := 10) X.1 X.2.1 dX8_init_166 (by decide) ?_
  refine lv_iconst (v := 0) X.1 X.2.1 dX8_init_168 (by decide) ?_
  refine z_cast X hw (pl := 77) (n := 72) cf_174 (by decide +kernel) (show vp_in 10 72 by unfold vp_in; decide) dX8_init_169 (fun H locs hw => ?_)
  obtain ⟨σ53, e54⟩ : ∃ x, x = up σ51 77 (10 : Int32).toNatClampNeg 0 := ⟨_, rfl⟩
  rw [← e54] at hw
  refine lv_dup X.1 X.2.1 dX8_init_170 rfl ?_
  refine lv_bipush (v := 11) X.1 X.2.1 dX8_init_171 (by decide) ?_
  refine lv_iconst (v := 0) X.1 X.2.1 dX8_init_173 (by decide) ?_
  refine z_cast X hw (pl := 77) (n := 72) cf_174 (by decide +kernel) (show vp_in 11 72 by unfold vp_in; decide) dX8_init_174 (fun H locs hw => ?_)
  obtain ⟨σ55, e56⟩ : ∃ x, x = up σ53 77 (11 : Int32).toNatClampNeg 0 := ⟨_, rfl⟩
  rw [← e56] at hw
  refine lv_dup X.1 X.2.1 dX8_init_175 rfl ?_
  refine lv_bipush (v := 12) X.1 X.2.1 dX8_init_176 (by decide) ?_
  refine lv_bipush (v := 110) X.1 X.2.1 dX8_init_178 (by decide) ?_
  refine z_cast X hw (pl := 77) (n := 72) cf_174 (by decide +kernel) (show vp_in 12 72 by unfold vp_in; decide) dX8_init_180 (fun H locs hw => ?_)
  obtain ⟨σ57, e58⟩ : ∃ x, x = up σ55 77 (12 : Int32).toNatClampNeg 110 := ⟨_, rfl⟩
  rw [← e58] at hw
  refine lv_dup X.1 X.2.1 dX8_init_181 rfl ?_
  refine lv_bipush (v := 13) X.1 X.2.1 dX8_init_182 (by decide) ?_
  refine lv_bipush (v := 117) X.1 X.2.1 dX8_init_184 (by decide) ?_
  refine z_cast X hw (pl := 77) (n := 72) cf_174 (by decide +kernel) (show vp_in 13 72 by unfold vp_in; decide) dX8_init_186 (fun H locs hw => ?_)
  obtain ⟨σ59, e60⟩ : ∃ x, x = up σ57 77 (13 : Int32).toNatClampNeg 117 := ⟨_, rfl⟩
  rw [← e60] at hw
  refine lv_dup X.1 X.2.1 dX8_init_187 rfl ?_
  refine lv_bipush (v := 14) X.1 X.2.1 dX8_init_188 (by decide) ?_
  refine lv_bipush (v := 109) X.1 X.2.1 dX8_init_190 (by decide) ?_
  refine z_cast X hw (pl := 77) (n := 72) cf_174 (by decide +kernel) (show vp_in 14 72 by unfold vp_in; decide) dX8_init_192 (fun H locs hw => ?_)
  obtain ⟨σ61, e62⟩ : ∃ x, x = up σ59 77 (14 : Int32).toNatClampNeg 109 := ⟨_, rfl⟩
  rw [← e62] at hw
  refine lv_dup X.1 X.2.1 dX8_init_193 rfl ?_
  refine lv_bipush (v := 15) X.1 X.2.1 dX8_init_194 (by decide) ?_
  refine lv_bipush (v := 98) X.1 X.2.1 dX8_init_196 (by decide) ?_
  refine z_cast X hw (pl := 77) (n := 72) cf_174 (by decide +kernel) (show vp_in 15 72 by unfold vp_in; decide) dX8_init_198 (fun H locs hw => ?_)
  obtain ⟨σ63, e64⟩ : ∃ x, x = up σ61 77 (15 : Int32).toNatClampNeg 98 := ⟨_, rfl⟩
  rw [← e64] at hw
  refine lv_dup X.1 X.2.1 dX8_init_199 rfl ?_
  refine lv_bipush (v := 16) X.1 X.2.1 dX8_init_200 (by decide) ?_
  refine lv_bipush (v := 101) X.1 X.2.1 dX8_init_202 (by decide) ?_
  refine z_cast X hw (pl := 77) (n := 72) cf_174 (by decide +kernel) (show vp_in 16 72 by unfold vp_in; decide) dX8_init_204 (fun H locs hw => ?_)
  obtain ⟨σ65, e66⟩ : ∃ x, x = up σ63 77 (16 : Int32).toNatClampNeg 101 := ⟨_, rfl⟩
  rw [← e66] at hw
  refine lv_dup X.1 X.2.1 dX8_init_205 rfl ?_
  refine lv_bipush (v := 17) X.1 X.2.1 dX8_init_206 (by decide) ?_
  refine lv_bipush (v := 114) X.1 X.2.1 dX8_init_208 (by decide) ?_
  refine z_cast X hw (pl := 77) (n := 72) cf_174 (by decide +kernel) (show vp_in 17 72 by unfold vp_in; decide) dX8_init_210 (fun H locs hw => ?_)
  obtain ⟨σ67, e68⟩ : ∃ x, x = up σ65 77 (17 : Int32).toNatClampNeg 114 := ⟨_, rfl⟩
  rw [← e68] at hw
  refine lv_dup X.1 X.2.1 dX8_init_211 rfl ?_
  refine lv_bipush (v := 18) X.1 X.2.1 dX8_init_212 (by decide) ?_
  refine lv_bipush (v := 100) X.1 X.2.1 dX8_init_214 (by decide) ?_
  refine z_cast X hw (pl := 77) (n := 72) cf_174 (by decide +kernel) (show vp_in 18 72 by unfold vp_in; decide) dX8_init_216 (fun H locs hw => ?_)
  obtain ⟨σ69, e70⟩ : ∃ x, x = up σ67 77 (18 : Int32).toNatClampNeg 100 := ⟨_, rfl⟩
  rw [← e70] at hw
  refine lv_dup X.1 X.2.1 dX8_init_217 rfl ?_
  refine lv_bipush (v := 19) X.1 X.2.1 dX8_init_218 (by decide) ?_
  refine lv_bipush (v := 97) X.1 X.2.1 dX8_init_220 (by decide) ?_
  refine z_cast X hw (pl := 77) (n := 72) cf_174 (by decide +kernel) (show vp_in 19 72 by unfold vp_in; decide) dX8_init_222 (fun H locs hw => ?_)
  obtain ⟨σ71, e72⟩ : ∃ x, x = up σ69 77 (19 : Int32).toNatClampNeg 97 := ⟨_, rfl⟩
  rw [← e72] at hw
  refine lv_dup X.1 X.2.1 dX8_init_223 rfl ?_
  refine lv_bipush (v := 20) X.1 X.2.1 dX8_init_224 (by decide) ?_
  refine lv_bipush (v := 121) X.1 X.2.1 dX8_init_226 (by decide) ?_
  refine z_cast X hw (pl := 77) (n := 72) cf_174 (by decide +kernel) (show vp_in 20 72 by unfold vp_in; decide) dX8_init_228 (fun H locs hw => ?_)
  obtain ⟨σ73, e74⟩ : ∃ x, x = up σ71 77 (20 : Int32).toNatClampNeg 121 := ⟨_, rfl⟩
  rw [← e74] at hw
  refine lv_dup X.1 X.2.1 dX8_init_229 rfl ?_
  refine lv_bipush (v := 21) X.1 X.2.1 dX8_init_230 (by decide) ?_
  refine lv_iconst (v := 0) X.1 X.2.1 dX8_init_232 (by decide) ?_
  refine z_cast X hw (pl := 77) (n := 72) cf_174 (by decide +kernel) (show vp_in 21 72 by unfold vp_in; decide) dX8_init_233 (fun H locs hw => ?_)
  obtain ⟨σ75, e76⟩ : ∃ x, x = up σ73 77 (21 : Int32).toNatClampNeg 0 := ⟨_, rfl⟩
  rw [← e76] at hw
  refine lv_dup X.1 X.2.1 dX8_init_234 rfl ?_
  refine lv_bipush (v := 22) X.1 X.2.1 dX8_init_235 (by decide) ?_
  refine lv_iconst (v := 0) X.1 X.2.1 dX8_init_237 (by decide) ?_
  refine z_cast X hw (pl := 77) (n := 72) cf_174 (by decide +kernel) (show vp_in 22 72 by unfold vp_in; decide) dX8_init_238 (fun H locs hw => ?_)
  obtain ⟨σ77, e78⟩ : ∃ x, x = up σ75 77 (22 : Int32).toNatClampNeg 0 := ⟨_, rfl⟩
  rw [← e78] at hw
  refine lv_dup X.1 X.2.1 dX8_init_239 rfl ?_
  refine lv_bipush (v := 23) X.1 X.2.1 dX8_init_240 (by decide) ?_
  refine lv_iconst (v := 0) X.1 X.2.1 dX8_init_242 (by decide) ?_
  refine z_cast X hw (pl := 77) (n := 72) cf_174 (by decide +kernel) (show vp_in 23 72 by unfold vp_in; decide) dX8_init_243 (fun H locs hw => ?_)
  obtain ⟨σ79, e80⟩ : ∃ x, x = up σ77 77 (23 : Int32).toNatClampNeg 0 := ⟨_, rfl⟩
  rw [← e80] at hw
  refine lv_dup X.1 X.2.1 dX8_init_244 rfl ?_
  refine lv_bipush (v := 24) X.1 X.2.1 dX8_init_245 (by decide) ?_
  refine lv_bipush (v := 116) X.1 X.2.1 dX8_init_247 (by decide) ?_
  refine z_cast X hw (pl := 77) (n := 72) cf_174 (by decide +kernel) (show vp_in 24 72 by unfold vp_in; decide) dX8_init_249 (fun H locs hw => ?_)
  obtain ⟨σ81, e82⟩ : ∃ x, x = up σ79 77 (24 : Int32).toNatClampNeg 116 := ⟨_, rfl⟩
  rw [← e82] at hw
  refine lv_dup X.1 X.2.1 dX8_init_250 rfl ?_
  refine lv_bipush (v := 25) X.1 X.2.1 dX8_init_251 (by decide) ?_
  refine lv_bipush (v := 105) X.1 X.2.1 dX8_init_253 (by decide) ?_
  refine z_cast X hw (pl := 77) (n := 72) cf_174 (by decide +kernel) (show vp_in 25 72 by unfold vp_in; decide) dX8_init_255 (fun H locs hw => ?_)
  obtain ⟨σ83, e84⟩ : ∃ x, x = up σ81 77 (25 : Int32).toNatClampNeg 105 := ⟨_, rfl⟩
  rw [← e84] at hw
  refine lv_dup X.1 X.2.1 dX8_init_256 rfl ?_
  refine lv_bipush (v := 26) X.1 X.2.1 dX8_init_257 (by decide) ?_
  refine lv_bipush (v := 114) X.1 X.2.1 dX8_init_259 (by decide) ?_
  refine z_cast X hw (pl := 77) (n := 72) cf_174 (by decide +kernel) (show vp_in 26 72 by unfold vp_in; decide) dX8_init_261 (fun H locs hw => ?_)
  obtain ⟨σ85, e86⟩ : ∃ x, x = up σ83 77 (26 : Int32).toNatClampNeg 114 := ⟨_, rfl⟩
  rw [← e86] at hw
  refine lv_dup X.1 X.2.1 dX8_init_262 rfl ?_
  refine lv_bipush (v := 27) X.1 X.2.1 dX8_init_263 (by decide) ?_
  refine lv_bipush (v := 101) X.1 X.2.1 dX8_init_265 (by decide) ?_
  refine z_cast X hw (pl := 77) (n := 72) cf_174 (by decide +kernel) (show vp_in 27 72 by unfold vp_in; decide) dX8_init_267 (fun H locs hw => ?_)
  obtain ⟨σ87, e88⟩ : ∃ x, x = up σ85 77 (27 : Int32).toNatClampNeg 101 := ⟨_, rfl⟩
  rw [← e88] at hw
  refine lv_dup X.1 X.2.1 dX8_init_268 rfl ?_
  refine lv_bipush (v := 28) X.1 X.2.1 dX8_init_269 (by decide) ?_
  refine lv_bipush (v := 100) X.1 X.2.1 dX8_init_271 (by decide) ?_
  refine z_cast X hw (pl := 77) (n := 72) cf_174 (by decide +kernel) (show vp_in 28 72 by unfold vp_in; decide) dX8_init_273 (fun H locs hw => ?_)
  obtain ⟨σ89, e90⟩ : ∃ x, x = up σ87 77 (28 : Int32).toNatClampNeg 100 := ⟨_, rfl⟩
  rw [← e90] at hw
  refine lv_dup X.1 X.2.1 dX8_init_274 rfl ?_
  refine lv_bipush (v := 29) X.1 X.2.1 dX8_init_275 (by decide) ?_
  refine lv_iconst (v := 0) X.1 X.2.1 dX8_init_277 (by decide) ?_
  refine z_cast X hw (pl := 77) (n := 72) cf_174 (by decide +kernel) (show vp_in 29 72 by unfold vp_in; decide) dX8_init_278 (fun H locs hw => ?_)
  obtain ⟨σ91, e92⟩ : ∃ x, x = up σ89 77 (29 : Int32).toNatClampNeg 0 := ⟨_, rfl⟩
  rw [← e92] at hw
  refine lv_dup X.1 X.2.1 dX8_init_279 rfl ?_
  refine lv_bipush (v := 30) X.1 X.2.1 dX8_init_280 (by decide) ?_
  refine lv_bipush (v := 109) X.1 X.2.1 dX8_init_282 (by decide) ?_
  refine z_cast X hw (pl := 77) (n := 72) cf_174 (by decide +kernel) (show vp_in 30 72 by unfold vp_in; decide) dX8_init_284 (fun H locs hw => ?_)
  obtain ⟨σ93, e94⟩ : ∃ x, x = up σ91 77 (30 : Int32).toNatClampNeg 109 := ⟨_, rfl⟩
  rw [← e94] at hw
  refine lv_dup X.1 X.2.1 dX8_init_285 rfl ?_
  refine lv_bipush (v := 31) X.1 X.2.1 dX8_init_286 (by decide) ?_
  refine lv_bipush (v := 105) X.1 X.2.1 dX8_init_288 (by decide) ?_
  refine z_cast X hw (pl := 77) (n := 72) cf_174 (by decide +kernel) (show vp_in 31 72 by unfold vp_in; decide) dX8_init_290 (fun H locs hw => ?_)
  obtain ⟨σ95, e96⟩ : ∃ x, x = up σ93 77 (31 : Int32).toNatClampNeg 105 := ⟨_, rfl⟩
  rw [← e96] at hw
  refine lv_dup X.1 X.2.1 dX8_init_291 rfl ?_
  refine lv_bipush (v := 32) X.1 X.2.1 dX8_init_292 (by decide) ?_
  refine lv_bipush (v := 115) X.1 X.2.1 dX8_init_294 (by decide) ?_
  refine z_cast X hw (pl := 77) (n := 72) cf_174 (by decide +kernel) (show vp_in 32 72 by unfold vp_in; decide) dX8_init_296 (fun H locs hw => ?_)
  obtain ⟨σ97, e98⟩ : ∃ x, x = up σ95 77 (32 : Int32).toNatClampNeg 115 := ⟨_, rfl⟩
  rw [← e98] at hw
  refine lv_dup X.1 X.2.1 dX8_init_297 rfl ?_
  refine lv_bipush (v := 33) X.1 X.2.1 dX8_init_298 (by decide) ?_
  refine lv_bipush (v := 115) X.1 X.2.1 dX8_init_300 (by decide) ?_
  refine z_cast X hw (pl := 77) (n := 72) cf_174 (by decide +kernel) (show vp_in 33 72 by unfold vp_in; decide) dX8_init_302 (fun H locs hw => ?_)
  obtain ⟨σ99, e100⟩ : ∃ x, x = up σ97 77 (33 : Int32).toNatClampNeg 115 := ⟨_, rfl⟩
  rw [← e100] at hw
  refine lv_dup X.1 X.2.1 dX8_init_303 rfl ?_
  refine lv_bipush (v := 34) X.1 X.2.1 dX8_init_304 (by decide) ?_
  refine lv_bipush (v := 101) X.1 X.2.1 dX8_init_306 (by decide) ?_
  refine z_cast X hw (pl := 77) (n := 72) cf_174 (by decide +kernel) (show vp_in 34 72 by unfold vp_in; decide) dX8_init_308 (fun H locs hw => ?_)
  obtain ⟨σ101, e102⟩ : ∃ x, x = up σ99 77 (34 : Int32).toNatClampNeg 101 := ⟨_, rfl⟩
  rw [← e102] at hw
  refine lv_dup X.1 X.2.1 dX8_init_309 rfl ?_
  refine lv_bipush (v := 35) X.1 X.2.1 dX8_init_310 (by decide) ?_
  refine lv_bipush (v := 100) X.1 X.2.1 dX8_init_312 (by decide) ?_
  refine z_cast X hw (pl := 77) (n := 72) cf_174 (by decide +kernel) (show vp_in 35 72 by unfold vp_in; decide) dX8_init_314 (fun H locs hw => ?_)
  obtain ⟨σ103, e104⟩ : ∃ x, x = up σ101 77 (35 : Int32).toNatClampNeg 100 := ⟨_, rfl⟩
  rw [← e104] at hw
  refine lv_dup X.1 X.2.1 dX8_init_315 rfl ?_
  refine lv_bipush (v := 36) X.1 X.2.1 dX8_init_316 (by decide) ?_
  refine lv_bipush (v := 115) X.1 X.2.1 dX8_init_318 (by decide) ?_
  refine z_cast X hw (pl := 77) (n := 72) cf_174 (by decide +kernel) (show vp_in 36 72 by unfold vp_in; decide) dX8_init_320 (fun H locs hw => ?_)
  obtain ⟨σ105, e106⟩ : ∃ x, x = up σ103 77 (36 : Int32).toNatClampNeg 115 := ⟨_, rfl⟩
  rw [← e106] at hw
  refine lv_dup X.1 X.2.1 dX8_init_321 rfl ?_
  refine lv_bipush (v := 37) X.1 X.2.1 dX8_init_322 (by decide) ?_
  refine lv_bipush (v := 101) X.1 X.2.1 dX8_init_324 (by decide) ?_
  refine z_cast X hw (pl := 77) (n := 72) cf_174 (by decide +kernel) (show vp_in 37 72 by unfold vp_in; decide) dX8_init_326 (fun H locs hw => ?_)
  obtain ⟨σ107, e108⟩ : ∃ x, x = up σ105 77 (37 : Int32).toNatClampNeg 101 := ⟨_, rfl⟩
  rw [← e108] at hw
  refine lv_dup X.1 X.2.1 dX8_init_327 rfl ?_
  refine lv_bipush (v := 38) X.1 X.2.1 dX8_init_328 (by decide) ?_
  refine lv_bipush (v := 116) X.1 X.2.1 dX8_init_330 (by decide) ?_
  refine z_cast X hw (pl := 77) (n := 72) cf_174 (by decide +kernel) (show vp_in 38 72 by unfold vp_in; decide) dX8_init_332 (fun H locs hw => ?_)
  obtain ⟨σ109, e110⟩ : ∃ x, x = up σ107 77 (38 : Int32).toNatClampNeg 116 := ⟨_, rfl⟩
  rw [← e110] at hw
  refine lv_dup X.1 X.2.1 dX8_init_333 rfl ?_
  refine lv_bipush (v := 39) X.1 X.2.1 dX8_init_334 (by decide) ?_
  refine lv_bipush (v := 115) X.1 X.2.1 dX8_init_336 (by decide) ?_
  refine z_cast X hw (pl := 77) (n := 72) cf_174 (by decide +kernel) (show vp_in 39 72 by unfold vp_in; decide) dX8_init_338 (fun H locs hw => ?_)
  obtain ⟨σ111, e112⟩ : ∃ x, x = up σ109 77 (39 : Int32).toNatClampNeg 115 := ⟨_, rfl⟩
  rw [← e112] at hw
  refine lv_dup X.1 X.2.1 dX8_init_339 rfl ?_
  refine lv_bipush (v := 40) X.1 X.2.1 dX8_init_340 (by decide) ?_
  refine lv_iconst (v := 0) X.1 X.2.1 dX8_init_342 (by decide) ?_
  refine z_cast X hw (pl := 77) (n := 72) cf_174 (by decide +kernel) (show vp_in 40 72 by unfold vp_in; decide) dX8_init_343 (fun H locs hw => ?_)
  obtain ⟨σ113, e114⟩ : ∃ x, x = up σ111 77 (40 : Int32).toNatClampNeg 0 := ⟨_, rfl⟩
  rw [← e114] at hw
  refine lv_dup X.1 X.2.1 dX8_init_344 rfl ?_
  refine lv_bipush (v := 41) X.1 X.2.1 dX8_init_345 (by decide) ?_
  refine lv_iconst (v := 0) X.1 X.2.1 dX8_init_347 (by decide) ?_
  refine z_cast X hw (pl := 77) (n := 72) cf_174 (by decide +kernel) (show vp_in 41 72 by unfold vp_in; decide) dX8_init_348 (fun H locs hw => ?_)
  obtain ⟨σ115, e116⟩ : ∃ x, x = up σ113 77 (41 : Int32).toNatClampNeg 0 := ⟨_, rfl⟩
  rw [← e116] at hw
  refine lv_dup X.1 X.2.1 dX8_init_349 rfl ?_
  refine lv_bipush (v := 42) X.1 X.2.1 dX8_init_350 (by decide) ?_
  refine lv_bipush (v := 116) X.1 X.2.1 dX8_init_352 (by decide) ?_
  refine z_cast X hw (pl := 77) (n := 72) cf_174 (by decide +kernel) (show vp_in 42 72 by unfold vp_in; decide) dX8_init_354 (fun H locs hw => ?_)
  obtain ⟨σ117, e118⟩ : ∃ x, x = up σ115 77 (42 : Int32).toNatClampNeg 116 := ⟨_, rfl⟩
  rw [← e118] at hw
  refine lv_dup X.1 X.2.1 dX8_init_355 rfl ?_
  refine lv_bipush (v := 43) X.1 X.2.1 dX8_init_356 (by decide) ?_
  refine lv_bipush (v := 105) X.1 X.2.1 dX8_init_358 (by decide) ?_
  refine z_cast X hw (pl := 77) (n := 72) cf_174 (by decide +kernel) (show vp_in 43 72 by unfold vp_in; decide) dX8_init_360 (fun H locs hw => ?_)
  obtain ⟨σ119, e120⟩ : ∃ x, x = up σ117 77 (43 : Int32).toNatClampNeg 105 := ⟨_, rfl⟩
  rw [← e120] at hw
  refine lv_dup X.1 X.2.1 dX8_init_361 rfl ?_
  refine lv_bipush (v := 44) X.1 X.2.1 dX8_init_362 (by decide) ?_
  refine lv_bipush (v := 114) X.1 X.2.1 dX8_init_364 (by decide) ?_
  refine z_cast X hw (pl := 77) (n := 72) cf_174 (by decide +kernel) (show vp_in 44 72 by unfold vp_in; decide) dX8_init_366 (fun H locs hw => ?_)
  obtain ⟨σ121, e122⟩ : ∃ x, x = up σ119 77 (44 : Int32).toNatClampNeg 114 := ⟨_, rfl⟩
  rw [← e122] at hw
  refine lv_dup X.1 X.2.1 dX8_init_367 rfl ?_
  refine lv_bipush (v := 45) X.1 X.2.1 dX8_init_368 (by decide) ?_
  refine lv_bipush (v := 101) X.1 X.2.1 dX8_init_370 (by decide) ?_
  refine z_cast X hw (pl := 77) (n := 72) cf_174 (by decide +kernel) (show vp_in 45 72 by unfold vp_in; decide) dX8_init_372 (fun H locs hw => ?_)
  obtain ⟨σ123, e124⟩ : ∃ x, x = up σ121 77 (45 : Int32).toNatClampNeg 101 := ⟨_, rfl⟩
  rw [← e124] at hw
  refine lv_dup X.1 X.2.1 dX8_init_373 rfl ?_
  refine lv_bipush (v := 46) X.1 X.2.1 dX8_init_374 (by decide) ?_
  refine lv_bipush (v := 115) X.1 X.2.1 dX8_init_376 (by decide) ?_
  refine z_cast X hw (pl := 77) (n := 72) cf_174 (by decide +kernel) (show vp_in 46 72 by unfold vp_in; decide) dX8_init_378 (fun H locs hw => ?_)
  obtain ⟨σ125, e126⟩ : ∃ x, x = up σ123 77 (46 : Int32).toNatClampNeg 115 := ⟨_, rfl⟩
  rw [← e126] at hw
  refine lv_dup X.1 X.2.1 dX8_init_379 rfl ?_
  refine lv_bipush (v := 47) X.1 X.2.1 dX8_init_380 (by decide) ?_
  refine lv_iconst (v := 0) X.1 X.2.1 dX8_init_382 (by decide) ?_
  refine z_cast X hw (pl := 77) (n := 72) cf_174 (by decide +kernel) (show vp_in 47 72 by unfold vp_in; decide) dX8_init_383 (fun H locs hw => ?_)
  obtain ⟨σ127, e128⟩ : ∃ x, x = up σ125 77 (47 : Int32).toNatClampNeg 0 := ⟨_, rfl⟩
  rw [← e128] at hw
  refine lv_dup X.1 X.2.1 dX8_init_384 rfl ?_
  refine lv_bipush (v := 48) X.1 X.2.1 dX8_init_385 (by decide) ?_
  refine lv_bipush (v := 103) X.1 X.2.1 dX8_init_387 (by decide) ?_
  refine z_cast X hw (pl := 77) (n := 72) cf_174 (by decide +kernel) (show vp_in 48 72 by unfold vp_in; decide) dX8_init_389 (fun H locs hw => ?_)
  obtain ⟨σ129, e130⟩ : ∃ x, x = up σ127 77 (48 : Int32).toNatClampNeg 103 := ⟨_, rfl⟩
  rw [← e130] at hw
  refine lv_dup X.1 X.2.1 dX8_init_390 rfl ?_
  refine lv_bipush (v := 49) X.1 X.2.1 dX8_init_391 (by decide) ?_
  refine lv_bipush (v := 114) X.1 X.2.1 dX8_init_393 (by decide) ?_
  refine z_cast X hw (pl := 77) (n := 72) cf_174 (by decide +kernel) (show vp_in 49 72 by unfold vp_in; decide) dX8_init_395 (fun H locs hw => ?_)
  obtain ⟨σ131, e132⟩ : ∃ x, x = up σ129 77 (49 : Int32).toNatClampNeg 114 := ⟨_, rfl⟩
  rw [← e132] at hw
  refine lv_dup X.1 X.2.1 dX8_init_396 rfl ?_
  refine lv_bipush (v := 50) X.1 X.2.1 dX8_init_397 (by decide) ?_
  refine lv_bipush (v := 111) X.1 X.2.1 dX8_init_399 (by decide) ?_
  refine z_cast X hw (pl := 77) (n := 72) cf_174 (by decide +kernel) (show vp_in 50 72 by unfold vp_in; decide) dX8_init_401 (fun H locs hw => ?_)
  obtain ⟨σ133, e134⟩ : ∃ x, x = up σ131 77 (50 : Int32).toNatClampNeg 111 := ⟨_, rfl⟩
  rw [← e134] at hw
  refine lv_dup X.1 X.2.1 dX8_init_402 rfl ?_
  refine lv_bipush (v := 51) X.1 X.2.1 dX8_init_403 (by decide) ?_
  refine lv_bipush (v := 119) X.1 X.2.1 dX8_init_405 (by decide) ?_
  refine z_cast X hw (pl := 77) (n := 72) cf_174 (by decide +kernel) (show vp_in 51 72 by unfold vp_in; decide) dX8_init_407 (fun H locs hw => ?_)
  obtain ⟨σ135, e136⟩ : ∃ x, x = up σ133 77 (51 : Int32).toNatClampNeg 119 := ⟨_, rfl⟩
  rw [← e136] at hw
  refine lv_dup X.1 X.2.1 dX8_init_408 rfl ?_
  refine lv_bipush (v := 52) X.1 X.2.1 dX8_init_409 (by decide) ?_
  refine lv_bipush (v := 115) X.1 X.2.1 dX8_init_411 (by decide) ?_
  refine z_cast X hw (pl := 77) (n := 72) cf_174 (by decide +kernel) (show vp_in 52 72 by unfold vp_in; decide) dX8_init_413 (fun H locs hw => ?_)
  obtain ⟨σ137, e138⟩ : ∃ x, x = up σ135 77 (52 : Int32).toNatClampNeg 115 := ⟨_, rfl⟩
  rw [← e138] at hw
  refine lv_dup X.1 X.2.1 dX8_init_414 rfl ?_
  refine lv_bipush (v := 53) X.1 X.2.1 dX8_init_415 (by decide) ?_
  refine lv_iconst (v := 0) X.1 X.2.1 dX8_init_417 (by decide) ?_
  refine z_cast X hw (pl := 77) (n := 72) cf_174 (by decide +kernel) (show vp_in 53 72 by unfold vp_in; decide) dX8_init_418 (fun H locs hw => ?_)
  obtain ⟨σ139, e140⟩ : ∃ x, x = up σ137 77 (53 : Int32).toNatClampNeg 0 := ⟨_, rfl⟩
  rw [← e140] at hw
  refine lv_dup X.1 X.2.1 dX8_init_419 rfl ?_
  refine lv_bipush (v := 54) X.1 X.2.1 dX8_init_420 (by decide) ?_
  refine lv_bipush (v := 111) X.1 X.2.1 dX8_init_422 (by decide) ?_
  refine z_cast X hw (pl := 77) (n := 72) cf_174 (by decide +kernel) (show vp_in 54 72 by unfold vp_in; decide) dX8_init_424 (fun H locs hw => ?_)
  obtain ⟨σ141, e142⟩ : ∃ x, x = up σ139 77 (54 : Int32).toNatClampNeg 111 := ⟨_, rfl⟩
  rw [← e142] at hw
  refine lv_dup X.1 X.2.1 dX8_init_425 rfl ?_
  refine lv_bipush (v := 55) X.1 X.2.1 dX8_init_426 (by decide) ?_
  refine lv_bipush (v := 114) X.1 X.2.1 dX8_init_428 (by decide) ?_
  refine z_cast X hw (pl := 77) (n := 72) cf_174 (by decide +kernel) (show vp_in 55 72 by unfold vp_in; decide) dX8_init_430 (fun H locs hw => ?_)
  obtain ⟨σ143, e144⟩ : ∃ x, x = up σ141 77 (55 : Int32).toNatClampNeg 114 := ⟨_, rfl⟩
  rw [← e144] at hw
  refine lv_dup X.1 X.2.1 dX8_init_431 rfl ?_
  refine lv_bipush (v := 56) X.1 X.2.1 dX8_init_432 (by decide) ?_
  refine lv_iconst (v := 0) X.1 X.2.1 dX8_init_434 (by decide) ?_
  refine z_cast X hw (pl := 77) (n := 72) cf_174 (by decide +kernel) (show vp_in 56 72 by unfold vp_in; decide) dX8_init_435 (fun H locs hw => ?_)
  obtain ⟨σ145, e146⟩ : ∃ x, x = up σ143 77 (56 : Int32).toNatClampNeg 0 := ⟨_, rfl⟩
  rw [← e146] at hw
  refine lv_dup X.1 X.2.1 dX8_init_436 rfl ?_
  refine lv_bipush (v := 57) X.1 X.2.1 dX8_init_437 (by decide) ?_
  refine lv_iconst (v := 0) X.1 X.2.1 dX8_init_439 (by decide) ?_
  refine z_cast X hw (pl := 77) (n := 72) cf_174 (by decide +kernel) (show vp_in 57 72 by unfold vp_in; decide) dX8_init_440 (fun H locs hw => ?_)
  obtain ⟨σ147, e148⟩ : ∃ x, x = up σ145 77 (57 : Int32).toNatClampNeg 0 := ⟨_, rfl⟩
  rw [← e148] at hw
  refine lv_dup X.1 X.2.1 dX8_init_441 rfl ?_
  refine lv_bipush (v := 58) X.1 X.2.1 dX8_init_442 (by decide) ?_
  refine lv_iconst (v := 0) X.1 X.2.1 dX8_init_444 (by decide) ?_
  refine z_cast X hw (pl := 77) (n := 72) cf_174 (by decide +kernel) (show vp_in 58 72 by unfold vp_in; decide) dX8_init_445 (fun H locs hw => ?_)
  obtain ⟨σ149, e150⟩ : ∃ x, x = up σ147 77 (58 : Int32).toNatClampNeg 0 := ⟨_, rfl⟩
  rw [← e150] at hw
  refine lv_dup X.1 X.2.1 dX8_init_446 rfl ?_
  refine lv_bipush (v := 59) X.1 X.2.1 dX8_init_447 (by decide) ?_
  refine lv_iconst (v := 0) X.1 X.2.1 dX8_init_449 (by decide) ?_
  refine z_cast X hw (pl := 77) (n := 72) cf_174 (by decide +kernel) (show vp_in 59 72 by unfold vp_in; decide) dX8_init_450 (fun H locs hw => ?_)
  obtain ⟨σ151, e152⟩ : ∃ x, x = up σ149 77 (59 : Int32).toNatClampNeg 0 := ⟨_, rfl⟩
  rw [← e152] at hw
  refine lv_dup X.1 X.2.1 dX8_init_451 rfl ?_
  refine lv_bipush (v := 60) X.1 X.2.1 dX8_init_452 (by decide) ?_
  refine lv_bipush (v := 97) X.1 X.2.1 dX8_init_454 (by decide) ?_
  refine z_cast X hw (pl := 77) (n := 72) cf_174 (by decide +kernel) (show vp_in 60 72 by unfold vp_in; decide) dX8_init_456 (fun H locs hw => ?_)
  obtain ⟨σ153, e154⟩ : ∃ x, x = up σ151 77 (60 : Int32).toNatClampNeg 97 := ⟨_, rfl⟩
  rw [← e154] at hw
  refine lv_dup X.1 X.2.1 dX8_init_457 rfl ?_
  refine lv_bipush (v := 61) X.1 X.2.1 dX8_init_458 (by decide) ?_
  refine lv_bipush (v := 110) X.1 X.2.1 dX8_init_460 (by decide) ?_
  refine z_cast X hw (pl := 77) (n := 72) cf_174 (by decide +kernel) (show vp_in 61 72 by unfold vp_in; decide) dX8_init_462 (fun H locs hw => ?_)
  obtain ⟨σ155, e156⟩ : ∃ x, x = up σ153 77 (61 : Int32).toNatClampNeg 110 := ⟨_, rfl⟩
  rw [← e156] at hw
  refine lv_dup X.1 X.2.1 dX8_init_463 rfl ?_
  refine lv_bipush (v := 62) X.1 X.2.1 dX8_init_464 (by decide) ?_
  refine lv_bipush (v := 100) X.1 X.2.1 dX8_init_466 (by decide) ?_
  refine z_cast X hw (pl := 77) (n := 72) cf_174 (by decide +kernel) (show vp_in 62 72 by unfold vp_in; decide) dX8_init_468 (fun H locs hw => ?_)
  obtain ⟨σ157, e158⟩ : ∃ x, x = up σ155 77 (62 : Int32).toNatClampNeg 100 := ⟨_, rfl⟩
  rw [← e158] at hw
  refine lv_dup X.1 X.2.1 dX8_init_469 rfl ?_
  refine lv_bipush (v := 63) X.1 X.2.1 dX8_init_470 (by decide) ?_
  refine lv_iconst (v := 0) X.1 X.2.1 dX8_init_472 (by decide) ?_
  refine z_cast X hw (pl := 77) (n := 72) cf_174 (by decide +kernel) (show vp_in 63 72 by unfold vp_in; decide) dX8_init_473 (fun H locs hw => ?_)
  obtain ⟨σ159, e160⟩ : ∃ x, x = up σ157 77 (63 : Int32).toNatClampNeg 0 := ⟨_, rfl⟩
  rw [← e160] at hw
  refine lv_dup X.1 X.2.1 dX8_init_474 rfl ?_
  refine lv_bipush (v := 64) X.1 X.2.1 dX8_init_475 (by decide) ?_
  refine lv_iconst (v := 0) X.1 X.2.1 dX8_init_477 (by decide) ?_
  refine z_cast X hw (pl := 77) (n := 72) cf_174 (by decide +kernel) (show vp_in 64 72 by unfold vp_in; decide) dX8_init_478 (fun H locs hw => ?_)
  obtain ⟨σ161, e162⟩ : ∃ x, x = up σ159 77 (64 : Int32).toNatClampNeg 0 := ⟨_, rfl⟩
  rw [← e162] at hw
  refine lv_dup X.1 X.2.1 dX8_init_479 rfl ?_
  refine lv_bipush (v := 65) X.1 X.2.1 dX8_init_480 (by decide) ?_
  refine lv_iconst (v := 0) X.1 X.2.1 dX8_init_482 (by decide) ?_
  refine z_cast X hw (pl := 77) (n := 72) cf_174 (by decide +kernel) (show vp_in 65 72 by unfold vp_in; decide) dX8_init_483 (fun H locs hw => ?_)
  obtain ⟨σ163, e164⟩ : ∃ x, x = up σ161 77 (65 : Int32).toNatClampNeg 0 := ⟨_, rfl⟩
  rw [← e164] at hw
  refine lv_dup X.1 X.2.1 dX8_init_484 rfl ?_
  refine lv_bipush (v := 66) X.1 X.2.1 dX8_init_485 (by decide) ?_
  refine lv_bipush (v := 110) X.1 X.2.1 dX8_init_487 (by decide) ?_
  refine z_cast X hw (pl := 77) (n := 72) cf_174 (by decide +kernel) (show vp_in 66 72 by unfold vp_in; decide) dX8_init_489 (fun H locs hw => ?_)
  obtain ⟨σ165, e166⟩ : ∃ x, x = up σ163 77 (66 : Int32).toNatClampNeg 110 := ⟨_, rfl⟩
  rw [← e166] at hw
  refine lv_dup X.1 X.2.1 dX8_init_490 rfl ?_
  refine lv_bipush (v := 67) X.1 X.2.1 dX8_init_491 (by decide) ?_
  refine lv_bipush (v := 111) X.1 X.2.1 dX8_init_493 (by decide) ?_
  refine z_cast X hw (pl := 77) (n := 72) cf_174 (by decide +kernel) (show vp_in 67 72 by unfold vp_in; decide) dX8_init_495 (fun H locs hw => ?_)
  obtain ⟨σ167, e168⟩ : ∃ x, x = up σ165 77 (67 : Int32).toNatClampNeg 111 := ⟨_, rfl⟩
  rw [← e168] at hw
  refine lv_dup X.1 X.2.1 dX8_init_496 rfl ?_
  refine lv_bipush (v := 68) X.1 X.2.1 dX8_init_497 (by decide) ?_
  refine lv_bipush (v := 116) X.1 X.2.1 dX8_init_499 (by decide) ?_
  refine z_cast X hw (pl := 77) (n := 72) cf_174 (by decide +kernel) (show vp_in 68 72 by unfold vp_in; decide) dX8_init_501 (fun H locs hw => ?_)
  obtain ⟨σ169, e170⟩ : ∃ x, x = up σ167 77 (68 : Int32).toNatClampNeg 116 := ⟨_, rfl⟩
  rw [← e170] at hw
  refine lv_dup X.1 X.2.1 dX8_init_502 rfl ?_
  refine lv_bipush (v := 69) X.1 X.2.1 dX8_init_503 (by decide) ?_
  refine lv_iconst (v := 0) X.1 X.2.1 dX8_init_505 (by decide) ?_
  refine z_cast X hw (pl := 77) (n := 72) cf_174 (by decide +kernel) (show vp_in 69 72 by unfold vp_in; decide) dX8_init_506 (fun H locs hw => ?_)
  obtain ⟨σ171, e172⟩ : ∃ x, x = up σ169 77 (69 : Int32).toNatClampNeg 0 := ⟨_, rfl⟩
  rw [← e172] at hw
  refine lv_dup X.1 X.2.1 dX8_init_507 rfl ?_
  refine lv_bipush (v := 70) X.1 X.2.1 dX8_init_508 (by decide) ?_
  refine lv_iconst (v := 0) X.1 X.2.1 dX8_init_510 (by decide) ?_
  refine z_cast X hw (pl := 77) (n := 72) cf_174 (by decide +kernel) (show vp_in 70 72 by unfold vp_in; decide) dX8_init_511 (fun H locs hw => ?_)
  obtain ⟨σ173, e174⟩ : ∃ x, x = up σ171 77 (70 : Int32).toNatClampNeg 0 := ⟨_, rfl⟩
  rw [← e174] at hw
  refine lv_dup X.1 X.2.1 dX8_init_512 rfl ?_
  refine lv_bipush (v := 71) X.1 X.2.1 dX8_init_513 (by decide) ?_
  refine lv_iconst (v := 0) X.1 X.2.1 dX8_init_515 (by decide) ?_
  refine z_cast X hw (pl := 77) (n := 72) cf_174 (by decide +kernel) (show vp_in 71 72 by unfold vp_in; decide) dX8_init_516 (fun H locs hw => ?_)
  obtain ⟨σ175, e176⟩ : ∃ x, x = up σ173 77 (71 : Int32).toNatClampNeg 0 := ⟨_, rfl⟩
  rw [← e176] at hw
  refine y_putR X hin hw cf_175 (C := RX8) (T := TX8) (N := 31) rfl iwX8 tyX8 tyX8_ok nmX8 15 (by decide) (Nat.le_of_ble_eq_true rfl) qw881 rfl rfl (q := 77) rfl rfl (L' := LC75) cf_176 dX8_init_517 (fun H locs hw => ?_)
  refine lv_aload_n X.1 X.2.1 dX8_init_520 rfl (lv_at hl 0 rfl) ?_
  refine lv_sipush (v := 160) X.1 X.2.1 dX8_init_521 (by decide) ?_
  refine y_newa X hw (atype := .int) (ty := .int) rfl qw122 (y_fc (k := 0) X.2.2.2.2.2.1 rfl (Or.inl rfl)) rfl (k := 160) (by decide) (by decide) (by decide) (Nat.le_of_ble_eq_true rfl) (Nat.le_of_ble_eq_true rfl) (L' := LC76) (q := 78) cf_177 cf_178 dX8_init_524 (fun H hw => ?_)
  obtain ⟨σ177, e178⟩ : ∃ x, x = upr σ175 78 zz := ⟨_, rfl⟩
  rw [← e178] at hw
  refine y_putR X hin hw cf_179 (C := RX8) (T := TX8) (N := 31) rfl iwX8 tyX8 tyX8_ok nmX8 16 (by decide) (Nat.le_of_ble_eq_true rfl) qw882 rfl rfl (q := 78) rfl rfl (L' := LC77) cf_180 dX8_init_526 (fun H locs hw => ?_)
  refine lv_aload_n X.1 X.2.1 dX8_init_529 rfl (lv_at hl 0 rfl) ?_
  refine lv_sipush (v := 160) X.1 X.2.1 dX8_init_530 (by decide) ?_
  refine y_newa X hw (atype := .int) (ty := .int) rfl qw122 (y_fc (k := 0) X.2.2.2.2.2.1 rfl (Or.inl rfl)) rfl (k := 160) (by decide) (by decide) (by decide) (Nat.le_of_ble_eq_true rfl) (Nat.le_of_ble_eq_true rfl) (L' := LC78) (q := 79) cf_181 cf_182 dX8_init_533 (fun H hw => ?_)
  obtain ⟨σ179, e180⟩ : ∃ x, x = upr σ177 79 zz := ⟨_, rfl⟩
  rw [← e180] at hw
  refine y_putR X hin hw cf_183 (C := RX8) (T := TX8) (N := 31) rfl iwX8 tyX8 tyX8_ok nmX8 18 (by decide) (Nat.le_of_ble_eq_true rfl) qw884 rfl rfl (q := 79) rfl rfl (L' := LC79) cf_184 dX8_init_535 (fun H locs hw => ?_)
  refine lv_aload_n X.1 X.2.1 dX8_init_538 rfl (lv_at hl 0 rfl) ?_
  refine lv_iconst (v := 5) X.1 X.2.1 dX8_init_539 (by decide) ?_
  refine y_newa X hw (atype := .int) (ty := .int) rfl qw122 (y_fc (k := 0) X.2.2.2.2.2.1 rfl (Or.inl rfl)) rfl (k := 5) (by decide) (by decide) (by decide) (Nat.le_of_ble_eq_true rfl) (Nat.le_of_ble_eq_true rfl) (L' := LC80) (q := 80) cf_185 cf_186 dX8_init_540 (fun H hw => ?_)
  obtain ⟨σ181, e182⟩ : ∃ x, x = upr σ179 80 zz := ⟨_, rfl⟩
  rw [← e182] at hw
  refine y_putR X hin hw cf_187 (C := RX8) (T := TX8) (N := 31) rfl iwX8 tyX8 tyX8_ok nmX8 19 (by decide) (Nat.le_of_ble_eq_true rfl) qw885 rfl rfl (q := 80) rfl rfl (L' := LC81) cf_188 dX8_init_542 (fun H locs hw => ?_)
  refine lv_aload_n X.1 X.2.1 dX8_init_545 rfl (lv_at hl 0 rfl) ?_
  refine lv_iconst (v := 5) X.1 X.2.1 dX8_init_546 (by decide) ?_
  refine y_newa X hw (atype := .int) (ty := .int) rfl qw122 (y_fc (k := 0) X.2.2.2.2.2.1 rfl (Or.inl rfl)) rfl (k := 5) (by decide) (by decide) (by decide) (Nat.le_of_ble_eq_true rfl) (Nat.le_of_ble_eq_true rfl) (L' := LC82) (q := 81) cf_189 cf_190 dX8_init_547 (fun H hw => ?_)
  obtain ⟨σ183, e184⟩ : ∃ x, x = upr σ181 81 zz := ⟨_, rfl⟩
  rw [← e184] at hw
  refine y_putR X hin hw cf_191 (C := RX8) (T := TX8) (N := 31) rfl iwX8 tyX8 tyX8_ok nmX8 20 (by decide) (Nat.le_of_ble_eq_true rfl) qw886 rfl rfl (q := 81) rfl rfl (L' := LC83) cf_192 dX8_init_549 (fun H locs hw => ?_)
  refine lv_aload_n X.1 X.2.1 dX8_init_552 rfl (lv_at hl 0 rfl) ?_
  refine lv_iconst (v := 5) X.1 X.2.1 dX8_init_553 (by decide) ?_
  refine y_newa X hw (atype := .int) (ty := .int) rfl qw122 (y_fc (k := 0) X.2.2.2.2.2.1 rfl (Or.inl rfl)) rfl (k := 5) (by decide) (by decide) (by decide) (Nat.le_of_ble_eq_true rfl) (Nat.le_of_ble_eq_true rfl) (L' := LC84) (q := 82) cf_193 cf_194 dX8_init_554 (fun H hw => ?_)
  obtain ⟨σ185, e186⟩ : ∃ x, x = upr σ183 82 zz := ⟨_, rfl⟩
  rw [← e186] at hw
  refine y_putR X hin hw cf_195 (C := RX8) (T := TX8) (N := 31) rfl iwX8 tyX8 tyX8_ok nmX8 21 (by decide) (Nat.le_of_ble_eq_true rfl) qw887 rfl rfl (q := 82) rfl rfl (L' := LC85) cf_196 dX8_init_556 (fun H locs hw => ?_)
  refine lv_aload_n X.1 X.2.1 dX8_init_559 rfl (lv_at hl 0 rfl) ?_
  refine lv_iconst (v := 5) X.1 X.2.1 dX8_init_560 (by decide) ?_
  refine y_newa X hw (atype := .int) (ty := .int) rfl qw122 (y_fc (k := 0) X.2.2.2.2.2.1 rfl (Or.inl rfl)) rfl (k := 5) (by decide) (by decide) (by decide) (Nat.le_of_ble_eq_true rfl) (Nat.le_of_ble_eq_true rfl) (L' := LC86) (q := 83) cf_197 cf_198 dX8_init_561 (fun H hw => ?_)
  obtain ⟨σ187, e188⟩ : ∃ x, x = upr σ185 83 zz := ⟨_, rfl⟩
  rw [← e188] at hw
  refine y_putR X hin hw cf_199 (C := RX8) (T := TX8) (N := 31) rfl iwX8 tyX8 tyX8_ok nmX8 22 (by decide) (Nat.le_of_ble_eq_true rfl) qw888 rfl rfl (q := 83) rfl rfl (L' := LC87) cf_200 dX8_init_563 (fun H locs hw => ?_)
  refine lv_aload_n X.1 X.2.1 dX8_init_566 rfl (lv_at hl 0 rfl) ?_
  refine lv_iconst (v := 4) X.1 X.2.1 dX8_init_567 (by decide) ?_
  refine y_newa X hw (atype := .int) (ty := .int) rfl qw122 (y_fc (k := 0) X.2.2.2.2.2.1 rfl (Or.inl rfl)) rfl (k := 4) (by decide) (by decide) (by decide) (Nat.le_of_ble_eq_true rfl) (Nat.le_of_ble_eq_true rfl) (L' := LC88) (q := 84) cf_201 cf_202 dX8_init_568 (fun H hw => ?_)
  obtain ⟨σ189, e190⟩ : ∃ x, x = upr σ187 84 zz := ⟨_, rfl⟩
  rw [← e190] at hw
  refine lv_dup X.1 X.2.1 dX8_init_570 rfl ?_
  refine lv_iconst (v := 0) X.1 X.2.1 dX8_init_571 (by decide) ?_
  refine lv_iconst (v := (-1)) X.1 X.2.1 dX8_init_572 (by decide) ?_
  refine z_iast X hw (pl := 84) (n := 4) cf_203 (show vp_in 0 4 by unfold vp_in; decide) dX8_init_573 (fun H locs hw => ?_)
  obtain ⟨σ191, e192⟩ : ∃ x, x = up σ189 84 (0 : Int32).toNatClampNeg (-1) := ⟨_, rfl⟩
  rw [← e192] at hw
  refine lv_dup X.1 X.2.1 dX8_init_574 rfl ?_
  refine lv_iconst (v := 1) X.1 X.2.1 dX8_init_575 (by decide) ?_
  refine lv_iconst (v := (-1)) X.1 X.2.1 dX8_init_576 (by decide) ?_
  refine z_iast X hw (pl := 84) (n := 4) cf_203 (show vp_in 1 4 by unfold vp_in; decide) dX8_init_577 (fun H locs hw => ?_)
  obtain ⟨σ193, e194⟩ : ∃ x, x = up σ191 84 (1 : Int32).toNatClampNeg (-1) := ⟨_, rfl⟩
  rw [← e194] at hw
  refine lv_dup X.1 X.2.1 dX8_init_578 rfl ?_
  refine lv_iconst (v := 2) X.1 X.2.1 dX8_init_579 (by decide) ?_
  refine lv_iconst (v := (-1)) X.1 X.2.1 dX8_init_580 (by decide) ?_
  refine z_iast X hw (pl := 84) (n := 4) cf_203 (show vp_in 2 4 by unfold vp_in; decide) dX8_init_581 (fun H locs hw => ?_)
  obtain ⟨σ195, e196⟩ : ∃ x, x = up σ193 84 (2 : Int32).toNatClampNeg (-1) := ⟨_, rfl⟩
  rw [← e196] at hw
  refine lv_dup X.1 X.2.1 dX8_init_582 rfl ?_
  refine lv_iconst (v := 3) X.1 X.2.1 dX8_init_583 (by decide) ?_
  refine lv_iconst (v := (-1)) X.1 X.2.1 dX8_init_584 (by decide) ?_
  refine z_iast X hw (pl := 84) (n := 4) cf_203 (show vp_in 3 4 by unfold vp_in; decide) dX8_init_585 (fun H locs hw => ?_)
  obtain ⟨σ197, e198⟩ : ∃ x, x = up σ195 84 (3 : Int32).toNatClampNeg (-1) := ⟨_, rfl⟩
  rw [← e198] at hw
  refine y_putR X hin hw cf_204 (C := RX8) (T := TX8) (N := 31) rfl iwX8 tyX8 tyX8_ok nmX8 25 (by decide) (Nat.le_of_ble_eq_true rfl) qw891 rfl rfl (q := 84) rfl rfl (L' := LC89) cf_205 dX8_init_586 (fun H locs hw => ?_)
  refine lv_aload_n X.1 X.2.1 dX8_init_589 rfl (lv_at hl 0 rfl) ?_
  refine lv_iconst (v := 4) X.1 X.2.1 dX8_init_590 (by decide) ?_
  refine y_newa X hw (atype := .int) (ty := .int) rfl qw122 (y_fc (k := 0) X.2.2.2.2.2.1 rfl (Or.inl rfl)) rfl (k := 4) (by decide) (by decide) (by decide) (Nat.le_of_ble_eq_true rfl) (Nat.le_of_ble_eq_true rfl) (L' := LC90) (q := 85) cf_206 cf_207 dX8_init_591 (fun H hw => ?_)
  obtain ⟨σ199, e200⟩ : ∃ x, x = upr σ197 85 zz := ⟨_, rfl⟩
  rw [← e200] at hw
  refine y_putR X hin hw cf_208 (C := RX8) (T := TX8) (N := 31) rfl iwX8 tyX8 tyX8_ok nmX8 26 (by decide) (Nat.le_of_ble_eq_true rfl) qw892 rfl rfl (q := 85) rfl rfl (L' := LC91) cf_209 dX8_init_593 (fun H locs hw => ?_)
  refine lv_aload_n X.1 X.2.1 dX8_init_596 rfl (lv_at hl 0 rfl) ?_
  refine lv_sipush (v := 160) X.1 X.2.1 dX8_init_597 (by decide) ?_
  refine y_newa X hw (atype := .int) (ty := .int) rfl qw122 (y_fc (k := 0) X.2.2.2.2.2.1 rfl (Or.inl rfl)) rfl (k := 160) (by decide) (by decide) (by decide) (Nat.le_of_ble_eq_true rfl) (Nat.le_of_ble_eq_true rfl) (L' := LC92) (q := 86) cf_210 cf_211 dX8_init_600 (fun H hw => ?_)
  obtain ⟨σ201, e202⟩ : ∃ x, x = upr σ199 86 zz := ⟨_, rfl⟩
  rw [← e202] at hw
  refine y_putR X hin hw cf_212 (C := RX8) (T := TX8) (N := 31) rfl iwX8 tyX8 tyX8_ok nmX8 27 (by decide) (Nat.le_of_ble_eq_true rfl) qw893 rfl rfl (q := 86) rfl rfl (L' := LC93) cf_213 dX8_init_602 (fun H locs hw => ?_)
  refine lv_aload_n X.1 X.2.1 dX8_init_605 rfl (lv_at hl 0 rfl) ?_
  refine lv_bipush (v := 40) X.1 X.2.1 dX8_init_606 (by decide) ?_
  refine y_newa X hw (atype := .int) (ty := .int) rfl qw122 (y_fc (k := 0) X.2.2.2.2.2.1 rfl (Or.inl rfl)) rfl (k := 40) (by decide) (by decide) (by decide) (Nat.le_of_ble_eq_true rfl) (Nat.le_of_ble_eq_true rfl) (L' := LC94) (q := 87) cf_214 cf_215 dX8_init_608 (fun H hw => ?_)
  obtain ⟨σ203, e204⟩ : ∃ x, x = upr σ201 87 zz := ⟨_, rfl⟩
  rw [← e204] at hw
  refine y_putR X hin hw cf_216 (C := RX8) (T := TX8) (N := 31) rfl iwX8 tyX8 tyX8_ok nmX8 28 (by decide) (Nat.le_of_ble_eq_true rfl) qw894 rfl rfl (q := 87) rfl rfl (L' := LC95) cf_217 dX8_init_610 (fun H locs hw => ?_)
  refine lv_aload_n X.1 X.2.1 dX8_init_613 rfl (lv_at hl 0 rfl) ?_
  refine lv_bipush (v := 6) X.1 X.2.1 dX8_init_614 (by decide) ?_
  refine y_newa X hw (atype := .int) (ty := .int) rfl qw122 (y_fc (k := 0) X.2.2.2.2.2.1 rfl (Or.inl rfl)) rfl (k := 6) (by decide) (by decide) (by decide) (Nat.le_of_ble_eq_true rfl) (Nat.le_of_ble_eq_true rfl) (L' := LC96) (q := 88) cf_218 cf_219 dX8_init_616 (fun H hw => ?_)
  obtain ⟨σ205, e206⟩ : ∃ x, x = upr σ203 88 zz := ⟨_, rfl⟩
  rw [← e206] at hw
  refine lv_dup X.1 X.2.1 dX8_init_618 rfl ?_
  refine lv_iconst (v := 0) X.1 X.2.1 dX8_init_619 (by decide) ?_
  refine lv_iconst (v := (-1)) X.1 X.2.1 dX8_init_620 (by decide) ?_
  refine z_iast X hw (pl := 88) (n := 6) cf_220 (show vp_in 0 6 by unfold vp_in; decide) dX8_init_621 (fun H locs hw => ?_)
  obtain ⟨σ207, e208⟩ : ∃ x, x = up σ205 88 (0 : Int32).toNatClampNeg (-1) := ⟨_, rfl⟩
  rw [← e208] at hw
  refine lv_dup X.1 X.2.1 dX8_init_622 rfl ?_
  refine lv_iconst (v := 1) X.1 X.2.1 dX8_init_623 (by decide) ?_
  refine lv_iconst (v := 0) X.1 X.2.1 dX8_init_624 (by decide) ?_
  refine z_iast X hw (pl := 88) (n := 6) cf_220 (show vp_in 1 6 by unfold vp_in; decide) dX8_init_625 (fun H locs hw => ?_)
  obtain ⟨σ209, e210⟩ : ∃ x, x = up σ207 88 (1 : Int32).toNatClampNeg 0 := ⟨_, rfl⟩
  rw [← e210] at hw
  refine lv_dup X.1 X.2.1 dX8_init_626 rfl ?_
  refine lv_iconst (v := 2) X.1 X.2.1 dX8_init_627 (by decide) ?_
  refine lv_iconst (v := 0) X.1 X.2.1 dX8_init_628 (by decide) ?_
  refine z_iast X hw (pl := 88) (n := 6) cf_220 (show vp_in 2 6 by unfold vp_in; decide) dX8_init_629 (fun H locs hw => ?_)
  obtain ⟨σ211, e212⟩ : ∃ x, x = up σ209 88 (2 : Int32).toNatClampNeg 0 := ⟨_, rfl⟩
  rw [← e212] at hw
  refine lv_dup X.1 X.2.1 dX8_init_630 rfl ?_
  refine lv_iconst (v := 3) X.1 X.2.1 dX8_init_631 (by decide) ?_
  refine lv_iconst (v := 1) X.1 X.2.1 dX8_init_632 (by decide) ?_
  refine z_iast X hw (pl := 88) (n := 6) cf_220 (show vp_in 3 6 by unfold vp_in; decide) dX8_init_633 (fun H locs hw => ?_)
  obtain ⟨σ213, e214⟩ : ∃ x, x = up σ211 88 (3 : Int32).toNatClampNeg 1 := ⟨_, rfl⟩
  rw [← e214] at hw
  refine lv_dup X.1 X.2.1 dX8_init_634 rfl ?_
  refine lv_iconst (v := 4) X.1 X.2.1 dX8_init_635 (by decide) ?_
  refine lv_iconst (v := 2) X.1 X.2.1 dX8_init_636 (by decide) ?_
  refine z_iast X hw (pl := 88) (n := 6) cf_220 (show vp_in 4 6 by unfold vp_in; decide) dX8_init_637 (fun H locs hw => ?_)
  obtain ⟨σ215, e216⟩ : ∃ x, x = up σ213 88 (4 : Int32).toNatClampNeg 2 := ⟨_, rfl⟩
  rw [← e216] at hw
  refine lv_dup X.1 X.2.1 dX8_init_638 rfl ?_
  refine lv_iconst (v := 5) X.1 X.2.1 dX8_init_639 (by decide) ?_
  refine lv_iconst (v := 0) X.1 X.2.1 dX8_init_640 (by decide) ?_
  refine z_iast X hw (pl := 88) (n := 6) cf_220 (show vp_in 5 6 by unfold vp_in; decide) dX8_init_641 (fun H locs hw => ?_)
  obtain ⟨σ217, e218⟩ : ∃ x, x = up σ215 88 (5 : Int32).toNatClampNeg 0 := ⟨_, rfl⟩
  rw [← e218] at hw
  refine y_putR X hin hw cf_221 (C := RX8) (T := TX8) (N := 31) rfl iwX8 tyX8 tyX8_ok nmX8 29 (by decide) (Nat.le_of_ble_eq_true rfl) qw895 rfl rfl (q := 88) rfl rfl (L' := LC97) cf_222 dX8_init_642 (fun H locs hw => ?_)
  refine lv_aload_n X.1 X.2.1 dX8_init_645 rfl (lv_at hl 0 rfl) ?_
  refine lv_bipush (v := 100) X.1 X.2.1 dX8_init_646 (by decide) ?_
  refine y_newa X hw (atype := .boolean) (ty := .boolean) rfl qw961 (y_fc (k := 2) X.2.2.2.2.2.1 rfl (Or.inr (Or.inr rfl))) rfl (k := 100) (by decide) (by decide) (by decide) (Nat.le_of_ble_eq_true rfl) (Nat.le_of_ble_eq_true rfl) (L' := LC98) (q := 89) cf_223 cf_224 dX8_init_648 (fun H hw => ?_)
  obtain ⟨σ219, e220⟩ : ∃ x, x = upr σ217 89 zz := ⟨_, rfl⟩
  rw [← e220] at hw
  refine y_putR X hin hw cf_225 (C := RX8) (T := TX8) (N := 31) rfl iwX8 tyX8 tyX8_ok nmX8 30 (by decide) (Nat.le_of_ble_eq_true rfl) qw896 rfl rfl (q := 89) rfl rfl (L' := LC99) cf_226 dX8_init_650 (fun H locs hw => ?_)
  exact z_vret X hw rfl (by rw [e220, e218, e216, e214, e212, e210, e208, e206, e204, e202, e200, e198, e196, e194, e192, e190, e188, e186, e184, e182, e180, e178, e176, e174, e172, e170, e168, e166, e164, e162, e160, e158, e156, e154, e152, e150, e148, e146, e144, e142, e140, e138, e136, e134, e132, e130, e128, e126, e124, e122, e120, e118, e116, e114, e112, e110, e108, e106, e104, e102, e100, e98, e96, e94, e92, e90, e88, e86, e84, e82, e80, e78, e76, e74, e72, e70, e68, e66, e64, e62, e60, e58, e56, e54, e52, e50, e48, e46, e44, e42, e40, e38, e36, e34, e32, e30]; rfl) (Nat.le_of_ble_eq_true rfl) (Nat.le_of_ble_eq_true rfl) dX8_init_653

theorem shf_c {B : zb_T} : ShF (mkE B LC99) := ⟨mkE_I _ _, rfl, fun p h => by
  rcases (show p = 0 ∨ p = 1 ∨ p = 2 ∨ p = 3 ∨ p = 4 ∨ p = 5 ∨ p = 6 ∨ p = 7 ∨ p = 8 ∨ p = 9 ∨ p = 10 ∨ p = 11 ∨ p = 12 ∨ p = 13 ∨ p = 14 ∨ p = 15 ∨ p = 16 ∨ p = 17 ∨ p = 18 ∨ p = 19 ∨ p = 20 ∨ p = 21 ∨ p = 22 ∨ p = 23 ∨ p = 24 ∨ p = 25 ∨ p = 26 ∨ p = 27 ∨ p = 28 ∨ p = 29 ∨ p = 30 ∨ p = 31 ∨ p = 32 ∨ p = 33 ∨ p = 34 ∨ p = 35 ∨ p = 36 ∨ p = 37 ∨ p = 38 ∨ p = 39 ∨ p = 40 ∨ p = 41 ∨ p = 42 ∨ p = 43 ∨ p = 44 ∨ p = 45 ∨ p = 46 ∨ p = 47 ∨ p = 48 ∨ p = 49 ∨ p = 50 ∨ p = 51 ∨ p = 52 ∨ p = 53 ∨ p = 54 ∨ p = 55 ∨ p = 56 ∨ p = 57 ∨ p = 58 ∨ p = 59 ∨ p = 60 ∨ p = 61 ∨ p = 62 ∨ p = 63 ∨ p = 64 ∨ p = 65 ∨ p = 66 ∨ p = 67 ∨ p = 68 ∨ p = 69 ∨ p = 70 ∨ p = 71 ∨ p = 72 ∨ p = 73 ∨ p = 74 ∨ p = 75 ∨ p = 76 ∨ p = 77 ∨ p = 78 ∨ p = 79 ∨ p = 80 ∨ p = 81 ∨ p = 82 ∨ p = 83 ∨ p = 84 ∨ p = 85 ∨ p = 86 ∨ p = 87 ∨ p = 88 ∨ p = 89 by have : p < 90 := h; omega) with rfl | rfl | rfl | rfl | rfl | rfl | rfl | rfl | rfl | rfl | rfl | rfl | rfl | rfl | rfl | rfl | rfl | rfl | rfl | rfl | rfl | rfl | rfl | rfl | rfl | rfl | rfl | rfl | rfl | rfl | rfl | rfl | rfl | rfl | rfl | rfl | rfl | rfl | rfl | rfl | rfl | rfl | rfl | rfl | rfl | rfl | rfl | rfl | rfl | rfl | rfl | rfl | rfl | rfl | rfl | rfl | rfl | rfl | rfl | rfl | rfl | rfl | rfl | rfl | rfl | rfl | rfl | rfl | rfl | rfl | rfl | rfl | rfl | rfl | rfl | rfl | rfl | rfl | rfl | rfl | rfl | rfl | rfl | rfl | rfl | rfl | rfl | rfl | rfl | rfl <;> rfl⟩
