def b_L_law (xs : Nat → Int32) (nn : Nat) (w3 : Int32) (σ : sg_T) : Option ((Int32 × sg_T) ⊕ Int32) :=
  if ((Int32.ofNat nn) - 6) < w3 then
    some (.inr 1)
  else
    ck w3 nn (
    bnd (((xs w3.toNatClampNeg) &&& 31)) (fun v3 =>
    if v3 = 0 then
      ck (w3 + 1) nn (
      ck (w3 + 2) nn (
      ck (w3 + 3) nn (
      bd2 (f_X7_set (xs (w3 + 1).toNatClampNeg) (xs (w3 + 2).toNatClampNeg) (xs (w3 + 3).toNatClampNeg) σ) (fun r9 σ10 =>
      ck (w3 + 1) nn (
      ck (w3 + 2) nn (
      ck (w3 + 3) nn (
      bd2 (f_X8_set (xs (w3 + 1).toNatClampNeg) (xs (w3 + 2).toNatClampNeg) (xs (w3 + 3).toNatClampNeg) σ10) (fun r15 σ16 =>
      if r9 = r15 then
        bnd (w3 + 6) (fun v18 =>
        some (.inl (v18, σ16)))
      else
        some (.inr 0)))))))))
    else if v3 = 1 then
      ck (w3 + 1) nn (
      ck (w3 + 2) nn (
      ck (w3 + 3) nn (
      bd2 (f_X7_person (xs (w3 + 1).toNatClampNeg) (xs (w3 + 2).toNatClampNeg) (xs (w3 + 3).toNatClampNeg) σ) (fun r25 σ26 =>
      ck (w3 + 1) nn (
      ck (w3 + 2) nn (
      ck (w3 + 3) nn (
      bd2 (f_X8_person (xs (w3 + 1).toNatClampNeg) (xs (w3 + 2).toNatClampNeg) (xs (w3 + 3).toNatClampNeg) σ26) (fun r31 σ32 =>
      if r25 = r31 then
        bnd (w3 + 6) (fun v34 =>
        some (.inl (v34, σ32)))
      else
        some (.inr 0)))))))))
    else if v3 = 2 then
      ck (w3 + 1) nn (
      ck (w3 + 2) nn (
      bd2 (f_X7_told (xs (w3 + 1).toNatClampNeg) (xs (w3 + 2).toNatClampNeg) σ) (fun r40 σ41 =>
      ck (w3 + 1) nn (
      ck (w3 + 2) nn (
      bd2 (f_X8_told (xs (w3 + 1).toNatClampNeg) (xs (w3 + 2).toNatClampNeg) σ41) (fun r45 σ46 =>
      if r40 = r45 then
        bnd (w3 + 6) (fun v48 =>
        some (.inl (v48, σ46)))
      else
        some (.inr 0)))))))
    else if v3 = 3 then
      ck (w3 + 1) nn (
      ck (w3 + 2) nn (
      ck (w3 + 3) nn (
      bd2 (f_X7_asks (xs (w3 + 1).toNatClampNeg) (xs (w3 + 2).toNatClampNeg) (xs (w3 + 3).toNatClampNeg) σ) (fun r55 σ56 =>
      ck (w3 + 1) nn (
      ck (w3 + 2) nn (
      ck (w3 + 3) nn (
      bd2 (f_X8_asks (xs (w3 + 1).toNatClampNeg) (xs (w3 + 2).toNatClampNeg) (xs (w3 + 3).toNatClampNeg) σ56) (fun r61 σ62 =>
      if r55 = r61 then
        bnd (w3 + 6) (fun v64 =>
        some (.inl (v64, σ62)))
      else
        some (.inr 0)))))))))
    else if v3 = 4 then
      ck (w3 + 1) nn (
      ck (w3 + 2) nn (
      bd2 (f_X7_woken (xs (w3 + 1).toNatClampNeg) (xs (w3 + 2).toNatClampNeg) σ) (fun r70 σ71 =>
      ck (w3 + 1) nn (
      ck (w3 + 2) nn (
      bd2 (f_X8_woken (xs (w3 + 1).toNatClampNeg) (xs (w3 + 2).toNatClampNeg) σ71) (fun r75 σ76 =>
      if r70 = r75 then
        bnd (w3 + 6) (fun v78 =>
        some (.inl (v78, σ76)))
      else
        some (.inr 0)))))))
    else if v3 = 5 then
      ck (w3 + 1) nn (
      bd2 (f_X7_feed (xs (w3 + 1).toNatClampNeg) σ) (fun r83 σ84 =>
      ck (w3 + 1) nn (
      bd2 (f_X8_feed (xs (w3 + 1).toNatClampNeg) σ84) (fun r87 σ88 =>
      if r83 = r87 then
        bnd (w3 + 6) (fun v90 =>
        some (.inl (v90, σ88)))
      else
        some (.inr 0)))))
    else if v3 = 6 then
      bd2 (f_X7_text  σ) (fun r94 σ95 =>
      bd2 (f_X8_text  σ95) (fun r97 σ98 =>
      if r94 = r97 then
        bnd (w3 + 6) (fun v100 =>
        some (.inl (v100, σ98)))
      else
        some (.inr 0)))
    else if v3 = 7 then
      ck (w3 + 1) nn (
      bd2 (f_X7_force (xs (w3 + 1).toNatClampNeg) σ) (fun r105 σ106 =>
      ck (w3 + 1) nn (
      bd2 (f_X8_force (xs (w3 + 1).toNatClampNeg) σ106) (fun r109 σ110 =>
      if r105 = r109 then
        bnd (w3 + 6) (fun v112 =>
        some (.inl (v112, σ110)))
      else
        some (.inr 0)))))
    else if v3 = 8 then
      bd2 (f_X7_day  σ) (fun r116 σ117 =>
      bd2 (f_X8_day  σ117) (fun r119 σ120 =>
      if r116 = r119 then
        bnd (w3 + 6) (fun v122 =>
        some (.inl (v122, σ120)))
      else
        some (.inr 0)))
    else if v3 = 9 then
      ck (w3 + 1) nn (
      ck (w3 + 2) nn (
      ck (w3 + 3) nn (
      bd2 (f_X7_run (xs (w3 + 1).toNatClampNeg) (xs (w3 + 2).toNatClampNeg) (xs (w3 + 3).toNatClampNeg) σ) (fun r129 σ130 =>
      ck (w3 + 1) nn (
      ck (w3 + 2) nn (
      ck (w3 + 3) nn (
      bd2 (f_X8_run (xs (w3 + 1).toNatClampNeg) (xs (w3 + 2).toNatClampNeg) (xs (w3 + 3).toNatClampNeg) σ130) (fun r135 σ136 =>
      if r129 = r135 then
        bnd (w3 + 6) (fun v138 =>
        some (.inl (v138, σ136)))
      else
        some (.inr 0)))))))))
    else if v3 = 10 then
      ck (w3 + 1) nn (
      bd1 (f_X7_round (xs (w3 + 1).toNatClampNeg) σ) (fun r143 =>
      ck (w3 + 1) nn (
      bd1 (f_X8_round (xs (w3 + 1).toNatClampNeg) σ) (fun r146 =>
      if r143 = r146 then
        bnd (w3 + 6) (fun v148 =>
        some (.inl (v148, σ)))
      else
        some (.inr 0)))))
    else if v3 = 11 then
      ck (w3 + 1) nn (
      bd2 (f_X7_others (xs (w3 + 1).toNatClampNeg) σ) (fun r153 σ154 =>
      ck (w3 + 1) nn (
      bd2 (f_X8_others (xs (w3 + 1).toNatClampNeg) σ154) (fun r157 σ158 =>
      if r153 = r157 then
        bnd (w3 + 6) (fun v160 =>
        some (.inl (v160, σ158)))
      else
        some (.inr 0)))))
    else if v3 = 12 then
      ck (w3 + 1) nn (
      ck (w3 + 2) nn (
      ck (w3 + 3) nn (
      bd2 (f_X7_duty (xs (w3 + 1).toNatClampNeg) (xs (w3 + 2).toNatClampNeg) (xs (w3 + 3).toNatClampNeg) σ) (fun r167 σ168 =>
      ck (w3 + 1) nn (
      ck (w3 + 2) nn (
      ck (w3 + 3) nn (
      bd2 (f_X8_duty (xs (w3 + 1).toNatClampNeg) (xs (w3 + 2).toNatClampNeg) (xs (w3 + 3).toNatClampNeg) σ168) (fun r173 σ174 =>
      if r167 = r173 then
        bnd (w3 + 6) (fun v176 =>
        some (.inl (v176, σ174)))
      else
        some (.inr 0)))))))))
    else if v3 = 13 then
      ck (w3 + 1) nn (
      ck (w3 + 2) nn (
      ck (w3 + 3) nn (
      bd2 (f_X7_fonder (xs (w3 + 1).toNatClampNeg) (xs (w3 + 2).toNatClampNeg) (xs (w3 + 3).toNatClampNeg) σ) (fun r183 σ184 =>
      ck (w3 + 1) nn (
      ck (w3 + 2) nn (
      ck (w3 + 3) nn (
      bd2 (f_X8_fonder (xs (w3 + 1).toNatClampNeg) (xs (w3 + 2).toNatClampNeg) (xs (w3 + 3).toNatClampNeg) σ184) (fun r189 σ190 =>
      if r183 = r189 then
        bnd (w3 + 6) (fun v192 =>
        some (.inl (v192, σ190)))
      else
        some (.inr 0)))))))))
    else if v3 = 14 then
      ck (w3 + 1) nn (
      bd1 (f_X7_mean (xs (w3 + 1).toNatClampNeg) σ) (fun r197 =>
      ck (w3 + 1) nn (
      bd1 (f_X8_mean (xs (w3 + 1).toNatClampNeg) σ) (fun r200 =>
      if (lg_cmp r197 r200) = 0 then
        bnd (w3 + 6) (fun v202 =>
        some (.inl (v202, σ)))
      else
        some (.inr 0)))))
    else if v3 = 15 then
      ck (w3 + 1) nn (
      ck (w3 + 2) nn (
      ck (w3 + 3) nn (
      ck (w3 + 4) nn (
      bd2 (f_X7_tells (xs (w3 + 1).toNatClampNeg) (xs (w3 + 2).toNatClampNeg) (xs (w3 + 3).toNatClampNeg) (xs (w3 + 4).toNatClampNeg) σ) (fun r210 σ211 =>
      ck (w3 + 1) nn (
      ck (w3 + 2) nn (
      ck (w3 + 3) nn (
      ck (w3 + 4) nn (
      bd2 (f_X8_tells (xs (w3 + 1).toNatClampNeg) (xs (w3 + 2).toNatClampNeg) (xs (w3 + 3).toNatClampNeg) (xs (w3 + 4).toNatClampNeg) σ211) (fun r217 σ218 =>
      if r210 = r217 then
        bnd (w3 + 6) (fun v220 =>
        some (.inl (v220, σ218)))
      else
        some (.inr 0)))))))))))
    else if v3 = 16 then
      ck (w3 + 1) nn (
      ck (w3 + 2) nn (
      ck (w3 + 3) nn (
      bd2 (f_X7_film (xs (w3 + 1).toNatClampNeg) (xs (w3 + 2).toNatClampNeg) (xs (w3 + 3).toNatClampNeg) σ) (fun r227 σ228 =>
      ck (w3 + 1) nn (
      ck (w3 + 2) nn (
      ck (w3 + 3) nn (
      bd2 (f_X8_film (xs (w3 + 1).toNatClampNeg) (xs (w3 + 2).toNatClampNeg) (xs (w3 + 3).toNatClampNeg) σ228) (fun r233 σ234 =>
      if r227 = r233 then
        bnd (w3 + 6) (fun v236 =>
        some (.inl (v236, σ234)))
      else
        some (.inr 0)))))))))
    else if v3 = 17 then
      ck (w3 + 1) nn (
      ck (w3 + 2) nn (
      bd2 (f_X7_drawn (xs (w3 + 1).toNatClampNeg) (xs (w3 + 2).toNatClampNeg) σ) (fun r242 σ243 =>
      ck (w3 + 1) nn (
      ck (w3 + 2) nn (
      bd2 (f_X8_drawn (xs (w3 + 1).toNatClampNeg) (xs (w3 + 2).toNatClampNeg) σ243) (fun r247 σ248 =>
      if r242 = r247 then
        bnd (w3 + 6) (fun v250 =>
        some (.inl (v250, σ248)))
      else
        some (.inr 0)))))))
    else if v3 = 18 then
      ck (w3 + 1) nn (
      ck (w3 + 2) nn (
      ck (w3 + 3) nn (
      ck (w3 + 4) nn (
      bd2 (f_X7_chance (xs (w3 + 1).toNatClampNeg) (xs (w3 + 2).toNatClampNeg) (xs (w3 + 3).toNatClampNeg) (xs (w3 + 4).toNatClampNeg) σ) (fun r258 σ259 =>
      ck (w3 + 1) nn (
      ck (w3 + 2) nn (
      ck (w3 + 3) nn (
      ck (w3 + 4) nn (
      bd2 (f_X8_chance (xs (w3 + 1).toNatClampNeg) (xs (w3 + 2).toNatClampNeg) (xs (w3 + 3).toNatClampNeg) (xs (w3 + 4).toNatClampNeg) σ259) (fun r265 σ266 =>
      if (lg_cmp r258 r265) = 0 then
        bnd (w3 + 6) (fun v268 =>
        some (.inl (v268, σ266)))
      else
        some (.inr 0)))))))))))
    else if v3 = 19 then
      bd2 (f_X7_image  σ) (fun r272 σ273 =>
      bd2 (f_X8_image  σ273) (fun r275 σ276 =>
      if r272 = r275 then
        bnd (w3 + 6) (fun v278 =>
        some (.inl (v278, σ276)))
      else
        some (.inr 0)))
    else if v3 = 20 then
      bd2 (f_X7_back  σ) (fun r282 σ283 =>
      bd2 (f_X8_back  σ283) (fun r285 σ286 =>
      if r282 = r285 then
        bnd (w3 + 6) (fun v288 =>
        some (.inl (v288, σ286)))
      else
        some (.inr 0)))
    else if v3 = 21 then
      ck (w3 + 1) nn (
      bd1 (f_X7_count (xs (w3 + 1).toNatClampNeg) σ) (fun r293 =>
      ck (w3 + 1) nn (
      bd1 (f_X8_count (xs (w3 + 1).toNatClampNeg) σ) (fun r296 =>
      if r293 = r296 then
        bnd (w3 + 6) (fun v298 =>
        some (.inl (v298, σ)))
      else
        some (.inr 0)))))
    else if v3 = 22 then
      ck (w3 + 1) nn (
      ck (w3 + 2) nn (
      ck (w3 + 3) nn (
      bd2 (f_X7_sheet (xs (w3 + 1).toNatClampNeg) (xs (w3 + 2).toNatClampNeg) (xs (w3 + 3).toNatClampNeg) σ) (fun r305 σ306 =>
      ck (w3 + 1) nn (
      ck (w3 + 2) nn (
      ck (w3 + 3) nn (
      bd2 (f_X8_sheet (xs (w3 + 1).toNatClampNeg) (xs (w3 + 2).toNatClampNeg) (xs (w3 + 3).toNatClampNeg) σ306) (fun r311 σ312 =>
      if r305 = r311 then
        bnd (w3 + 6) (fun v314 =>
        some (.inl (v314, σ312)))
      else
        some (.inr 0)))))))))
    else if v3 = 23 then
      ck (w3 + 1) nn (
      ck (w3 + 2) nn (
      ck (w3 + 3) nn (
      bd2 (f_X7_cell (xs (w3 + 1).toNatClampNeg) (xs (w3 + 2).toNatClampNeg) (xs (w3 + 3).toNatClampNeg) σ) (fun r321 σ322 =>
      ck (w3 + 1) nn (
      ck (w3 + 2) nn (
      ck (w3 + 3) nn (
      bd2 (f_X8_cell (xs (w3 + 1).toNatClampNeg) (xs (w3 + 2).toNatClampNeg) (xs (w3 + 3).toNatClampNeg) σ322) (fun r327 σ328 =>
      if r321 = r327 then
        bnd (w3 + 6) (fun v330 =>
        some (.inl (v330, σ328)))
      else
        some (.inr 0)))))))))
    else if v3 = 24 then
      ck (w3 + 1) nn (
      ck (w3 + 2) nn (
      ck (w3 + 3) nn (
      ck (w3 + 4) nn (
      ck (w3 + 5) nn (
      bd2 (f_X7_copy (xs (w3 + 1).toNatClampNeg) (xs (w3 + 2).toNatClampNeg) (xs (w3 + 3).toNatClampNeg) (xs (w3 + 4).toNatClampNeg) (xs (w3 + 5).toNatClampNeg) σ) (fun r339 σ340 =>
      ck (w3 + 1) nn (
      ck (w3 + 2) nn (
      ck (w3 + 3) nn (
      ck (w3 + 4) nn (
      ck (w3 + 5) nn (
      bd2 (f_X8_copy (xs (w3 + 1).toNatClampNeg) (xs (w3 + 2).toNatClampNeg) (xs (w3 + 3).toNatClampNeg) (xs (w3 + 4).toNatClampNeg) (xs (w3 + 5).toNatClampNeg) σ340) (fun r347 σ348 =>
      if r339 = r347 then
        bnd (w3 + 6) (fun v350 =>
        some (.inl (v350, σ348)))
      else
        some (.inr 0)))))))))))))
    else if v3 = 25 then
      ck (w3 + 1) nn (
      ck (w3 + 2) nn (
      ck (w3 + 3) nn (
      ck (w3 + 4) nn (
      bd2 (f_X7_court (xs (w3 + 1).toNatClampNeg) (xs (w3 + 2).toNatClampNeg) (xs (w3 + 3).toNatClampNeg) (xs (w3 + 4).toNatClampNeg) σ) (fun r358 σ359 =>
      ck (w3 + 1) nn (
      ck (w3 + 2) nn (
      ck (w3 + 3) nn (
      ck (w3 + 4) nn (
      bd2 (f_X8_court (xs (w3 + 1).toNatClampNeg) (xs (w3 + 2).toNatClampNeg) (xs (w3 + 3).toNatClampNeg) (xs (w3 + 4).toNatClampNeg) σ359) (fun r365 σ366 =>
      if r358 = r365 then
        bnd (w3 + 6) (fun v368 =>
        some (.inl (v368, σ366)))
      else
        some (.inr 0)))))))))))
    else if v3 = 26 then
      ck (w3 + 1) nn (
      ck (w3 + 2) nn (
      bd1 (f_X7_taken (xs (w3 + 1).toNatClampNeg) (xs (w3 + 2).toNatClampNeg) σ) (fun r374 =>
      ck (w3 + 1) nn (
      ck (w3 + 2) nn (
      bd1 (f_X8_taken (xs (w3 + 1).toNatClampNeg) (xs (w3 + 2).toNatClampNeg) σ) (fun r378 =>
      if r374 = r378 then
        bnd (w3 + 6) (fun v380 =>
        some (.inl (v380, σ)))
      else
        some (.inr 0)))))))
    else 
      bnd (w3 + 6) (fun v382 =>
      some (.inl (v382, σ)))))
