def rm_X7_townOf : Room := { frames := 0, cells := 0, slots := 0, locals := 0 }
set_option maxHeartbeats 4000000 in
set_option maxRecDepth 100000 in
theorem c_X7_townOf {l : Launch} {D : va_G} {G : gT} (n : Nat) (hn : n < 40000) : CtI (σ := Unit) l yX7_townOf wsX7_townOf rm_X7_townOf D G [.int (nI (eS n))] [] (fun r _ => r = nI (n % 4)) (fun _ => []) := by
  have hs := eS_lt hn
  refine openI (maxL := 1) (by decide) rfl (Nat.le_of_ble_eq_true rfl) ?_
  intro pg ev sg mm ags bl me cd A Q F hmn rt
  refine v_lv (lz := [(0, .int (nI (eS n)))]) rfl ?_
  refine v_iload_n (pc' := 1) F dX7_townOf_0 rfl 0 rfl rfl ?_
  refine v_iconst (pc' := 2) (v := nI 3) F dX7_townOf_1 (by decide) rfl ?_
  refine v_iand (pc' := 3) (z := nI ((eS n) % 4)) F dX7_townOf_2 (pk_andN (by omega) 2 (by decide)) rfl ?_
  exact rt dX7_townOf_3 () (by rw [eS_town]) rfl
def rm_X7_goodsOf : Room := { frames := 0, cells := 0, slots := 0, locals := 0 }
set_option maxHeartbeats 4000000 in
set_option maxRecDepth 100000 in
theorem c_X7_goodsOf {l : Launch} {D : va_G} {G : gT} (n : Nat) (hn : n < 40000) : CtI (σ := Unit) l yX7_goodsOf wsX7_goodsOf rm_X7_goodsOf D G [.int (nI (eS n))] [] (fun r _ => r = nI (n / 2500)) (fun _ => []) := by
  have hs := eS_lt hn
  refine openI (maxL := 1) (by decide) rfl (Nat.le_of_ble_eq_true rfl) ?_
  intro pg ev sg mm ags bl me cd A Q F hmn rt
  refine v_lv (lz := [(0, .int (nI (eS n)))]) rfl ?_
  refine v_iload_n (pc' := 1) F dX7_goodsOf_0 rfl 0 rfl rfl ?_
  refine v_iconst (pc' := 2) (v := nI 2) F dX7_goodsOf_1 (by decide) rfl ?_
  refine v_ishr (pc' := 3) (z := nI ((eS n) / 2 ^ 2)) F dX7_goodsOf_2 (ni_shr (by omega) (by omega)) rfl ?_
  refine v_bipush (pc' := 5) (v := nI 15) F dX7_goodsOf_3 (by decide) rfl ?_
  refine v_iand (pc' := 6) (z := nI (((eS n) / 2 ^ 2) % 16)) F dX7_goodsOf_5 (pk_andN (by omega) 4 (by decide)) rfl ?_
  exact rt dX7_goodsOf_6 () (by rw [eS_goods hn]) rfl
def rm_X7_hasGood : Room := { frames := 0, cells := 0, slots := 0, locals := 0 }
set_option maxHeartbeats 4000000 in
set_option maxRecDepth 100000 in
theorem c_X7_hasGood {l : Launch} {D : va_G} {G : gT} (n g : Nat) (hn : n < 40000) (hg : g < 4) : CtI (σ := Unit) l yX7_hasGood wsX7_hasGood rm_X7_hasGood D G [.int (nI (eS n)), .int (nI g)] [] (fun r _ => r = bI (gd n g)) (fun _ => []) := by
  have hs := eS_lt hn
  have hd := Nat.div_le_self (eS n) (2 ^ (2 + g))
  have hb : eS n / 2 ^ (2 + g) % 2 < 2 := Nat.mod_lt _ (by decide)
  refine openZ (maxL := 2) (by decide) rfl (Nat.le_of_ble_eq_true rfl) ?_
  intro pg ev sg mm ags bl me cd A Q F hmn rt
  refine v_lv (lz := [(0, .int (nI (eS n))), (1, .int (nI g))]) rfl ?_
  refine v_iload_n (pc' := 1) F dX7_hasGood_0 rfl 0 rfl rfl ?_
  refine v_iconst (pc' := 2) (v := nI 2) F dX7_hasGood_1 (by decide) rfl ?_
  refine v_iload_n (pc' := 3) F dX7_hasGood_2 rfl 1 rfl rfl ?_
  refine v_iadd (pc' := 4) (z := nI (2 + g)) F dX7_hasGood_3 (nI_add _ _) rfl ?_
  refine v_ishr (pc' := 5) (z := nI ((eS n) / 2 ^ (2 + g))) F dX7_hasGood_4 (ni_shr (by omega) (by omega)) rfl ?_
  refine v_iconst (pc' := 6) (v := nI 1) F dX7_hasGood_5 (by decide) rfl ?_
  refine v_iand (pc' := 7) (z := nI (((eS n) / 2 ^ (2 + g)) % 2)) F dX7_hasGood_6 (pk_andN (by omega) 1 (by decide)) rfl ?_
  refine v_iconst (pc' := 8) (v := nI 1) F dX7_hasGood_7 (by decide) rfl ?_
  refine v_ncmp_ne (tgt := 15) (pc' := 11) F dX7_hasGood_8 (by omega) (by omega) (by decide) rfl (fun c1 => ?_) (fun c1 => ?_)
  · refine v_iconst (pc' := 16) (v := nI 0) F dX7_hasGood_15 (by decide) rfl ?_
    exact rt rfl dX7_hasGood_16 () (nI0_b (by rw [gd, ← eS_good hn hg]; assumption)) rfl
  · refine v_iconst (pc' := 12) (v := nI 1) F dX7_hasGood_11 (by decide) rfl ?_
    refine v_goto (tgt := 16) F dX7_hasGood_12 (by decide) ?_
    exact rt rfl dX7_hasGood_16 () (nI1_b (by rw [gd, ← eS_good hn hg]; assumption)) rfl
def rm_X7_coinsOf : Room := { frames := 0, cells := 0, slots := 0, locals := 0 }
set_option maxHeartbeats 4000000 in
set_option maxRecDepth 100000 in
theorem c_X7_coinsOf {l : Launch} {D : va_G} {G : gT} (n c : Nat) (hn : n < 40000) (hc : c < 4) : CtI (σ := Unit) l yX7_coinsOf wsX7_coinsOf rm_X7_coinsOf D G [.int (nI (eS n)), .int (nI c)] [] (fun r _ => r = nI (dg n c)) (fun _ => []) := by
  have hs := eS_lt hn
  have hd := Nat.div_le_self (eS n) (2 ^ (6 + 3 * c))
  refine openI (maxL := 2) (by decide) rfl (Nat.le_of_ble_eq_true rfl) ?_
  intro pg ev sg mm ags bl me cd A Q F hmn rt
  refine v_lv (lz := [(0, .int (nI (eS n))), (1, .int (nI c))]) rfl ?_
  refine v_iload_n (pc' := 1) F dX7_coinsOf_0 rfl 0 rfl rfl ?_
  refine v_bipush (pc' := 3) (v := nI 6) F dX7_coinsOf_1 (by decide) rfl ?_
  refine v_iconst (pc' := 4) (v := nI 3) F dX7_coinsOf_3 (by decide) rfl ?_
  refine v_iload_n (pc' := 5) F dX7_coinsOf_4 rfl 1 rfl rfl ?_
  refine v_imul (pc' := 6) (z := nI (3 * c)) F dX7_coinsOf_5 (pk_mul _ _) rfl ?_
  refine v_iadd (pc' := 7) (z := nI (6 + (3 * c))) F dX7_coinsOf_6 (nI_add _ _) rfl ?_
  refine v_ishr (pc' := 8) (z := nI ((eS n) / 2 ^ (6 + (3 * c)))) F dX7_coinsOf_7 (ni_shr (by omega) (by omega)) rfl ?_
  refine v_bipush (pc' := 10) (v := nI 7) F dX7_coinsOf_8 (by decide) rfl ?_
  refine v_iand (pc' := 11) (z := nI (((eS n) / 2 ^ (6 + (3 * c))) % 8)) F dX7_coinsOf_10 (pk_andN (by omega) 3 (by decide)) rfl ?_
  exact rt dX7_coinsOf_11 () (by rw [eS_coin hn hc]) rfl
def rm_X7_coinsTogether : Room := { frames := 1, cells := 0, slots := 0, locals := 21 }
set_option maxHeartbeats 4000000 in
set_option maxRecDepth 100000 in
theorem c_X7_coinsTogether {l : Launch} {D : va_G} {G : gT} (n : Nat) (hn : n < 40000) : CtI (σ := Unit) l yX7_coinsTogether wsX7_coinsTogether rm_X7_coinsTogether D G [.int (nI (eS n))] [] (fun r _ => r = nI (dT n)) (fun _ => []) := by
  refine openI (maxL := 1) (by decide) rfl (Nat.le_of_ble_eq_true rfl) ?_
  intro pg ev sg mm ags bl me cd A Q F hmn rt
  refine v_lv (lz := [(0, .int (nI (eS n)))]) rfl ?_
  refine v_iload_n (pc' := 1) F dX7_coinsTogether_0 rfl 0 rfl rfl ?_
  refine v_iconst (pc' := 2) (v := nI 0) F dX7_coinsTogether_1 (by decide) rfl ?_
  refine cSI0 (pc' := 5) (As := [.int (nI (eS n)), .int (nI 0)]) (rest := []) F (c_X7_coinsOf n 0 (by omega) (by omega)) (va_cwS 2 F.2.2.2.2.1 gX7_coinsTogether_X7_coinsOf rfl rfl rfl (by decide +kernel) ⟨Nat.le_of_ble_eq_true rfl, Nat.le_of_ble_eq_true rfl⟩) rfl rfl (Nat.le_of_ble_eq_true rfl) dX7_coinsTogether_2 ⟨Nat.zero_le _, Nat.zero_le _⟩ rfl (fun r u q1 => ?_)
  obtain rfl := q1
  refine v_iload_n (pc' := 6) F dX7_coinsTogether_5 rfl 0 rfl rfl ?_
  refine v_iconst (pc' := 7) (v := nI 1) F dX7_coinsTogether_6 (by decide) rfl ?_
  refine cSI0 (pc' := 10) (As := [.int (nI (eS n)), .int (nI 1)]) (rest := [.int (nI (dg n 0))]) F (c_X7_coinsOf n 1 (by omega) (by omega)) (va_cwS 2 F.2.2.2.2.1 gX7_coinsTogether_X7_coinsOf rfl rfl rfl (by decide +kernel) ⟨Nat.le_of_ble_eq_true rfl, Nat.le_of_ble_eq_true rfl⟩) rfl rfl (Nat.le_of_ble_eq_true rfl) dX7_coinsTogether_7 ⟨Nat.zero_le _, Nat.zero_le _⟩ rfl (fun r u q2 => ?_)
  obtain rfl := q2
  refine v_iadd (pc' := 11) (z := nI ((dg n 0) + (dg n 1))) F dX7_coinsTogether_10 (nI_add _ _) rfl ?_
  refine v_iload_n (pc' := 12) F dX7_coinsTogether_11 rfl 0 rfl rfl ?_
  refine v_iconst (pc' := 13) (v := nI 2) F dX7_coinsTogether_12 (by decide) rfl ?_
  refine cSI0 (pc' := 16) (As := [.int (nI (eS n)), .int (nI 2)]) (rest := [.int (nI ((dg n 0) + (dg n 1)))]) F (c_X7_coinsOf n 2 (by omega) (by omega)) (va_cwS 2 F.2.2.2.2.1 gX7_coinsTogether_X7_coinsOf rfl rfl rfl (by decide +kernel) ⟨Nat.le_of_ble_eq_true rfl, Nat.le_of_ble_eq_true rfl⟩) rfl rfl (Nat.le_of_ble_eq_true rfl) dX7_coinsTogether_13 ⟨Nat.zero_le _, Nat.zero_le _⟩ rfl (fun r u q3 => ?_)
  obtain rfl := q3
  refine v_iadd (pc' := 17) (z := nI (((dg n 0) + (dg n 1)) + (dg n 2))) F dX7_coinsTogether_16 (nI_add _ _) rfl ?_
  refine v_iload_n (pc' := 18) F dX7_coinsTogether_17 rfl 0 rfl rfl ?_
  refine v_iconst (pc' := 19) (v := nI 3) F dX7_coinsTogether_18 (by decide) rfl ?_
  refine cSI0 (pc' := 22) (As := [.int (nI (eS n)), .int (nI 3)]) (rest := [.int (nI (((dg n 0) + (dg n 1)) + (dg n 2)))]) F (c_X7_coinsOf n 3 (by omega) (by omega)) (va_cwS 2 F.2.2.2.2.1 gX7_coinsTogether_X7_coinsOf rfl rfl rfl (by decide +kernel) ⟨Nat.le_of_ble_eq_true rfl, Nat.le_of_ble_eq_true rfl⟩) rfl rfl (Nat.le_of_ble_eq_true rfl) dX7_coinsTogether_19 ⟨Nat.zero_le _, Nat.zero_le _⟩ rfl (fun r u q4 => ?_)
  obtain rfl := q4
  refine v_iadd (pc' := 23) (z := nI ((((dg n 0) + (dg n 1)) + (dg n 2)) + (dg n 3))) F dX7_coinsTogether_22 (nI_add _ _) rfl ?_
  exact rt dX7_coinsTogether_23 () rfl rfl
def rm_X7_withMore : Room := { frames := 0, cells := 0, slots := 0, locals := 0 }
set_option maxHeartbeats 4000000 in
set_option maxRecDepth 100000 in
theorem c_X7_withMore {l : Launch} {D : va_G} {G : gT} (n c a b : Nat) (hn : n < 40000) (hc : c < 4) (h1 : b ≤ dg n c + a) (h2 : dg n c + a ≤ b + 4) : CtI (σ := Unit) l yX7_withMore wsX7_withMore rm_X7_withMore D G [.int (nI (eS n)), .int (nI c), .int (nI a - nI b)] [] (fun r _ => r = nI (eS (wC n c a b))) (fun _ => []) := by
  have hs := eS_lt hn
  refine openI (maxL := 3) (by decide) rfl (Nat.le_of_ble_eq_true rfl) ?_
  intro pg ev sg mm ags bl me cd A Q F hmn rt
  refine v_lv (lz := [(0, .int (nI (eS n))), (1, .int (nI c)), (2, .int (nI a - nI b))]) rfl ?_
  refine v_iload_n (pc' := 1) F dX7_withMore_0 rfl 0 rfl rfl ?_
  refine v_iload_n (pc' := 2) F dX7_withMore_1 rfl 2 rfl rfl ?_
  refine v_iconst (pc' := 3) (v := nI 1) F dX7_withMore_2 (by decide) rfl ?_
  refine v_bipush (pc' := 5) (v := nI 6) F dX7_withMore_3 (by decide) rfl ?_
  refine v_iconst (pc' := 6) (v := nI 3) F dX7_withMore_5 (by decide) rfl ?_
  refine v_iload_n (pc' := 7) F dX7_withMore_6 rfl 1 rfl rfl ?_
  refine v_imul (pc' := 8) (z := nI (3 * c)) F dX7_withMore_7 (pk_mul _ _) rfl ?_
  refine v_iadd (pc' := 9) (z := nI (6 + (3 * c))) F dX7_withMore_8 (nI_add _ _) rfl ?_
  refine v_ishl (pc' := 10) (z := nI (1 * 2 ^ (6 + 3 * c))) F dX7_withMore_9 (ni_shl (by omega) (lt_pw hc)) rfl ?_
  refine v_imul (pc' := 11) (z := (nI a - nI b) * (nI (1 * 2 ^ (6 + 3 * c)))) F dX7_withMore_10 rfl rfl ?_
  refine v_iadd (pc' := 12) (z := (nI (eS n)) + ((nI a - nI b) * (nI (1 * 2 ^ (6 + 3 * c))))) F dX7_withMore_11 rfl rfl ?_
  exact rt dX7_withMore_12 () (wC_raw hn hc h1 h2) rfl
def rm_X7_withTown : Room := { frames := 0, cells := 0, slots := 0, locals := 0 }
set_option maxHeartbeats 4000000 in
set_option maxRecDepth 100000 in
theorem c_X7_withTown {l : Launch} {D : va_G} {G : gT} (n t : Nat) (hn : n < 40000) (ht : t < 4) : CtI (σ := Unit) l yX7_withTown wsX7_withTown rm_X7_withTown D G [.int (nI (eS n)), .int (nI t)] [] (fun r _ => r = nI (eS (wT n t))) (fun _ => []) := by
  refine openI (maxL := 2) (by decide) rfl (Nat.le_of_ble_eq_true rfl) ?_
  intro pg ev sg mm ags bl me cd A Q F hmn rt
  refine v_lv (lz := [(0, .int (nI (eS n))), (1, .int (nI t))]) rfl ?_
  refine v_iload_n (pc' := 1) F dX7_withTown_0 rfl 0 rfl rfl ?_
  refine v_bipush (pc' := 3) (v := (-4)) F dX7_withTown_1 (by decide) rfl ?_
  refine v_iand (pc' := 4) (z := (nI (eS n)) &&& (-4)) F dX7_withTown_3 rfl rfl ?_
  refine v_iload_n (pc' := 5) F dX7_withTown_4 rfl 1 rfl rfl ?_
  refine v_ior (pc' := 6) (z := ((nI (eS n)) &&& (-4)) ||| (nI t)) F dX7_withTown_5 rfl rfl ?_
  exact rt dX7_withTown_6 () (wT_raw hn ht) rfl
def rm_X7_withOtherGood : Room := { frames := 0, cells := 0, slots := 0, locals := 0 }
set_option maxHeartbeats 4000000 in
set_option maxRecDepth 100000 in
theorem c_X7_withOtherGood {l : Launch} {D : va_G} {G : gT} (n g : Nat) (hn : n < 40000) (hg : g < 4) : CtI (σ := Unit) l yX7_withOtherGood wsX7_withOtherGood rm_X7_withOtherGood D G [.int (nI (eS n)), .int (nI g)] [] (fun r _ => r = nI (eS (wG n g))) (fun _ => []) := by
  refine openI (maxL := 2) (by decide) rfl (Nat.le_of_ble_eq_true rfl) ?_
  intro pg ev sg mm ags bl me cd A Q F hmn rt
  refine v_lv (lz := [(0, .int (nI (eS n))), (1, .int (nI g))]) rfl ?_
  refine v_iload_n (pc' := 1) F dX7_withOtherGood_0 rfl 0 rfl rfl ?_
  refine v_iconst (pc' := 2) (v := nI 1) F dX7_withOtherGood_1 (by decide) rfl ?_
  refine v_iconst (pc' := 3) (v := nI 2) F dX7_withOtherGood_2 (by decide) rfl ?_
  refine v_iload_n (pc' := 4) F dX7_withOtherGood_3 rfl 1 rfl rfl ?_
  refine v_iadd (pc' := 5) (z := nI (2 + g)) F dX7_withOtherGood_4 (nI_add _ _) rfl ?_
  refine v_ishl (pc' := 6) (z := nI (1 * 2 ^ (2 + g))) F dX7_withOtherGood_5 (ni_shl (by omega) (lt_pw2 hg)) rfl ?_
  refine v_ixor (pc' := 7) (z := nI ((eS n) ^^^ (1 * 2 ^ (2 + g)))) F dX7_withOtherGood_6 (ni_xor _ _) rfl ?_
  exact rt dX7_withOtherGood_7 () (by rw [wG_raw hn hg]) rfl
def rm_X7_placeOf : Room := { frames := 0, cells := 0, slots := 0, locals := 0 }
set_option maxHeartbeats 4000000 in
set_option maxRecDepth 100000 in
theorem c_X7_placeOf {l : Launch} {D : va_G} {G : gT} (n : Nat) (hn : n < 40000) : CtI (σ := Unit) l yX7_placeOf wsX7_placeOf rm_X7_placeOf D G [.int (nI (eS n))] [] (fun r _ => r = nI (pl n)) (fun _ => []) := by
  have hs := eS_lt hn
  refine openI (maxL := 1) (by decide) rfl (Nat.le_of_ble_eq_true rfl) ?_
  intro pg ev sg mm ags bl me cd A Q F hmn rt
  refine v_lv (lz := [(0, .int (nI (eS n)))]) rfl ?_
  refine v_iload_n (pc' := 1) F dX7_placeOf_0 rfl 0 rfl rfl ?_
  refine v_bipush (pc' := 3) (v := nI 63) F dX7_placeOf_1 (by decide) rfl ?_
  refine v_iand (pc' := 4) (z := nI ((eS n) % 64)) F dX7_placeOf_3 (pk_andN (by omega) 6 (by decide)) rfl ?_
  exact rt dX7_placeOf_4 () (by rw [eS_place hn]; rfl) rfl
def rm_X7_withoutPlace : Room := { frames := 0, cells := 0, slots := 0, locals := 0 }
set_option maxHeartbeats 4000000 in
set_option maxRecDepth 100000 in
theorem c_X7_withoutPlace {l : Launch} {D : va_G} {G : gT} (n : Nat) (hn : n < 40000) : CtI (σ := Unit) l yX7_withoutPlace wsX7_withoutPlace rm_X7_withoutPlace D G [.int (nI (eS n))] [] (fun r _ => r = nI (eS (wP n))) (fun _ => []) := by
  have hs := eS_lt hn
  refine openI (maxL := 1) (by decide) rfl (Nat.le_of_ble_eq_true rfl) ?_
  intro pg ev sg mm ags bl me cd A Q F hmn rt
  refine v_lv (lz := [(0, .int (nI (eS n)))]) rfl ?_
  refine v_iload_n (pc' := 1) F dX7_withoutPlace_0 rfl 0 rfl rfl ?_
  refine v_bipush (pc' := 3) (v := (-64)) F dX7_withoutPlace_1 (by decide) rfl ?_
  refine v_iand (pc' := 4) (z := (nI (eS n)) &&& (-64)) F dX7_withoutPlace_3 rfl rfl ?_
  exact rt dX7_withoutPlace_4 () (by rw [and_m64 _ (by omega), wP_eq hn]) rfl
def rm_X7_purseOf : Room := { frames := 1, cells := 0, slots := 0, locals := 22 }
set_option maxHeartbeats 4000000 in
set_option maxRecDepth 100000 in
theorem c_X7_purseOf {l : Launch} {D : va_G} {G : gT} (x : Nat) (hx : x < 625) : CtI (σ := Unit) l yX7_purseOf wsX7_purseOf rm_X7_purseOf D G [.int (nI x)] [] (fun r _ => r = nI (eS (4 * x))) (fun _ => []) := by
  refine openI (maxL := 4) (by decide) rfl (Nat.le_of_ble_eq_true rfl) ?_
  intro pg ev sg mm ags bl me cd A Q F hmn rt
  refine v_lv (lz := [(0, .int (nI x))]) rfl ?_
  refine v_iconst (pc' := 1) (v := nI 0) F dX7_purseOf_0 (by decide) rfl ?_
  refine v_istore_n (pc' := 2) (lv' := [(1, .int (nI 0)), (0, .int (nI x))]) F dX7_purseOf_1 rfl (by decide) rfl rfl ?_
  refine v_iload_n (pc' := 3) F dX7_purseOf_2 rfl 1 rfl rfl ?_
  refine v_istore_n (pc' := 4) (lv' := [(2, .int (nI x)), (1, .int (nI 0)), (0, .int (nI x))]) F dX7_purseOf_3 rfl (by decide) rfl rfl ?_
  refine v_iconst (pc' := 5) (v := nI 0) F dX7_purseOf_4 (by decide) rfl ?_
  refine v_istore_n (pc' := 6) (lv' := [(3, .int (nI 0)), (2, .int (nI x)), (1, .int (nI 0)), (0, .int (nI x))]) F dX7_purseOf_5 rfl (by decide) rfl rfl ?_
  have L6 : ∀ (fu : Nat) (i : Nat) (pu : Nat) (re : Nat), i ≤ 4 → pu = eS (4 * (x % 5 ^ i)) → re = x / 5 ^ i → 4 < i + fu → V pg l ev rm_X7_purseOf sg mm ags bl me cd 0 0 Q D A 4 6 [(3, .int (nI i)), (2, .int (nI re)), (1, .int (nI pu)), (0, .int (nI x))] [] [] := by
    intro fu
    induction fu with
    | zero => intro i pu re hi hpu hre hfu; exact absurd hfu (by omega)
    | succ fu ih6 =>
      intro i pu re hi hpu hre hfu
      subst hpu
      subst hre
      have hm := Nat.div_le_self x (5 ^ i)
      refine v_iload_n (pc' := 7) F dX7_purseOf_6 rfl 0 rfl rfl ?_
      refine v_iconst (pc' := 8) (v := nI 4) F dX7_purseOf_7 (by decide) rfl ?_
      refine v_ncmp_ge (tgt := 30) (pc' := 11) F dX7_purseOf_8 (by omega) (by omega) (by decide) rfl (fun c2 => ?_) (fun c2 => ?_)
      · refine v_iload_n (pc' := 31) F dX7_purseOf_30 rfl 2 rfl rfl ?_
        exact rt dX7_purseOf_31 () (by rw [show i = 4 by omega, Nat.mod_eq_of_lt (by omega)]) rfl
      · refine v_iload_n (pc' := 12) F dX7_purseOf_11 rfl 2 rfl rfl ?_
        refine v_iload_n (pc' := 13) F dX7_purseOf_12 rfl 0 rfl rfl ?_
        refine v_iload_n (pc' := 14) F dX7_purseOf_13 rfl 1 rfl rfl ?_
        refine v_iconst (pc' := 15) (v := nI 5) F dX7_purseOf_14 (by decide) rfl ?_
        refine v_irem (pc' := 16) (z := nI ((x / 5 ^ i) % 5)) F dX7_purseOf_15 (nI_ne0 (by omega) (by omega)) (pk_rem (by omega) (by omega) (by omega)) rfl ?_
        refine v_top (y := nI ((x / 5 ^ i) % 5) - nI 0) (ni_sub0 _).symm ?_
        refine cSI0 (pc' := 19) (As := [.int (nI (eS (4 * (x % 5 ^ i)))), .int (nI i), .int (nI ((x / 5 ^ i) % 5) - nI 0)]) (rest := []) F (c_X7_withMore (4 * (x % 5 ^ i)) i ((x / 5 ^ i) % 5) 0 (pw5_lt hx) (by omega) (by omega) (pw5_ok hx)) (va_cwS 3 F.2.2.2.2.1 gX7_purseOf_X7_withMore rfl rfl rfl (by decide +kernel) ⟨Nat.le_of_ble_eq_true rfl, Nat.le_of_ble_eq_true rfl⟩) rfl rfl (Nat.le_of_ble_eq_true rfl) dX7_purseOf_16 ⟨Nat.zero_le _, Nat.zero_le _⟩ rfl (fun r u q3 => ?_)
        obtain rfl := q3
        refine v_istore_n (pc' := 20) (lv' := [(1, .int (nI (eS (wC (4 * (x % 5 ^ i)) i ((x / 5 ^ i) % 5) 0)))), (3, .int (nI i)), (2, .int (nI (x / 5 ^ i))), (0, .int (nI x))]) F dX7_purseOf_19 rfl (by decide) rfl rfl ?_
        refine v_iload_n (pc' := 21) F dX7_purseOf_20 rfl 2 rfl rfl ?_
        refine v_iconst (pc' := 22) (v := nI 5) F dX7_purseOf_21 (by decide) rfl ?_
        refine v_idiv (pc' := 23) (z := nI ((x / 5 ^ i) / 5)) F dX7_purseOf_22 (nI_ne0 (by omega) (by omega)) (pk_div (by omega) (by omega) (by omega)) rfl ?_
        refine v_istore_n (pc' := 24) (lv' := [(2, .int (nI ((x / 5 ^ i) / 5))), (1, .int (nI (eS (wC (4 * (x % 5 ^ i)) i ((x / 5 ^ i) % 5) 0)))), (3, .int (nI i)), (0, .int (nI x))]) F dX7_purseOf_23 rfl (by decide) rfl rfl ?_
        refine v_iinc (pc' := 27) (v := nI (i + 1)) (lv' := [(3, .int (nI (i + 1))), (2, .int (nI ((x / 5 ^ i) / 5))), (1, .int (nI (eS (wC (4 * (x % 5 ^ i)) i ((x / 5 ^ i) % 5) 0)))), (0, .int (nI x))]) F dX7_purseOf_24 2 rfl (nI_add _ _) (by decide) rfl rfl ?_
        refine v_goto (tgt := 6) F dX7_purseOf_27 (by decide) ?_
        exact ih6 (i + 1) (eS (wC (4 * (x % 5 ^ i)) i ((x / 5 ^ i) % 5) 0)) ((x / 5 ^ i) / 5) (by omega) (pw5_step) (by rw [Nat.pow_succ, Nat.div_div_eq_div_mul]) (by omega)
  exact L6 (4 + 1) 0 0 x (by omega) (by rw [Nat.pow_zero, Nat.mod_one]; decide) (by rw [Nat.pow_zero, Nat.div_one]) (by omega)
