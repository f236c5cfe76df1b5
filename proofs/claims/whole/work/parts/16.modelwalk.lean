def rm_X10_within : Room := { frames := 0, cells := 0, slots := 0, locals := 0 }
set_option maxHeartbeats 4000000 in
set_option maxRecDepth 100000 in
theorem c_X10_within {l : Launch} {D : va_G} {G : gT} (x lo hi : Int32) : CtI (σ := Unit) l yX10_within wsX10_within rm_X10_within D G [.int x, .int lo, .int hi] [] (fun r _ => r = bI (inR lo x hi)) (fun _ => []) := by
  refine openZ (maxL := 3) (by decide) rfl (Nat.le_of_ble_eq_true rfl) ?_
  intro pg ev sg mm ags bl me cd A Q F hmn rt
  refine v_lv (lz := [(0, .int x), (1, .int lo), (2, .int hi)]) rfl ?_
  refine v_iload_n (pc' := 1) F dX10_within_0 rfl 0 rfl rfl ?_
  refine v_iload_n (pc' := 2) F dX10_within_1 rfl 1 rfl rfl ?_
  refine v_icmp_lt (tgt := 14) (pc' := 5) F dX10_within_2 (by decide) rfl (fun c1 => ?_) (fun c1 => ?_)
  · refine v_iconst (pc' := 15) (v := nI 0) F dX10_within_14 (by decide) rfl ?_
    exact rt rfl dX10_within_15 () (nI0_b (fun z => by first | exact absurd z.1 (nle_of_lt (by assumption)) | exact absurd z.2 (nle_of_lt (by assumption)))) rfl
  · refine v_iload_n (pc' := 6) F dX10_within_5 rfl 0 rfl rfl ?_
    refine v_iload_n (pc' := 7) F dX10_within_6 rfl 2 rfl rfl ?_
    refine v_icmp_gt (tgt := 14) (pc' := 10) F dX10_within_7 (by decide) rfl (fun c2 => ?_) (fun c2 => ?_)
    · refine v_iconst (pc' := 15) (v := nI 0) F dX10_within_14 (by decide) rfl ?_
      exact rt rfl dX10_within_15 () (nI0_b (fun z => by first | exact absurd z.1 (nle_of_lt (by assumption)) | exact absurd z.2 (nle_of_lt (by assumption)))) rfl
    · refine v_iconst (pc' := 11) (v := nI 1) F dX10_within_10 (by decide) rfl ?_
      refine v_goto (tgt := 15) F dX10_within_11 (by decide) ?_
      exact rt rfl dX10_within_15 () (nI1_b ⟨nlt_le (by assumption), nlt_le (by assumption)⟩) rfl
def rm_X10_has : Room := { frames := 0, cells := 0, slots := 0, locals := 0 }
set_option maxHeartbeats 4000000 in
set_option maxRecDepth 100000 in
theorem c_X10_has {l : Launch} {D : va_G} {G : gT} (y j : Nat) (hy : y < 2 ^ 31) (hj : j < 31) : CtI (σ := Unit) l yX10_has wsX10_has rm_X10_has D G [.int (nI y), .int (nI j)] [] (fun r _ => r = bI (y / 2 ^ j % 2 = 1)) (fun _ => []) := by
  have h8 := Nat.div_le_self y (2 ^ j)
  refine openZ (maxL := 2) (by decide) rfl (Nat.le_of_ble_eq_true rfl) ?_
  intro pg ev sg mm ags bl me cd A Q F hmn rt
  refine v_lv (lz := [(0, .int (nI y)), (1, .int (nI j))]) rfl ?_
  refine v_iload_n (pc' := 1) F dX10_has_0 rfl 0 rfl rfl ?_
  refine v_iload_n (pc' := 2) F dX10_has_1 rfl 1 rfl rfl ?_
  refine v_ishr (pc' := 3) (z := nI (y / 2 ^ j)) F dX10_has_2 (ni_shr (by omega) (by omega)) rfl ?_
  refine v_iconst (pc' := 4) (v := nI 1) F dX10_has_3 (by decide) rfl ?_
  refine v_iand (pc' := 5) (z := nI ((y / 2 ^ j) % 2)) F dX10_has_4 (pk_andN (by omega) 1 (by decide)) rfl ?_
  refine v_iconst (pc' := 6) (v := nI 1) F dX10_has_5 (by decide) rfl ?_
  refine v_ncmp_ne (tgt := 13) (pc' := 9) F dX10_has_6 (by omega) (by omega) (by decide) rfl (fun c1 => ?_) (fun c1 => ?_)
  · refine v_iconst (pc' := 14) (v := nI 0) F dX10_has_13 (by decide) rfl ?_
    exact rt rfl dX10_has_14 () (nI0_b (by assumption)) rfl
  · refine v_iconst (pc' := 10) (v := nI 1) F dX10_has_9 (by decide) rfl ?_
    refine v_goto (tgt := 14) F dX10_has_10 (by decide) ?_
    exact rt rfl dX10_has_14 () (nI1_b (by assumption)) rfl
def rm_X10_size : Room := { frames := 0, cells := 0, slots := 0, locals := 0 }
set_option maxHeartbeats 4000000 in
set_option maxRecDepth 100000 in
theorem c_X10_size {l : Launch} {D : va_G} {G : gT} (y : Nat) (hy : y < 2 ^ 31) : CtI (σ := Unit) l yX10_size wsX10_size rm_X10_size D G [.int (nI y)] [] (fun r _ => r = nI (oneN y 4)) (fun _ => []) := by
  refine openI (maxL := 3) (by decide) rfl (Nat.le_of_ble_eq_true rfl) ?_
  intro pg ev sg mm ags bl me cd A Q F hmn rt
  refine v_lv (lz := [(0, .int (nI y))]) rfl ?_
  refine v_iconst (pc' := 1) (v := nI 0) F dX10_size_0 (by decide) rfl ?_
  refine v_istore_n (pc' := 2) (lv' := [(1, .int (nI 0)), (0, .int (nI y))]) F dX10_size_1 rfl (by decide) rfl rfl ?_
  refine v_iconst (pc' := 3) (v := nI 0) F dX10_size_2 (by decide) rfl ?_
  refine v_istore_n (pc' := 4) (lv' := [(2, .int (nI 0)), (1, .int (nI 0)), (0, .int (nI y))]) F dX10_size_3 rfl (by decide) rfl rfl ?_
  have L4 : ∀ (fu : Nat) (j : Nat) (ct : Nat), j ≤ 4 → ct = oneN y j → 4 < j + fu → V pg l ev rm_X10_size sg mm ags bl me cd 0 0 Q D A 3 4 [(2, .int (nI j)), (1, .int (nI ct)), (0, .int (nI y))] [] [] := by
    intro fu
    induction fu with
    | zero => intro j ct hj hct hfu; exact absurd hfu (by omega)
    | succ fu ih4 =>
      intro j ct hj hct hfu
      have h8 := Nat.div_le_self y (2 ^ j)
      have h7 := oneN_le y j
      refine v_iload_n (pc' := 5) F dX10_size_4 rfl 0 rfl rfl ?_
      refine v_iconst (pc' := 6) (v := nI 4) F dX10_size_5 (by decide) rfl ?_
      refine v_ncmp_ge (tgt := 23) (pc' := 9) F dX10_size_6 (by omega) (by omega) (by decide) rfl (fun c2 => ?_) (fun c2 => ?_)
      · refine v_iload_n (pc' := 24) F dX10_size_23 rfl 1 rfl rfl ?_
        exact rt dX10_size_24 () (by rw [hct, show j = 4 by omega]) rfl
      · refine v_iload_n (pc' := 10) F dX10_size_9 rfl 1 rfl rfl ?_
        refine v_iload_n (pc' := 11) F dX10_size_10 rfl 2 rfl rfl ?_
        refine v_iload_n (pc' := 12) F dX10_size_11 rfl 0 rfl rfl ?_
        refine v_ishr (pc' := 13) (z := nI (y / 2 ^ j)) F dX10_size_12 (ni_shr (by omega) (by omega)) rfl ?_
        refine v_iconst (pc' := 14) (v := nI 1) F dX10_size_13 (by decide) rfl ?_
        refine v_iand (pc' := 15) (z := nI ((y / 2 ^ j) % 2)) F dX10_size_14 (pk_andN (by omega) 1 (by decide)) rfl ?_
        refine v_iadd (pc' := 16) (z := nI (ct + ((y / 2 ^ j) % 2))) F dX10_size_15 (nI_add _ _) rfl ?_
        refine v_istore_n (pc' := 17) (lv' := [(1, .int (nI (ct + ((y / 2 ^ j) % 2)))), (2, .int (nI j)), (0, .int (nI y))]) F dX10_size_16 rfl (by decide) rfl rfl ?_
        refine v_iinc (pc' := 20) (v := nI (j + 1)) (lv' := [(2, .int (nI (j + 1))), (1, .int (nI (ct + ((y / 2 ^ j) % 2)))), (0, .int (nI y))]) F dX10_size_17 1 rfl (nI_add _ _) (by decide) rfl rfl ?_
        refine v_goto (tgt := 4) F dX10_size_20 (by decide) ?_
        exact ih4 (j + 1) (ct + ((y / 2 ^ j) % 2)) (by omega) (by rw [hct]; rfl) (by omega)
  exact L4 (4 + 1) 0 0 (by omega) (rfl) (by omega)
def rm_X10_isTown : Room := { frames := 1, cells := 0, slots := 0, locals := 22 }
set_option maxHeartbeats 4000000 in
set_option maxRecDepth 100000 in
theorem c_X10_isTown {l : Launch} {D : va_G} {G : gT} (x : Int32) : CtI (σ := Unit) l yX10_isTown wsX10_isTown rm_X10_isTown D G [.int x] [] (fun r _ => r = bI (inR (nI 0) x (nI 3))) (fun _ => []) := by
  refine openZ (maxL := 1) (by decide) rfl (Nat.le_of_ble_eq_true rfl) ?_
  intro pg ev sg mm ags bl me cd A Q F hmn rt
  refine v_lv (lz := [(0, .int x)]) rfl ?_
  refine v_iload_n (pc' := 1) F dX10_isTown_0 rfl 0 rfl rfl ?_
  refine v_iconst (pc' := 2) (v := nI 0) F dX10_isTown_1 (by decide) rfl ?_
  refine v_iconst (pc' := 3) (v := nI 3) F dX10_isTown_2 (by decide) rfl ?_
  refine cSI0 (pc' := 6) (As := [.int x, .int (nI 0), .int (nI 3)]) (rest := []) F (c_X10_within x (nI 0) (nI 3)) (va_cwS 3 F.2.2.2.2.1 gX10_isTown_X10_within rfl rfl rfl (by decide +kernel) ⟨Nat.le_of_ble_eq_true rfl, Nat.le_of_ble_eq_true rfl⟩) rfl rfl (Nat.le_of_ble_eq_true rfl) dX10_isTown_3 ⟨Nat.zero_le _, Nat.zero_le _⟩ rfl (fun r u q1 => ?_)
  obtain rfl := q1
  exact rt (nar_bI _) dX10_isTown_6 () rfl rfl
def rm_X10_townIn : Room := { frames := 0, cells := 0, slots := 0, locals := 0 }
set_option maxHeartbeats 4000000 in
set_option maxRecDepth 100000 in
theorem c_X10_townIn {l : Launch} {D : va_G} {G : gT} (n : Nat) (hn : n < 40000) : CtI (σ := Unit) l yX10_townIn wsX10_townIn rm_X10_townIn D G [.int (nI n)] [] (fun r _ => r = nI (n % 4)) (fun _ => []) := by
  refine openI (maxL := 1) (by decide) rfl (Nat.le_of_ble_eq_true rfl) ?_
  intro pg ev sg mm ags bl me cd A Q F hmn rt
  refine v_lv (lz := [(0, .int (nI n))]) rfl ?_
  refine v_iload_n (pc' := 1) F dX10_townIn_0 rfl 0 rfl rfl ?_
  refine v_iconst (pc' := 2) (v := nI 4) F dX10_townIn_1 (by decide) rfl ?_
  refine v_irem (pc' := 3) (z := nI (n % 4)) F dX10_townIn_2 (nI_ne0 (by omega) (by omega)) (pk_rem (by omega) (by omega) (by omega)) rfl ?_
  exact rt dX10_townIn_3 () rfl rfl
def rm_X10_purseIn : Room := { frames := 0, cells := 0, slots := 0, locals := 0 }
set_option maxHeartbeats 4000000 in
set_option maxRecDepth 100000 in
theorem c_X10_purseIn {l : Launch} {D : va_G} {G : gT} (n : Nat) (hn : n < 40000) : CtI (σ := Unit) l yX10_purseIn wsX10_purseIn rm_X10_purseIn D G [.int (nI n)] [] (fun r _ => r = nI (n / 4 % 625)) (fun _ => []) := by
  refine openI (maxL := 1) (by decide) rfl (Nat.le_of_ble_eq_true rfl) ?_
  intro pg ev sg mm ags bl me cd A Q F hmn rt
  refine v_lv (lz := [(0, .int (nI n))]) rfl ?_
  refine v_iload_n (pc' := 1) F dX10_purseIn_0 rfl 0 rfl rfl ?_
  refine v_iconst (pc' := 2) (v := nI 4) F dX10_purseIn_1 (by decide) rfl ?_
  refine v_idiv (pc' := 3) (z := nI (n / 4)) F dX10_purseIn_2 (nI_ne0 (by omega) (by omega)) (pk_div (by omega) (by omega) (by omega)) rfl ?_
  refine v_sipush (pc' := 6) (v := nI 625) F dX10_purseIn_3 (by decide) rfl ?_
  refine v_irem (pc' := 7) (z := nI ((n / 4) % 625)) F dX10_purseIn_6 (nI_ne0 (by omega) (by omega)) (pk_rem (by omega) (by omega) (by omega)) rfl ?_
  exact rt dX10_purseIn_7 () rfl rfl
def rm_X10_goodsIn : Room := { frames := 0, cells := 0, slots := 0, locals := 0 }
set_option maxHeartbeats 4000000 in
set_option maxRecDepth 100000 in
theorem c_X10_goodsIn {l : Launch} {D : va_G} {G : gT} (n : Nat) (hn : n < 40000) : CtI (σ := Unit) l yX10_goodsIn wsX10_goodsIn rm_X10_goodsIn D G [.int (nI n)] [] (fun r _ => r = nI (n / 2500)) (fun _ => []) := by
  refine openI (maxL := 1) (by decide) rfl (Nat.le_of_ble_eq_true rfl) ?_
  intro pg ev sg mm ags bl me cd A Q F hmn rt
  refine v_lv (lz := [(0, .int (nI n))]) rfl ?_
  refine v_iload_n (pc' := 1) F dX10_goodsIn_0 rfl 0 rfl rfl ?_
  refine v_sipush (pc' := 4) (v := nI 2500) F dX10_goodsIn_1 (by decide) rfl ?_
  refine v_idiv (pc' := 5) (z := nI (n / 2500)) F dX10_goodsIn_4 (nI_ne0 (by omega) (by omega)) (pk_div (by omega) (by omega) (by omega)) rfl ?_
  exact rt dX10_goodsIn_5 () rfl rfl
def rm_X10_weight : Room := { frames := 0, cells := 0, slots := 0, locals := 0 }
set_option maxHeartbeats 4000000 in
set_option maxRecDepth 100000 in
theorem c_X10_weight {l : Launch} {D : va_G} {G : gT} (cc : Nat) (hc : cc < 4) : CtI (σ := Unit) l yX10_weight wsX10_weight rm_X10_weight D G [.int (nI cc)] [] (fun r _ => r = nI (5 ^ cc)) (fun _ => []) := by
  refine openI (maxL := 1) (by decide) rfl (Nat.le_of_ble_eq_true rfl) ?_
  intro pg ev sg mm ags bl me cd A Q F hmn rt
  refine v_lv (lz := [(0, .int (nI cc))]) rfl ?_
  refine v_iload_n (pc' := 1) F dX10_weight_0 rfl 0 rfl rfl ?_
  refine v_nif_ne (tgt := 8) (pc' := 4) F dX10_weight_1 (by omega) (by decide) rfl (fun c1 => ?_) (fun c1 => ?_)
  · refine v_iload_n (pc' := 9) F dX10_weight_8 rfl 0 rfl rfl ?_
    refine v_iconst (pc' := 10) (v := nI 1) F dX10_weight_9 (by decide) rfl ?_
    refine v_ncmp_ne (tgt := 17) (pc' := 13) F dX10_weight_10 (by omega) (by omega) (by decide) rfl (fun c2 => ?_) (fun c2 => ?_)
    · refine v_iload_n (pc' := 18) F dX10_weight_17 rfl 0 rfl rfl ?_
      refine v_iconst (pc' := 19) (v := nI 2) F dX10_weight_18 (by decide) rfl ?_
      refine v_ncmp_ne (tgt := 27) (pc' := 22) F dX10_weight_19 (by omega) (by omega) (by decide) rfl (fun c3 => ?_) (fun c3 => ?_)
      · refine v_bipush (pc' := 29) (v := nI 125) F dX10_weight_27 (by decide) rfl ?_
        exact rt dX10_weight_29 () (by rw [show cc = 3 by omega]) rfl
      · refine v_bipush (pc' := 24) (v := nI 25) F dX10_weight_22 (by decide) rfl ?_
        refine v_goto (tgt := 29) F dX10_weight_24 (by decide) ?_
        exact rt dX10_weight_29 () (by rw [show cc = 2 by assumption]) rfl
    · refine v_iconst (pc' := 14) (v := nI 5) F dX10_weight_13 (by decide) rfl ?_
      refine v_goto (tgt := 29) F dX10_weight_14 (by decide) ?_
      exact rt dX10_weight_29 () (by rw [show cc = 1 by assumption]) rfl
  · refine v_iconst (pc' := 5) (v := nI 1) F dX10_weight_4 (by decide) rfl ?_
    refine v_goto (tgt := 29) F dX10_weight_5 (by decide) ?_
    exact rt dX10_weight_29 () (by rw [show cc = 0 by assumption]) rfl
def rm_X10_coins : Room := { frames := 1, cells := 0, slots := 0, locals := 20 }
set_option maxHeartbeats 4000000 in
set_option maxRecDepth 100000 in
theorem c_X10_coins {l : Launch} {D : va_G} {G : gT} (n cc : Nat) (hn : n < 40000) (hc : cc < 4) : CtI (σ := Unit) l yX10_coins wsX10_coins rm_X10_coins D G [.int (nI n), .int (nI cc)] [] (fun r _ => r = nI (dg n cc)) (fun _ => []) := by
  have h5 := five_le hc
  have h6 : 0 < 5 ^ cc := Nat.pow_pos (by decide)
  have h7 := Nat.div_le_self (n / 4 % 625) (5 ^ cc)
  refine openI (maxL := 2) (by decide) rfl (Nat.le_of_ble_eq_true rfl) ?_
  intro pg ev sg mm ags bl me cd A Q F hmn rt
  refine v_lv (lz := [(0, .int (nI n)), (1, .int (nI cc))]) rfl ?_
  refine v_iload_n (pc' := 1) F dX10_coins_0 rfl 0 rfl rfl ?_
  refine cSI0 (pc' := 4) (As := [.int (nI n)]) (rest := []) F (c_X10_purseIn n (by omega)) (va_cwS 1 F.2.2.2.2.1 gX10_coins_X10_purseIn rfl rfl rfl (by decide +kernel) ⟨Nat.le_of_ble_eq_true rfl, Nat.le_of_ble_eq_true rfl⟩) rfl rfl (Nat.le_of_ble_eq_true rfl) dX10_coins_1 ⟨Nat.zero_le _, Nat.zero_le _⟩ rfl (fun r u q1 => ?_)
  obtain rfl := q1
  refine v_iload_n (pc' := 5) F dX10_coins_4 rfl 1 rfl rfl ?_
  refine cSI0 (pc' := 8) (As := [.int (nI cc)]) (rest := [.int (nI (n / 4 % 625))]) F (c_X10_weight cc (by omega)) (va_cwS 1 F.2.2.2.2.1 gX10_coins_X10_weight rfl rfl rfl (by decide +kernel) ⟨Nat.le_of_ble_eq_true rfl, Nat.le_of_ble_eq_true rfl⟩) rfl rfl (Nat.le_of_ble_eq_true rfl) dX10_coins_5 ⟨Nat.zero_le _, Nat.zero_le _⟩ rfl (fun r u q2 => ?_)
  obtain rfl := q2
  refine v_idiv (pc' := 9) (z := nI ((n / 4 % 625) / (5 ^ cc))) F dX10_coins_8 (nI_ne0 (by omega) (by omega)) (pk_div (by omega) (by omega) (by omega)) rfl ?_
  refine v_iconst (pc' := 10) (v := nI 5) F dX10_coins_9 (by decide) rfl ?_
  refine v_irem (pc' := 11) (z := nI (((n / 4 % 625) / (5 ^ cc)) % 5)) F dX10_coins_10 (nI_ne0 (by omega) (by omega)) (pk_rem (by omega) (by omega) (by omega)) rfl ?_
  exact rt dX10_coins_11 () rfl rfl
def rm_X10_coinsAll : Room := { frames := 2, cells := 0, slots := 0, locals := 41 }
set_option maxHeartbeats 4000000 in
set_option maxRecDepth 100000 in
theorem c_X10_coinsAll {l : Launch} {D : va_G} {G : gT} (n : Nat) (hn : n < 40000) : CtI (σ := Unit) l yX10_coinsAll wsX10_coinsAll rm_X10_coinsAll D G [.int (nI n)] [] (fun r _ => r = nI (dT n)) (fun _ => []) := by
  refine openI (maxL := 1) (by decide) rfl (Nat.le_of_ble_eq_true rfl) ?_
  intro pg ev sg mm ags bl me cd A Q F hmn rt
  refine v_lv (lz := [(0, .int (nI n))]) rfl ?_
  refine v_iload_n (pc' := 1) F dX10_coinsAll_0 rfl 0 rfl rfl ?_
  refine v_iconst (pc' := 2) (v := nI 0) F dX10_coinsAll_1 (by decide) rfl ?_
  refine cSI0 (pc' := 5) (As := [.int (nI n), .int (nI 0)]) (rest := []) F (c_X10_coins n 0 (by omega) (by omega)) (va_cwS 2 F.2.2.2.2.1 gX10_coinsAll_X10_coins rfl rfl rfl (by decide +kernel) ⟨Nat.le_of_ble_eq_true rfl, Nat.le_of_ble_eq_true rfl⟩) rfl rfl (Nat.le_of_ble_eq_true rfl) dX10_coinsAll_2 ⟨Nat.zero_le _, Nat.zero_le _⟩ rfl (fun r u q1 => ?_)
  obtain rfl := q1
  refine v_iload_n (pc' := 6) F dX10_coinsAll_5 rfl 0 rfl rfl ?_
  refine v_iconst (pc' := 7) (v := nI 1) F dX10_coinsAll_6 (by decide) rfl ?_
  refine cSI0 (pc' := 10) (As := [.int (nI n), .int (nI 1)]) (rest := [.int (nI (dg n 0))]) F (c_X10_coins n 1 (by omega) (by omega)) (va_cwS 2 F.2.2.2.2.1 gX10_coinsAll_X10_coins rfl rfl rfl (by decide +kernel) ⟨Nat.le_of_ble_eq_true rfl, Nat.le_of_ble_eq_true rfl⟩) rfl rfl (Nat.le_of_ble_eq_true rfl) dX10_coinsAll_7 ⟨Nat.zero_le _, Nat.zero_le _⟩ rfl (fun r u q2 => ?_)
  obtain rfl := q2
  refine v_iadd (pc' := 11) (z := nI ((dg n 0) + (dg n 1))) F dX10_coinsAll_10 (nI_add _ _) rfl ?_
  refine v_iload_n (pc' := 12) F dX10_coinsAll_11 rfl 0 rfl rfl ?_
  refine v_iconst (pc' := 13) (v := nI 2) F dX10_coinsAll_12 (by decide) rfl ?_
  refine cSI0 (pc' := 16) (As := [.int (nI n), .int (nI 2)]) (rest := [.int (nI ((dg n 0) + (dg n 1)))]) F (c_X10_coins n 2 (by omega) (by omega)) (va_cwS 2 F.2.2.2.2.1 gX10_coinsAll_X10_coins rfl rfl rfl (by decide +kernel) ⟨Nat.le_of_ble_eq_true rfl, Nat.le_of_ble_eq_true rfl⟩) rfl rfl (Nat.le_of_ble_eq_true rfl) dX10_coinsAll_13 ⟨Nat.zero_le _, Nat.zero_le _⟩ rfl (fun r u q3 => ?_)
  obtain rfl := q3
  refine v_iadd (pc' := 17) (z := nI (((dg n 0) + (dg n 1)) + (dg n 2))) F dX10_coinsAll_16 (nI_add _ _) rfl ?_
  refine v_iload_n (pc' := 18) F dX10_coinsAll_17 rfl 0 rfl rfl ?_
  refine v_iconst (pc' := 19) (v := nI 3) F dX10_coinsAll_18 (by decide) rfl ?_
  refine cSI0 (pc' := 22) (As := [.int (nI n), .int (nI 3)]) (rest := [.int (nI (((dg n 0) + (dg n 1)) + (dg n 2)))]) F (c_X10_coins n 3 (by omega) (by omega)) (va_cwS 2 F.2.2.2.2.1 gX10_coinsAll_X10_coins rfl rfl rfl (by decide +kernel) ⟨Nat.le_of_ble_eq_true rfl, Nat.le_of_ble_eq_true rfl⟩) rfl rfl (Nat.le_of_ble_eq_true rfl) dX10_coinsAll_19 ⟨Nat.zero_le _, Nat.zero_le _⟩ rfl (fun r u q4 => ?_)
  obtain rfl := q4
  refine v_iadd (pc' := 23) (z := nI ((((dg n 0) + (dg n 1)) + (dg n 2)) + (dg n 3))) F dX10_coinsAll_22 (nI_add _ _) rfl ?_
  exact rt dX10_coinsAll_23 () rfl rfl
def rm_X10_withCoins : Room := { frames := 1, cells := 0, slots := 0, locals := 20 }
set_option maxHeartbeats 4000000 in
set_option maxRecDepth 100000 in
theorem c_X10_withCoins {l : Launch} {D : va_G} {G : gT} (n cc a b : Nat) (hn : n < 40000) (hc : cc < 4) (h1 : b ≤ dg n cc + a) (h2 : dg n cc + a ≤ b + 4) : CtI (σ := Unit) l yX10_withCoins wsX10_withCoins rm_X10_withCoins D G [.int (nI n), .int (nI cc), .int (nI a - nI b)] [] (fun r _ => r = nI (wC n cc a b)) (fun _ => []) := by
  refine openI (maxL := 3) (by decide) rfl (Nat.le_of_ble_eq_true rfl) ?_
  intro pg ev sg mm ags bl me cd A Q F hmn rt
  refine v_lv (lz := [(0, .int (nI n)), (1, .int (nI cc)), (2, .int (nI a - nI b))]) rfl ?_
  refine v_iload_n (pc' := 1) F dX10_withCoins_0 rfl 0 rfl rfl ?_
  refine v_iconst (pc' := 2) (v := nI 4) F dX10_withCoins_1 (by decide) rfl ?_
  refine v_iload_n (pc' := 3) F dX10_withCoins_2 rfl 1 rfl rfl ?_
  refine cSI0 (pc' := 6) (As := [.int (nI cc)]) (rest := [.int (nI 4), .int (nI n)]) F (c_X10_weight cc (by omega)) (va_cwS 1 F.2.2.2.2.1 gX10_withCoins_X10_weight rfl rfl rfl (by decide +kernel) ⟨Nat.le_of_ble_eq_true rfl, Nat.le_of_ble_eq_true rfl⟩) rfl rfl (Nat.le_of_ble_eq_true rfl) dX10_withCoins_3 ⟨Nat.zero_le _, Nat.zero_le _⟩ rfl (fun r u q1 => ?_)
  obtain rfl := q1
  refine v_imul (pc' := 7) (z := nI (4 * (5 ^ cc))) F dX10_withCoins_6 (pk_mul _ _) rfl ?_
  refine v_iload_n (pc' := 8) F dX10_withCoins_7 rfl 2 rfl rfl ?_
  refine v_imul (pc' := 9) (z := (nI (4 * (5 ^ cc))) * (nI a - nI b)) F dX10_withCoins_8 rfl rfl ?_
  refine v_iadd (pc' := 10) (z := (nI n) + ((nI (4 * (5 ^ cc))) * (nI a - nI b))) F dX10_withCoins_9 rfl rfl ?_
  exact rt dX10_withCoins_10 () (wC_rawM hc h1) rfl
def rm_X10_isAct : Room := { frames := 1, cells := 0, slots := 0, locals := 22 }
set_option maxHeartbeats 4000000 in
set_option maxRecDepth 100000 in
theorem c_X10_isAct {l : Launch} {D : va_G} {G : gT} (x : Int32) : CtI (σ := Unit) l yX10_isAct wsX10_isAct rm_X10_isAct D G [.int x] [] (fun r _ => r = bI (aOkI x)) (fun _ => []) := by
  refine openZ (maxL := 1) (by decide) rfl (Nat.le_of_ble_eq_true rfl) ?_
  intro pg ev sg mm ags bl me cd A Q F hmn rt
  refine v_lv (lz := [(0, .int x)]) rfl ?_
  refine v_iload_n (pc' := 1) F dX10_isAct_0 rfl 0 rfl rfl ?_
  refine v_iconst (pc' := 2) (v := nI 0) F dX10_isAct_1 (by decide) rfl ?_
  refine v_iconst (pc' := 3) (v := nI 3) F dX10_isAct_2 (by decide) rfl ?_
  refine cSI0 (pc' := 6) (As := [.int x, .int (nI 0), .int (nI 3)]) (rest := []) F (c_X10_within x (nI 0) (nI 3)) (va_cwS 3 F.2.2.2.2.1 gX10_isAct_X10_within rfl rfl rfl (by decide +kernel) ⟨Nat.le_of_ble_eq_true rfl, Nat.le_of_ble_eq_true rfl⟩) rfl rfl (Nat.le_of_ble_eq_true rfl) dX10_isAct_3 ⟨Nat.zero_le _, Nat.zero_le _⟩ rfl (fun r u q1 => ?_)
  obtain rfl := q1
  refine v_bif_ne (tgt := 31) (pc' := 9) F dX10_isAct_6 (by decide) rfl (fun c2 => ?_) (fun c2 => ?_)
  · refine v_iconst (pc' := 32) (v := nI 1) F dX10_isAct_31 (by decide) rfl ?_
    refine v_goto (tgt := 36) F dX10_isAct_32 (by decide) ?_
    exact rt rfl dX10_isAct_36 () (nI1_b (by first | exact Or.inl (by assumption) | exact Or.inr (Or.inl (by assumption)) | exact Or.inr (Or.inr (by assumption)))) rfl
  · refine v_iload_n (pc' := 10) F dX10_isAct_9 rfl 0 rfl rfl ?_
    refine v_bipush (pc' := 12) (v := nI 10) F dX10_isAct_10 (by decide) rfl ?_
    refine v_bipush (pc' := 14) (v := nI 13) F dX10_isAct_12 (by decide) rfl ?_
    refine cSI0 (pc' := 17) (As := [.int x, .int (nI 10), .int (nI 13)]) (rest := []) F (c_X10_within x (nI 10) (nI 13)) (va_cwS 3 F.2.2.2.2.1 gX10_isAct_X10_within rfl rfl rfl (by decide +kernel) ⟨Nat.le_of_ble_eq_true rfl, Nat.le_of_ble_eq_true rfl⟩) rfl rfl (Nat.le_of_ble_eq_true rfl) dX10_isAct_14 ⟨Nat.zero_le _, Nat.zero_le _⟩ rfl (fun r u q3 => ?_)
    obtain rfl := q3
    refine v_bif_ne (tgt := 31) (pc' := 20) F dX10_isAct_17 (by decide) rfl (fun c4 => ?_) (fun c4 => ?_)
    · refine v_iconst (pc' := 32) (v := nI 1) F dX10_isAct_31 (by decide) rfl ?_
      refine v_goto (tgt := 36) F dX10_isAct_32 (by decide) ?_
      exact rt rfl dX10_isAct_36 () (nI1_b (by first | exact Or.inl (by assumption) | exact Or.inr (Or.inl (by assumption)) | exact Or.inr (Or.inr (by assumption)))) rfl
    · refine v_iload_n (pc' := 21) F dX10_isAct_20 rfl 0 rfl rfl ?_
      refine v_bipush (pc' := 23) (v := nI 20) F dX10_isAct_21 (by decide) rfl ?_
      refine v_bipush (pc' := 25) (v := nI 23) F dX10_isAct_23 (by decide) rfl ?_
      refine cSI0 (pc' := 28) (As := [.int x, .int (nI 20), .int (nI 23)]) (rest := []) F (c_X10_within x (nI 20) (nI 23)) (va_cwS 3 F.2.2.2.2.1 gX10_isAct_X10_within rfl rfl rfl (by decide +kernel) ⟨Nat.le_of_ble_eq_true rfl, Nat.le_of_ble_eq_true rfl⟩) rfl rfl (Nat.le_of_ble_eq_true rfl) dX10_isAct_25 ⟨Nat.zero_le _, Nat.zero_le _⟩ rfl (fun r u q5 => ?_)
      obtain rfl := q5
      refine v_bif_eq (tgt := 35) (pc' := 31) F dX10_isAct_28 (by decide) rfl (fun c6 => ?_) (fun c6 => ?_)
      · refine v_iconst (pc' := 36) (v := nI 0) F dX10_isAct_35 (by decide) rfl ?_
        exact rt rfl dX10_isAct_36 () (nI0_b (fun z => by rcases z with z | z | z <;> exact absurd z (by assumption))) rfl
      · refine v_iconst (pc' := 32) (v := nI 1) F dX10_isAct_31 (by decide) rfl ?_
        refine v_goto (tgt := 36) F dX10_isAct_32 (by decide) ?_
        exact rt rfl dX10_isAct_36 () (nI1_b (by first | exact Or.inl (by assumption) | exact Or.inr (Or.inl (by assumption)) | exact Or.inr (Or.inr (by assumption)))) rfl
def rm_X10_costs : Room := { frames := 0, cells := 0, slots := 0, locals := 0 }
theorem in_X10_costs_X10 : ∀ w ∈ u_ws RX10 TX10 38, w ∈ wsX10_costs := fun w h => List.mem_cons_of_mem _ (List.mem_append_right _ (h))
set_option maxHeartbeats 4000000 in
set_option maxRecDepth 100000 in
theorem c_X10_costs {l : Launch} {D : va_G} {G : gT} (o : Nat) (ma : Nat → Nat) (fi : Nat → Int32) (fl : Nat → Int64) (pr : Nat → Nat) (k t : Nat) (hk : k < 5) (ht : t < 4) (h1 : 1 ≤ pr t) (h4 : pr t ≤ 4) : CtI (σ := Unit) l yX10_costs wsX10_costs rm_X10_costs D G [.ref o, .int (nI k), .int (nI t)] [(o, mO ma fi fl), (ma 4, aI G 4 pr)] (fun r _ => r = nI (kCost k (pr t))) (fun _ => [(o, mO ma fi fl), (ma 4, aI G 4 pr)]) := by
  refine openI (maxL := 3) (by decide) rfl (Nat.le_of_ble_eq_true rfl) ?_
  intro pg ev sg mm ags bl me cd A Q F hmn rt
  refine v_lv (lz := [(0, .ref o), (1, .int (nI k)), (2, .int (nI t))]) rfl ?_
  refine v_iload_n (pc' := 1) F dX10_costs_0 rfl 1 rfl rfl ?_
  refine v_iconst (pc' := 2) (v := nI 1) F dX10_costs_1 (by decide) rfl ?_
  refine v_ncmp_ne (tgt := 26) (pc' := 5) F dX10_costs_2 (by omega) (by omega) (by decide) rfl (fun c1 => ?_) (fun c1 => ?_)
  · refine v_aload_n (pc' := 27) F dX10_costs_26 rfl 0 rfl rfl ?_
    refine v_get (pc' := 30) (v := .ref (ma 4)) (C := RX10) (T := TX10) (N := 38) F dX10_costs_27 in_X10_costs_X10 0 rfl rfl 4 (by decide) (List.mem_of_getElem? (i := 1) rfl) rfl rfl ?_
    refine v_iload_n (pc' := 31) F dX10_costs_30 rfl 2 rfl rfl ?_
    refine v_iald (pc' := 32) (z := pr t) F dX10_costs_31 1 rfl (by omega) (by decide) rfl rfl ?_
    exact rt dX10_costs_32 () (by rw [kCost_m2 h1 (by omega)]) rfl
  · refine v_aload_n (pc' := 6) F dX10_costs_5 rfl 0 rfl rfl ?_
    refine v_get (pc' := 9) (v := .ref (ma 4)) (C := RX10) (T := TX10) (N := 38) F dX10_costs_6 in_X10_costs_X10 0 rfl rfl 4 (by decide) (List.mem_of_getElem? (i := 1) rfl) rfl rfl ?_
    refine v_iload_n (pc' := 10) F dX10_costs_9 rfl 2 rfl rfl ?_
    refine v_iald (pc' := 11) (z := pr t) F dX10_costs_10 1 rfl (by omega) (by decide) rfl rfl ?_
    refine v_iconst (pc' := 12) (v := nI 1) F dX10_costs_11 (by decide) rfl ?_
    refine v_ncmp_le (tgt := 26) (pc' := 15) F dX10_costs_12 (by omega) (by omega) (by decide) rfl (fun c2 => ?_) (fun c2 => ?_)
    · refine v_aload_n (pc' := 27) F dX10_costs_26 rfl 0 rfl rfl ?_
      refine v_get (pc' := 30) (v := .ref (ma 4)) (C := RX10) (T := TX10) (N := 38) F dX10_costs_27 in_X10_costs_X10 0 rfl rfl 4 (by decide) (List.mem_of_getElem? (i := 1) rfl) rfl rfl ?_
      refine v_iload_n (pc' := 31) F dX10_costs_30 rfl 2 rfl rfl ?_
      refine v_iald (pc' := 32) (z := pr t) F dX10_costs_31 1 rfl (by omega) (by decide) rfl rfl ?_
      exact rt dX10_costs_32 () (by rw [kCost_m2 h1 (by omega)]) rfl
    · refine v_aload_n (pc' := 16) F dX10_costs_15 rfl 0 rfl rfl ?_
      refine v_get (pc' := 19) (v := .ref (ma 4)) (C := RX10) (T := TX10) (N := 38) F dX10_costs_16 in_X10_costs_X10 0 rfl rfl 4 (by decide) (List.mem_of_getElem? (i := 1) rfl) rfl rfl ?_
      refine v_iload_n (pc' := 20) F dX10_costs_19 rfl 2 rfl rfl ?_
      refine v_iald (pc' := 21) (z := pr t) F dX10_costs_20 1 rfl (by omega) (by decide) rfl rfl ?_
      refine v_iconst (pc' := 22) (v := nI 1) F dX10_costs_21 (by decide) rfl ?_
      refine v_isub (pc' := 23) (z := nI ((pr t) - 1)) F dX10_costs_22 (pk_sub (by omega)) rfl ?_
      refine v_goto (tgt := 32) F dX10_costs_23 (by decide) ?_
      exact rt dX10_costs_32 () (by rw [kCost_m1 (by assumption) (by assumption)]) rfl
def rm_X10_gets : Room := { frames := 0, cells := 0, slots := 0, locals := 0 }
theorem in_X10_gets_X10 : ∀ w ∈ u_ws RX10 TX10 38, w ∈ wsX10_gets := fun w h => List.mem_cons_of_mem _ (List.mem_append_right _ (h))
set_option maxHeartbeats 4000000 in
set_option maxRecDepth 100000 in
theorem c_X10_gets {l : Launch} {D : va_G} {G : gT} (o : Nat) (ma : Nat → Nat) (fi : Nat → Int32) (fl : Nat → Int64) (py : Nat → Nat) (k t : Nat) (hk : k < 5) (ht : t < 4) (h4 : py t ≤ 4) : CtI (σ := Unit) l yX10_gets wsX10_gets rm_X10_gets D G [.ref o, .int (nI k), .int (nI t)] [(o, mO ma fi fl), (ma 5, aI G 4 py)] (fun r _ => r = nI (py t + kM k)) (fun _ => [(o, mO ma fi fl), (ma 5, aI G 4 py)]) := by
  refine openI (maxL := 3) (by decide) rfl (Nat.le_of_ble_eq_true rfl) ?_
  intro pg ev sg mm ags bl me cd A Q F hmn rt
  refine v_lv (lz := [(0, .ref o), (1, .int (nI k)), (2, .int (nI t))]) rfl ?_
  refine v_aload_n (pc' := 1) F dX10_gets_0 rfl 0 rfl rfl ?_
  refine v_get (pc' := 4) (v := .ref (ma 5)) (C := RX10) (T := TX10) (N := 38) F dX10_gets_1 in_X10_gets_X10 0 rfl rfl 5 (by decide) (List.mem_of_getElem? (i := 1) rfl) rfl rfl ?_
  refine v_iload_n (pc' := 5) F dX10_gets_4 rfl 2 rfl rfl ?_
  refine v_iald (pc' := 6) (z := py t) F dX10_gets_5 1 rfl (by omega) (by decide) rfl rfl ?_
  refine v_iload_n (pc' := 7) F dX10_gets_6 rfl 1 rfl rfl ?_
  refine v_iconst (pc' := 8) (v := nI 3) F dX10_gets_7 (by decide) rfl ?_
  refine v_ncmp_ne (tgt := 15) (pc' := 11) F dX10_gets_8 (by omega) (by omega) (by decide) rfl (fun c1 => ?_) (fun c1 => ?_)
  · refine v_iload_n (pc' := 16) F dX10_gets_15 rfl 1 rfl rfl ?_
    refine v_iconst (pc' := 17) (v := nI 4) F dX10_gets_16 (by decide) rfl ?_
    refine v_ncmp_ne (tgt := 24) (pc' := 20) F dX10_gets_17 (by omega) (by omega) (by decide) rfl (fun c2 => ?_) (fun c2 => ?_)
    · refine v_iconst (pc' := 25) (v := nI 0) F dX10_gets_24 (by decide) rfl ?_
      refine v_iadd (pc' := 26) (z := nI ((py t) + 0)) F dX10_gets_25 (nI_add _ _) rfl ?_
      exact rt dX10_gets_26 () (by unfold kM; rw [if_neg (by assumption), if_neg (by assumption)]) rfl
    · refine v_iconst (pc' := 21) (v := nI 2) F dX10_gets_20 (by decide) rfl ?_
      refine v_goto (tgt := 25) F dX10_gets_21 (by decide) ?_
      refine v_iadd (pc' := 26) (z := nI ((py t) + 2)) F dX10_gets_25 (nI_add _ _) rfl ?_
      exact rt dX10_gets_26 () (by rw [show k = 4 by assumption]; rfl) rfl
  · refine v_iconst (pc' := 12) (v := nI 1) F dX10_gets_11 (by decide) rfl ?_
    refine v_goto (tgt := 25) F dX10_gets_12 (by decide) ?_
    refine v_iadd (pc' := 26) (z := nI ((py t) + 1)) F dX10_gets_25 (nI_add _ _) rfl ?_
    exact rt dX10_gets_26 () (by rw [show k = 3 by assumption]; rfl) rfl
def rm_X10_mayPay : Room := { frames := 1, cells := 0, slots := 0, locals := 21 }
theorem in_X10_mayPay_X10 : ∀ w ∈ u_ws RX10 TX10 38, w ∈ wsX10_mayPay := fun w h => List.mem_cons_of_mem _ (List.mem_append_right _ (h))
set_option maxHeartbeats 4000000 in
set_option maxRecDepth 100000 in
theorem c_X10_mayPay {l : Launch} {D : va_G} {G : gT} (o : Nat) (ma : Nat → Nat) (fi : Nat → Int32) (fl : Nat → Int64) (tk : Nat → Nat) (k t cc : Nat) (hk : k < 5) (ht : t < 4) (hc : cc < 4) (h4 : tk t < 16) : CtI (σ := Unit) l yX10_mayPay wsX10_mayPay rm_X10_mayPay D G [.ref o, .int (nI k), .int (nI t), .int (nI cc)] [(o, mO ma fi fl), (ma 2, aI G 4 tk)] (fun r _ => r = bI (kPay k (tk t) / 2 ^ cc % 2 = 1)) (fun _ => [(o, mO ma fi fl), (ma 2, aI G 4 tk)]) := by
  refine openZ (maxL := 4) (by decide) rfl (Nat.le_of_ble_eq_true rfl) ?_
  intro pg ev sg mm ags bl me cd A Q F hmn rt
  refine v_lv (lz := [(0, .ref o), (1, .int (nI k)), (2, .int (nI t)), (3, .int (nI cc))]) rfl ?_
  refine v_iload_n (pc' := 1) F dX10_mayPay_0 rfl 1 rfl rfl ?_
  refine v_iconst (pc' := 2) (v := nI 2) F dX10_mayPay_1 (by decide) rfl ?_
  refine v_ncmp_eq (tgt := 23) (pc' := 5) F dX10_mayPay_2 (by omega) (by omega) (by decide) rfl (fun c1 => ?_) (fun c1 => ?_)
  · refine v_iconst (pc' := 24) (v := nI 1) F dX10_mayPay_23 (by decide) rfl ?_
    refine v_goto (tgt := 28) F dX10_mayPay_24 (by decide) ?_
    exact rt rfl dX10_mayPay_28 () (nI1_b (by first | exact kPay_any (by omega) hc | (rw [kPay_no (by assumption) (by assumption)]; assumption))) rfl
  · refine v_iload_n (pc' := 6) F dX10_mayPay_5 rfl 1 rfl rfl ?_
    refine v_iconst (pc' := 7) (v := nI 4) F dX10_mayPay_6 (by decide) rfl ?_
    refine v_ncmp_eq (tgt := 23) (pc' := 10) F dX10_mayPay_7 (by omega) (by omega) (by decide) rfl (fun c2 => ?_) (fun c2 => ?_)
    · refine v_iconst (pc' := 24) (v := nI 1) F dX10_mayPay_23 (by decide) rfl ?_
      refine v_goto (tgt := 28) F dX10_mayPay_24 (by decide) ?_
      exact rt rfl dX10_mayPay_28 () (nI1_b (by first | exact kPay_any (by omega) hc | (rw [kPay_no (by assumption) (by assumption)]; assumption))) rfl
    · refine v_aload_n (pc' := 11) F dX10_mayPay_10 rfl 0 rfl rfl ?_
      refine v_get (pc' := 14) (v := .ref (ma 2)) (C := RX10) (T := TX10) (N := 38) F dX10_mayPay_11 in_X10_mayPay_X10 0 rfl rfl 2 (by decide) (List.mem_of_getElem? (i := 1) rfl) rfl rfl ?_
      refine v_iload_n (pc' := 15) F dX10_mayPay_14 rfl 2 rfl rfl ?_
      refine v_iald (pc' := 16) (z := tk t) F dX10_mayPay_15 1 rfl (by omega) (by decide) rfl rfl ?_
      refine v_iload_n (pc' := 17) F dX10_mayPay_16 rfl 3 rfl rfl ?_
      refine cSI0 (pc' := 20) (As := [.int (nI (tk t)), .int (nI cc)]) (rest := []) F (c_X10_has (tk t) cc (by omega) (by omega)) (va_cwS 2 F.2.2.2.2.1 gX10_mayPay_X10_has rfl rfl rfl (by decide +kernel) ⟨Nat.le_of_ble_eq_true rfl, Nat.le_of_ble_eq_true rfl⟩) rfl rfl (Nat.le_of_ble_eq_true rfl) dX10_mayPay_17 ⟨Nat.zero_le _, Nat.zero_le _⟩ rfl (fun r u q3 => ?_)
      obtain rfl := q3
      refine v_bif_eq (tgt := 27) (pc' := 23) F dX10_mayPay_20 (by decide) rfl (fun c4 => ?_) (fun c4 => ?_)
      · refine v_iconst (pc' := 28) (v := nI 0) F dX10_mayPay_27 (by decide) rfl ?_
        exact rt rfl dX10_mayPay_28 () (nI0_b (by rw [kPay_no (by assumption) (by assumption)]; assumption)) rfl
      · refine v_iconst (pc' := 24) (v := nI 1) F dX10_mayPay_23 (by decide) rfl ?_
        refine v_goto (tgt := 28) F dX10_mayPay_24 (by decide) ?_
        exact rt rfl dX10_mayPay_28 () (nI1_b (by first | exact kPay_any (by omega) hc | (rw [kPay_no (by assumption) (by assumption)]; assumption))) rfl
def rm_X10_behind : Room := { frames := 2, cells := 0, slots := 0, locals := 44 }
theorem in_X10_behind_X10 : ∀ w ∈ u_ws RX10 TX10 38, w ∈ wsX10_behind := fun w h => List.mem_cons_of_mem _ (List.mem_append_right _ (h))
set_option maxHeartbeats 4000000 in
set_option maxRecDepth 100000 in
theorem c_X10_behind {l : Launch} {D : va_G} {G : gT} (o : Nat) (ma : Nat → Nat) (fi : Nat → Int32) (fl : Nat → Int64) (tk gv pr py : Nat → Nat) (k n x : Nat) (hw : WL tk gv pr py) (hk : k < 5) (hn : n < 40000) (hx : aOk x) : CtI (σ := Unit) l yX10_behind wsX10_behind rm_X10_behind D G [.ref o, .int (nI k), .int (nI n), .int (nI x)] [(o, mO ma fi fl), (ma 2, aI G 4 tk), (ma 3, aI G 4 gv), (ma 4, aI G 4 pr), (ma 5, aI G 4 py)] (fun r _ => r = oM (mB k tk gv pr py n x)) (fun _ => [(o, mO ma fi fl), (ma 2, aI G 4 tk), (ma 3, aI G 4 gv), (ma 4, aI G 4 pr), (ma 5, aI G 4 py)]) := by
  have hx2 := hx
  unfold aOk at hx2
  have h9 := hw (n % 4) (Nat.mod_lt _ (by decide))
  have h8 := dg_lt n (x % 10)
  have h7 := kCost_le (k := k) h9.2.2.1
  have h6 := kM_le k
  have h5 := dg_lt n (gv (n % 4))
  have htw : 1 * 2 ^ (n % 4) ≤ 8 := pw_le8 (Nat.mod_lt _ (by decide))
  refine openI (maxL := 7) (by decide) rfl (Nat.le_of_ble_eq_true rfl) ?_
  intro pg ev sg mm ags bl me cd A Q F hmn rt
  refine v_lv (lz := [(0, .ref o), (1, .int (nI k)), (2, .int (nI n)), (3, .int (nI x))]) rfl ?_
  refine v_iload_n (pc' := 1) F dX10_behind_0 rfl 2 rfl rfl ?_
  refine cSI0 (pc' := 4) (As := [.int (nI n)]) (rest := []) F (c_X10_townIn n (by omega)) (va_cwS 1 F.2.2.2.2.1 gX10_behind_X10_townIn rfl rfl rfl (by decide +kernel) ⟨Nat.le_of_ble_eq_true rfl, Nat.le_of_ble_eq_true rfl⟩) rfl rfl (Nat.le_of_ble_eq_true rfl) dX10_behind_1 ⟨Nat.zero_le _, Nat.zero_le _⟩ rfl (fun r u q1 => ?_)
  obtain rfl := q1
  refine v_istore (pc' := 6) (lv' := [(4, .int (nI (n % 4))), (0, .ref o), (1, .int (nI k)), (2, .int (nI n)), (3, .int (nI x))]) F dX10_behind_4 (by decide) rfl rfl ?_
  refine v_iload_n (pc' := 7) F dX10_behind_6 rfl 4 rfl rfl ?_
  refine v_bipush (pc' := 9) (v := nI 10) F dX10_behind_7 (by decide) rfl ?_
  refine v_irem (pc' := 10) (z := nI (x % 10)) F dX10_behind_9 (nI_ne0 (by omega) (by omega)) (pk_rem (by omega) (by omega) (by omega)) rfl ?_
  refine v_istore (pc' := 12) (lv' := [(5, .int (nI (x % 10))), (4, .int (nI (n % 4))), (0, .ref o), (1, .int (nI k)), (2, .int (nI n)), (3, .int (nI x))]) F dX10_behind_10 (by decide) rfl rfl ?_
  refine v_iload_n (pc' := 13) F dX10_behind_12 rfl 5 rfl rfl ?_
  refine v_bipush (pc' := 15) (v := nI 10) F dX10_behind_13 (by decide) rfl ?_
  refine v_ncmp_ge (tgt := 64) (pc' := 18) F dX10_behind_15 (by omega) (by omega) (by decide) rfl (fun c2 => ?_) (fun c2 => ?_)
  · refine v_iload_n (pc' := 65) F dX10_behind_64 rfl 5 rfl rfl ?_
    refine v_bipush (pc' := 67) (v := nI 20) F dX10_behind_65 (by decide) rfl ?_
    refine v_ncmp_ge (tgt := 150) (pc' := 70) F dX10_behind_67 (by omega) (by omega) (by decide) rfl (fun c3 => ?_) (fun c3 => ?_)
    · have hk20 : x % 10 = x - 20 := by omega
      have htx : 1 * 2 ^ (x % 10) ≤ 8 := pw_le8 (by omega)
      refine v_iload_n (pc' := 151) F dX10_behind_150 rfl 4 rfl rfl ?_
      refine cSI0 (pc' := 154) (As := [.int (nI n)]) (rest := []) F (c_X10_goodsIn n (by omega)) (va_cwS 1 F.2.2.2.2.1 gX10_behind_X10_goodsIn rfl rfl rfl (by decide +kernel) ⟨Nat.le_of_ble_eq_true rfl, Nat.le_of_ble_eq_true rfl⟩) rfl rfl (Nat.le_of_ble_eq_true rfl) dX10_behind_151 ⟨Nat.zero_le _, Nat.zero_le _⟩ rfl (fun r u q4 => ?_)
      obtain rfl := q4
      refine v_iload (pc' := 156) F dX10_behind_154 0 rfl rfl ?_
      refine cSI0 (pc' := 159) (As := [.int (nI (n / 2500)), .int (nI (x % 10))]) (rest := []) F (c_X10_has (n / 2500) (x % 10) (by omega) (by omega)) (va_cwS 2 F.2.2.2.2.1 gX10_behind_X10_has rfl rfl rfl (by decide +kernel) ⟨Nat.le_of_ble_eq_true rfl, Nat.le_of_ble_eq_true rfl⟩) rfl rfl (Nat.le_of_ble_eq_true rfl) dX10_behind_156 ⟨Nat.zero_le _, Nat.zero_le _⟩ rfl (fun r u q5 => ?_)
      obtain rfl := q5
      refine v_bif_eq (tgt := 196) (pc' := 162) F dX10_behind_159 (by decide) rfl (fun c6 => ?_) (fun c6 => ?_)
      · refine v_iconst (pc' := 197) (v := nI 0) F dX10_behind_196 (by decide) rfl ?_
        refine v_istore (pc' := 199) (lv' := [(6, .int (nI 0)), (5, .int (nI (x % 10))), (4, .int (nI (n % 4))), (0, .ref o), (1, .int (nI k)), (2, .int (nI n)), (3, .int (nI x))]) F dX10_behind_197 (by decide) rfl rfl ?_
        refine v_iload (pc' := 201) F dX10_behind_199 0 rfl rfl ?_
        refine v_nif_eq (tgt := 234) (pc' := 204) F dX10_behind_201 (by omega) (by decide) rfl (fun c7 => ?_) (fun c7 => ?_)
        · refine v_iconst (pc' := 235) (v := (-1)) F dX10_behind_234 (by decide) rfl ?_
          exact rt dX10_behind_235 () (by unfold mB bh; rw [if_neg (by omega), if_neg (by omega)]; exact (oM_none (if_neg (fun z => by rw [← hk20] at z; first | exact absurd z.1 (by assumption) | exact absurd (by assumption) z.2.1 | exact absurd z.2.2 (Nat.not_le.mpr (by assumption))))).symm) rfl
        · exact absurd c7 (by decide)
      · refine v_iload (pc' := 164) F dX10_behind_162 0 rfl rfl ?_
        refine v_iload (pc' := 166) F dX10_behind_164 1 rfl rfl ?_
        refine v_ncmp_eq (tgt := 196) (pc' := 169) F dX10_behind_166 (by omega) (by omega) (by decide) rfl (fun c8 => ?_) (fun c8 => ?_)
        · refine v_iconst (pc' := 197) (v := nI 0) F dX10_behind_196 (by decide) rfl ?_
          refine v_istore (pc' := 199) (lv' := [(6, .int (nI 0)), (5, .int (nI (x % 10))), (4, .int (nI (n % 4))), (0, .ref o), (1, .int (nI k)), (2, .int (nI n)), (3, .int (nI x))]) F dX10_behind_197 (by decide) rfl rfl ?_
          refine v_iload (pc' := 201) F dX10_behind_199 0 rfl rfl ?_
          refine v_nif_eq (tgt := 234) (pc' := 204) F dX10_behind_201 (by omega) (by decide) rfl (fun c9 => ?_) (fun c9 => ?_)
          · refine v_iconst (pc' := 235) (v := (-1)) F dX10_behind_234 (by decide) rfl ?_
            exact rt dX10_behind_235 () (by unfold mB bh; rw [if_neg (by omega), if_neg (by omega)]; exact (oM_none (if_neg (fun z => by rw [← hk20] at z; first | exact absurd z.1 (by assumption) | exact absurd (by assumption) z.2.1 | exact absurd z.2.2 (Nat.not_le.mpr (by assumption))))).symm) rfl
          · exact absurd c9 (by decide)
        · refine v_iload_n (pc' := 170) F dX10_behind_169 rfl 4 rfl rfl ?_
          refine v_aload_n (pc' := 171) F dX10_behind_170 rfl 2 rfl rfl ?_
          refine v_get (pc' := 174) (v := .ref (ma 3)) (C := RX10) (T := TX10) (N := 38) F dX10_behind_171 in_X10_behind_X10 0 rfl rfl 3 (by decide) (List.mem_of_getElem? (i := 1) rfl) rfl rfl ?_
          refine v_iload (pc' := 176) F dX10_behind_174 1 rfl rfl ?_
          refine v_iald (pc' := 177) (z := gv (n % 4)) F dX10_behind_176 2 rfl (by omega) (by decide) rfl rfl ?_
          refine cSI0 (pc' := 180) (As := [.int (nI n), .int (nI (gv (n % 4)))]) (rest := []) F (c_X10_coins n (gv (n % 4)) (by omega) (by omega)) (va_cwS 2 F.2.2.2.2.1 gX10_behind_X10_coins rfl rfl rfl (by decide +kernel) ⟨Nat.le_of_ble_eq_true rfl, Nat.le_of_ble_eq_true rfl⟩) rfl rfl (Nat.le_of_ble_eq_true rfl) dX10_behind_177 ⟨Nat.zero_le _, Nat.zero_le _⟩ rfl (fun r u q10 => ?_)
          obtain rfl := q10
          refine v_aload_n (pc' := 181) F dX10_behind_180 rfl 2 rfl rfl ?_
          refine v_iload_n (pc' := 182) F dX10_behind_181 rfl 3 rfl rfl ?_
          refine v_iload (pc' := 184) F dX10_behind_182 1 rfl rfl ?_
          refine cVI (pc' := 187) (As := [.int (nI k), .int (nI (n % 4))]) (rest := [.int (nI (dg n (gv (n % 4))))]) (wr := [(ma 2, aI G 4 tk), (ma 3, aI G 4 gv), (ma 4, aI G 4 pr)]) F (c_X10_gets o ma fi fl py k (n % 4) (by omega) (by omega) (by omega)) (cwV 2 F.2.2.2.2.1 gX10_behind_X10_gets rfl rfl rfl (by decide +kernel) ⟨Nat.le_of_ble_eq_true rfl, Nat.le_of_ble_eq_true rfl⟩) (v_rcvW F 8 0 rfl rfl) rfl rfl (Nat.le_of_ble_eq_true rfl) dX10_behind_184 [0, 4] [1, 2, 3] (by decide) rfl rfl (by decide) (by decide) ⟨Nat.zero_le _, Nat.zero_le _⟩ rfl (fun r u q11 => ?_)
          obtain rfl := q11
          refine v_ws (wz := [(ma 2, aI G 4 tk), (ma 3, aI G 4 gv), (ma 4, aI G 4 pr), (o, mO ma fi fl), (ma 5, aI G 4 py)]) rfl ?_
          refine v_iadd (pc' := 188) (z := nI ((dg n (gv (n % 4))) + (py (n % 4) + kM k))) F dX10_behind_187 (nI_add _ _) rfl ?_
          refine v_iconst (pc' := 189) (v := nI 4) F dX10_behind_188 (by decide) rfl ?_
          refine v_ncmp_gt (tgt := 196) (pc' := 192) F dX10_behind_189 (by omega) (by omega) (by decide) rfl (fun c12 => ?_) (fun c12 => ?_)
          · refine v_iconst (pc' := 197) (v := nI 0) F dX10_behind_196 (by decide) rfl ?_
            refine v_istore (pc' := 199) (lv' := [(6, .int (nI 0)), (5, .int (nI (x % 10))), (4, .int (nI (n % 4))), (0, .ref o), (1, .int (nI k)), (2, .int (nI n)), (3, .int (nI x))]) F dX10_behind_197 (by decide) rfl rfl ?_
            refine v_iload (pc' := 201) F dX10_behind_199 0 rfl rfl ?_
            refine v_nif_eq (tgt := 234) (pc' := 204) F dX10_behind_201 (by omega) (by decide) rfl (fun c13 => ?_) (fun c13 => ?_)
            · refine v_iconst (pc' := 235) (v := (-1)) F dX10_behind_234 (by decide) rfl ?_
              refine v_perm (wz := [(o, mO ma fi fl), (ma 2, aI G 4 tk), (ma 3, aI G 4 gv), (ma 4, aI G 4 pr), (ma 5, aI G 4 py)]) [3, 0, 1, 2, 4] (by decide) rfl ?_
              exact rt dX10_behind_235 () (by unfold mB bh; rw [if_neg (by omega), if_neg (by omega)]; exact (oM_none (if_neg (fun z => by rw [← hk20] at z; first | exact absurd z.1 (by assumption) | exact absurd (by assumption) z.2.1 | exact absurd z.2.2 (Nat.not_le.mpr (by assumption))))).symm) rfl
            · exact absurd c13 (by decide)
          · refine v_iconst (pc' := 193) (v := nI 1) F dX10_behind_192 (by decide) rfl ?_
            refine v_goto (tgt := 197) F dX10_behind_193 (by decide) ?_
            refine v_istore (pc' := 199) (lv' := [(6, .int (nI 1)), (5, .int (nI (x % 10))), (4, .int (nI (n % 4))), (0, .ref o), (1, .int (nI k)), (2, .int (nI n)), (3, .int (nI x))]) F dX10_behind_197 (by decide) rfl rfl ?_
            refine v_iload (pc' := 201) F dX10_behind_199 0 rfl rfl ?_
            refine v_nif_eq (tgt := 234) (pc' := 204) F dX10_behind_201 (by omega) (by decide) rfl (fun c14 => ?_) (fun c14 => ?_)
            · exact absurd c14 (by decide)
            · have h4 := wC_sell (n := n) (c := gv (n % 4)) (p := py (n % 4) + kM k) hn h9.2.1 (by omega)
              have h3 := sell_le (g := x % 10) (n := n) (by omega) (by assumption) h4.2.2
              refine v_iload_n (pc' := 205) F dX10_behind_204 rfl 5 rfl rfl ?_
              refine v_aload_n (pc' := 206) F dX10_behind_205 rfl 3 rfl rfl ?_
              refine v_get (pc' := 209) (v := .ref (ma 3)) (C := RX10) (T := TX10) (N := 38) F dX10_behind_206 in_X10_behind_X10 3 rfl rfl 3 (by decide) (List.mem_of_getElem? (i := 1) rfl) rfl rfl ?_
              refine v_iload (pc' := 211) F dX10_behind_209 2 rfl rfl ?_
              refine v_iald (pc' := 212) (z := gv (n % 4)) F dX10_behind_211 1 rfl (by omega) (by decide) rfl rfl ?_
              refine v_aload_n (pc' := 213) F dX10_behind_212 rfl 3 rfl rfl ?_
              refine v_iload_n (pc' := 214) F dX10_behind_213 rfl 4 rfl rfl ?_
              refine v_iload (pc' := 216) F dX10_behind_214 2 rfl rfl ?_
              refine cVI (pc' := 219) (As := [.int (nI k), .int (nI (n % 4))]) (rest := [.int (nI (gv (n % 4))), .int (nI n)]) (wr := [(ma 2, aI G 4 tk), (ma 3, aI G 4 gv), (ma 4, aI G 4 pr)]) F (c_X10_gets o ma fi fl py k (n % 4) (by omega) (by omega) (by omega)) (cwV 2 F.2.2.2.2.1 gX10_behind_X10_gets rfl rfl rfl (by decide +kernel) ⟨Nat.le_of_ble_eq_true rfl, Nat.le_of_ble_eq_true rfl⟩) (v_rcvW F 8 3 rfl rfl) rfl rfl (Nat.le_of_ble_eq_true rfl) dX10_behind_216 [3, 4] [0, 1, 2] (by decide) rfl rfl (by decide) (by decide) ⟨Nat.zero_le _, Nat.zero_le _⟩ rfl (fun r u q15 => ?_)
              obtain rfl := q15
              refine v_ws (wz := [(ma 2, aI G 4 tk), (ma 3, aI G 4 gv), (ma 4, aI G 4 pr), (o, mO ma fi fl), (ma 5, aI G 4 py)]) rfl ?_
              refine v_top (y := nI (py (n % 4) + kM k) - nI 0) (ni_sub0 _).symm ?_
              refine cSI0 (pc' := 222) (As := [.int (nI n), .int (nI (gv (n % 4))), .int (nI (py (n % 4) + kM k) - nI 0)]) (rest := []) F (c_X10_withCoins n (gv (n % 4)) (py (n % 4) + kM k) 0 (by omega) (by omega) (by omega) (by omega)) (va_cwS 3 F.2.2.2.2.1 gX10_behind_X10_withCoins rfl rfl rfl (by decide +kernel) ⟨Nat.le_of_ble_eq_true rfl, Nat.le_of_ble_eq_true rfl⟩) rfl rfl (Nat.le_of_ble_eq_true rfl) dX10_behind_219 ⟨Nat.zero_le _, Nat.zero_le _⟩ rfl (fun r u q16 => ?_)
              obtain rfl := q16
              refine v_sipush (pc' := 225) (v := nI 2500) F dX10_behind_222 (by decide) rfl ?_
              refine v_iconst (pc' := 226) (v := nI 1) F dX10_behind_225 (by decide) rfl ?_
              refine v_iload (pc' := 228) F dX10_behind_226 1 rfl rfl ?_
              refine v_ishl (pc' := 229) (z := nI (1 * 2 ^ (x % 10))) F dX10_behind_228 (ni_shl (by omega) (by omega)) rfl ?_
              refine v_imul (pc' := 230) (z := nI (2500 * (1 * 2 ^ (x % 10)))) F dX10_behind_229 (pk_mul _ _) rfl ?_
              refine v_isub (pc' := 231) (z := nI ((wC n (gv (n % 4)) (py (n % 4) + kM k) 0) - (2500 * (1 * 2 ^ (x % 10))))) F dX10_behind_230 (pk_sub (by omega)) rfl ?_
              refine v_goto (tgt := 235) F dX10_behind_231 (by decide) ?_
              refine v_perm (wz := [(o, mO ma fi fl), (ma 2, aI G 4 tk), (ma 3, aI G 4 gv), (ma 4, aI G 4 pr), (ma 5, aI G 4 py)]) [3, 0, 1, 2, 4] (by decide) rfl ?_
              exact rt dX10_behind_235 () (by unfold mB bh; rw [if_neg (by omega), if_neg (by omega)]; rw [hk20]; exact bM_sell (ge := mGe k py) (gi := gv) hn h9.2.1 (by rw [← hk20]; assumption) (by rw [← hk20]; assumption) (by assumption)) rfl
    · have hk10 : x % 10 = x - 10 := by omega
      refine v_aload_n (pc' := 71) F dX10_behind_70 rfl 2 rfl rfl ?_
      refine v_iload_n (pc' := 72) F dX10_behind_71 rfl 3 rfl rfl ?_
      refine v_iload (pc' := 74) F dX10_behind_72 1 rfl rfl ?_
      refine v_iload (pc' := 76) F dX10_behind_74 0 rfl rfl ?_
      refine cVI (pc' := 79) (As := [.int (nI k), .int (nI (n % 4)), .int (nI (x % 10))]) (rest := []) (wr := [(ma 3, aI G 4 gv), (ma 4, aI G 4 pr), (ma 5, aI G 4 py)]) F (c_X10_mayPay o ma fi fl tk k (n % 4) (x % 10) (by omega) (by omega) (by omega) (by omega)) (cwV 3 F.2.2.2.2.1 gX10_behind_X10_mayPay rfl rfl rfl (by decide +kernel) ⟨Nat.le_of_ble_eq_true rfl, Nat.le_of_ble_eq_true rfl⟩) (v_rcvW F 8 0 rfl rfl) rfl rfl (Nat.le_of_ble_eq_true rfl) dX10_behind_76 [0, 1] [2, 3, 4] (by decide) rfl rfl (by decide) (by decide) ⟨Nat.zero_le _, Nat.zero_le _⟩ rfl (fun r u q17 => ?_)
      obtain rfl := q17
      refine v_ws (wz := [(ma 3, aI G 4 gv), (ma 4, aI G 4 pr), (ma 5, aI G 4 py), (o, mO ma fi fl), (ma 2, aI G 4 tk)]) rfl ?_
      refine v_bif_eq (tgt := 114) (pc' := 82) F dX10_behind_79 (by decide) rfl (fun c18 => ?_) (fun c18 => ?_)
      · refine v_iconst (pc' := 115) (v := nI 0) F dX10_behind_114 (by decide) rfl ?_
        refine v_istore (pc' := 117) (lv' := [(6, .int (nI 0)), (5, .int (nI (x % 10))), (4, .int (nI (n % 4))), (0, .ref o), (1, .int (nI k)), (2, .int (nI n)), (3, .int (nI x))]) F dX10_behind_115 (by decide) rfl rfl ?_
        refine v_iload (pc' := 119) F dX10_behind_117 0 rfl rfl ?_
        refine v_nif_eq (tgt := 148) (pc' := 122) F dX10_behind_119 (by omega) (by decide) rfl (fun c19 => ?_) (fun c19 => ?_)
        · refine v_iconst (pc' := 149) (v := (-1)) F dX10_behind_148 (by decide) rfl ?_
          refine v_perm (wz := [(o, mO ma fi fl), (ma 2, aI G 4 tk), (ma 3, aI G 4 gv), (ma 4, aI G 4 pr), (ma 5, aI G 4 py)]) [3, 4, 0, 1, 2] (by decide) rfl ?_
          exact rt dX10_behind_149 () (by unfold mB bh; rw [if_neg (by omega), if_pos (by assumption)]; exact (oM_none (if_neg (fun z => by rw [← hk10] at z; first | exact absurd z.1 (by assumption) | exact absurd (by assumption) z.1 | exact absurd z.2.1 (by assumption) | exact absurd z.2.2 (Nat.not_le.mpr (by assumption))))).symm) rfl
        · exact absurd c19 (by decide)
      · refine v_iload_n (pc' := 83) F dX10_behind_82 rfl 4 rfl rfl ?_
        refine cSI0 (pc' := 86) (As := [.int (nI n)]) (rest := []) F (c_X10_goodsIn n (by omega)) (va_cwS 1 F.2.2.2.2.1 gX10_behind_X10_goodsIn rfl rfl rfl (by decide +kernel) ⟨Nat.le_of_ble_eq_true rfl, Nat.le_of_ble_eq_true rfl⟩) rfl rfl (Nat.le_of_ble_eq_true rfl) dX10_behind_83 ⟨Nat.zero_le _, Nat.zero_le _⟩ rfl (fun r u q20 => ?_)
        obtain rfl := q20
        refine v_iload (pc' := 88) F dX10_behind_86 1 rfl rfl ?_
        refine cSI0 (pc' := 91) (As := [.int (nI (n / 2500)), .int (nI (n % 4))]) (rest := []) F (c_X10_has (n / 2500) (n % 4) (by omega) (by omega)) (va_cwS 2 F.2.2.2.2.1 gX10_behind_X10_has rfl rfl rfl (by decide +kernel) ⟨Nat.le_of_ble_eq_true rfl, Nat.le_of_ble_eq_true rfl⟩) rfl rfl (Nat.le_of_ble_eq_true rfl) dX10_behind_88 ⟨Nat.zero_le _, Nat.zero_le _⟩ rfl (fun r u q21 => ?_)
        obtain rfl := q21
        refine v_bif_ne (tgt := 114) (pc' := 94) F dX10_behind_91 (by decide) rfl (fun c22 => ?_) (fun c22 => ?_)
        · refine v_iconst (pc' := 115) (v := nI 0) F dX10_behind_114 (by decide) rfl ?_
          refine v_istore (pc' := 117) (lv' := [(6, .int (nI 0)), (5, .int (nI (x % 10))), (4, .int (nI (n % 4))), (0, .ref o), (1, .int (nI k)), (2, .int (nI n)), (3, .int (nI x))]) F dX10_behind_115 (by decide) rfl rfl ?_
          refine v_iload (pc' := 119) F dX10_behind_117 0 rfl rfl ?_
          refine v_nif_eq (tgt := 148) (pc' := 122) F dX10_behind_119 (by omega) (by decide) rfl (fun c23 => ?_) (fun c23 => ?_)
          · refine v_iconst (pc' := 149) (v := (-1)) F dX10_behind_148 (by decide) rfl ?_
            refine v_perm (wz := [(o, mO ma fi fl), (ma 2, aI G 4 tk), (ma 3, aI G 4 gv), (ma 4, aI G 4 pr), (ma 5, aI G 4 py)]) [3, 4, 0, 1, 2] (by decide) rfl ?_
            exact rt dX10_behind_149 () (by unfold mB bh; rw [if_neg (by omega), if_pos (by assumption)]; exact (oM_none (if_neg (fun z => by rw [← hk10] at z; first | exact absurd z.1 (by assumption) | exact absurd (by assumption) z.1 | exact absurd z.2.1 (by assumption) | exact absurd z.2.2 (Nat.not_le.mpr (by assumption))))).symm) rfl
          · exact absurd c23 (by decide)
        · refine v_iload_n (pc' := 95) F dX10_behind_94 rfl 4 rfl rfl ?_
          refine v_iload (pc' := 97) F dX10_behind_95 0 rfl rfl ?_
          refine cSI0 (pc' := 100) (As := [.int (nI n), .int (nI (x % 10))]) (rest := []) F (c_X10_coins n (x % 10) (by omega) (by omega)) (va_cwS 2 F.2.2.2.2.1 gX10_behind_X10_coins rfl rfl rfl (by decide +kernel) ⟨Nat.le_of_ble_eq_true rfl, Nat.le_of_ble_eq_true rfl⟩) rfl rfl (Nat.le_of_ble_eq_true rfl) dX10_behind_97 ⟨Nat.zero_le _, Nat.zero_le _⟩ rfl (fun r u q24 => ?_)
          obtain rfl := q24
          refine v_aload_n (pc' := 101) F dX10_behind_100 rfl 2 rfl rfl ?_
          refine v_iload_n (pc' := 102) F dX10_behind_101 rfl 3 rfl rfl ?_
          refine v_iload (pc' := 104) F dX10_behind_102 1 rfl rfl ?_
          refine cVI (pc' := 107) (As := [.int (nI k), .int (nI (n % 4))]) (rest := [.int (nI (dg n (x % 10)))]) (wr := [(ma 3, aI G 4 gv), (ma 5, aI G 4 py), (ma 2, aI G 4 tk)]) F (c_X10_costs o ma fi fl pr k (n % 4) (by omega) (by omega) (by omega) (by omega)) (cwV 2 F.2.2.2.2.1 gX10_behind_X10_costs rfl rfl rfl (by decide +kernel) ⟨Nat.le_of_ble_eq_true rfl, Nat.le_of_ble_eq_true rfl⟩) (v_rcvW F 8 3 rfl rfl) rfl rfl (Nat.le_of_ble_eq_true rfl) dX10_behind_104 [3, 1] [0, 2, 4] (by decide) rfl rfl (by decide) (by decide) ⟨Nat.zero_le _, Nat.zero_le _⟩ rfl (fun r u q25 => ?_)
          obtain rfl := q25
          refine v_ws (wz := [(ma 3, aI G 4 gv), (ma 5, aI G 4 py), (ma 2, aI G 4 tk), (o, mO ma fi fl), (ma 4, aI G 4 pr)]) rfl ?_
          refine v_ncmp_lt (tgt := 114) (pc' := 110) F dX10_behind_107 (by omega) (by omega) (by decide) rfl (fun c26 => ?_) (fun c26 => ?_)
          · refine v_iconst (pc' := 115) (v := nI 0) F dX10_behind_114 (by decide) rfl ?_
            refine v_istore (pc' := 117) (lv' := [(6, .int (nI 0)), (5, .int (nI (x % 10))), (4, .int (nI (n % 4))), (0, .ref o), (1, .int (nI k)), (2, .int (nI n)), (3, .int (nI x))]) F dX10_behind_115 (by decide) rfl rfl ?_
            refine v_iload (pc' := 119) F dX10_behind_117 0 rfl rfl ?_
            refine v_nif_eq (tgt := 148) (pc' := 122) F dX10_behind_119 (by omega) (by decide) rfl (fun c27 => ?_) (fun c27 => ?_)
            · refine v_iconst (pc' := 149) (v := (-1)) F dX10_behind_148 (by decide) rfl ?_
              refine v_perm (wz := [(o, mO ma fi fl), (ma 2, aI G 4 tk), (ma 3, aI G 4 gv), (ma 4, aI G 4 pr), (ma 5, aI G 4 py)]) [3, 2, 0, 4, 1] (by decide) rfl ?_
              exact rt dX10_behind_149 () (by unfold mB bh; rw [if_neg (by omega), if_pos (by assumption)]; exact (oM_none (if_neg (fun z => by rw [← hk10] at z; first | exact absurd z.1 (by assumption) | exact absurd (by assumption) z.1 | exact absurd z.2.1 (by assumption) | exact absurd z.2.2 (Nat.not_le.mpr (by assumption))))).symm) rfl
            · exact absurd c27 (by decide)
          · refine v_iconst (pc' := 111) (v := nI 1) F dX10_behind_110 (by decide) rfl ?_
            refine v_goto (tgt := 115) F dX10_behind_111 (by decide) ?_
            refine v_istore (pc' := 117) (lv' := [(6, .int (nI 1)), (5, .int (nI (x % 10))), (4, .int (nI (n % 4))), (0, .ref o), (1, .int (nI k)), (2, .int (nI n)), (3, .int (nI x))]) F dX10_behind_115 (by decide) rfl rfl ?_
            refine v_iload (pc' := 119) F dX10_behind_117 0 rfl rfl ?_
            refine v_nif_eq (tgt := 148) (pc' := 122) F dX10_behind_119 (by omega) (by decide) rfl (fun c28 => ?_) (fun c28 => ?_)
            · exact absurd c28 (by decide)
            · have h4 := wC_buy (n := n) (c := x % 10) (p := kCost k (pr (n % 4))) hn (by omega) (by omega)
              refine v_iload_n (pc' := 123) F dX10_behind_122 rfl 5 rfl rfl ?_
              refine v_iload (pc' := 125) F dX10_behind_123 1 rfl rfl ?_
              refine v_aload_n (pc' := 126) F dX10_behind_125 rfl 3 rfl rfl ?_
              refine v_iload_n (pc' := 127) F dX10_behind_126 rfl 4 rfl rfl ?_
              refine v_iload (pc' := 129) F dX10_behind_127 2 rfl rfl ?_
              refine cVI (pc' := 132) (As := [.int (nI k), .int (nI (n % 4))]) (rest := [.int (nI (x % 10)), .int (nI n)]) (wr := [(ma 3, aI G 4 gv), (ma 5, aI G 4 py), (ma 2, aI G 4 tk)]) F (c_X10_costs o ma fi fl pr k (n % 4) (by omega) (by omega) (by omega) (by omega)) (cwV 2 F.2.2.2.2.1 gX10_behind_X10_costs rfl rfl rfl (by decide +kernel) ⟨Nat.le_of_ble_eq_true rfl, Nat.le_of_ble_eq_true rfl⟩) (v_rcvW F 8 3 rfl rfl) rfl rfl (Nat.le_of_ble_eq_true rfl) dX10_behind_129 [3, 4] [0, 1, 2] (by decide) rfl rfl (by decide) (by decide) ⟨Nat.zero_le _, Nat.zero_le _⟩ rfl (fun r u q29 => ?_)
              obtain rfl := q29
              refine v_ws (wz := [(ma 3, aI G 4 gv), (ma 5, aI G 4 py), (ma 2, aI G 4 tk), (o, mO ma fi fl), (ma 4, aI G 4 pr)]) rfl ?_
              refine v_ineg (pc' := 133) (z := (nI 0 - nI (kCost k (pr (n % 4))))) F dX10_behind_132 (ni_neg _) rfl ?_
              refine cSI0 (pc' := 136) (As := [.int (nI n), .int (nI (x % 10)), .int (nI 0 - nI (kCost k (pr (n % 4))))]) (rest := []) F (c_X10_withCoins n (x % 10) 0 (kCost k (pr (n % 4))) (by omega) (by omega) (by omega) (by omega)) (va_cwS 3 F.2.2.2.2.1 gX10_behind_X10_withCoins rfl rfl rfl (by decide +kernel) ⟨Nat.le_of_ble_eq_true rfl, Nat.le_of_ble_eq_true rfl⟩) rfl rfl (Nat.le_of_ble_eq_true rfl) dX10_behind_133 ⟨Nat.zero_le _, Nat.zero_le _⟩ rfl (fun r u q30 => ?_)
              obtain rfl := q30
              refine v_sipush (pc' := 139) (v := nI 2500) F dX10_behind_136 (by decide) rfl ?_
              refine v_iconst (pc' := 140) (v := nI 1) F dX10_behind_139 (by decide) rfl ?_
              refine v_iload (pc' := 142) F dX10_behind_140 2 rfl rfl ?_
              refine v_ishl (pc' := 143) (z := nI (1 * 2 ^ (n % 4))) F dX10_behind_142 (ni_shl (by omega) (by omega)) rfl ?_
              refine v_imul (pc' := 144) (z := nI (2500 * (1 * 2 ^ (n % 4)))) F dX10_behind_143 (pk_mul _ _) rfl ?_
              refine v_iadd (pc' := 145) (z := nI ((wC n (x % 10) 0 (kCost k (pr (n % 4)))) + (2500 * (1 * 2 ^ (n % 4))))) F dX10_behind_144 (nI_add _ _) rfl ?_
              refine v_goto (tgt := 149) F dX10_behind_145 (by decide) ?_
              refine v_perm (wz := [(o, mO ma fi fl), (ma 2, aI G 4 tk), (ma 3, aI G 4 gv), (ma 4, aI G 4 pr), (ma 5, aI G 4 py)]) [3, 2, 0, 4, 1] (by decide) rfl ?_
              exact rt dX10_behind_149 () (by unfold mB bh; rw [if_neg (by omega), if_pos (by assumption)]; rw [hk10]; exact bM_buy (co := mCo k pr) (pa := mPa k tk) hn (by omega) (by assumption) (by rw [← hk10]; assumption) (by rw [← hk10]; assumption)) rfl
  · refine v_iload (pc' := 20) F dX10_behind_18 1 rfl rfl ?_
    refine v_iconst (pc' := 21) (v := nI 1) F dX10_behind_20 (by decide) rfl ?_
    refine v_iadd (pc' := 22) (z := nI ((n % 4) + 1)) F dX10_behind_21 (nI_add _ _) rfl ?_
    refine v_iconst (pc' := 23) (v := nI 4) F dX10_behind_22 (by decide) rfl ?_
    refine v_irem (pc' := 24) (z := nI (((n % 4) + 1) % 4)) F dX10_behind_23 (nI_ne0 (by omega) (by omega)) (pk_rem (by omega) (by omega) (by omega)) rfl ?_
    refine v_iload (pc' := 26) F dX10_behind_24 0 rfl rfl ?_
    refine v_ncmp_eq (tgt := 40) (pc' := 29) F dX10_behind_26 (by omega) (by omega) (by decide) rfl (fun c31 => ?_) (fun c31 => ?_)
    · refine v_iconst (pc' := 41) (v := nI 1) F dX10_behind_40 (by decide) rfl ?_
      refine v_goto (tgt := 45) F dX10_behind_41 (by decide) ?_
      refine v_istore (pc' := 47) (lv' := [(6, .int (nI 1)), (5, .int (nI (x % 10))), (4, .int (nI (n % 4))), (0, .ref o), (1, .int (nI k)), (2, .int (nI n)), (3, .int (nI x))]) F dX10_behind_45 (by decide) rfl rfl ?_
      refine v_iload (pc' := 49) F dX10_behind_47 0 rfl rfl ?_
      refine v_nif_eq (tgt := 62) (pc' := 52) F dX10_behind_49 (by omega) (by decide) rfl (fun c32 => ?_) (fun c32 => ?_)
      · exact absurd c32 (by decide)
      · refine v_iload_n (pc' := 53) F dX10_behind_52 rfl 5 rfl rfl ?_
        refine v_iload (pc' := 55) F dX10_behind_53 2 rfl rfl ?_
        refine v_isub (pc' := 56) (z := nI (n - (n % 4))) F dX10_behind_55 (pk_sub (by omega)) rfl ?_
        refine v_iload (pc' := 58) F dX10_behind_56 1 rfl rfl ?_
        refine v_iadd (pc' := 59) (z := nI ((n - (n % 4)) + (x % 10))) F dX10_behind_58 (nI_add _ _) rfl ?_
        refine v_goto (tgt := 63) F dX10_behind_59 (by decide) ?_
        exact rt dX10_behind_63 () (by unfold mB bh; rw [if_pos (by assumption), bGo, if_pos (by omega)]; show _ = nI (wT n x); unfold wT; congr 1; omega) rfl
    · refine v_iload (pc' := 31) F dX10_behind_29 0 rfl rfl ?_
      refine v_iconst (pc' := 32) (v := nI 1) F dX10_behind_31 (by decide) rfl ?_
      refine v_iadd (pc' := 33) (z := nI ((x % 10) + 1)) F dX10_behind_32 (nI_add _ _) rfl ?_
      refine v_iconst (pc' := 34) (v := nI 4) F dX10_behind_33 (by decide) rfl ?_
      refine v_irem (pc' := 35) (z := nI (((x % 10) + 1) % 4)) F dX10_behind_34 (nI_ne0 (by omega) (by omega)) (pk_rem (by omega) (by omega) (by omega)) rfl ?_
      refine v_iload (pc' := 37) F dX10_behind_35 1 rfl rfl ?_
      refine v_ncmp_ne (tgt := 44) (pc' := 40) F dX10_behind_37 (by omega) (by omega) (by decide) rfl (fun c33 => ?_) (fun c33 => ?_)
      · refine v_iconst (pc' := 45) (v := nI 0) F dX10_behind_44 (by decide) rfl ?_
        refine v_istore (pc' := 47) (lv' := [(6, .int (nI 0)), (5, .int (nI (x % 10))), (4, .int (nI (n % 4))), (0, .ref o), (1, .int (nI k)), (2, .int (nI n)), (3, .int (nI x))]) F dX10_behind_45 (by decide) rfl rfl ?_
        refine v_iload (pc' := 49) F dX10_behind_47 0 rfl rfl ?_
        refine v_nif_eq (tgt := 62) (pc' := 52) F dX10_behind_49 (by omega) (by decide) rfl (fun c34 => ?_) (fun c34 => ?_)
        · refine v_iconst (pc' := 63) (v := (-1)) F dX10_behind_62 (by decide) rfl ?_
          exact rt dX10_behind_63 () (by unfold mB bh; rw [if_pos (by assumption), bGo, if_neg (by omega)]; rfl) rfl
        · exact absurd c34 (by decide)
      · refine v_iconst (pc' := 41) (v := nI 1) F dX10_behind_40 (by decide) rfl ?_
        refine v_goto (tgt := 45) F dX10_behind_41 (by decide) ?_
        refine v_istore (pc' := 47) (lv' := [(6, .int (nI 1)), (5, .int (nI (x % 10))), (4, .int (nI (n % 4))), (0, .ref o), (1, .int (nI k)), (2, .int (nI n)), (3, .int (nI x))]) F dX10_behind_45 (by decide) rfl rfl ?_
        refine v_iload (pc' := 49) F dX10_behind_47 0 rfl rfl ?_
        refine v_nif_eq (tgt := 62) (pc' := 52) F dX10_behind_49 (by omega) (by decide) rfl (fun c35 => ?_) (fun c35 => ?_)
        · exact absurd c35 (by decide)
        · refine v_iload_n (pc' := 53) F dX10_behind_52 rfl 5 rfl rfl ?_
          refine v_iload (pc' := 55) F dX10_behind_53 2 rfl rfl ?_
          refine v_isub (pc' := 56) (z := nI (n - (n % 4))) F dX10_behind_55 (pk_sub (by omega)) rfl ?_
          refine v_iload (pc' := 58) F dX10_behind_56 1 rfl rfl ?_
          refine v_iadd (pc' := 59) (z := nI ((n - (n % 4)) + (x % 10))) F dX10_behind_58 (nI_add _ _) rfl ?_
          refine v_goto (tgt := 63) F dX10_behind_59 (by decide) ?_
          exact rt dX10_behind_63 () (by unfold mB bh; rw [if_pos (by assumption), bGo, if_pos (by omega)]; show _ = nI (wT n x); unfold wT; congr 1; omega) rfl
