def rm_X2_cost : Room := { frames := 1, cells := 0, slots := 0, locals := 13 }
set_option maxHeartbeats 4000000 in
set_option maxRecDepth 100000 in
theorem c_X2_cost {l : Launch} {D : va_G} {G : gT} (k pr : Nat) (hk : k < 5) (h1 : 1 ≤ pr) (h4 : pr ≤ 4) : CtI (σ := Unit) l yX2_cost wsX2_cost rm_X2_cost D G [.ref (gAd G k), .int (nI pr)] [] (fun r _ => r = nI (kCost k pr)) (fun _ => []) := by
  have hc := kC_le k
  refine openI (maxL := 2) (by decide) rfl (Nat.le_of_ble_eq_true rfl) ?_
  intro pg ev sg mm ags bl me cd A Q F hmn rt
  refine v_lv (lz := [(0, .ref (gAd G k)), (1, .int (nI pr))]) rfl ?_
  refine v_iconst (pc' := 1) (v := nI 1) F dX2_cost_0 (by decide) rfl ?_
  refine v_iload_n (pc' := 2) F dX2_cost_1 rfl 1 rfl rfl ?_
  refine v_aload_n (pc' := 3) F dX2_cost_2 rfl 0 rfl rfl ?_
  refine v_getE (pc' := 6) (z := nI (kC k)) F dX2_cost_3 (i := k) (by omega) 1 rfl (List.mem_of_getElem? (i := 1) rfl) (kC_of (by omega)) rfl ?_
  refine v_isub (pc' := 7) (z := nI (pr - (kC k))) F dX2_cost_6 (pk_sub (by omega)) rfl ?_
  refine v_max (pc' := 10) (z := nI (max 1 (pr - kC k))) F dX2_cost_7 (List.mem_of_getElem? (i := 2) rfl) (List.mem_of_getElem? (i := 3) rfl) (List.mem_of_getElem? (i := 4) rfl) (List.mem_of_getElem? (i := 5) rfl) (by decide) (by decide) (by decide) (by decide) (ni_max (by omega) (by omega)) rfl ?_
  exact rt dX2_cost_10 () rfl rfl
def rm_X2_gain : Room := { frames := 0, cells := 0, slots := 0, locals := 0 }
set_option maxHeartbeats 4000000 in
set_option maxRecDepth 100000 in
theorem c_X2_gain {l : Launch} {D : va_G} {G : gT} (k py : Nat) (hk : k < 5) (h4 : py ≤ 4) : CtI (σ := Unit) l yX2_gain wsX2_gain rm_X2_gain D G [.ref (gAd G k), .int (nI py)] [] (fun r _ => r = nI (py + kM k)) (fun _ => []) := by
  have hc := kM_le k
  refine openI (maxL := 2) (by decide) rfl (Nat.le_of_ble_eq_true rfl) ?_
  intro pg ev sg mm ags bl me cd A Q F hmn rt
  refine v_lv (lz := [(0, .ref (gAd G k)), (1, .int (nI py))]) rfl ?_
  refine v_iload_n (pc' := 1) F dX2_gain_0 rfl 1 rfl rfl ?_
  refine v_aload_n (pc' := 2) F dX2_gain_1 rfl 0 rfl rfl ?_
  refine v_getE (pc' := 5) (z := nI (kM k)) F dX2_gain_2 (i := k) (by omega) 2 rfl (List.mem_of_getElem? (i := 1) rfl) (kM_of (by omega)) rfl ?_
  refine v_iadd (pc' := 6) (z := nI (py + (kM k))) F dX2_gain_5 (nI_add _ _) rfl ?_
  exact rt dX2_gain_6 () rfl rfl
def rm_X2_isAlso : Room := { frames := 0, cells := 0, slots := 0, locals := 0 }
set_option maxHeartbeats 4000000 in
set_option maxRecDepth 100000 in
theorem c_X2_isAlso {l : Launch} {D : va_G} {G : gT} (k j : Nat) (hk : k < 5) (hj : j < 5) : CtI (σ := Unit) l yX2_isAlso wsX2_isAlso rm_X2_isAlso D G [.ref (gAd G k), .ref (gAd G j)] [] (fun r _ => r = bI (j = k ∨ j = 0 ∨ (k = 4 ∧ j = 3))) (fun _ => []) := by
  refine openZ (maxL := 2) (by decide) rfl (Nat.le_of_ble_eq_true rfl) ?_
  intro pg ev sg mm ags bl me cd A Q F hmn rt
  refine v_lv (lz := [(0, .ref (gAd G k)), (1, .ref (gAd G j))]) rfl ?_
  refine v_aload_n (pc' := 1) F dX2_isAlso_0 rfl 1 rfl rfl ?_
  refine v_aload_n (pc' := 2) F dX2_isAlso_1 rfl 0 rfl rfl ?_
  refine v_acmp_eq (tgt := 26) (pc' := 5) F dX2_isAlso_2 (by decide) rfl (fun c1 => ?_) (fun c1 => ?_)
  · rw [gAd_ne F.2.2.2.2.2.2.2.2.1 (by omega) (by omega)] at c1
    refine v_iconst (pc' := 27) (v := nI 1) F dX2_isAlso_26 (by decide) rfl ?_
    refine v_goto (tgt := 31) F dX2_isAlso_27 (by decide) ?_
    exact rt rfl dX2_isAlso_31 () (nI1_b (by omega)) rfl
  · rw [gAd_ne F.2.2.2.2.2.2.2.2.1 (by omega) (by omega)] at c1
    refine v_aload_n (pc' := 6) F dX2_isAlso_5 rfl 1 rfl rfl ?_
    refine v_getsK (pc' := 9) (i := 0) F dX2_isAlso_6 (by decide) (List.mem_of_getElem? (i := 1) rfl) rfl ?_
    refine v_acmp_eq (tgt := 26) (pc' := 12) F dX2_isAlso_9 (by decide) rfl (fun c2 => ?_) (fun c2 => ?_)
    · rw [gAd_ne F.2.2.2.2.2.2.2.2.1 (by omega) (by omega)] at c2
      refine v_iconst (pc' := 27) (v := nI 1) F dX2_isAlso_26 (by decide) rfl ?_
      refine v_goto (tgt := 31) F dX2_isAlso_27 (by decide) ?_
      exact rt rfl dX2_isAlso_31 () (nI1_b (by omega)) rfl
    · rw [gAd_ne F.2.2.2.2.2.2.2.2.1 (by omega) (by omega)] at c2
      refine v_aload_n (pc' := 13) F dX2_isAlso_12 rfl 0 rfl rfl ?_
      refine v_getsK (pc' := 16) (i := 4) F dX2_isAlso_13 (by decide) (List.mem_of_getElem? (i := 2) rfl) rfl ?_
      refine v_acmp_ne (tgt := 30) (pc' := 19) F dX2_isAlso_16 (by decide) rfl (fun c3 => ?_) (fun c3 => ?_)
      · rw [gAd_ne F.2.2.2.2.2.2.2.2.1 (by omega) (by omega)] at c3
        refine v_iconst (pc' := 31) (v := nI 0) F dX2_isAlso_30 (by decide) rfl ?_
        exact rt rfl dX2_isAlso_31 () (nI0_b (by omega)) rfl
      · rw [gAd_ne F.2.2.2.2.2.2.2.2.1 (by omega) (by omega)] at c3
        refine v_aload_n (pc' := 20) F dX2_isAlso_19 rfl 1 rfl rfl ?_
        refine v_getsK (pc' := 23) (i := 3) F dX2_isAlso_20 (by decide) (List.mem_of_getElem? (i := 3) rfl) rfl ?_
        refine v_acmp_ne (tgt := 30) (pc' := 26) F dX2_isAlso_23 (by decide) rfl (fun c4 => ?_) (fun c4 => ?_)
        · rw [gAd_ne F.2.2.2.2.2.2.2.2.1 (by omega) (by omega)] at c4
          refine v_iconst (pc' := 31) (v := nI 0) F dX2_isAlso_30 (by decide) rfl ?_
          exact rt rfl dX2_isAlso_31 () (nI0_b (by omega)) rfl
        · rw [gAd_ne F.2.2.2.2.2.2.2.2.1 (by omega) (by omega)] at c4
          refine v_iconst (pc' := 27) (v := nI 1) F dX2_isAlso_26 (by decide) rfl ?_
          refine v_goto (tgt := 31) F dX2_isAlso_27 (by decide) ?_
          exact rt rfl dX2_isAlso_31 () (nI1_b (by omega)) rfl
def rm_X0_canPay : Room := { frames := 0, cells := 0, slots := 0, locals := 0 }
theorem in_X0_canPay_X0 : ∀ w ∈ u_ws RX0 TX0 4, w ∈ wsX0_canPay := fun w h => List.mem_cons_of_mem _ (List.mem_append_right _ (h))
set_option maxHeartbeats 4000000 in
set_option maxRecDepth 100000 in
theorem c_X0_canPay {l : Launch} {D : va_G} {G : gT} (d a0 a1 a2 a3 : Nat) (co ge gi pa : Nat → Nat) (t cc had su : Nat) (hw : WD co ge gi pa) (ht : t < 4) (hc : cc < 4) (h1 : had < 2 ^ 31) (h2 : su < 2 ^ 31) : CtI (σ := Unit) l yX0_canPay wsX0_canPay rm_X0_canPay D G [.ref d, .int (nI t), .int (nI cc), .int (nI had), .int (nI su)] [(d, .inr (0, [.ref a0, .ref a1, .ref a2, .ref a3])), (a0, aI G 4 co), (a1, aI G 4 ge), (a2, aI G 4 gi), (a3, aI G 4 pa)] (fun r _ => r = bI (pa t / 2 ^ cc % 2 = 1 ∧ su ≤ had)) (fun _ => [(d, .inr (0, [.ref a0, .ref a1, .ref a2, .ref a3])), (a0, aI G 4 co), (a1, aI G 4 ge), (a2, aI G 4 gi), (a3, aI G 4 pa)]) := by
  have h9 := hw t ht
  have h8 := Nat.div_le_self (pa t) (2 ^ cc)
  refine openZ (maxL := 5) (by decide) rfl (Nat.le_of_ble_eq_true rfl) ?_
  intro pg ev sg mm ags bl me cd A Q F hmn rt
  refine v_lv (lz := [(0, .ref d), (1, .int (nI t)), (2, .int (nI cc)), (3, .int (nI had)), (4, .int (nI su))]) rfl ?_
  refine v_aload_n (pc' := 1) F dX0_canPay_0 rfl 0 rfl rfl ?_
  refine v_get (pc' := 4) (C := RX0) (T := TX0) (N := 4) F dX0_canPay_1 in_X0_canPay_X0 0 rfl rfl 3 (by decide) (List.mem_of_getElem? (i := 1) rfl) rfl rfl ?_
  refine v_iload_n (pc' := 5) F dX0_canPay_4 rfl 1 rfl rfl ?_
  refine v_iald (pc' := 6) (z := pa t) F dX0_canPay_5 4 rfl (by omega) (by decide) rfl rfl ?_
  refine v_iload_n (pc' := 7) F dX0_canPay_6 rfl 2 rfl rfl ?_
  refine v_ishr (pc' := 8) (z := nI ((pa t) / 2 ^ cc)) F dX0_canPay_7 (ni_shr (by omega) (by omega)) rfl ?_
  refine v_iconst (pc' := 9) (v := nI 1) F dX0_canPay_8 (by decide) rfl ?_
  refine v_iand (pc' := 10) (z := nI (((pa t) / 2 ^ cc) % 2)) F dX0_canPay_9 (pk_andN (by omega) 1 (by decide)) rfl ?_
  refine v_iconst (pc' := 11) (v := nI 1) F dX0_canPay_10 (by decide) rfl ?_
  refine v_ncmp_ne (tgt := 24) (pc' := 14) F dX0_canPay_11 (by omega) (by omega) (by decide) rfl (fun c1 => ?_) (fun c1 => ?_)
  · refine v_iconst (pc' := 25) (v := nI 0) F dX0_canPay_24 (by decide) rfl ?_
    exact rt rfl dX0_canPay_25 () (nI0_b (by omega)) rfl
  · refine v_iload_n (pc' := 15) F dX0_canPay_14 rfl 3 rfl rfl ?_
    refine v_iload (pc' := 17) F dX0_canPay_15 4 rfl rfl ?_
    refine v_ncmp_lt (tgt := 24) (pc' := 20) F dX0_canPay_17 (by omega) (by omega) (by decide) rfl (fun c2 => ?_) (fun c2 => ?_)
    · refine v_iconst (pc' := 25) (v := nI 0) F dX0_canPay_24 (by decide) rfl ?_
      exact rt rfl dX0_canPay_25 () (nI0_b (by omega)) rfl
    · refine v_iconst (pc' := 21) (v := nI 1) F dX0_canPay_20 (by decide) rfl ?_
      refine v_goto (tgt := 25) F dX0_canPay_21 (by decide) ?_
      exact rt rfl dX0_canPay_25 () (nI1_b ⟨by assumption, by assumption⟩) rfl
def rm_X0_paysAnywhere : Room := { frames := 0, cells := 0, slots := 0, locals := 0 }
theorem in_X0_paysAnywhere_X0 : ∀ w ∈ u_ws RX0 TX0 4, w ∈ wsX0_paysAnywhere := fun w h => List.mem_cons_of_mem _ (List.mem_append_right _ (h))
set_option maxHeartbeats 4000000 in
set_option maxRecDepth 100000 in
theorem c_X0_paysAnywhere {l : Launch} {D : va_G} {G : gT} (d a0 a1 a2 a3 : Nat) (co ge gi pa : Nat → Nat) (cc : Nat) (hw : WD co ge gi pa) (hc : cc < 4) : CtI (σ := Unit) l yX0_paysAnywhere wsX0_paysAnywhere rm_X0_paysAnywhere D G [.ref d, .int (nI cc)] [(d, .inr (0, [.ref a0, .ref a1, .ref a2, .ref a3])), (a0, aI G 4 co), (a1, aI G 4 ge), (a2, aI G 4 gi), (a3, aI G 4 pa)] (fun r _ => r = bI ((pa 0 ||| pa 1 ||| pa 2 ||| pa 3) / 2 ^ cc % 2 = 1)) (fun _ => [(d, .inr (0, [.ref a0, .ref a1, .ref a2, .ref a3])), (a0, aI G 4 co), (a1, aI G 4 ge), (a2, aI G 4 gi), (a3, aI G 4 pa)]) := by
  have h9 := or16 (or16 (or16 (hw 0 (by decide)).2.2.2 (hw 1 (by decide)).2.2.2) (hw 2 (by decide)).2.2.2) (hw 3 (by decide)).2.2.2
  have h8 := Nat.div_le_self (pa 0 ||| pa 1 ||| pa 2 ||| pa 3) (2 ^ cc)
  refine openZ (maxL := 2) (by decide) rfl (Nat.le_of_ble_eq_true rfl) ?_
  intro pg ev sg mm ags bl me cd A Q F hmn rt
  refine v_lv (lz := [(0, .ref d), (1, .int (nI cc))]) rfl ?_
  refine v_aload_n (pc' := 1) F dX0_paysAnywhere_0 rfl 0 rfl rfl ?_
  refine v_get (pc' := 4) (C := RX0) (T := TX0) (N := 4) F dX0_paysAnywhere_1 in_X0_paysAnywhere_X0 0 rfl rfl 3 (by decide) (List.mem_of_getElem? (i := 1) rfl) rfl rfl ?_
  refine v_iconst (pc' := 5) (v := nI 0) F dX0_paysAnywhere_4 (by decide) rfl ?_
  refine v_iald (pc' := 6) (z := pa 0) F dX0_paysAnywhere_5 4 rfl (by omega) (by decide) rfl rfl ?_
  refine v_aload_n (pc' := 7) F dX0_paysAnywhere_6 rfl 0 rfl rfl ?_
  refine v_get (pc' := 10) (C := RX0) (T := TX0) (N := 4) F dX0_paysAnywhere_7 in_X0_paysAnywhere_X0 0 rfl rfl 3 (by decide) (List.mem_of_getElem? (i := 1) rfl) rfl rfl ?_
  refine v_iconst (pc' := 11) (v := nI 1) F dX0_paysAnywhere_10 (by decide) rfl ?_
  refine v_iald (pc' := 12) (z := pa 1) F dX0_paysAnywhere_11 4 rfl (by omega) (by decide) rfl rfl ?_
  refine v_ior (pc' := 13) (z := nI ((pa 0) ||| (pa 1))) F dX0_paysAnywhere_12 (ni_or _ _) rfl ?_
  refine v_aload_n (pc' := 14) F dX0_paysAnywhere_13 rfl 0 rfl rfl ?_
  refine v_get (pc' := 17) (C := RX0) (T := TX0) (N := 4) F dX0_paysAnywhere_14 in_X0_paysAnywhere_X0 0 rfl rfl 3 (by decide) (List.mem_of_getElem? (i := 1) rfl) rfl rfl ?_
  refine v_iconst (pc' := 18) (v := nI 2) F dX0_paysAnywhere_17 (by decide) rfl ?_
  refine v_iald (pc' := 19) (z := pa 2) F dX0_paysAnywhere_18 4 rfl (by omega) (by decide) rfl rfl ?_
  refine v_ior (pc' := 20) (z := nI (((pa 0) ||| (pa 1)) ||| (pa 2))) F dX0_paysAnywhere_19 (ni_or _ _) rfl ?_
  refine v_aload_n (pc' := 21) F dX0_paysAnywhere_20 rfl 0 rfl rfl ?_
  refine v_get (pc' := 24) (C := RX0) (T := TX0) (N := 4) F dX0_paysAnywhere_21 in_X0_paysAnywhere_X0 0 rfl rfl 3 (by decide) (List.mem_of_getElem? (i := 1) rfl) rfl rfl ?_
  refine v_iconst (pc' := 25) (v := nI 3) F dX0_paysAnywhere_24 (by decide) rfl ?_
  refine v_iald (pc' := 26) (z := pa 3) F dX0_paysAnywhere_25 4 rfl (by omega) (by decide) rfl rfl ?_
  refine v_ior (pc' := 27) (z := nI ((((pa 0) ||| (pa 1)) ||| (pa 2)) ||| (pa 3))) F dX0_paysAnywhere_26 (ni_or _ _) rfl ?_
  refine v_iload_n (pc' := 28) F dX0_paysAnywhere_27 rfl 1 rfl rfl ?_
  refine v_ishr (pc' := 29) (z := nI (((((pa 0) ||| (pa 1)) ||| (pa 2)) ||| (pa 3)) / 2 ^ cc)) F dX0_paysAnywhere_28 (ni_shr (by omega) (by omega)) rfl ?_
  refine v_iconst (pc' := 30) (v := nI 1) F dX0_paysAnywhere_29 (by decide) rfl ?_
  refine v_iand (pc' := 31) (z := nI ((((((pa 0) ||| (pa 1)) ||| (pa 2)) ||| (pa 3)) / 2 ^ cc) % 2)) F dX0_paysAnywhere_30 (pk_andN (by omega) 1 (by decide)) rfl ?_
  refine v_iconst (pc' := 32) (v := nI 1) F dX0_paysAnywhere_31 (by decide) rfl ?_
  refine v_ncmp_ne (tgt := 39) (pc' := 35) F dX0_paysAnywhere_32 (by omega) (by omega) (by decide) rfl (fun c1 => ?_) (fun c1 => ?_)
  · refine v_iconst (pc' := 40) (v := nI 0) F dX0_paysAnywhere_39 (by decide) rfl ?_
    exact rt rfl dX0_paysAnywhere_40 () (nI0_b (by assumption)) rfl
  · refine v_iconst (pc' := 36) (v := nI 1) F dX0_paysAnywhere_35 (by decide) rfl ?_
    refine v_goto (tgt := 40) F dX0_paysAnywhere_36 (by decide) ?_
    exact rt rfl dX0_paysAnywhere_40 () (nI1_b (by assumption)) rfl
def rm_X0_afterGoing : Room := { frames := 1, cells := 0, slots := 0, locals := 21 }
set_option maxHeartbeats 4000000 in
set_option maxRecDepth 100000 in
theorem c_X0_afterGoing {l : Launch} {D : va_G} {G : gT} (n t : Nat) (hn : n < 40000) (ht : t < 4) : CtI (σ := Unit) l yX0_afterGoing wsX0_afterGoing rm_X0_afterGoing D G [.int (nI (eS n)), .int (nI t)] [] (fun r _ => r = oC (bGo n t)) (fun _ => []) := by
  refine openI (maxL := 3) (by decide) rfl (Nat.le_of_ble_eq_true rfl) ?_
  intro pg ev sg mm ags bl me cd A Q F hmn rt
  refine v_lv (lz := [(0, .int (nI (eS n))), (1, .int (nI t))]) rfl ?_
  refine v_iload_n (pc' := 1) F dX0_afterGoing_0 rfl 0 rfl rfl ?_
  refine cSI0 (pc' := 4) (As := [.int (nI (eS n))]) (rest := []) F (c_X7_townOf n (by omega)) (va_cwS 1 F.2.2.2.2.1 gX0_afterGoing_X7_townOf rfl rfl rfl (by decide +kernel) ⟨Nat.le_of_ble_eq_true rfl, Nat.le_of_ble_eq_true rfl⟩) rfl rfl (Nat.le_of_ble_eq_true rfl) dX0_afterGoing_1 ⟨Nat.zero_le _, Nat.zero_le _⟩ rfl (fun r u q1 => ?_)
  obtain rfl := q1
  refine v_iload_n (pc' := 5) F dX0_afterGoing_4 rfl 1 rfl rfl ?_
  refine v_iadd (pc' := 6) (z := nI ((n % 4) + t)) F dX0_afterGoing_5 (nI_add _ _) rfl ?_
  refine v_iconst (pc' := 7) (v := nI 1) F dX0_afterGoing_6 (by decide) rfl ?_
  refine v_iand (pc' := 8) (z := nI (((n % 4) + t) % 2)) F dX0_afterGoing_7 (pk_andN (by omega) 1 (by decide)) rfl ?_
  refine v_iconst (pc' := 9) (v := nI 1) F dX0_afterGoing_8 (by decide) rfl ?_
  refine v_ncmp_ne (tgt := 16) (pc' := 12) F dX0_afterGoing_9 (by omega) (by omega) (by decide) rfl (fun c2 => ?_) (fun c2 => ?_)
  · refine v_iconst (pc' := 17) (v := nI 0) F dX0_afterGoing_16 (by decide) rfl ?_
    refine v_istore_n (pc' := 18) (lv' := [(2, .int (nI 0)), (0, .int (nI (eS n))), (1, .int (nI t))]) F dX0_afterGoing_17 rfl (by decide) rfl rfl ?_
    refine v_iload_n (pc' := 19) F dX0_afterGoing_18 rfl 0 rfl rfl ?_
    refine v_nif_eq (tgt := 30) (pc' := 22) F dX0_afterGoing_19 (by omega) (by decide) rfl (fun c3 => ?_) (fun c3 => ?_)
    · refine v_iconst (pc' := 31) (v := (-1)) F dX0_afterGoing_30 (by decide) rfl ?_
      exact rt dX0_afterGoing_31 () ((bGo_f (by assumption)).symm) rfl
    · exact absurd c3 (by decide)
  · refine v_iconst (pc' := 13) (v := nI 1) F dX0_afterGoing_12 (by decide) rfl ?_
    refine v_goto (tgt := 17) F dX0_afterGoing_13 (by decide) ?_
    refine v_istore_n (pc' := 18) (lv' := [(2, .int (nI 1)), (0, .int (nI (eS n))), (1, .int (nI t))]) F dX0_afterGoing_17 rfl (by decide) rfl rfl ?_
    refine v_iload_n (pc' := 19) F dX0_afterGoing_18 rfl 0 rfl rfl ?_
    refine v_nif_eq (tgt := 30) (pc' := 22) F dX0_afterGoing_19 (by omega) (by decide) rfl (fun c4 => ?_) (fun c4 => ?_)
    · exact absurd c4 (by decide)
    · refine v_iload_n (pc' := 23) F dX0_afterGoing_22 rfl 1 rfl rfl ?_
      refine v_iload_n (pc' := 24) F dX0_afterGoing_23 rfl 2 rfl rfl ?_
      refine cSI0 (pc' := 27) (As := [.int (nI (eS n)), .int (nI t)]) (rest := []) F (c_X7_withTown n t (by omega) (by omega)) (va_cwS 2 F.2.2.2.2.1 gX0_afterGoing_X7_withTown rfl rfl rfl (by decide +kernel) ⟨Nat.le_of_ble_eq_true rfl, Nat.le_of_ble_eq_true rfl⟩) rfl rfl (Nat.le_of_ble_eq_true rfl) dX0_afterGoing_24 ⟨Nat.zero_le _, Nat.zero_le _⟩ rfl (fun r u q5 => ?_)
      obtain rfl := q5
      refine v_goto (tgt := 31) F dX0_afterGoing_27 (by decide) ?_
      exact rt dX0_afterGoing_31 () ((bGo_t (by assumption)).symm) rfl
def rm_X0_afterBuying : Room := { frames := 1, cells := 0, slots := 0, locals := 24 }
theorem in_X0_afterBuying_X0 : ∀ w ∈ u_ws RX0 TX0 4, w ∈ wsX0_afterBuying := fun w h => List.mem_cons_of_mem _ (List.mem_append_right _ (h))
set_option maxHeartbeats 4000000 in
set_option maxRecDepth 100000 in
theorem c_X0_afterBuying {l : Launch} {D : va_G} {G : gT} (d a0 a1 a2 a3 : Nat) (co ge gi pa : Nat → Nat) (n x : Nat) (hw : WD co ge gi pa) (hn : n < 40000) (hx : x < 4) : CtI (σ := Unit) l yX0_afterBuying wsX0_afterBuying rm_X0_afterBuying D G [.ref d, .int (nI (eS n)), .int (nI x)] [(d, .inr (0, [.ref a0, .ref a1, .ref a2, .ref a3])), (a0, aI G 4 co), (a1, aI G 4 ge), (a2, aI G 4 gi), (a3, aI G 4 pa)] (fun r _ => r = oC (bBuy co pa n x)) (fun _ => [(d, .inr (0, [.ref a0, .ref a1, .ref a2, .ref a3])), (a0, aI G 4 co), (a1, aI G 4 ge), (a2, aI G 4 gi), (a3, aI G 4 pa)]) := by
  have h9 := hw (n % 4) (Nat.mod_lt _ (by decide))
  have hd := dg_lt n x
  refine openI (maxL := 4) (by decide) rfl (Nat.le_of_ble_eq_true rfl) ?_
  intro pg ev sg mm ags bl me cd A Q F hmn rt
  refine v_lv (lz := [(0, .ref d), (1, .int (nI (eS n))), (2, .int (nI x))]) rfl ?_
  refine v_iload_n (pc' := 1) F dX0_afterBuying_0 rfl 1 rfl rfl ?_
  refine cSI0 (pc' := 4) (As := [.int (nI (eS n))]) (rest := []) F (c_X7_townOf n (by omega)) (va_cwS 1 F.2.2.2.2.1 gX0_afterBuying_X7_townOf rfl rfl rfl (by decide +kernel) ⟨Nat.le_of_ble_eq_true rfl, Nat.le_of_ble_eq_true rfl⟩) rfl rfl (Nat.le_of_ble_eq_true rfl) dX0_afterBuying_1 ⟨Nat.zero_le _, Nat.zero_le _⟩ rfl (fun r u q1 => ?_)
  obtain rfl := q1
  refine v_istore_n (pc' := 5) (lv' := [(3, .int (nI (n % 4))), (0, .ref d), (1, .int (nI (eS n))), (2, .int (nI x))]) F dX0_afterBuying_4 rfl (by decide) rfl rfl ?_
  refine v_iload_n (pc' := 6) F dX0_afterBuying_5 rfl 2 rfl rfl ?_
  refine v_iload_n (pc' := 7) F dX0_afterBuying_6 rfl 0 rfl rfl ?_
  refine cSI0 (pc' := 10) (As := [.int (nI (eS n)), .int (nI (n % 4))]) (rest := []) F (c_X7_hasGood n (n % 4) (by omega) (by omega)) (va_cwS 2 F.2.2.2.2.1 gX0_afterBuying_X7_hasGood rfl rfl rfl (by decide +kernel) ⟨Nat.le_of_ble_eq_true rfl, Nat.le_of_ble_eq_true rfl⟩) rfl rfl (Nat.le_of_ble_eq_true rfl) dX0_afterBuying_7 ⟨Nat.zero_le _, Nat.zero_le _⟩ rfl (fun r u q2 => ?_)
  obtain rfl := q2
  refine v_bif_ne (tgt := 33) (pc' := 13) F dX0_afterBuying_10 (by decide) rfl (fun c3 => ?_) (fun c3 => ?_)
  · refine v_iconst (pc' := 34) (v := (-1)) F dX0_afterBuying_33 (by decide) rfl ?_
    exact rt dX0_afterBuying_34 () ((oC_none (if_neg (fun z => by first | exact absurd z.1 (by assumption) | exact absurd z.2 (by assumption) | (exact absurd (by assumption) z.1)))).symm) rfl
  · refine v_aload_n (pc' := 14) F dX0_afterBuying_13 rfl 1 rfl rfl ?_
    refine v_iload_n (pc' := 15) F dX0_afterBuying_14 rfl 0 rfl rfl ?_
    refine v_iload_n (pc' := 16) F dX0_afterBuying_15 rfl 3 rfl rfl ?_
    refine v_iload_n (pc' := 17) F dX0_afterBuying_16 rfl 2 rfl rfl ?_
    refine v_iload_n (pc' := 18) F dX0_afterBuying_17 rfl 3 rfl rfl ?_
    refine cSI0 (pc' := 21) (As := [.int (nI (eS n)), .int (nI x)]) (rest := [.int (nI x), .int (nI (n % 4)), .ref d]) F (c_X7_coinsOf n x (by omega) (by omega)) (va_cwS 2 F.2.2.2.2.1 gX0_afterBuying_X7_coinsOf rfl rfl rfl (by decide +kernel) ⟨Nat.le_of_ble_eq_true rfl, Nat.le_of_ble_eq_true rfl⟩) rfl rfl (Nat.le_of_ble_eq_true rfl) dX0_afterBuying_18 ⟨Nat.zero_le _, Nat.zero_le _⟩ rfl (fun r u q4 => ?_)
    obtain rfl := q4
    refine v_aload_n (pc' := 22) F dX0_afterBuying_21 rfl 1 rfl rfl ?_
    refine v_get (pc' := 25) (C := RX0) (T := TX0) (N := 4) F dX0_afterBuying_22 in_X0_afterBuying_X0 0 rfl rfl 0 (by decide) (List.mem_of_getElem? (i := 1) rfl) rfl rfl ?_
    refine v_iload_n (pc' := 26) F dX0_afterBuying_25 rfl 0 rfl rfl ?_
    refine v_iald (pc' := 27) (z := co (n % 4)) F dX0_afterBuying_26 1 rfl (by omega) (by decide) rfl rfl ?_
    refine cVI (pc' := 30) (As := [.int (nI (n % 4)), .int (nI x), .int (nI (dg n x)), .int (nI (co (n % 4)))]) (rest := []) (wr := []) F (c_X0_canPay d a0 a1 a2 a3 co ge gi pa (n % 4) x (dg n x) (co (n % 4)) hw (by omega) (by omega) (by omega) (by omega)) (cwV 4 F.2.2.2.2.1 gX0_afterBuying_X0_canPay rfl rfl rfl (by decide +kernel) ⟨Nat.le_of_ble_eq_true rfl, Nat.le_of_ble_eq_true rfl⟩) (v_rcvW F 0 0 rfl rfl) rfl rfl (Nat.le_of_ble_eq_true rfl) dX0_afterBuying_27 [0, 1, 2, 3, 4] [] (by decide) rfl rfl (by decide) (by decide) ⟨Nat.zero_le _, Nat.zero_le _⟩ rfl (fun r u q5 => ?_)
    obtain rfl := q5
    refine v_ws (wz := [(d, .inr (0, [.ref a0, .ref a1, .ref a2, .ref a3])), (a0, aI G 4 co), (a1, aI G 4 ge), (a2, aI G 4 gi), (a3, aI G 4 pa)]) rfl ?_
    refine v_bif_ne (tgt := 35) (pc' := 33) F dX0_afterBuying_30 (by decide) rfl (fun c6 => ?_) (fun c6 => ?_)
    · have h8 := wC_buy (p := co (n % 4)) hn hx (by omega)
      refine v_iload_n (pc' := 36) F dX0_afterBuying_35 rfl 2 rfl rfl ?_
      refine v_iload_n (pc' := 37) F dX0_afterBuying_36 rfl 3 rfl rfl ?_
      refine v_aload_n (pc' := 38) F dX0_afterBuying_37 rfl 1 rfl rfl ?_
      refine v_get (pc' := 41) (C := RX0) (T := TX0) (N := 4) F dX0_afterBuying_38 in_X0_afterBuying_X0 0 rfl rfl 0 (by decide) (List.mem_of_getElem? (i := 1) rfl) rfl rfl ?_
      refine v_iload_n (pc' := 42) F dX0_afterBuying_41 rfl 0 rfl rfl ?_
      refine v_iald (pc' := 43) (z := co (n % 4)) F dX0_afterBuying_42 1 rfl (by omega) (by decide) rfl rfl ?_
      refine v_ineg (pc' := 44) (z := (nI 0 - nI (co (n % 4)))) F dX0_afterBuying_43 (ni_neg _) rfl ?_
      refine cSI0 (pc' := 47) (As := [.int (nI (eS n)), .int (nI x), .int (nI 0 - nI (co (n % 4)))]) (rest := []) F (c_X7_withMore n x 0 (co (n % 4)) (by omega) (by omega) (by omega) (by omega)) (va_cwS 3 F.2.2.2.2.1 gX0_afterBuying_X7_withMore rfl rfl rfl (by decide +kernel) ⟨Nat.le_of_ble_eq_true rfl, Nat.le_of_ble_eq_true rfl⟩) rfl rfl (Nat.le_of_ble_eq_true rfl) dX0_afterBuying_44 ⟨Nat.zero_le _, Nat.zero_le _⟩ rfl (fun r u q7 => ?_)
      obtain rfl := q7
      refine v_iload_n (pc' := 48) F dX0_afterBuying_47 rfl 0 rfl rfl ?_
      refine cSI0 (pc' := 51) (As := [.int (nI (eS (wC n x 0 (co (n % 4))))), .int (nI (n % 4))]) (rest := []) F (c_X7_withOtherGood (wC n x 0 (co (n % 4))) (n % 4) (by omega) (by omega)) (va_cwS 2 F.2.2.2.2.1 gX0_afterBuying_X7_withOtherGood rfl rfl rfl (by decide +kernel) ⟨Nat.le_of_ble_eq_true rfl, Nat.le_of_ble_eq_true rfl⟩) rfl rfl (Nat.le_of_ble_eq_true rfl) dX0_afterBuying_48 ⟨Nat.zero_le _, Nat.zero_le _⟩ rfl (fun r u q8 => ?_)
      obtain rfl := q8
      exact rt dX0_afterBuying_51 () ((oC_some (if_pos ⟨by assumption, by assumption⟩)).symm) rfl
    · refine v_iconst (pc' := 34) (v := (-1)) F dX0_afterBuying_33 (by decide) rfl ?_
      exact rt dX0_afterBuying_34 () ((oC_none (if_neg (fun z => by first | exact absurd z.1 (by assumption) | exact absurd z.2 (by assumption) | (exact absurd (by assumption) z.1)))).symm) rfl
def rm_X0_afterSelling : Room := { frames := 1, cells := 0, slots := 0, locals := 22 }
theorem in_X0_afterSelling_X0 : ∀ w ∈ u_ws RX0 TX0 4, w ∈ wsX0_afterSelling := fun w h => List.mem_cons_of_mem _ (List.mem_append_right _ (h))
set_option maxHeartbeats 4000000 in
set_option maxRecDepth 100000 in
theorem c_X0_afterSelling {l : Launch} {D : va_G} {G : gT} (d a0 a1 a2 a3 : Nat) (co ge gi pa : Nat → Nat) (n x : Nat) (hw : WD co ge gi pa) (hn : n < 40000) (hx : x < 4) : CtI (σ := Unit) l yX0_afterSelling wsX0_afterSelling rm_X0_afterSelling D G [.ref d, .int (nI (eS n)), .int (nI x)] [(d, .inr (0, [.ref a0, .ref a1, .ref a2, .ref a3])), (a0, aI G 4 co), (a1, aI G 4 ge), (a2, aI G 4 gi), (a3, aI G 4 pa)] (fun r _ => r = oC (bSell ge gi n x)) (fun _ => [(d, .inr (0, [.ref a0, .ref a1, .ref a2, .ref a3])), (a0, aI G 4 co), (a1, aI G 4 ge), (a2, aI G 4 gi), (a3, aI G 4 pa)]) := by
  have h9 := hw (n % 4) (Nat.mod_lt _ (by decide))
  have hd := dg_lt n x
  have hd2 := dg_lt n (gi (n % 4))
  refine openI (maxL := 4) (by decide) rfl (Nat.le_of_ble_eq_true rfl) ?_
  intro pg ev sg mm ags bl me cd A Q F hmn rt
  refine v_lv (lz := [(0, .ref d), (1, .int (nI (eS n))), (2, .int (nI x))]) rfl ?_
  refine v_iload_n (pc' := 1) F dX0_afterSelling_0 rfl 1 rfl rfl ?_
  refine cSI0 (pc' := 4) (As := [.int (nI (eS n))]) (rest := []) F (c_X7_townOf n (by omega)) (va_cwS 1 F.2.2.2.2.1 gX0_afterSelling_X7_townOf rfl rfl rfl (by decide +kernel) ⟨Nat.le_of_ble_eq_true rfl, Nat.le_of_ble_eq_true rfl⟩) rfl rfl (Nat.le_of_ble_eq_true rfl) dX0_afterSelling_1 ⟨Nat.zero_le _, Nat.zero_le _⟩ rfl (fun r u q1 => ?_)
  obtain rfl := q1
  refine v_istore_n (pc' := 5) (lv' := [(3, .int (nI (n % 4))), (0, .ref d), (1, .int (nI (eS n))), (2, .int (nI x))]) F dX0_afterSelling_4 rfl (by decide) rfl rfl ?_
  refine v_iload_n (pc' := 6) F dX0_afterSelling_5 rfl 2 rfl rfl ?_
  refine v_iload_n (pc' := 7) F dX0_afterSelling_6 rfl 3 rfl rfl ?_
  refine cSI0 (pc' := 10) (As := [.int (nI (eS n)), .int (nI x)]) (rest := []) F (c_X7_hasGood n x (by omega) (by omega)) (va_cwS 2 F.2.2.2.2.1 gX0_afterSelling_X7_hasGood rfl rfl rfl (by decide +kernel) ⟨Nat.le_of_ble_eq_true rfl, Nat.le_of_ble_eq_true rfl⟩) rfl rfl (Nat.le_of_ble_eq_true rfl) dX0_afterSelling_7 ⟨Nat.zero_le _, Nat.zero_le _⟩ rfl (fun r u q2 => ?_)
  obtain rfl := q2
  refine v_bif_eq (tgt := 39) (pc' := 13) F dX0_afterSelling_10 (by decide) rfl (fun c3 => ?_) (fun c3 => ?_)
  · refine v_iconst (pc' := 40) (v := (-1)) F dX0_afterSelling_39 (by decide) rfl ?_
    exact rt dX0_afterSelling_40 () ((oC_none (if_neg (fun z => by first | exact absurd z.1 (by assumption) | exact absurd (by assumption) z.2.1 | exact absurd z.2.2 (by omega)))).symm) rfl
  · refine v_iload_n (pc' := 14) F dX0_afterSelling_13 rfl 3 rfl rfl ?_
    refine v_iload_n (pc' := 15) F dX0_afterSelling_14 rfl 0 rfl rfl ?_
    refine v_ncmp_eq (tgt := 39) (pc' := 18) F dX0_afterSelling_15 (by omega) (by omega) (by decide) rfl (fun c4 => ?_) (fun c4 => ?_)
    · refine v_iconst (pc' := 40) (v := (-1)) F dX0_afterSelling_39 (by decide) rfl ?_
      exact rt dX0_afterSelling_40 () ((oC_none (if_neg (fun z => by first | exact absurd z.1 (by assumption) | exact absurd (by assumption) z.2.1 | exact absurd z.2.2 (by omega)))).symm) rfl
    · refine v_iload_n (pc' := 19) F dX0_afterSelling_18 rfl 2 rfl rfl ?_
      refine v_aload_n (pc' := 20) F dX0_afterSelling_19 rfl 1 rfl rfl ?_
      refine v_get (pc' := 23) (C := RX0) (T := TX0) (N := 4) F dX0_afterSelling_20 in_X0_afterSelling_X0 0 rfl rfl 2 (by decide) (List.mem_of_getElem? (i := 1) rfl) rfl rfl ?_
      refine v_iload_n (pc' := 24) F dX0_afterSelling_23 rfl 0 rfl rfl ?_
      refine v_iald (pc' := 25) (z := gi (n % 4)) F dX0_afterSelling_24 3 rfl (by omega) (by decide) rfl rfl ?_
      refine cSI0 (pc' := 28) (As := [.int (nI (eS n)), .int (nI (gi (n % 4)))]) (rest := []) F (c_X7_coinsOf n (gi (n % 4)) (by omega) (by omega)) (va_cwS 2 F.2.2.2.2.1 gX0_afterSelling_X7_coinsOf rfl rfl rfl (by decide +kernel) ⟨Nat.le_of_ble_eq_true rfl, Nat.le_of_ble_eq_true rfl⟩) rfl rfl (Nat.le_of_ble_eq_true rfl) dX0_afterSelling_25 ⟨Nat.zero_le _, Nat.zero_le _⟩ rfl (fun r u q5 => ?_)
      obtain rfl := q5
      refine v_aload_n (pc' := 29) F dX0_afterSelling_28 rfl 1 rfl rfl ?_
      refine v_get (pc' := 32) (C := RX0) (T := TX0) (N := 4) F dX0_afterSelling_29 in_X0_afterSelling_X0 0 rfl rfl 1 (by decide) (List.mem_of_getElem? (i := 2) rfl) rfl rfl ?_
      refine v_iload_n (pc' := 33) F dX0_afterSelling_32 rfl 0 rfl rfl ?_
      refine v_iald (pc' := 34) (z := ge (n % 4)) F dX0_afterSelling_33 2 rfl (by omega) (by decide) rfl rfl ?_
      refine v_iadd (pc' := 35) (z := nI ((dg n (gi (n % 4))) + (ge (n % 4)))) F dX0_afterSelling_34 (nI_add _ _) rfl ?_
      refine v_iconst (pc' := 36) (v := nI 4) F dX0_afterSelling_35 (by decide) rfl ?_
      refine v_ncmp_le (tgt := 41) (pc' := 39) F dX0_afterSelling_36 (by omega) (by omega) (by decide) rfl (fun c6 => ?_) (fun c6 => ?_)
      · have h8 := wC_sell (p := ge (n % 4)) hn h9.2.2.1 (by omega)
        refine v_iload_n (pc' := 42) F dX0_afterSelling_41 rfl 2 rfl rfl ?_
        refine v_aload_n (pc' := 43) F dX0_afterSelling_42 rfl 1 rfl rfl ?_
        refine v_get (pc' := 46) (C := RX0) (T := TX0) (N := 4) F dX0_afterSelling_43 in_X0_afterSelling_X0 0 rfl rfl 2 (by decide) (List.mem_of_getElem? (i := 1) rfl) rfl rfl ?_
        refine v_iload_n (pc' := 47) F dX0_afterSelling_46 rfl 0 rfl rfl ?_
        refine v_iald (pc' := 48) (z := gi (n % 4)) F dX0_afterSelling_47 3 rfl (by omega) (by decide) rfl rfl ?_
        refine v_aload_n (pc' := 49) F dX0_afterSelling_48 rfl 1 rfl rfl ?_
        refine v_get (pc' := 52) (C := RX0) (T := TX0) (N := 4) F dX0_afterSelling_49 in_X0_afterSelling_X0 0 rfl rfl 1 (by decide) (List.mem_of_getElem? (i := 2) rfl) rfl rfl ?_
        refine v_iload_n (pc' := 53) F dX0_afterSelling_52 rfl 0 rfl rfl ?_
        refine v_iald (pc' := 54) (z := ge (n % 4)) F dX0_afterSelling_53 2 rfl (by omega) (by decide) rfl rfl ?_
        refine v_top (y := nI (ge (n % 4)) - nI 0) (ni_sub0 _).symm ?_
        refine cSI0 (pc' := 57) (As := [.int (nI (eS n)), .int (nI (gi (n % 4))), .int (nI (ge (n % 4)) - nI 0)]) (rest := []) F (c_X7_withMore n (gi (n % 4)) (ge (n % 4)) 0 (by omega) (by omega) (by omega) (by omega)) (va_cwS 3 F.2.2.2.2.1 gX0_afterSelling_X7_withMore rfl rfl rfl (by decide +kernel) ⟨Nat.le_of_ble_eq_true rfl, Nat.le_of_ble_eq_true rfl⟩) rfl rfl (Nat.le_of_ble_eq_true rfl) dX0_afterSelling_54 ⟨Nat.zero_le _, Nat.zero_le _⟩ rfl (fun r u q7 => ?_)
        obtain rfl := q7
        refine v_iload_n (pc' := 58) F dX0_afterSelling_57 rfl 3 rfl rfl ?_
        refine cSI0 (pc' := 61) (As := [.int (nI (eS (wC n (gi (n % 4)) (ge (n % 4)) 0))), .int (nI x)]) (rest := []) F (c_X7_withOtherGood (wC n (gi (n % 4)) (ge (n % 4)) 0) x (by omega) (by omega)) (va_cwS 2 F.2.2.2.2.1 gX0_afterSelling_X7_withOtherGood rfl rfl rfl (by decide +kernel) ⟨Nat.le_of_ble_eq_true rfl, Nat.le_of_ble_eq_true rfl⟩) rfl rfl (Nat.le_of_ble_eq_true rfl) dX0_afterSelling_58 ⟨Nat.zero_le _, Nat.zero_le _⟩ rfl (fun r u q8 => ?_)
        obtain rfl := q8
        exact rt dX0_afterSelling_61 () ((oC_some (if_pos ⟨by assumption, by assumption, by assumption⟩)).symm) rfl
      · refine v_iconst (pc' := 40) (v := (-1)) F dX0_afterSelling_39 (by decide) rfl ?_
        exact rt dX0_afterSelling_40 () ((oC_none (if_neg (fun z => by first | exact absurd z.1 (by assumption) | exact absurd (by assumption) z.2.1 | exact absurd z.2.2 (by omega)))).symm) rfl
def rm_X0_after : Room := { frames := 2, cells := 0, slots := 0, locals := 47 }
set_option maxHeartbeats 4000000 in
set_option maxRecDepth 100000 in
theorem c_X0_after {l : Launch} {D : va_G} {G : gT} (d a0 a1 a2 a3 : Nat) (co ge gi pa : Nat → Nat) (n x : Nat) (hw : WD co ge gi pa) (hn : n < 40000) (hx : aOk x) : CtI (σ := Unit) l yX0_after wsX0_after rm_X0_after D G [.ref d, .int (nI (eS n)), .int (nI x)] [(d, .inr (0, [.ref a0, .ref a1, .ref a2, .ref a3])), (a0, aI G 4 co), (a1, aI G 4 ge), (a2, aI G 4 gi), (a3, aI G 4 pa)] (fun r _ => r = oC (bh co ge gi pa n x)) (fun _ => [(d, .inr (0, [.ref a0, .ref a1, .ref a2, .ref a3])), (a0, aI G 4 co), (a1, aI G 4 ge), (a2, aI G 4 gi), (a3, aI G 4 pa)]) := by
  have hx2 := hx
  unfold aOk at hx2
  refine openI (maxL := 3) (by decide) rfl (Nat.le_of_ble_eq_true rfl) ?_
  intro pg ev sg mm ags bl me cd A Q F hmn rt
  refine v_lv (lz := [(0, .ref d), (1, .int (nI (eS n))), (2, .int (nI x))]) rfl ?_
  refine v_iload_n (pc' := 1) F dX0_after_0 rfl 2 rfl rfl ?_
  refine v_bipush (pc' := 3) (v := nI 10) F dX0_after_1 (by decide) rfl ?_
  refine v_ncmp_ge (tgt := 12) (pc' := 6) F dX0_after_3 (by omega) (by omega) (by decide) rfl (fun c1 => ?_) (fun c1 => ?_)
  · refine v_iload_n (pc' := 13) F dX0_after_12 rfl 2 rfl rfl ?_
    refine v_bipush (pc' := 15) (v := nI 20) F dX0_after_13 (by decide) rfl ?_
    refine v_ncmp_ge (tgt := 30) (pc' := 18) F dX0_after_15 (by omega) (by omega) (by decide) rfl (fun c2 => ?_) (fun c2 => ?_)
    · refine v_aload_n (pc' := 31) F dX0_after_30 rfl 0 rfl rfl ?_
      refine v_iload_n (pc' := 32) F dX0_after_31 rfl 1 rfl rfl ?_
      refine v_iload_n (pc' := 33) F dX0_after_32 rfl 2 rfl rfl ?_
      refine v_bipush (pc' := 35) (v := nI 20) F dX0_after_33 (by decide) rfl ?_
      refine v_isub (pc' := 36) (z := nI (x - 20)) F dX0_after_35 (pk_sub (by omega)) rfl ?_
      refine cVI (pc' := 39) (As := [.int (nI (eS n)), .int (nI (x - 20))]) (rest := []) (wr := []) F (c_X0_afterSelling d a0 a1 a2 a3 co ge gi pa n (x - 20) hw (by omega) (by omega)) (cwV 2 F.2.2.2.2.1 gX0_after_X0_afterSelling rfl rfl rfl (by decide +kernel) ⟨Nat.le_of_ble_eq_true rfl, Nat.le_of_ble_eq_true rfl⟩) (v_rcvW F 0 0 rfl rfl) rfl rfl (Nat.le_of_ble_eq_true rfl) dX0_after_36 [0, 1, 2, 3, 4] [] (by decide) rfl rfl (by decide) (by decide) ⟨Nat.zero_le _, Nat.zero_le _⟩ rfl (fun r u q3 => ?_)
      obtain rfl := q3
      refine v_ws (wz := [(d, .inr (0, [.ref a0, .ref a1, .ref a2, .ref a3])), (a0, aI G 4 co), (a1, aI G 4 ge), (a2, aI G 4 gi), (a3, aI G 4 pa)]) rfl ?_
      exact rt dX0_after_39 () (by unfold bh; rw [if_neg (by omega), if_neg (by omega)]) rfl
    · refine v_aload_n (pc' := 19) F dX0_after_18 rfl 0 rfl rfl ?_
      refine v_iload_n (pc' := 20) F dX0_after_19 rfl 1 rfl rfl ?_
      refine v_iload_n (pc' := 21) F dX0_after_20 rfl 2 rfl rfl ?_
      refine v_bipush (pc' := 23) (v := nI 10) F dX0_after_21 (by decide) rfl ?_
      refine v_isub (pc' := 24) (z := nI (x - 10)) F dX0_after_23 (pk_sub (by omega)) rfl ?_
      refine cVI (pc' := 27) (As := [.int (nI (eS n)), .int (nI (x - 10))]) (rest := []) (wr := []) F (c_X0_afterBuying d a0 a1 a2 a3 co ge gi pa n (x - 10) hw (by omega) (by omega)) (cwV 2 F.2.2.2.2.1 gX0_after_X0_afterBuying rfl rfl rfl (by decide +kernel) ⟨Nat.le_of_ble_eq_true rfl, Nat.le_of_ble_eq_true rfl⟩) (v_rcvW F 0 0 rfl rfl) rfl rfl (Nat.le_of_ble_eq_true rfl) dX0_after_24 [0, 1, 2, 3, 4] [] (by decide) rfl rfl (by decide) (by decide) ⟨Nat.zero_le _, Nat.zero_le _⟩ rfl (fun r u q4 => ?_)
      obtain rfl := q4
      refine v_ws (wz := [(d, .inr (0, [.ref a0, .ref a1, .ref a2, .ref a3])), (a0, aI G 4 co), (a1, aI G 4 ge), (a2, aI G 4 gi), (a3, aI G 4 pa)]) rfl ?_
      refine v_goto (tgt := 39) F dX0_after_27 (by decide) ?_
      exact rt dX0_after_39 () (by unfold bh; rw [if_neg (by omega), if_pos (by assumption)]) rfl
  · refine v_iload_n (pc' := 7) F dX0_after_6 rfl 1 rfl rfl ?_
    refine v_iload_n (pc' := 8) F dX0_after_7 rfl 2 rfl rfl ?_
    refine cSI0 (pc' := 11) (As := [.int (nI (eS n)), .int (nI x)]) (rest := []) F (c_X0_afterGoing n x (by omega) (by omega)) (va_cwS 2 F.2.2.2.2.1 gX0_after_X0_afterGoing rfl rfl rfl (by decide +kernel) ⟨Nat.le_of_ble_eq_true rfl, Nat.le_of_ble_eq_true rfl⟩) rfl rfl (Nat.le_of_ble_eq_true rfl) dX0_after_8 ⟨Nat.zero_le _, Nat.zero_le _⟩ rfl (fun r u q5 => ?_)
    obtain rfl := q5
    exact rt dX0_after_11 () (by unfold bh; rw [if_pos (by assumption)]) rfl
def rm_X0_actsOpen : Room := { frames := 3, cells := 0, slots := 0, locals := 69 }
set_option maxHeartbeats 4000000 in
set_option maxRecDepth 100000 in
theorem c_X0_actsOpen {l : Launch} {D : va_G} {G : gT} (d a0 a1 a2 a3 : Nat) (co ge gi pa : Nat → Nat) (n : Nat) (hw : WD co ge gi pa) (hn : n < 40000) : CtI (σ := Unit) l yX0_actsOpen wsX0_actsOpen rm_X0_actsOpen D G [.ref d, .int (nI (eS n))] [(d, .inr (0, [.ref a0, .ref a1, .ref a2, .ref a3])), (a0, aI G 4 co), (a1, aI G 4 ge), (a2, aI G 4 gi), (a3, aI G 4 pa)] (fun r _ => r = nI (opL (bh co ge gi pa n)).length) (fun _ => [(d, .inr (0, [.ref a0, .ref a1, .ref a2, .ref a3])), (a0, aI G 4 co), (a1, aI G 4 ge), (a2, aI G 4 gi), (a3, aI G 4 pa)]) := by
  refine openI (maxL := 7) (by decide) rfl (Nat.le_of_ble_eq_true rfl) ?_
  intro pg ev sg mm ags bl me cd A Q F hmn rt
  refine v_lv (lz := [(0, .ref d), (1, .int (nI (eS n)))]) rfl ?_
  refine v_iconst (pc' := 1) (v := nI 0) F dX0_actsOpen_0 (by decide) rfl ?_
  refine v_istore_n (pc' := 2) (lv' := [(2, .int (nI 0)), (0, .ref d), (1, .int (nI (eS n)))]) F dX0_actsOpen_1 rfl (by decide) rfl rfl ?_
  refine v_getsAN (pc' := 5) F dX0_actsOpen_2 (F.2.2.2.2.2.2.2.2.2.2.2.1) rfl ?_
  refine v_astore_n (pc' := 6) (lv' := [(3, .ref (gA G)), (2, .int (nI 0)), (0, .ref d), (1, .int (nI (eS n)))]) F dX0_actsOpen_5 rfl (by decide) rfl rfl ?_
  refine v_aload_n (pc' := 7) F dX0_actsOpen_6 rfl 0 rfl rfl ?_
  refine v_tlenA (pc' := 8) F dX0_actsOpen_7 rfl ?_
  refine v_istore (pc' := 10) (lv' := [(4, .int (nI 12)), (3, .ref (gA G)), (2, .int (nI 0)), (0, .ref d), (1, .int (nI (eS n)))]) F dX0_actsOpen_8 (by decide) rfl rfl ?_
  refine v_iconst (pc' := 11) (v := nI 0) F dX0_actsOpen_10 (by decide) rfl ?_
  refine v_istore (pc' := 13) (lv' := [(5, .int (nI 0)), (4, .int (nI 12)), (3, .ref (gA G)), (2, .int (nI 0)), (0, .ref d), (1, .int (nI (eS n)))]) F dX0_actsOpen_11 (by decide) rfl rfl ?_
  have L13 : ∀ (fu : Nat) (j : Nat) (ct : Nat), j ≤ 12 → ct = (opC (bh co ge gi pa n) j).length → 12 < j + fu → V pg l ev rm_X0_actsOpen sg mm ags bl me cd 0 0 Q D A 7 13 [(5, .int (nI j)), (4, .int (nI 12)), (3, .ref (gA G)), (2, .int (nI ct)), (0, .ref d), (1, .int (nI (eS n)))] [] [(d, .inr (0, [.ref a0, .ref a1, .ref a2, .ref a3])), (a0, aI G 4 co), (a1, aI G 4 ge), (a2, aI G 4 gi), (a3, aI G 4 pa)] := by
    intro fu
    induction fu with
    | zero => intro j ct hj hct hfu; exact absurd hfu (by omega)
    | succ fu ih13 =>
      intro j ct hj hct hfu
      refine v_iload (pc' := 15) F dX0_actsOpen_13 0 rfl rfl ?_
      refine v_iload (pc' := 17) F dX0_actsOpen_15 1 rfl rfl ?_
      refine v_ncmp_ge (tgt := 46) (pc' := 20) F dX0_actsOpen_17 (by omega) (by omega) (by decide) rfl (fun c2 => ?_) (fun c2 => ?_)
      · refine v_iload_n (pc' := 47) F dX0_actsOpen_46 rfl 3 rfl rfl ?_
        exact rt dX0_actsOpen_47 () (by rw [hct, show j = 12 by omega, opC_12]) rfl
      · refine v_aload_n (pc' := 21) F dX0_actsOpen_20 rfl 2 rfl rfl ?_
        refine v_iload (pc' := 23) F dX0_actsOpen_21 0 rfl rfl ?_
        refine v_tiA (pc' := 24) F dX0_actsOpen_23 (by omega) rfl ?_
        refine v_istore (pc' := 26) (lv' := [(6, .int (nI (actN j))), (5, .int (nI j)), (4, .int (nI 12)), (3, .ref (gA G)), (2, .int (nI ct)), (0, .ref d), (1, .int (nI (eS n)))]) F dX0_actsOpen_24 (by decide) rfl rfl ?_
        refine v_aload_n (pc' := 27) F dX0_actsOpen_26 rfl 5 rfl rfl ?_
        refine v_iload_n (pc' := 28) F dX0_actsOpen_27 rfl 6 rfl rfl ?_
        refine v_iload (pc' := 30) F dX0_actsOpen_28 0 rfl rfl ?_
        have hao := (actN_ok j (by omega)).1
        have hal := (actN_ok j (by omega)).2
        have hle := opC_le (bh co ge gi pa n) j
        refine cVI (pc' := 33) (As := [.int (nI (eS n)), .int (nI (actN j))]) (rest := []) (wr := []) F (c_X0_after d a0 a1 a2 a3 co ge gi pa n (actN j) hw (by omega) (by assumption)) (cwV 2 F.2.2.2.2.1 gX0_actsOpen_X0_after rfl rfl rfl (by decide +kernel) ⟨Nat.le_of_ble_eq_true rfl, Nat.le_of_ble_eq_true rfl⟩) (v_rcvW F 0 0 rfl rfl) rfl rfl (Nat.le_of_ble_eq_true rfl) dX0_actsOpen_30 [0, 1, 2, 3, 4] [] (by decide) rfl rfl (by decide) (by decide) ⟨Nat.zero_le _, Nat.zero_le _⟩ rfl (fun r u q3 => ?_)
        obtain rfl := q3
        refine v_ws (wz := [(d, .inr (0, [.ref a0, .ref a1, .ref a2, .ref a3])), (a0, aI G 4 co), (a1, aI G 4 ge), (a2, aI G 4 gi), (a3, aI G 4 pa)]) rfl ?_
        cases hb5 : bh co ge gi pa n (actN j) with
        | none =>
          refine v_top (oC_none rfl) ?_
          refine v_iconst (pc' := 34) (v := (-1)) F dX0_actsOpen_33 (by decide) rfl ?_
          refine v_icmp_eq (tgt := 40) (pc' := 37) F dX0_actsOpen_34 (by decide) rfl (fun c6 => ?_) (fun c6 => ?_)
          · refine v_iinc (pc' := 43) (v := nI (j + 1)) (lv' := [(5, .int (nI (j + 1))), (6, .int (nI (actN j))), (4, .int (nI 12)), (3, .ref (gA G)), (2, .int (nI ct)), (0, .ref d), (1, .int (nI (eS n)))]) F dX0_actsOpen_40 1 rfl (nI_add _ _) (by decide) rfl rfl ?_
            refine v_goto (tgt := 13) F dX0_actsOpen_43 (by decide) ?_
            refine v_lpick (lz := [(5, .int (nI (j + 1))), (4, .int (nI 12)), (3, .ref (gA G)), (2, .int (nI ct)), (0, .ref d), (1, .int (nI (eS n)))]) [0, 2, 3, 4, 5, 6] rfl ?_
            exact ih13 (j + 1) ct (by omega) (by rw [opC_none hb5]; exact hct) (by omega)
          · exact absurd rfl c6
        | some k4 =>
          refine v_top (oC_some rfl) ?_
          have hk := bh_lt hw hn (actN_ok j (by omega)).1 hb5
          have hks := eS_lt hk
          refine v_iconst (pc' := 34) (v := (-1)) F dX0_actsOpen_33 (by decide) rfl ?_
          refine v_icmp_eq (tgt := 40) (pc' := 37) F dX0_actsOpen_34 (by decide) rfl (fun c7 => ?_) (fun c7 => ?_)
          · exact absurd c7 (ni_m1 (by omega))
          · refine v_iinc (pc' := 40) (v := nI (ct + 1)) (lv' := [(2, .int (nI (ct + 1))), (6, .int (nI (actN j))), (5, .int (nI j)), (4, .int (nI 12)), (3, .ref (gA G)), (0, .ref d), (1, .int (nI (eS n)))]) F dX0_actsOpen_37 4 rfl (nI_add _ _) (by decide) rfl rfl ?_
            refine v_iinc (pc' := 43) (v := nI (j + 1)) (lv' := [(5, .int (nI (j + 1))), (2, .int (nI (ct + 1))), (6, .int (nI (actN j))), (4, .int (nI 12)), (3, .ref (gA G)), (0, .ref d), (1, .int (nI (eS n)))]) F dX0_actsOpen_40 2 rfl (nI_add _ _) (by decide) rfl rfl ?_
            refine v_goto (tgt := 13) F dX0_actsOpen_43 (by decide) ?_
            refine v_lpick (lz := [(5, .int (nI (j + 1))), (4, .int (nI 12)), (3, .ref (gA G)), (2, .int (nI (ct + 1))), (0, .ref d), (1, .int (nI (eS n)))]) [0, 3, 4, 1, 5, 6] rfl ?_
            exact ih13 (j + 1) (ct + 1) (by omega) (by rw [opC_some hb5, List.length_append, hct]; rfl) (by omega)
  exact L13 (12 + 1) 0 0 (by omega) (rfl) (by omega)
def rm_X0_afterDraw : Room := { frames := 4, cells := 0, slots := 0, locals := 95 }
set_option maxHeartbeats 4000000 in
set_option maxRecDepth 100000 in
theorem c_X0_afterDraw {l : Launch} {D : va_G} {G : gT} (d a0 a1 a2 a3 : Nat) (co ge gi pa : Nat → Nat) (n x : Nat) (hw : WD co ge gi pa) (hn : n < 40000) (hx : x < 2 ^ 31) : CtI (σ := Unit) l yX0_afterDraw wsX0_afterDraw rm_X0_afterDraw D G [.ref d, .int (nI (eS n)), .int (nI x)] [(d, .inr (0, [.ref a0, .ref a1, .ref a2, .ref a3])), (a0, aI G 4 co), (a1, aI G 4 ge), (a2, aI G 4 gi), (a3, aI G 4 pa)] (fun r _ => ∃ k, (opL (bh co ge gi pa n))[x % (opL (bh co ge gi pa n)).length]? = some k ∧ k < 40000 ∧ r = nI (eS k)) (fun _ => [(d, .inr (0, [.ref a0, .ref a1, .ref a2, .ref a3])), (a0, aI G 4 co), (a1, aI G 4 ge), (a2, aI G 4 gi), (a3, aI G 4 pa)]) := by
  have h2 := opL_two co ge gi pa n
  have h12 := opL_len (bh co ge gi pa n)
  refine openI (maxL := 10) (by decide) rfl (Nat.le_of_ble_eq_true rfl) ?_
  intro pg ev sg mm ags bl me cd A Q F hmn rt
  refine v_lv (lz := [(0, .ref d), (1, .int (nI (eS n))), (2, .int (nI x))]) rfl ?_
  refine v_aload_n (pc' := 1) F dX0_afterDraw_0 rfl 0 rfl rfl ?_
  refine v_iload_n (pc' := 2) F dX0_afterDraw_1 rfl 1 rfl rfl ?_
  refine cVI (pc' := 5) (As := [.int (nI (eS n))]) (rest := []) (wr := []) F (c_X0_actsOpen d a0 a1 a2 a3 co ge gi pa n hw (by omega)) (cwV 1 F.2.2.2.2.1 gX0_afterDraw_X0_actsOpen rfl rfl rfl (by decide +kernel) ⟨Nat.le_of_ble_eq_true rfl, Nat.le_of_ble_eq_true rfl⟩) (v_rcvW F 0 0 rfl rfl) rfl rfl (Nat.le_of_ble_eq_true rfl) dX0_afterDraw_2 [0, 1, 2, 3, 4] [] (by decide) rfl rfl (by decide) (by decide) ⟨Nat.zero_le _, Nat.zero_le _⟩ rfl (fun r u q1 => ?_)
  obtain rfl := q1
  refine v_ws (wz := [(d, .inr (0, [.ref a0, .ref a1, .ref a2, .ref a3])), (a0, aI G 4 co), (a1, aI G 4 ge), (a2, aI G 4 gi), (a3, aI G 4 pa)]) rfl ?_
  refine v_istore_n (pc' := 6) (lv' := [(3, .int (nI ((opL (bh co ge gi pa n)).length))), (0, .ref d), (1, .int (nI (eS n))), (2, .int (nI x))]) F dX0_afterDraw_5 rfl (by decide) rfl rfl ?_
  refine v_iload_n (pc' := 7) F dX0_afterDraw_6 rfl 0 rfl rfl ?_
  refine v_nif_gt (tgt := 12) (pc' := 10) F dX0_afterDraw_7 (by omega) (by decide) rfl (fun c2 => ?_) (fun c2 => ?_)
  · refine v_iload_n (pc' := 13) F dX0_afterDraw_12 rfl 3 rfl rfl ?_
    refine v_iload_n (pc' := 14) F dX0_afterDraw_13 rfl 0 rfl rfl ?_
    refine v_irem (pc' := 15) (z := nI (x % ((opL (bh co ge gi pa n)).length))) F dX0_afterDraw_14 (nI_ne0 (by omega) (by omega)) (pk_rem (by omega) (by omega) (by omega)) rfl ?_
    refine v_istore (pc' := 17) (lv' := [(4, .int (nI (x % ((opL (bh co ge gi pa n)).length)))), (3, .int (nI ((opL (bh co ge gi pa n)).length))), (0, .ref d), (1, .int (nI (eS n))), (2, .int (nI x))]) F dX0_afterDraw_15 (by decide) rfl rfl ?_
    refine v_getsAN (pc' := 20) F dX0_afterDraw_17 (F.2.2.2.2.2.2.2.2.2.2.2.1) rfl ?_
    refine v_astore (pc' := 22) (lv' := [(5, .ref (gA G)), (4, .int (nI (x % ((opL (bh co ge gi pa n)).length)))), (3, .int (nI ((opL (bh co ge gi pa n)).length))), (0, .ref d), (1, .int (nI (eS n))), (2, .int (nI x))]) F dX0_afterDraw_20 (by decide) rfl rfl ?_
    refine v_aload (pc' := 24) F dX0_afterDraw_22 0 rfl rfl ?_
    refine v_tlenA (pc' := 25) F dX0_afterDraw_24 rfl ?_
    refine v_istore (pc' := 27) (lv' := [(6, .int (nI 12)), (5, .ref (gA G)), (4, .int (nI (x % ((opL (bh co ge gi pa n)).length)))), (3, .int (nI ((opL (bh co ge gi pa n)).length))), (0, .ref d), (1, .int (nI (eS n))), (2, .int (nI x))]) F dX0_afterDraw_25 (by decide) rfl rfl ?_
    refine v_iconst (pc' := 28) (v := nI 0) F dX0_afterDraw_27 (by decide) rfl ?_
    refine v_istore (pc' := 30) (lv' := [(7, .int (nI 0)), (6, .int (nI 12)), (5, .ref (gA G)), (4, .int (nI (x % ((opL (bh co ge gi pa n)).length)))), (3, .int (nI ((opL (bh co ge gi pa n)).length))), (0, .ref d), (1, .int (nI (eS n))), (2, .int (nI x))]) F dX0_afterDraw_28 (by decide) rfl rfl ?_
    have hml := Nat.mod_lt x (show 0 < (opL (bh co ge gi pa n)).length by omega)
    have L30 : ∀ (fu : Nat) (j : Nat) (le : Nat), j ≤ 12 → le + (opC (bh co ge gi pa n) j).length = x % (opL (bh co ge gi pa n)).length → 12 < j + fu → V pg l ev rm_X0_afterDraw sg mm ags bl me cd 0 0 Q D A 10 30 [(7, .int (nI j)), (6, .int (nI 12)), (5, .ref (gA G)), (4, .int (nI le)), (3, .int (nI ((opL (bh co ge gi pa n)).length))), (0, .ref d), (1, .int (nI (eS n))), (2, .int (nI x))] [] [(d, .inr (0, [.ref a0, .ref a1, .ref a2, .ref a3])), (a0, aI G 4 co), (a1, aI G 4 ge), (a2, aI G 4 gi), (a3, aI G 4 pa)] := by
      intro fu
      induction fu with
      | zero => intro j le hj hle hfu; exact absurd hfu (by omega)
      | succ fu ih30 =>
        intro j le hj hle hfu
        refine v_iload (pc' := 32) F dX0_afterDraw_30 0 rfl rfl ?_
        refine v_iload (pc' := 34) F dX0_afterDraw_32 1 rfl rfl ?_
        refine v_ncmp_ge (tgt := 76) (pc' := 37) F dX0_afterDraw_34 (by omega) (by omega) (by decide) rfl (fun c4 => ?_) (fun c4 => ?_)
        · refine v_iload_n (pc' := 77) F dX0_afterDraw_76 rfl 6 rfl rfl ?_
          exact rt dX0_afterDraw_77 () (absurd hle (by rw [show j = 12 by omega, opC_12]; omega)) rfl
        · refine v_aload (pc' := 39) F dX0_afterDraw_37 2 rfl rfl ?_
          refine v_iload (pc' := 41) F dX0_afterDraw_39 0 rfl rfl ?_
          refine v_tiA (pc' := 42) F dX0_afterDraw_41 (by omega) rfl ?_
          refine v_istore (pc' := 44) (lv' := [(8, .int (nI (actN j))), (7, .int (nI j)), (6, .int (nI 12)), (5, .ref (gA G)), (4, .int (nI le)), (3, .int (nI ((opL (bh co ge gi pa n)).length))), (0, .ref d), (1, .int (nI (eS n))), (2, .int (nI x))]) F dX0_afterDraw_42 (by decide) rfl rfl ?_
          refine v_aload_n (pc' := 45) F dX0_afterDraw_44 rfl 6 rfl rfl ?_
          refine v_iload_n (pc' := 46) F dX0_afterDraw_45 rfl 7 rfl rfl ?_
          refine v_iload (pc' := 48) F dX0_afterDraw_46 0 rfl rfl ?_
          have hao := (actN_ok j (by omega)).1
          have hal := (actN_ok j (by omega)).2
          refine cVI (pc' := 51) (As := [.int (nI (eS n)), .int (nI (actN j))]) (rest := []) (wr := []) F (c_X0_after d a0 a1 a2 a3 co ge gi pa n (actN j) hw (by omega) (by assumption)) (cwV 2 F.2.2.2.2.1 gX0_afterDraw_X0_after rfl rfl rfl (by decide +kernel) ⟨Nat.le_of_ble_eq_true rfl, Nat.le_of_ble_eq_true rfl⟩) (v_rcvW F 0 0 rfl rfl) rfl rfl (Nat.le_of_ble_eq_true rfl) dX0_afterDraw_48 [0, 1, 2, 3, 4] [] (by decide) rfl rfl (by decide) (by decide) ⟨Nat.zero_le _, Nat.zero_le _⟩ rfl (fun r u q5 => ?_)
          obtain rfl := q5
          refine v_ws (wz := [(d, .inr (0, [.ref a0, .ref a1, .ref a2, .ref a3])), (a0, aI G 4 co), (a1, aI G 4 ge), (a2, aI G 4 gi), (a3, aI G 4 pa)]) rfl ?_
          cases hb7 : bh co ge gi pa n (actN j) with
          | none =>
            refine v_top (oC_none rfl) ?_
            refine v_istore (pc' := 53) (lv' := [(9, .int (-1)), (8, .int (nI (actN j))), (7, .int (nI j)), (6, .int (nI 12)), (5, .ref (gA G)), (4, .int (nI le)), (3, .int (nI ((opL (bh co ge gi pa n)).length))), (0, .ref d), (1, .int (nI (eS n))), (2, .int (nI x))]) F dX0_afterDraw_51 (by decide) rfl rfl ?_
            refine v_iload (pc' := 55) F dX0_afterDraw_53 0 rfl rfl ?_
            refine v_iconst (pc' := 56) (v := (-1)) F dX0_afterDraw_55 (by decide) rfl ?_
            refine v_icmp_eq (tgt := 70) (pc' := 59) F dX0_afterDraw_56 (by decide) rfl (fun c8 => ?_) (fun c8 => ?_)
            · refine v_iinc (pc' := 73) (v := nI (j + 1)) (lv' := [(7, .int (nI (j + 1))), (9, .int (-1)), (8, .int (nI (actN j))), (6, .int (nI 12)), (5, .ref (gA G)), (4, .int (nI le)), (3, .int (nI ((opL (bh co ge gi pa n)).length))), (0, .ref d), (1, .int (nI (eS n))), (2, .int (nI x))]) F dX0_afterDraw_70 2 rfl (nI_add _ _) (by decide) rfl rfl ?_
              refine v_goto (tgt := 30) F dX0_afterDraw_73 (by decide) ?_
              refine v_lpick (lz := [(7, .int (nI (j + 1))), (6, .int (nI 12)), (5, .ref (gA G)), (4, .int (nI le)), (3, .int (nI ((opL (bh co ge gi pa n)).length))), (0, .ref d), (1, .int (nI (eS n))), (2, .int (nI x))]) [0, 3, 4, 5, 6, 7, 8, 9] rfl ?_
              exact ih30 (j + 1) le (by omega) (by rw [opC_none hb7]; exact hle) (by omega)
            · exact absurd rfl c8
          | some k6 =>
            refine v_top (oC_some rfl) ?_
            have hk := bh_lt hw hn (actN_ok j (by omega)).1 hb7
            have hks := eS_lt hk
            refine v_istore (pc' := 53) (lv' := [(9, .int (nI (eS k6))), (8, .int (nI (actN j))), (7, .int (nI j)), (6, .int (nI 12)), (5, .ref (gA G)), (4, .int (nI le)), (3, .int (nI ((opL (bh co ge gi pa n)).length))), (0, .ref d), (1, .int (nI (eS n))), (2, .int (nI x))]) F dX0_afterDraw_51 (by decide) rfl rfl ?_
            refine v_iload (pc' := 55) F dX0_afterDraw_53 0 rfl rfl ?_
            refine v_iconst (pc' := 56) (v := (-1)) F dX0_afterDraw_55 (by decide) rfl ?_
            refine v_icmp_eq (tgt := 70) (pc' := 59) F dX0_afterDraw_56 (by decide) rfl (fun c9 => ?_) (fun c9 => ?_)
            · exact absurd c9 (ni_m1 (by omega))
            · refine v_iload (pc' := 61) F dX0_afterDraw_59 5 rfl rfl ?_
              refine v_nif_ne (tgt := 67) (pc' := 64) F dX0_afterDraw_61 (by omega) (by decide) rfl (fun c10 => ?_) (fun c10 => ?_)
              · refine v_iinc (pc' := 70) (v := nI (le - 1)) (lv' := [(4, .int (nI (le - 1))), (9, .int (nI (eS k6))), (8, .int (nI (actN j))), (7, .int (nI j)), (6, .int (nI 12)), (5, .ref (gA G)), (3, .int (nI ((opL (bh co ge gi pa n)).length))), (0, .ref d), (1, .int (nI (eS n))), (2, .int (nI x))]) F dX0_afterDraw_67 5 rfl (nI_dec (d := 1) (by omega)) (by decide) rfl rfl ?_
                refine v_iinc (pc' := 73) (v := nI (j + 1)) (lv' := [(7, .int (nI (j + 1))), (4, .int (nI (le - 1))), (9, .int (nI (eS k6))), (8, .int (nI (actN j))), (6, .int (nI 12)), (5, .ref (gA G)), (3, .int (nI ((opL (bh co ge gi pa n)).length))), (0, .ref d), (1, .int (nI (eS n))), (2, .int (nI x))]) F dX0_afterDraw_70 3 rfl (nI_add _ _) (by decide) rfl rfl ?_
                refine v_goto (tgt := 30) F dX0_afterDraw_73 (by decide) ?_
                refine v_lpick (lz := [(7, .int (nI (j + 1))), (6, .int (nI 12)), (5, .ref (gA G)), (4, .int (nI (le - 1))), (3, .int (nI ((opL (bh co ge gi pa n)).length))), (0, .ref d), (1, .int (nI (eS n))), (2, .int (nI x))]) [0, 4, 5, 1, 6, 7, 8, 9] rfl ?_
                exact ih30 (j + 1) (le - 1) (by omega) (by rw [opC_some hb7, List.length_append, List.length_singleton]; omega) (by omega)
              · refine v_iload (pc' := 66) F dX0_afterDraw_64 0 rfl rfl ?_
                exact rt dX0_afterDraw_66 () ⟨k6, by rw [← hle, show le = 0 by assumption, Nat.zero_add]; exact opL_at (by omega) hb7, hk, rfl⟩ rfl
    exact L30 (12 + 1) 0 (x % ((opL (bh co ge gi pa n)).length)) (by omega) (by rw [opC_0]; rfl) (by omega)
  · exact absurd c2 (by omega)
