def rm_X7_coinsOfF : Room := { frames := 0, cells := 0, slots := 0, locals := 0 }
set_option maxHeartbeats 4000000 in
set_option maxRecDepth 100000 in
theorem c_X7_coinsOfF {l : Launch} {D : va_G} {G : gT} (n9 f9 : Nat) (hn : n9 < 40000) (hf : f9 < 24) (c : Nat) (hc : c < 4) : CtI (σ := Unit) l yX7_coinsOf wsX7_coinsOf rm_X7_coinsOfF D G [.int (nI (eS n9 + f9 * 262144)), .int (nI c)] [] (fun r _ => r = nI (dg n9 c)) (fun _ => []) := by
  have hs := eS_lt hn
  have hd := Nat.div_le_self (eS n9 + f9 * 262144) (2 ^ (6 + 3 * c))
  refine openI (maxL := 2) (by decide) rfl (Nat.le_of_ble_eq_true rfl) ?_
  intro pgZ evZ sgZ mmZ agsZ blZ meZ cdZ AZ QZ F hmn rt
  refine v_lv (lz := [(0, .int (nI (eS n9 + f9 * 262144))), (1, .int (nI c))]) rfl ?_
  refine v_iload_n (pc' := 1) F dX7_coinsOf_0 rfl 0 rfl rfl ?_
  refine v_bipush (pc' := 3) (v := nI 6) F dX7_coinsOf_1 (by decide) rfl ?_
  refine v_iconst (pc' := 4) (v := nI 3) F dX7_coinsOf_3 (by decide) rfl ?_
  refine v_iload_n (pc' := 5) F dX7_coinsOf_4 rfl 1 rfl rfl ?_
  refine v_imul (pc' := 6) (z := nI (3 * c)) F dX7_coinsOf_5 (pk_mul _ _) rfl ?_
  refine v_iadd (pc' := 7) (z := nI (6 + (3 * c))) F dX7_coinsOf_6 (nI_add _ _) rfl ?_
  refine v_ishr (pc' := 8) (z := nI ((eS n9 + f9 * 262144) / 2 ^ (6 + (3 * c)))) F dX7_coinsOf_7 (ni_shr (by omega) (by omega)) rfl ?_
  refine v_bipush (pc' := 10) (v := nI 7) F dX7_coinsOf_8 (by decide) rfl ?_
  refine v_iand (pc' := 11) (z := nI (((eS n9 + f9 * 262144) / 2 ^ (6 + (3 * c))) % 8)) F dX7_coinsOf_10 (pk_andN (by omega) 3 (by decide)) rfl ?_
  exact rt dX7_coinsOf_11 () (by rw [found_c hc, eS_coin hn hc]) rfl
def rm_X7_coinsTogetherF : Room := { frames := 1, cells := 0, slots := 0, locals := 21 }
set_option maxHeartbeats 4000000 in
set_option maxRecDepth 100000 in
theorem c_X7_coinsTogetherF {l : Launch} {D : va_G} {G : gT} (n9 f9 : Nat) (hn : n9 < 40000) (hf : f9 < 24) : CtI (σ := Unit) l yX7_coinsTogether wsX7_coinsTogether rm_X7_coinsTogetherF D G [.int (nI (eS n9 + f9 * 262144))] [] (fun r _ => r = nI (dT n9)) (fun _ => []) := by
  refine openI (maxL := 1) (by decide) rfl (Nat.le_of_ble_eq_true rfl) ?_
  intro pgZ evZ sgZ mmZ agsZ blZ meZ cdZ AZ QZ F hmn rt
  refine v_lv (lz := [(0, .int (nI (eS n9 + f9 * 262144)))]) rfl ?_
  refine v_iload_n (pc' := 1) F dX7_coinsTogether_0 rfl 0 rfl rfl ?_
  refine v_iconst (pc' := 2) (v := nI 0) F dX7_coinsTogether_1 (by decide) rfl ?_
  refine cSI0 (pc' := 5) (As := [.int (nI (eS n9 + f9 * 262144)), .int (nI 0)]) (rest := []) F (c_X7_coinsOfF n9 f9 hn hf 0 (by omega)) (va_cwS 2 F.2.2.2.2.1 gX7_coinsTogether_X7_coinsOf rfl rfl rfl (by decide +kernel) ⟨Nat.le_of_ble_eq_true rfl, Nat.le_of_ble_eq_true rfl⟩) rfl rfl (Nat.le_of_ble_eq_true rfl) dX7_coinsTogether_2 ⟨Nat.zero_le _, Nat.zero_le _⟩ rfl (fun r u q1 => ?_)
  obtain rfl := q1
  refine v_iload_n (pc' := 6) F dX7_coinsTogether_5 rfl 0 rfl rfl ?_
  refine v_iconst (pc' := 7) (v := nI 1) F dX7_coinsTogether_6 (by decide) rfl ?_
  refine cSI0 (pc' := 10) (As := [.int (nI (eS n9 + f9 * 262144)), .int (nI 1)]) (rest := [.int (nI (dg n9 0))]) F (c_X7_coinsOfF n9 f9 hn hf 1 (by omega)) (va_cwS 2 F.2.2.2.2.1 gX7_coinsTogether_X7_coinsOf rfl rfl rfl (by decide +kernel) ⟨Nat.le_of_ble_eq_true rfl, Nat.le_of_ble_eq_true rfl⟩) rfl rfl (Nat.le_of_ble_eq_true rfl) dX7_coinsTogether_7 ⟨Nat.zero_le _, Nat.zero_le _⟩ rfl (fun r u q2 => ?_)
  obtain rfl := q2
  refine v_iadd (pc' := 11) (z := nI ((dg n9 0) + (dg n9 1))) F dX7_coinsTogether_10 (nI_add _ _) rfl ?_
  refine v_iload_n (pc' := 12) F dX7_coinsTogether_11 rfl 0 rfl rfl ?_
  refine v_iconst (pc' := 13) (v := nI 2) F dX7_coinsTogether_12 (by decide) rfl ?_
  refine cSI0 (pc' := 16) (As := [.int (nI (eS n9 + f9 * 262144)), .int (nI 2)]) (rest := [.int (nI ((dg n9 0) + (dg n9 1)))]) F (c_X7_coinsOfF n9 f9 hn hf 2 (by omega)) (va_cwS 2 F.2.2.2.2.1 gX7_coinsTogether_X7_coinsOf rfl rfl rfl (by decide +kernel) ⟨Nat.le_of_ble_eq_true rfl, Nat.le_of_ble_eq_true rfl⟩) rfl rfl (Nat.le_of_ble_eq_true rfl) dX7_coinsTogether_13 ⟨Nat.zero_le _, Nat.zero_le _⟩ rfl (fun r u q3 => ?_)
  obtain rfl := q3
  refine v_iadd (pc' := 17) (z := nI (((dg n9 0) + (dg n9 1)) + (dg n9 2))) F dX7_coinsTogether_16 (nI_add _ _) rfl ?_
  refine v_iload_n (pc' := 18) F dX7_coinsTogether_17 rfl 0 rfl rfl ?_
  refine v_iconst (pc' := 19) (v := nI 3) F dX7_coinsTogether_18 (by decide) rfl ?_
  refine cSI0 (pc' := 22) (As := [.int (nI (eS n9 + f9 * 262144)), .int (nI 3)]) (rest := [.int (nI (((dg n9 0) + (dg n9 1)) + (dg n9 2)))]) F (c_X7_coinsOfF n9 f9 hn hf 3 (by omega)) (va_cwS 2 F.2.2.2.2.1 gX7_coinsTogether_X7_coinsOf rfl rfl rfl (by decide +kernel) ⟨Nat.le_of_ble_eq_true rfl, Nat.le_of_ble_eq_true rfl⟩) rfl rfl (Nat.le_of_ble_eq_true rfl) dX7_coinsTogether_19 ⟨Nat.zero_le _, Nat.zero_le _⟩ rfl (fun r u q4 => ?_)
  obtain rfl := q4
  refine v_iadd (pc' := 23) (z := nI ((((dg n9 0) + (dg n9 1)) + (dg n9 2)) + (dg n9 3))) F dX7_coinsTogether_22 (nI_add _ _) rfl ?_
  exact rt dX7_coinsTogether_23 () rfl rfl
def rm_X6_standingAt : Room := { frames := 0, cells := 0, slots := 0, locals := 0 }
theorem in_X6_standingAt_X6 : ∀ w ∈ u_ws RX6 TX6 6, w ∈ wsX6_standingAt := fun w h => List.mem_cons_of_mem _ (List.mem_append_right _ (h))
set_option maxHeartbeats 4000000 in
set_option maxRecDepth 100000 in
theorem c_X6_standingAt {l : Launch} {D : va_G} {G : gT} (se sea sef fc ls le dp : Nat) (fd : Nat → Nat) (i n9 f9 : Nat) (hi : i < 40000) (hfd : fd i = eS n9 + f9 * 262144) (hn : n9 < 40000) (hf : f9 < 24) : CtI (σ := Unit) l yX6_standingAt wsX6_standingAt rm_X6_standingAt D G [.ref se, .int (nI i)] [(se, .inr (5, [.ref sea, .ref sef, .int (nI fc), .int (nI ls), .int (nI le), .int (nI dp)])), (sef, aI G 40000 fd)] (fun r _ => r = nI (eS n9)) (fun _ => [(se, .inr (5, [.ref sea, .ref sef, .int (nI fc), .int (nI ls), .int (nI le), .int (nI dp)])), (sef, aI G 40000 fd)]) := by
  have hs := eS_lt hn
  refine openI (maxL := 2) (by decide) rfl (Nat.le_of_ble_eq_true rfl) ?_
  intro pgZ evZ sgZ mmZ agsZ blZ meZ cdZ AZ QZ F hmn rt
  refine v_lv (lz := [(0, .ref se), (1, .int (nI i))]) rfl ?_
  refine v_aload_n (pc' := 1) F dX6_standingAt_0 rfl 0 rfl rfl ?_
  refine v_get (pc' := 4) (C := RX6) (T := TX6) (N := 6) F dX6_standingAt_1 in_X6_standingAt_X6 0 rfl rfl 1 (by decide) (List.mem_of_getElem? (i := 1) rfl) rfl rfl ?_
  refine v_iload_n (pc' := 5) F dX6_standingAt_4 rfl 1 rfl rfl ?_
  refine v_iald (pc' := 6) (z := fd i) F dX6_standingAt_5 1 rfl (by omega) (by first | decide | omega) rfl rfl ?_
  refine v_ldc (pc' := 8) (v := nI 262143) F dX6_standingAt_6 (List.mem_of_getElem? (i := 2) rfl) rfl ?_
  refine v_iand (pc' := 9) (z := nI ((fd i) % 262144)) F dX6_standingAt_8 (pk_andN (by omega) 18 (by decide)) rfl ?_
  exact rt dX6_standingAt_9 () (by rw [hfd]; congr 1; omega) rfl
def rm_X6_firstActTo : Room := { frames := 0, cells := 0, slots := 0, locals := 0 }
theorem in_X6_firstActTo_X6 : ∀ w ∈ u_ws RX6 TX6 6, w ∈ wsX6_firstActTo := fun w h => List.mem_cons_of_mem _ (List.mem_append_right _ (h))
set_option maxHeartbeats 4000000 in
set_option maxRecDepth 100000 in
theorem c_X6_firstActTo {l : Launch} {D : va_G} {G : gT} (se sea sef fc ls le dp : Nat) (fd : Nat → Nat) (i a9 n9 f9 : Nat) (hi : i < 40000) (hfd : fd i = eS n9 + f9 * 262144) (hn : n9 < 40000) (hf : f9 < 24) (hdi : dp = 0 ↔ i = 0) (hd : dp < 2 ^ 31) : CtI (σ := Unit) l yX6_firstActTo wsX6_firstActTo rm_X6_firstActTo D G [.ref se, .int (nI i), .int (nI a9)] [(se, .inr (5, [.ref sea, .ref sef, .int (nI fc), .int (nI ls), .int (nI le), .int (nI dp)])), (sef, aI G 40000 fd)] (fun r _ => r = nI (if i = 0 then a9 else f9)) (fun _ => [(se, .inr (5, [.ref sea, .ref sef, .int (nI fc), .int (nI ls), .int (nI le), .int (nI dp)])), (sef, aI G 40000 fd)]) := by
  have hs := eS_lt hn
  refine openI (maxL := 3) (by decide) rfl (Nat.le_of_ble_eq_true rfl) ?_
  intro pgZ evZ sgZ mmZ agsZ blZ meZ cdZ AZ QZ F hmn rt
  refine v_lv (lz := [(0, .ref se), (1, .int (nI i)), (2, .int (nI a9))]) rfl ?_
  refine v_aload_n (pc' := 1) F dX6_firstActTo_0 rfl 0 rfl rfl ?_
  refine v_get (pc' := 4) (C := RX6) (T := TX6) (N := 6) F dX6_firstActTo_1 in_X6_firstActTo_X6 0 rfl rfl 5 (by decide) (List.mem_of_getElem? (i := 1) rfl) rfl rfl ?_
  refine v_nif_ne (tgt := 11) (pc' := 7) F dX6_firstActTo_4 (by omega) (by decide) rfl (fun c1 => ?_) (fun c1 => ?_)
  · refine v_aload_n (pc' := 12) F dX6_firstActTo_11 rfl 0 rfl rfl ?_
    refine v_get (pc' := 15) (C := RX6) (T := TX6) (N := 6) F dX6_firstActTo_12 in_X6_firstActTo_X6 0 rfl rfl 1 (by decide) (List.mem_of_getElem? (i := 2) rfl) rfl rfl ?_
    refine v_iload_n (pc' := 16) F dX6_firstActTo_15 rfl 1 rfl rfl ?_
    refine v_iald (pc' := 17) (z := fd i) F dX6_firstActTo_16 1 rfl (by omega) (by first | decide | omega) rfl rfl ?_
    refine v_bipush (pc' := 19) (v := nI 18) F dX6_firstActTo_17 (by decide) rfl ?_
    refine v_ishr (pc' := 20) (z := nI ((fd i) / 2 ^ 18)) F dX6_firstActTo_19 (ni_shr (by omega) (by omega)) rfl ?_
    exact rt dX6_firstActTo_20 () (by rw [if_neg (by omega), hfd]; congr 1; omega) rfl
  · refine v_iload_n (pc' := 8) F dX6_firstActTo_7 rfl 2 rfl rfl ?_
    refine v_goto (tgt := 20) F dX6_firstActTo_8 (by decide) ?_
    exact rt dX6_firstActTo_20 () (by rw [if_pos (by omega)]) rfl
def rm_X6_find : Room := { frames := 0, cells := 0, slots := 0, locals := 0 }
theorem in_X6_find_X6 : ∀ w ∈ u_ws RX6 TX6 6, w ∈ wsX6_find := fun w h => List.mem_cons_of_mem _ (List.mem_append_right _ (h))
set_option maxHeartbeats 4000000 in
set_option maxRecDepth 100000 in
theorem c_X6_find {l : Launch} {D : va_G} {G : gT} (se sea sef ls le dp : Nat) (sn fd : Nat → Nat) (Q : qT) (hm : SM sn fd Q) (hQ : QI Q) (k a9 : Nat) (hk : k < 40000) (ha : a9 < 24) : CtV (σ := (Nat → Nat) × (Nat → Nat)) l yX6_find wsX6_find rm_X6_find D G [.ref se, .int (nI (eS k)), .int (nI a9)] [(se, .inr (5, [.ref sea, .ref sef, .int (nI Q.length), .int (nI ls), .int (nI le), .int (nI dp)])), (sea, aI G 8192 sn), (sef, aI G 40000 fd)] (fun u => SM (u.1) (u.2) (ins Q k a9)) (fun u => [(se, .inr (5, [.ref sea, .ref sef, .int (nI ((ins Q k a9).length)), .int (nI ls), .int (nI le), .int (nI dp)])), (sea, aI G 8192 (u.1)), (sef, aI G 40000 (u.2))]) := by
  have hs := eS_lt hk
  have hsq := SM_q hm hQ hk
  have hql := QI_len hQ
  have hwl := hm.2.1 (eS k / 32) (by omega)
  refine openV (maxL := 5) (by decide) rfl (Nat.le_of_ble_eq_true rfl) ?_
  intro pgZ evZ sgZ mmZ agsZ blZ meZ cdZ AZ QZ F hmn rt
  refine v_lv (lz := [(0, .ref se), (1, .int (nI (eS k))), (2, .int (nI a9))]) rfl ?_
  refine v_iload_n (pc' := 1) F dX6_find_0 rfl 1 rfl rfl ?_
  refine v_iconst (pc' := 2) (v := nI 5) F dX6_find_1 (by decide) rfl ?_
  refine v_ishr (pc' := 3) (z := nI ((eS k) / 2 ^ 5)) F dX6_find_2 (ni_shr (by omega) (by omega)) rfl ?_
  refine v_aload_n (pc' := 4) F dX6_find_3 rfl 0 rfl rfl ?_
  refine v_get (pc' := 7) (C := RX6) (T := TX6) (N := 6) F dX6_find_4 in_X6_find_X6 0 rfl rfl 0 (by decide) (List.mem_of_getElem? (i := 1) rfl) rfl rfl ?_
  refine v_ilen (pc' := 8) F dX6_find_7 1 rfl rfl ?_
  refine v_iconst (pc' := 9) (v := nI 1) F dX6_find_8 (by decide) rfl ?_
  refine v_isub (pc' := 10) (z := nI (8192 - 1)) F dX6_find_9 (pk_sub (by omega)) rfl ?_
  refine v_iand (pc' := 11) (z := nI (eS k / 32)) F dX6_find_10 (wd_and hs) rfl ?_
  refine v_istore_n (pc' := 12) (lv' := [(3, .int (nI (eS k / 32))), (0, .ref se), (1, .int (nI (eS k))), (2, .int (nI a9))]) F dX6_find_11 rfl (by decide) rfl rfl ?_
  refine v_iconst (pc' := 13) (v := nI 1) F dX6_find_12 (by decide) rfl ?_
  refine v_iload_n (pc' := 14) F dX6_find_13 rfl 2 rfl rfl ?_
  refine v_bipush (pc' := 16) (v := nI 31) F dX6_find_14 (by decide) rfl ?_
  refine v_iand (pc' := 17) (z := nI ((eS k) % 32)) F dX6_find_16 (pk_andN (by omega) 5 (by decide)) rfl ?_
  refine v_ishl (pc' := 18) (z := nI (1 * 2 ^ (eS k % 32))) F dX6_find_17 (ni_shl (Nat.mod_lt _ (by decide)) (b32_lt _)) rfl ?_
  refine v_istore (pc' := 20) (lv' := [(4, .int (nI (1 * 2 ^ (eS k % 32)))), (3, .int (nI (eS k / 32))), (0, .ref se), (1, .int (nI (eS k))), (2, .int (nI a9))]) F dX6_find_18 (by decide) rfl rfl ?_
  refine v_aload_n (pc' := 21) F dX6_find_20 rfl 2 rfl rfl ?_
  refine v_get (pc' := 24) (C := RX6) (T := TX6) (N := 6) F dX6_find_21 in_X6_find_X6 0 rfl rfl 0 (by decide) (List.mem_of_getElem? (i := 1) rfl) rfl rfl ?_
  refine v_iload_n (pc' := 25) F dX6_find_24 rfl 1 rfl rfl ?_
  refine v_iald (pc' := 26) (z := sn (eS k / 32)) F dX6_find_25 1 rfl (by omega) (by first | decide | omega) rfl rfl ?_
  refine v_iload (pc' := 28) F dX6_find_26 0 rfl rfl ?_
  refine v_iand (pc' := 29) (z := nI (sn (eS k / 32) &&& 1 * 2 ^ (eS k % 32))) F dX6_find_28 (ni_and _ _) rfl ?_
  refine v_if_ne (tgt := 80) (pc' := 32) F dX6_find_29 (by decide) rfl (fun c1 => ?_) (fun c1 => ?_)
  · have hin : inQ Q k := by rw [← hsq]; exact Decidable.not_not.mp (fun z => c1 ((bit_t (Nat.mod_lt _ (by decide))).mpr z))
    refine v_ws (wz := [(se, .inr (5, [.ref sea, .ref sef, .int (nI ((ins Q k a9).length)), .int (nI ls), .int (nI le), .int (nI dp)])), (sea, aI G 8192 sn), (sef, aI G 40000 fd)]) (by rw [ins_old hin]) ?_
    exact rt dX6_find_80 (sn, fd) (by rw [ins_old hin]; exact hm) rfl
  · have hin : ¬ inQ Q k := fun z => (bit_t (Nat.mod_lt _ (by decide))).mp c1 (hsq.mpr z)
    have hnew := QI_new hQ hk ha hin
    refine v_aload_n (pc' := 33) F dX6_find_32 rfl 2 rfl rfl ?_
    refine v_get (pc' := 36) (C := RX6) (T := TX6) (N := 6) F dX6_find_33 in_X6_find_X6 0 rfl rfl 2 (by decide) (List.mem_of_getElem? (i := 2) rfl) rfl rfl ?_
    refine v_aload_n (pc' := 37) F dX6_find_36 rfl 2 rfl rfl ?_
    refine v_get (pc' := 40) (C := RX6) (T := TX6) (N := 6) F dX6_find_37 in_X6_find_X6 0 rfl rfl 1 (by decide) (List.mem_of_getElem? (i := 3) rfl) rfl rfl ?_
    refine v_ilen (pc' := 41) F dX6_find_40 2 rfl rfl ?_
    refine v_ncmp_ge (tgt := 80) (pc' := 44) F dX6_find_41 (by omega) (by omega) (by decide) rfl (fun c2 => ?_) (fun c2 => ?_)
    · exact absurd c2 (by omega)
    · refine v_aload_n (pc' := 45) F dX6_find_44 rfl 2 rfl rfl ?_
      refine v_get (pc' := 48) (C := RX6) (T := TX6) (N := 6) F dX6_find_45 in_X6_find_X6 0 rfl rfl 0 (by decide) (List.mem_of_getElem? (i := 1) rfl) rfl rfl ?_
      refine v_iload_n (pc' := 49) F dX6_find_48 rfl 1 rfl rfl ?_
      refine v_dup2 (pc' := 50) F dX6_find_49 rfl rfl rfl ?_
      refine v_iald (pc' := 51) (z := sn (eS k / 32)) F dX6_find_50 1 rfl (by omega) (by first | decide | omega) rfl rfl ?_
      refine v_iload (pc' := 53) F dX6_find_51 0 rfl rfl ?_
      refine v_ior (pc' := 54) (z := nI ((sn (eS k / 32)) ||| (1 * 2 ^ (eS k % 32)))) F dX6_find_53 (ni_or _ _) rfl ?_
      refine v_iast (pc' := 55) (ws' := [(se, .inr (5, [.ref sea, .ref sef, .int (nI Q.length), .int (nI ls), .int (nI le), .int (nI dp)])), (sea, aI G 8192 (va_up sn (eS k / 32) ((sn (eS k / 32)) ||| (1 * 2 ^ (eS k % 32))))), (sef, aI G 40000 fd)]) F dX6_find_54 1 rfl (by omega) (by first | decide | omega) rfl rfl ?_
      refine v_aload_n (pc' := 56) F dX6_find_55 rfl 2 rfl rfl ?_
      refine v_get (pc' := 59) (C := RX6) (T := TX6) (N := 6) F dX6_find_56 in_X6_find_X6 0 rfl rfl 1 (by decide) (List.mem_of_getElem? (i := 3) rfl) rfl rfl ?_
      refine v_aload_n (pc' := 60) F dX6_find_59 rfl 2 rfl rfl ?_
      refine v_get (pc' := 63) (C := RX6) (T := TX6) (N := 6) F dX6_find_60 in_X6_find_X6 0 rfl rfl 2 (by decide) (List.mem_of_getElem? (i := 2) rfl) rfl rfl ?_
      refine v_iload_n (pc' := 64) F dX6_find_63 rfl 3 rfl rfl ?_
      refine v_iload_n (pc' := 65) F dX6_find_64 rfl 4 rfl rfl ?_
      refine v_bipush (pc' := 67) (v := nI 18) F dX6_find_65 (by decide) rfl ?_
      refine v_ishl (pc' := 68) (z := nI (a9 * 2 ^ 18)) F dX6_find_67 (ni_shl (by omega) (by omega)) rfl ?_
      refine v_ior (pc' := 69) (z := nI (eS k + a9 * 262144)) F dX6_find_68 (by rw [ni_or, or_f hs]) rfl ?_
      refine v_iast (pc' := 70) (ws' := [(se, .inr (5, [.ref sea, .ref sef, .int (nI Q.length), .int (nI ls), .int (nI le), .int (nI dp)])), (sea, aI G 8192 (va_up sn (eS k / 32) ((sn (eS k / 32)) ||| (1 * 2 ^ (eS k % 32))))), (sef, aI G 40000 (va_up fd Q.length (eS k + a9 * 262144)))]) F dX6_find_69 2 rfl (by omega) (by first | decide | omega) rfl rfl ?_
      refine v_aload_n (pc' := 71) F dX6_find_70 rfl 2 rfl rfl ?_
      refine v_dup (pc' := 72) F dX6_find_71 rfl rfl ?_
      refine v_get (pc' := 75) (C := RX6) (T := TX6) (N := 6) F dX6_find_72 in_X6_find_X6 0 rfl rfl 2 (by decide) (List.mem_of_getElem? (i := 2) rfl) rfl rfl ?_
      refine v_iconst (pc' := 76) (v := nI 1) F dX6_find_75 (by decide) rfl ?_
      refine v_iadd (pc' := 77) (z := nI (Q.length + 1)) F dX6_find_76 (nI_add _ _) rfl ?_
      refine v_put (pc' := 80) (ws' := [(se, .inr (5, [.ref sea, .ref sef, .int (nI (Q.length + 1)), .int (nI ls), .int (nI le), .int (nI dp)])), (sea, aI G 8192 (va_up sn (eS k / 32) ((sn (eS k / 32)) ||| (1 * 2 ^ (eS k % 32))))), (sef, aI G 40000 (va_up fd Q.length (eS k + a9 * 262144)))]) (C := RX6) (T := TX6) (N := 6) F dX6_find_77 in_X6_find_X6 tyX6_ok nmX6 0 rfl rfl 2 (by decide) (List.mem_of_getElem? (i := 2) rfl) rfl rfl rfl (Nat.le_of_ble_eq_true rfl) rfl rfl ?_
      refine v_ws (wz := [(se, .inr (5, [.ref sea, .ref sef, .int (nI ((ins Q k a9).length)), .int (nI ls), .int (nI le), .int (nI dp)])), (sea, aI G 8192 (va_up sn (eS k / 32) ((sn (eS k / 32)) ||| (1 * 2 ^ (eS k % 32))))), (sef, aI G 40000 (va_up fd Q.length (eS k + a9 * 262144)))]) (by rw [ins_new hin, List.length_append]; rfl) ?_
      exact rt dX6_find_80 (va_up sn (eS k / 32) ((sn (eS k / 32)) ||| (1 * 2 ^ (eS k % 32))), va_up fd Q.length (eS k + a9 * 262144)) (SM_ins hm hQ hk hin) rfl
def rm_X6_begin : Room := { frames := 1, cells := 0, slots := 0, locals := 24 }
theorem in_X6_begin_X6 : ∀ w ∈ u_ws RX6 TX6 6, w ∈ wsX6_begin := fun w h => List.mem_cons_of_mem _ (List.mem_append_right _ (h))
set_option maxHeartbeats 4000000 in
set_option maxRecDepth 100000 in
theorem c_X6_begin {l : Launch} {D : va_G} {G : gT} (se sea sef fc ls le dp : Nat) (sn fd : Nat → Nat) (s9 : Nat) (hs9 : s9 < 40000) : CtV (σ := (Nat → Nat) × (Nat → Nat)) l yX6_begin wsX6_begin rm_X6_begin D G [.ref se, .int (nI (eS s9))] [(se, .inr (5, [.ref sea, .ref sef, .int (nI fc), .int (nI ls), .int (nI le), .int (nI dp)])), (sea, aI G 8192 sn), (sef, aI G 40000 fd)] (fun u => SM (u.1) (u.2) [(s9, 0)]) (fun u => [(se, .inr (5, [.ref sea, .ref sef, .int (nI 1), .int (nI 0), .int (nI 1), .int (nI 0)])), (sea, aI G 8192 (u.1)), (sef, aI G 40000 (u.2))]) := by
  refine openV (maxL := 2) (by decide) rfl (Nat.le_of_ble_eq_true rfl) ?_
  intro pgZ evZ sgZ mmZ agsZ blZ meZ cdZ AZ QZ F hmn rt
  refine v_lv (lz := [(0, .ref se), (1, .int (nI (eS s9)))]) rfl ?_
  refine v_aload_n (pc' := 1) F dX6_begin_0 rfl 0 rfl rfl ?_
  refine v_get (pc' := 4) (C := RX6) (T := TX6) (N := 6) F dX6_begin_1 in_X6_begin_X6 0 rfl rfl 0 (by decide) (List.mem_of_getElem? (i := 1) rfl) rfl rfl ?_
  refine v_iconst (pc' := 5) (v := nI 0) F dX6_begin_4 (by decide) rfl ?_
  refine cSV (pc' := 8) (As := [.ref sea, .int (nI 0)]) (rest := []) (wr := [(se, .inr (5, [.ref sea, .ref sef, .int (nI fc), .int (nI ls), .int (nI le), .int (nI dp)])), (sef, aI G 40000 fd)]) F (c_J7_fill_53178 sea 8192 0 sn (by omega)) (va_cwS 2 F.2.2.2.2.1 gX6_begin_J7_fill_53178 rfl rfl rfl (by decide +kernel) ⟨Nat.le_of_ble_eq_true rfl, Nat.le_of_ble_eq_true rfl⟩) rfl rfl (Nat.le_of_ble_eq_true rfl) dX6_begin_5 [1] [0, 2] (by decide) rfl rfl (by decide) (by decide) ⟨Nat.zero_le _, Nat.zero_le _⟩ rfl (fun u q1 => ?_)
  refine v_ws (wz := [(se, .inr (5, [.ref sea, .ref sef, .int (nI fc), .int (nI ls), .int (nI le), .int (nI dp)])), (sef, aI G 40000 fd), (sea, aI G 8192 (cpy (fun _ => 0) sn 8192))]) rfl ?_
  refine v_aI (ws' := [(se, .inr (5, [.ref sea, .ref sef, .int (nI fc), .int (nI ls), .int (nI le), .int (nI dp)])), (sef, aI G 40000 fd), (sea, aI G 8192 zN)]) 2 rfl cpy_z rfl ?_
  refine v_aload_n (pc' := 9) F dX6_begin_8 rfl 0 rfl rfl ?_
  refine v_iconst (pc' := 10) (v := nI 0) F dX6_begin_9 (by decide) rfl ?_
  refine v_put (pc' := 13) (ws' := [(se, .inr (5, [.ref sea, .ref sef, .int (nI 0), .int (nI ls), .int (nI le), .int (nI dp)])), (sef, aI G 40000 fd), (sea, aI G 8192 zN)]) (C := RX6) (T := TX6) (N := 6) F dX6_begin_10 in_X6_begin_X6 tyX6_ok nmX6 0 rfl rfl 2 (by decide) (List.mem_of_getElem? (i := 2) rfl) rfl rfl rfl (Nat.le_of_ble_eq_true rfl) rfl rfl ?_
  refine v_aload_n (pc' := 14) F dX6_begin_13 rfl 0 rfl rfl ?_
  refine v_iconst (pc' := 15) (v := nI 0) F dX6_begin_14 (by decide) rfl ?_
  refine v_put (pc' := 18) (ws' := [(se, .inr (5, [.ref sea, .ref sef, .int (nI 0), .int (nI ls), .int (nI le), .int (nI 0)])), (sef, aI G 40000 fd), (sea, aI G 8192 zN)]) (C := RX6) (T := TX6) (N := 6) F dX6_begin_15 in_X6_begin_X6 tyX6_ok nmX6 0 rfl rfl 5 (by decide) (List.mem_of_getElem? (i := 3) rfl) rfl rfl rfl (Nat.le_of_ble_eq_true rfl) rfl rfl ?_
  refine v_aload_n (pc' := 19) F dX6_begin_18 rfl 0 rfl rfl ?_
  refine v_iload_n (pc' := 20) F dX6_begin_19 rfl 1 rfl rfl ?_
  refine v_iconst (pc' := 21) (v := nI 0) F dX6_begin_20 (by decide) rfl ?_
  refine v_ws (wz := [(se, .inr (5, [.ref sea, .ref sef, .int (nI (([] : qT).length)), .int (nI ls), .int (nI le), .int (nI 0)])), (sef, aI G 40000 fd), (sea, aI G 8192 zN)]) rfl ?_
  refine cVV (pc' := 24) (As := [.int (nI (eS s9)), .int (nI 0)]) (rest := []) (wr := []) F (c_X6_find se sea sef ls le 0 zN fd ([] : qT) (SM_0 _) (⟨fun p hp => absurd hp List.not_mem_nil, List.nodup_nil⟩) s9 0 (by omega) (by omega)) (cwV 2 F.2.2.2.2.1 gX6_begin_X6_find rfl rfl rfl (by decide +kernel) ⟨Nat.le_of_ble_eq_true rfl, Nat.le_of_ble_eq_true rfl⟩) (v_rcvW F 5 0 rfl rfl) rfl rfl (Nat.le_of_ble_eq_true rfl) dX6_begin_21 [0, 2, 1] [] (by decide) rfl rfl (by decide) (by decide) ⟨Nat.zero_le _, Nat.zero_le _⟩ rfl (fun u q5 => ?_)
  obtain ⟨sn2_2, fd2_3⟩ := u
  have hM_4 := q5
  refine v_ws (wz := [(se, .inr (5, [.ref sea, .ref sef, .int (nI ((ins ([] : qT) s9 0).length)), .int (nI ls), .int (nI le), .int (nI 0)])), (sea, aI G 8192 sn2_2), (sef, aI G 40000 fd2_3)]) rfl ?_
  refine v_ws (wz := [(se, .inr (5, [.ref sea, .ref sef, .int (nI 1), .int (nI ls), .int (nI le), .int (nI 0)])), (sea, aI G 8192 sn2_2), (sef, aI G 40000 fd2_3)]) rfl ?_
  refine v_aload_n (pc' := 25) F dX6_begin_24 rfl 0 rfl rfl ?_
  refine v_iconst (pc' := 26) (v := nI 0) F dX6_begin_25 (by decide) rfl ?_
  refine v_put (pc' := 29) (ws' := [(se, .inr (5, [.ref sea, .ref sef, .int (nI 1), .int (nI 0), .int (nI le), .int (nI 0)])), (sea, aI G 8192 sn2_2), (sef, aI G 40000 fd2_3)]) (C := RX6) (T := TX6) (N := 6) F dX6_begin_26 in_X6_begin_X6 tyX6_ok nmX6 0 rfl rfl 3 (by decide) (List.mem_of_getElem? (i := 4) rfl) rfl rfl rfl (Nat.le_of_ble_eq_true rfl) rfl rfl ?_
  refine v_aload_n (pc' := 30) F dX6_begin_29 rfl 0 rfl rfl ?_
  refine v_aload_n (pc' := 31) F dX6_begin_30 rfl 0 rfl rfl ?_
  refine v_get (pc' := 34) (C := RX6) (T := TX6) (N := 6) F dX6_begin_31 in_X6_begin_X6 0 rfl rfl 2 (by decide) (List.mem_of_getElem? (i := 2) rfl) rfl rfl ?_
  refine v_put (pc' := 37) (ws' := [(se, .inr (5, [.ref sea, .ref sef, .int (nI 1), .int (nI 0), .int (nI 1), .int (nI 0)])), (sea, aI G 8192 sn2_2), (sef, aI G 40000 fd2_3)]) (C := RX6) (T := TX6) (N := 6) F dX6_begin_34 in_X6_begin_X6 tyX6_ok nmX6 0 rfl rfl 4 (by decide) (List.mem_of_getElem? (i := 5) rfl) rfl rfl rfl (Nat.le_of_ble_eq_true rfl) rfl rfl ?_
  exact rt dX6_begin_37 (sn2_2, fd2_3) (hM_4) rfl
def rm_X6_deepen : Room := { frames := 3, cells := 0, slots := 0, locals := 69 }
theorem in_X6_deepen_X6 : ∀ w ∈ u_ws RX6 TX6 6, w ∈ wsX6_deepen := fun w h => List.mem_cons_of_mem _ (List.mem_append_left _ (List.mem_append_right _ (h)))
set_option maxHeartbeats 4000000 in
set_option maxRecDepth 100000 in
theorem c_X6_deepen {l : Launch} {D : va_G} {G : gT} (se sea sef ls dp : Nat) (sn fd : Nat → Nat) (s : Nat) (hs9 : s < 40000) (d a0 a1 a2 a3 : Nat) (co ge gi pa : Nat → Nat) (hw : WD co ge gi pa) (hm : SM sn fd (qS (bh co ge gi pa) s ls)) (hls : ls ≤ 40000) (hdp : dp < 2 ^ 30) (hd : (dp = 0 ∧ ls = 0) ∨ (0 < dp ∧ 0 < ls)) (hll : ls ≤ (qS (bh co ge gi pa) s ls).length) : CtV (σ := (Nat → Nat) × (Nat → Nat)) l yX6_deepen wsX6_deepen rm_X6_deepen D G [.ref se, .ref d] [(se, .inr (5, [.ref sea, .ref sef, .int (nI ((qS (bh co ge gi pa) s ls).length)), .int (nI ls), .int (nI ((qS (bh co ge gi pa) s ls).length)), .int (nI dp)])), (sea, aI G 8192 sn), (sef, aI G 40000 fd), (d, .inr (0, [.ref a0, .ref a1, .ref a2, .ref a3])), (a0, aI G 4 co), (a1, aI G 4 ge), (a2, aI G 4 gi), (a3, aI G 4 pa)] (fun u => SM (u.1) (u.2) (qS (bh co ge gi pa) s (qS (bh co ge gi pa) s ls).length)) (fun u => [(se, .inr (5, [.ref sea, .ref sef, .int (nI ((qS (bh co ge gi pa) s (qS (bh co ge gi pa) s ls).length).length)), .int (nI ((qS (bh co ge gi pa) s ls).length)), .int (nI ((qS (bh co ge gi pa) s (qS (bh co ge gi pa) s ls).length).length)), .int (nI (dp + 1))])), (sea, aI G 8192 (u.1)), (sef, aI G 40000 (u.2)), (d, .inr (0, [.ref a0, .ref a1, .ref a2, .ref a3])), (a0, aI G 4 co), (a1, aI G 4 ge), (a2, aI G 4 gi), (a3, aI G 4 pa)]) := by
  have hGB : GB (bh co ge gi pa) := GB_d hw
  have hqi := fun m => qS_QI hGB hs9 m
  have hlen := fun m => QI_len (hqi m)
  have hle := hlen ls
  have hl0 : ls = 0 → (qS (bh co ge gi pa) s ls).length = 1 := fun q => by rw [q]; rfl
  refine openV (maxL := 9) (by decide) rfl (Nat.le_of_ble_eq_true rfl) ?_
  intro pgZ evZ sgZ mmZ agsZ blZ meZ cdZ AZ QZ F hmn rt
  refine v_lv (lz := [(0, .ref se), (1, .ref d)]) rfl ?_
  refine v_aload_n (pc' := 1) F dX6_deepen_0 rfl 0 rfl rfl ?_
  refine v_get (pc' := 4) (C := RX6) (T := TX6) (N := 6) F dX6_deepen_1 in_X6_deepen_X6 0 rfl rfl 3 (by decide) (List.mem_of_getElem? (i := 1) rfl) rfl rfl ?_
  refine v_istore_n (pc' := 5) (lv' := [(2, .int (nI ls)), (0, .ref se), (1, .ref d)]) F dX6_deepen_4 rfl (by decide) rfl rfl ?_
  have L5 : ∀ (fu : Nat) (i : Nat) (f1 : Nat → Nat) (f2 : Nat → Nat), (i ≤ (qS (bh co ge gi pa) s ls).length) → (ls ≤ i) → (SM f1 f2 (qS (bh co ge gi pa) s i)) → (qS (bh co ge gi pa) s ls).length < i + fu → V pgZ l evZ rm_X6_deepen sgZ mmZ agsZ blZ meZ cdZ 0 0 QZ D AZ 9 5 [(2, .int (nI i)), (0, .ref se), (1, .ref d)] [] [(se, .inr (5, [.ref sea, .ref sef, .int (nI ((qS (bh co ge gi pa) s i).length)), .int (nI ls), .int (nI ((qS (bh co ge gi pa) s ls).length)), .int (nI dp)])), (sea, aI G 8192 f1), (sef, aI G 40000 f2), (d, .inr (0, [.ref a0, .ref a1, .ref a2, .ref a3])), (a0, aI G 4 co), (a1, aI G 4 ge), (a2, aI G 4 gi), (a3, aI G 4 pa)] := by
    intro fu
    induction fu with
    | zero => intro i f1 f2 hi hil hM1 hfu; exact absurd hfu (by omega)
    | succ fu ih5 =>
      intro i f1 f2 hi hil hM1 hfu
      refine v_iload_n (pc' := 6) F dX6_deepen_5 rfl 0 rfl rfl ?_
      refine v_aload_n (pc' := 7) F dX6_deepen_6 rfl 1 rfl rfl ?_
      refine v_get (pc' := 10) (C := RX6) (T := TX6) (N := 6) F dX6_deepen_7 in_X6_deepen_X6 0 rfl rfl 4 (by decide) (List.mem_of_getElem? (i := 2) rfl) rfl rfl ?_
      refine v_ncmp_ge (tgt := 86) (pc' := 13) F dX6_deepen_10 (by omega) (by omega) (by decide) rfl (fun c2 => ?_) (fun c2 => ?_)
      · have hiL : i = (qS (bh co ge gi pa) s ls).length := by omega
        refine v_ws (wz := [(se, .inr (5, [.ref sea, .ref sef, .int (nI ((qS (bh co ge gi pa) s (qS (bh co ge gi pa) s ls).length).length)), .int (nI ls), .int (nI ((qS (bh co ge gi pa) s ls).length)), .int (nI dp)])), (sea, aI G 8192 f1), (sef, aI G 40000 f2), (d, .inr (0, [.ref a0, .ref a1, .ref a2, .ref a3])), (a0, aI G 4 co), (a1, aI G 4 ge), (a2, aI G 4 gi), (a3, aI G 4 pa)]) (by rw [hiL]) ?_
        refine v_aload_n (pc' := 87) F dX6_deepen_86 rfl 1 rfl rfl ?_
        refine v_aload_n (pc' := 88) F dX6_deepen_87 rfl 1 rfl rfl ?_
        refine v_get (pc' := 91) (C := RX6) (T := TX6) (N := 6) F dX6_deepen_88 in_X6_deepen_X6 0 rfl rfl 4 (by decide) (List.mem_of_getElem? (i := 2) rfl) rfl rfl ?_
        refine v_put (pc' := 94) (ws' := [(se, .inr (5, [.ref sea, .ref sef, .int (nI ((qS (bh co ge gi pa) s (qS (bh co ge gi pa) s ls).length).length)), .int (nI ((qS (bh co ge gi pa) s ls).length)), .int (nI ((qS (bh co ge gi pa) s ls).length)), .int (nI dp)])), (sea, aI G 8192 f1), (sef, aI G 40000 f2), (d, .inr (0, [.ref a0, .ref a1, .ref a2, .ref a3])), (a0, aI G 4 co), (a1, aI G 4 ge), (a2, aI G 4 gi), (a3, aI G 4 pa)]) (C := RX6) (T := TX6) (N := 6) F dX6_deepen_91 in_X6_deepen_X6 tyX6_ok nmX6 0 rfl rfl 3 (by decide) (List.mem_of_getElem? (i := 1) rfl) rfl rfl rfl (Nat.le_of_ble_eq_true rfl) rfl rfl ?_
        refine v_aload_n (pc' := 95) F dX6_deepen_94 rfl 1 rfl rfl ?_
        refine v_aload_n (pc' := 96) F dX6_deepen_95 rfl 1 rfl rfl ?_
        refine v_get (pc' := 99) (C := RX6) (T := TX6) (N := 6) F dX6_deepen_96 in_X6_deepen_X6 0 rfl rfl 2 (by decide) (List.mem_of_getElem? (i := 3) rfl) rfl rfl ?_
        refine v_put (pc' := 102) (ws' := [(se, .inr (5, [.ref sea, .ref sef, .int (nI ((qS (bh co ge gi pa) s (qS (bh co ge gi pa) s ls).length).length)), .int (nI ((qS (bh co ge gi pa) s ls).length)), .int (nI ((qS (bh co ge gi pa) s (qS (bh co ge gi pa) s ls).length).length)), .int (nI dp)])), (sea, aI G 8192 f1), (sef, aI G 40000 f2), (d, .inr (0, [.ref a0, .ref a1, .ref a2, .ref a3])), (a0, aI G 4 co), (a1, aI G 4 ge), (a2, aI G 4 gi), (a3, aI G 4 pa)]) (C := RX6) (T := TX6) (N := 6) F dX6_deepen_99 in_X6_deepen_X6 tyX6_ok nmX6 0 rfl rfl 4 (by decide) (List.mem_of_getElem? (i := 2) rfl) rfl rfl rfl (Nat.le_of_ble_eq_true rfl) rfl rfl ?_
        refine v_aload_n (pc' := 103) F dX6_deepen_102 rfl 1 rfl rfl ?_
        refine v_dup (pc' := 104) F dX6_deepen_103 rfl rfl ?_
        refine v_get (pc' := 107) (C := RX6) (T := TX6) (N := 6) F dX6_deepen_104 in_X6_deepen_X6 0 rfl rfl 5 (by decide) (List.mem_of_getElem? (i := 4) rfl) rfl rfl ?_
        refine v_iconst (pc' := 108) (v := nI 1) F dX6_deepen_107 (by decide) rfl ?_
        refine v_iadd (pc' := 109) (z := nI (dp + 1)) F dX6_deepen_108 (nI_add _ _) rfl ?_
        refine v_put (pc' := 112) (ws' := [(se, .inr (5, [.ref sea, .ref sef, .int (nI ((qS (bh co ge gi pa) s (qS (bh co ge gi pa) s ls).length).length)), .int (nI ((qS (bh co ge gi pa) s ls).length)), .int (nI ((qS (bh co ge gi pa) s (qS (bh co ge gi pa) s ls).length).length)), .int (nI (dp + 1))])), (sea, aI G 8192 f1), (sef, aI G 40000 f2), (d, .inr (0, [.ref a0, .ref a1, .ref a2, .ref a3])), (a0, aI G 4 co), (a1, aI G 4 ge), (a2, aI G 4 gi), (a3, aI G 4 pa)]) (C := RX6) (T := TX6) (N := 6) F dX6_deepen_109 in_X6_deepen_X6 tyX6_ok nmX6 0 rfl rfl 5 (by decide) (List.mem_of_getElem? (i := 4) rfl) rfl rfl rfl (Nat.le_of_ble_eq_true rfl) rfl rfl ?_
        exact rt dX6_deepen_112 (f1, f2) (by rw [← hiL]; exact hM1) rfl
      · have hli : i < (qS (bh co ge gi pa) s i).length := Nat.lt_of_lt_of_le (show i < (qS (bh co ge gi pa) s ls).length by omega) (qS_len hil)
        obtain ⟨n9, f9, hat⟩ := at_lt hli
        obtain ⟨hn9, hf9⟩ := QI_at (hqi i) hat
        have hfd9 := hM1.2.2 i n9 f9 hat
        have hs18 := eS_lt hn9
        have hleni := hlen i
        refine v_aload_n (pc' := 14) F dX6_deepen_13 rfl 1 rfl rfl ?_
        refine v_iload_n (pc' := 15) F dX6_deepen_14 rfl 0 rfl rfl ?_
        refine cVI (pc' := 18) (As := [.int (nI i)]) (rest := []) (wr := [(sea, aI G 8192 f1), (d, .inr (0, [.ref a0, .ref a1, .ref a2, .ref a3])), (a0, aI G 4 co), (a1, aI G 4 ge), (a2, aI G 4 gi), (a3, aI G 4 pa)]) F (c_X6_standingAt se sea sef ((qS (bh co ge gi pa) s i).length) ls ((qS (bh co ge gi pa) s ls).length) dp f2 i n9 f9 (by omega) hfd9 (by omega) (by omega)) (cwV 1 F.2.2.2.2.1 gX6_deepen_X6_standingAt rfl rfl rfl (by decide +kernel) ⟨Nat.le_of_ble_eq_true rfl, Nat.le_of_ble_eq_true rfl⟩) (v_rcvW F 5 0 rfl rfl) rfl rfl (Nat.le_of_ble_eq_true rfl) dX6_deepen_15 [0, 2] [1, 3, 4, 5, 6, 7] (by decide) rfl rfl (by decide) (by decide) ⟨Nat.zero_le _, Nat.zero_le _⟩ rfl (fun r u q3 => ?_)
        obtain rfl := q3
        refine v_ws (wz := [(sea, aI G 8192 f1), (d, .inr (0, [.ref a0, .ref a1, .ref a2, .ref a3])), (a0, aI G 4 co), (a1, aI G 4 ge), (a2, aI G 4 gi), (a3, aI G 4 pa), (se, .inr (5, [.ref sea, .ref sef, .int (nI ((qS (bh co ge gi pa) s i).length)), .int (nI ls), .int (nI ((qS (bh co ge gi pa) s ls).length)), .int (nI dp)])), (sef, aI G 40000 f2)]) rfl ?_
        refine v_istore_n (pc' := 19) (lv' := [(3, .int (nI (eS n9))), (2, .int (nI i)), (0, .ref se), (1, .ref d)]) F dX6_deepen_18 rfl (by decide) rfl rfl ?_
        refine v_getsAN (pc' := 22) F dX6_deepen_19 (F.2.2.2.2.2.2.2.2.2.1) rfl ?_
        refine v_astore (pc' := 24) (lv' := [(4, .ref (gA G)), (3, .int (nI (eS n9))), (2, .int (nI i)), (0, .ref se), (1, .ref d)]) F dX6_deepen_22 (by decide) rfl rfl ?_
        refine v_aload (pc' := 26) F dX6_deepen_24 0 rfl rfl ?_
        refine v_tlenA (pc' := 27) F dX6_deepen_26 rfl ?_
        refine v_istore (pc' := 29) (lv' := [(5, .int (nI 12)), (4, .ref (gA G)), (3, .int (nI (eS n9))), (2, .int (nI i)), (0, .ref se), (1, .ref d)]) F dX6_deepen_27 (by decide) rfl rfl ?_
        refine v_iconst (pc' := 30) (v := nI 0) F dX6_deepen_29 (by decide) rfl ?_
        refine v_istore (pc' := 32) (lv' := [(6, .int (nI 0)), (5, .int (nI 12)), (4, .ref (gA G)), (3, .int (nI (eS n9))), (2, .int (nI i)), (0, .ref se), (1, .ref d)]) F dX6_deepen_30 (by decide) rfl rfl ?_
        refine v_ws (wz := [(sea, aI G 8192 f1), (d, .inr (0, [.ref a0, .ref a1, .ref a2, .ref a3])), (a0, aI G 4 co), (a1, aI G 4 ge), (a2, aI G 4 gi), (a3, aI G 4 pa), (se, .inr (5, [.ref sea, .ref sef, .int (nI ((exL i f9 (qS (bh co ge gi pa) s i) (oCP (bh co ge gi pa n9) 0)).length)), .int (nI ls), .int (nI ((qS (bh co ge gi pa) s ls).length)), .int (nI dp)])), (sef, aI G 40000 f2)]) rfl ?_
        have L32 : ∀ (fu : Nat) (j : Nat) (f3 : Nat → Nat) (f4 : Nat → Nat), (j ≤ 12) → (SM f3 f4 (exL i f9 (qS (bh co ge gi pa) s i) (oCP (bh co ge gi pa n9) j))) → 12 < j + fu → V pgZ l evZ rm_X6_deepen sgZ mmZ agsZ blZ meZ cdZ 0 0 QZ D AZ 9 32 [(6, .int (nI j)), (5, .int (nI 12)), (4, .ref (gA G)), (3, .int (nI (eS n9))), (2, .int (nI i)), (0, .ref se), (1, .ref d)] [] [(sea, aI G 8192 f3), (d, .inr (0, [.ref a0, .ref a1, .ref a2, .ref a3])), (a0, aI G 4 co), (a1, aI G 4 ge), (a2, aI G 4 gi), (a3, aI G 4 pa), (se, .inr (5, [.ref sea, .ref sef, .int (nI ((exL i f9 (qS (bh co ge gi pa) s i) (oCP (bh co ge gi pa n9) j)).length)), .int (nI ls), .int (nI ((qS (bh co ge gi pa) s ls).length)), .int (nI dp)])), (sef, aI G 40000 f4)] := by
          intro fu
          induction fu with
          | zero => intro j f3 f4 hj hM2 hfu; exact absurd hfu (by omega)
          | succ fu ih32 =>
            intro j f3 f4 hj hM2 hfu
            refine v_iload (pc' := 34) F dX6_deepen_32 0 rfl rfl ?_
            refine v_iload (pc' := 36) F dX6_deepen_34 1 rfl rfl ?_
            refine v_ncmp_ge (tgt := 80) (pc' := 39) F dX6_deepen_36 (by omega) (by omega) (by decide) rfl (fun c5 => ?_) (fun c5 => ?_)
            · refine v_iinc (pc' := 83) (v := nI (i + 1)) (lv' := [(2, .int (nI (i + 1))), (6, .int (nI j)), (5, .int (nI 12)), (4, .ref (gA G)), (3, .int (nI (eS n9))), (0, .ref se), (1, .ref d)]) F dX6_deepen_80 4 rfl (nI_add _ _) (by decide) rfl rfl ?_
              refine v_goto (tgt := 5) F dX6_deepen_83 (by decide) ?_
              refine v_ws (wz := [(sea, aI G 8192 f3), (d, .inr (0, [.ref a0, .ref a1, .ref a2, .ref a3])), (a0, aI G 4 co), (a1, aI G 4 ge), (a2, aI G 4 gi), (a3, aI G 4 pa), (se, .inr (5, [.ref sea, .ref sef, .int (nI ((qS (bh co ge gi pa) s (i + 1)).length)), .int (nI ls), .int (nI ((qS (bh co ge gi pa) s ls).length)), .int (nI dp)])), (sef, aI G 40000 f4)]) (by rw [qS_s hat, ← oCP_12, show j = 12 by omega]) ?_
              refine v_perm (wz := [(se, .inr (5, [.ref sea, .ref sef, .int (nI ((qS (bh co ge gi pa) s (i + 1)).length)), .int (nI ls), .int (nI ((qS (bh co ge gi pa) s ls).length)), .int (nI dp)])), (sea, aI G 8192 f3), (sef, aI G 40000 f4), (d, .inr (0, [.ref a0, .ref a1, .ref a2, .ref a3])), (a0, aI G 4 co), (a1, aI G 4 ge), (a2, aI G 4 gi), (a3, aI G 4 pa)]) [6, 0, 7, 1, 2, 3, 4, 5] (by decide) rfl ?_
              refine v_lpick (lz := [(2, .int (nI (i + 1))), (0, .ref se), (1, .ref d)]) [0, 5, 6] rfl ?_
              exact ih5 (i + 1) f3 f4 (by omega) (by omega) (by rw [qS_s hat, ← oCP_12]; rw [show j = 12 by omega] at hM2; exact hM2) (by omega)
            · refine v_aload (pc' := 41) F dX6_deepen_39 2 rfl rfl ?_
              refine v_iload (pc' := 43) F dX6_deepen_41 0 rfl rfl ?_
              refine v_tiA (pc' := 44) F dX6_deepen_43 (by omega) rfl ?_
              refine v_istore (pc' := 46) (lv' := [(7, .int (nI (actN j))), (6, .int (nI j)), (5, .int (nI 12)), (4, .ref (gA G)), (3, .int (nI (eS n9))), (2, .int (nI i)), (0, .ref se), (1, .ref d)]) F dX6_deepen_44 (by decide) rfl rfl ?_
              have hao := (actN_ok j (by omega)).1
              have hal := (actN_ok j (by omega)).2
              refine v_aload_n (pc' := 47) F dX6_deepen_46 rfl 7 rfl rfl ?_
              refine v_iload_n (pc' := 48) F dX6_deepen_47 rfl 4 rfl rfl ?_
              refine v_iload (pc' := 50) F dX6_deepen_48 0 rfl rfl ?_
              refine cVI (pc' := 53) (As := [.int (nI (eS n9)), .int (nI (actN j))]) (rest := []) (wr := [(sea, aI G 8192 f3), (se, .inr (5, [.ref sea, .ref sef, .int (nI ((exL i f9 (qS (bh co ge gi pa) s i) (oCP (bh co ge gi pa n9) j)).length)), .int (nI ls), .int (nI ((qS (bh co ge gi pa) s ls).length)), .int (nI dp)])), (sef, aI G 40000 f4)]) F (c_X0_after d a0 a1 a2 a3 co ge gi pa n9 (actN j) hw (by omega) (by assumption)) (cwV 2 F.2.2.2.2.1 gX6_deepen_X0_after rfl rfl rfl (by decide +kernel) ⟨Nat.le_of_ble_eq_true rfl, Nat.le_of_ble_eq_true rfl⟩) (v_rcvW F 0 1 rfl rfl) rfl rfl (Nat.le_of_ble_eq_true rfl) dX6_deepen_50 [1, 2, 3, 4, 5] [0, 6, 7] (by decide) rfl rfl (by decide) (by decide) ⟨Nat.zero_le _, Nat.zero_le _⟩ rfl (fun r u q6 => ?_)
              obtain rfl := q6
              refine v_ws (wz := [(sea, aI G 8192 f3), (se, .inr (5, [.ref sea, .ref sef, .int (nI ((exL i f9 (qS (bh co ge gi pa) s i) (oCP (bh co ge gi pa n9) j)).length)), .int (nI ls), .int (nI ((qS (bh co ge gi pa) s ls).length)), .int (nI dp)])), (sef, aI G 40000 f4), (d, .inr (0, [.ref a0, .ref a1, .ref a2, .ref a3])), (a0, aI G 4 co), (a1, aI G 4 ge), (a2, aI G 4 gi), (a3, aI G 4 pa)]) rfl ?_
              cases hb8 : bh co ge gi pa n9 (actN j) with
              | none =>
                refine v_top (oC_none rfl) ?_
                refine v_istore (pc' := 55) (lv' := [(8, .int (-1)), (7, .int (nI (actN j))), (6, .int (nI j)), (5, .int (nI 12)), (4, .ref (gA G)), (3, .int (nI (eS n9))), (2, .int (nI i)), (0, .ref se), (1, .ref d)]) F dX6_deepen_53 (by decide) rfl rfl ?_
                refine v_iload (pc' := 57) F dX6_deepen_55 0 rfl rfl ?_
                refine v_iconst (pc' := 58) (v := (-1)) F dX6_deepen_57 (by decide) rfl ?_
                refine v_icmp_eq (tgt := 74) (pc' := 61) F dX6_deepen_58 (by decide) rfl (fun c9 => ?_) (fun c9 => ?_)
                · refine v_iinc (pc' := 77) (v := nI (j + 1)) (lv' := [(6, .int (nI (j + 1))), (8, .int (-1)), (7, .int (nI (actN j))), (5, .int (nI 12)), (4, .ref (gA G)), (3, .int (nI (eS n9))), (2, .int (nI i)), (0, .ref se), (1, .ref d)]) F dX6_deepen_74 2 rfl (nI_add _ _) (by decide) rfl rfl ?_
                  refine v_goto (tgt := 32) F dX6_deepen_77 (by decide) ?_
                  refine v_ws (wz := [(sea, aI G 8192 f3), (se, .inr (5, [.ref sea, .ref sef, .int (nI ((exL i f9 (qS (bh co ge gi pa) s i) (oCP (bh co ge gi pa n9) (j + 1))).length)), .int (nI ls), .int (nI ((qS (bh co ge gi pa) s ls).length)), .int (nI dp)])), (sef, aI G 40000 f4), (d, .inr (0, [.ref a0, .ref a1, .ref a2, .ref a3])), (a0, aI G 4 co), (a1, aI G 4 ge), (a2, aI G 4 gi), (a3, aI G 4 pa)]) (by rw [oCP_none hb8]) ?_
                  refine v_perm (wz := [(sea, aI G 8192 f3), (d, .inr (0, [.ref a0, .ref a1, .ref a2, .ref a3])), (a0, aI G 4 co), (a1, aI G 4 ge), (a2, aI G 4 gi), (a3, aI G 4 pa), (se, .inr (5, [.ref sea, .ref sef, .int (nI ((exL i f9 (qS (bh co ge gi pa) s i) (oCP (bh co ge gi pa n9) (j + 1))).length)), .int (nI ls), .int (nI ((qS (bh co ge gi pa) s ls).length)), .int (nI dp)])), (sef, aI G 40000 f4)]) [0, 3, 4, 5, 6, 7, 1, 2] (by decide) rfl ?_
                  refine v_lpick (lz := [(6, .int (nI (j + 1))), (5, .int (nI 12)), (4, .ref (gA G)), (3, .int (nI (eS n9))), (2, .int (nI i)), (0, .ref se), (1, .ref d)]) [0, 3, 4, 5, 6, 7, 8] rfl ?_
                  exact ih32 (j + 1) f3 f4 (by omega) (by rw [oCP_none hb8]; exact hM2) (by omega)
                · exact absurd rfl c9
              | some k7 =>
                refine v_top (oC_some rfl) ?_
                have hkk := bh_lt hw hn9 hao hb8
                have hks := eS_lt hkk
                refine v_istore (pc' := 55) (lv' := [(8, .int (nI (eS k7))), (7, .int (nI (actN j))), (6, .int (nI j)), (5, .int (nI 12)), (4, .ref (gA G)), (3, .int (nI (eS n9))), (2, .int (nI i)), (0, .ref se), (1, .ref d)]) F dX6_deepen_53 (by decide) rfl rfl ?_
                refine v_iload (pc' := 57) F dX6_deepen_55 0 rfl rfl ?_
                refine v_iconst (pc' := 58) (v := (-1)) F dX6_deepen_57 (by decide) rfl ?_
                refine v_icmp_eq (tgt := 74) (pc' := 61) F dX6_deepen_58 (by decide) rfl (fun c10 => ?_) (fun c10 => ?_)
                · exact absurd c10 (ni_m1 (by omega))
                · refine v_aload_n (pc' := 62) F dX6_deepen_61 rfl 7 rfl rfl ?_
                  refine v_iload (pc' := 64) F dX6_deepen_62 0 rfl rfl ?_
                  refine v_aload_n (pc' := 65) F dX6_deepen_64 rfl 7 rfl rfl ?_
                  refine v_iload_n (pc' := 66) F dX6_deepen_65 rfl 6 rfl rfl ?_
                  refine v_iload (pc' := 68) F dX6_deepen_66 1 rfl rfl ?_
                  have hQX : QI (exL i f9 (qS (bh co ge gi pa) s i) (oCP (bh co ge gi pa n9) j)) := exL_QI hf9 (hqi i) (oCP_ok hGB hn9 (by omega))
                  have hQXl := QI_len hQX
                  refine cVI (pc' := 71) (As := [.int (nI i), .int (nI (actN j))]) (rest := [.int (nI (eS k7)), .ref se]) (wr := [(sea, aI G 8192 f3), (d, .inr (0, [.ref a0, .ref a1, .ref a2, .ref a3])), (a0, aI G 4 co), (a1, aI G 4 ge), (a2, aI G 4 gi), (a3, aI G 4 pa)]) F (c_X6_firstActTo se sea sef ((exL i f9 (qS (bh co ge gi pa) s i) (oCP (bh co ge gi pa n9) j)).length) ls ((qS (bh co ge gi pa) s ls).length) dp f4 i (actN j) n9 f9 (by omega) (hM2.2.2 i n9 f9 (exL_at (n9 := 0) (j9 := i) hat)) (by omega) (by omega) (by omega) (by omega)) (cwV 2 F.2.2.2.2.1 gX6_deepen_X6_firstActTo rfl rfl rfl (by decide +kernel) ⟨Nat.le_of_ble_eq_true rfl, Nat.le_of_ble_eq_true rfl⟩) (v_rcvW F 5 1 rfl rfl) rfl rfl (Nat.le_of_ble_eq_true rfl) dX6_deepen_68 [1, 2] [0, 3, 4, 5, 6, 7] (by decide) rfl rfl (by decide) (by decide) ⟨Nat.zero_le _, Nat.zero_le _⟩ rfl (fun r u q11 => ?_)
                  obtain rfl := q11
                  refine v_ws (wz := [(sea, aI G 8192 f3), (d, .inr (0, [.ref a0, .ref a1, .ref a2, .ref a3])), (a0, aI G 4 co), (a1, aI G 4 ge), (a2, aI G 4 gi), (a3, aI G 4 pa), (se, .inr (5, [.ref sea, .ref sef, .int (nI ((exL i f9 (qS (bh co ge gi pa) s i) (oCP (bh co ge gi pa n9) j)).length)), .int (nI ls), .int (nI ((qS (bh co ge gi pa) s ls).length)), .int (nI dp)])), (sef, aI G 40000 f4)]) rfl ?_
                  refine cVV (pc' := 74) (As := [.int (nI (eS k7)), .int (nI (if i = 0 then (actN j) else f9))]) (rest := []) (wr := [(d, .inr (0, [.ref a0, .ref a1, .ref a2, .ref a3])), (a0, aI G 4 co), (a1, aI G 4 ge), (a2, aI G 4 gi), (a3, aI G 4 pa)]) F (c_X6_find se sea sef ls ((qS (bh co ge gi pa) s ls).length) dp f3 f4 (exL i f9 (qS (bh co ge gi pa) s i) (oCP (bh co ge gi pa n9) j)) hM2 hQX k7 (if i = 0 then (actN j) else f9) (by omega) (by split <;> omega)) (cwV 2 F.2.2.2.2.1 gX6_deepen_X6_find rfl rfl rfl (by decide +kernel) ⟨Nat.le_of_ble_eq_true rfl, Nat.le_of_ble_eq_true rfl⟩) (v_rcvW F 5 6 rfl rfl) rfl rfl (Nat.le_of_ble_eq_true rfl) dX6_deepen_71 [6, 0, 7] [1, 2, 3, 4, 5] (by decide) rfl rfl (by decide) (by decide) ⟨Nat.zero_le _, Nat.zero_le _⟩ rfl (fun u q15 => ?_)
                  obtain ⟨sn2_12, fd2_13⟩ := u
                  have hM_14 := q15
                  refine v_ws (wz := [(d, .inr (0, [.ref a0, .ref a1, .ref a2, .ref a3])), (a0, aI G 4 co), (a1, aI G 4 ge), (a2, aI G 4 gi), (a3, aI G 4 pa), (se, .inr (5, [.ref sea, .ref sef, .int (nI ((ins (exL i f9 (qS (bh co ge gi pa) s i) (oCP (bh co ge gi pa n9) j)) k7 (if i = 0 then (actN j) else f9)).length)), .int (nI ls), .int (nI ((qS (bh co ge gi pa) s ls).length)), .int (nI dp)])), (sea, aI G 8192 sn2_12), (sef, aI G 40000 fd2_13)]) rfl ?_
                  refine v_iinc (pc' := 77) (v := nI (j + 1)) (lv' := [(6, .int (nI (j + 1))), (8, .int (nI (eS k7))), (7, .int (nI (actN j))), (5, .int (nI 12)), (4, .ref (gA G)), (3, .int (nI (eS n9))), (2, .int (nI i)), (0, .ref se), (1, .ref d)]) F dX6_deepen_74 2 rfl (nI_add _ _) (by decide) rfl rfl ?_
                  refine v_goto (tgt := 32) F dX6_deepen_77 (by decide) ?_
                  refine v_ws (wz := [(d, .inr (0, [.ref a0, .ref a1, .ref a2, .ref a3])), (a0, aI G 4 co), (a1, aI G 4 ge), (a2, aI G 4 gi), (a3, aI G 4 pa), (se, .inr (5, [.ref sea, .ref sef, .int (nI ((exL i f9 (qS (bh co ge gi pa) s i) (oCP (bh co ge gi pa n9) (j + 1))).length)), .int (nI ls), .int (nI ((qS (bh co ge gi pa) s ls).length)), .int (nI dp)])), (sea, aI G 8192 sn2_12), (sef, aI G 40000 fd2_13)]) (by rw [oCP_some hb8, exL_s]) ?_
                  refine v_perm (wz := [(sea, aI G 8192 sn2_12), (d, .inr (0, [.ref a0, .ref a1, .ref a2, .ref a3])), (a0, aI G 4 co), (a1, aI G 4 ge), (a2, aI G 4 gi), (a3, aI G 4 pa), (se, .inr (5, [.ref sea, .ref sef, .int (nI ((exL i f9 (qS (bh co ge gi pa) s i) (oCP (bh co ge gi pa n9) (j + 1))).length)), .int (nI ls), .int (nI ((qS (bh co ge gi pa) s ls).length)), .int (nI dp)])), (sef, aI G 40000 fd2_13)]) [6, 0, 1, 2, 3, 4, 5, 7] (by decide) rfl ?_
                  refine v_lpick (lz := [(6, .int (nI (j + 1))), (5, .int (nI 12)), (4, .ref (gA G)), (3, .int (nI (eS n9))), (2, .int (nI i)), (0, .ref se), (1, .ref d)]) [0, 3, 4, 5, 6, 7, 8] rfl ?_
                  exact ih32 (j + 1) sn2_12 fd2_13 (by omega) (by rw [oCP_some hb8, exL_s]; exact hM_14) (by omega)
        exact L32 (12 + 1) 0 f1 f2 (by omega) (hM1) (by omega)
  exact L5 ((qS (bh co ge gi pa) s ls).length + 1) ls sn fd (by omega) (by omega) (hm) (by omega)
