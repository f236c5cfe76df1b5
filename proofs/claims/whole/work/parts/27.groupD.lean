def rm_X5_canSwap : Room := { frames := 1, cells := 0, slots := 0, locals := 21 }
theorem in_X5_canSwap_X5 : ∀ w ∈ u_ws RX5 TX5 2, w ∈ wsX5_canSwap := fun w h => List.mem_cons_of_mem _ (List.mem_append_right _ (h))
set_option maxHeartbeats 4000000 in
set_option maxRecDepth 100000 in
theorem c_X5_canSwap {l : Launch} {D : va_G} {G : gT} (pq ks sx : Nat → Nat) (i c d : Nat) (hi : i < 5) (hs : sx i < 40000) (hc : c < 4) (hd : d < 4) : CtI (σ := Unit) l yX5_canSwap wsX5_canSwap rm_X5_canSwap D G [.ref (pq i), .int (nI c), .int (nI d)] (pX G pq ks sx) (fun r _ => r = bI (0 < dg (sx i) c ∧ (c = d ∨ dg (sx i) d < 4))) (fun _ => (pX G pq ks sx)) := by
  have hda := dg_lt (sx i) c
  have hdb := dg_lt (sx i) d
  refine openZ (maxL := 3) (by decide) rfl (Nat.le_of_ble_eq_true rfl) ?_
  intro pg ev sg mm ags bl me cd A Q F hmn rt
  refine v_lv (lz := [(0, .ref (pq i)), (1, .int (nI c)), (2, .int (nI d))]) rfl ?_
  refine v_aload_n (pc' := 1) F dX5_canSwap_0 rfl 0 rfl rfl ?_
  refine v_get (pc' := 4) (C := RX5) (T := TX5) (N := 2) F dX5_canSwap_1 in_X5_canSwap_X5 (i + 0) (pX_at (by omega)) rfl 1 (by decide) (List.mem_of_getElem? (i := 1) rfl) rfl rfl ?_
  refine v_iload_n (pc' := 5) F dX5_canSwap_4 rfl 1 rfl rfl ?_
  refine cSI0 (pc' := 8) (As := [.int (nI (eS (sx i))), .int (nI c)]) (rest := []) F (c_X7_coinsOf (sx i) c (by omega) (by omega)) (va_cwS 2 F.2.2.2.2.1 gX5_canSwap_X7_coinsOf rfl rfl rfl (by decide +kernel) ⟨Nat.le_of_ble_eq_true rfl, Nat.le_of_ble_eq_true rfl⟩) rfl rfl (Nat.le_of_ble_eq_true rfl) dX5_canSwap_5 ⟨Nat.zero_le _, Nat.zero_le _⟩ rfl (fun r u q1 => ?_)
  obtain rfl := q1
  refine v_nif_le (tgt := 32) (pc' := 11) F dX5_canSwap_8 (by omega) (by decide) rfl (fun c2 => ?_) (fun c2 => ?_)
  · refine v_iconst (pc' := 33) (v := nI 0) F dX5_canSwap_32 (by decide) rfl ?_
    exact rt rfl dX5_canSwap_33 () (nI0_b (by omega)) rfl
  · refine v_iload_n (pc' := 12) F dX5_canSwap_11 rfl 1 rfl rfl ?_
    refine v_iload_n (pc' := 13) F dX5_canSwap_12 rfl 2 rfl rfl ?_
    refine v_ncmp_eq (tgt := 28) (pc' := 16) F dX5_canSwap_13 (by omega) (by omega) (by decide) rfl (fun c3 => ?_) (fun c3 => ?_)
    · refine v_iconst (pc' := 29) (v := nI 1) F dX5_canSwap_28 (by decide) rfl ?_
      refine v_goto (tgt := 33) F dX5_canSwap_29 (by decide) ?_
      exact rt rfl dX5_canSwap_33 () (nI1_b (by omega)) rfl
    · refine v_aload_n (pc' := 17) F dX5_canSwap_16 rfl 0 rfl rfl ?_
      refine v_get (pc' := 20) (C := RX5) (T := TX5) (N := 2) F dX5_canSwap_17 in_X5_canSwap_X5 (i + 0) (pX_at (by omega)) rfl 1 (by decide) (List.mem_of_getElem? (i := 1) rfl) rfl rfl ?_
      refine v_iload_n (pc' := 21) F dX5_canSwap_20 rfl 2 rfl rfl ?_
      refine cSI0 (pc' := 24) (As := [.int (nI (eS (sx i))), .int (nI d)]) (rest := []) F (c_X7_coinsOf (sx i) d (by omega) (by omega)) (va_cwS 2 F.2.2.2.2.1 gX5_canSwap_X7_coinsOf rfl rfl rfl (by decide +kernel) ⟨Nat.le_of_ble_eq_true rfl, Nat.le_of_ble_eq_true rfl⟩) rfl rfl (Nat.le_of_ble_eq_true rfl) dX5_canSwap_21 ⟨Nat.zero_le _, Nat.zero_le _⟩ rfl (fun r u q4 => ?_)
      obtain rfl := q4
      refine v_iconst (pc' := 25) (v := nI 4) F dX5_canSwap_24 (by decide) rfl ?_
      refine v_ncmp_ge (tgt := 32) (pc' := 28) F dX5_canSwap_25 (by omega) (by omega) (by decide) rfl (fun c5 => ?_) (fun c5 => ?_)
      · refine v_iconst (pc' := 33) (v := nI 0) F dX5_canSwap_32 (by decide) rfl ?_
        exact rt rfl dX5_canSwap_33 () (nI0_b (by omega)) rfl
      · refine v_iconst (pc' := 29) (v := nI 1) F dX5_canSwap_28 (by decide) rfl ?_
        refine v_goto (tgt := 33) F dX5_canSwap_29 (by decide) ?_
        exact rt rfl dX5_canSwap_33 () (nI1_b (by omega)) rfl
def rm_X5_swap : Room := { frames := 1, cells := 0, slots := 0, locals := 22 }
theorem in_X5_swap_X5 : ∀ w ∈ u_ws RX5 TX5 2, w ∈ wsX5_swap := fun w h => List.mem_cons_of_mem _ (List.mem_append_right _ (h))
set_option maxHeartbeats 4000000 in
set_option maxRecDepth 100000 in
theorem c_X5_swap {l : Launch} {D : va_G} {G : gT} (pq ks sx : Nat → Nat) (i c d : Nat) (hi : i < 5) (hs : sx i < 40000) (hc : c < 4) (hd : d < 4) (h1 : 0 < dg (sx i) c) (h2 : c = d ∨ dg (sx i) d < 4) : CtV (σ := Unit) l yX5_swap wsX5_swap rm_X5_swap D G [.ref (pq i), .int (nI c), .int (nI d)] (pX G pq ks sx) (fun _ => True) (fun _ => (pX G pq ks (va_up sx i (wC (wC (sx i) c 0 1) d 1 0)))) := by
  have hda := dg_lt (sx i) c
  have hdl := dg_less hs hc h1
  have hdr := dg_room hs hc hd h1 h2
  have hdb := dg_lt (wC (sx i) c 0 1) d
  refine openV (maxL := 3) (by decide) rfl (Nat.le_of_ble_eq_true rfl) ?_
  intro pg ev sg mm ags bl me cd A Q F hmn rt
  refine v_lv (lz := [(0, .ref (pq i)), (1, .int (nI c)), (2, .int (nI d))]) rfl ?_
  refine v_aload_n (pc' := 1) F dX5_swap_0 rfl 0 rfl rfl ?_
  refine v_aload_n (pc' := 2) F dX5_swap_1 rfl 0 rfl rfl ?_
  refine v_get (pc' := 5) (C := RX5) (T := TX5) (N := 2) F dX5_swap_2 in_X5_swap_X5 (i + 0) (pX_at (by omega)) rfl 1 (by decide) (List.mem_of_getElem? (i := 1) rfl) rfl rfl ?_
  refine v_iload_n (pc' := 6) F dX5_swap_5 rfl 1 rfl rfl ?_
  refine v_iconst (pc' := 7) (v := (-1)) F dX5_swap_6 (by decide) rfl ?_
  refine v_top (y := nI 0 - nI 1) (by decide) ?_
  refine cSI0 (pc' := 10) (As := [.int (nI (eS (sx i))), .int (nI c), .int (nI 0 - nI 1)]) (rest := [.ref (pq i)]) F (c_X7_withMore (sx i) c 0 1 (by omega) (by omega) (by omega) (by omega)) (va_cwS 3 F.2.2.2.2.1 gX5_swap_X7_withMore rfl rfl rfl (by decide +kernel) ⟨Nat.le_of_ble_eq_true rfl, Nat.le_of_ble_eq_true rfl⟩) rfl rfl (Nat.le_of_ble_eq_true rfl) dX5_swap_7 ⟨Nat.zero_le _, Nat.zero_le _⟩ rfl (fun r u q1 => ?_)
  obtain rfl := q1
  refine v_iload_n (pc' := 11) F dX5_swap_10 rfl 2 rfl rfl ?_
  refine v_iconst (pc' := 12) (v := nI 1) F dX5_swap_11 (by decide) rfl ?_
  refine v_top (y := nI 1 - nI 0) (ni_sub0 _).symm ?_
  refine cSI0 (pc' := 15) (As := [.int (nI (eS (wC (sx i) c 0 1))), .int (nI d), .int (nI 1 - nI 0)]) (rest := [.ref (pq i)]) F (c_X7_withMore (wC (sx i) c 0 1) d 1 0 (by omega) (by omega) (by omega) (by omega)) (va_cwS 3 F.2.2.2.2.1 gX5_swap_X7_withMore rfl rfl rfl (by decide +kernel) ⟨Nat.le_of_ble_eq_true rfl, Nat.le_of_ble_eq_true rfl⟩) rfl rfl (Nat.le_of_ble_eq_true rfl) dX5_swap_12 ⟨Nat.zero_le _, Nat.zero_le _⟩ rfl (fun r u q2 => ?_)
  obtain rfl := q2
  refine v_put (pc' := 18) (ws := (pX G pq ks sx)) (ws' := (pX G pq ks (va_up sx i (wC (wC (sx i) c 0 1) d 1 0)))) (C := RX5) (T := TX5) (N := 2) F dX5_swap_15 in_X5_swap_X5 tyX5_ok nmX5 (i + 0) (pX_at (by omega)) rfl 1 (by decide) (List.mem_of_getElem? (i := 1) rfl) rfl rfl rfl (Nat.le_of_ble_eq_true rfl) (pX_set1 (G := G) (pa := pq) (ks := ks) (sx := sx) (i := i) (w := wC (wC (sx i) c 0 1) d 1 0) (by omega)) rfl ?_
  exact rt dX5_swap_18 () (by trivial) rfl
def rm_X10_change : Room := { frames := 2, cells := 0, slots := 0, locals := 43 }
theorem in_X10_change_X10 : ∀ w ∈ u_ws RX10 TX10 38, w ∈ wsX10_change := fun w h => List.mem_cons_of_mem _ (List.mem_append_right _ (h))
set_option maxHeartbeats 4000000 in
set_option maxRecDepth 100000 in
theorem c_X10_change {l : Launch} {D : va_G} {G : gT} (o : Nat) (ma : Nat → Nat) (fi : Nat → Int32) (fl : Nat → Int64) (sx : Nat → Nat) (pe : Nat) (x y z v : Int32) (hpe : fi 6 = nI pe) (h5 : pe ≤ 5) (hs5 : ∀ j, j < 5 → sx j < 40000) : CtI (σ := (Nat → Nat)) l yX10_change wsX10_change rm_X10_change D G [.ref o, .int x, .int y, .int z, .int v] [(o, mO ma fi fl), (ma 8, aI G 5 sx)] (fun r u => r = A_change pe sx x y z v ∧ u = N_change pe sx x y z v) (fun u => [(o, mO ma fi fl), (ma 8, aI G 5 u)]) := by
  refine openI (maxL := 7) (by decide) rfl (Nat.le_of_ble_eq_true rfl) ?_
  intro pg ev sg mm ags bl me cd A Q F hmn rt
  refine v_lv (lz := [(0, .ref o), (1, .int x), (2, .int y), (3, .int z), (4, .int v)]) rfl ?_
  refine v_aload_n (pc' := 1) F dX10_change_0 rfl 0 rfl rfl ?_
  refine v_iload_n (pc' := 2) F dX10_change_1 rfl 1 rfl rfl ?_
  refine cVI (pc' := 5) (As := [.int x]) (rest := []) (wr := [(ma 8, aI G 5 sx)]) F (c_X10_isPerson o ma fi fl pe x hpe h5) (cwV 1 F.2.2.2.2.1 gX10_change_X10_isPerson rfl rfl rfl (by decide +kernel) ⟨Nat.le_of_ble_eq_true rfl, Nat.le_of_ble_eq_true rfl⟩) (v_rcvW F 8 0 rfl rfl) rfl rfl (Nat.le_of_ble_eq_true rfl) dX10_change_2 [0] [1] (by decide) rfl rfl (by decide) (by decide) ⟨Nat.zero_le _, Nat.zero_le _⟩ rfl (fun r u q1 => ?_)
  obtain rfl := q1
  refine v_ws (wz := [(ma 8, aI G 5 sx), (o, mO ma fi fl)]) rfl ?_
  refine v_bif_eq (tgt := 36) (pc' := 8) F dX10_change_5 (by decide) rfl (fun c2 => ?_) (fun c2 => ?_)
  · refine v_bipush (pc' := 38) (v := (-101)) F dX10_change_36 (by decide) rfl ?_
    refine v_perm (wz := [(o, mO ma fi fl), (ma 8, aI G 5 sx)]) [1, 0] (by decide) rfl ?_
    exact rt dX10_change_38 sx ⟨(by unfold A_change; repeat (first | rw [if_pos (by assumption)] | rw [if_neg (by assumption)] | rw [if_neg (nI_neq (by omega) (by omega) (by assumption))] | rw [if_pos (congrArg nI (by assumption))])), (by unfold N_change; repeat (first | rw [if_pos (by assumption)] | rw [if_neg (by assumption)] | rw [if_neg (nI_neq (by omega) (by omega) (by assumption))] | rw [if_pos (congrArg nI (by assumption))]))⟩ rfl
  · obtain ⟨t, ht, rfl⟩ := isP_of (by omega) c2
    have hsa := hs5 t (by omega)
    refine v_aload_n (pc' := 9) F dX10_change_8 rfl 0 rfl rfl ?_
    refine v_iload_n (pc' := 10) F dX10_change_9 rfl 3 rfl rfl ?_
    refine cVI (pc' := 13) (As := [.int z]) (rest := []) (wr := [(ma 8, aI G 5 sx)]) F (c_X10_isPerson o ma fi fl pe z hpe h5) (cwV 1 F.2.2.2.2.1 gX10_change_X10_isPerson rfl rfl rfl (by decide +kernel) ⟨Nat.le_of_ble_eq_true rfl, Nat.le_of_ble_eq_true rfl⟩) (v_rcvW F 8 1 rfl rfl) rfl rfl (Nat.le_of_ble_eq_true rfl) dX10_change_10 [1] [0] (by decide) rfl rfl (by decide) (by decide) ⟨Nat.zero_le _, Nat.zero_le _⟩ rfl (fun r u q3 => ?_)
    obtain rfl := q3
    refine v_ws (wz := [(ma 8, aI G 5 sx), (o, mO ma fi fl)]) rfl ?_
    refine v_bif_eq (tgt := 36) (pc' := 16) F dX10_change_13 (by decide) rfl (fun c4 => ?_) (fun c4 => ?_)
    · refine v_bipush (pc' := 38) (v := (-101)) F dX10_change_36 (by decide) rfl ?_
      refine v_perm (wz := [(o, mO ma fi fl), (ma 8, aI G 5 sx)]) [1, 0] (by decide) rfl ?_
      exact rt dX10_change_38 sx ⟨(by unfold A_change; repeat (first | rw [if_pos (by assumption)] | rw [if_neg (by assumption)] | rw [if_neg (nI_neq (by omega) (by omega) (by assumption))] | rw [if_pos (congrArg nI (by assumption))])), (by unfold N_change; repeat (first | rw [if_pos (by assumption)] | rw [if_neg (by assumption)] | rw [if_neg (nI_neq (by omega) (by omega) (by assumption))] | rw [if_pos (congrArg nI (by assumption))]))⟩ rfl
    · obtain ⟨ub, hub, rfl⟩ := isP_of (by omega) c4
      have hsb := hs5 ub (by omega)
      refine v_iload_n (pc' := 17) F dX10_change_16 rfl 1 rfl rfl ?_
      refine v_iload_n (pc' := 18) F dX10_change_17 rfl 3 rfl rfl ?_
      refine v_ncmp_eq (tgt := 36) (pc' := 21) F dX10_change_18 (by omega) (by omega) (by decide) rfl (fun c5 => ?_) (fun c5 => ?_)
      · refine v_bipush (pc' := 38) (v := (-101)) F dX10_change_36 (by decide) rfl ?_
        refine v_perm (wz := [(o, mO ma fi fl), (ma 8, aI G 5 sx)]) [1, 0] (by decide) rfl ?_
        exact rt dX10_change_38 sx ⟨(by unfold A_change; repeat (first | rw [if_pos (by assumption)] | rw [if_neg (by assumption)] | rw [if_neg (nI_neq (by omega) (by omega) (by assumption))] | rw [if_pos (congrArg nI (by assumption))])), (by unfold N_change; repeat (first | rw [if_pos (by assumption)] | rw [if_neg (by assumption)] | rw [if_neg (nI_neq (by omega) (by omega) (by assumption))] | rw [if_pos (congrArg nI (by assumption))]))⟩ rfl
      · refine v_iload_n (pc' := 22) F dX10_change_21 rfl 2 rfl rfl ?_
        refine cSI0 (pc' := 25) (As := [.int y]) (rest := []) F (c_X10_isTown y) (va_cwS 1 F.2.2.2.2.1 gX10_change_X10_isTown rfl rfl rfl (by decide +kernel) ⟨Nat.le_of_ble_eq_true rfl, Nat.le_of_ble_eq_true rfl⟩) rfl rfl (Nat.le_of_ble_eq_true rfl) dX10_change_22 ⟨Nat.zero_le _, Nat.zero_le _⟩ rfl (fun r u q6 => ?_)
        obtain rfl := q6
        refine v_bif_eq (tgt := 36) (pc' := 28) F dX10_change_25 (by decide) rfl (fun c7 => ?_) (fun c7 => ?_)
        · refine v_bipush (pc' := 38) (v := (-101)) F dX10_change_36 (by decide) rfl ?_
          refine v_perm (wz := [(o, mO ma fi fl), (ma 8, aI G 5 sx)]) [1, 0] (by decide) rfl ?_
          exact rt dX10_change_38 sx ⟨(by unfold A_change; repeat (first | rw [if_pos (by assumption)] | rw [if_neg (by assumption)] | rw [if_neg (nI_neq (by omega) (by omega) (by assumption))] | rw [if_pos (congrArg nI (by assumption))])), (by unfold N_change; repeat (first | rw [if_pos (by assumption)] | rw [if_neg (by assumption)] | rw [if_neg (nI_neq (by omega) (by omega) (by assumption))] | rw [if_pos (congrArg nI (by assumption))]))⟩ rfl
        · obtain ⟨ca, hca, rfl⟩ := inR_of (by decide) c7
          refine v_iload (pc' := 30) F dX10_change_28 4 rfl rfl ?_
          refine cSI0 (pc' := 33) (As := [.int v]) (rest := []) F (c_X10_isTown v) (va_cwS 1 F.2.2.2.2.1 gX10_change_X10_isTown rfl rfl rfl (by decide +kernel) ⟨Nat.le_of_ble_eq_true rfl, Nat.le_of_ble_eq_true rfl⟩) rfl rfl (Nat.le_of_ble_eq_true rfl) dX10_change_30 ⟨Nat.zero_le _, Nat.zero_le _⟩ rfl (fun r u q8 => ?_)
          obtain rfl := q8
          refine v_bif_ne (tgt := 39) (pc' := 36) F dX10_change_33 (by decide) rfl (fun c9 => ?_) (fun c9 => ?_)
          · obtain ⟨da, hda, rfl⟩ := inR_of (by decide) c9
            have ha1 := dg_lt (sx t) ca
            have ha2 := dg_lt (sx t) da
            have ha3 := dg_lt (sx ub) ca
            have ha4 := dg_lt (sx ub) da
            have J92_10 : V pg l ev rm_X10_change sg mm ags bl me cd 0 0 Q D A 7 92 [(0, .ref o), (1, .int (nI t)), (2, .int (nI ca)), (3, .int (nI ub)), (4, .int (nI da))] [.int (bI (0 < dg (sx t) ca ∧ 0 < dg (sx ub) da ∧ sx t % 4 = sx ub % 4))] [(ma 8, aI G 5 sx), (o, mO ma fi fl)] := by
              refine v_istore (pc' := 94) (lv' := [(5, .int (bI (0 < dg (sx t) ca ∧ 0 < dg (sx ub) da ∧ sx t % 4 = sx ub % 4))), (0, .ref o), (1, .int (nI t)), (2, .int (nI ca)), (3, .int (nI ub)), (4, .int (nI da))]) F dX10_change_92 (by decide) rfl rfl ?_
              have J134_11 : V pg l ev rm_X10_change sg mm ags bl me cd 0 0 Q D A 7 134 [(5, .int (bI (0 < dg (sx t) ca ∧ 0 < dg (sx ub) da ∧ sx t % 4 = sx ub % 4))), (0, .ref o), (1, .int (nI t)), (2, .int (nI ca)), (3, .int (nI ub)), (4, .int (nI da))] [.int (bI (ca = da ∨ (dg (sx t) da < 4 ∧ dg (sx ub) ca < 4)))] [(ma 8, aI G 5 sx), (o, mO ma fi fl)] := by
                refine v_istore (pc' := 136) (lv' := [(6, .int (bI (ca = da ∨ (dg (sx t) da < 4 ∧ dg (sx ub) ca < 4)))), (5, .int (bI (0 < dg (sx t) ca ∧ 0 < dg (sx ub) da ∧ sx t % 4 = sx ub % 4))), (0, .ref o), (1, .int (nI t)), (2, .int (nI ca)), (3, .int (nI ub)), (4, .int (nI da))]) F dX10_change_134 (by decide) rfl rfl ?_
                refine v_iload (pc' := 138) F dX10_change_136 1 rfl rfl ?_
                refine v_bif_eq (tgt := 146) (pc' := 141) F dX10_change_138 (by decide) rfl (fun c12 => ?_) (fun c12 => ?_)
                · have hno : ¬ chOk sx t ca ub da := fun q => by unfold chOk at q; omega
                  refine v_bipush (pc' := 148) (v := (-103)) F dX10_change_146 (by decide) rfl ?_
                  refine v_perm (wz := [(o, mO ma fi fl), (ma 8, aI G 5 sx)]) [1, 0] (by decide) rfl ?_
                  exact rt dX10_change_148 sx ⟨(by unfold A_change; rw [if_pos (by assumption), if_pos (by assumption), if_neg (nI_neq (by omega) (by omega) (by assumption)), if_pos (by assumption), if_pos (by assumption), tN_nI (t := t) (by omega), tN_nI (t := ub) (by omega), tN_nI (t := ca) (by omega), tN_nI (t := da) (by omega), if_neg hno]), (by unfold N_change; rw [if_pos (by assumption), if_pos (by assumption), if_neg (nI_neq (by omega) (by omega) (by assumption)), if_pos (by assumption), if_pos (by assumption), tN_nI (t := t) (by omega), tN_nI (t := ub) (by omega), tN_nI (t := ca) (by omega), tN_nI (t := da) (by omega), if_neg hno])⟩ rfl
                · refine v_iload (pc' := 143) F dX10_change_141 0 rfl rfl ?_
                  refine v_bif_ne (tgt := 149) (pc' := 146) F dX10_change_143 (by decide) rfl (fun c13 => ?_) (fun c13 => ?_)
                  · have hok : chOk sx t ca ub da := by unfold chOk; omega
                    refine v_iload_n (pc' := 150) F dX10_change_149 rfl 4 rfl rfl ?_
                    refine v_iload (pc' := 152) F dX10_change_150 6 rfl rfl ?_
                    refine v_ncmp_eq (tgt := 201) (pc' := 155) F dX10_change_152 (by omega) (by omega) (by decide) rfl (fun c14 => ?_) (fun c14 => ?_)
                    · have hlt := chN_lt hs5 (show t < 5 by omega) (show ub < 5 by omega) (show ca < 4 by omega) (show da < 4 by omega) hok t (by omega)
                      have hch : sx = chN sx t ca ub da := by unfold chN; rw [if_pos (by omega)]
                      refine v_ws (wz := [(ma 8, aI G 5 (chN sx t ca ub da)), (o, mO ma fi fl)]) (by first | rw [← hch] | rw [hch]) ?_
                      refine v_aload_n (pc' := 202) F dX10_change_201 rfl 2 rfl rfl ?_
                      refine v_get (pc' := 205) (v := .ref (ma 8)) (C := RX10) (T := TX10) (N := 38) F dX10_change_202 in_X10_change_X10 1 rfl rfl 8 (by decide) (List.mem_of_getElem? (i := 1) rfl) rfl rfl ?_
                      refine v_iload_n (pc' := 206) F dX10_change_205 rfl 3 rfl rfl ?_
                      refine v_iald (pc' := 207) (z := (chN sx t ca ub da) t) F dX10_change_206 0 rfl (by omega) (by decide) rfl rfl ?_
                      refine v_iload_n (pc' := 208) F dX10_change_207 rfl 4 rfl rfl ?_
                      refine cSI0 (pc' := 211) (As := [.int (nI ((chN sx t ca ub da) t)), .int (nI ca)]) (rest := []) F (c_X10_coins ((chN sx t ca ub da) t) ca (by omega) (by omega)) (va_cwS 2 F.2.2.2.2.1 gX10_change_X10_coins rfl rfl rfl (by decide +kernel) ⟨Nat.le_of_ble_eq_true rfl, Nat.le_of_ble_eq_true rfl⟩) rfl rfl (Nat.le_of_ble_eq_true rfl) dX10_change_208 ⟨Nat.zero_le _, Nat.zero_le _⟩ rfl (fun r u q15 => ?_)
                      obtain rfl := q15
                      refine v_perm (wz := [(o, mO ma fi fl), (ma 8, aI G 5 (chN sx t ca ub da))]) [1, 0] (by decide) rfl ?_
                      exact rt dX10_change_211 (chN sx t ca ub da) ⟨(by unfold A_change; rw [if_pos (by assumption), if_pos (by assumption), if_neg (nI_neq (by omega) (by omega) (by assumption)), if_pos (by assumption), if_pos (by assumption), tN_nI (t := t) (by omega), tN_nI (t := ub) (by omega), tN_nI (t := ca) (by omega), tN_nI (t := da) (by omega), if_pos hok]), (by unfold N_change; rw [if_pos (by assumption), if_pos (by assumption), if_neg (nI_neq (by omega) (by omega) (by assumption)), if_pos (by assumption), if_pos (by assumption), tN_nI (t := t) (by omega), tN_nI (t := ub) (by omega), tN_nI (t := ca) (by omega), tN_nI (t := da) (by omega), if_pos hok])⟩ rfl
                    · have hl1 := dg_less hsa (show ca < 4 by omega) hok.1
                      have hl2 := dg_less hsb (show da < 4 by omega) hok.2.1
                      have hr1 := dg_room hsa (show ca < 4 by omega) (show da < 4 by omega) hok.1 (by omega)
                      have hr2 := dg_room hsb (show da < 4 by omega) (show ca < 4 by omega) hok.2.1 (by omega)
                      have hg1 := dg_lt (wC (sx t) ca 0 1) da
                      have hg2 := dg_lt (wC (sx ub) da 0 1) ca
                      refine v_aload_n (pc' := 156) F dX10_change_155 rfl 2 rfl rfl ?_
                      refine v_get (pc' := 159) (v := .ref (ma 8)) (C := RX10) (T := TX10) (N := 38) F dX10_change_156 in_X10_change_X10 1 rfl rfl 8 (by decide) (List.mem_of_getElem? (i := 1) rfl) rfl rfl ?_
                      refine v_iload_n (pc' := 160) F dX10_change_159 rfl 3 rfl rfl ?_
                      refine v_aload_n (pc' := 161) F dX10_change_160 rfl 2 rfl rfl ?_
                      refine v_get (pc' := 164) (v := .ref (ma 8)) (C := RX10) (T := TX10) (N := 38) F dX10_change_161 in_X10_change_X10 1 rfl rfl 8 (by decide) (List.mem_of_getElem? (i := 1) rfl) rfl rfl ?_
                      refine v_iload_n (pc' := 165) F dX10_change_164 rfl 3 rfl rfl ?_
                      refine v_iald (pc' := 166) (z := sx t) F dX10_change_165 0 rfl (by omega) (by decide) rfl rfl ?_
                      refine v_iload_n (pc' := 167) F dX10_change_166 rfl 4 rfl rfl ?_
                      refine v_iconst (pc' := 168) (v := (-1)) F dX10_change_167 (by decide) rfl ?_
                      refine v_top (y := nI 0 - nI 1) (by decide) ?_
                      refine cSI0 (pc' := 171) (As := [.int (nI (sx t)), .int (nI ca), .int (nI 0 - nI 1)]) (rest := [.int (nI t), .ref (ma 8)]) F (c_X10_withCoins (sx t) ca 0 1 (by omega) (by omega) (by omega) (by omega)) (va_cwS 3 F.2.2.2.2.1 gX10_change_X10_withCoins rfl rfl rfl (by decide +kernel) ⟨Nat.le_of_ble_eq_true rfl, Nat.le_of_ble_eq_true rfl⟩) rfl rfl (Nat.le_of_ble_eq_true rfl) dX10_change_168 ⟨Nat.zero_le _, Nat.zero_le _⟩ rfl (fun r u q16 => ?_)
                      obtain rfl := q16
                      refine v_iload (pc' := 173) F dX10_change_171 6 rfl rfl ?_
                      refine v_iconst (pc' := 174) (v := nI 1) F dX10_change_173 (by decide) rfl ?_
                      refine v_top (y := nI 1 - nI 0) (ni_sub0 _).symm ?_
                      refine cSI0 (pc' := 177) (As := [.int (nI (wC (sx t) ca 0 1)), .int (nI da), .int (nI 1 - nI 0)]) (rest := [.int (nI t), .ref (ma 8)]) F (c_X10_withCoins (wC (sx t) ca 0 1) da 1 0 (by omega) (by omega) (by omega) (by omega)) (va_cwS 3 F.2.2.2.2.1 gX10_change_X10_withCoins rfl rfl rfl (by decide +kernel) ⟨Nat.le_of_ble_eq_true rfl, Nat.le_of_ble_eq_true rfl⟩) rfl rfl (Nat.le_of_ble_eq_true rfl) dX10_change_174 ⟨Nat.zero_le _, Nat.zero_le _⟩ rfl (fun r u q17 => ?_)
                      obtain rfl := q17
                      refine v_iast (pc' := 178) (ws' := [(ma 8, aI G 5 (va_up sx t (wC (wC (sx t) ca 0 1) da 1 0))), (o, mO ma fi fl)]) F dX10_change_177 0 rfl (by omega) (by decide) rfl rfl ?_
                      refine v_aload_n (pc' := 179) F dX10_change_178 rfl 2 rfl rfl ?_
                      refine v_get (pc' := 182) (v := .ref (ma 8)) (C := RX10) (T := TX10) (N := 38) F dX10_change_179 in_X10_change_X10 1 rfl rfl 8 (by decide) (List.mem_of_getElem? (i := 1) rfl) rfl rfl ?_
                      refine v_iload_n (pc' := 183) F dX10_change_182 rfl 5 rfl rfl ?_
                      refine v_aload_n (pc' := 184) F dX10_change_183 rfl 2 rfl rfl ?_
                      refine v_get (pc' := 187) (v := .ref (ma 8)) (C := RX10) (T := TX10) (N := 38) F dX10_change_184 in_X10_change_X10 1 rfl rfl 8 (by decide) (List.mem_of_getElem? (i := 1) rfl) rfl rfl ?_
                      refine v_iload_n (pc' := 188) F dX10_change_187 rfl 5 rfl rfl ?_
                      refine v_iald (pc' := 189) (z := (va_up sx t (wC (wC (sx t) ca 0 1) da 1 0)) ub) F dX10_change_188 0 rfl (by omega) (by decide) rfl rfl ?_
                      refine v_top (congrArg nI (up_ne _ _ (show ¬ ub = t by omega))) ?_
                      refine v_iload (pc' := 191) F dX10_change_189 6 rfl rfl ?_
                      refine v_iconst (pc' := 192) (v := (-1)) F dX10_change_191 (by decide) rfl ?_
                      refine v_top (y := nI 0 - nI 1) (by decide) ?_
                      refine cSI0 (pc' := 195) (As := [.int (nI (sx ub)), .int (nI da), .int (nI 0 - nI 1)]) (rest := [.int (nI ub), .ref (ma 8)]) F (c_X10_withCoins (sx ub) da 0 1 (by omega) (by omega) (by omega) (by omega)) (va_cwS 3 F.2.2.2.2.1 gX10_change_X10_withCoins rfl rfl rfl (by decide +kernel) ⟨Nat.le_of_ble_eq_true rfl, Nat.le_of_ble_eq_true rfl⟩) rfl rfl (Nat.le_of_ble_eq_true rfl) dX10_change_192 ⟨Nat.zero_le _, Nat.zero_le _⟩ rfl (fun r u q18 => ?_)
                      obtain rfl := q18
                      refine v_iload_n (pc' := 196) F dX10_change_195 rfl 4 rfl rfl ?_
                      refine v_iconst (pc' := 197) (v := nI 1) F dX10_change_196 (by decide) rfl ?_
                      refine v_top (y := nI 1 - nI 0) (ni_sub0 _).symm ?_
                      refine cSI0 (pc' := 200) (As := [.int (nI (wC (sx ub) da 0 1)), .int (nI ca), .int (nI 1 - nI 0)]) (rest := [.int (nI ub), .ref (ma 8)]) F (c_X10_withCoins (wC (sx ub) da 0 1) ca 1 0 (by omega) (by omega) (by omega) (by omega)) (va_cwS 3 F.2.2.2.2.1 gX10_change_X10_withCoins rfl rfl rfl (by decide +kernel) ⟨Nat.le_of_ble_eq_true rfl, Nat.le_of_ble_eq_true rfl⟩) rfl rfl (Nat.le_of_ble_eq_true rfl) dX10_change_197 ⟨Nat.zero_le _, Nat.zero_le _⟩ rfl (fun r u q19 => ?_)
                      obtain rfl := q19
                      refine v_iast (pc' := 201) (ws' := [(ma 8, aI G 5 (va_up (va_up sx t (wC (wC (sx t) ca 0 1) da 1 0)) ub (wC (wC (sx ub) da 0 1) ca 1 0))), (o, mO ma fi fl)]) F dX10_change_200 0 rfl (by omega) (by decide) rfl rfl ?_
                      have hlt := chN_lt hs5 (show t < 5 by omega) (show ub < 5 by omega) (show ca < 4 by omega) (show da < 4 by omega) hok t (by omega)
                      have hch : va_up (va_up sx t (wC (wC (sx t) ca 0 1) da 1 0)) ub (wC (wC (sx ub) da 0 1) ca 1 0) = chN sx t ca ub da := by unfold chN; rw [if_neg (by omega)]
                      refine v_ws (wz := [(ma 8, aI G 5 (chN sx t ca ub da)), (o, mO ma fi fl)]) (by first | rw [← hch] | rw [hch]) ?_
                      refine v_aload_n (pc' := 202) F dX10_change_201 rfl 2 rfl rfl ?_
                      refine v_get (pc' := 205) (v := .ref (ma 8)) (C := RX10) (T := TX10) (N := 38) F dX10_change_202 in_X10_change_X10 1 rfl rfl 8 (by decide) (List.mem_of_getElem? (i := 1) rfl) rfl rfl ?_
                      refine v_iload_n (pc' := 206) F dX10_change_205 rfl 3 rfl rfl ?_
                      refine v_iald (pc' := 207) (z := (chN sx t ca ub da) t) F dX10_change_206 0 rfl (by omega) (by decide) rfl rfl ?_
                      refine v_iload_n (pc' := 208) F dX10_change_207 rfl 4 rfl rfl ?_
                      refine cSI0 (pc' := 211) (As := [.int (nI ((chN sx t ca ub da) t)), .int (nI ca)]) (rest := []) F (c_X10_coins ((chN sx t ca ub da) t) ca (by omega) (by omega)) (va_cwS 2 F.2.2.2.2.1 gX10_change_X10_coins rfl rfl rfl (by decide +kernel) ⟨Nat.le_of_ble_eq_true rfl, Nat.le_of_ble_eq_true rfl⟩) rfl rfl (Nat.le_of_ble_eq_true rfl) dX10_change_208 ⟨Nat.zero_le _, Nat.zero_le _⟩ rfl (fun r u q20 => ?_)
                      obtain rfl := q20
                      refine v_perm (wz := [(o, mO ma fi fl), (ma 8, aI G 5 (chN sx t ca ub da))]) [1, 0] (by decide) rfl ?_
                      exact rt dX10_change_211 (chN sx t ca ub da) ⟨(by unfold A_change; rw [if_pos (by assumption), if_pos (by assumption), if_neg (nI_neq (by omega) (by omega) (by assumption)), if_pos (by assumption), if_pos (by assumption), tN_nI (t := t) (by omega), tN_nI (t := ub) (by omega), tN_nI (t := ca) (by omega), tN_nI (t := da) (by omega), if_pos hok]), (by unfold N_change; rw [if_pos (by assumption), if_pos (by assumption), if_neg (nI_neq (by omega) (by omega) (by assumption)), if_pos (by assumption), if_pos (by assumption), tN_nI (t := t) (by omega), tN_nI (t := ub) (by omega), tN_nI (t := ca) (by omega), tN_nI (t := da) (by omega), if_pos hok])⟩ rfl
                  · have hno : ¬ chOk sx t ca ub da := fun q => by unfold chOk at q; omega
                    refine v_bipush (pc' := 148) (v := (-103)) F dX10_change_146 (by decide) rfl ?_
                    refine v_perm (wz := [(o, mO ma fi fl), (ma 8, aI G 5 sx)]) [1, 0] (by decide) rfl ?_
                    exact rt dX10_change_148 sx ⟨(by unfold A_change; rw [if_pos (by assumption), if_pos (by assumption), if_neg (nI_neq (by omega) (by omega) (by assumption)), if_pos (by assumption), if_pos (by assumption), tN_nI (t := t) (by omega), tN_nI (t := ub) (by omega), tN_nI (t := ca) (by omega), tN_nI (t := da) (by omega), if_neg hno]), (by unfold N_change; rw [if_pos (by assumption), if_pos (by assumption), if_neg (nI_neq (by omega) (by omega) (by assumption)), if_pos (by assumption), if_pos (by assumption), tN_nI (t := t) (by omega), tN_nI (t := ub) (by omega), tN_nI (t := ca) (by omega), tN_nI (t := da) (by omega), if_neg hno])⟩ rfl
              refine v_iload_n (pc' := 95) F dX10_change_94 rfl 3 rfl rfl ?_
              refine v_iload (pc' := 97) F dX10_change_95 5 rfl rfl ?_
              refine v_ncmp_eq (tgt := 129) (pc' := 100) F dX10_change_97 (by omega) (by omega) (by decide) rfl (fun c21 => ?_) (fun c21 => ?_)
              · refine v_iconst (pc' := 130) (v := nI 1) F dX10_change_129 (by decide) rfl ?_
                refine v_goto (tgt := 134) F dX10_change_130 (by decide) ?_
                exact v_top (nI1_b (by first | assumption | omega)) J134_11
              · refine v_aload_n (pc' := 101) F dX10_change_100 rfl 1 rfl rfl ?_
                refine v_get (pc' := 104) (v := .ref (ma 8)) (C := RX10) (T := TX10) (N := 38) F dX10_change_101 in_X10_change_X10 1 rfl rfl 8 (by decide) (List.mem_of_getElem? (i := 1) rfl) rfl rfl ?_
                refine v_iload_n (pc' := 105) F dX10_change_104 rfl 2 rfl rfl ?_
                refine v_iald (pc' := 106) (z := sx t) F dX10_change_105 0 rfl (by omega) (by decide) rfl rfl ?_
                refine v_iload (pc' := 108) F dX10_change_106 5 rfl rfl ?_
                refine cSI0 (pc' := 111) (As := [.int (nI (sx t)), .int (nI da)]) (rest := []) F (c_X10_coins (sx t) da (by omega) (by omega)) (va_cwS 2 F.2.2.2.2.1 gX10_change_X10_coins rfl rfl rfl (by decide +kernel) ⟨Nat.le_of_ble_eq_true rfl, Nat.le_of_ble_eq_true rfl⟩) rfl rfl (Nat.le_of_ble_eq_true rfl) dX10_change_108 ⟨Nat.zero_le _, Nat.zero_le _⟩ rfl (fun r u q22 => ?_)
                obtain rfl := q22
                refine v_iconst (pc' := 112) (v := nI 4) F dX10_change_111 (by decide) rfl ?_
                refine v_ncmp_ge (tgt := 133) (pc' := 115) F dX10_change_112 (by omega) (by omega) (by decide) rfl (fun c23 => ?_) (fun c23 => ?_)
                · refine v_iconst (pc' := 134) (v := nI 0) F dX10_change_133 (by decide) rfl ?_
                  exact v_top (nI0_b (by first | assumption | omega)) J134_11
                · refine v_aload_n (pc' := 116) F dX10_change_115 rfl 1 rfl rfl ?_
                  refine v_get (pc' := 119) (v := .ref (ma 8)) (C := RX10) (T := TX10) (N := 38) F dX10_change_116 in_X10_change_X10 1 rfl rfl 8 (by decide) (List.mem_of_getElem? (i := 1) rfl) rfl rfl ?_
                  refine v_iload_n (pc' := 120) F dX10_change_119 rfl 4 rfl rfl ?_
                  refine v_iald (pc' := 121) (z := sx ub) F dX10_change_120 0 rfl (by omega) (by decide) rfl rfl ?_
                  refine v_iload_n (pc' := 122) F dX10_change_121 rfl 3 rfl rfl ?_
                  refine cSI0 (pc' := 125) (As := [.int (nI (sx ub)), .int (nI ca)]) (rest := []) F (c_X10_coins (sx ub) ca (by omega) (by omega)) (va_cwS 2 F.2.2.2.2.1 gX10_change_X10_coins rfl rfl rfl (by decide +kernel) ⟨Nat.le_of_ble_eq_true rfl, Nat.le_of_ble_eq_true rfl⟩) rfl rfl (Nat.le_of_ble_eq_true rfl) dX10_change_122 ⟨Nat.zero_le _, Nat.zero_le _⟩ rfl (fun r u q24 => ?_)
                  obtain rfl := q24
                  refine v_iconst (pc' := 126) (v := nI 4) F dX10_change_125 (by decide) rfl ?_
                  refine v_ncmp_ge (tgt := 133) (pc' := 129) F dX10_change_126 (by omega) (by omega) (by decide) rfl (fun c25 => ?_) (fun c25 => ?_)
                  · refine v_iconst (pc' := 134) (v := nI 0) F dX10_change_133 (by decide) rfl ?_
                    exact v_top (nI0_b (by first | assumption | omega)) J134_11
                  · refine v_iconst (pc' := 130) (v := nI 1) F dX10_change_129 (by decide) rfl ?_
                    refine v_goto (tgt := 134) F dX10_change_130 (by decide) ?_
                    exact v_top (nI1_b (by first | assumption | omega)) J134_11
            refine v_aload_n (pc' := 40) F dX10_change_39 rfl 0 rfl rfl ?_
            refine v_get (pc' := 43) (v := .ref (ma 8)) (C := RX10) (T := TX10) (N := 38) F dX10_change_40 in_X10_change_X10 1 rfl rfl 8 (by decide) (List.mem_of_getElem? (i := 1) rfl) rfl rfl ?_
            refine v_iload_n (pc' := 44) F dX10_change_43 rfl 1 rfl rfl ?_
            refine v_iald (pc' := 45) (z := sx t) F dX10_change_44 0 rfl (by omega) (by decide) rfl rfl ?_
            refine v_iload_n (pc' := 46) F dX10_change_45 rfl 2 rfl rfl ?_
            refine cSI0 (pc' := 49) (As := [.int (nI (sx t)), .int (nI ca)]) (rest := []) F (c_X10_coins (sx t) ca (by omega) (by omega)) (va_cwS 2 F.2.2.2.2.1 gX10_change_X10_coins rfl rfl rfl (by decide +kernel) ⟨Nat.le_of_ble_eq_true rfl, Nat.le_of_ble_eq_true rfl⟩) rfl rfl (Nat.le_of_ble_eq_true rfl) dX10_change_46 ⟨Nat.zero_le _, Nat.zero_le _⟩ rfl (fun r u q26 => ?_)
            obtain rfl := q26
            refine v_nif_le (tgt := 91) (pc' := 52) F dX10_change_49 (by omega) (by decide) rfl (fun c27 => ?_) (fun c27 => ?_)
            · refine v_iconst (pc' := 92) (v := nI 0) F dX10_change_91 (by decide) rfl ?_
              exact v_top (nI0_b (by first | assumption | omega)) J92_10
            · refine v_aload_n (pc' := 53) F dX10_change_52 rfl 0 rfl rfl ?_
              refine v_get (pc' := 56) (v := .ref (ma 8)) (C := RX10) (T := TX10) (N := 38) F dX10_change_53 in_X10_change_X10 1 rfl rfl 8 (by decide) (List.mem_of_getElem? (i := 1) rfl) rfl rfl ?_
              refine v_iload_n (pc' := 57) F dX10_change_56 rfl 3 rfl rfl ?_
              refine v_iald (pc' := 58) (z := sx ub) F dX10_change_57 0 rfl (by omega) (by decide) rfl rfl ?_
              refine v_iload (pc' := 60) F dX10_change_58 4 rfl rfl ?_
              refine cSI0 (pc' := 63) (As := [.int (nI (sx ub)), .int (nI da)]) (rest := []) F (c_X10_coins (sx ub) da (by omega) (by omega)) (va_cwS 2 F.2.2.2.2.1 gX10_change_X10_coins rfl rfl rfl (by decide +kernel) ⟨Nat.le_of_ble_eq_true rfl, Nat.le_of_ble_eq_true rfl⟩) rfl rfl (Nat.le_of_ble_eq_true rfl) dX10_change_60 ⟨Nat.zero_le _, Nat.zero_le _⟩ rfl (fun r u q28 => ?_)
              obtain rfl := q28
              refine v_nif_le (tgt := 91) (pc' := 66) F dX10_change_63 (by omega) (by decide) rfl (fun c29 => ?_) (fun c29 => ?_)
              · refine v_iconst (pc' := 92) (v := nI 0) F dX10_change_91 (by decide) rfl ?_
                exact v_top (nI0_b (by first | assumption | omega)) J92_10
              · refine v_aload_n (pc' := 67) F dX10_change_66 rfl 0 rfl rfl ?_
                refine v_get (pc' := 70) (v := .ref (ma 8)) (C := RX10) (T := TX10) (N := 38) F dX10_change_67 in_X10_change_X10 1 rfl rfl 8 (by decide) (List.mem_of_getElem? (i := 1) rfl) rfl rfl ?_
                refine v_iload_n (pc' := 71) F dX10_change_70 rfl 1 rfl rfl ?_
                refine v_iald (pc' := 72) (z := sx t) F dX10_change_71 0 rfl (by omega) (by decide) rfl rfl ?_
                refine cSI0 (pc' := 75) (As := [.int (nI (sx t))]) (rest := []) F (c_X10_townIn (sx t) (by omega)) (va_cwS 1 F.2.2.2.2.1 gX10_change_X10_townIn rfl rfl rfl (by decide +kernel) ⟨Nat.le_of_ble_eq_true rfl, Nat.le_of_ble_eq_true rfl⟩) rfl rfl (Nat.le_of_ble_eq_true rfl) dX10_change_72 ⟨Nat.zero_le _, Nat.zero_le _⟩ rfl (fun r u q30 => ?_)
                obtain rfl := q30
                refine v_aload_n (pc' := 76) F dX10_change_75 rfl 0 rfl rfl ?_
                refine v_get (pc' := 79) (v := .ref (ma 8)) (C := RX10) (T := TX10) (N := 38) F dX10_change_76 in_X10_change_X10 1 rfl rfl 8 (by decide) (List.mem_of_getElem? (i := 1) rfl) rfl rfl ?_
                refine v_iload_n (pc' := 80) F dX10_change_79 rfl 3 rfl rfl ?_
                refine v_iald (pc' := 81) (z := sx ub) F dX10_change_80 0 rfl (by omega) (by decide) rfl rfl ?_
                refine cSI0 (pc' := 84) (As := [.int (nI (sx ub))]) (rest := [.int (nI ((sx t) % 4))]) F (c_X10_townIn (sx ub) (by omega)) (va_cwS 1 F.2.2.2.2.1 gX10_change_X10_townIn rfl rfl rfl (by decide +kernel) ⟨Nat.le_of_ble_eq_true rfl, Nat.le_of_ble_eq_true rfl⟩) rfl rfl (Nat.le_of_ble_eq_true rfl) dX10_change_81 ⟨Nat.zero_le _, Nat.zero_le _⟩ rfl (fun r u q31 => ?_)
                obtain rfl := q31
                refine v_ncmp_ne (tgt := 91) (pc' := 87) F dX10_change_84 (by omega) (by omega) (by decide) rfl (fun c32 => ?_) (fun c32 => ?_)
                · refine v_iconst (pc' := 92) (v := nI 0) F dX10_change_91 (by decide) rfl ?_
                  exact v_top (nI0_b (by first | assumption | omega)) J92_10
                · refine v_iconst (pc' := 88) (v := nI 1) F dX10_change_87 (by decide) rfl ?_
                  refine v_goto (tgt := 92) F dX10_change_88 (by decide) ?_
                  exact v_top (nI1_b (by first | assumption | omega)) J92_10
          · refine v_bipush (pc' := 38) (v := (-101)) F dX10_change_36 (by decide) rfl ?_
            refine v_perm (wz := [(o, mO ma fi fl), (ma 8, aI G 5 sx)]) [1, 0] (by decide) rfl ?_
            exact rt dX10_change_38 sx ⟨(by unfold A_change; repeat (first | rw [if_pos (by assumption)] | rw [if_neg (by assumption)] | rw [if_neg (nI_neq (by omega) (by omega) (by assumption))] | rw [if_pos (congrArg nI (by assumption))])), (by unfold N_change; repeat (first | rw [if_pos (by assumption)] | rw [if_neg (by assumption)] | rw [if_neg (nI_neq (by omega) (by omega) (by assumption))] | rw [if_pos (congrArg nI (by assumption))]))⟩ rfl
def rm_X9_change : Room := { frames := 2, cells := 0, slots := 0, locals := 44 }
theorem in_X9_change_X5 : ∀ w ∈ u_ws RX5 TX5 2, w ∈ wsX9_change := fun w h => List.mem_cons_of_mem _ (List.mem_append_right _ (h))
theorem in_X9_change_X9 : ∀ w ∈ u_ws RX9 TX9 12, w ∈ wsX9_change := fun w h => List.mem_cons_of_mem _ (List.mem_append_left _ (List.mem_append_right _ (h)))
set_option maxHeartbeats 4000000 in
set_option maxRecDepth 100000 in
theorem c_X9_change {l : Launch} {D : va_G} {G : gT} (x pgo ppa dl se tr im la dr pe ac lr sd : Nat) (pq ks sx : Nat → Nat) (y z v w : Int32) (h5 : pe ≤ 5) (hs5 : ∀ j, j < 5 → sx j < 40000) : CtI (σ := (Nat → Nat)) l yX9_change wsX9_change rm_X9_change D G [.ref x, .int y, .int z, .int v, .int w] ((x, .inr (7, [.ref pgo, .ref ppa, .ref dl, .ref se, .ref tr, .ref im, .ref la, .ref dr, .int (nI pe), .int (nI ac), .int (nI lr), .int (nI sd)])) :: (ppa, aP G 5 pq) :: pX G pq ks sx) (fun r u => r = A_change pe sx y z v w ∧ u = N_change pe sx y z v w) (fun u => ((x, .inr (7, [.ref pgo, .ref ppa, .ref dl, .ref se, .ref tr, .ref im, .ref la, .ref dr, .int (nI pe), .int (nI ac), .int (nI lr), .int (nI sd)])) :: (ppa, aP G 5 pq) :: pX G pq ks u)) := by
  refine openI (maxL := 7) (by decide) rfl (Nat.le_of_ble_eq_true rfl) ?_
  intro pg ev sg mm ags bl me cd A Q F hmn rt
  refine v_lv (lz := [(0, .ref x), (1, .int y), (2, .int z), (3, .int v), (4, .int w)]) rfl ?_
  refine v_aload_n (pc' := 1) F dX9_change_0 rfl 0 rfl rfl ?_
  refine v_iload_n (pc' := 2) F dX9_change_1 rfl 1 rfl rfl ?_
  refine cVI (pc' := 5) (As := [.int y]) (rest := []) (wr := ((ppa, aP G 5 pq) :: pX G pq ks sx)) F (c_X9_isPerson x pgo ppa dl se tr im la dr pe ac lr sd y) (cwV 1 F.2.2.2.2.1 gX9_change_X9_isPerson rfl rfl rfl (by decide +kernel) ⟨Nat.le_of_ble_eq_true rfl, Nat.le_of_ble_eq_true rfl⟩) (v_rcvW F 7 0 rfl rfl) rfl rfl (Nat.le_of_ble_eq_true rfl) dX9_change_2 [0] [1, 2, 3, 4, 5, 6] (by decide) rfl rfl (by decide) (by decide) ⟨Nat.zero_le _, Nat.zero_le _⟩ rfl (fun r u q1 => ?_)
  obtain rfl := q1
  refine v_perm (wz := ((ppa, aP G 5 pq) :: (x, .inr (7, [.ref pgo, .ref ppa, .ref dl, .ref se, .ref tr, .ref im, .ref la, .ref dr, .int (nI pe), .int (nI ac), .int (nI lr), .int (nI sd)])) :: pX G pq ks sx)) [0, 6, 1, 2, 3, 4, 5] (by decide) rfl ?_
  refine v_bif_eq (tgt := 36) (pc' := 8) F dX9_change_5 (by decide) rfl (fun c2 => ?_) (fun c2 => ?_)
  · refine v_bipush (pc' := 38) (v := (-101)) F dX9_change_36 (by decide) rfl ?_
    refine v_perm (wz := ((x, .inr (7, [.ref pgo, .ref ppa, .ref dl, .ref se, .ref tr, .ref im, .ref la, .ref dr, .int (nI pe), .int (nI ac), .int (nI lr), .int (nI sd)])) :: (ppa, aP G 5 pq) :: pX G pq ks sx)) [1, 0, 2, 3, 4, 5, 6] (by decide) rfl ?_
    exact rt dX9_change_38 sx ⟨(by unfold A_change; repeat (first | rw [if_pos (by assumption)] | rw [if_neg (by assumption)] | rw [if_neg (nI_neq (by omega) (by omega) (by assumption))] | rw [if_pos (congrArg nI (by assumption))])), (by unfold N_change; repeat (first | rw [if_pos (by assumption)] | rw [if_neg (by assumption)] | rw [if_neg (nI_neq (by omega) (by omega) (by assumption))] | rw [if_pos (congrArg nI (by assumption))]))⟩ rfl
  · obtain ⟨t, ht, rfl⟩ := isP_of (by omega) c2
    have hsa := hs5 t (by omega)
    refine v_aload_n (pc' := 9) F dX9_change_8 rfl 0 rfl rfl ?_
    refine v_iload_n (pc' := 10) F dX9_change_9 rfl 3 rfl rfl ?_
    refine cVI (pc' := 13) (As := [.int v]) (rest := []) (wr := ((ppa, aP G 5 pq) :: pX G pq ks sx)) F (c_X9_isPerson x pgo ppa dl se tr im la dr pe ac lr sd v) (cwV 1 F.2.2.2.2.1 gX9_change_X9_isPerson rfl rfl rfl (by decide +kernel) ⟨Nat.le_of_ble_eq_true rfl, Nat.le_of_ble_eq_true rfl⟩) (v_rcvW F 7 1 rfl rfl) rfl rfl (Nat.le_of_ble_eq_true rfl) dX9_change_10 [1] [0, 2, 3, 4, 5, 6] (by decide) rfl rfl (by decide) (by decide) ⟨Nat.zero_le _, Nat.zero_le _⟩ rfl (fun r u q3 => ?_)
    obtain rfl := q3
    refine v_perm (wz := ((ppa, aP G 5 pq) :: (x, .inr (7, [.ref pgo, .ref ppa, .ref dl, .ref se, .ref tr, .ref im, .ref la, .ref dr, .int (nI pe), .int (nI ac), .int (nI lr), .int (nI sd)])) :: pX G pq ks sx)) [0, 6, 1, 2, 3, 4, 5] (by decide) rfl ?_
    refine v_bif_eq (tgt := 36) (pc' := 16) F dX9_change_13 (by decide) rfl (fun c4 => ?_) (fun c4 => ?_)
    · refine v_bipush (pc' := 38) (v := (-101)) F dX9_change_36 (by decide) rfl ?_
      refine v_perm (wz := ((x, .inr (7, [.ref pgo, .ref ppa, .ref dl, .ref se, .ref tr, .ref im, .ref la, .ref dr, .int (nI pe), .int (nI ac), .int (nI lr), .int (nI sd)])) :: (ppa, aP G 5 pq) :: pX G pq ks sx)) [1, 0, 2, 3, 4, 5, 6] (by decide) rfl ?_
      exact rt dX9_change_38 sx ⟨(by unfold A_change; repeat (first | rw [if_pos (by assumption)] | rw [if_neg (by assumption)] | rw [if_neg (nI_neq (by omega) (by omega) (by assumption))] | rw [if_pos (congrArg nI (by assumption))])), (by unfold N_change; repeat (first | rw [if_pos (by assumption)] | rw [if_neg (by assumption)] | rw [if_neg (nI_neq (by omega) (by omega) (by assumption))] | rw [if_pos (congrArg nI (by assumption))]))⟩ rfl
    · obtain ⟨ub, hub, rfl⟩ := isP_of (by omega) c4
      have hsb := hs5 ub (by omega)
      refine v_iload_n (pc' := 17) F dX9_change_16 rfl 1 rfl rfl ?_
      refine v_iload_n (pc' := 18) F dX9_change_17 rfl 3 rfl rfl ?_
      refine v_ncmp_eq (tgt := 36) (pc' := 21) F dX9_change_18 (by omega) (by omega) (by decide) rfl (fun c5 => ?_) (fun c5 => ?_)
      · refine v_bipush (pc' := 38) (v := (-101)) F dX9_change_36 (by decide) rfl ?_
        refine v_perm (wz := ((x, .inr (7, [.ref pgo, .ref ppa, .ref dl, .ref se, .ref tr, .ref im, .ref la, .ref dr, .int (nI pe), .int (nI ac), .int (nI lr), .int (nI sd)])) :: (ppa, aP G 5 pq) :: pX G pq ks sx)) [1, 0, 2, 3, 4, 5, 6] (by decide) rfl ?_
        exact rt dX9_change_38 sx ⟨(by unfold A_change; repeat (first | rw [if_pos (by assumption)] | rw [if_neg (by assumption)] | rw [if_neg (nI_neq (by omega) (by omega) (by assumption))] | rw [if_pos (congrArg nI (by assumption))])), (by unfold N_change; repeat (first | rw [if_pos (by assumption)] | rw [if_neg (by assumption)] | rw [if_neg (nI_neq (by omega) (by omega) (by assumption))] | rw [if_pos (congrArg nI (by assumption))]))⟩ rfl
      · refine v_iload_n (pc' := 22) F dX9_change_21 rfl 2 rfl rfl ?_
        refine cSI0 (pc' := 25) (As := [.int z]) (rest := []) F (c_X9_isCoin z) (va_cwS 1 F.2.2.2.2.1 gX9_change_X9_isCoin rfl rfl rfl (by decide +kernel) ⟨Nat.le_of_ble_eq_true rfl, Nat.le_of_ble_eq_true rfl⟩) rfl rfl (Nat.le_of_ble_eq_true rfl) dX9_change_22 ⟨Nat.zero_le _, Nat.zero_le _⟩ rfl (fun r u q6 => ?_)
        obtain rfl := q6
        refine v_bif_eq (tgt := 36) (pc' := 28) F dX9_change_25 (by decide) rfl (fun c7 => ?_) (fun c7 => ?_)
        · refine v_bipush (pc' := 38) (v := (-101)) F dX9_change_36 (by decide) rfl ?_
          refine v_perm (wz := ((x, .inr (7, [.ref pgo, .ref ppa, .ref dl, .ref se, .ref tr, .ref im, .ref la, .ref dr, .int (nI pe), .int (nI ac), .int (nI lr), .int (nI sd)])) :: (ppa, aP G 5 pq) :: pX G pq ks sx)) [1, 0, 2, 3, 4, 5, 6] (by decide) rfl ?_
          exact rt dX9_change_38 sx ⟨(by unfold A_change; repeat (first | rw [if_pos (by assumption)] | rw [if_neg (by assumption)] | rw [if_neg (nI_neq (by omega) (by omega) (by assumption))] | rw [if_pos (congrArg nI (by assumption))])), (by unfold N_change; repeat (first | rw [if_pos (by assumption)] | rw [if_neg (by assumption)] | rw [if_neg (nI_neq (by omega) (by omega) (by assumption))] | rw [if_pos (congrArg nI (by assumption))]))⟩ rfl
        · obtain ⟨ca, hca, rfl⟩ := inR_of (by decide) c7
          refine v_iload (pc' := 30) F dX9_change_28 4 rfl rfl ?_
          refine cSI0 (pc' := 33) (As := [.int w]) (rest := []) F (c_X9_isCoin w) (va_cwS 1 F.2.2.2.2.1 gX9_change_X9_isCoin rfl rfl rfl (by decide +kernel) ⟨Nat.le_of_ble_eq_true rfl, Nat.le_of_ble_eq_true rfl⟩) rfl rfl (Nat.le_of_ble_eq_true rfl) dX9_change_30 ⟨Nat.zero_le _, Nat.zero_le _⟩ rfl (fun r u q8 => ?_)
          obtain rfl := q8
          refine v_bif_ne (tgt := 39) (pc' := 36) F dX9_change_33 (by decide) rfl (fun c9 => ?_) (fun c9 => ?_)
          · obtain ⟨da, hda, rfl⟩ := inR_of (by decide) c9
            refine v_aload_n (pc' := 40) F dX9_change_39 rfl 0 rfl rfl ?_
            refine v_get (pc' := 43) (C := RX9) (T := TX9) (N := 12) F dX9_change_40 in_X9_change_X9 1 rfl rfl 1 (by decide) (List.mem_of_getElem? (i := 1) rfl) rfl rfl ?_
            refine v_iload_n (pc' := 44) F dX9_change_43 rfl 1 rfl rfl ?_
            refine v_pald (pc' := 45) (z := pq t) F dX9_change_44 0 rfl (by omega) (by decide) rfl rfl ?_
            refine v_astore (pc' := 47) (lv' := [(5, .ref (pq t)), (0, .ref x), (1, .int (nI t)), (2, .int (nI ca)), (3, .int (nI ub)), (4, .int (nI da))]) F dX9_change_45 (by decide) rfl rfl ?_
            refine v_aload_n (pc' := 48) F dX9_change_47 rfl 1 rfl rfl ?_
            refine v_get (pc' := 51) (C := RX9) (T := TX9) (N := 12) F dX9_change_48 in_X9_change_X9 1 rfl rfl 1 (by decide) (List.mem_of_getElem? (i := 1) rfl) rfl rfl ?_
            refine v_iload_n (pc' := 52) F dX9_change_51 rfl 4 rfl rfl ?_
            refine v_pald (pc' := 53) (z := pq ub) F dX9_change_52 0 rfl (by omega) (by decide) rfl rfl ?_
            refine v_astore (pc' := 55) (lv' := [(6, .ref (pq ub)), (5, .ref (pq t)), (0, .ref x), (1, .int (nI t)), (2, .int (nI ca)), (3, .int (nI ub)), (4, .int (nI da))]) F dX9_change_53 (by decide) rfl rfl ?_
            refine v_aload (pc' := 57) F dX9_change_55 1 rfl rfl ?_
            refine v_get (pc' := 60) (C := RX5) (T := TX5) (N := 2) F dX9_change_57 in_X9_change_X5 (t + 2) (pX_at (by omega)) rfl 1 (by decide) (List.mem_of_getElem? (i := 2) rfl) rfl rfl ?_
            refine cSI0 (pc' := 63) (As := [.int (nI (eS (sx t)))]) (rest := []) F (c_X7_townOf (sx t) (by omega)) (va_cwS 1 F.2.2.2.2.1 gX9_change_X7_townOf rfl rfl rfl (by decide +kernel) ⟨Nat.le_of_ble_eq_true rfl, Nat.le_of_ble_eq_true rfl⟩) rfl rfl (Nat.le_of_ble_eq_true rfl) dX9_change_60 ⟨Nat.zero_le _, Nat.zero_le _⟩ rfl (fun r u q10 => ?_)
            obtain rfl := q10
            refine v_aload (pc' := 65) F dX9_change_63 0 rfl rfl ?_
            refine v_get (pc' := 68) (C := RX5) (T := TX5) (N := 2) F dX9_change_65 in_X9_change_X5 (ub + 2) (pX_at (by omega)) rfl 1 (by decide) (List.mem_of_getElem? (i := 2) rfl) rfl rfl ?_
            refine cSI0 (pc' := 71) (As := [.int (nI (eS (sx ub)))]) (rest := [.int (nI ((sx t) % 4))]) F (c_X7_townOf (sx ub) (by omega)) (va_cwS 1 F.2.2.2.2.1 gX9_change_X7_townOf rfl rfl rfl (by decide +kernel) ⟨Nat.le_of_ble_eq_true rfl, Nat.le_of_ble_eq_true rfl⟩) rfl rfl (Nat.le_of_ble_eq_true rfl) dX9_change_68 ⟨Nat.zero_le _, Nat.zero_le _⟩ rfl (fun r u q11 => ?_)
            obtain rfl := q11
            refine v_ncmp_ne (tgt := 96) (pc' := 74) F dX9_change_71 (by omega) (by omega) (by decide) rfl (fun c12 => ?_) (fun c12 => ?_)
            · have hno : ¬ chOk sx t ca ub da := fun q => by unfold chOk at q; omega
              refine v_bipush (pc' := 98) (v := (-103)) F dX9_change_96 (by decide) rfl ?_
              refine v_perm (wz := ((x, .inr (7, [.ref pgo, .ref ppa, .ref dl, .ref se, .ref tr, .ref im, .ref la, .ref dr, .int (nI pe), .int (nI ac), .int (nI lr), .int (nI sd)])) :: (ppa, aP G 5 pq) :: pX G pq ks sx)) [1, 0, 2, 3, 4, 5, 6] (by decide) rfl ?_
              exact rt dX9_change_98 sx ⟨(by unfold A_change; rw [if_pos (by assumption), if_pos (by assumption), if_neg (nI_neq (by omega) (by omega) (by assumption)), if_pos (by assumption), if_pos (by assumption), tN_nI (t := t) (by omega), tN_nI (t := ub) (by omega), tN_nI (t := ca) (by omega), tN_nI (t := da) (by omega), if_neg hno]), (by unfold N_change; rw [if_pos (by assumption), if_pos (by assumption), if_neg (nI_neq (by omega) (by omega) (by assumption)), if_pos (by assumption), if_pos (by assumption), tN_nI (t := t) (by omega), tN_nI (t := ub) (by omega), tN_nI (t := ca) (by omega), tN_nI (t := da) (by omega), if_neg hno])⟩ rfl
            · refine v_aload (pc' := 76) F dX9_change_74 1 rfl rfl ?_
              refine v_iload_n (pc' := 77) F dX9_change_76 rfl 4 rfl rfl ?_
              refine v_iload (pc' := 79) F dX9_change_77 6 rfl rfl ?_
              refine cVI (pc' := 82) (As := [.int (nI ca), .int (nI da)]) (rest := []) (wr := [(ppa, aP G 5 pq), (x, .inr (7, [.ref pgo, .ref ppa, .ref dl, .ref se, .ref tr, .ref im, .ref la, .ref dr, .int (nI pe), .int (nI ac), .int (nI lr), .int (nI sd)]))]) F (c_X5_canSwap pq ks sx t ca da (by omega) (by omega) (by omega) (by omega)) (cwV 2 F.2.2.2.2.1 gX9_change_X5_canSwap rfl rfl rfl (by decide +kernel) ⟨Nat.le_of_ble_eq_true rfl, Nat.le_of_ble_eq_true rfl⟩) (v_rcvW F 4 (t + 2) rfl (pX_at (by omega))) rfl rfl (Nat.le_of_ble_eq_true rfl) dX9_change_79 [2, 3, 4, 5, 6] [0, 1] (by decide) rfl rfl (by decide) (by decide) ⟨Nat.zero_le _, Nat.zero_le _⟩ rfl (fun r u q13 => ?_)
              obtain rfl := q13
              refine v_ws (wz := ((ppa, aP G 5 pq) :: (x, .inr (7, [.ref pgo, .ref ppa, .ref dl, .ref se, .ref tr, .ref im, .ref la, .ref dr, .int (nI pe), .int (nI ac), .int (nI lr), .int (nI sd)])) :: pX G pq ks sx)) rfl ?_
              refine v_bif_eq (tgt := 96) (pc' := 85) F dX9_change_82 (by decide) rfl (fun c14 => ?_) (fun c14 => ?_)
              · have hno : ¬ chOk sx t ca ub da := fun q => by unfold chOk at q; omega
                refine v_bipush (pc' := 98) (v := (-103)) F dX9_change_96 (by decide) rfl ?_
                refine v_perm (wz := ((x, .inr (7, [.ref pgo, .ref ppa, .ref dl, .ref se, .ref tr, .ref im, .ref la, .ref dr, .int (nI pe), .int (nI ac), .int (nI lr), .int (nI sd)])) :: (ppa, aP G 5 pq) :: pX G pq ks sx)) [1, 0, 2, 3, 4, 5, 6] (by decide) rfl ?_
                exact rt dX9_change_98 sx ⟨(by unfold A_change; rw [if_pos (by assumption), if_pos (by assumption), if_neg (nI_neq (by omega) (by omega) (by assumption)), if_pos (by assumption), if_pos (by assumption), tN_nI (t := t) (by omega), tN_nI (t := ub) (by omega), tN_nI (t := ca) (by omega), tN_nI (t := da) (by omega), if_neg hno]), (by unfold N_change; rw [if_pos (by assumption), if_pos (by assumption), if_neg (nI_neq (by omega) (by omega) (by assumption)), if_pos (by assumption), if_pos (by assumption), tN_nI (t := t) (by omega), tN_nI (t := ub) (by omega), tN_nI (t := ca) (by omega), tN_nI (t := da) (by omega), if_neg hno])⟩ rfl
              · refine v_aload (pc' := 87) F dX9_change_85 0 rfl rfl ?_
                refine v_iload (pc' := 89) F dX9_change_87 6 rfl rfl ?_
                refine v_iload_n (pc' := 90) F dX9_change_89 rfl 4 rfl rfl ?_
                refine cVI (pc' := 93) (As := [.int (nI da), .int (nI ca)]) (rest := []) (wr := [(ppa, aP G 5 pq), (x, .inr (7, [.ref pgo, .ref ppa, .ref dl, .ref se, .ref tr, .ref im, .ref la, .ref dr, .int (nI pe), .int (nI ac), .int (nI lr), .int (nI sd)]))]) F (c_X5_canSwap pq ks sx ub da ca (by omega) (by omega) (by omega) (by omega)) (cwV 2 F.2.2.2.2.1 gX9_change_X5_canSwap rfl rfl rfl (by decide +kernel) ⟨Nat.le_of_ble_eq_true rfl, Nat.le_of_ble_eq_true rfl⟩) (v_rcvW F 4 (ub + 2) rfl (pX_at (by omega))) rfl rfl (Nat.le_of_ble_eq_true rfl) dX9_change_90 [2, 3, 4, 5, 6] [0, 1] (by decide) rfl rfl (by decide) (by decide) ⟨Nat.zero_le _, Nat.zero_le _⟩ rfl (fun r u q15 => ?_)
                obtain rfl := q15
                refine v_ws (wz := ((ppa, aP G 5 pq) :: (x, .inr (7, [.ref pgo, .ref ppa, .ref dl, .ref se, .ref tr, .ref im, .ref la, .ref dr, .int (nI pe), .int (nI ac), .int (nI lr), .int (nI sd)])) :: pX G pq ks sx)) rfl ?_
                refine v_bif_ne (tgt := 99) (pc' := 96) F dX9_change_93 (by decide) rfl (fun c16 => ?_) (fun c16 => ?_)
                · have hok : chOk sx t ca ub da := by unfold chOk; omega
                  refine v_aload (pc' := 101) F dX9_change_99 1 rfl rfl ?_
                  refine v_iload_n (pc' := 102) F dX9_change_101 rfl 4 rfl rfl ?_
                  refine v_iload (pc' := 104) F dX9_change_102 6 rfl rfl ?_
                  refine cVV (pc' := 107) (As := [.int (nI ca), .int (nI da)]) (rest := []) (wr := [(ppa, aP G 5 pq), (x, .inr (7, [.ref pgo, .ref ppa, .ref dl, .ref se, .ref tr, .ref im, .ref la, .ref dr, .int (nI pe), .int (nI ac), .int (nI lr), .int (nI sd)]))]) F (c_X5_swap pq ks sx t ca da (by omega) (by omega) (by omega) (by omega) (by omega) (by omega)) (cwV 2 F.2.2.2.2.1 gX9_change_X5_swap rfl rfl rfl (by decide +kernel) ⟨Nat.le_of_ble_eq_true rfl, Nat.le_of_ble_eq_true rfl⟩) (v_rcvW F 4 (t + 2) rfl (pX_at (by omega))) rfl rfl (Nat.le_of_ble_eq_true rfl) dX9_change_104 [2, 3, 4, 5, 6] [0, 1] (by decide) rfl rfl (by decide) (by decide) ⟨Nat.zero_le _, Nat.zero_le _⟩ rfl (fun u q17 => ?_)
                  refine v_ws (wz := ((ppa, aP G 5 pq) :: (x, .inr (7, [.ref pgo, .ref ppa, .ref dl, .ref se, .ref tr, .ref im, .ref la, .ref dr, .int (nI pe), .int (nI ac), .int (nI lr), .int (nI sd)])) :: pX G pq ks (va_up sx t (wC (wC (sx t) ca 0 1) da 1 0)))) rfl ?_
                  have hnu : (va_up sx t (wC (wC (sx t) ca 0 1) da 1 0)) ub = sx ub := up_ne _ _ (show ¬ ub = t by omega)
                  refine v_aload (pc' := 109) F dX9_change_107 0 rfl rfl ?_
                  refine v_iload (pc' := 111) F dX9_change_109 6 rfl rfl ?_
                  refine v_iload_n (pc' := 112) F dX9_change_111 rfl 4 rfl rfl ?_
                  refine cVV (pc' := 115) (As := [.int (nI da), .int (nI ca)]) (rest := []) (wr := [(ppa, aP G 5 pq), (x, .inr (7, [.ref pgo, .ref ppa, .ref dl, .ref se, .ref tr, .ref im, .ref la, .ref dr, .int (nI pe), .int (nI ac), .int (nI lr), .int (nI sd)]))]) F (c_X5_swap pq ks (va_up sx t (wC (wC (sx t) ca 0 1) da 1 0)) ub da ca (by omega) (by rw [hnu]; omega) (by omega) (by omega) (by rw [hnu]; omega) (by rw [hnu]; omega)) (cwV 2 F.2.2.2.2.1 gX9_change_X5_swap rfl rfl rfl (by decide +kernel) ⟨Nat.le_of_ble_eq_true rfl, Nat.le_of_ble_eq_true rfl⟩) (v_rcvW F 4 (ub + 2) rfl (pX_at (by omega))) rfl rfl (Nat.le_of_ble_eq_true rfl) dX9_change_112 [2, 3, 4, 5, 6] [0, 1] (by decide) rfl rfl (by decide) (by decide) ⟨Nat.zero_le _, Nat.zero_le _⟩ rfl (fun u q18 => ?_)
                  refine v_ws (wz := ((ppa, aP G 5 pq) :: (x, .inr (7, [.ref pgo, .ref ppa, .ref dl, .ref se, .ref tr, .ref im, .ref la, .ref dr, .int (nI pe), .int (nI ac), .int (nI lr), .int (nI sd)])) :: pX G pq ks (va_up (va_up sx t (wC (wC (sx t) ca 0 1) da 1 0)) ub (wC (wC ((va_up sx t (wC (wC (sx t) ca 0 1) da 1 0)) ub) da 0 1) ca 1 0)))) rfl ?_
                  have hch : va_up (va_up sx t (wC (wC (sx t) ca 0 1) da 1 0)) ub (wC (wC ((va_up sx t (wC (wC (sx t) ca 0 1) da 1 0)) ub) da 0 1) ca 1 0) = chN sx t ca ub da := by rw [hnu]; exact chN_sys (by omega) (by omega) (by assumption) hok
                  refine v_ws (wz := ((ppa, aP G 5 pq) :: (x, .inr (7, [.ref pgo, .ref ppa, .ref dl, .ref se, .ref tr, .ref im, .ref la, .ref dr, .int (nI pe), .int (nI ac), .int (nI lr), .int (nI sd)])) :: pX G pq ks (chN sx t ca ub da))) (by rw [hch]) ?_
                  have hlt := chN_lt hs5 (show t < 5 by omega) (show ub < 5 by omega) (show ca < 4 by omega) (show da < 4 by omega) hok t (by omega)
                  refine v_aload (pc' := 117) F dX9_change_115 1 rfl rfl ?_
                  refine v_get (pc' := 120) (C := RX5) (T := TX5) (N := 2) F dX9_change_117 in_X9_change_X5 (t + 2) (pX_at (by omega)) rfl 1 (by decide) (List.mem_of_getElem? (i := 2) rfl) rfl rfl ?_
                  refine v_iload_n (pc' := 121) F dX9_change_120 rfl 4 rfl rfl ?_
                  refine cSI0 (pc' := 124) (As := [.int (nI (eS ((chN sx t ca ub da) t))), .int (nI ca)]) (rest := []) F (c_X7_coinsOf ((chN sx t ca ub da) t) ca (by omega) (by omega)) (va_cwS 2 F.2.2.2.2.1 gX9_change_X7_coinsOf rfl rfl rfl (by decide +kernel) ⟨Nat.le_of_ble_eq_true rfl, Nat.le_of_ble_eq_true rfl⟩) rfl rfl (Nat.le_of_ble_eq_true rfl) dX9_change_121 ⟨Nat.zero_le _, Nat.zero_le _⟩ rfl (fun r u q19 => ?_)
                  obtain rfl := q19
                  refine v_perm (wz := ((x, .inr (7, [.ref pgo, .ref ppa, .ref dl, .ref se, .ref tr, .ref im, .ref la, .ref dr, .int (nI pe), .int (nI ac), .int (nI lr), .int (nI sd)])) :: (ppa, aP G 5 pq) :: pX G pq ks (chN sx t ca ub da))) [1, 0, 2, 3, 4, 5, 6] (by decide) rfl ?_
                  exact rt dX9_change_124 (chN sx t ca ub da) ⟨(by unfold A_change; rw [if_pos (by assumption), if_pos (by assumption), if_neg (nI_neq (by omega) (by omega) (by assumption)), if_pos (by assumption), if_pos (by assumption), tN_nI (t := t) (by omega), tN_nI (t := ub) (by omega), tN_nI (t := ca) (by omega), tN_nI (t := da) (by omega), if_pos hok]), (by unfold N_change; rw [if_pos (by assumption), if_pos (by assumption), if_neg (nI_neq (by omega) (by omega) (by assumption)), if_pos (by assumption), if_pos (by assumption), tN_nI (t := t) (by omega), tN_nI (t := ub) (by omega), tN_nI (t := ca) (by omega), tN_nI (t := da) (by omega), if_pos hok])⟩ rfl
                · have hno : ¬ chOk sx t ca ub da := fun q => by unfold chOk at q; omega
                  refine v_bipush (pc' := 98) (v := (-103)) F dX9_change_96 (by decide) rfl ?_
                  refine v_perm (wz := ((x, .inr (7, [.ref pgo, .ref ppa, .ref dl, .ref se, .ref tr, .ref im, .ref la, .ref dr, .int (nI pe), .int (nI ac), .int (nI lr), .int (nI sd)])) :: (ppa, aP G 5 pq) :: pX G pq ks sx)) [1, 0, 2, 3, 4, 5, 6] (by decide) rfl ?_
                  exact rt dX9_change_98 sx ⟨(by unfold A_change; rw [if_pos (by assumption), if_pos (by assumption), if_neg (nI_neq (by omega) (by omega) (by assumption)), if_pos (by assumption), if_pos (by assumption), tN_nI (t := t) (by omega), tN_nI (t := ub) (by omega), tN_nI (t := ca) (by omega), tN_nI (t := da) (by omega), if_neg hno]), (by unfold N_change; rw [if_pos (by assumption), if_pos (by assumption), if_neg (nI_neq (by omega) (by omega) (by assumption)), if_pos (by assumption), if_pos (by assumption), tN_nI (t := t) (by omega), tN_nI (t := ub) (by omega), tN_nI (t := ca) (by omega), tN_nI (t := da) (by omega), if_neg hno])⟩ rfl
          · refine v_bipush (pc' := 38) (v := (-101)) F dX9_change_36 (by decide) rfl ?_
            refine v_perm (wz := ((x, .inr (7, [.ref pgo, .ref ppa, .ref dl, .ref se, .ref tr, .ref im, .ref la, .ref dr, .int (nI pe), .int (nI ac), .int (nI lr), .int (nI sd)])) :: (ppa, aP G 5 pq) :: pX G pq ks sx)) [1, 0, 2, 3, 4, 5, 6] (by decide) rfl ?_
            exact rt dX9_change_38 sx ⟨(by unfold A_change; repeat (first | rw [if_pos (by assumption)] | rw [if_neg (by assumption)] | rw [if_neg (nI_neq (by omega) (by omega) (by assumption))] | rw [if_pos (congrArg nI (by assumption))])), (by unfold N_change; repeat (first | rw [if_pos (by assumption)] | rw [if_neg (by assumption)] | rw [if_neg (nI_neq (by omega) (by omega) (by assumption))] | rw [if_pos (congrArg nI (by assumption))]))⟩ rfl
def rm_X10_deadNow : Room := { frames := 2, cells := 0, slots := 0, locals := 44 }
theorem in_X10_deadNow_X10 : ∀ w ∈ u_ws RX10 TX10 38, w ∈ wsX10_deadNow := fun w h => List.mem_cons_of_mem _ (List.mem_append_right _ (h))
set_option maxHeartbeats 4000000 in
set_option maxRecDepth 100000 in
theorem c_X10_deadNow {l : Launch} {D : va_G} {G : gT} (o : Nat) (ma : Nat → Nat) (fi : Nat → Int32) (fl : Nat → Int64) (ks sx tk : Nat → Nat) (t : Nat) (ht : t < 5) (hk : ks t < 5) (hs : sx t < 40000) (hw : ∀ j, j < 4 → tk j < 16) : CtI (σ := Unit) l yX10_deadNow wsX10_deadNow rm_X10_deadNow D G [.ref o, .int (nI t)] [(o, mO ma fi fl), (ma 2, aI G 4 tk), (ma 7, aI G 5 ks), (ma 8, aI G 5 sx)] (fun r _ => r = nI (deadN (ks t) tk (sx t) 4)) (fun _ => [(o, mO ma fi fl), (ma 2, aI G 4 tk), (ma 7, aI G 5 ks), (ma 8, aI G 5 sx)]) := by
  refine openI (maxL := 6) (by decide) rfl (Nat.le_of_ble_eq_true rfl) ?_
  intro pg ev sg mm ags bl me cd A Q F hmn rt
  refine v_lv (lz := [(0, .ref o), (1, .int (nI t))]) rfl ?_
  refine v_iconst (pc' := 1) (v := nI 0) F dX10_deadNow_0 (by decide) rfl ?_
  refine v_istore_n (pc' := 2) (lv' := [(2, .int (nI 0)), (0, .ref o), (1, .int (nI t))]) F dX10_deadNow_1 rfl (by decide) rfl rfl ?_
  refine v_iconst (pc' := 3) (v := nI 0) F dX10_deadNow_2 (by decide) rfl ?_
  refine v_istore_n (pc' := 4) (lv' := [(3, .int (nI 0)), (2, .int (nI 0)), (0, .ref o), (1, .int (nI t))]) F dX10_deadNow_3 rfl (by decide) rfl rfl ?_
  have L4 : ∀ (fu : Nat) (j : Nat) (ct : Nat), (j ≤ 4) → (ct = deadN (ks t) tk (sx t) j) → 4 < j + fu → V pg l ev rm_X10_deadNow sg mm ags bl me cd 0 0 Q D A 6 4 [(3, .int (nI j)), (2, .int (nI ct)), (0, .ref o), (1, .int (nI t))] [] [(o, mO ma fi fl), (ma 2, aI G 4 tk), (ma 7, aI G 5 ks), (ma 8, aI G 5 sx)] := by
    intro fu
    induction fu with
    | zero => intro j ct hj hct hfu; exact absurd hfu (by omega)
    | succ fu ih4 =>
      intro j ct hj hct hfu
      have h8 := deadN_le (ks t) tk (sx t) j
      refine v_iload_n (pc' := 5) F dX10_deadNow_4 rfl 0 rfl rfl ?_
      refine v_iconst (pc' := 6) (v := nI 4) F dX10_deadNow_5 (by decide) rfl ?_
      refine v_ncmp_ge (tgt := 83) (pc' := 9) F dX10_deadNow_6 (by omega) (by omega) (by decide) rfl (fun c2 => ?_) (fun c2 => ?_)
      · refine v_iload_n (pc' := 84) F dX10_deadNow_83 rfl 1 rfl rfl ?_
        exact rt dX10_deadNow_84 () (by rw [hct, show j = 4 by omega]) rfl
      · refine v_iconst (pc' := 10) (v := nI 0) F dX10_deadNow_9 (by decide) rfl ?_
        refine v_istore (pc' := 12) (lv' := [(4, .int (nI 0)), (3, .int (nI j)), (2, .int (nI ct)), (0, .ref o), (1, .int (nI t))]) F dX10_deadNow_10 (by decide) rfl rfl ?_
        refine v_iconst (pc' := 13) (v := nI 0) F dX10_deadNow_12 (by decide) rfl ?_
        refine v_istore (pc' := 15) (lv' := [(5, .int (nI 0)), (4, .int (nI 0)), (3, .int (nI j)), (2, .int (nI ct)), (0, .ref o), (1, .int (nI t))]) F dX10_deadNow_13 (by decide) rfl rfl ?_
        have L15 : ∀ (fu : Nat) (i : Nat) (bb : Nat), (i ≤ 4) → (nI bb = bI (anyP (ks t) tk j i)) → (bb ≤ 1) → 4 < i + fu → V pg l ev rm_X10_deadNow sg mm ags bl me cd 0 0 Q D A 6 15 [(5, .int (nI i)), (4, .int (nI bb)), (3, .int (nI j)), (2, .int (nI ct)), (0, .ref o), (1, .int (nI t))] [] [(o, mO ma fi fl), (ma 2, aI G 4 tk), (ma 7, aI G 5 ks), (ma 8, aI G 5 sx)] := by
          intro fu
          induction fu with
          | zero => intro i bb hi hbb hb2 hfu; exact absurd hfu (by omega)
          | succ fu ih15 =>
            intro i bb hi hbb hb2 hfu
            refine v_iload (pc' := 17) F dX10_deadNow_15 0 rfl rfl ?_
            refine v_iconst (pc' := 18) (v := nI 4) F dX10_deadNow_17 (by decide) rfl ?_
            refine v_ncmp_ge (tgt := 55) (pc' := 21) F dX10_deadNow_18 (by omega) (by omega) (by decide) rfl (fun c4 => ?_) (fun c4 => ?_)
            · refine v_iload_n (pc' := 56) F dX10_deadNow_55 rfl 3 rfl rfl ?_
              refine v_iload (pc' := 58) F dX10_deadNow_56 1 rfl rfl ?_
              refine v_nif_eq (tgt := 65) (pc' := 61) F dX10_deadNow_58 (by omega) (by decide) rfl (fun c5 => ?_) (fun c5 => ?_)
              · have hany : ¬ anyP (ks t) tk j 4 := by rw [show (4 : Nat) = i by omega]; exact nb_f hbb (by omega)
                refine v_aload_n (pc' := 66) F dX10_deadNow_65 rfl 4 rfl rfl ?_
                refine v_get (pc' := 69) (v := .ref (ma 8)) (C := RX10) (T := TX10) (N := 38) F dX10_deadNow_66 in_X10_deadNow_X10 0 rfl rfl 8 (by decide) (List.mem_of_getElem? (i := 2) rfl) rfl rfl ?_
                refine v_iload_n (pc' := 70) F dX10_deadNow_69 rfl 5 rfl rfl ?_
                refine v_iald (pc' := 71) (z := sx t) F dX10_deadNow_70 3 rfl (by omega) (by decide) rfl rfl ?_
                refine v_iload_n (pc' := 72) F dX10_deadNow_71 rfl 2 rfl rfl ?_
                refine cSI0 (pc' := 75) (As := [.int (nI (sx t)), .int (nI j)]) (rest := [.int (nI ct)]) F (c_X10_coins (sx t) j (by omega) (by omega)) (va_cwS 2 F.2.2.2.2.1 gX10_deadNow_X10_coins rfl rfl rfl (by decide +kernel) ⟨Nat.le_of_ble_eq_true rfl, Nat.le_of_ble_eq_true rfl⟩) rfl rfl (Nat.le_of_ble_eq_true rfl) dX10_deadNow_72 ⟨Nat.zero_le _, Nat.zero_le _⟩ rfl (fun r u q6 => ?_)
                obtain rfl := q6
                refine v_iadd (pc' := 76) (z := nI (ct + (dg (sx t) j))) F dX10_deadNow_75 (nI_add _ _) rfl ?_
                refine v_istore_n (pc' := 77) (lv' := [(2, .int (nI (ct + (dg (sx t) j)))), (5, .int (nI i)), (4, .int (nI bb)), (3, .int (nI j)), (0, .ref o), (1, .int (nI t))]) F dX10_deadNow_76 rfl (by decide) rfl rfl ?_
                refine v_iinc (pc' := 80) (v := nI (j + 1)) (lv' := [(3, .int (nI (j + 1))), (2, .int (nI (ct + (dg (sx t) j)))), (5, .int (nI i)), (4, .int (nI bb)), (0, .ref o), (1, .int (nI t))]) F dX10_deadNow_77 3 rfl (nI_add _ _) (by decide) rfl rfl ?_
                refine v_goto (tgt := 4) F dX10_deadNow_80 (by decide) ?_
                refine v_lpick (lz := [(3, .int (nI (j + 1))), (2, .int (nI (ct + (dg (sx t) j)))), (0, .ref o), (1, .int (nI t))]) [0, 1, 4, 5] rfl ?_
                exact ih4 (j + 1) (ct + (dg (sx t) j)) (by omega) (by rw [hct]; first | exact (deadN_y (by assumption)).symm | exact (deadN_n (by assumption)).symm) (by omega)
              · have hany : anyP (ks t) tk j 4 := by rw [show (4 : Nat) = i by omega]; exact nb_t hbb (by omega)
                refine v_iconst (pc' := 62) (v := nI 0) F dX10_deadNow_61 (by decide) rfl ?_
                refine v_goto (tgt := 75) F dX10_deadNow_62 (by decide) ?_
                refine v_iadd (pc' := 76) (z := nI (ct + 0)) F dX10_deadNow_75 (nI_add _ _) rfl ?_
                refine v_istore_n (pc' := 77) (lv' := [(2, .int (nI (ct + 0))), (5, .int (nI i)), (4, .int (nI bb)), (3, .int (nI j)), (0, .ref o), (1, .int (nI t))]) F dX10_deadNow_76 rfl (by decide) rfl rfl ?_
                refine v_iinc (pc' := 80) (v := nI (j + 1)) (lv' := [(3, .int (nI (j + 1))), (2, .int (nI (ct + 0))), (5, .int (nI i)), (4, .int (nI bb)), (0, .ref o), (1, .int (nI t))]) F dX10_deadNow_77 3 rfl (nI_add _ _) (by decide) rfl rfl ?_
                refine v_goto (tgt := 4) F dX10_deadNow_80 (by decide) ?_
                refine v_lpick (lz := [(3, .int (nI (j + 1))), (2, .int (nI (ct + 0))), (0, .ref o), (1, .int (nI t))]) [0, 1, 4, 5] rfl ?_
                exact ih4 (j + 1) (ct + 0) (by omega) (by rw [hct]; first | exact (deadN_y (by assumption)).symm | exact (deadN_n (by assumption)).symm) (by omega)
            · refine v_iload (pc' := 23) F dX10_deadNow_21 1 rfl rfl ?_
              refine v_nif_ne (tgt := 42) (pc' := 26) F dX10_deadNow_23 (by omega) (by decide) rfl (fun c7 => ?_) (fun c7 => ?_)
              · refine v_iconst (pc' := 43) (v := nI 1) F dX10_deadNow_42 (by decide) rfl ?_
                refine v_goto (tgt := 47) F dX10_deadNow_43 (by decide) ?_
                refine v_istore (pc' := 49) (lv' := [(4, .int (nI 1)), (5, .int (nI i)), (3, .int (nI j)), (2, .int (nI ct)), (0, .ref o), (1, .int (nI t))]) F dX10_deadNow_47 (by decide) rfl rfl ?_
                refine v_iinc (pc' := 52) (v := nI (i + 1)) (lv' := [(5, .int (nI (i + 1))), (4, .int (nI 1)), (3, .int (nI j)), (2, .int (nI ct)), (0, .ref o), (1, .int (nI t))]) F dX10_deadNow_49 1 rfl (nI_add _ _) (by decide) rfl rfl ?_
                refine v_goto (tgt := 15) F dX10_deadNow_52 (by decide) ?_
                exact ih15 (i + 1) 1 (by omega) (nI1_b (by first | exact anyP_s.mpr (Or.inl (nb_t hbb (by omega))) | exact anyP_s.mpr (Or.inr (by assumption)))) (by omega) (by omega)
              · refine v_aload_n (pc' := 27) F dX10_deadNow_26 rfl 4 rfl rfl ?_
                refine v_aload_n (pc' := 28) F dX10_deadNow_27 rfl 4 rfl rfl ?_
                have hw9 := hw i (by omega)
                refine v_get (pc' := 31) (v := .ref (ma 7)) (C := RX10) (T := TX10) (N := 38) F dX10_deadNow_28 in_X10_deadNow_X10 0 rfl rfl 7 (by decide) (List.mem_of_getElem? (i := 1) rfl) rfl rfl ?_
                refine v_iload_n (pc' := 32) F dX10_deadNow_31 rfl 5 rfl rfl ?_
                refine v_iald (pc' := 33) (z := ks t) F dX10_deadNow_32 2 rfl (by omega) (by decide) rfl rfl ?_
                refine v_iload (pc' := 35) F dX10_deadNow_33 0 rfl rfl ?_
                refine v_iload_n (pc' := 36) F dX10_deadNow_35 rfl 2 rfl rfl ?_
                refine cVI (pc' := 39) (As := [.int (nI (ks t)), .int (nI i), .int (nI j)]) (rest := []) (wr := [(ma 7, aI G 5 ks), (ma 8, aI G 5 sx)]) F (c_X10_mayPay o ma fi fl tk (ks t) i j (by omega) (by omega) (by omega) (by omega)) (cwV 3 F.2.2.2.2.1 gX10_deadNow_X10_mayPay rfl rfl rfl (by decide +kernel) ⟨Nat.le_of_ble_eq_true rfl, Nat.le_of_ble_eq_true rfl⟩) (v_rcvW F 8 0 rfl rfl) rfl rfl (Nat.le_of_ble_eq_true rfl) dX10_deadNow_36 [0, 1] [2, 3] (by decide) rfl rfl (by decide) (by decide) ⟨Nat.zero_le _, Nat.zero_le _⟩ rfl (fun r u q8 => ?_)
                obtain rfl := q8
                refine v_ws (wz := [(ma 7, aI G 5 ks), (ma 8, aI G 5 sx), (o, mO ma fi fl), (ma 2, aI G 4 tk)]) rfl ?_
                refine v_bif_eq (tgt := 46) (pc' := 42) F dX10_deadNow_39 (by decide) rfl (fun c9 => ?_) (fun c9 => ?_)
                · refine v_iconst (pc' := 47) (v := nI 0) F dX10_deadNow_46 (by decide) rfl ?_
                  refine v_istore (pc' := 49) (lv' := [(4, .int (nI 0)), (5, .int (nI i)), (3, .int (nI j)), (2, .int (nI ct)), (0, .ref o), (1, .int (nI t))]) F dX10_deadNow_47 (by decide) rfl rfl ?_
                  refine v_iinc (pc' := 52) (v := nI (i + 1)) (lv' := [(5, .int (nI (i + 1))), (4, .int (nI 0)), (3, .int (nI j)), (2, .int (nI ct)), (0, .ref o), (1, .int (nI t))]) F dX10_deadNow_49 1 rfl (nI_add _ _) (by decide) rfl rfl ?_
                  refine v_goto (tgt := 15) F dX10_deadNow_52 (by decide) ?_
                  refine v_perm (wz := [(o, mO ma fi fl), (ma 2, aI G 4 tk), (ma 7, aI G 5 ks), (ma 8, aI G 5 sx)]) [2, 3, 0, 1] (by decide) rfl ?_
                  exact ih15 (i + 1) 0 (by omega) (nI0_b (fun q => by rcases anyP_s.mp q with q | q <;> first | exact absurd q (nb_f hbb (by omega)) | exact absurd q (by assumption))) (by omega) (by omega)
                · refine v_iconst (pc' := 43) (v := nI 1) F dX10_deadNow_42 (by decide) rfl ?_
                  refine v_goto (tgt := 47) F dX10_deadNow_43 (by decide) ?_
                  refine v_istore (pc' := 49) (lv' := [(4, .int (nI 1)), (5, .int (nI i)), (3, .int (nI j)), (2, .int (nI ct)), (0, .ref o), (1, .int (nI t))]) F dX10_deadNow_47 (by decide) rfl rfl ?_
                  refine v_iinc (pc' := 52) (v := nI (i + 1)) (lv' := [(5, .int (nI (i + 1))), (4, .int (nI 1)), (3, .int (nI j)), (2, .int (nI ct)), (0, .ref o), (1, .int (nI t))]) F dX10_deadNow_49 1 rfl (nI_add _ _) (by decide) rfl rfl ?_
                  refine v_goto (tgt := 15) F dX10_deadNow_52 (by decide) ?_
                  refine v_perm (wz := [(o, mO ma fi fl), (ma 2, aI G 4 tk), (ma 7, aI G 5 ks), (ma 8, aI G 5 sx)]) [2, 3, 0, 1] (by decide) rfl ?_
                  exact ih15 (i + 1) 1 (by omega) (nI1_b (by first | exact anyP_s.mpr (Or.inl (nb_t hbb (by omega))) | exact anyP_s.mpr (Or.inr (by assumption)))) (by omega) (by omega)
        exact L15 (4 + 1) 0 0 (by omega) (nI0_b anyP_0) (by omega) (by omega)
  exact L4 (4 + 1) 0 0 (by omega) (rfl) (by omega)
def rm_X10_dead : Room := { frames := 3, cells := 0, slots := 0, locals := 69 }
set_option maxHeartbeats 4000000 in
set_option maxRecDepth 100000 in
theorem c_X10_dead {l : Launch} {D : va_G} {G : gT} (o : Nat) (ma : Nat → Nat) (fi : Nat → Int32) (fl : Nat → Int64) (ks sx tk : Nat → Nat) (pe : Nat) (x : Int32) (hpe : fi 6 = nI pe) (h5 : pe ≤ 5) (hw : 0 < pe → ∀ j, j < 4 → tk j < 16) (hwp : WPe ks sx) : CtI (σ := Unit) l yX10_dead wsX10_dead rm_X10_dead D G [.ref o, .int x] [(o, mO ma fi fl), (ma 2, aI G 4 tk), (ma 7, aI G 5 ks), (ma 8, aI G 5 sx)] (fun r _ => r = A_dead pe tk ks sx x) (fun _ => [(o, mO ma fi fl), (ma 2, aI G 4 tk), (ma 7, aI G 5 ks), (ma 8, aI G 5 sx)]) := by
  refine openI (maxL := 2) (by decide) rfl (Nat.le_of_ble_eq_true rfl) ?_
  intro pg ev sg mm ags bl me cd A Q F hmn rt
  refine v_lv (lz := [(0, .ref o), (1, .int x)]) rfl ?_
  refine v_aload_n (pc' := 1) F dX10_dead_0 rfl 0 rfl rfl ?_
  refine v_iload_n (pc' := 2) F dX10_dead_1 rfl 1 rfl rfl ?_
  refine cVI (pc' := 5) (As := [.int x]) (rest := []) (wr := [(ma 2, aI G 4 tk), (ma 7, aI G 5 ks), (ma 8, aI G 5 sx)]) F (c_X10_isPerson o ma fi fl pe x hpe h5) (cwV 1 F.2.2.2.2.1 gX10_dead_X10_isPerson rfl rfl rfl (by decide +kernel) ⟨Nat.le_of_ble_eq_true rfl, Nat.le_of_ble_eq_true rfl⟩) (v_rcvW F 8 0 rfl rfl) rfl rfl (Nat.le_of_ble_eq_true rfl) dX10_dead_2 [0] [1, 2, 3] (by decide) rfl rfl (by decide) (by decide) ⟨Nat.zero_le _, Nat.zero_le _⟩ rfl (fun r u q1 => ?_)
  obtain rfl := q1
  refine v_ws (wz := [(ma 2, aI G 4 tk), (ma 7, aI G 5 ks), (ma 8, aI G 5 sx), (o, mO ma fi fl)]) rfl ?_
  refine v_bif_eq (tgt := 16) (pc' := 8) F dX10_dead_5 (by decide) rfl (fun c2 => ?_) (fun c2 => ?_)
  · refine v_bipush (pc' := 18) (v := (-101)) F dX10_dead_16 (by decide) rfl ?_
    refine v_perm (wz := [(o, mO ma fi fl), (ma 2, aI G 4 tk), (ma 7, aI G 5 ks), (ma 8, aI G 5 sx)]) [3, 0, 1, 2] (by decide) rfl ?_
    exact rt dX10_dead_18 () (by unfold A_dead; rw [if_neg (by first | assumption | exact inR_no0 (by assumption) | exact inR_no1 (by assumption) | exact inR_no2 (by assumption) | exact inR_no2 (nle9 (by assumption)) | exact inR_noL (by decide) (by assumption))]) rfl
  · obtain ⟨t, ht, rfl⟩ := isP_of (by omega) c2
    have hw9 := hwp t (by omega)
    refine v_aload_n (pc' := 9) F dX10_dead_8 rfl 0 rfl rfl ?_
    refine v_iload_n (pc' := 10) F dX10_dead_9 rfl 1 rfl rfl ?_
    refine cVI (pc' := 13) (As := [.int (nI t)]) (rest := []) (wr := []) F (c_X10_deadNow o ma fi fl ks sx tk t (by omega) hw9.1 hw9.2 (hw (by omega))) (cwV 1 F.2.2.2.2.1 gX10_dead_X10_deadNow rfl rfl rfl (by decide +kernel) ⟨Nat.le_of_ble_eq_true rfl, Nat.le_of_ble_eq_true rfl⟩) (v_rcvW F 8 3 rfl rfl) rfl rfl (Nat.le_of_ble_eq_true rfl) dX10_dead_10 [3, 0, 1, 2] [] (by decide) rfl rfl (by decide) (by decide) ⟨Nat.zero_le _, Nat.zero_le _⟩ rfl (fun r u q3 => ?_)
    obtain rfl := q3
    refine v_ws (wz := [(o, mO ma fi fl), (ma 2, aI G 4 tk), (ma 7, aI G 5 ks), (ma 8, aI G 5 sx)]) rfl ?_
    refine v_goto (tgt := 18) F dX10_dead_13 (by decide) ?_
    exact rt dX10_dead_18 () (by unfold A_dead; rw [if_pos (by assumption), tN_nI (t := t) (by omega)]) rfl
def rm_X9_dead : Room := { frames := 4, cells := 0, slots := 0, locals := 78 }
theorem in_X9_dead_X5 : ∀ w ∈ u_ws RX5 TX5 2, w ∈ wsX9_dead := fun w h => List.mem_cons_of_mem _ (List.mem_append_left _ (List.mem_append_left _ (List.mem_append_right _ (h))))
theorem in_X9_dead_X9 : ∀ w ∈ u_ws RX9 TX9 12, w ∈ wsX9_dead := fun w h => List.mem_cons_of_mem _ (List.mem_append_left _ (List.mem_append_left _ (List.mem_append_left _ (List.mem_append_right _ (h)))))
set_option maxHeartbeats 4000000 in
set_option maxRecDepth 100000 in
theorem c_X9_dead {l : Launch} {D : va_G} {G : gT} (x pgo ppa dl se tr im la dr pe ac lr sd : Nat) (a0 a1 a2 a3 : Nat) (co ge gi pa : Nat → Nat) (b0 b1 b2 b3 lp ld : Nat) (tk gv pr py : Nat → Nat) (pq ks sx : Nat → Nat) (y : Int32) (h5 : pe ≤ 5) (hwp : WPe ks sx) (hl : 0 < pe → WL tk gv pr py) : CtI (σ := (Nat → Nat) × (Nat → Nat) × (Nat → Nat) × (Nat → Nat)) l yX9_dead wsX9_dead rm_X9_dead D G [.ref x, .int y] ((x, .inr (7, [.ref pgo, .ref ppa, .ref dl, .ref se, .ref tr, .ref im, .ref la, .ref dr, .int (nI pe), .int (nI ac), .int (nI lr), .int (nI sd)])) :: (dl, .inr (0, [.ref a0, .ref a1, .ref a2, .ref a3])) :: (a0, aI G 4 co) :: (a1, aI G 4 ge) :: (a2, aI G 4 gi) :: (a3, aI G 4 pa) :: (la, .inr (2, [.ref b0, .ref b1, .ref b2, .ref b3, .int (nI lp), .int (nI ld)])) :: (b0, aI G 4 tk) :: (b1, aI G 4 gv) :: (b2, aI G 4 pr) :: (b3, aI G 4 py) :: (ppa, aP G 5 pq) :: pX G pq ks sx) (fun r u => r = A_dead pe tk ks sx y) (fun u => ((x, .inr (7, [.ref pgo, .ref ppa, .ref dl, .ref se, .ref tr, .ref im, .ref la, .ref dr, .int (nI pe), .int (nI ac), .int (nI lr), .int (nI sd)])) :: (dl, .inr (0, [.ref a0, .ref a1, .ref a2, .ref a3])) :: (a0, aI G 4 (u.1)) :: (a1, aI G 4 (u.2.1)) :: (a2, aI G 4 (u.2.2.1)) :: (a3, aI G 4 (u.2.2.2)) :: (la, .inr (2, [.ref b0, .ref b1, .ref b2, .ref b3, .int (nI lp), .int (nI ld)])) :: (b0, aI G 4 tk) :: (b1, aI G 4 gv) :: (b2, aI G 4 pr) :: (b3, aI G 4 py) :: (ppa, aP G 5 pq) :: pX G pq ks sx)) := by
  refine openI (maxL := 5) (by decide) rfl (Nat.le_of_ble_eq_true rfl) ?_
  intro pg ev sg mm ags bl me cd A Q F hmn rt
  refine v_lv (lz := [(0, .ref x), (1, .int y)]) rfl ?_
  refine v_aload_n (pc' := 1) F dX9_dead_0 rfl 0 rfl rfl ?_
  refine v_iload_n (pc' := 2) F dX9_dead_1 rfl 1 rfl rfl ?_
  refine cVI (pc' := 5) (As := [.int y]) (rest := []) (wr := ((dl, .inr (0, [.ref a0, .ref a1, .ref a2, .ref a3])) :: (a0, aI G 4 co) :: (a1, aI G 4 ge) :: (a2, aI G 4 gi) :: (a3, aI G 4 pa) :: (la, .inr (2, [.ref b0, .ref b1, .ref b2, .ref b3, .int (nI lp), .int (nI ld)])) :: (b0, aI G 4 tk) :: (b1, aI G 4 gv) :: (b2, aI G 4 pr) :: (b3, aI G 4 py) :: (ppa, aP G 5 pq) :: pX G pq ks sx)) F (c_X9_isPerson x pgo ppa dl se tr im la dr pe ac lr sd y) (cwV 1 F.2.2.2.2.1 gX9_dead_X9_isPerson rfl rfl rfl (by decide +kernel) ⟨Nat.le_of_ble_eq_true rfl, Nat.le_of_ble_eq_true rfl⟩) (v_rcvW F 7 0 rfl rfl) rfl rfl (Nat.le_of_ble_eq_true rfl) dX9_dead_2 [0] [1, 2, 3, 4, 5, 6, 7, 8, 9, 10, 11, 12, 13, 14, 15, 16] (by decide) rfl rfl (by decide) (by decide) ⟨Nat.zero_le _, Nat.zero_le _⟩ rfl (fun r u q1 => ?_)
  obtain rfl := q1
  refine v_perm (wz := ((dl, .inr (0, [.ref a0, .ref a1, .ref a2, .ref a3])) :: (a0, aI G 4 co) :: (a1, aI G 4 ge) :: (a2, aI G 4 gi) :: (a3, aI G 4 pa) :: (la, .inr (2, [.ref b0, .ref b1, .ref b2, .ref b3, .int (nI lp), .int (nI ld)])) :: (b0, aI G 4 tk) :: (b1, aI G 4 gv) :: (b2, aI G 4 pr) :: (b3, aI G 4 py) :: (ppa, aP G 5 pq) :: (x, .inr (7, [.ref pgo, .ref ppa, .ref dl, .ref se, .ref tr, .ref im, .ref la, .ref dr, .int (nI pe), .int (nI ac), .int (nI lr), .int (nI sd)])) :: pX G pq ks sx)) [0, 1, 2, 3, 4, 5, 6, 7, 8, 9, 10, 16, 11, 12, 13, 14, 15] (by decide) rfl ?_
  refine v_bif_ne (tgt := 11) (pc' := 8) F dX9_dead_5 (by decide) rfl (fun c2 => ?_) (fun c2 => ?_)
  · obtain ⟨t, ht, rfl⟩ := isP_of (by omega) c2
    have hw9 := hwp t (by omega)
    have hl9 := hl (by omega)
    refine v_aload_n (pc' := 12) F dX9_dead_11 rfl 0 rfl rfl ?_
    refine v_iload_n (pc' := 13) F dX9_dead_12 rfl 1 rfl rfl ?_
    refine cVR (pc' := 16) (As := [.int (nI t)]) (rest := []) (wr := []) F (c_X9_dealFor x pgo ppa dl se tr im la dr pe ac lr sd a0 a1 a2 a3 co ge gi pa b0 b1 b2 b3 lp ld tk gv pr py pq ks sx t (by omega) hw9.1 hl9) (cwV 1 F.2.2.2.2.1 gX9_dead_X9_dealFor rfl rfl rfl (by decide +kernel) ⟨Nat.le_of_ble_eq_true rfl, Nat.le_of_ble_eq_true rfl⟩) (v_rcvW F 7 11 rfl rfl) rfl rfl (Nat.le_of_ble_eq_true rfl) dX9_dead_13 [11, 0, 1, 2, 3, 4, 5, 6, 7, 8, 9, 10, 12, 13, 14, 15, 16] [] (by decide) rfl rfl (by decide) (by decide) ⟨Nat.zero_le _, Nat.zero_le _⟩ rfl (fun u q8 => ?_)
    obtain ⟨co2_3, ge2_4, gi2_5, pa2_6⟩ := u
    have hD_7 := q8
    have hwd := DLo_WD hl9 hD_7
    have hbe := DLo_bh hD_7
    refine v_ws (wz := ((x, .inr (7, [.ref pgo, .ref ppa, .ref dl, .ref se, .ref tr, .ref im, .ref la, .ref dr, .int (nI pe), .int (nI ac), .int (nI lr), .int (nI sd)])) :: (dl, .inr (0, [.ref a0, .ref a1, .ref a2, .ref a3])) :: (a0, aI G 4 co2_3) :: (a1, aI G 4 ge2_4) :: (a2, aI G 4 gi2_5) :: (a3, aI G 4 pa2_6) :: (la, .inr (2, [.ref b0, .ref b1, .ref b2, .ref b3, .int (nI lp), .int (nI ld)])) :: (b0, aI G 4 tk) :: (b1, aI G 4 gv) :: (b2, aI G 4 pr) :: (b3, aI G 4 py) :: (ppa, aP G 5 pq) :: pX G pq ks sx)) rfl ?_
    have hD := hD_7
    refine v_astore_n (pc' := 17) (lv' := [(2, .ref dl), (0, .ref x), (1, .int (nI t))]) F dX9_dead_16 rfl (by decide) rfl rfl ?_
    refine v_iconst (pc' := 18) (v := nI 0) F dX9_dead_17 (by decide) rfl ?_
    refine v_istore_n (pc' := 19) (lv' := [(3, .int (nI 0)), (2, .ref dl), (0, .ref x), (1, .int (nI t))]) F dX9_dead_18 rfl (by decide) rfl rfl ?_
    refine v_iconst (pc' := 20) (v := nI 0) F dX9_dead_19 (by decide) rfl ?_
    refine v_istore (pc' := 22) (lv' := [(4, .int (nI 0)), (3, .int (nI 0)), (2, .ref dl), (0, .ref x), (1, .int (nI t))]) F dX9_dead_20 (by decide) rfl rfl ?_
    have L22 : ∀ (fu : Nat) (j : Nat) (ct : Nat), (j ≤ 4) → (ct = deadN (ks t) tk (sx t) j) → 4 < j + fu → V pg l ev rm_X9_dead sg mm ags bl me cd 0 0 Q D A 5 22 [(4, .int (nI j)), (3, .int (nI ct)), (2, .ref dl), (0, .ref x), (1, .int (nI t))] [] ((x, .inr (7, [.ref pgo, .ref ppa, .ref dl, .ref se, .ref tr, .ref im, .ref la, .ref dr, .int (nI pe), .int (nI ac), .int (nI lr), .int (nI sd)])) :: (dl, .inr (0, [.ref a0, .ref a1, .ref a2, .ref a3])) :: (a0, aI G 4 co2_3) :: (a1, aI G 4 ge2_4) :: (a2, aI G 4 gi2_5) :: (a3, aI G 4 pa2_6) :: (la, .inr (2, [.ref b0, .ref b1, .ref b2, .ref b3, .int (nI lp), .int (nI ld)])) :: (b0, aI G 4 tk) :: (b1, aI G 4 gv) :: (b2, aI G 4 pr) :: (b3, aI G 4 py) :: (ppa, aP G 5 pq) :: pX G pq ks sx) := by
      intro fu
      induction fu with
      | zero => intro j ct hj hct hfu; exact absurd hfu (by omega)
      | succ fu ih22 =>
        intro j ct hj hct hfu
        have h8 := deadN_le (ks t) tk (sx t) j
        refine v_iload (pc' := 24) F dX9_dead_22 0 rfl rfl ?_
        refine v_iconst (pc' := 25) (v := nI 4) F dX9_dead_24 (by decide) rfl ?_
        refine v_ncmp_ge (tgt := 60) (pc' := 28) F dX9_dead_25 (by omega) (by omega) (by decide) rfl (fun c10 => ?_) (fun c10 => ?_)
        · refine v_iload_n (pc' := 61) F dX9_dead_60 rfl 1 rfl rfl ?_
          exact rt dX9_dead_61 (co2_3, ge2_4, gi2_5, pa2_6) (by unfold A_dead; rw [if_pos (by assumption), tN_nI (t := t) (by omega), hct, show j = 4 by omega]) rfl
        · refine v_aload_n (pc' := 29) F dX9_dead_28 rfl 2 rfl rfl ?_
          refine v_iload (pc' := 31) F dX9_dead_29 0 rfl rfl ?_
          refine cVI (pc' := 34) (As := [.int (nI j)]) (rest := []) (wr := ((x, .inr (7, [.ref pgo, .ref ppa, .ref dl, .ref se, .ref tr, .ref im, .ref la, .ref dr, .int (nI pe), .int (nI ac), .int (nI lr), .int (nI sd)])) :: (la, .inr (2, [.ref b0, .ref b1, .ref b2, .ref b3, .int (nI lp), .int (nI ld)])) :: (b0, aI G 4 tk) :: (b1, aI G 4 gv) :: (b2, aI G 4 pr) :: (b3, aI G 4 py) :: (ppa, aP G 5 pq) :: pX G pq ks sx)) F (c_X0_paysAnywhere dl a0 a1 a2 a3 co2_3 ge2_4 gi2_5 pa2_6 j (by assumption) (by omega)) (cwV 1 F.2.2.2.2.1 gX9_dead_X0_paysAnywhere rfl rfl rfl (by decide +kernel) ⟨Nat.le_of_ble_eq_true rfl, Nat.le_of_ble_eq_true rfl⟩) (v_rcvW F 0 1 rfl rfl) rfl rfl (Nat.le_of_ble_eq_true rfl) dX9_dead_31 [1, 2, 3, 4, 5] [0, 6, 7, 8, 9, 10, 11, 12, 13, 14, 15, 16] (by decide) rfl rfl (by decide) (by decide) ⟨Nat.zero_le _, Nat.zero_le _⟩ rfl (fun r u q11 => ?_)
          obtain rfl := q11
          refine v_perm (wz := ((x, .inr (7, [.ref pgo, .ref ppa, .ref dl, .ref se, .ref tr, .ref im, .ref la, .ref dr, .int (nI pe), .int (nI ac), .int (nI lr), .int (nI sd)])) :: (la, .inr (2, [.ref b0, .ref b1, .ref b2, .ref b3, .int (nI lp), .int (nI ld)])) :: (b0, aI G 4 tk) :: (b1, aI G 4 gv) :: (b2, aI G 4 pr) :: (b3, aI G 4 py) :: (ppa, aP G 5 pq) :: (dl, .inr (0, [.ref a0, .ref a1, .ref a2, .ref a3])) :: (a0, aI G 4 co2_3) :: (a1, aI G 4 ge2_4) :: (a2, aI G 4 gi2_5) :: (a3, aI G 4 pa2_6) :: pX G pq ks sx)) [0, 1, 2, 3, 4, 5, 6, 12, 13, 14, 15, 16, 7, 8, 9, 10, 11] (by decide) rfl ?_
          refine v_bif_ne (tgt := 54) (pc' := 37) F dX9_dead_34 (by decide) rfl (fun c12 => ?_) (fun c12 => ?_)
          · refine v_iinc (pc' := 57) (v := nI (j + 1)) (lv' := [(4, .int (nI (j + 1))), (3, .int (nI ct)), (2, .ref dl), (0, .ref x), (1, .int (nI t))]) F dX9_dead_54 0 rfl (nI_add _ _) (by decide) rfl rfl ?_
            refine v_goto (tgt := 22) F dX9_dead_57 (by decide) ?_
            refine v_perm (wz := ((x, .inr (7, [.ref pgo, .ref ppa, .ref dl, .ref se, .ref tr, .ref im, .ref la, .ref dr, .int (nI pe), .int (nI ac), .int (nI lr), .int (nI sd)])) :: (dl, .inr (0, [.ref a0, .ref a1, .ref a2, .ref a3])) :: (a0, aI G 4 co2_3) :: (a1, aI G 4 ge2_4) :: (a2, aI G 4 gi2_5) :: (a3, aI G 4 pa2_6) :: (la, .inr (2, [.ref b0, .ref b1, .ref b2, .ref b3, .int (nI lp), .int (nI ld)])) :: (b0, aI G 4 tk) :: (b1, aI G 4 gv) :: (b2, aI G 4 pr) :: (b3, aI G 4 py) :: (ppa, aP G 5 pq) :: pX G pq ks sx)) [0, 7, 8, 9, 10, 11, 1, 2, 3, 4, 5, 6, 12, 13, 14, 15, 16] (by decide) rfl ?_
            exact ih22 (j + 1) ct (by omega) (by rw [hct]; exact (deadN_y ((anyP_or hD).mp (by assumption))).symm) (by omega)
          · refine v_iload_n (pc' := 38) F dX9_dead_37 rfl 1 rfl rfl ?_
            refine v_aload_n (pc' := 39) F dX9_dead_38 rfl 3 rfl rfl ?_
            refine v_get (pc' := 42) (C := RX9) (T := TX9) (N := 12) F dX9_dead_39 in_X9_dead_X9 0 rfl rfl 1 (by decide) (List.mem_of_getElem? (i := 1) rfl) rfl rfl ?_
            refine v_iload_n (pc' := 43) F dX9_dead_42 rfl 4 rfl rfl ?_
            refine v_pald (pc' := 44) (z := pq t) F dX9_dead_43 6 rfl (by omega) (by decide) rfl rfl ?_
            refine v_get (pc' := 47) (C := RX5) (T := TX5) (N := 2) F dX9_dead_44 in_X9_dead_X5 (t + 12) (pX_at (by omega)) rfl 1 (by decide) (List.mem_of_getElem? (i := 2) rfl) rfl rfl ?_
            refine v_iload (pc' := 49) F dX9_dead_47 0 rfl rfl ?_
            refine cSI0 (pc' := 52) (As := [.int (nI (eS (sx t))), .int (nI j)]) (rest := [.int (nI ct)]) F (c_X7_coinsOf (sx t) j (by omega) (by omega)) (va_cwS 2 F.2.2.2.2.1 gX9_dead_X7_coinsOf rfl rfl rfl (by decide +kernel) ⟨Nat.le_of_ble_eq_true rfl, Nat.le_of_ble_eq_true rfl⟩) rfl rfl (Nat.le_of_ble_eq_true rfl) dX9_dead_49 ⟨Nat.zero_le _, Nat.zero_le _⟩ rfl (fun r u q13 => ?_)
            obtain rfl := q13
            refine v_iadd (pc' := 53) (z := nI (ct + (dg (sx t) j))) F dX9_dead_52 (nI_add _ _) rfl ?_
            refine v_istore_n (pc' := 54) (lv' := [(3, .int (nI (ct + (dg (sx t) j)))), (4, .int (nI j)), (2, .ref dl), (0, .ref x), (1, .int (nI t))]) F dX9_dead_53 rfl (by decide) rfl rfl ?_
            refine v_iinc (pc' := 57) (v := nI (j + 1)) (lv' := [(4, .int (nI (j + 1))), (3, .int (nI (ct + (dg (sx t) j)))), (2, .ref dl), (0, .ref x), (1, .int (nI t))]) F dX9_dead_54 1 rfl (nI_add _ _) (by decide) rfl rfl ?_
            refine v_goto (tgt := 22) F dX9_dead_57 (by decide) ?_
            refine v_perm (wz := ((x, .inr (7, [.ref pgo, .ref ppa, .ref dl, .ref se, .ref tr, .ref im, .ref la, .ref dr, .int (nI pe), .int (nI ac), .int (nI lr), .int (nI sd)])) :: (dl, .inr (0, [.ref a0, .ref a1, .ref a2, .ref a3])) :: (a0, aI G 4 co2_3) :: (a1, aI G 4 ge2_4) :: (a2, aI G 4 gi2_5) :: (a3, aI G 4 pa2_6) :: (la, .inr (2, [.ref b0, .ref b1, .ref b2, .ref b3, .int (nI lp), .int (nI ld)])) :: (b0, aI G 4 tk) :: (b1, aI G 4 gv) :: (b2, aI G 4 pr) :: (b3, aI G 4 py) :: (ppa, aP G 5 pq) :: pX G pq ks sx)) [0, 7, 8, 9, 10, 11, 1, 2, 3, 4, 5, 6, 12, 13, 14, 15, 16] (by decide) rfl ?_
            exact ih22 (j + 1) (ct + (dg (sx t) j)) (by omega) (by rw [hct]; exact (deadN_n (fun q => by rw [← anyP_or hD] at q; exact absurd q (by assumption))).symm) (by omega)
    exact L22 (4 + 1) 0 0 (by omega) (rfl) (by omega)
  · refine v_bipush (pc' := 10) (v := (-101)) F dX9_dead_8 (by decide) rfl ?_
    refine v_perm (wz := ((x, .inr (7, [.ref pgo, .ref ppa, .ref dl, .ref se, .ref tr, .ref im, .ref la, .ref dr, .int (nI pe), .int (nI ac), .int (nI lr), .int (nI sd)])) :: (dl, .inr (0, [.ref a0, .ref a1, .ref a2, .ref a3])) :: (a0, aI G 4 co) :: (a1, aI G 4 ge) :: (a2, aI G 4 gi) :: (a3, aI G 4 pa) :: (la, .inr (2, [.ref b0, .ref b1, .ref b2, .ref b3, .int (nI lp), .int (nI ld)])) :: (b0, aI G 4 tk) :: (b1, aI G 4 gv) :: (b2, aI G 4 pr) :: (b3, aI G 4 py) :: (ppa, aP G 5 pq) :: pX G pq ks sx)) [11, 0, 1, 2, 3, 4, 5, 6, 7, 8, 9, 10, 12, 13, 14, 15, 16] (by decide) rfl ?_
    exact rt dX9_dead_10 (co, ge, gi, pa) (by unfold A_dead; rw [if_neg (by first | assumption | exact inR_no0 (by assumption) | exact inR_no1 (by assumption) | exact inR_no2 (by assumption) | exact inR_no2 (nle9 (by assumption)) | exact inR_noL (by decide) (by assumption))]) rfl
def rm_X8_pursesTold : Room := { frames := 0, cells := 0, slots := 0, locals := 0 }
theorem in_X8_pursesTold_X8 : ∀ w ∈ u_ws RX8 TX8 7, w ∈ wsX8_pursesTold := fun w h => List.mem_cons_of_mem _ (List.mem_append_right _ (h))
set_option maxHeartbeats 4000000 in
set_option maxRecDepth 100000 in
theorem c_X8_pursesTold {l : Launch} {D : va_G} {G : gT} (tr tpu tro trb tg kd sf sz : Nat) (hsz : sz ≤ 5) (htg : tg < 2) : CtI (σ := Unit) l yX8_pursesTold wsX8_pursesTold rm_X8_pursesTold D G [.ref tr] [(tr, .inr (6, [.ref tpu, .ref tro, .ref trb, .int (nI tg), .ref (gAd G kd), .int (nI (eS sf)), .int (nI sz)]))] (fun r _ => r = nI (if tg = 0 then 0 else sz)) (fun _ => [(tr, .inr (6, [.ref tpu, .ref tro, .ref trb, .int (nI tg), .ref (gAd G kd), .int (nI (eS sf)), .int (nI sz)]))]) := by
  refine openI (maxL := 1) (by decide) rfl (Nat.le_of_ble_eq_true rfl) ?_
  intro pg ev sg mm ags bl me cd A Q F hmn rt
  refine v_lv (lz := [(0, .ref tr)]) rfl ?_
  refine v_aload_n (pc' := 1) F dX8_pursesTold_0 rfl 0 rfl rfl ?_
  refine v_get (pc' := 4) (C := RX8) (T := TX8) (N := 7) F dX8_pursesTold_1 in_X8_pursesTold_X8 0 rfl rfl 3 (by decide) (List.mem_of_getElem? (i := 1) rfl) rfl rfl ?_
  refine v_nif_eq (tgt := 14) (pc' := 7) F dX8_pursesTold_4 (by omega) (by decide) rfl (fun c1 => ?_) (fun c1 => ?_)
  · refine v_iconst (pc' := 15) (v := nI 0) F dX8_pursesTold_14 (by decide) rfl ?_
    exact rt dX8_pursesTold_15 () (by rw [if_pos (by assumption)]) rfl
  · refine v_aload_n (pc' := 8) F dX8_pursesTold_7 rfl 0 rfl rfl ?_
    refine v_get (pc' := 11) (C := RX8) (T := TX8) (N := 7) F dX8_pursesTold_8 in_X8_pursesTold_X8 0 rfl rfl 6 (by decide) (List.mem_of_getElem? (i := 2) rfl) rfl rfl ?_
    refine v_goto (tgt := 15) F dX8_pursesTold_11 (by decide) ?_
    exact rt dX8_pursesTold_15 () (by rw [if_neg (by assumption)]) rfl
def rm_X8_begin : Room := { frames := 0, cells := 0, slots := 0, locals := 0 }
theorem in_X8_begin_X5 : ∀ w ∈ u_ws RX5 TX5 2, w ∈ wsX8_begin := fun w h => List.mem_cons_of_mem _ (List.mem_append_right _ (h))
theorem in_X8_begin_X8 : ∀ w ∈ u_ws RX8 TX8 7, w ∈ wsX8_begin := fun w h => List.mem_cons_of_mem _ (List.mem_append_left _ (List.mem_append_right _ (h)))
set_option maxHeartbeats 4000000 in
set_option maxRecDepth 100000 in
theorem c_X8_begin {l : Launch} {D : va_G} {G : gT} (tr tpu tro trb tg kd sf sz : Nat) (pq ks sx : Nat → Nat) (i : Nat) (hi : i < 5) (hk : ks i < 5) (hkd : kd < 5) : CtV (σ := Unit) l yX8_begin wsX8_begin rm_X8_begin D G [.ref tr, .ref (pq i)] ((tr, .inr (6, [.ref tpu, .ref tro, .ref trb, .int (nI tg), .ref (gAd G kd), .int (nI (eS sf)), .int (nI sz)])) :: pX G pq ks sx) (fun _ => True) (fun _ => ((tr, .inr (6, [.ref tpu, .ref tro, .ref trb, .int (nI 1), .ref (gAd G (ks i)), .int (nI (eS (sx i))), .int (nI 0)])) :: pX G pq ks sx)) := by
  refine openV (maxL := 2) (by decide) rfl (Nat.le_of_ble_eq_true rfl) ?_
  intro pg ev sg mm ags bl me cd A Q F hmn rt
  refine v_lv (lz := [(0, .ref tr), (1, .ref (pq i))]) rfl ?_
  refine v_aload_n (pc' := 1) F dX8_begin_0 rfl 0 rfl rfl ?_
  refine v_iconst (pc' := 2) (v := nI 1) F dX8_begin_1 (by decide) rfl ?_
  refine v_put (pc' := 5) (ws' := ((tr, .inr (6, [.ref tpu, .ref tro, .ref trb, .int (nI 1), .ref (gAd G kd), .int (nI (eS sf)), .int (nI sz)])) :: pX G pq ks sx)) (C := RX8) (T := TX8) (N := 7) F dX8_begin_2 in_X8_begin_X8 tyX8_ok nmX8 0 rfl rfl 3 (by decide) (List.mem_of_getElem? (i := 1) rfl) rfl (by first | rfl | decide) rfl (Nat.le_of_ble_eq_true rfl) rfl rfl ?_
  refine v_aload_n (pc' := 6) F dX8_begin_5 rfl 0 rfl rfl ?_
  refine v_aload_n (pc' := 7) F dX8_begin_6 rfl 1 rfl rfl ?_
  refine v_get (pc' := 10) (C := RX5) (T := TX5) (N := 2) F dX8_begin_7 in_X8_begin_X5 (i + 1) (pX_at (by omega)) rfl 0 (by decide) (List.mem_of_getElem? (i := 2) rfl) rfl rfl ?_
  refine v_put (pc' := 13) (ws' := ((tr, .inr (6, [.ref tpu, .ref tro, .ref trb, .int (nI 1), .ref (gAd G (ks i)), .int (nI (eS sf)), .int (nI sz)])) :: pX G pq ks sx)) (C := RX8) (T := TX8) (N := 7) F dX8_begin_10 in_X8_begin_X8 tyX8_ok nmX8 0 rfl rfl 4 (by decide) (List.mem_of_getElem? (i := 3) rfl) rfl rfl rfl (Nat.le_of_ble_eq_true rfl) rfl rfl ?_
  refine v_aload_n (pc' := 14) F dX8_begin_13 rfl 0 rfl rfl ?_
  refine v_aload_n (pc' := 15) F dX8_begin_14 rfl 1 rfl rfl ?_
  refine v_get (pc' := 18) (C := RX5) (T := TX5) (N := 2) F dX8_begin_15 in_X8_begin_X5 (i + 1) (pX_at (by omega)) rfl 1 (by decide) (List.mem_of_getElem? (i := 4) rfl) rfl rfl ?_
  refine v_put (pc' := 21) (ws' := ((tr, .inr (6, [.ref tpu, .ref tro, .ref trb, .int (nI 1), .ref (gAd G (ks i)), .int (nI (eS (sx i))), .int (nI sz)])) :: pX G pq ks sx)) (C := RX8) (T := TX8) (N := 7) F dX8_begin_18 in_X8_begin_X8 tyX8_ok nmX8 0 rfl rfl 5 (by decide) (List.mem_of_getElem? (i := 5) rfl) rfl rfl rfl (Nat.le_of_ble_eq_true rfl) rfl rfl ?_
  refine v_aload_n (pc' := 22) F dX8_begin_21 rfl 0 rfl rfl ?_
  refine v_iconst (pc' := 23) (v := nI 0) F dX8_begin_22 (by decide) rfl ?_
  refine v_put (pc' := 26) (ws' := ((tr, .inr (6, [.ref tpu, .ref tro, .ref trb, .int (nI 1), .ref (gAd G (ks i)), .int (nI (eS (sx i))), .int (nI 0)])) :: pX G pq ks sx)) (C := RX8) (T := TX8) (N := 7) F dX8_begin_23 in_X8_begin_X8 tyX8_ok nmX8 0 rfl rfl 6 (by decide) (List.mem_of_getElem? (i := 6) rfl) rfl rfl rfl (Nat.le_of_ble_eq_true rfl) rfl rfl ?_
  exact rt dX8_begin_26 () (by trivial) rfl
def rm_X9_trail : Room := { frames := 1, cells := 0, slots := 0, locals := 21 }
theorem in_X9_trail_X9 : ∀ w ∈ u_ws RX9 TX9 12, w ∈ wsX9_trail := fun w h => List.mem_cons_of_mem _ (List.mem_append_left _ (List.mem_append_left _ (List.mem_append_right _ (h))))
set_option maxHeartbeats 4000000 in
set_option maxRecDepth 100000 in
theorem c_X9_trail {l : Launch} {D : va_G} {G : gT} (x pgo ppa dl se tr im la dr pe ac lr sd : Nat) (tpu tro trb tg kd sf sz : Nat) (tw : Nat → Nat) (pq ks sx : Nat → Nat) (y : Int32) (h5 : pe ≤ 5) (hwp : WPe ks sx) (hsz : sz ≤ 5) (htg : tg < 2) (hkd : kd < 5) : CtI (σ := Nat × Nat × Nat × Nat) l yX9_trail wsX9_trail rm_X9_trail D G [.ref x, .int y] ((x, .inr (7, [.ref pgo, .ref ppa, .ref dl, .ref se, .ref tr, .ref im, .ref la, .ref dr, .int (nI pe), .int (nI ac), .int (nI lr), .int (nI sd)])) :: (tr, .inr (6, [.ref tpu, .ref tro, .ref trb, .int (nI tg), .ref (gAd G kd), .int (nI (eS sf)), .int (nI sz)])) :: (ppa, aP G 5 pq) :: pX G pq ks sx) (fun r u => r = A_trail pe (if tg = 0 then 0 else sz) y ∧ u = (if isP pe y then (1, ks (tN y), sx (tN y), 0) else (tg, kd, sf, sz))) (fun u => ((x, .inr (7, [.ref pgo, .ref ppa, .ref dl, .ref se, .ref tr, .ref im, .ref la, .ref dr, .int (nI pe), .int (nI ac), .int (nI lr), .int (nI sd)])) :: (tr, .inr (6, [.ref tpu, .ref tro, .ref trb, .int (nI u.1), .ref (gAd G u.2.1), .int (nI (eS u.2.2.1)), .int (nI u.2.2.2)])) :: (ppa, aP G 5 pq) :: pX G pq ks sx)) := by
  refine openI (maxL := 3) (by decide) rfl (Nat.le_of_ble_eq_true rfl) ?_
  intro pg ev sg mm ags bl me cd A Q F hmn rt
  refine v_lv (lz := [(0, .ref x), (1, .int y)]) rfl ?_
  refine v_aload_n (pc' := 1) F dX9_trail_0 rfl 0 rfl rfl ?_
  refine v_iload_n (pc' := 2) F dX9_trail_1 rfl 1 rfl rfl ?_
  refine cVI (pc' := 5) (As := [.int y]) (rest := []) (wr := ((tr, .inr (6, [.ref tpu, .ref tro, .ref trb, .int (nI tg), .ref (gAd G kd), .int (nI (eS sf)), .int (nI sz)])) :: (ppa, aP G 5 pq) :: pX G pq ks sx)) F (c_X9_isPerson x pgo ppa dl se tr im la dr pe ac lr sd y) (cwV 1 F.2.2.2.2.1 gX9_trail_X9_isPerson rfl rfl rfl (by decide +kernel) ⟨Nat.le_of_ble_eq_true rfl, Nat.le_of_ble_eq_true rfl⟩) (v_rcvW F 7 0 rfl rfl) rfl rfl (Nat.le_of_ble_eq_true rfl) dX9_trail_2 [0] [1, 2, 3, 4, 5, 6, 7] (by decide) rfl rfl (by decide) (by decide) ⟨Nat.zero_le _, Nat.zero_le _⟩ rfl (fun r u q1 => ?_)
  obtain rfl := q1
  refine v_perm (wz := ((tr, .inr (6, [.ref tpu, .ref tro, .ref trb, .int (nI tg), .ref (gAd G kd), .int (nI (eS sf)), .int (nI sz)])) :: (ppa, aP G 5 pq) :: (x, .inr (7, [.ref pgo, .ref ppa, .ref dl, .ref se, .ref tr, .ref im, .ref la, .ref dr, .int (nI pe), .int (nI ac), .int (nI lr), .int (nI sd)])) :: pX G pq ks sx)) [0, 1, 7, 2, 3, 4, 5, 6] (by decide) rfl ?_
  refine v_bif_ne (tgt := 11) (pc' := 8) F dX9_trail_5 (by decide) rfl (fun c2 => ?_) (fun c2 => ?_)
  · obtain ⟨t, ht, rfl⟩ := isP_of (by omega) c2
    have hw9 := hwp t (by omega)
    refine v_aload_n (pc' := 12) F dX9_trail_11 rfl 0 rfl rfl ?_
    refine v_get (pc' := 15) (C := RX9) (T := TX9) (N := 12) F dX9_trail_12 in_X9_trail_X9 2 rfl rfl 4 (by decide) (List.mem_of_getElem? (i := 1) rfl) rfl rfl ?_
    refine cVI (pc' := 18) (As := []) (rest := []) (wr := ((ppa, aP G 5 pq) :: (x, .inr (7, [.ref pgo, .ref ppa, .ref dl, .ref se, .ref tr, .ref im, .ref la, .ref dr, .int (nI pe), .int (nI ac), .int (nI lr), .int (nI sd)])) :: pX G pq ks sx)) F (c_X8_pursesTold tr tpu tro trb tg kd sf sz hsz htg) (cwV 0 F.2.2.2.2.1 gX9_trail_X8_pursesTold rfl rfl rfl (by decide +kernel) ⟨Nat.le_of_ble_eq_true rfl, Nat.le_of_ble_eq_true rfl⟩) (v_rcvW F 6 0 rfl rfl) rfl rfl (Nat.le_of_ble_eq_true rfl) dX9_trail_15 [0] [1, 2, 3, 4, 5, 6, 7] (by decide) rfl rfl (by decide) (by decide) ⟨Nat.zero_le _, Nat.zero_le _⟩ rfl (fun r u q3 => ?_)
    obtain rfl := q3
    refine v_perm (wz := ((ppa, aP G 5 pq) :: (x, .inr (7, [.ref pgo, .ref ppa, .ref dl, .ref se, .ref tr, .ref im, .ref la, .ref dr, .int (nI pe), .int (nI ac), .int (nI lr), .int (nI sd)])) :: (tr, .inr (6, [.ref tpu, .ref tro, .ref trb, .int (nI tg), .ref (gAd G kd), .int (nI (eS sf)), .int (nI sz)])) :: pX G pq ks sx)) [0, 1, 7, 2, 3, 4, 5, 6] (by decide) rfl ?_
    refine v_istore_n (pc' := 19) (lv' := [(2, .int (nI (if tg = 0 then 0 else sz))), (0, .ref x), (1, .int (nI t))]) F dX9_trail_18 rfl (by decide) rfl rfl ?_
    refine v_aload_n (pc' := 20) F dX9_trail_19 rfl 1 rfl rfl ?_
    refine v_get (pc' := 23) (C := RX9) (T := TX9) (N := 12) F dX9_trail_20 in_X9_trail_X9 1 rfl rfl 4 (by decide) (List.mem_of_getElem? (i := 1) rfl) rfl rfl ?_
    refine v_aload_n (pc' := 24) F dX9_trail_23 rfl 1 rfl rfl ?_
    refine v_get (pc' := 27) (C := RX9) (T := TX9) (N := 12) F dX9_trail_24 in_X9_trail_X9 1 rfl rfl 1 (by decide) (List.mem_of_getElem? (i := 2) rfl) rfl rfl ?_
    refine v_iload_n (pc' := 28) F dX9_trail_27 rfl 2 rfl rfl ?_
    refine v_pald (pc' := 29) (z := pq t) F dX9_trail_28 0 rfl (by omega) (by decide) rfl rfl ?_
    refine cVV (pc' := 32) (As := [.ref (pq t)]) (rest := []) (wr := [(ppa, aP G 5 pq), (x, .inr (7, [.ref pgo, .ref ppa, .ref dl, .ref se, .ref tr, .ref im, .ref la, .ref dr, .int (nI pe), .int (nI ac), .int (nI lr), .int (nI sd)]))]) F (c_X8_begin tr tpu tro trb tg kd sf sz pq ks sx t (by omega) hw9.1 hkd) (cwV 1 F.2.2.2.2.1 gX9_trail_X8_begin rfl rfl rfl (by decide +kernel) ⟨Nat.le_of_ble_eq_true rfl, Nat.le_of_ble_eq_true rfl⟩) (v_rcvW F 6 2 rfl rfl) rfl rfl (Nat.le_of_ble_eq_true rfl) dX9_trail_29 [2, 3, 4, 5, 6, 7] [0, 1] (by decide) rfl rfl (by decide) (by decide) ⟨Nat.zero_le _, Nat.zero_le _⟩ rfl (fun u q4 => ?_)
    refine v_ws (wz := ((ppa, aP G 5 pq) :: (x, .inr (7, [.ref pgo, .ref ppa, .ref dl, .ref se, .ref tr, .ref im, .ref la, .ref dr, .int (nI pe), .int (nI ac), .int (nI lr), .int (nI sd)])) :: (tr, .inr (6, [.ref tpu, .ref tro, .ref trb, .int (nI 1), .ref (gAd G (ks t)), .int (nI (eS (sx t))), .int (nI 0)])) :: pX G pq ks sx)) rfl ?_
    refine v_iload_n (pc' := 33) F dX9_trail_32 rfl 0 rfl rfl ?_
    refine v_perm (wz := ((x, .inr (7, [.ref pgo, .ref ppa, .ref dl, .ref se, .ref tr, .ref im, .ref la, .ref dr, .int (nI pe), .int (nI ac), .int (nI lr), .int (nI sd)])) :: (tr, .inr (6, [.ref tpu, .ref tro, .ref trb, .int (nI 1), .ref (gAd G (ks t)), .int (nI (eS (sx t))), .int (nI 0)])) :: (ppa, aP G 5 pq) :: pX G pq ks sx)) [1, 2, 0, 3, 4, 5, 6, 7] (by decide) rfl ?_
    exact rt dX9_trail_33 (1, ks t, sx t, 0) ⟨(by unfold A_trail; rw [if_pos c2]), (by rw [if_pos c2, tN_nI (t := t) (by omega)])⟩ rfl
  · refine v_bipush (pc' := 10) (v := (-101)) F dX9_trail_8 (by decide) rfl ?_
    refine v_perm (wz := ((x, .inr (7, [.ref pgo, .ref ppa, .ref dl, .ref se, .ref tr, .ref im, .ref la, .ref dr, .int (nI pe), .int (nI ac), .int (nI lr), .int (nI sd)])) :: (tr, .inr (6, [.ref tpu, .ref tro, .ref trb, .int (nI tg), .ref (gAd G kd), .int (nI (eS sf)), .int (nI sz)])) :: (ppa, aP G 5 pq) :: pX G pq ks sx)) [2, 0, 1, 3, 4, 5, 6, 7] (by decide) rfl ?_
    exact rt dX9_trail_10 (tg, kd, sf, sz) ⟨(by unfold A_trail; rw [if_neg (by first | assumption | exact inR_no0 (by assumption) | exact inR_no1 (by assumption) | exact inR_no2 (by assumption) | exact inR_no2 (nle9 (by assumption)) | exact inR_noL (by decide) (by assumption))]), (by rw [if_neg (by assumption)])⟩ rfl
def rm_X8_add : Room := { frames := 0, cells := 0, slots := 0, locals := 0 }
theorem in_X8_add_X8 : ∀ w ∈ u_ws RX8 TX8 7, w ∈ wsX8_add := fun w h => List.mem_cons_of_mem _ (List.mem_append_right _ (h))
set_option maxHeartbeats 4000000 in
set_option maxRecDepth 100000 in
theorem c_X8_add {l : Launch} {D : va_G} {G : gT} (tr tpu tro trb tg kd sf sz : Nat) (tw : Nat → Nat) (p9 : Nat) (hsz : sz ≤ 5) : CtI (σ := (Nat × (Nat → Nat))) l yX8_add wsX8_add rm_X8_add D G [.ref tr, .int (nI (eS (4 * p9)))] [(tr, .inr (6, [.ref tpu, .ref tro, .ref trb, .int (nI tg), .ref (gAd G kd), .int (nI (eS sf)), .int (nI sz)])), (tpu, aI G 5 (fun j => eS (4 * tw j)))] (fun r u => r = (if sz = 5 then -104 else nI (sz + 1)) ∧ u = (if sz = 5 then (sz, tw) else (sz + 1, va_up tw sz p9))) (fun u => [(tr, .inr (6, [.ref tpu, .ref tro, .ref trb, .int (nI tg), .ref (gAd G kd), .int (nI (eS sf)), .int (nI u.1)])), (tpu, aI G 5 (fun j => eS (4 * u.2 j)))]) := by
  refine openI (maxL := 2) (by decide) rfl (Nat.le_of_ble_eq_true rfl) ?_
  intro pg ev sg mm ags bl me cd A Q F hmn rt
  refine v_lv (lz := [(0, .ref tr), (1, .int (nI (eS (4 * p9))))]) rfl ?_
  refine v_aload_n (pc' := 1) F dX8_add_0 rfl 0 rfl rfl ?_
  refine v_get (pc' := 4) (C := RX8) (T := TX8) (N := 7) F dX8_add_1 in_X8_add_X8 0 rfl rfl 6 (by decide) (List.mem_of_getElem? (i := 1) rfl) rfl rfl ?_
  refine v_aload_n (pc' := 5) F dX8_add_4 rfl 0 rfl rfl ?_
  refine v_get (pc' := 8) (C := RX8) (T := TX8) (N := 7) F dX8_add_5 in_X8_add_X8 0 rfl rfl 0 (by decide) (List.mem_of_getElem? (i := 2) rfl) rfl rfl ?_
  refine v_ilen (pc' := 9) F dX8_add_8 1 rfl rfl ?_
  refine v_ncmp_lt (tgt := 15) (pc' := 12) F dX8_add_9 (by omega) (by omega) (by decide) rfl (fun c1 => ?_) (fun c1 => ?_)
  · refine v_aload_n (pc' := 16) F dX8_add_15 rfl 0 rfl rfl ?_
    refine v_get (pc' := 19) (C := RX8) (T := TX8) (N := 7) F dX8_add_16 in_X8_add_X8 0 rfl rfl 0 (by decide) (List.mem_of_getElem? (i := 2) rfl) rfl rfl ?_
    refine v_aload_n (pc' := 20) F dX8_add_19 rfl 0 rfl rfl ?_
    refine v_get (pc' := 23) (C := RX8) (T := TX8) (N := 7) F dX8_add_20 in_X8_add_X8 0 rfl rfl 6 (by decide) (List.mem_of_getElem? (i := 1) rfl) rfl rfl ?_
    refine v_iload_n (pc' := 24) F dX8_add_23 rfl 1 rfl rfl ?_
    refine v_iast (pc' := 25) (ws' := [(tr, .inr (6, [.ref tpu, .ref tro, .ref trb, .int (nI tg), .ref (gAd G kd), .int (nI (eS sf)), .int (nI sz)])), (tpu, aI G 5 (va_up (fun j => eS (4 * tw j)) sz (eS (4 * p9))))]) F dX8_add_24 1 rfl (by omega) (by decide) rfl rfl ?_
    refine v_ws (wz := [(tr, .inr (6, [.ref tpu, .ref tro, .ref trb, .int (nI tg), .ref (gAd G kd), .int (nI (eS sf)), .int (nI sz)])), (tpu, aI G 5 (fun j => eS (4 * (va_up tw sz p9) j)))]) (by rw [up_pu]) ?_
    refine v_aload_n (pc' := 26) F dX8_add_25 rfl 0 rfl rfl ?_
    refine v_dup (pc' := 27) F dX8_add_26 rfl rfl ?_
    refine v_get (pc' := 30) (C := RX8) (T := TX8) (N := 7) F dX8_add_27 in_X8_add_X8 0 rfl rfl 6 (by decide) (List.mem_of_getElem? (i := 1) rfl) rfl rfl ?_
    refine v_iconst (pc' := 31) (v := nI 1) F dX8_add_30 (by decide) rfl ?_
    refine v_iadd (pc' := 32) (z := nI (sz + 1)) F dX8_add_31 (nI_add _ _) rfl ?_
    refine v_put (pc' := 35) (ws' := [(tr, .inr (6, [.ref tpu, .ref tro, .ref trb, .int (nI tg), .ref (gAd G kd), .int (nI (eS sf)), .int (nI (sz + 1))])), (tpu, aI G 5 (fun j => eS (4 * (va_up tw sz p9) j)))]) (C := RX8) (T := TX8) (N := 7) F dX8_add_32 in_X8_add_X8 tyX8_ok nmX8 0 rfl rfl 6 (by decide) (List.mem_of_getElem? (i := 1) rfl) rfl rfl rfl (Nat.le_of_ble_eq_true rfl) rfl rfl ?_
    refine v_aload_n (pc' := 36) F dX8_add_35 rfl 0 rfl rfl ?_
    refine v_get (pc' := 39) (C := RX8) (T := TX8) (N := 7) F dX8_add_36 in_X8_add_X8 0 rfl rfl 6 (by decide) (List.mem_of_getElem? (i := 1) rfl) rfl rfl ?_
    exact rt dX8_add_39 (sz + 1, va_up tw sz p9) ⟨(by rw [if_neg (by omega)]), (by rw [if_neg (by omega)])⟩ rfl
  · refine v_bipush (pc' := 14) (v := (-104)) F dX8_add_12 (by decide) rfl ?_
    exact rt dX8_add_14 (sz, tw) ⟨(by rw [if_pos (by omega)]), (by rw [if_pos (by omega)])⟩ rfl
def rm_X9_next : Room := { frames := 2, cells := 0, slots := 0, locals := 45 }
theorem in_X9_next_X8 : ∀ w ∈ u_ws RX8 TX8 7, w ∈ wsX9_next := fun w h => List.mem_cons_of_mem _ (List.mem_append_right _ (h))
theorem in_X9_next_X9 : ∀ w ∈ u_ws RX9 TX9 12, w ∈ wsX9_next := fun w h => List.mem_cons_of_mem _ (List.mem_append_left _ (List.mem_append_right _ (h)))
set_option maxHeartbeats 4000000 in
set_option maxRecDepth 100000 in
theorem c_X9_next {l : Launch} {D : va_G} {G : gT} (x pgo ppa dl se tr im la dr pe ac lr sd : Nat) (tpu tro trb tg kd sf sz : Nat) (tw : Nat → Nat) (y : Int32) (hsz : sz ≤ 5) (htg : tg < 2) : CtI (σ := (Nat × (Nat → Nat))) l yX9_next wsX9_next rm_X9_next D G [.ref x, .int y] [(x, .inr (7, [.ref pgo, .ref ppa, .ref dl, .ref se, .ref tr, .ref im, .ref la, .ref dr, .int (nI pe), .int (nI ac), .int (nI lr), .int (nI sd)])), (tr, .inr (6, [.ref tpu, .ref tro, .ref trb, .int (nI tg), .ref (gAd G kd), .int (nI (eS sf)), .int (nI sz)])), (tpu, aI G 5 (fun j => eS (4 * tw j)))] (fun r u => r = A_next tg sz y ∧ u = N_next tg sz tw y) (fun u => [(x, .inr (7, [.ref pgo, .ref ppa, .ref dl, .ref se, .ref tr, .ref im, .ref la, .ref dr, .int (nI pe), .int (nI ac), .int (nI lr), .int (nI sd)])), (tr, .inr (6, [.ref tpu, .ref tro, .ref trb, .int (nI tg), .ref (gAd G kd), .int (nI (eS sf)), .int (nI u.1)])), (tpu, aI G 5 (fun j => eS (4 * u.2 j)))]) := by
  refine openI (maxL := 2) (by decide) rfl (Nat.le_of_ble_eq_true rfl) ?_
  intro pg ev sg mm ags bl me cd A Q F hmn rt
  refine v_lv (lz := [(0, .ref x), (1, .int y)]) rfl ?_
  refine v_aload_n (pc' := 1) F dX9_next_0 rfl 0 rfl rfl ?_
  refine v_get (pc' := 4) (C := RX9) (T := TX9) (N := 12) F dX9_next_1 in_X9_next_X9 0 rfl rfl 4 (by decide) (List.mem_of_getElem? (i := 1) rfl) rfl rfl ?_
  refine v_get (pc' := 7) (C := RX8) (T := TX8) (N := 7) F dX9_next_4 in_X9_next_X8 1 rfl rfl 3 (by decide) (List.mem_of_getElem? (i := 2) rfl) rfl rfl ?_
  refine v_nif_ne (tgt := 13) (pc' := 10) F dX9_next_7 (by omega) (by decide) rfl (fun c1 => ?_) (fun c1 => ?_)
  · refine v_iload_n (pc' := 14) F dX9_next_13 rfl 1 rfl rfl ?_
    refine v_if_lt (tgt := 24) (pc' := 17) F dX9_next_14 (by decide) rfl (fun c2 => ?_) (fun c2 => ?_)
    · refine v_bipush (pc' := 26) (v := (-102)) F dX9_next_24 (by decide) rfl ?_
      exact rt dX9_next_26 (sz, tw) ⟨(by unfold A_next; rw [if_neg (by assumption), if_neg (by first | exact inR_no0 (by assumption) | exact inR_noL (k := 624) (by decide) (nlt_le (by assumption)))]), (by unfold N_next; rw [if_neg (by assumption), if_neg (by first | exact inR_no0 (by assumption) | exact inR_noL (k := 624) (by decide) (nlt_le (by assumption)))])⟩ rfl
    · refine v_iload_n (pc' := 18) F dX9_next_17 rfl 1 rfl rfl ?_
      refine v_sipush (pc' := 21) (v := nI 625) F dX9_next_18 (by decide) rfl ?_
      refine v_icmp_lt (tgt := 27) (pc' := 24) F dX9_next_21 (by decide) rfl (fun c3 => ?_) (fun c3 => ?_)
      · have hy9 := inR_mkL (k := 624) (x := y) (by decide) (by assumption) (nle_of_lt (by assumption))
        obtain ⟨p9, hp9, rfl⟩ := inR_of (by decide) hy9
        refine v_aload_n (pc' := 28) F dX9_next_27 rfl 0 rfl rfl ?_
        refine v_get (pc' := 31) (C := RX9) (T := TX9) (N := 12) F dX9_next_28 in_X9_next_X9 0 rfl rfl 4 (by decide) (List.mem_of_getElem? (i := 1) rfl) rfl rfl ?_
        refine v_iload_n (pc' := 32) F dX9_next_31 rfl 1 rfl rfl ?_
        refine cSI0 (pc' := 35) (As := [.int (nI p9)]) (rest := [.ref tr]) F (c_X7_purseOf p9 (by omega)) (va_cwS 1 F.2.2.2.2.1 gX9_next_X7_purseOf rfl rfl rfl (by decide +kernel) ⟨Nat.le_of_ble_eq_true rfl, Nat.le_of_ble_eq_true rfl⟩) rfl rfl (Nat.le_of_ble_eq_true rfl) dX9_next_32 ⟨Nat.zero_le _, Nat.zero_le _⟩ rfl (fun r u q4 => ?_)
        obtain rfl := q4
        refine cVI (pc' := 38) (As := [.int (nI (eS (4 * p9)))]) (rest := []) (wr := [(x, .inr (7, [.ref pgo, .ref ppa, .ref dl, .ref se, .ref tr, .ref im, .ref la, .ref dr, .int (nI pe), .int (nI ac), .int (nI lr), .int (nI sd)]))]) F (c_X8_add tr tpu tro trb tg kd sf sz tw p9 hsz) (cwV 1 F.2.2.2.2.1 gX9_next_X8_add rfl rfl rfl (by decide +kernel) ⟨Nat.le_of_ble_eq_true rfl, Nat.le_of_ble_eq_true rfl⟩) (v_rcvW F 6 1 rfl rfl) rfl rfl (Nat.le_of_ble_eq_true rfl) dX9_next_35 [1, 2] [0] (by decide) rfl rfl (by decide) (by decide) ⟨Nat.zero_le _, Nat.zero_le _⟩ rfl (fun r u q7 => ?_)
        obtain ⟨nw_5, hu9⟩ : ∃ z, z = u := ⟨_, rfl⟩
        subst hu9
        obtain ⟨rfl, hN_6⟩ := q7
        refine v_ws (wz := [(x, .inr (7, [.ref pgo, .ref ppa, .ref dl, .ref se, .ref tr, .ref im, .ref la, .ref dr, .int (nI pe), .int (nI ac), .int (nI lr), .int (nI sd)])), (tr, .inr (6, [.ref tpu, .ref tro, .ref trb, .int (nI tg), .ref (gAd G kd), .int (nI (eS sf)), .int (nI nw_5.1)])), (tpu, aI G 5 (fun j => eS (4 * nw_5.2 j)))]) rfl ?_
        exact rt dX9_next_38 nw_5 ⟨(by unfold A_next; rw [if_neg (show ¬ tg = 0 by assumption), if_pos hy9]), (by unfold N_next; rw [if_neg (show ¬ tg = 0 by assumption), if_pos hy9, tN_nI (t := p9) (by omega)]; exact hN_6)⟩ rfl
      · refine v_bipush (pc' := 26) (v := (-102)) F dX9_next_24 (by decide) rfl ?_
        exact rt dX9_next_26 (sz, tw) ⟨(by unfold A_next; rw [if_neg (by assumption), if_neg (by first | exact inR_no0 (by assumption) | exact inR_noL (k := 624) (by decide) (nlt_le (by assumption)))]), (by unfold N_next; rw [if_neg (by assumption), if_neg (by first | exact inR_no0 (by assumption) | exact inR_noL (k := 624) (by decide) (nlt_le (by assumption)))])⟩ rfl
  · refine v_bipush (pc' := 12) (v := (-103)) F dX9_next_10 (by decide) rfl ?_
    exact rt dX9_next_12 (sz, tw) ⟨(by unfold A_next; rw [if_pos (by assumption)]), (by unfold N_next; rw [if_pos (by assumption)])⟩ rfl
def rm_X10_trail : Room := { frames := 2, cells := 0, slots := 0, locals := 43 }
theorem in_X10_trail_X10 : ∀ w ∈ u_ws RX10 TX10 38, w ∈ wsX10_trail := fun w h => List.mem_cons_of_mem _ (List.mem_append_right _ (h))
set_option maxHeartbeats 4000000 in
set_option maxRecDepth 100000 in
theorem c_X10_trail {l : Launch} {D : va_G} {G : gT} (o : Nat) (ma : Nat → Nat) (fi : Nat → Int32) (fl : Nat → Int64) (sx : Nat → Nat) (pe tg tp tm : Nat) (x : Int32) (hpe : fi 6 = nI pe) (h5 : pe ≤ 5) (htr : fi 11 = trI tg tp) (htm : fi 13 = nI tm) (hs5 : ∀ j, j < 5 → sx j < 40000) : CtI (σ := (Nat → Int32)) l yX10_trail wsX10_trail rm_X10_trail D G [.ref o, .int x] [(o, mO ma fi fl), (ma 8, aI G 5 sx)] (fun r u => r = A_trail pe tm x ∧ u = (if isP pe x then va_up (va_up (va_up fi 11 (nI (tN x))) 12 (nI (sx (tN x)))) 13 (nI 0) else fi)) (fun u => [(o, mO ma u fl), (ma 8, aI G 5 sx)]) := by
  refine openI (maxL := 3) (by decide) rfl (Nat.le_of_ble_eq_true rfl) ?_
  intro pg ev sg mm ags bl me cd A Q F hmn rt
  refine v_lv (lz := [(0, .ref o), (1, .int x)]) rfl ?_
  refine v_aload_n (pc' := 1) F dX10_trail_0 rfl 0 rfl rfl ?_
  refine v_iload_n (pc' := 2) F dX10_trail_1 rfl 1 rfl rfl ?_
  refine cVI (pc' := 5) (As := [.int x]) (rest := []) (wr := [(ma 8, aI G 5 sx)]) F (c_X10_isPerson o ma fi fl pe x hpe h5) (cwV 1 F.2.2.2.2.1 gX10_trail_X10_isPerson rfl rfl rfl (by decide +kernel) ⟨Nat.le_of_ble_eq_true rfl, Nat.le_of_ble_eq_true rfl⟩) (v_rcvW F 8 0 rfl rfl) rfl rfl (Nat.le_of_ble_eq_true rfl) dX10_trail_2 [0] [1] (by decide) rfl rfl (by decide) (by decide) ⟨Nat.zero_le _, Nat.zero_le _⟩ rfl (fun r u q1 => ?_)
  obtain rfl := q1
  refine v_ws (wz := [(ma 8, aI G 5 sx), (o, mO ma fi fl)]) rfl ?_
  refine v_bif_ne (tgt := 11) (pc' := 8) F dX10_trail_5 (by decide) rfl (fun c2 => ?_) (fun c2 => ?_)
  · obtain ⟨t, ht, rfl⟩ := isP_of (by omega) c2
    have hw9 := hs5 t (by omega)
    refine v_aload_n (pc' := 12) F dX10_trail_11 rfl 0 rfl rfl ?_
    refine v_get (pc' := 15) (v := .int (nI tm)) (C := RX10) (T := TX10) (N := 38) F dX10_trail_12 in_X10_trail_X10 1 rfl rfl 13 (by decide) (List.mem_of_getElem? (i := 1) rfl) (congrArg (fun z => some (Value.int z)) htm) rfl ?_
    refine v_istore_n (pc' := 16) (lv' := [(2, .int (nI tm)), (0, .ref o), (1, .int (nI t))]) F dX10_trail_15 rfl (by decide) rfl rfl ?_
    refine v_aload_n (pc' := 17) F dX10_trail_16 rfl 1 rfl rfl ?_
    refine v_iload_n (pc' := 18) F dX10_trail_17 rfl 2 rfl rfl ?_
    refine v_put (pc' := 21) (ws' := [(ma 8, aI G 5 sx), (o, mO ma (va_up fi 11 (nI t)) fl)]) (C := RX10) (T := TX10) (N := 38) F dX10_trail_18 in_X10_trail_X10 tyX10_ok nmX10 1 rfl rfl 11 (by decide) (List.mem_of_getElem? (i := 2) rfl) rfl rfl rfl (Nat.le_of_ble_eq_true rfl) rfl rfl ?_
    refine v_aload_n (pc' := 22) F dX10_trail_21 rfl 1 rfl rfl ?_
    refine v_aload_n (pc' := 23) F dX10_trail_22 rfl 1 rfl rfl ?_
    refine v_get (pc' := 26) (v := .ref (ma 8)) (C := RX10) (T := TX10) (N := 38) F dX10_trail_23 in_X10_trail_X10 1 rfl rfl 8 (by decide) (List.mem_of_getElem? (i := 3) rfl) rfl rfl ?_
    refine v_iload_n (pc' := 27) F dX10_trail_26 rfl 2 rfl rfl ?_
    refine v_iald (pc' := 28) (z := sx t) F dX10_trail_27 0 rfl (by omega) (by decide) rfl rfl ?_
    refine v_put (pc' := 31) (ws' := [(ma 8, aI G 5 sx), (o, mO ma (va_up (va_up fi 11 (nI t)) 12 (nI (sx t))) fl)]) (C := RX10) (T := TX10) (N := 38) F dX10_trail_28 in_X10_trail_X10 tyX10_ok nmX10 1 rfl rfl 12 (by decide) (List.mem_of_getElem? (i := 4) rfl) rfl rfl rfl (Nat.le_of_ble_eq_true rfl) rfl rfl ?_
    refine v_aload_n (pc' := 32) F dX10_trail_31 rfl 1 rfl rfl ?_
    refine v_iconst (pc' := 33) (v := nI 0) F dX10_trail_32 (by decide) rfl ?_
    refine v_put (pc' := 36) (ws' := [(ma 8, aI G 5 sx), (o, mO ma (va_up (va_up (va_up fi 11 (nI t)) 12 (nI (sx t))) 13 (nI 0)) fl)]) (C := RX10) (T := TX10) (N := 38) F dX10_trail_33 in_X10_trail_X10 tyX10_ok nmX10 1 rfl rfl 13 (by decide) (List.mem_of_getElem? (i := 1) rfl) rfl rfl rfl (Nat.le_of_ble_eq_true rfl) rfl rfl ?_
    refine v_iload_n (pc' := 37) F dX10_trail_36 rfl 0 rfl rfl ?_
    refine v_perm (wz := [(o, mO ma (va_up (va_up (va_up fi 11 (nI t)) 12 (nI (sx t))) 13 (nI 0)) fl), (ma 8, aI G 5 sx)]) [1, 0] (by decide) rfl ?_
    exact rt dX10_trail_37 (va_up (va_up (va_up fi 11 (nI t)) 12 (nI (sx t))) 13 (nI 0)) ⟨(by unfold A_trail; rw [if_pos (by assumption)]), (by rw [if_pos (by assumption), tN_nI (t := t) (by omega)])⟩ rfl
  · refine v_bipush (pc' := 10) (v := (-101)) F dX10_trail_8 (by decide) rfl ?_
    refine v_perm (wz := [(o, mO ma fi fl), (ma 8, aI G 5 sx)]) [1, 0] (by decide) rfl ?_
    exact rt dX10_trail_10 fi ⟨(by unfold A_trail; rw [if_neg (by first | assumption | exact inR_no0 (by assumption) | exact inR_no1 (by assumption) | exact inR_no2 (by assumption) | exact inR_no2 (nle9 (by assumption)) | exact inR_noL (by decide) (by assumption))]), (by rw [if_neg (by assumption)])⟩ rfl
def rm_X10_next : Room := { frames := 1, cells := 0, slots := 0, locals := 22 }
theorem in_X10_next_X10 : ∀ w ∈ u_ws RX10 TX10 38, w ∈ wsX10_next := fun w h => List.mem_cons_of_mem _ (List.mem_append_right _ (h))
set_option maxHeartbeats 4000000 in
set_option maxRecDepth 100000 in
theorem c_X10_next {l : Launch} {D : va_G} {G : gT} (o : Nat) (ma : Nat → Nat) (fi : Nat → Int32) (fl : Nat → Int64) (tw : Nat → Nat) (tg tp tm : Nat) (x : Int32) (htr : fi 11 = trI tg tp) (htm : fi 13 = nI tm) (htp : tp < 5) (h5 : tm ≤ 5) : CtI (σ := (Nat → Int32) × (Nat → Nat)) l yX10_next wsX10_next rm_X10_next D G [.ref o, .int x] [(o, mO ma fi fl), (ma 14, aI G 5 tw)] (fun r u => r = A_next tg tm x ∧ (u.2) = (N_next tg tm tw x).2 ∧ (u.1) = va_up fi 13 (nI (N_next tg tm tw x).1)) (fun u => [(o, mO ma (u.1) fl), (ma 14, aI G 5 (u.2))]) := by
  refine openI (maxL := 2) (by decide) rfl (Nat.le_of_ble_eq_true rfl) ?_
  intro pg ev sg mm ags bl me cd A Q F hmn rt
  refine v_lv (lz := [(0, .ref o), (1, .int x)]) rfl ?_
  refine v_aload_n (pc' := 1) F dX10_next_0 rfl 0 rfl rfl ?_
  refine v_get (pc' := 4) (v := .int (trI tg tp)) (C := RX10) (T := TX10) (N := 38) F dX10_next_1 in_X10_next_X10 0 rfl rfl 11 (by decide) (List.mem_of_getElem? (i := 1) rfl) (congrArg (fun z => some (Value.int z)) htr) rfl ?_
  refine v_iconst (pc' := 5) (v := (-1)) F dX10_next_4 (by decide) rfl ?_
  refine v_icmp_ne (tgt := 11) (pc' := 8) F dX10_next_5 (by decide) rfl (fun c1 => ?_) (fun c1 => ?_)
  · have htg1 := trI_yes c1
    refine v_iload_n (pc' := 12) F dX10_next_11 rfl 1 rfl rfl ?_
    refine v_iconst (pc' := 13) (v := nI 0) F dX10_next_12 (by decide) rfl ?_
    refine v_sipush (pc' := 16) (v := nI 624) F dX10_next_13 (by decide) rfl ?_
    refine cSI0 (pc' := 19) (As := [.int x, .int (nI 0), .int (nI 624)]) (rest := []) F (c_X10_within x (nI 0) (nI 624)) (va_cwS 3 F.2.2.2.2.1 gX10_next_X10_within rfl rfl rfl (by decide +kernel) ⟨Nat.le_of_ble_eq_true rfl, Nat.le_of_ble_eq_true rfl⟩) rfl rfl (Nat.le_of_ble_eq_true rfl) dX10_next_16 ⟨Nat.zero_le _, Nat.zero_le _⟩ rfl (fun r u q2 => ?_)
    obtain rfl := q2
    refine v_bif_ne (tgt := 25) (pc' := 22) F dX10_next_19 (by decide) rfl (fun c3 => ?_) (fun c3 => ?_)
    · obtain ⟨p9, hp9, rfl⟩ := inR_of (by decide) c3
      refine v_aload_n (pc' := 26) F dX10_next_25 rfl 0 rfl rfl ?_
      refine v_get (pc' := 29) (v := .int (nI tm)) (C := RX10) (T := TX10) (N := 38) F dX10_next_26 in_X10_next_X10 0 rfl rfl 13 (by decide) (List.mem_of_getElem? (i := 2) rfl) (congrArg (fun z => some (Value.int z)) htm) rfl ?_
      refine v_iconst (pc' := 30) (v := nI 5) F dX10_next_29 (by decide) rfl ?_
      refine v_ncmp_ne (tgt := 36) (pc' := 33) F dX10_next_30 (by omega) (by omega) (by decide) rfl (fun c4 => ?_) (fun c4 => ?_)
      · refine v_aload_n (pc' := 37) F dX10_next_36 rfl 0 rfl rfl ?_
        refine v_get (pc' := 40) (v := .ref (ma 14)) (C := RX10) (T := TX10) (N := 38) F dX10_next_37 in_X10_next_X10 0 rfl rfl 14 (by decide) (List.mem_of_getElem? (i := 3) rfl) rfl rfl ?_
        refine v_aload_n (pc' := 41) F dX10_next_40 rfl 0 rfl rfl ?_
        refine v_get (pc' := 44) (v := .int (nI tm)) (C := RX10) (T := TX10) (N := 38) F dX10_next_41 in_X10_next_X10 0 rfl rfl 13 (by decide) (List.mem_of_getElem? (i := 2) rfl) (congrArg (fun z => some (Value.int z)) htm) rfl ?_
        refine v_iload_n (pc' := 45) F dX10_next_44 rfl 1 rfl rfl ?_
        refine v_iast (pc' := 46) (ws' := [(o, mO ma fi fl), (ma 14, aI G 5 (va_up tw tm p9))]) F dX10_next_45 1 rfl (by omega) (by decide) rfl rfl ?_
        refine v_aload_n (pc' := 47) F dX10_next_46 rfl 0 rfl rfl ?_
        refine v_dup (pc' := 48) F dX10_next_47 rfl rfl ?_
        refine v_get (pc' := 51) (v := .int (nI tm)) (C := RX10) (T := TX10) (N := 38) F dX10_next_48 in_X10_next_X10 0 rfl rfl 13 (by decide) (List.mem_of_getElem? (i := 2) rfl) (congrArg (fun z => some (Value.int z)) htm) rfl ?_
        refine v_iconst (pc' := 52) (v := nI 1) F dX10_next_51 (by decide) rfl ?_
        refine v_iadd (pc' := 53) (z := nI (tm + 1)) F dX10_next_52 (nI_add _ _) rfl ?_
        refine v_put (pc' := 56) (ws' := [(o, mO ma (va_up fi 13 (nI (tm + 1))) fl), (ma 14, aI G 5 (va_up tw tm p9))]) (C := RX10) (T := TX10) (N := 38) F dX10_next_53 in_X10_next_X10 tyX10_ok nmX10 0 rfl rfl 13 (by decide) (List.mem_of_getElem? (i := 2) rfl) rfl rfl rfl (Nat.le_of_ble_eq_true rfl) rfl rfl ?_
        refine v_aload_n (pc' := 57) F dX10_next_56 rfl 0 rfl rfl ?_
        refine v_get (pc' := 60) (v := .int (nI (tm + 1))) (C := RX10) (T := TX10) (N := 38) F dX10_next_57 in_X10_next_X10 0 rfl rfl 13 (by decide) (List.mem_of_getElem? (i := 2) rfl) rfl rfl ?_
        exact rt dX10_next_60 ((va_up fi 13 (nI (tm + 1))), va_up tw tm p9) ⟨(by unfold A_next; rw [if_neg htg1, if_pos (by assumption), if_neg (by assumption)]), (by unfold N_next; rw [if_neg htg1, if_pos (by assumption), if_neg (by assumption), tN_nI (t := p9) (by omega)]), (by unfold N_next; rw [if_neg htg1, if_pos (by assumption), if_neg (by assumption)])⟩ rfl
      · refine v_bipush (pc' := 35) (v := (-104)) F dX10_next_33 (by decide) rfl ?_
        refine v_ws (wz := [(o, mO ma (va_up fi 13 (nI tm)) fl), (ma 14, aI G 5 tw)]) (by rw [← htm, up_id]) ?_
        exact rt dX10_next_35 (va_up fi 13 (nI tm), tw) ⟨(by unfold A_next; rw [if_neg htg1, if_pos (by assumption), if_pos (by assumption)]), (by unfold N_next; rw [if_neg htg1, if_pos (by assumption), if_pos (by assumption)]), (by unfold N_next; rw [if_neg htg1, if_pos (by assumption), if_pos (by assumption)])⟩ rfl
    · refine v_bipush (pc' := 24) (v := (-102)) F dX10_next_22 (by decide) rfl ?_
      refine v_ws (wz := [(o, mO ma (va_up fi 13 (nI tm)) fl), (ma 14, aI G 5 tw)]) (by rw [← htm, up_id]) ?_
      exact rt dX10_next_24 (va_up fi 13 (nI tm), tw) ⟨(by unfold A_next; rw [if_neg htg1, if_neg (by assumption)]), (by unfold N_next; rw [if_neg htg1, if_neg (by assumption)]), (by unfold N_next; rw [if_neg htg1, if_neg (by assumption)])⟩ rfl
  · have htg0 := trI_no c1 htp
    refine v_bipush (pc' := 10) (v := (-103)) F dX10_next_8 (by decide) rfl ?_
    refine v_ws (wz := [(o, mO ma (va_up fi 13 (nI tm)) fl), (ma 14, aI G 5 tw)]) (by rw [← htm, up_id]) ?_
    exact rt dX10_next_10 (va_up fi 13 (nI tm), tw) ⟨(by unfold A_next; rw [if_pos htg0]), (by unfold N_next; rw [if_pos htg0]), (by unfold N_next; rw [if_pos htg0])⟩ rfl
def rm_X9_image : Room := { frames := 1, cells := 0, slots := 0, locals := 20 }
theorem in_X9_image_X1 : ∀ w ∈ u_ws RX1 TX1 5, w ∈ wsX9_image := fun w h => List.mem_cons_of_mem _ (List.mem_append_left _ (List.mem_append_left _ (List.mem_append_right _ (h))))
theorem in_X9_image_X3 : ∀ w ∈ u_ws RX3 TX3 6, w ∈ wsX9_image := fun w h => List.mem_cons_of_mem _ (List.mem_append_right _ (h))
theorem in_X9_image_X5 : ∀ w ∈ u_ws RX5 TX5 2, w ∈ wsX9_image := fun w h => List.mem_cons_of_mem _ (List.mem_append_left _ (List.mem_append_right _ (h)))
theorem in_X9_image_X9 : ∀ w ∈ u_ws RX9 TX9 12, w ∈ wsX9_image := fun w h => List.mem_cons_of_mem _ (List.mem_append_left _ (List.mem_append_left _ (List.mem_append_left _ (List.mem_append_right _ (h)))))
set_option maxHeartbeats 4000000 in
set_option maxRecDepth 100000 in
theorem c_X9_image {l : Launch} {D : va_G} {G : gT} (x pgo ppa dl se tr im la dr pe ac lr sd : Nat) (ims imp kg kp ka : Nat) (kst kpr : Nat → Nat) (b0 b1 b2 b3 lp ld : Nat) (tk gv pr py : Nat → Nat) (pq ks sx : Nat → Nat) (hlr : lr < 2 ^ 31) : CtI (σ := (Nat × Nat × Nat × (Nat → Nat) × (Nat → Nat))) l yX9_image wsX9_image rm_X9_image D G [.ref x] ((x, .inr (7, [.ref pgo, .ref ppa, .ref dl, .ref se, .ref tr, .ref im, .ref la, .ref dr, .int (nI pe), .int (nI ac), .int (nI lr), .int (nI sd)])) :: (im, .inr (1, [.ref ims, .ref imp, .int (nI kg), .int (nI kp), .int (nI ka)])) :: (ims, aI G 5 (fun j => eS (kst j))) :: (imp, aI G 4 kpr) :: (la, .inr (2, [.ref b0, .ref b1, .ref b2, .ref b3, .int (nI lp), .int (nI ld)])) :: (b0, aI G 4 tk) :: (b1, aI G 4 gv) :: (b2, aI G 4 pr) :: (b3, aI G 4 py) :: (ppa, aP G 5 pq) :: pX G pq ks sx) (fun r u => r = A_image lr pe ∧ u = N_image lr pe ac sx pr kg kp ka kst kpr) (fun u => ((x, .inr (7, [.ref pgo, .ref ppa, .ref dl, .ref se, .ref tr, .ref im, .ref la, .ref dr, .int (nI pe), .int (nI ac), .int (nI lr), .int (nI sd)])) :: (im, .inr (1, [.ref ims, .ref imp, .int (nI u.1), .int (nI u.2.1), .int (nI u.2.2.1)])) :: (ims, aI G 5 (fun j => eS (u.2.2.2.1 j))) :: (imp, aI G 4 u.2.2.2.2) :: (la, .inr (2, [.ref b0, .ref b1, .ref b2, .ref b3, .int (nI lp), .int (nI ld)])) :: (b0, aI G 4 tk) :: (b1, aI G 4 gv) :: (b2, aI G 4 pr) :: (b3, aI G 4 py) :: (ppa, aP G 5 pq) :: pX G pq ks sx)) := by
  refine openI (maxL := 2) (by decide) rfl (Nat.le_of_ble_eq_true rfl) ?_
  intro pg ev sg mm ags bl me cd A Q F hmn rt
  refine v_lv (lz := [(0, .ref x)]) rfl ?_
  refine v_aload_n (pc' := 1) F dX9_image_0 rfl 0 rfl rfl ?_
  refine cVI (pc' := 4) (As := []) (rest := []) (wr := ((im, .inr (1, [.ref ims, .ref imp, .int (nI kg), .int (nI kp), .int (nI ka)])) :: (ims, aI G 5 (fun j => eS (kst j))) :: (imp, aI G 4 kpr) :: (la, .inr (2, [.ref b0, .ref b1, .ref b2, .ref b3, .int (nI lp), .int (nI ld)])) :: (b0, aI G 4 tk) :: (b1, aI G 4 gv) :: (b2, aI G 4 pr) :: (b3, aI G 4 py) :: (ppa, aP G 5 pq) :: pX G pq ks sx)) F (c_X9_isLawless x pgo ppa dl se tr im la dr pe ac lr sd hlr) (cwV 0 F.2.2.2.2.1 gX9_image_X9_isLawless rfl rfl rfl (by decide +kernel) ⟨Nat.le_of_ble_eq_true rfl, Nat.le_of_ble_eq_true rfl⟩) (v_rcvW F 7 0 rfl rfl) rfl rfl (Nat.le_of_ble_eq_true rfl) dX9_image_1 [0] [1, 2, 3, 4, 5, 6, 7, 8, 9, 10, 11, 12, 13, 14] (by decide) rfl rfl (by decide) (by decide) ⟨Nat.zero_le _, Nat.zero_le _⟩ rfl (fun r u q1 => ?_)
  obtain rfl := q1
  refine v_perm (wz := ((im, .inr (1, [.ref ims, .ref imp, .int (nI kg), .int (nI kp), .int (nI ka)])) :: (ims, aI G 5 (fun j => eS (kst j))) :: (imp, aI G 4 kpr) :: (la, .inr (2, [.ref b0, .ref b1, .ref b2, .ref b3, .int (nI lp), .int (nI ld)])) :: (b0, aI G 4 tk) :: (b1, aI G 4 gv) :: (b2, aI G 4 pr) :: (b3, aI G 4 py) :: (ppa, aP G 5 pq) :: (x, .inr (7, [.ref pgo, .ref ppa, .ref dl, .ref se, .ref tr, .ref im, .ref la, .ref dr, .int (nI pe), .int (nI ac), .int (nI lr), .int (nI sd)])) :: pX G pq ks sx)) [0, 1, 2, 3, 4, 5, 6, 7, 8, 14, 9, 10, 11, 12, 13] (by decide) rfl ?_
  refine v_bif_eq (tgt := 10) (pc' := 7) F dX9_image_4 (by decide) rfl (fun c2 => ?_) (fun c2 => ?_)
  · refine v_aload_n (pc' := 11) F dX9_image_10 rfl 0 rfl rfl ?_
    refine v_get (pc' := 14) (C := RX9) (T := TX9) (N := 12) F dX9_image_11 in_X9_image_X9 9 rfl rfl 5 (by decide) (List.mem_of_getElem? (i := 1) rfl) rfl rfl ?_
    refine v_iconst (pc' := 15) (v := nI 1) F dX9_image_14 (by decide) rfl ?_
    refine v_put (pc' := 18) (ws' := ((im, .inr (1, [.ref ims, .ref imp, .int (nI 1), .int (nI kp), .int (nI ka)])) :: (ims, aI G 5 (fun j => eS (kst j))) :: (imp, aI G 4 kpr) :: (la, .inr (2, [.ref b0, .ref b1, .ref b2, .ref b3, .int (nI lp), .int (nI ld)])) :: (b0, aI G 4 tk) :: (b1, aI G 4 gv) :: (b2, aI G 4 pr) :: (b3, aI G 4 py) :: (ppa, aP G 5 pq) :: (x, .inr (7, [.ref pgo, .ref ppa, .ref dl, .ref se, .ref tr, .ref im, .ref la, .ref dr, .int (nI pe), .int (nI ac), .int (nI lr), .int (nI sd)])) :: pX G pq ks sx)) (C := RX1) (T := TX1) (N := 5) F dX9_image_15 in_X9_image_X1 tyX1_ok nmX1 0 rfl rfl 2 (by decide) (List.mem_of_getElem? (i := 2) rfl) rfl (by first | rfl | decide) rfl (Nat.le_of_ble_eq_true rfl) rfl rfl ?_
    refine v_aload_n (pc' := 19) F dX9_image_18 rfl 0 rfl rfl ?_
    refine v_get (pc' := 22) (C := RX9) (T := TX9) (N := 12) F dX9_image_19 in_X9_image_X9 9 rfl rfl 5 (by decide) (List.mem_of_getElem? (i := 1) rfl) rfl rfl ?_
    refine v_aload_n (pc' := 23) F dX9_image_22 rfl 0 rfl rfl ?_
    refine v_get (pc' := 26) (C := RX9) (T := TX9) (N := 12) F dX9_image_23 in_X9_image_X9 9 rfl rfl 8 (by decide) (List.mem_of_getElem? (i := 3) rfl) rfl rfl ?_
    refine v_put (pc' := 29) (ws' := ((im, .inr (1, [.ref ims, .ref imp, .int (nI 1), .int (nI pe), .int (nI ka)])) :: (ims, aI G 5 (fun j => eS (kst j))) :: (imp, aI G 4 kpr) :: (la, .inr (2, [.ref b0, .ref b1, .ref b2, .ref b3, .int (nI lp), .int (nI ld)])) :: (b0, aI G 4 tk) :: (b1, aI G 4 gv) :: (b2, aI G 4 pr) :: (b3, aI G 4 py) :: (ppa, aP G 5 pq) :: (x, .inr (7, [.ref pgo, .ref ppa, .ref dl, .ref se, .ref tr, .ref im, .ref la, .ref dr, .int (nI pe), .int (nI ac), .int (nI lr), .int (nI sd)])) :: pX G pq ks sx)) (C := RX1) (T := TX1) (N := 5) F dX9_image_26 in_X9_image_X1 tyX1_ok nmX1 0 rfl rfl 3 (by decide) (List.mem_of_getElem? (i := 4) rfl) rfl rfl rfl (Nat.le_of_ble_eq_true rfl) rfl rfl ?_
    refine v_aload_n (pc' := 30) F dX9_image_29 rfl 0 rfl rfl ?_
    refine v_get (pc' := 33) (C := RX9) (T := TX9) (N := 12) F dX9_image_30 in_X9_image_X9 9 rfl rfl 5 (by decide) (List.mem_of_getElem? (i := 1) rfl) rfl rfl ?_
    refine v_aload_n (pc' := 34) F dX9_image_33 rfl 0 rfl rfl ?_
    refine v_get (pc' := 37) (C := RX9) (T := TX9) (N := 12) F dX9_image_34 in_X9_image_X9 9 rfl rfl 9 (by decide) (List.mem_of_getElem? (i := 5) rfl) rfl rfl ?_
    refine v_put (pc' := 40) (ws' := ((im, .inr (1, [.ref ims, .ref imp, .int (nI 1), .int (nI pe), .int (nI ac)])) :: (ims, aI G 5 (fun j => eS (kst j))) :: (imp, aI G 4 kpr) :: (la, .inr (2, [.ref b0, .ref b1, .ref b2, .ref b3, .int (nI lp), .int (nI ld)])) :: (b0, aI G 4 tk) :: (b1, aI G 4 gv) :: (b2, aI G 4 pr) :: (b3, aI G 4 py) :: (ppa, aP G 5 pq) :: (x, .inr (7, [.ref pgo, .ref ppa, .ref dl, .ref se, .ref tr, .ref im, .ref la, .ref dr, .int (nI pe), .int (nI ac), .int (nI lr), .int (nI sd)])) :: pX G pq ks sx)) (C := RX1) (T := TX1) (N := 5) F dX9_image_37 in_X9_image_X1 tyX1_ok nmX1 0 rfl rfl 4 (by decide) (List.mem_of_getElem? (i := 6) rfl) rfl rfl rfl (Nat.le_of_ble_eq_true rfl) rfl rfl ?_
    refine v_iconst (pc' := 41) (v := nI 0) F dX9_image_40 (by decide) rfl ?_
    refine v_istore_n (pc' := 42) (lv' := [(1, .int (nI 0)), (0, .ref x)]) F dX9_image_41 rfl (by decide) rfl rfl ?_
    have L42 : ∀ (fu : Nat) (j : Nat) (f : Nat → Nat), (j ≤ 5) → (f = fun q => eS (cpy sx kst j q)) → 5 < j + fu → V pg l ev rm_X9_image sg mm ags bl me cd 0 0 Q D A 2 42 [(1, .int (nI j)), (0, .ref x)] [] ((im, .inr (1, [.ref ims, .ref imp, .int (nI 1), .int (nI pe), .int (nI ac)])) :: (ims, aI G 5 f) :: (imp, aI G 4 kpr) :: (la, .inr (2, [.ref b0, .ref b1, .ref b2, .ref b3, .int (nI lp), .int (nI ld)])) :: (b0, aI G 4 tk) :: (b1, aI G 4 gv) :: (b2, aI G 4 pr) :: (b3, aI G 4 py) :: (ppa, aP G 5 pq) :: (x, .inr (7, [.ref pgo, .ref ppa, .ref dl, .ref se, .ref tr, .ref im, .ref la, .ref dr, .int (nI pe), .int (nI ac), .int (nI lr), .int (nI sd)])) :: pX G pq ks sx) := by
      intro fu
      induction fu with
      | zero => intro j f hj hf hfu; exact absurd hfu (by omega)
      | succ fu ih42 =>
        intro j f hj hf hfu
        subst hf
        refine v_iload_n (pc' := 43) F dX9_image_42 rfl 0 rfl rfl ?_
        refine v_iconst (pc' := 44) (v := nI 5) F dX9_image_43 (by decide) rfl ?_
        refine v_ncmp_ge (tgt := 71) (pc' := 47) F dX9_image_44 (by omega) (by omega) (by decide) rfl (fun c4 => ?_) (fun c4 => ?_)
        · refine v_iconst (pc' := 72) (v := nI 0) F dX9_image_71 (by decide) rfl ?_
          refine v_istore_n (pc' := 73) (lv' := [(1, .int (nI 0)), (0, .ref x)]) F dX9_image_72 rfl (by decide) rfl rfl ?_
          have L73 : ∀ (fu : Nat) (i : Nat) (f2 : Nat → Nat), (i ≤ 4) → (f2 = cpy pr kpr i) → 4 < i + fu → V pg l ev rm_X9_image sg mm ags bl me cd 0 0 Q D A 2 73 [(1, .int (nI i)), (0, .ref x)] [] ((im, .inr (1, [.ref ims, .ref imp, .int (nI 1), .int (nI pe), .int (nI ac)])) :: (ims, aI G 5 (fun q => eS (cpy sx kst j q))) :: (imp, aI G 4 f2) :: (la, .inr (2, [.ref b0, .ref b1, .ref b2, .ref b3, .int (nI lp), .int (nI ld)])) :: (b0, aI G 4 tk) :: (b1, aI G 4 gv) :: (b2, aI G 4 pr) :: (b3, aI G 4 py) :: (ppa, aP G 5 pq) :: (x, .inr (7, [.ref pgo, .ref ppa, .ref dl, .ref se, .ref tr, .ref im, .ref la, .ref dr, .int (nI pe), .int (nI ac), .int (nI lr), .int (nI sd)])) :: pX G pq ks sx) := by
            intro fu
            induction fu with
            | zero => intro i f2 hi hf2 hfu; exact absurd hfu (by omega)
            | succ fu ih73 =>
              intro i f2 hi hf2 hfu
              subst hf2
              refine v_iload_n (pc' := 74) F dX9_image_73 rfl 0 rfl rfl ?_
              refine v_iconst (pc' := 75) (v := nI 4) F dX9_image_74 (by decide) rfl ?_
              refine v_ncmp_ge (tgt := 102) (pc' := 78) F dX9_image_75 (by omega) (by omega) (by decide) rfl (fun c6 => ?_) (fun c6 => ?_)
              · refine v_aload_n (pc' := 103) F dX9_image_102 rfl 1 rfl rfl ?_
                refine v_get (pc' := 106) (C := RX9) (T := TX9) (N := 12) F dX9_image_103 in_X9_image_X9 9 rfl rfl 8 (by decide) (List.mem_of_getElem? (i := 3) rfl) rfl rfl ?_
                refine v_perm (wz := ((x, .inr (7, [.ref pgo, .ref ppa, .ref dl, .ref se, .ref tr, .ref im, .ref la, .ref dr, .int (nI pe), .int (nI ac), .int (nI lr), .int (nI sd)])) :: (im, .inr (1, [.ref ims, .ref imp, .int (nI 1), .int (nI pe), .int (nI ac)])) :: (ims, aI G 5 (fun q => eS (cpy sx kst j q))) :: (imp, aI G 4 (cpy pr kpr i)) :: (la, .inr (2, [.ref b0, .ref b1, .ref b2, .ref b3, .int (nI lp), .int (nI ld)])) :: (b0, aI G 4 tk) :: (b1, aI G 4 gv) :: (b2, aI G 4 pr) :: (b3, aI G 4 py) :: (ppa, aP G 5 pq) :: pX G pq ks sx)) [9, 0, 1, 2, 3, 4, 5, 6, 7, 8, 10, 11, 12, 13, 14] (by decide) rfl ?_
                exact rt dX9_image_106 (1, pe, ac, cpy sx kst j, cpy pr kpr i) ⟨(by unfold A_image; rw [if_neg (by first | assumption | exact inR_no0 (by assumption) | exact inR_no1 (by assumption) | exact inR_no2 (by assumption) | exact inR_no2 (nle9 (by assumption)) | exact inR_noL (by decide) (by assumption))]), (by unfold N_image; rw [if_neg (by assumption), show j = 5 by omega, show i = 4 by omega])⟩ rfl
              · refine v_aload_n (pc' := 79) F dX9_image_78 rfl 1 rfl rfl ?_
                refine v_get (pc' := 82) (C := RX9) (T := TX9) (N := 12) F dX9_image_79 in_X9_image_X9 9 rfl rfl 5 (by decide) (List.mem_of_getElem? (i := 1) rfl) rfl rfl ?_
                refine v_get (pc' := 85) (C := RX1) (T := TX1) (N := 5) F dX9_image_82 in_X9_image_X1 0 rfl rfl 1 (by decide) (List.mem_of_getElem? (i := 10) rfl) rfl rfl ?_
                refine v_iload_n (pc' := 86) F dX9_image_85 rfl 0 rfl rfl ?_
                refine v_aload_n (pc' := 87) F dX9_image_86 rfl 1 rfl rfl ?_
                refine v_get (pc' := 90) (C := RX9) (T := TX9) (N := 12) F dX9_image_87 in_X9_image_X9 9 rfl rfl 6 (by decide) (List.mem_of_getElem? (i := 11) rfl) rfl rfl ?_
                refine v_get (pc' := 93) (C := RX3) (T := TX3) (N := 6) F dX9_image_90 in_X9_image_X3 3 rfl rfl 2 (by decide) (List.mem_of_getElem? (i := 12) rfl) rfl rfl ?_
                refine v_iload_n (pc' := 94) F dX9_image_93 rfl 0 rfl rfl ?_
                refine v_iald (pc' := 95) (z := pr i) F dX9_image_94 6 rfl (by omega) (by decide) rfl rfl ?_
                refine v_iast (pc' := 96) (ws' := ((im, .inr (1, [.ref ims, .ref imp, .int (nI 1), .int (nI pe), .int (nI ac)])) :: (ims, aI G 5 (fun q => eS (cpy sx kst j q))) :: (imp, aI G 4 (va_up (cpy pr kpr i) i (pr i))) :: (la, .inr (2, [.ref b0, .ref b1, .ref b2, .ref b3, .int (nI lp), .int (nI ld)])) :: (b0, aI G 4 tk) :: (b1, aI G 4 gv) :: (b2, aI G 4 pr) :: (b3, aI G 4 py) :: (ppa, aP G 5 pq) :: (x, .inr (7, [.ref pgo, .ref ppa, .ref dl, .ref se, .ref tr, .ref im, .ref la, .ref dr, .int (nI pe), .int (nI ac), .int (nI lr), .int (nI sd)])) :: pX G pq ks sx)) F dX9_image_95 2 rfl (by omega) (by decide) rfl rfl ?_
                refine v_iinc (pc' := 99) (v := nI (i + 1)) (lv' := [(1, .int (nI (i + 1))), (0, .ref x)]) F dX9_image_96 0 rfl (nI_add _ _) (by decide) rfl rfl ?_
                refine v_goto (tgt := 73) F dX9_image_99 (by decide) ?_
                exact ih73 (i + 1) (va_up (cpy pr kpr i) i (pr i)) (by omega) (cpy_s pr kpr i) (by omega)
          exact L73 (4 + 1) 0 kpr (by omega) (cpy_0 pr kpr) (by omega)
        · refine v_aload_n (pc' := 48) F dX9_image_47 rfl 1 rfl rfl ?_
          refine v_get (pc' := 51) (C := RX9) (T := TX9) (N := 12) F dX9_image_48 in_X9_image_X9 9 rfl rfl 5 (by decide) (List.mem_of_getElem? (i := 1) rfl) rfl rfl ?_
          refine v_get (pc' := 54) (C := RX1) (T := TX1) (N := 5) F dX9_image_51 in_X9_image_X1 0 rfl rfl 0 (by decide) (List.mem_of_getElem? (i := 7) rfl) rfl rfl ?_
          refine v_iload_n (pc' := 55) F dX9_image_54 rfl 0 rfl rfl ?_
          refine v_aload_n (pc' := 56) F dX9_image_55 rfl 1 rfl rfl ?_
          refine v_get (pc' := 59) (C := RX9) (T := TX9) (N := 12) F dX9_image_56 in_X9_image_X9 9 rfl rfl 1 (by decide) (List.mem_of_getElem? (i := 8) rfl) rfl rfl ?_
          refine v_iload_n (pc' := 60) F dX9_image_59 rfl 0 rfl rfl ?_
          refine v_pald (pc' := 61) (z := pq j) F dX9_image_60 8 rfl (by omega) (by decide) rfl rfl ?_
          refine v_get (pc' := 64) (C := RX5) (T := TX5) (N := 2) F dX9_image_61 in_X9_image_X5 (j + 10) (pX_at (by omega)) rfl 1 (by decide) (List.mem_of_getElem? (i := 9) rfl) rfl rfl ?_
          refine v_iast (pc' := 65) (ws' := ((im, .inr (1, [.ref ims, .ref imp, .int (nI 1), .int (nI pe), .int (nI ac)])) :: (ims, aI G 5 (va_up (fun q => eS (cpy sx kst j q)) j (eS (sx j)))) :: (imp, aI G 4 kpr) :: (la, .inr (2, [.ref b0, .ref b1, .ref b2, .ref b3, .int (nI lp), .int (nI ld)])) :: (b0, aI G 4 tk) :: (b1, aI G 4 gv) :: (b2, aI G 4 pr) :: (b3, aI G 4 py) :: (ppa, aP G 5 pq) :: (x, .inr (7, [.ref pgo, .ref ppa, .ref dl, .ref se, .ref tr, .ref im, .ref la, .ref dr, .int (nI pe), .int (nI ac), .int (nI lr), .int (nI sd)])) :: pX G pq ks sx)) F dX9_image_64 1 rfl (by omega) (by decide) rfl rfl ?_
          refine v_iinc (pc' := 68) (v := nI (j + 1)) (lv' := [(1, .int (nI (j + 1))), (0, .ref x)]) F dX9_image_65 0 rfl (nI_add _ _) (by decide) rfl rfl ?_
          refine v_goto (tgt := 42) F dX9_image_68 (by decide) ?_
          exact ih42 (j + 1) (va_up (fun q => eS (cpy sx kst j q)) j (eS (sx j))) (by omega) (cpy_es sx kst j) (by omega)
    exact L42 (5 + 1) 0 (fun j => eS (kst j)) (by omega) (cpy_e0 sx kst) (by omega)
  · refine v_bipush (pc' := 9) (v := (-103)) F dX9_image_7 (by decide) rfl ?_
    refine v_perm (wz := ((x, .inr (7, [.ref pgo, .ref ppa, .ref dl, .ref se, .ref tr, .ref im, .ref la, .ref dr, .int (nI pe), .int (nI ac), .int (nI lr), .int (nI sd)])) :: (im, .inr (1, [.ref ims, .ref imp, .int (nI kg), .int (nI kp), .int (nI ka)])) :: (ims, aI G 5 (fun j => eS (kst j))) :: (imp, aI G 4 kpr) :: (la, .inr (2, [.ref b0, .ref b1, .ref b2, .ref b3, .int (nI lp), .int (nI ld)])) :: (b0, aI G 4 tk) :: (b1, aI G 4 gv) :: (b2, aI G 4 pr) :: (b3, aI G 4 py) :: (ppa, aP G 5 pq) :: pX G pq ks sx)) [9, 0, 1, 2, 3, 4, 5, 6, 7, 8, 10, 11, 12, 13, 14] (by decide) rfl ?_
    exact rt dX9_image_9 (kg, kp, ka, kst, kpr) ⟨(by unfold A_image; rw [if_pos (by assumption)]), (by unfold N_image; rw [if_pos (by assumption)])⟩ rfl
def rm_X10_image : Room := { frames := 0, cells := 0, slots := 0, locals := 0 }
theorem in_X10_image_X10 : ∀ w ∈ u_ws RX10 TX10 38, w ∈ wsX10_image := fun w h => List.mem_cons_of_mem _ (List.mem_append_right _ (h))
set_option maxHeartbeats 4000000 in
set_option maxRecDepth 100000 in
theorem c_X10_image {l : Launch} {D : va_G} {G : gT} (o : Nat) (ma : Nat → Nat) (fi : Nat → Int32) (fl : Nat → Int64) (pr sx kst kpr : Nat → Nat) (lr pe ac : Nat) (hil : fi 0 = bI (¬ lr = 0)) (hlw : fi 1 = nI lr) (hpe : fi 6 = nI pe) (hac : fi 9 = nI ac) : CtI (σ := (Nat → Int32) × ((Nat → Nat) × (Nat → Nat))) l yX10_image wsX10_image rm_X10_image D G [.ref o] [(o, mO ma fi fl), (ma 4, aI G 4 pr), (ma 8, aI G 5 sx), (ma 35, aI G 5 kst), (ma 36, aI G 4 kpr)] (fun r u => r = A_image lr pe ∧ (u.2) = (if lr = 0 then (kst, kpr) else (cpy sx kst 5, cpy pr kpr 4)) ∧ (u.1) = (if lr = 0 then fi else va_up (va_up (va_up (va_up fi 31 (nI 1)) 32 (nI lr)) 33 (nI pe)) 34 (nI ac))) (fun u => [(o, mO ma (u.1) fl), (ma 4, aI G 4 pr), (ma 8, aI G 5 sx), (ma 35, aI G 5 ((u.2).1)), (ma 36, aI G 4 ((u.2).2))]) := by
  refine openI (maxL := 2) (by decide) rfl (Nat.le_of_ble_eq_true rfl) ?_
  intro pg ev sg mm ags bl me cd A Q F hmn rt
  refine v_lv (lz := [(0, .ref o)]) rfl ?_
  refine v_aload_n (pc' := 1) F dX10_image_0 rfl 0 rfl rfl ?_
  refine v_get (pc' := 4) (v := .int (bI (¬ lr = 0))) (C := RX10) (T := TX10) (N := 38) F dX10_image_1 in_X10_image_X10 0 rfl rfl 0 (by decide) (List.mem_of_getElem? (i := 1) rfl) (congrArg (fun z => some (Value.int z)) hil) rfl ?_
  refine v_bif_ne (tgt := 10) (pc' := 7) F dX10_image_4 (by decide) rfl (fun c1 => ?_) (fun c1 => ?_)
  · refine v_aload_n (pc' := 11) F dX10_image_10 rfl 0 rfl rfl ?_
    refine v_iconst (pc' := 12) (v := nI 1) F dX10_image_11 (by decide) rfl ?_
    refine v_put (pc' := 15) (ws' := [(o, mO ma (va_up fi 31 (nI 1)) fl), (ma 4, aI G 4 pr), (ma 8, aI G 5 sx), (ma 35, aI G 5 kst), (ma 36, aI G 4 kpr)]) (C := RX10) (T := TX10) (N := 38) F dX10_image_12 in_X10_image_X10 tyX10_ok nmX10 0 rfl rfl 31 (by decide) (List.mem_of_getElem? (i := 2) rfl) rfl (by first | rfl | decide) rfl (Nat.le_of_ble_eq_true rfl) rfl rfl ?_
    refine v_aload_n (pc' := 16) F dX10_image_15 rfl 0 rfl rfl ?_
    refine v_aload_n (pc' := 17) F dX10_image_16 rfl 0 rfl rfl ?_
    refine v_get (pc' := 20) (v := .int (nI lr)) (C := RX10) (T := TX10) (N := 38) F dX10_image_17 in_X10_image_X10 0 rfl rfl 1 (by decide) (List.mem_of_getElem? (i := 3) rfl) (congrArg (fun z => some (Value.int z)) hlw) rfl ?_
    refine v_put (pc' := 23) (ws' := [(o, mO ma (va_up (va_up fi 31 (nI 1)) 32 (nI lr)) fl), (ma 4, aI G 4 pr), (ma 8, aI G 5 sx), (ma 35, aI G 5 kst), (ma 36, aI G 4 kpr)]) (C := RX10) (T := TX10) (N := 38) F dX10_image_20 in_X10_image_X10 tyX10_ok nmX10 0 rfl rfl 32 (by decide) (List.mem_of_getElem? (i := 4) rfl) rfl rfl rfl (Nat.le_of_ble_eq_true rfl) rfl rfl ?_
    refine v_aload_n (pc' := 24) F dX10_image_23 rfl 0 rfl rfl ?_
    refine v_aload_n (pc' := 25) F dX10_image_24 rfl 0 rfl rfl ?_
    refine v_get (pc' := 28) (v := .int (nI pe)) (C := RX10) (T := TX10) (N := 38) F dX10_image_25 in_X10_image_X10 0 rfl rfl 6 (by decide) (List.mem_of_getElem? (i := 5) rfl) (congrArg (fun z => some (Value.int z)) hpe) rfl ?_
    refine v_put (pc' := 31) (ws' := [(o, mO ma (va_up (va_up (va_up fi 31 (nI 1)) 32 (nI lr)) 33 (nI pe)) fl), (ma 4, aI G 4 pr), (ma 8, aI G 5 sx), (ma 35, aI G 5 kst), (ma 36, aI G 4 kpr)]) (C := RX10) (T := TX10) (N := 38) F dX10_image_28 in_X10_image_X10 tyX10_ok nmX10 0 rfl rfl 33 (by decide) (List.mem_of_getElem? (i := 6) rfl) rfl rfl rfl (Nat.le_of_ble_eq_true rfl) rfl rfl ?_
    refine v_aload_n (pc' := 32) F dX10_image_31 rfl 0 rfl rfl ?_
    refine v_aload_n (pc' := 33) F dX10_image_32 rfl 0 rfl rfl ?_
    refine v_get (pc' := 36) (v := .int (nI ac)) (C := RX10) (T := TX10) (N := 38) F dX10_image_33 in_X10_image_X10 0 rfl rfl 9 (by decide) (List.mem_of_getElem? (i := 7) rfl) (congrArg (fun z => some (Value.int z)) hac) rfl ?_
    refine v_put (pc' := 39) (ws' := [(o, mO ma (va_up (va_up (va_up (va_up fi 31 (nI 1)) 32 (nI lr)) 33 (nI pe)) 34 (nI ac)) fl), (ma 4, aI G 4 pr), (ma 8, aI G 5 sx), (ma 35, aI G 5 kst), (ma 36, aI G 4 kpr)]) (C := RX10) (T := TX10) (N := 38) F dX10_image_36 in_X10_image_X10 tyX10_ok nmX10 0 rfl rfl 34 (by decide) (List.mem_of_getElem? (i := 8) rfl) rfl rfl rfl (Nat.le_of_ble_eq_true rfl) rfl rfl ?_
    refine v_iconst (pc' := 40) (v := nI 0) F dX10_image_39 (by decide) rfl ?_
    refine v_istore_n (pc' := 41) (lv' := [(1, .int (nI 0)), (0, .ref o)]) F dX10_image_40 rfl (by decide) rfl rfl ?_
    have L41 : ∀ (fu : Nat) (j : Nat) (f : Nat → Nat), (j ≤ 5) → (f = cpy sx kst j) → 5 < j + fu → V pg l ev rm_X10_image sg mm ags bl me cd 0 0 Q D A 2 41 [(1, .int (nI j)), (0, .ref o)] [] [(o, mO ma (va_up (va_up (va_up (va_up fi 31 (nI 1)) 32 (nI lr)) 33 (nI pe)) 34 (nI ac)) fl), (ma 4, aI G 4 pr), (ma 8, aI G 5 sx), (ma 35, aI G 5 f), (ma 36, aI G 4 kpr)] := by
      intro fu
      induction fu with
      | zero => intro j f hj hf hfu; exact absurd hfu (by omega)
      | succ fu ih41 =>
        intro j f hj hf hfu
        subst hf
        refine v_iload_n (pc' := 42) F dX10_image_41 rfl 0 rfl rfl ?_
        refine v_iconst (pc' := 43) (v := nI 5) F dX10_image_42 (by decide) rfl ?_
        refine v_ncmp_ge (tgt := 64) (pc' := 46) F dX10_image_43 (by omega) (by omega) (by decide) rfl (fun c3 => ?_) (fun c3 => ?_)
        · refine v_iconst (pc' := 65) (v := nI 0) F dX10_image_64 (by decide) rfl ?_
          refine v_istore_n (pc' := 66) (lv' := [(1, .int (nI 0)), (0, .ref o)]) F dX10_image_65 rfl (by decide) rfl rfl ?_
          have L66 : ∀ (fu : Nat) (i : Nat) (f2 : Nat → Nat), (i ≤ 4) → (f2 = cpy pr kpr i) → 4 < i + fu → V pg l ev rm_X10_image sg mm ags bl me cd 0 0 Q D A 2 66 [(1, .int (nI i)), (0, .ref o)] [] [(o, mO ma (va_up (va_up (va_up (va_up fi 31 (nI 1)) 32 (nI lr)) 33 (nI pe)) 34 (nI ac)) fl), (ma 4, aI G 4 pr), (ma 8, aI G 5 sx), (ma 35, aI G 5 (cpy sx kst j)), (ma 36, aI G 4 f2)] := by
            intro fu
            induction fu with
            | zero => intro i f2 hi hf2 hfu; exact absurd hfu (by omega)
            | succ fu ih66 =>
              intro i f2 hi hf2 hfu
              subst hf2
              refine v_iload_n (pc' := 67) F dX10_image_66 rfl 0 rfl rfl ?_
              refine v_iconst (pc' := 68) (v := nI 4) F dX10_image_67 (by decide) rfl ?_
              refine v_ncmp_ge (tgt := 89) (pc' := 71) F dX10_image_68 (by omega) (by omega) (by decide) rfl (fun c5 => ?_) (fun c5 => ?_)
              · refine v_aload_n (pc' := 90) F dX10_image_89 rfl 1 rfl rfl ?_
                refine v_get (pc' := 93) (v := .int (nI pe)) (C := RX10) (T := TX10) (N := 38) F dX10_image_90 in_X10_image_X10 0 rfl rfl 6 (by decide) (List.mem_of_getElem? (i := 5) rfl) (congrArg (fun z => some (Value.int z)) hpe) rfl ?_
                exact rt dX10_image_93 ((va_up (va_up (va_up (va_up fi 31 (nI 1)) 32 (nI lr)) 33 (nI pe)) 34 (nI ac)), cpy sx kst j, cpy pr kpr i) ⟨(by unfold A_image; rw [if_neg (by first | assumption | exact inR_no0 (by assumption) | exact inR_no1 (by assumption) | exact inR_no2 (by assumption) | exact inR_no2 (nle9 (by assumption)) | exact inR_noL (by decide) (by assumption))]), (by rw [if_neg (by assumption), show j = 5 by omega, show i = 4 by omega]), (by rw [if_neg (by assumption)])⟩ rfl
              · refine v_aload_n (pc' := 72) F dX10_image_71 rfl 1 rfl rfl ?_
                refine v_get (pc' := 75) (v := .ref (ma 36)) (C := RX10) (T := TX10) (N := 38) F dX10_image_72 in_X10_image_X10 0 rfl rfl 36 (by decide) (List.mem_of_getElem? (i := 11) rfl) rfl rfl ?_
                refine v_iload_n (pc' := 76) F dX10_image_75 rfl 0 rfl rfl ?_
                refine v_aload_n (pc' := 77) F dX10_image_76 rfl 1 rfl rfl ?_
                refine v_get (pc' := 80) (v := .ref (ma 4)) (C := RX10) (T := TX10) (N := 38) F dX10_image_77 in_X10_image_X10 0 rfl rfl 4 (by decide) (List.mem_of_getElem? (i := 12) rfl) rfl rfl ?_
                refine v_iload_n (pc' := 81) F dX10_image_80 rfl 0 rfl rfl ?_
                refine v_iald (pc' := 82) (z := pr i) F dX10_image_81 1 rfl (by omega) (by decide) rfl rfl ?_
                refine v_iast (pc' := 83) (ws' := [(o, mO ma (va_up (va_up (va_up (va_up fi 31 (nI 1)) 32 (nI lr)) 33 (nI pe)) 34 (nI ac)) fl), (ma 4, aI G 4 pr), (ma 8, aI G 5 sx), (ma 35, aI G 5 (cpy sx kst j)), (ma 36, aI G 4 (va_up (cpy pr kpr i) i (pr i)))]) F dX10_image_82 4 rfl (by omega) (by decide) rfl rfl ?_
                refine v_iinc (pc' := 86) (v := nI (i + 1)) (lv' := [(1, .int (nI (i + 1))), (0, .ref o)]) F dX10_image_83 0 rfl (nI_add _ _) (by decide) rfl rfl ?_
                refine v_goto (tgt := 66) F dX10_image_86 (by decide) ?_
                exact ih66 (i + 1) (va_up (cpy pr kpr i) i (pr i)) (by omega) (cpy_s pr kpr i) (by omega)
          exact L66 (4 + 1) 0 kpr (by omega) (cpy_0 pr kpr) (by omega)
        · refine v_aload_n (pc' := 47) F dX10_image_46 rfl 1 rfl rfl ?_
          refine v_get (pc' := 50) (v := .ref (ma 35)) (C := RX10) (T := TX10) (N := 38) F dX10_image_47 in_X10_image_X10 0 rfl rfl 35 (by decide) (List.mem_of_getElem? (i := 9) rfl) rfl rfl ?_
          refine v_iload_n (pc' := 51) F dX10_image_50 rfl 0 rfl rfl ?_
          refine v_aload_n (pc' := 52) F dX10_image_51 rfl 1 rfl rfl ?_
          refine v_get (pc' := 55) (v := .ref (ma 8)) (C := RX10) (T := TX10) (N := 38) F dX10_image_52 in_X10_image_X10 0 rfl rfl 8 (by decide) (List.mem_of_getElem? (i := 10) rfl) rfl rfl ?_
          refine v_iload_n (pc' := 56) F dX10_image_55 rfl 0 rfl rfl ?_
          refine v_iald (pc' := 57) (z := sx j) F dX10_image_56 2 rfl (by omega) (by decide) rfl rfl ?_
          refine v_iast (pc' := 58) (ws' := [(o, mO ma (va_up (va_up (va_up (va_up fi 31 (nI 1)) 32 (nI lr)) 33 (nI pe)) 34 (nI ac)) fl), (ma 4, aI G 4 pr), (ma 8, aI G 5 sx), (ma 35, aI G 5 (va_up (cpy sx kst j) j (sx j))), (ma 36, aI G 4 kpr)]) F dX10_image_57 3 rfl (by omega) (by decide) rfl rfl ?_
          refine v_iinc (pc' := 61) (v := nI (j + 1)) (lv' := [(1, .int (nI (j + 1))), (0, .ref o)]) F dX10_image_58 0 rfl (nI_add _ _) (by decide) rfl rfl ?_
          refine v_goto (tgt := 41) F dX10_image_61 (by decide) ?_
          exact ih41 (j + 1) (va_up (cpy sx kst j) j (sx j)) (by omega) (cpy_s sx kst j) (by omega)
    exact L41 (5 + 1) 0 kst (by omega) (cpy_0 sx kst) (by omega)
  · have c1 := Decidable.not_not.mp c1
    refine v_bipush (pc' := 9) (v := (-103)) F dX10_image_7 (by decide) rfl ?_
    exact rt dX10_image_9 (fi, kst, kpr) ⟨(by unfold A_image; rw [if_pos (by assumption)]), (by rw [if_pos (by assumption)]), (by rw [if_pos (by assumption)])⟩ rfl
def rm_X9_restore : Room := { frames := 0, cells := 0, slots := 0, locals := 0 }
theorem in_X9_restore_X1 : ∀ w ∈ u_ws RX1 TX1 5, w ∈ wsX9_restore := fun w h => List.mem_cons_of_mem _ (List.mem_append_left _ (List.mem_append_left _ (List.mem_append_left _ (List.mem_append_right _ (h)))))
theorem in_X9_restore_X3 : ∀ w ∈ u_ws RX3 TX3 6, w ∈ wsX9_restore := fun w h => List.mem_cons_of_mem _ (List.mem_append_right _ (h))
theorem in_X9_restore_X5 : ∀ w ∈ u_ws RX5 TX5 2, w ∈ wsX9_restore := fun w h => List.mem_cons_of_mem _ (List.mem_append_left _ (List.mem_append_right _ (h)))
theorem in_X9_restore_X8 : ∀ w ∈ u_ws RX8 TX8 7, w ∈ wsX9_restore := fun w h => List.mem_cons_of_mem _ (List.mem_append_left _ (List.mem_append_left _ (List.mem_append_right _ (h))))
theorem in_X9_restore_X9 : ∀ w ∈ u_ws RX9 TX9 12, w ∈ wsX9_restore := fun w h => List.mem_cons_of_mem _ (List.mem_append_left _ (List.mem_append_left _ (List.mem_append_left _ (List.mem_append_left _ (List.mem_append_right _ (h))))))
set_option maxHeartbeats 4000000 in
set_option maxRecDepth 100000 in
theorem c_X9_restore {l : Launch} {D : va_G} {G : gT} (x pgo ppa dl se tr im la dr pe ac lr sd : Nat) (tpu tro trb tg kd sf sz : Nat) (ims imp kg kp ka : Nat) (kst kpr : Nat → Nat) (b0 b1 b2 b3 lp ld : Nat) (tk gv pr py : Nat → Nat) (pq ks sx : Nat → Nat) (hkg : kg < 2) : CtI (σ := (Nat × Nat × (Nat → Nat) × (Nat → Nat))) l yX9_restore wsX9_restore rm_X9_restore D G [.ref x] ((x, .inr (7, [.ref pgo, .ref ppa, .ref dl, .ref se, .ref tr, .ref im, .ref la, .ref dr, .int (nI pe), .int (nI ac), .int (nI lr), .int (nI sd)])) :: (tr, .inr (6, [.ref tpu, .ref tro, .ref trb, .int (nI tg), .ref (gAd G kd), .int (nI (eS sf)), .int (nI sz)])) :: (im, .inr (1, [.ref ims, .ref imp, .int (nI kg), .int (nI kp), .int (nI ka)])) :: (ims, aI G 5 (fun j => eS (kst j))) :: (imp, aI G 4 kpr) :: (la, .inr (2, [.ref b0, .ref b1, .ref b2, .ref b3, .int (nI lp), .int (nI ld)])) :: (b0, aI G 4 tk) :: (b1, aI G 4 gv) :: (b2, aI G 4 pr) :: (b3, aI G 4 py) :: (ppa, aP G 5 pq) :: pX G pq ks sx) (fun r u => r = A_restore kg kp ∧ u = N_restore kg kp ka kst kpr pe ac sx pr) (fun u => ((x, .inr (7, [.ref pgo, .ref ppa, .ref dl, .ref se, .ref tr, .ref im, .ref la, .ref dr, .int (nI u.1), .int (nI u.2.1), .int (nI lr), .int (nI sd)])) :: (tr, .inr (6, [.ref tpu, .ref tro, .ref trb, .int (nI (if kg = 0 then tg else 0)), .ref (gAd G kd), .int (nI (eS sf)), .int (nI sz)])) :: (im, .inr (1, [.ref ims, .ref imp, .int (nI kg), .int (nI kp), .int (nI ka)])) :: (ims, aI G 5 (fun j => eS (kst j))) :: (imp, aI G 4 kpr) :: (la, .inr (2, [.ref b0, .ref b1, .ref b2, .ref b3, .int (nI lp), .int (nI ld)])) :: (b0, aI G 4 tk) :: (b1, aI G 4 gv) :: (b2, aI G 4 u.2.2.2) :: (b3, aI G 4 py) :: (ppa, aP G 5 pq) :: pX G pq ks u.2.2.1)) := by
  refine openI (maxL := 2) (by decide) rfl (Nat.le_of_ble_eq_true rfl) ?_
  intro pg ev sg mm ags bl me cd A Q F hmn rt
  refine v_lv (lz := [(0, .ref x)]) rfl ?_
  refine v_aload_n (pc' := 1) F dX9_restore_0 rfl 0 rfl rfl ?_
  refine v_get (pc' := 4) (C := RX9) (T := TX9) (N := 12) F dX9_restore_1 in_X9_restore_X9 0 rfl rfl 5 (by decide) (List.mem_of_getElem? (i := 1) rfl) rfl rfl ?_
  refine v_get (pc' := 7) (C := RX1) (T := TX1) (N := 5) F dX9_restore_4 in_X9_restore_X1 2 rfl rfl 2 (by decide) (List.mem_of_getElem? (i := 2) rfl) rfl rfl ?_
  refine v_nif_ne (tgt := 13) (pc' := 10) F dX9_restore_7 (by omega) (by decide) rfl (fun c1 => ?_) (fun c1 => ?_)
  · refine v_aload_n (pc' := 14) F dX9_restore_13 rfl 0 rfl rfl ?_
    refine v_get (pc' := 17) (C := RX9) (T := TX9) (N := 12) F dX9_restore_14 in_X9_restore_X9 0 rfl rfl 4 (by decide) (List.mem_of_getElem? (i := 3) rfl) rfl rfl ?_
    refine v_iconst (pc' := 18) (v := nI 0) F dX9_restore_17 (by decide) rfl ?_
    refine v_put (pc' := 21) (ws' := ((x, .inr (7, [.ref pgo, .ref ppa, .ref dl, .ref se, .ref tr, .ref im, .ref la, .ref dr, .int (nI pe), .int (nI ac), .int (nI lr), .int (nI sd)])) :: (tr, .inr (6, [.ref tpu, .ref tro, .ref trb, .int (nI 0), .ref (gAd G kd), .int (nI (eS sf)), .int (nI sz)])) :: (im, .inr (1, [.ref ims, .ref imp, .int (nI kg), .int (nI kp), .int (nI ka)])) :: (ims, aI G 5 (fun j => eS (kst j))) :: (imp, aI G 4 kpr) :: (la, .inr (2, [.ref b0, .ref b1, .ref b2, .ref b3, .int (nI lp), .int (nI ld)])) :: (b0, aI G 4 tk) :: (b1, aI G 4 gv) :: (b2, aI G 4 pr) :: (b3, aI G 4 py) :: (ppa, aP G 5 pq) :: pX G pq ks sx)) (C := RX8) (T := TX8) (N := 7) F dX9_restore_18 in_X9_restore_X8 tyX8_ok nmX8 1 rfl rfl 3 (by decide) (List.mem_of_getElem? (i := 4) rfl) rfl (by first | rfl | decide) rfl (Nat.le_of_ble_eq_true rfl) rfl rfl ?_
    refine v_aload_n (pc' := 22) F dX9_restore_21 rfl 0 rfl rfl ?_
    refine v_aload_n (pc' := 23) F dX9_restore_22 rfl 0 rfl rfl ?_
    refine v_get (pc' := 26) (C := RX9) (T := TX9) (N := 12) F dX9_restore_23 in_X9_restore_X9 0 rfl rfl 5 (by decide) (List.mem_of_getElem? (i := 1) rfl) rfl rfl ?_
    refine v_get (pc' := 29) (C := RX1) (T := TX1) (N := 5) F dX9_restore_26 in_X9_restore_X1 2 rfl rfl 3 (by decide) (List.mem_of_getElem? (i := 5) rfl) rfl rfl ?_
    refine v_put (pc' := 32) (ws' := ((x, .inr (7, [.ref pgo, .ref ppa, .ref dl, .ref se, .ref tr, .ref im, .ref la, .ref dr, .int (nI kp), .int (nI ac), .int (nI lr), .int (nI sd)])) :: (tr, .inr (6, [.ref tpu, .ref tro, .ref trb, .int (nI 0), .ref (gAd G kd), .int (nI (eS sf)), .int (nI sz)])) :: (im, .inr (1, [.ref ims, .ref imp, .int (nI kg), .int (nI kp), .int (nI ka)])) :: (ims, aI G 5 (fun j => eS (kst j))) :: (imp, aI G 4 kpr) :: (la, .inr (2, [.ref b0, .ref b1, .ref b2, .ref b3, .int (nI lp), .int (nI ld)])) :: (b0, aI G 4 tk) :: (b1, aI G 4 gv) :: (b2, aI G 4 pr) :: (b3, aI G 4 py) :: (ppa, aP G 5 pq) :: pX G pq ks sx)) (C := RX9) (T := TX9) (N := 12) F dX9_restore_29 in_X9_restore_X9 tyX9_ok nmX9 0 rfl rfl 8 (by decide) (List.mem_of_getElem? (i := 6) rfl) rfl rfl rfl (Nat.le_of_ble_eq_true rfl) rfl rfl ?_
    refine v_aload_n (pc' := 33) F dX9_restore_32 rfl 0 rfl rfl ?_
    refine v_aload_n (pc' := 34) F dX9_restore_33 rfl 0 rfl rfl ?_
    refine v_get (pc' := 37) (C := RX9) (T := TX9) (N := 12) F dX9_restore_34 in_X9_restore_X9 0 rfl rfl 5 (by decide) (List.mem_of_getElem? (i := 1) rfl) rfl rfl ?_
    refine v_get (pc' := 40) (C := RX1) (T := TX1) (N := 5) F dX9_restore_37 in_X9_restore_X1 2 rfl rfl 4 (by decide) (List.mem_of_getElem? (i := 7) rfl) rfl rfl ?_
    refine v_put (pc' := 43) (ws' := ((x, .inr (7, [.ref pgo, .ref ppa, .ref dl, .ref se, .ref tr, .ref im, .ref la, .ref dr, .int (nI kp), .int (nI ka), .int (nI lr), .int (nI sd)])) :: (tr, .inr (6, [.ref tpu, .ref tro, .ref trb, .int (nI 0), .ref (gAd G kd), .int (nI (eS sf)), .int (nI sz)])) :: (im, .inr (1, [.ref ims, .ref imp, .int (nI kg), .int (nI kp), .int (nI ka)])) :: (ims, aI G 5 (fun j => eS (kst j))) :: (imp, aI G 4 kpr) :: (la, .inr (2, [.ref b0, .ref b1, .ref b2, .ref b3, .int (nI lp), .int (nI ld)])) :: (b0, aI G 4 tk) :: (b1, aI G 4 gv) :: (b2, aI G 4 pr) :: (b3, aI G 4 py) :: (ppa, aP G 5 pq) :: pX G pq ks sx)) (C := RX9) (T := TX9) (N := 12) F dX9_restore_40 in_X9_restore_X9 tyX9_ok nmX9 0 rfl rfl 9 (by decide) (List.mem_of_getElem? (i := 8) rfl) rfl rfl rfl (Nat.le_of_ble_eq_true rfl) rfl rfl ?_
    refine v_iconst (pc' := 44) (v := nI 0) F dX9_restore_43 (by decide) rfl ?_
    refine v_istore_n (pc' := 45) (lv' := [(1, .int (nI 0)), (0, .ref x)]) F dX9_restore_44 rfl (by decide) rfl rfl ?_
    have L45 : ∀ (fu : Nat) (j : Nat) (f : Nat → Nat), (j ≤ 5) → (f = cpy kst sx j) → 5 < j + fu → V pg l ev rm_X9_restore sg mm ags bl me cd 0 0 Q D A 2 45 [(1, .int (nI j)), (0, .ref x)] [] ((x, .inr (7, [.ref pgo, .ref ppa, .ref dl, .ref se, .ref tr, .ref im, .ref la, .ref dr, .int (nI kp), .int (nI ka), .int (nI lr), .int (nI sd)])) :: (tr, .inr (6, [.ref tpu, .ref tro, .ref trb, .int (nI 0), .ref (gAd G kd), .int (nI (eS sf)), .int (nI sz)])) :: (im, .inr (1, [.ref ims, .ref imp, .int (nI kg), .int (nI kp), .int (nI ka)])) :: (ims, aI G 5 (fun j => eS (kst j))) :: (imp, aI G 4 kpr) :: (la, .inr (2, [.ref b0, .ref b1, .ref b2, .ref b3, .int (nI lp), .int (nI ld)])) :: (b0, aI G 4 tk) :: (b1, aI G 4 gv) :: (b2, aI G 4 pr) :: (b3, aI G 4 py) :: (ppa, aP G 5 pq) :: pX G pq ks f) := by
      intro fu
      induction fu with
      | zero => intro j f hj hf hfu; exact absurd hfu (by omega)
      | succ fu ih45 =>
        intro j f hj hf hfu
        subst hf
        refine v_iload_n (pc' := 46) F dX9_restore_45 rfl 0 rfl rfl ?_
        refine v_iconst (pc' := 47) (v := nI 5) F dX9_restore_46 (by decide) rfl ?_
        refine v_ncmp_ge (tgt := 74) (pc' := 50) F dX9_restore_47 (by omega) (by omega) (by decide) rfl (fun c3 => ?_) (fun c3 => ?_)
        · refine v_iconst (pc' := 75) (v := nI 0) F dX9_restore_74 (by decide) rfl ?_
          refine v_istore_n (pc' := 76) (lv' := [(1, .int (nI 0)), (0, .ref x)]) F dX9_restore_75 rfl (by decide) rfl rfl ?_
          have L76 : ∀ (fu : Nat) (i : Nat) (f2 : Nat → Nat), (i ≤ 4) → (f2 = cpy kpr pr i) → 4 < i + fu → V pg l ev rm_X9_restore sg mm ags bl me cd 0 0 Q D A 2 76 [(1, .int (nI i)), (0, .ref x)] [] ((x, .inr (7, [.ref pgo, .ref ppa, .ref dl, .ref se, .ref tr, .ref im, .ref la, .ref dr, .int (nI kp), .int (nI ka), .int (nI lr), .int (nI sd)])) :: (tr, .inr (6, [.ref tpu, .ref tro, .ref trb, .int (nI 0), .ref (gAd G kd), .int (nI (eS sf)), .int (nI sz)])) :: (im, .inr (1, [.ref ims, .ref imp, .int (nI kg), .int (nI kp), .int (nI ka)])) :: (ims, aI G 5 (fun j => eS (kst j))) :: (imp, aI G 4 kpr) :: (la, .inr (2, [.ref b0, .ref b1, .ref b2, .ref b3, .int (nI lp), .int (nI ld)])) :: (b0, aI G 4 tk) :: (b1, aI G 4 gv) :: (b2, aI G 4 f2) :: (b3, aI G 4 py) :: (ppa, aP G 5 pq) :: pX G pq ks (cpy kst sx j)) := by
            intro fu
            induction fu with
            | zero => intro i f2 hi hf2 hfu; exact absurd hfu (by omega)
            | succ fu ih76 =>
              intro i f2 hi hf2 hfu
              subst hf2
              refine v_iload_n (pc' := 77) F dX9_restore_76 rfl 0 rfl rfl ?_
              refine v_iconst (pc' := 78) (v := nI 4) F dX9_restore_77 (by decide) rfl ?_
              refine v_ncmp_ge (tgt := 105) (pc' := 81) F dX9_restore_78 (by omega) (by omega) (by decide) rfl (fun c5 => ?_) (fun c5 => ?_)
              · refine v_aload_n (pc' := 106) F dX9_restore_105 rfl 1 rfl rfl ?_
                refine v_get (pc' := 109) (C := RX9) (T := TX9) (N := 12) F dX9_restore_106 in_X9_restore_X9 0 rfl rfl 8 (by decide) (List.mem_of_getElem? (i := 6) rfl) rfl rfl ?_
                refine v_ws (wz := ((x, .inr (7, [.ref pgo, .ref ppa, .ref dl, .ref se, .ref tr, .ref im, .ref la, .ref dr, .int (nI kp), .int (nI ka), .int (nI lr), .int (nI sd)])) :: (tr, .inr (6, [.ref tpu, .ref tro, .ref trb, .int (nI (if kg = 0 then tg else 0)), .ref (gAd G kd), .int (nI (eS sf)), .int (nI sz)])) :: (im, .inr (1, [.ref ims, .ref imp, .int (nI kg), .int (nI kp), .int (nI ka)])) :: (ims, aI G 5 (fun j => eS (kst j))) :: (imp, aI G 4 kpr) :: (la, .inr (2, [.ref b0, .ref b1, .ref b2, .ref b3, .int (nI lp), .int (nI ld)])) :: (b0, aI G 4 tk) :: (b1, aI G 4 gv) :: (b2, aI G 4 (cpy kpr pr i)) :: (b3, aI G 4 py) :: (ppa, aP G 5 pq) :: pX G pq ks (cpy kst sx j))) (by rw [if_neg (by assumption)]) ?_
                exact rt dX9_restore_109 (kp, ka, cpy kst sx j, cpy kpr pr i) ⟨(by unfold A_restore; rw [if_neg (by first | assumption | exact inR_no0 (by assumption) | exact inR_no1 (by assumption) | exact inR_no2 (by assumption) | exact inR_no2 (nle9 (by assumption)) | exact inR_noL (by decide) (by assumption))]), (by unfold N_restore; rw [if_neg (by assumption), show j = 5 by omega, show i = 4 by omega])⟩ rfl
              · refine v_aload_n (pc' := 82) F dX9_restore_81 rfl 1 rfl rfl ?_
                refine v_get (pc' := 85) (C := RX9) (T := TX9) (N := 12) F dX9_restore_82 in_X9_restore_X9 0 rfl rfl 6 (by decide) (List.mem_of_getElem? (i := 12) rfl) rfl rfl ?_
                refine v_get (pc' := 88) (C := RX3) (T := TX3) (N := 6) F dX9_restore_85 in_X9_restore_X3 5 rfl rfl 2 (by decide) (List.mem_of_getElem? (i := 13) rfl) rfl rfl ?_
                refine v_iload_n (pc' := 89) F dX9_restore_88 rfl 0 rfl rfl ?_
                refine v_aload_n (pc' := 90) F dX9_restore_89 rfl 1 rfl rfl ?_
                refine v_get (pc' := 93) (C := RX9) (T := TX9) (N := 12) F dX9_restore_90 in_X9_restore_X9 0 rfl rfl 5 (by decide) (List.mem_of_getElem? (i := 1) rfl) rfl rfl ?_
                refine v_get (pc' := 96) (C := RX1) (T := TX1) (N := 5) F dX9_restore_93 in_X9_restore_X1 2 rfl rfl 1 (by decide) (List.mem_of_getElem? (i := 14) rfl) rfl rfl ?_
                refine v_iload_n (pc' := 97) F dX9_restore_96 rfl 0 rfl rfl ?_
                refine v_iald (pc' := 98) (z := kpr i) F dX9_restore_97 4 rfl (by omega) (by decide) rfl rfl ?_
                refine v_iast (pc' := 99) (ws' := ((x, .inr (7, [.ref pgo, .ref ppa, .ref dl, .ref se, .ref tr, .ref im, .ref la, .ref dr, .int (nI kp), .int (nI ka), .int (nI lr), .int (nI sd)])) :: (tr, .inr (6, [.ref tpu, .ref tro, .ref trb, .int (nI 0), .ref (gAd G kd), .int (nI (eS sf)), .int (nI sz)])) :: (im, .inr (1, [.ref ims, .ref imp, .int (nI kg), .int (nI kp), .int (nI ka)])) :: (ims, aI G 5 (fun j => eS (kst j))) :: (imp, aI G 4 kpr) :: (la, .inr (2, [.ref b0, .ref b1, .ref b2, .ref b3, .int (nI lp), .int (nI ld)])) :: (b0, aI G 4 tk) :: (b1, aI G 4 gv) :: (b2, aI G 4 (va_up (cpy kpr pr i) i (kpr i))) :: (b3, aI G 4 py) :: (ppa, aP G 5 pq) :: pX G pq ks (cpy kst sx j))) F dX9_restore_98 8 rfl (by omega) (by decide) rfl rfl ?_
                refine v_iinc (pc' := 102) (v := nI (i + 1)) (lv' := [(1, .int (nI (i + 1))), (0, .ref x)]) F dX9_restore_99 0 rfl (nI_add _ _) (by decide) rfl rfl ?_
                refine v_goto (tgt := 76) F dX9_restore_102 (by decide) ?_
                exact ih76 (i + 1) (va_up (cpy kpr pr i) i (kpr i)) (by omega) (cpy_s kpr pr i) (by omega)
          exact L76 (4 + 1) 0 pr (by omega) (cpy_0 kpr pr) (by omega)
        · refine v_aload_n (pc' := 51) F dX9_restore_50 rfl 1 rfl rfl ?_
          refine v_get (pc' := 54) (C := RX9) (T := TX9) (N := 12) F dX9_restore_51 in_X9_restore_X9 0 rfl rfl 1 (by decide) (List.mem_of_getElem? (i := 9) rfl) rfl rfl ?_
          refine v_iload_n (pc' := 55) F dX9_restore_54 rfl 0 rfl rfl ?_
          refine v_pald (pc' := 56) (z := pq j) F dX9_restore_55 10 rfl (by omega) (by decide) rfl rfl ?_
          refine v_aload_n (pc' := 57) F dX9_restore_56 rfl 1 rfl rfl ?_
          refine v_get (pc' := 60) (C := RX9) (T := TX9) (N := 12) F dX9_restore_57 in_X9_restore_X9 0 rfl rfl 5 (by decide) (List.mem_of_getElem? (i := 1) rfl) rfl rfl ?_
          refine v_get (pc' := 63) (C := RX1) (T := TX1) (N := 5) F dX9_restore_60 in_X9_restore_X1 2 rfl rfl 0 (by decide) (List.mem_of_getElem? (i := 10) rfl) rfl rfl ?_
          refine v_iload_n (pc' := 64) F dX9_restore_63 rfl 0 rfl rfl ?_
          refine v_iald (pc' := 65) (z := eS (kst j)) F dX9_restore_64 3 rfl (by omega) (by decide) rfl rfl ?_
          refine v_put (pc' := 68) (ws := ((x, .inr (7, [.ref pgo, .ref ppa, .ref dl, .ref se, .ref tr, .ref im, .ref la, .ref dr, .int (nI kp), .int (nI ka), .int (nI lr), .int (nI sd)])) :: (tr, .inr (6, [.ref tpu, .ref tro, .ref trb, .int (nI 0), .ref (gAd G kd), .int (nI (eS sf)), .int (nI sz)])) :: (im, .inr (1, [.ref ims, .ref imp, .int (nI kg), .int (nI kp), .int (nI ka)])) :: (ims, aI G 5 (fun j => eS (kst j))) :: (imp, aI G 4 kpr) :: (la, .inr (2, [.ref b0, .ref b1, .ref b2, .ref b3, .int (nI lp), .int (nI ld)])) :: (b0, aI G 4 tk) :: (b1, aI G 4 gv) :: (b2, aI G 4 pr) :: (b3, aI G 4 py) :: (ppa, aP G 5 pq) :: pX G pq ks (cpy kst sx j))) (ws' := ((x, .inr (7, [.ref pgo, .ref ppa, .ref dl, .ref se, .ref tr, .ref im, .ref la, .ref dr, .int (nI kp), .int (nI ka), .int (nI lr), .int (nI sd)])) :: (tr, .inr (6, [.ref tpu, .ref tro, .ref trb, .int (nI 0), .ref (gAd G kd), .int (nI (eS sf)), .int (nI sz)])) :: (im, .inr (1, [.ref ims, .ref imp, .int (nI kg), .int (nI kp), .int (nI ka)])) :: (ims, aI G 5 (fun j => eS (kst j))) :: (imp, aI G 4 kpr) :: (la, .inr (2, [.ref b0, .ref b1, .ref b2, .ref b3, .int (nI lp), .int (nI ld)])) :: (b0, aI G 4 tk) :: (b1, aI G 4 gv) :: (b2, aI G 4 pr) :: (b3, aI G 4 py) :: (ppa, aP G 5 pq) :: pX G pq ks (va_up (cpy kst sx j) j (kst j)))) (C := RX5) (T := TX5) (N := 2) F dX9_restore_65 in_X9_restore_X5 tyX5_ok nmX5 (j + 11) (pX_at (by omega)) rfl 1 (by decide) (List.mem_of_getElem? (i := 11) rfl) rfl rfl rfl (Nat.le_of_ble_eq_true rfl) (congrArg (fun zz : va_W => ((x, .inr (7, [.ref pgo, .ref ppa, .ref dl, .ref se, .ref tr, .ref im, .ref la, .ref dr, .int (nI kp), .int (nI ka), .int (nI lr), .int (nI sd)])) :: (tr, .inr (6, [.ref tpu, .ref tro, .ref trb, .int (nI 0), .ref (gAd G kd), .int (nI (eS sf)), .int (nI sz)])) :: (im, .inr (1, [.ref ims, .ref imp, .int (nI kg), .int (nI kp), .int (nI ka)])) :: (ims, aI G 5 (fun j => eS (kst j))) :: (imp, aI G 4 kpr) :: (la, .inr (2, [.ref b0, .ref b1, .ref b2, .ref b3, .int (nI lp), .int (nI ld)])) :: (b0, aI G 4 tk) :: (b1, aI G 4 gv) :: (b2, aI G 4 pr) :: (b3, aI G 4 py) :: (ppa, aP G 5 pq) :: zz : va_W)) (pX_set1 (G := G) (pa := pq) (ks := ks) (sx := cpy kst sx j) (i := j) (w := kst j) (by omega))) rfl ?_
          refine v_iinc (pc' := 71) (v := nI (j + 1)) (lv' := [(1, .int (nI (j + 1))), (0, .ref x)]) F dX9_restore_68 0 rfl (nI_add _ _) (by decide) rfl rfl ?_
          refine v_goto (tgt := 45) F dX9_restore_71 (by decide) ?_
          exact ih45 (j + 1) (va_up (cpy kst sx j) j (kst j)) (by omega) (cpy_s kst sx j) (by omega)
    exact L45 (5 + 1) 0 sx (by omega) (cpy_0 kst sx) (by omega)
  · refine v_bipush (pc' := 12) (v := (-103)) F dX9_restore_10 (by decide) rfl ?_
    refine v_ws (wz := ((x, .inr (7, [.ref pgo, .ref ppa, .ref dl, .ref se, .ref tr, .ref im, .ref la, .ref dr, .int (nI pe), .int (nI ac), .int (nI lr), .int (nI sd)])) :: (tr, .inr (6, [.ref tpu, .ref tro, .ref trb, .int (nI (if kg = 0 then tg else 0)), .ref (gAd G kd), .int (nI (eS sf)), .int (nI sz)])) :: (im, .inr (1, [.ref ims, .ref imp, .int (nI kg), .int (nI kp), .int (nI ka)])) :: (ims, aI G 5 (fun j => eS (kst j))) :: (imp, aI G 4 kpr) :: (la, .inr (2, [.ref b0, .ref b1, .ref b2, .ref b3, .int (nI lp), .int (nI ld)])) :: (b0, aI G 4 tk) :: (b1, aI G 4 gv) :: (b2, aI G 4 pr) :: (b3, aI G 4 py) :: (ppa, aP G 5 pq) :: pX G pq ks sx)) (by rw [if_pos (by assumption)]) ?_
    exact rt dX9_restore_12 (pe, ac, sx, pr) ⟨(by unfold A_restore; rw [if_pos (by assumption)]), (by unfold N_restore; rw [if_pos (by assumption)])⟩ rfl
def rm_X10_restore : Room := { frames := 0, cells := 0, slots := 0, locals := 0 }
theorem in_X10_restore_X10 : ∀ w ∈ u_ws RX10 TX10 38, w ∈ wsX10_restore := fun w h => List.mem_cons_of_mem _ (List.mem_append_right _ (h))
set_option maxHeartbeats 4000000 in
set_option maxRecDepth 100000 in
theorem c_X10_restore {l : Launch} {D : va_G} {G : gT} (o : Nat) (ma : Nat → Nat) (fi : Nat → Int32) (fl : Nat → Int64) (pr sx kst kpr : Nat → Nat) (lr ik kl kg kp ka pe ac : Nat) (hlw : fi 1 = nI lr) (hik : fi 31 = nI ik) (hkl : fi 32 = nI kl) (hkp : fi 33 = nI kp) (hka : fi 34 = nI ka) (hl1 : lr < 2 ^ 31) (hl2 : kl < 2 ^ 31) (hi1 : ik < 2) (hkg : kg = if ik = 0 then 0 else if kl = lr then 1 else 0) : CtI (σ := (Nat → Int32) × ((Nat → Nat) × (Nat → Nat))) l yX10_restore wsX10_restore rm_X10_restore D G [.ref o] [(o, mO ma fi fl), (ma 4, aI G 4 pr), (ma 8, aI G 5 sx), (ma 35, aI G 5 kst), (ma 36, aI G 4 kpr)] (fun r u => r = A_restore kg kp ∧ (u.2) = (if kg = 0 then (sx, pr) else (cpy kst sx 5, cpy kpr pr 4)) ∧ (u.1) = (if kg = 0 then fi else va_up (va_up (va_up (va_up fi 6 (nI kp)) 9 (nI ka)) 11 (-1)) 13 (nI 0))) (fun u => [(o, mO ma (u.1) fl), (ma 4, aI G 4 ((u.2).2)), (ma 8, aI G 5 ((u.2).1)), (ma 35, aI G 5 kst), (ma 36, aI G 4 kpr)]) := by
  refine openI (maxL := 2) (by decide) rfl (Nat.le_of_ble_eq_true rfl) ?_
  intro pg ev sg mm ags bl me cd A Q F hmn rt
  refine v_lv (lz := [(0, .ref o)]) rfl ?_
  refine v_aload_n (pc' := 1) F dX10_restore_0 rfl 0 rfl rfl ?_
  refine v_get (pc' := 4) (v := .int (nI ik)) (C := RX10) (T := TX10) (N := 38) F dX10_restore_1 in_X10_restore_X10 0 rfl rfl 31 (by decide) (List.mem_of_getElem? (i := 1) rfl) (congrArg (fun z => some (Value.int z)) hik) rfl ?_
  refine v_nif_eq (tgt := 18) (pc' := 7) F dX10_restore_4 (by omega) (by decide) rfl (fun c1 => ?_) (fun c1 => ?_)
  · have hk0 : kg = 0 := by rw [hkg]; first | rw [if_pos (by assumption)] | (rw [if_neg (by assumption), if_neg (by assumption)])
    refine v_bipush (pc' := 20) (v := (-103)) F dX10_restore_18 (by decide) rfl ?_
    exact rt dX10_restore_20 (fi, sx, pr) ⟨(by unfold A_restore; rw [if_pos hk0]), (by rw [if_pos hk0]), (by rw [if_pos hk0])⟩ rfl
  · refine v_aload_n (pc' := 8) F dX10_restore_7 rfl 0 rfl rfl ?_
    refine v_get (pc' := 11) (v := .int (nI kl)) (C := RX10) (T := TX10) (N := 38) F dX10_restore_8 in_X10_restore_X10 0 rfl rfl 32 (by decide) (List.mem_of_getElem? (i := 2) rfl) (congrArg (fun z => some (Value.int z)) hkl) rfl ?_
    refine v_aload_n (pc' := 12) F dX10_restore_11 rfl 0 rfl rfl ?_
    refine v_get (pc' := 15) (v := .int (nI lr)) (C := RX10) (T := TX10) (N := 38) F dX10_restore_12 in_X10_restore_X10 0 rfl rfl 1 (by decide) (List.mem_of_getElem? (i := 3) rfl) (congrArg (fun z => some (Value.int z)) hlw) rfl ?_
    refine v_ncmp_eq (tgt := 21) (pc' := 18) F dX10_restore_15 (by omega) (by omega) (by decide) rfl (fun c2 => ?_) (fun c2 => ?_)
    · have hk1 : ¬ kg = 0 := by rw [hkg, if_neg (by assumption), if_pos (by assumption)]; decide
      refine v_aload_n (pc' := 22) F dX10_restore_21 rfl 0 rfl rfl ?_
      refine v_aload_n (pc' := 23) F dX10_restore_22 rfl 0 rfl rfl ?_
      refine v_get (pc' := 26) (v := .int (nI kp)) (C := RX10) (T := TX10) (N := 38) F dX10_restore_23 in_X10_restore_X10 0 rfl rfl 33 (by decide) (List.mem_of_getElem? (i := 4) rfl) (congrArg (fun z => some (Value.int z)) hkp) rfl ?_
      refine v_put (pc' := 29) (ws' := [(o, mO ma (va_up fi 6 (nI kp)) fl), (ma 4, aI G 4 pr), (ma 8, aI G 5 sx), (ma 35, aI G 5 kst), (ma 36, aI G 4 kpr)]) (C := RX10) (T := TX10) (N := 38) F dX10_restore_26 in_X10_restore_X10 tyX10_ok nmX10 0 rfl rfl 6 (by decide) (List.mem_of_getElem? (i := 5) rfl) rfl rfl rfl (Nat.le_of_ble_eq_true rfl) rfl rfl ?_
      refine v_aload_n (pc' := 30) F dX10_restore_29 rfl 0 rfl rfl ?_
      refine v_aload_n (pc' := 31) F dX10_restore_30 rfl 0 rfl rfl ?_
      refine v_get (pc' := 34) (v := .int (nI ka)) (C := RX10) (T := TX10) (N := 38) F dX10_restore_31 in_X10_restore_X10 0 rfl rfl 34 (by decide) (List.mem_of_getElem? (i := 6) rfl) (congrArg (fun z => some (Value.int z)) hka) rfl ?_
      refine v_put (pc' := 37) (ws' := [(o, mO ma (va_up (va_up fi 6 (nI kp)) 9 (nI ka)) fl), (ma 4, aI G 4 pr), (ma 8, aI G 5 sx), (ma 35, aI G 5 kst), (ma 36, aI G 4 kpr)]) (C := RX10) (T := TX10) (N := 38) F dX10_restore_34 in_X10_restore_X10 tyX10_ok nmX10 0 rfl rfl 9 (by decide) (List.mem_of_getElem? (i := 7) rfl) rfl rfl rfl (Nat.le_of_ble_eq_true rfl) rfl rfl ?_
      refine v_aload_n (pc' := 38) F dX10_restore_37 rfl 0 rfl rfl ?_
      refine v_iconst (pc' := 39) (v := (-1)) F dX10_restore_38 (by decide) rfl ?_
      refine v_put (pc' := 42) (ws' := [(o, mO ma (va_up (va_up (va_up fi 6 (nI kp)) 9 (nI ka)) 11 (-1)) fl), (ma 4, aI G 4 pr), (ma 8, aI G 5 sx), (ma 35, aI G 5 kst), (ma 36, aI G 4 kpr)]) (C := RX10) (T := TX10) (N := 38) F dX10_restore_39 in_X10_restore_X10 tyX10_ok nmX10 0 rfl rfl 11 (by decide) (List.mem_of_getElem? (i := 8) rfl) rfl rfl rfl (Nat.le_of_ble_eq_true rfl) rfl rfl ?_
      refine v_aload_n (pc' := 43) F dX10_restore_42 rfl 0 rfl rfl ?_
      refine v_iconst (pc' := 44) (v := nI 0) F dX10_restore_43 (by decide) rfl ?_
      refine v_put (pc' := 47) (ws' := [(o, mO ma (va_up (va_up (va_up (va_up fi 6 (nI kp)) 9 (nI ka)) 11 (-1)) 13 (nI 0)) fl), (ma 4, aI G 4 pr), (ma 8, aI G 5 sx), (ma 35, aI G 5 kst), (ma 36, aI G 4 kpr)]) (C := RX10) (T := TX10) (N := 38) F dX10_restore_44 in_X10_restore_X10 tyX10_ok nmX10 0 rfl rfl 13 (by decide) (List.mem_of_getElem? (i := 9) rfl) rfl rfl rfl (Nat.le_of_ble_eq_true rfl) rfl rfl ?_
      refine v_iconst (pc' := 48) (v := nI 0) F dX10_restore_47 (by decide) rfl ?_
      refine v_istore_n (pc' := 49) (lv' := [(1, .int (nI 0)), (0, .ref o)]) F dX10_restore_48 rfl (by decide) rfl rfl ?_
      have L49 : ∀ (fu : Nat) (j : Nat) (f : Nat → Nat), (j ≤ 5) → (f = cpy kst sx j) → 5 < j + fu → V pg l ev rm_X10_restore sg mm ags bl me cd 0 0 Q D A 2 49 [(1, .int (nI j)), (0, .ref o)] [] [(o, mO ma (va_up (va_up (va_up (va_up fi 6 (nI kp)) 9 (nI ka)) 11 (-1)) 13 (nI 0)) fl), (ma 4, aI G 4 pr), (ma 8, aI G 5 f), (ma 35, aI G 5 kst), (ma 36, aI G 4 kpr)] := by
        intro fu
        induction fu with
        | zero => intro j f hj hf hfu; exact absurd hfu (by omega)
        | succ fu ih49 =>
          intro j f hj hf hfu
          subst hf
          refine v_iload_n (pc' := 50) F dX10_restore_49 rfl 0 rfl rfl ?_
          refine v_iconst (pc' := 51) (v := nI 5) F dX10_restore_50 (by decide) rfl ?_
          refine v_ncmp_ge (tgt := 72) (pc' := 54) F dX10_restore_51 (by omega) (by omega) (by decide) rfl (fun c4 => ?_) (fun c4 => ?_)
          · refine v_iconst (pc' := 73) (v := nI 0) F dX10_restore_72 (by decide) rfl ?_
            refine v_istore_n (pc' := 74) (lv' := [(1, .int (nI 0)), (0, .ref o)]) F dX10_restore_73 rfl (by decide) rfl rfl ?_
            have L74 : ∀ (fu : Nat) (i : Nat) (f2 : Nat → Nat), (i ≤ 4) → (f2 = cpy kpr pr i) → 4 < i + fu → V pg l ev rm_X10_restore sg mm ags bl me cd 0 0 Q D A 2 74 [(1, .int (nI i)), (0, .ref o)] [] [(o, mO ma (va_up (va_up (va_up (va_up fi 6 (nI kp)) 9 (nI ka)) 11 (-1)) 13 (nI 0)) fl), (ma 4, aI G 4 f2), (ma 8, aI G 5 (cpy kst sx j)), (ma 35, aI G 5 kst), (ma 36, aI G 4 kpr)] := by
              intro fu
              induction fu with
              | zero => intro i f2 hi hf2 hfu; exact absurd hfu (by omega)
              | succ fu ih74 =>
                intro i f2 hi hf2 hfu
                subst hf2
                refine v_iload_n (pc' := 75) F dX10_restore_74 rfl 0 rfl rfl ?_
                refine v_iconst (pc' := 76) (v := nI 4) F dX10_restore_75 (by decide) rfl ?_
                refine v_ncmp_ge (tgt := 97) (pc' := 79) F dX10_restore_76 (by omega) (by omega) (by decide) rfl (fun c6 => ?_) (fun c6 => ?_)
                · refine v_aload_n (pc' := 98) F dX10_restore_97 rfl 1 rfl rfl ?_
                  refine v_get (pc' := 101) (v := .int (nI kp)) (C := RX10) (T := TX10) (N := 38) F dX10_restore_98 in_X10_restore_X10 0 rfl rfl 6 (by decide) (List.mem_of_getElem? (i := 5) rfl) rfl rfl ?_
                  exact rt dX10_restore_101 ((va_up (va_up (va_up (va_up fi 6 (nI kp)) 9 (nI ka)) 11 (-1)) 13 (nI 0)), cpy kst sx j, cpy kpr pr i) ⟨(by unfold A_restore; rw [if_neg hk1]), (by rw [if_neg hk1, show j = 5 by omega, show i = 4 by omega]), (by rw [if_neg hk1])⟩ rfl
                · refine v_aload_n (pc' := 80) F dX10_restore_79 rfl 1 rfl rfl ?_
                  refine v_get (pc' := 83) (v := .ref (ma 4)) (C := RX10) (T := TX10) (N := 38) F dX10_restore_80 in_X10_restore_X10 0 rfl rfl 4 (by decide) (List.mem_of_getElem? (i := 12) rfl) rfl rfl ?_
                  refine v_iload_n (pc' := 84) F dX10_restore_83 rfl 0 rfl rfl ?_
                  refine v_aload_n (pc' := 85) F dX10_restore_84 rfl 1 rfl rfl ?_
                  refine v_get (pc' := 88) (v := .ref (ma 36)) (C := RX10) (T := TX10) (N := 38) F dX10_restore_85 in_X10_restore_X10 0 rfl rfl 36 (by decide) (List.mem_of_getElem? (i := 13) rfl) rfl rfl ?_
                  refine v_iload_n (pc' := 89) F dX10_restore_88 rfl 0 rfl rfl ?_
                  refine v_iald (pc' := 90) (z := kpr i) F dX10_restore_89 4 rfl (by omega) (by decide) rfl rfl ?_
                  refine v_iast (pc' := 91) (ws' := [(o, mO ma (va_up (va_up (va_up (va_up fi 6 (nI kp)) 9 (nI ka)) 11 (-1)) 13 (nI 0)) fl), (ma 4, aI G 4 (va_up (cpy kpr pr i) i (kpr i))), (ma 8, aI G 5 (cpy kst sx j)), (ma 35, aI G 5 kst), (ma 36, aI G 4 kpr)]) F dX10_restore_90 1 rfl (by omega) (by decide) rfl rfl ?_
                  refine v_iinc (pc' := 94) (v := nI (i + 1)) (lv' := [(1, .int (nI (i + 1))), (0, .ref o)]) F dX10_restore_91 0 rfl (nI_add _ _) (by decide) rfl rfl ?_
                  refine v_goto (tgt := 74) F dX10_restore_94 (by decide) ?_
                  exact ih74 (i + 1) (va_up (cpy kpr pr i) i (kpr i)) (by omega) (cpy_s kpr pr i) (by omega)
            exact L74 (4 + 1) 0 pr (by omega) (cpy_0 kpr pr) (by omega)
          · refine v_aload_n (pc' := 55) F dX10_restore_54 rfl 1 rfl rfl ?_
            refine v_get (pc' := 58) (v := .ref (ma 8)) (C := RX10) (T := TX10) (N := 38) F dX10_restore_55 in_X10_restore_X10 0 rfl rfl 8 (by decide) (List.mem_of_getElem? (i := 10) rfl) rfl rfl ?_
            refine v_iload_n (pc' := 59) F dX10_restore_58 rfl 0 rfl rfl ?_
            refine v_aload_n (pc' := 60) F dX10_restore_59 rfl 1 rfl rfl ?_
            refine v_get (pc' := 63) (v := .ref (ma 35)) (C := RX10) (T := TX10) (N := 38) F dX10_restore_60 in_X10_restore_X10 0 rfl rfl 35 (by decide) (List.mem_of_getElem? (i := 11) rfl) rfl rfl ?_
            refine v_iload_n (pc' := 64) F dX10_restore_63 rfl 0 rfl rfl ?_
            refine v_iald (pc' := 65) (z := kst j) F dX10_restore_64 3 rfl (by omega) (by decide) rfl rfl ?_
            refine v_iast (pc' := 66) (ws' := [(o, mO ma (va_up (va_up (va_up (va_up fi 6 (nI kp)) 9 (nI ka)) 11 (-1)) 13 (nI 0)) fl), (ma 4, aI G 4 pr), (ma 8, aI G 5 (va_up (cpy kst sx j) j (kst j))), (ma 35, aI G 5 kst), (ma 36, aI G 4 kpr)]) F dX10_restore_65 2 rfl (by omega) (by decide) rfl rfl ?_
            refine v_iinc (pc' := 69) (v := nI (j + 1)) (lv' := [(1, .int (nI (j + 1))), (0, .ref o)]) F dX10_restore_66 0 rfl (nI_add _ _) (by decide) rfl rfl ?_
            refine v_goto (tgt := 49) F dX10_restore_69 (by decide) ?_
            exact ih49 (j + 1) (va_up (cpy kst sx j) j (kst j)) (by omega) (cpy_s kst sx j) (by omega)
      exact L49 (5 + 1) 0 sx (by omega) (cpy_0 kst sx) (by omega)
    · have hk0 : kg = 0 := by rw [hkg]; first | rw [if_pos (by assumption)] | (rw [if_neg (by assumption), if_neg (by assumption)])
      refine v_bipush (pc' := 20) (v := (-103)) F dX10_restore_18 (by decide) rfl ?_
      exact rt dX10_restore_20 (fi, sx, pr) ⟨(by unfold A_restore; rw [if_pos hk0]), (by rw [if_pos hk0]), (by rw [if_pos hk0])⟩ rfl
