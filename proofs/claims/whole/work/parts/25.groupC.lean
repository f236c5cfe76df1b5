def rm_X9_town : Room := { frames := 2, cells := 0, slots := 0, locals := 43 }
theorem in_X9_town_X3 : ∀ w ∈ u_ws RX3 TX3 6, w ∈ wsX9_town := fun w h => List.mem_cons_of_mem _ (List.mem_append_left _ (List.mem_append_right _ (h)))
theorem in_X9_town_X9 : ∀ w ∈ u_ws RX9 TX9 12, w ∈ wsX9_town := fun w h => List.mem_cons_of_mem _ (List.mem_append_left _ (List.mem_append_left _ (List.mem_append_right _ (h))))
set_option maxHeartbeats 4000000 in
set_option maxRecDepth 100000 in
theorem c_X9_town {l : Launch} {D : va_G} {G : gT} (x pgo ppa dl se tr im la dr pe ac lr sd : Nat) (b0 b1 b2 b3 lp ld : Nat) (tk gv pr py : Nat → Nat) (pq ks sx : Nat → Nat) (y z : Int32) (hlr : lr < 2 ^ 31) (h5 : pe ≤ 5) (hs5 : ∀ j, j < 5 → sx j < 40000) : CtI (σ := Unit) l yX9_town wsX9_town rm_X9_town D G [.ref x, .int y, .int z] ((x, .inr (7, [.ref pgo, .ref ppa, .ref dl, .ref se, .ref tr, .ref im, .ref la, .ref dr, .int (nI pe), .int (nI ac), .int (nI lr), .int (nI sd)])) :: (la, .inr (2, [.ref b0, .ref b1, .ref b2, .ref b3, .int (nI lp), .int (nI ld)])) :: (b0, aI G 4 tk) :: (b1, aI G 4 gv) :: (b2, aI G 4 pr) :: (b3, aI G 4 py) :: (ppa, aP G 5 pq) :: pX G pq ks sx) (fun r _ => r = A_town lr tk gv pr py pe sx y z) (fun _ => ((x, .inr (7, [.ref pgo, .ref ppa, .ref dl, .ref se, .ref tr, .ref im, .ref la, .ref dr, .int (nI pe), .int (nI ac), .int (nI lr), .int (nI sd)])) :: (la, .inr (2, [.ref b0, .ref b1, .ref b2, .ref b3, .int (nI lp), .int (nI ld)])) :: (b0, aI G 4 tk) :: (b1, aI G 4 gv) :: (b2, aI G 4 pr) :: (b3, aI G 4 py) :: (ppa, aP G 5 pq) :: pX G pq ks sx)) := by
  refine openI (maxL := 3) (by decide) rfl (Nat.le_of_ble_eq_true rfl) ?_
  intro pg ev sg mm ags bl me cd A Q F hmn rt
  refine v_lv (lz := [(0, .ref x), (1, .int y), (2, .int z)]) rfl ?_
  refine v_iload_n (pc' := 1) F dX9_town_0 rfl 1 rfl rfl ?_
  refine cSI0 (pc' := 4) (As := [.int y]) (rest := []) F (c_X9_isTown y) (va_cwS 1 F.2.2.2.2.1 gX9_town_X9_isTown rfl rfl rfl (by decide +kernel) ⟨Nat.le_of_ble_eq_true rfl, Nat.le_of_ble_eq_true rfl⟩) rfl rfl (Nat.le_of_ble_eq_true rfl) dX9_town_1 ⟨Nat.zero_le _, Nat.zero_le _⟩ rfl (fun r u q1 => ?_)
  obtain rfl := q1
  refine v_bif_ne (tgt := 10) (pc' := 7) F dX9_town_4 (by decide) rfl (fun c2 => ?_) (fun c2 => ?_)
  · obtain ⟨t, ht, rfl⟩ := inR_of (by decide) c2
    refine v_iload_n (pc' := 11) F dX9_town_10 rfl 2 rfl rfl ?_
    refine v_if_lt (tgt := 19) (pc' := 14) F dX9_town_11 (by decide) rfl (fun c3 => ?_) (fun c3 => ?_)
    · refine v_bipush (pc' := 21) (v := (-102)) F dX9_town_19 (by decide) rfl ?_
      exact rt dX9_town_21 () (by unfold A_town; rw [if_pos (by assumption), if_neg (by first | assumption | exact inR_no0 (by assumption) | exact inR_no1 (by assumption) | exact inR_no2 (by assumption) | exact inR_no2 (nle9 (by assumption)) | exact inR_noL (by decide) (by assumption))]) rfl
    · refine v_iload_n (pc' := 15) F dX9_town_14 rfl 2 rfl rfl ?_
      refine v_iconst (pc' := 16) (v := nI 4) F dX9_town_15 (by decide) rfl ?_
      refine v_icmp_le (tgt := 22) (pc' := 19) F dX9_town_16 (by decide) rfl (fun c4 => ?_) (fun c4 => ?_)
      · have hy9 := inR_mk2 (k := 4) (x := z) (by assumption) (by assumption)
        obtain ⟨w, hw, rfl⟩ := inR_of (by decide) hy9
        refine v_aload_n (pc' := 23) F dX9_town_22 rfl 0 rfl rfl ?_
        refine cVI (pc' := 26) (As := []) (rest := []) (wr := ((la, .inr (2, [.ref b0, .ref b1, .ref b2, .ref b3, .int (nI lp), .int (nI ld)])) :: (b0, aI G 4 tk) :: (b1, aI G 4 gv) :: (b2, aI G 4 pr) :: (b3, aI G 4 py) :: (ppa, aP G 5 pq) :: pX G pq ks sx)) F (c_X9_isLawless x pgo ppa dl se tr im la dr pe ac lr sd hlr) (cwV 0 F.2.2.2.2.1 gX9_town_X9_isLawless rfl rfl rfl (by decide +kernel) ⟨Nat.le_of_ble_eq_true rfl, Nat.le_of_ble_eq_true rfl⟩) (v_rcvW F 7 0 rfl rfl) rfl rfl (Nat.le_of_ble_eq_true rfl) dX9_town_23 [0] [1, 2, 3, 4, 5, 6, 7, 8, 9, 10, 11] (by decide) rfl rfl (by decide) (by decide) ⟨Nat.zero_le _, Nat.zero_le _⟩ rfl (fun r u q5 => ?_)
        obtain rfl := q5
        refine v_perm (wz := ((la, .inr (2, [.ref b0, .ref b1, .ref b2, .ref b3, .int (nI lp), .int (nI ld)])) :: (b0, aI G 4 tk) :: (b1, aI G 4 gv) :: (b2, aI G 4 pr) :: (b3, aI G 4 py) :: (ppa, aP G 5 pq) :: (x, .inr (7, [.ref pgo, .ref ppa, .ref dl, .ref se, .ref tr, .ref im, .ref la, .ref dr, .int (nI pe), .int (nI ac), .int (nI lr), .int (nI sd)])) :: pX G pq ks sx)) [0, 1, 2, 3, 4, 5, 11, 6, 7, 8, 9, 10] (by decide) rfl ?_
        refine v_bif_eq (tgt := 32) (pc' := 29) F dX9_town_26 (by decide) rfl (fun c6 => ?_) (fun c6 => ?_)
        · refine v_iload_n (pc' := 33) F dX9_town_32 rfl 2 rfl rfl ?_
          rcases (show w = 0 ∨ w = 1 ∨ w = 2 ∨ w = 3 ∨ 3 < w by omega) with h7 | h7 | h7 | h7 | h7
          · refine v_nswI (k := 0) (off := 31) (tgt := 64) F dX9_town_33 h7 (by decide) (by decide) (by decide) (by decide) (by decide) ?_
            refine v_aload_n (pc' := 65) F dX9_town_64 rfl 0 rfl rfl ?_
            refine v_get (pc' := 68) (C := RX9) (T := TX9) (N := 12) F dX9_town_65 in_X9_town_X9 6 rfl rfl 6 (by decide) (List.mem_of_getElem? (i := 1) rfl) rfl rfl ?_
            refine v_get (pc' := 71) (C := RX3) (T := TX3) (N := 6) F dX9_town_68 in_X9_town_X3 0 rfl rfl 0 (by decide) (List.mem_of_getElem? (i := 2) rfl) rfl rfl ?_
            refine v_iload_n (pc' := 72) F dX9_town_71 rfl 1 rfl rfl ?_
            refine v_iald (pc' := 73) (z := tk t) F dX9_town_72 1 rfl (by omega) (by decide) rfl rfl ?_
            refine v_perm (wz := ((x, .inr (7, [.ref pgo, .ref ppa, .ref dl, .ref se, .ref tr, .ref im, .ref la, .ref dr, .int (nI pe), .int (nI ac), .int (nI lr), .int (nI sd)])) :: (la, .inr (2, [.ref b0, .ref b1, .ref b2, .ref b3, .int (nI lp), .int (nI ld)])) :: (b0, aI G 4 tk) :: (b1, aI G 4 gv) :: (b2, aI G 4 pr) :: (b3, aI G 4 py) :: (ppa, aP G 5 pq) :: pX G pq ks sx)) [6, 0, 1, 2, 3, 4, 5, 7, 8, 9, 10, 11] (by decide) rfl ?_
            exact rt dX9_town_73 () (by unfold A_town; rw [if_pos (by assumption), if_pos (by assumption), if_neg (by assumption), tN_nI (t := t) (by omega), tN_nI (t := w) (by omega)]; unfold townV; rw [if_pos (by assumption)]) rfl
          · refine v_nswI (k := 1) (off := 41) (tgt := 74) F dX9_town_33 h7 (by decide) (by decide) (by decide) (by decide) (by decide) ?_
            refine v_aload_n (pc' := 75) F dX9_town_74 rfl 0 rfl rfl ?_
            refine v_get (pc' := 78) (C := RX9) (T := TX9) (N := 12) F dX9_town_75 in_X9_town_X9 6 rfl rfl 6 (by decide) (List.mem_of_getElem? (i := 1) rfl) rfl rfl ?_
            refine v_get (pc' := 81) (C := RX3) (T := TX3) (N := 6) F dX9_town_78 in_X9_town_X3 0 rfl rfl 1 (by decide) (List.mem_of_getElem? (i := 3) rfl) rfl rfl ?_
            refine v_iload_n (pc' := 82) F dX9_town_81 rfl 1 rfl rfl ?_
            refine v_iald (pc' := 83) (z := gv t) F dX9_town_82 2 rfl (by omega) (by decide) rfl rfl ?_
            refine v_perm (wz := ((x, .inr (7, [.ref pgo, .ref ppa, .ref dl, .ref se, .ref tr, .ref im, .ref la, .ref dr, .int (nI pe), .int (nI ac), .int (nI lr), .int (nI sd)])) :: (la, .inr (2, [.ref b0, .ref b1, .ref b2, .ref b3, .int (nI lp), .int (nI ld)])) :: (b0, aI G 4 tk) :: (b1, aI G 4 gv) :: (b2, aI G 4 pr) :: (b3, aI G 4 py) :: (ppa, aP G 5 pq) :: pX G pq ks sx)) [6, 0, 1, 2, 3, 4, 5, 7, 8, 9, 10, 11] (by decide) rfl ?_
            exact rt dX9_town_83 () (by unfold A_town; rw [if_pos (by assumption), if_pos (by assumption), if_neg (by assumption), tN_nI (t := t) (by omega), tN_nI (t := w) (by omega)]; unfold townV; rw [if_neg (by omega), if_pos (by assumption)]) rfl
          · refine v_nswI (k := 2) (off := 51) (tgt := 84) F dX9_town_33 h7 (by decide) (by decide) (by decide) (by decide) (by decide) ?_
            refine v_aload_n (pc' := 85) F dX9_town_84 rfl 0 rfl rfl ?_
            refine v_get (pc' := 88) (C := RX9) (T := TX9) (N := 12) F dX9_town_85 in_X9_town_X9 6 rfl rfl 6 (by decide) (List.mem_of_getElem? (i := 1) rfl) rfl rfl ?_
            refine v_get (pc' := 91) (C := RX3) (T := TX3) (N := 6) F dX9_town_88 in_X9_town_X3 0 rfl rfl 2 (by decide) (List.mem_of_getElem? (i := 4) rfl) rfl rfl ?_
            refine v_iload_n (pc' := 92) F dX9_town_91 rfl 1 rfl rfl ?_
            refine v_iald (pc' := 93) (z := pr t) F dX9_town_92 3 rfl (by omega) (by decide) rfl rfl ?_
            refine v_perm (wz := ((x, .inr (7, [.ref pgo, .ref ppa, .ref dl, .ref se, .ref tr, .ref im, .ref la, .ref dr, .int (nI pe), .int (nI ac), .int (nI lr), .int (nI sd)])) :: (la, .inr (2, [.ref b0, .ref b1, .ref b2, .ref b3, .int (nI lp), .int (nI ld)])) :: (b0, aI G 4 tk) :: (b1, aI G 4 gv) :: (b2, aI G 4 pr) :: (b3, aI G 4 py) :: (ppa, aP G 5 pq) :: pX G pq ks sx)) [6, 0, 1, 2, 3, 4, 5, 7, 8, 9, 10, 11] (by decide) rfl ?_
            exact rt dX9_town_93 () (by unfold A_town; rw [if_pos (by assumption), if_pos (by assumption), if_neg (by assumption), tN_nI (t := t) (by omega), tN_nI (t := w) (by omega)]; unfold townV; rw [if_neg (by omega), if_neg (by omega), if_pos (by assumption)]) rfl
          · refine v_nswI (k := 3) (off := 61) (tgt := 94) F dX9_town_33 h7 (by decide) (by decide) (by decide) (by decide) (by decide) ?_
            refine v_aload_n (pc' := 95) F dX9_town_94 rfl 0 rfl rfl ?_
            refine v_get (pc' := 98) (C := RX9) (T := TX9) (N := 12) F dX9_town_95 in_X9_town_X9 6 rfl rfl 6 (by decide) (List.mem_of_getElem? (i := 1) rfl) rfl rfl ?_
            refine v_get (pc' := 101) (C := RX3) (T := TX3) (N := 6) F dX9_town_98 in_X9_town_X3 0 rfl rfl 3 (by decide) (List.mem_of_getElem? (i := 5) rfl) rfl rfl ?_
            refine v_iload_n (pc' := 102) F dX9_town_101 rfl 1 rfl rfl ?_
            refine v_iald (pc' := 103) (z := py t) F dX9_town_102 4 rfl (by omega) (by decide) rfl rfl ?_
            refine v_perm (wz := ((x, .inr (7, [.ref pgo, .ref ppa, .ref dl, .ref se, .ref tr, .ref im, .ref la, .ref dr, .int (nI pe), .int (nI ac), .int (nI lr), .int (nI sd)])) :: (la, .inr (2, [.ref b0, .ref b1, .ref b2, .ref b3, .int (nI lp), .int (nI ld)])) :: (b0, aI G 4 tk) :: (b1, aI G 4 gv) :: (b2, aI G 4 pr) :: (b3, aI G 4 py) :: (ppa, aP G 5 pq) :: pX G pq ks sx)) [6, 0, 1, 2, 3, 4, 5, 7, 8, 9, 10, 11] (by decide) rfl ?_
            exact rt dX9_town_103 () (by unfold A_town; rw [if_pos (by assumption), if_pos (by assumption), if_neg (by assumption), tN_nI (t := t) (by omega), tN_nI (t := w) (by omega)]; unfold townV; rw [if_neg (by omega), if_neg (by omega), if_neg (by omega), if_pos (by assumption)]) rfl
          · refine v_nswO (tgt := 104) F dX9_town_33 (by omega) (by omega) (by decide) ?_
            refine v_aload_n (pc' := 105) F dX9_town_104 rfl 0 rfl rfl ?_
            refine v_iload_n (pc' := 106) F dX9_town_105 rfl 1 rfl rfl ?_
            refine cVI (pc' := 109) (As := [.int (nI t)]) (rest := []) (wr := [(la, .inr (2, [.ref b0, .ref b1, .ref b2, .ref b3, .int (nI lp), .int (nI ld)])), (b0, aI G 4 tk), (b1, aI G 4 gv), (b2, aI G 4 pr), (b3, aI G 4 py)]) F (c_X9_peopleIn x pgo ppa dl se tr im la dr pe ac lr sd pq ks sx t h5 hs5 (by omega)) (cwV 1 F.2.2.2.2.1 gX9_town_X9_peopleIn rfl rfl rfl (by decide +kernel) ⟨Nat.le_of_ble_eq_true rfl, Nat.le_of_ble_eq_true rfl⟩) (v_rcvW F 7 6 rfl rfl) rfl rfl (Nat.le_of_ble_eq_true rfl) dX9_town_106 [6, 5, 7, 8, 9, 10, 11] [0, 1, 2, 3, 4] (by decide) rfl rfl (by decide) (by decide) ⟨Nat.zero_le _, Nat.zero_le _⟩ rfl (fun r u q8 => ?_)
            obtain rfl := q8
            refine v_ws (wz := ((la, .inr (2, [.ref b0, .ref b1, .ref b2, .ref b3, .int (nI lp), .int (nI ld)])) :: (b0, aI G 4 tk) :: (b1, aI G 4 gv) :: (b2, aI G 4 pr) :: (b3, aI G 4 py) :: (x, .inr (7, [.ref pgo, .ref ppa, .ref dl, .ref se, .ref tr, .ref im, .ref la, .ref dr, .int (nI pe), .int (nI ac), .int (nI lr), .int (nI sd)])) :: (ppa, aP G 5 pq) :: pX G pq ks sx)) rfl ?_
            refine v_perm (wz := ((x, .inr (7, [.ref pgo, .ref ppa, .ref dl, .ref se, .ref tr, .ref im, .ref la, .ref dr, .int (nI pe), .int (nI ac), .int (nI lr), .int (nI sd)])) :: (la, .inr (2, [.ref b0, .ref b1, .ref b2, .ref b3, .int (nI lp), .int (nI ld)])) :: (b0, aI G 4 tk) :: (b1, aI G 4 gv) :: (b2, aI G 4 pr) :: (b3, aI G 4 py) :: (ppa, aP G 5 pq) :: pX G pq ks sx)) [5, 0, 1, 2, 3, 4, 6, 7, 8, 9, 10, 11] (by decide) rfl ?_
            exact rt dX9_town_109 () (by unfold A_town; rw [if_pos (by assumption), if_pos (by assumption), if_neg (by assumption), tN_nI (t := t) (by omega), tN_nI (t := w) (by omega)]; unfold townV; rw [if_neg (by omega), if_neg (by omega), if_neg (by omega), if_neg (by omega)]) rfl
        · refine v_bipush (pc' := 31) (v := (-103)) F dX9_town_29 (by decide) rfl ?_
          refine v_perm (wz := ((x, .inr (7, [.ref pgo, .ref ppa, .ref dl, .ref se, .ref tr, .ref im, .ref la, .ref dr, .int (nI pe), .int (nI ac), .int (nI lr), .int (nI sd)])) :: (la, .inr (2, [.ref b0, .ref b1, .ref b2, .ref b3, .int (nI lp), .int (nI ld)])) :: (b0, aI G 4 tk) :: (b1, aI G 4 gv) :: (b2, aI G 4 pr) :: (b3, aI G 4 py) :: (ppa, aP G 5 pq) :: pX G pq ks sx)) [6, 0, 1, 2, 3, 4, 5, 7, 8, 9, 10, 11] (by decide) rfl ?_
          exact rt dX9_town_31 () (by unfold A_town; rw [if_pos (by assumption), if_pos (by assumption), if_pos (by assumption)]) rfl
      · refine v_bipush (pc' := 21) (v := (-102)) F dX9_town_19 (by decide) rfl ?_
        exact rt dX9_town_21 () (by unfold A_town; rw [if_pos (by assumption), if_neg (by first | assumption | exact inR_no0 (by assumption) | exact inR_no1 (by assumption) | exact inR_no2 (by assumption) | exact inR_no2 (nle9 (by assumption)) | exact inR_noL (by decide) (by assumption))]) rfl
  · refine v_bipush (pc' := 9) (v := (-101)) F dX9_town_7 (by decide) rfl ?_
    exact rt dX9_town_9 () (by unfold A_town; rw [if_neg (by first | assumption | exact inR_no0 (by assumption) | exact inR_no1 (by assumption) | exact inR_no2 (by assumption) | exact inR_no2 (nle9 (by assumption)) | exact inR_noL (by decide) (by assumption))]) rfl
def rm_X9_price : Room := { frames := 1, cells := 0, slots := 0, locals := 20 }
theorem in_X9_price_X3 : ∀ w ∈ u_ws RX3 TX3 6, w ∈ wsX9_price := fun w h => List.mem_cons_of_mem _ (List.mem_append_right _ (h))
theorem in_X9_price_X9 : ∀ w ∈ u_ws RX9 TX9 12, w ∈ wsX9_price := fun w h => List.mem_cons_of_mem _ (List.mem_append_left _ (List.mem_append_right _ (h)))
set_option maxHeartbeats 4000000 in
set_option maxRecDepth 100000 in
theorem c_X9_price {l : Launch} {D : va_G} {G : gT} (x pgo ppa dl se tr im la dr pe ac lr sd : Nat) (b0 b1 b2 b3 lp ld : Nat) (tk gv pr py : Nat → Nat) (y z : Int32) (hlr : lr < 2 ^ 31) : CtI (σ := (Nat → Nat)) l yX9_price wsX9_price rm_X9_price D G [.ref x, .int y, .int z] [(x, .inr (7, [.ref pgo, .ref ppa, .ref dl, .ref se, .ref tr, .ref im, .ref la, .ref dr, .int (nI pe), .int (nI ac), .int (nI lr), .int (nI sd)])), (la, .inr (2, [.ref b0, .ref b1, .ref b2, .ref b3, .int (nI lp), .int (nI ld)])), (b0, aI G 4 tk), (b1, aI G 4 gv), (b2, aI G 4 pr), (b3, aI G 4 py)] (fun r u => r = A_price lr pr y z ∧ u = N_price lr pr y z) (fun u => [(x, .inr (7, [.ref pgo, .ref ppa, .ref dl, .ref se, .ref tr, .ref im, .ref la, .ref dr, .int (nI pe), .int (nI ac), .int (nI lr), .int (nI sd)])), (la, .inr (2, [.ref b0, .ref b1, .ref b2, .ref b3, .int (nI lp), .int (nI ld)])), (b0, aI G 4 tk), (b1, aI G 4 gv), (b2, aI G 4 u), (b3, aI G 4 py)]) := by
  refine openI (maxL := 4) (by decide) rfl (Nat.le_of_ble_eq_true rfl) ?_
  intro pg ev sg mm ags bl me cd A Q F hmn rt
  refine v_lv (lz := [(0, .ref x), (1, .int y), (2, .int z)]) rfl ?_
  refine v_iload_n (pc' := 1) F dX9_price_0 rfl 1 rfl rfl ?_
  refine cSI0 (pc' := 4) (As := [.int y]) (rest := []) F (c_X9_isTown y) (va_cwS 1 F.2.2.2.2.1 gX9_price_X9_isTown rfl rfl rfl (by decide +kernel) ⟨Nat.le_of_ble_eq_true rfl, Nat.le_of_ble_eq_true rfl⟩) rfl rfl (Nat.le_of_ble_eq_true rfl) dX9_price_1 ⟨Nat.zero_le _, Nat.zero_le _⟩ rfl (fun r u q1 => ?_)
  obtain rfl := q1
  refine v_bif_ne (tgt := 10) (pc' := 7) F dX9_price_4 (by decide) rfl (fun c2 => ?_) (fun c2 => ?_)
  · obtain ⟨t, ht, rfl⟩ := inR_of (by decide) c2
    refine v_iload_n (pc' := 11) F dX9_price_10 rfl 2 rfl rfl ?_
    refine cSI0 (pc' := 14) (As := [.int z]) (rest := []) F (c_X9_isPrice z) (va_cwS 1 F.2.2.2.2.1 gX9_price_X9_isPrice rfl rfl rfl (by decide +kernel) ⟨Nat.le_of_ble_eq_true rfl, Nat.le_of_ble_eq_true rfl⟩) rfl rfl (Nat.le_of_ble_eq_true rfl) dX9_price_11 ⟨Nat.zero_le _, Nat.zero_le _⟩ rfl (fun r u q3 => ?_)
    obtain rfl := q3
    refine v_bif_ne (tgt := 20) (pc' := 17) F dX9_price_14 (by decide) rfl (fun c4 => ?_) (fun c4 => ?_)
    · obtain ⟨w, hw, rfl⟩ := inR_of2 (by decide) (by decide) c4
      refine v_aload_n (pc' := 21) F dX9_price_20 rfl 0 rfl rfl ?_
      refine cVI (pc' := 24) (As := []) (rest := []) (wr := [(la, .inr (2, [.ref b0, .ref b1, .ref b2, .ref b3, .int (nI lp), .int (nI ld)])), (b0, aI G 4 tk), (b1, aI G 4 gv), (b2, aI G 4 pr), (b3, aI G 4 py)]) F (c_X9_isLawless x pgo ppa dl se tr im la dr pe ac lr sd hlr) (cwV 0 F.2.2.2.2.1 gX9_price_X9_isLawless rfl rfl rfl (by decide +kernel) ⟨Nat.le_of_ble_eq_true rfl, Nat.le_of_ble_eq_true rfl⟩) (v_rcvW F 7 0 rfl rfl) rfl rfl (Nat.le_of_ble_eq_true rfl) dX9_price_21 [0] [1, 2, 3, 4, 5] (by decide) rfl rfl (by decide) (by decide) ⟨Nat.zero_le _, Nat.zero_le _⟩ rfl (fun r u q5 => ?_)
      obtain rfl := q5
      refine v_ws (wz := [(la, .inr (2, [.ref b0, .ref b1, .ref b2, .ref b3, .int (nI lp), .int (nI ld)])), (b0, aI G 4 tk), (b1, aI G 4 gv), (b2, aI G 4 pr), (b3, aI G 4 py), (x, .inr (7, [.ref pgo, .ref ppa, .ref dl, .ref se, .ref tr, .ref im, .ref la, .ref dr, .int (nI pe), .int (nI ac), .int (nI lr), .int (nI sd)]))]) rfl ?_
      refine v_bif_eq (tgt := 30) (pc' := 27) F dX9_price_24 (by decide) rfl (fun c6 => ?_) (fun c6 => ?_)
      · refine v_aload_n (pc' := 31) F dX9_price_30 rfl 0 rfl rfl ?_
        refine v_get (pc' := 34) (C := RX9) (T := TX9) (N := 12) F dX9_price_31 in_X9_price_X9 5 rfl rfl 6 (by decide) (List.mem_of_getElem? (i := 1) rfl) rfl rfl ?_
        refine v_get (pc' := 37) (C := RX3) (T := TX3) (N := 6) F dX9_price_34 in_X9_price_X3 0 rfl rfl 2 (by decide) (List.mem_of_getElem? (i := 2) rfl) rfl rfl ?_
        refine v_iload_n (pc' := 38) F dX9_price_37 rfl 1 rfl rfl ?_
        refine v_iald (pc' := 39) (z := pr t) F dX9_price_38 3 rfl (by omega) (by decide) rfl rfl ?_
        refine v_istore_n (pc' := 40) (lv' := [(3, .int (nI (pr t))), (0, .ref x), (1, .int (nI t)), (2, .int (nI w))]) F dX9_price_39 rfl (by decide) rfl rfl ?_
        refine v_aload_n (pc' := 41) F dX9_price_40 rfl 1 rfl rfl ?_
        refine v_get (pc' := 44) (C := RX9) (T := TX9) (N := 12) F dX9_price_41 in_X9_price_X9 5 rfl rfl 6 (by decide) (List.mem_of_getElem? (i := 1) rfl) rfl rfl ?_
        refine v_get (pc' := 47) (C := RX3) (T := TX3) (N := 6) F dX9_price_44 in_X9_price_X3 0 rfl rfl 2 (by decide) (List.mem_of_getElem? (i := 2) rfl) rfl rfl ?_
        refine v_iload_n (pc' := 48) F dX9_price_47 rfl 2 rfl rfl ?_
        refine v_iload_n (pc' := 49) F dX9_price_48 rfl 3 rfl rfl ?_
        refine v_iast (pc' := 50) (ws' := [(la, .inr (2, [.ref b0, .ref b1, .ref b2, .ref b3, .int (nI lp), .int (nI ld)])), (b0, aI G 4 tk), (b1, aI G 4 gv), (b2, aI G 4 (va_up pr t w)), (b3, aI G 4 py), (x, .inr (7, [.ref pgo, .ref ppa, .ref dl, .ref se, .ref tr, .ref im, .ref la, .ref dr, .int (nI pe), .int (nI ac), .int (nI lr), .int (nI sd)]))]) F dX9_price_49 3 rfl (by omega) (by decide) rfl rfl ?_
        refine v_iload_n (pc' := 51) F dX9_price_50 rfl 0 rfl rfl ?_
        refine v_perm (wz := [(x, .inr (7, [.ref pgo, .ref ppa, .ref dl, .ref se, .ref tr, .ref im, .ref la, .ref dr, .int (nI pe), .int (nI ac), .int (nI lr), .int (nI sd)])), (la, .inr (2, [.ref b0, .ref b1, .ref b2, .ref b3, .int (nI lp), .int (nI ld)])), (b0, aI G 4 tk), (b1, aI G 4 gv), (b2, aI G 4 (va_up pr t w)), (b3, aI G 4 py)]) [5, 0, 1, 2, 3, 4] (by decide) rfl ?_
        exact rt dX9_price_51 (va_up pr t w) ⟨(by unfold A_price; rw [if_pos (by assumption), if_pos (by assumption), if_neg (by first | assumption | exact inR_no0 (by assumption) | exact inR_no1 (by assumption) | exact inR_no2 (by assumption) | exact inR_no2 (nle9 (by assumption)) | exact inR_noL (by decide) (by assumption)), tN_nI (t := t) (by omega)]), (by unfold N_price; rw [if_pos (by assumption), if_pos (by assumption), if_neg (by first | assumption | exact inR_no0 (by assumption) | exact inR_no1 (by assumption) | exact inR_no2 (by assumption) | exact inR_no2 (nle9 (by assumption)) | exact inR_noL (by decide) (by assumption)), tN_nI (t := t) (by omega), tN_nI (t := w) (by omega)])⟩ rfl
      · refine v_bipush (pc' := 29) (v := (-103)) F dX9_price_27 (by decide) rfl ?_
        refine v_perm (wz := [(x, .inr (7, [.ref pgo, .ref ppa, .ref dl, .ref se, .ref tr, .ref im, .ref la, .ref dr, .int (nI pe), .int (nI ac), .int (nI lr), .int (nI sd)])), (la, .inr (2, [.ref b0, .ref b1, .ref b2, .ref b3, .int (nI lp), .int (nI ld)])), (b0, aI G 4 tk), (b1, aI G 4 gv), (b2, aI G 4 pr), (b3, aI G 4 py)]) [5, 0, 1, 2, 3, 4] (by decide) rfl ?_
        exact rt dX9_price_29 pr ⟨(by unfold A_price; rw [if_pos (by assumption), if_pos (by assumption), if_pos (by assumption)]), (by unfold N_price; rw [if_pos (by assumption), if_pos (by assumption), if_pos (by assumption)])⟩ rfl
    · refine v_bipush (pc' := 19) (v := (-102)) F dX9_price_17 (by decide) rfl ?_
      exact rt dX9_price_19 pr ⟨(by unfold A_price; rw [if_pos (by assumption), if_neg (by first | assumption | exact inR_no0 (by assumption) | exact inR_no1 (by assumption) | exact inR_no2 (by assumption) | exact inR_no2 (nle9 (by assumption)) | exact inR_noL (by decide) (by assumption))]), (by unfold N_price; rw [if_pos (by assumption), if_neg (by first | assumption | exact inR_no0 (by assumption) | exact inR_no1 (by assumption) | exact inR_no2 (by assumption) | exact inR_no2 (nle9 (by assumption)) | exact inR_noL (by decide) (by assumption))])⟩ rfl
  · refine v_bipush (pc' := 9) (v := (-101)) F dX9_price_7 (by decide) rfl ?_
    exact rt dX9_price_9 pr ⟨(by unfold A_price; rw [if_neg (by first | assumption | exact inR_no0 (by assumption) | exact inR_no1 (by assumption) | exact inR_no2 (by assumption) | exact inR_no2 (nle9 (by assumption)) | exact inR_noL (by decide) (by assumption))]), (by unfold N_price; rw [if_neg (by first | assumption | exact inR_no0 (by assumption) | exact inR_no1 (by assumption) | exact inR_no2 (by assumption) | exact inR_no2 (nle9 (by assumption)) | exact inR_noL (by decide) (by assumption))])⟩ rfl
def rm_X9_person : Room := { frames := 1, cells := 0, slots := 0, locals := 20 }
theorem in_X9_person_X5 : ∀ w ∈ u_ws RX5 TX5 2, w ∈ wsX9_person := fun w h => List.mem_cons_of_mem _ (List.mem_append_right _ (h))
theorem in_X9_person_X9 : ∀ w ∈ u_ws RX9 TX9 12, w ∈ wsX9_person := fun w h => List.mem_cons_of_mem _ (List.mem_append_left _ (List.mem_append_right _ (h)))
set_option maxHeartbeats 4000000 in
set_option maxRecDepth 100000 in
theorem c_X9_person {l : Launch} {D : va_G} {G : gT} (x pgo ppa dl se tr im la dr pe ac lr sd : Nat) (pq ks sx : Nat → Nat) (y z : Int32) (hlr : lr < 2 ^ 31) (h5 : pe ≤ 5) : CtI (σ := (Nat × (Nat → Nat) × (Nat → Nat))) l yX9_person wsX9_person rm_X9_person D G [.ref x, .int y, .int z] ((x, .inr (7, [.ref pgo, .ref ppa, .ref dl, .ref se, .ref tr, .ref im, .ref la, .ref dr, .int (nI pe), .int (nI ac), .int (nI lr), .int (nI sd)])) :: (ppa, aP G 5 pq) :: pX G pq ks sx) (fun r u => r = A_person lr pe y z ∧ u = N_person lr pe y z ks sx) (fun u => ((x, .inr (7, [.ref pgo, .ref ppa, .ref dl, .ref se, .ref tr, .ref im, .ref la, .ref dr, .int (nI u.1), .int (nI ac), .int (nI lr), .int (nI sd)])) :: (ppa, aP G 5 pq) :: pX G pq u.2.1 u.2.2)) := by
  refine openI (maxL := 4) (by decide) rfl (Nat.le_of_ble_eq_true rfl) ?_
  intro pg ev sg mm ags bl me cd A Q F hmn rt
  refine v_lv (lz := [(0, .ref x), (1, .int y), (2, .int z)]) rfl ?_
  refine v_iload_n (pc' := 1) F dX9_person_0 rfl 2 rfl rfl ?_
  refine cSI0 (pc' := 4) (As := [.int z]) (rest := []) F (c_X9_isTown z) (va_cwS 1 F.2.2.2.2.1 gX9_person_X9_isTown rfl rfl rfl (by decide +kernel) ⟨Nat.le_of_ble_eq_true rfl, Nat.le_of_ble_eq_true rfl⟩) rfl rfl (Nat.le_of_ble_eq_true rfl) dX9_person_1 ⟨Nat.zero_le _, Nat.zero_le _⟩ rfl (fun r u q1 => ?_)
  obtain rfl := q1
  refine v_bif_ne (tgt := 10) (pc' := 7) F dX9_person_4 (by decide) rfl (fun c2 => ?_) (fun c2 => ?_)
  · obtain ⟨t, ht, rfl⟩ := inR_of (by decide) c2
    refine v_iload_n (pc' := 11) F dX9_person_10 rfl 1 rfl rfl ?_
    refine cSI0 (pc' := 14) (As := [.int y]) (rest := []) F (c_X9_isKind y) (va_cwS 1 F.2.2.2.2.1 gX9_person_X9_isKind rfl rfl rfl (by decide +kernel) ⟨Nat.le_of_ble_eq_true rfl, Nat.le_of_ble_eq_true rfl⟩) rfl rfl (Nat.le_of_ble_eq_true rfl) dX9_person_11 ⟨Nat.zero_le _, Nat.zero_le _⟩ rfl (fun r u q3 => ?_)
    obtain rfl := q3
    refine v_bif_ne (tgt := 20) (pc' := 17) F dX9_person_14 (by decide) rfl (fun c4 => ?_) (fun c4 => ?_)
    · obtain ⟨w, hw, rfl⟩ := inR_of (by decide) c4
      refine v_aload_n (pc' := 21) F dX9_person_20 rfl 0 rfl rfl ?_
      refine cVI (pc' := 24) (As := []) (rest := []) (wr := ((ppa, aP G 5 pq) :: pX G pq ks sx)) F (c_X9_isLawless x pgo ppa dl se tr im la dr pe ac lr sd hlr) (cwV 0 F.2.2.2.2.1 gX9_person_X9_isLawless rfl rfl rfl (by decide +kernel) ⟨Nat.le_of_ble_eq_true rfl, Nat.le_of_ble_eq_true rfl⟩) (v_rcvW F 7 0 rfl rfl) rfl rfl (Nat.le_of_ble_eq_true rfl) dX9_person_21 [0] [1, 2, 3, 4, 5, 6] (by decide) rfl rfl (by decide) (by decide) ⟨Nat.zero_le _, Nat.zero_le _⟩ rfl (fun r u q5 => ?_)
      obtain rfl := q5
      refine v_perm (wz := ((ppa, aP G 5 pq) :: (x, .inr (7, [.ref pgo, .ref ppa, .ref dl, .ref se, .ref tr, .ref im, .ref la, .ref dr, .int (nI pe), .int (nI ac), .int (nI lr), .int (nI sd)])) :: pX G pq ks sx)) [0, 6, 1, 2, 3, 4, 5] (by decide) rfl ?_
      refine v_bif_eq (tgt := 30) (pc' := 27) F dX9_person_24 (by decide) rfl (fun c6 => ?_) (fun c6 => ?_)
      · refine v_aload_n (pc' := 31) F dX9_person_30 rfl 0 rfl rfl ?_
        refine v_get (pc' := 34) (C := RX9) (T := TX9) (N := 12) F dX9_person_31 in_X9_person_X9 1 rfl rfl 8 (by decide) (List.mem_of_getElem? (i := 1) rfl) rfl rfl ?_
        refine v_iconst (pc' := 35) (v := nI 5) F dX9_person_34 (by decide) rfl ?_
        refine v_ncmp_lt (tgt := 41) (pc' := 38) F dX9_person_35 (by omega) (by omega) (by decide) rfl (fun c7 => ?_) (fun c7 => ?_)
        · refine v_aload_n (pc' := 42) F dX9_person_41 rfl 0 rfl rfl ?_
          refine v_get (pc' := 45) (C := RX9) (T := TX9) (N := 12) F dX9_person_42 in_X9_person_X9 1 rfl rfl 1 (by decide) (List.mem_of_getElem? (i := 2) rfl) rfl rfl ?_
          refine v_aload_n (pc' := 46) F dX9_person_45 rfl 0 rfl rfl ?_
          refine v_get (pc' := 49) (C := RX9) (T := TX9) (N := 12) F dX9_person_46 in_X9_person_X9 1 rfl rfl 8 (by decide) (List.mem_of_getElem? (i := 1) rfl) rfl rfl ?_
          refine v_pald (pc' := 50) (z := pq pe) F dX9_person_49 0 rfl (by omega) (by decide) rfl rfl ?_
          refine v_astore_n (pc' := 51) (lv' := [(3, .ref (pq pe)), (0, .ref x), (1, .int (nI w)), (2, .int (nI t))]) F dX9_person_50 rfl (by decide) rfl rfl ?_
          refine v_aload_n (pc' := 52) F dX9_person_51 rfl 0 rfl rfl ?_
          refine v_getsKs (pc' := 55) F dX9_person_52 (List.mem_of_getElem? (i := 3) rfl) rfl ?_
          refine v_iload_n (pc' := 56) F dX9_person_55 rfl 2 rfl rfl ?_
          refine v_tqK (pc' := 57) F dX9_person_56 (by omega) rfl ?_
          refine v_put (pc' := 60) (ws := ((ppa, aP G 5 pq) :: (x, .inr (7, [.ref pgo, .ref ppa, .ref dl, .ref se, .ref tr, .ref im, .ref la, .ref dr, .int (nI pe), .int (nI ac), .int (nI lr), .int (nI sd)])) :: pX G pq ks sx)) (ws' := ((ppa, aP G 5 pq) :: (x, .inr (7, [.ref pgo, .ref ppa, .ref dl, .ref se, .ref tr, .ref im, .ref la, .ref dr, .int (nI pe), .int (nI ac), .int (nI lr), .int (nI sd)])) :: pX G pq (va_up ks pe w) sx)) (C := RX5) (T := TX5) (N := 2) F dX9_person_57 in_X9_person_X5 tyX5_ok nmX5 (pe + 2) (pX_at (by omega)) rfl 0 (by decide) (List.mem_of_getElem? (i := 4) rfl) rfl rfl rfl (Nat.le_of_ble_eq_true rfl) (congrArg (fun zz : va_W => ((ppa, aP G 5 pq) :: (x, .inr (7, [.ref pgo, .ref ppa, .ref dl, .ref se, .ref tr, .ref im, .ref la, .ref dr, .int (nI pe), .int (nI ac), .int (nI lr), .int (nI sd)])) :: zz : va_W)) (pX_set0 (G := G) (pa := pq) (ks := ks) (sx := sx) (i := pe) (k := w) (by omega))) rfl ?_
          refine v_aload_n (pc' := 61) F dX9_person_60 rfl 0 rfl rfl ?_
          refine v_iload_n (pc' := 62) F dX9_person_61 rfl 3 rfl rfl ?_
          refine v_top (congrArg nI (eS_t (by omega)).symm) ?_
          refine v_put (pc' := 65) (ws := ((ppa, aP G 5 pq) :: (x, .inr (7, [.ref pgo, .ref ppa, .ref dl, .ref se, .ref tr, .ref im, .ref la, .ref dr, .int (nI pe), .int (nI ac), .int (nI lr), .int (nI sd)])) :: pX G pq (va_up ks pe w) sx)) (ws' := ((ppa, aP G 5 pq) :: (x, .inr (7, [.ref pgo, .ref ppa, .ref dl, .ref se, .ref tr, .ref im, .ref la, .ref dr, .int (nI pe), .int (nI ac), .int (nI lr), .int (nI sd)])) :: pX G pq (va_up ks pe w) (va_up sx pe t))) (C := RX5) (T := TX5) (N := 2) F dX9_person_62 in_X9_person_X5 tyX5_ok nmX5 (pe + 2) (pX_at (by omega)) rfl 1 (by decide) (List.mem_of_getElem? (i := 5) rfl) rfl rfl rfl (Nat.le_of_ble_eq_true rfl) (congrArg (fun zz : va_W => ((ppa, aP G 5 pq) :: (x, .inr (7, [.ref pgo, .ref ppa, .ref dl, .ref se, .ref tr, .ref im, .ref la, .ref dr, .int (nI pe), .int (nI ac), .int (nI lr), .int (nI sd)])) :: zz : va_W)) (pX_set1 (G := G) (pa := pq) (ks := va_up ks pe w) (sx := sx) (i := pe) (w := t) (by omega))) rfl ?_
          refine v_aload_n (pc' := 66) F dX9_person_65 rfl 1 rfl rfl ?_
          refine v_dup (pc' := 67) F dX9_person_66 rfl rfl ?_
          refine v_get (pc' := 70) (C := RX9) (T := TX9) (N := 12) F dX9_person_67 in_X9_person_X9 1 rfl rfl 8 (by decide) (List.mem_of_getElem? (i := 1) rfl) rfl rfl ?_
          refine v_iconst (pc' := 71) (v := nI 1) F dX9_person_70 (by decide) rfl ?_
          refine v_iadd (pc' := 72) (z := nI (pe + 1)) F dX9_person_71 (nI_add _ _) rfl ?_
          refine v_put (pc' := 75) (ws' := ((ppa, aP G 5 pq) :: (x, .inr (7, [.ref pgo, .ref ppa, .ref dl, .ref se, .ref tr, .ref im, .ref la, .ref dr, .int (nI (pe + 1)), .int (nI ac), .int (nI lr), .int (nI sd)])) :: pX G pq (va_up ks pe w) (va_up sx pe t))) (C := RX9) (T := TX9) (N := 12) F dX9_person_72 in_X9_person_X9 tyX9_ok nmX9 1 rfl rfl 8 (by decide) (List.mem_of_getElem? (i := 1) rfl) rfl rfl rfl (Nat.le_of_ble_eq_true rfl) rfl rfl ?_
          refine v_aload_n (pc' := 76) F dX9_person_75 rfl 1 rfl rfl ?_
          refine v_get (pc' := 79) (C := RX9) (T := TX9) (N := 12) F dX9_person_76 in_X9_person_X9 1 rfl rfl 8 (by decide) (List.mem_of_getElem? (i := 1) rfl) rfl rfl ?_
          refine v_iconst (pc' := 80) (v := nI 1) F dX9_person_79 (by decide) rfl ?_
          refine v_isub (pc' := 81) (z := nI ((pe + 1) - 1)) F dX9_person_80 (pk_sub (by omega)) rfl ?_
          refine v_perm (wz := ((x, .inr (7, [.ref pgo, .ref ppa, .ref dl, .ref se, .ref tr, .ref im, .ref la, .ref dr, .int (nI (pe + 1)), .int (nI ac), .int (nI lr), .int (nI sd)])) :: (ppa, aP G 5 pq) :: pX G pq (va_up ks pe w) (va_up sx pe t))) [1, 0, 2, 3, 4, 5, 6] (by decide) rfl ?_
          exact rt dX9_person_81 (pe + 1, va_up ks pe w, va_up sx pe t) ⟨(by unfold A_person; rw [if_pos (by assumption), if_pos (by assumption), if_neg (by assumption), if_neg (by omega)]; rfl), (by unfold N_person; rw [if_pos (by assumption), if_pos (by assumption), if_neg (by assumption), if_neg (by omega), tN_nI (t := t) (by omega), tN_nI (t := w) (by omega)])⟩ rfl
        · refine v_bipush (pc' := 40) (v := (-104)) F dX9_person_38 (by decide) rfl ?_
          refine v_perm (wz := ((x, .inr (7, [.ref pgo, .ref ppa, .ref dl, .ref se, .ref tr, .ref im, .ref la, .ref dr, .int (nI pe), .int (nI ac), .int (nI lr), .int (nI sd)])) :: (ppa, aP G 5 pq) :: pX G pq ks sx)) [1, 0, 2, 3, 4, 5, 6] (by decide) rfl ?_
          exact rt dX9_person_40 (pe, ks, sx) ⟨(by unfold A_person; rw [if_pos (by assumption), if_pos (by assumption), if_neg (by assumption), if_pos (by omega)]), (by unfold N_person; rw [if_pos (by assumption), if_pos (by assumption), if_neg (by assumption), if_pos (by omega)])⟩ rfl
      · refine v_bipush (pc' := 29) (v := (-103)) F dX9_person_27 (by decide) rfl ?_
        refine v_perm (wz := ((x, .inr (7, [.ref pgo, .ref ppa, .ref dl, .ref se, .ref tr, .ref im, .ref la, .ref dr, .int (nI pe), .int (nI ac), .int (nI lr), .int (nI sd)])) :: (ppa, aP G 5 pq) :: pX G pq ks sx)) [1, 0, 2, 3, 4, 5, 6] (by decide) rfl ?_
        exact rt dX9_person_29 (pe, ks, sx) ⟨(by unfold A_person; rw [if_pos (by assumption), if_pos (by assumption), if_pos (by assumption)]), (by unfold N_person; rw [if_pos (by assumption), if_pos (by assumption), if_pos (by assumption)])⟩ rfl
    · refine v_bipush (pc' := 19) (v := (-102)) F dX9_person_17 (by decide) rfl ?_
      exact rt dX9_person_19 (pe, ks, sx) ⟨(by unfold A_person; rw [if_pos (by assumption), if_neg (by first | assumption | exact inR_no0 (by assumption) | exact inR_no1 (by assumption) | exact inR_no2 (by assumption) | exact inR_no2 (nle9 (by assumption)) | exact inR_noL (by decide) (by assumption))]), (by unfold N_person; rw [if_pos (by assumption), if_neg (by first | assumption | exact inR_no0 (by assumption) | exact inR_no1 (by assumption) | exact inR_no2 (by assumption) | exact inR_no2 (nle9 (by assumption)) | exact inR_noL (by decide) (by assumption))])⟩ rfl
  · refine v_bipush (pc' := 9) (v := (-101)) F dX9_person_7 (by decide) rfl ?_
    exact rt dX9_person_9 (pe, ks, sx) ⟨(by unfold A_person; rw [if_neg (by first | assumption | exact inR_no0 (by assumption) | exact inR_no1 (by assumption) | exact inR_no2 (by assumption) | exact inR_no2 (nle9 (by assumption)) | exact inR_noL (by decide) (by assumption))]), (by unfold N_person; rw [if_neg (by first | assumption | exact inR_no0 (by assumption) | exact inR_no1 (by assumption) | exact inR_no2 (by assumption) | exact inR_no2 (nle9 (by assumption)) | exact inR_noL (by decide) (by assumption))])⟩ rfl
def rm_X9_about : Room := { frames := 2, cells := 0, slots := 0, locals := 41 }
theorem in_X9_about_X3 : ∀ w ∈ u_ws RX3 TX3 6, w ∈ wsX9_about := fun w h => List.mem_cons_of_mem _ (List.mem_append_right _ (h))
theorem in_X9_about_X5 : ∀ w ∈ u_ws RX5 TX5 2, w ∈ wsX9_about := fun w h => List.mem_cons_of_mem _ (List.mem_append_left _ (List.mem_append_right _ (h)))
theorem in_X9_about_X9 : ∀ w ∈ u_ws RX9 TX9 12, w ∈ wsX9_about := fun w h => List.mem_cons_of_mem _ (List.mem_append_left _ (List.mem_append_left _ (List.mem_append_right _ (h))))
set_option maxHeartbeats 4000000 in
set_option maxRecDepth 100000 in
theorem c_X9_about {l : Launch} {D : va_G} {G : gT} (x pgo ppa dl se tr im la dr pe ac lr sd : Nat) (b0 b1 b2 b3 lp ld : Nat) (tk gv pr py : Nat → Nat) (pq ks sx : Nat → Nat) (y z : Int32) (h5 : pe ≤ 5) (hwp : WPe ks sx) (hl : 0 < pe → WL tk gv pr py) : CtI (σ := Unit) l yX9_about wsX9_about rm_X9_about D G [.ref x, .int y, .int z] ((x, .inr (7, [.ref pgo, .ref ppa, .ref dl, .ref se, .ref tr, .ref im, .ref la, .ref dr, .int (nI pe), .int (nI ac), .int (nI lr), .int (nI sd)])) :: (la, .inr (2, [.ref b0, .ref b1, .ref b2, .ref b3, .int (nI lp), .int (nI ld)])) :: (b0, aI G 4 tk) :: (b1, aI G 4 gv) :: (b2, aI G 4 pr) :: (b3, aI G 4 py) :: (ppa, aP G 5 pq) :: pX G pq ks sx) (fun r _ => r = A_about pe ks sx pr py y z) (fun _ => ((x, .inr (7, [.ref pgo, .ref ppa, .ref dl, .ref se, .ref tr, .ref im, .ref la, .ref dr, .int (nI pe), .int (nI ac), .int (nI lr), .int (nI sd)])) :: (la, .inr (2, [.ref b0, .ref b1, .ref b2, .ref b3, .int (nI lp), .int (nI ld)])) :: (b0, aI G 4 tk) :: (b1, aI G 4 gv) :: (b2, aI G 4 pr) :: (b3, aI G 4 py) :: (ppa, aP G 5 pq) :: pX G pq ks sx)) := by
  refine openI (maxL := 5) (by decide) rfl (Nat.le_of_ble_eq_true rfl) ?_
  intro pg ev sg mm ags bl me cd A Q F hmn rt
  refine v_lv (lz := [(0, .ref x), (1, .int y), (2, .int z)]) rfl ?_
  refine v_aload_n (pc' := 1) F dX9_about_0 rfl 0 rfl rfl ?_
  refine v_iload_n (pc' := 2) F dX9_about_1 rfl 1 rfl rfl ?_
  refine cVI (pc' := 5) (As := [.int y]) (rest := []) (wr := ((la, .inr (2, [.ref b0, .ref b1, .ref b2, .ref b3, .int (nI lp), .int (nI ld)])) :: (b0, aI G 4 tk) :: (b1, aI G 4 gv) :: (b2, aI G 4 pr) :: (b3, aI G 4 py) :: (ppa, aP G 5 pq) :: pX G pq ks sx)) F (c_X9_isPerson x pgo ppa dl se tr im la dr pe ac lr sd y) (cwV 1 F.2.2.2.2.1 gX9_about_X9_isPerson rfl rfl rfl (by decide +kernel) ⟨Nat.le_of_ble_eq_true rfl, Nat.le_of_ble_eq_true rfl⟩) (v_rcvW F 7 0 rfl rfl) rfl rfl (Nat.le_of_ble_eq_true rfl) dX9_about_2 [0] [1, 2, 3, 4, 5, 6, 7, 8, 9, 10, 11] (by decide) rfl rfl (by decide) (by decide) ⟨Nat.zero_le _, Nat.zero_le _⟩ rfl (fun r u q1 => ?_)
  obtain rfl := q1
  refine v_perm (wz := ((la, .inr (2, [.ref b0, .ref b1, .ref b2, .ref b3, .int (nI lp), .int (nI ld)])) :: (b0, aI G 4 tk) :: (b1, aI G 4 gv) :: (b2, aI G 4 pr) :: (b3, aI G 4 py) :: (ppa, aP G 5 pq) :: (x, .inr (7, [.ref pgo, .ref ppa, .ref dl, .ref se, .ref tr, .ref im, .ref la, .ref dr, .int (nI pe), .int (nI ac), .int (nI lr), .int (nI sd)])) :: pX G pq ks sx)) [0, 1, 2, 3, 4, 5, 11, 6, 7, 8, 9, 10] (by decide) rfl ?_
  refine v_bif_ne (tgt := 11) (pc' := 8) F dX9_about_5 (by decide) rfl (fun c2 => ?_) (fun c2 => ?_)
  · obtain ⟨t, ht, rfl⟩ := isP_of (by omega) c2
    have hw9 := hwp t (by omega)
    have hl9 := hl (by omega)
    have h9 := hl9 (sx t % 4) (Nat.mod_lt _ (by decide))
    refine v_aload_n (pc' := 12) F dX9_about_11 rfl 0 rfl rfl ?_
    refine v_get (pc' := 15) (C := RX9) (T := TX9) (N := 12) F dX9_about_12 in_X9_about_X9 6 rfl rfl 1 (by decide) (List.mem_of_getElem? (i := 1) rfl) rfl rfl ?_
    refine v_iload_n (pc' := 16) F dX9_about_15 rfl 1 rfl rfl ?_
    refine v_pald (pc' := 17) (z := pq t) F dX9_about_16 5 rfl (by omega) (by decide) rfl rfl ?_
    refine v_astore_n (pc' := 18) (lv' := [(3, .ref (pq t)), (0, .ref x), (1, .int (nI t)), (2, .int z)]) F dX9_about_17 rfl (by decide) rfl rfl ?_
    refine v_aload_n (pc' := 19) F dX9_about_18 rfl 0 rfl rfl ?_
    refine v_get (pc' := 22) (C := RX5) (T := TX5) (N := 2) F dX9_about_19 in_X9_about_X5 (t + 7) (pX_at (by omega)) rfl 1 (by decide) (List.mem_of_getElem? (i := 2) rfl) rfl rfl ?_
    refine cSI0 (pc' := 25) (As := [.int (nI (eS (sx t)))]) (rest := []) F (c_X7_townOf (sx t) (by omega)) (va_cwS 1 F.2.2.2.2.1 gX9_about_X7_townOf rfl rfl rfl (by decide +kernel) ⟨Nat.le_of_ble_eq_true rfl, Nat.le_of_ble_eq_true rfl⟩) rfl rfl (Nat.le_of_ble_eq_true rfl) dX9_about_22 ⟨Nat.zero_le _, Nat.zero_le _⟩ rfl (fun r u q3 => ?_)
    obtain rfl := q3
    refine v_istore (pc' := 27) (lv' := [(4, .int (nI ((sx t) % 4))), (3, .ref (pq t)), (0, .ref x), (1, .int (nI t)), (2, .int z)]) F dX9_about_25 (by decide) rfl rfl ?_
    refine v_iload_n (pc' := 28) F dX9_about_27 rfl 4 rfl rfl ?_
    refine inR_split (lo := nI 0) (x := z) (mid := nI 5) (fun cq => ?_) (fun cq => ?_)
    · obtain ⟨w, hw, rfl⟩ := inR_of (by decide) cq
      rcases (show w = 0 ∨ w = 1 ∨ w = 2 ∨ w = 3 ∨ w = 4 ∨ w = 5 ∨ 5 < w by omega) with h4 | h4 | h4 | h4 | h4 | h4 | h4
      · refine v_nswI (k := 0) (off := 40) (tgt := 68) F dX9_about_28 h4 (by decide) (by decide) (by decide) (by decide) (by decide) ?_
        refine v_aload_n (pc' := 69) F dX9_about_68 rfl 1 rfl rfl ?_
        refine v_get (pc' := 72) (C := RX5) (T := TX5) (N := 2) F dX9_about_69 in_X9_about_X5 (t + 7) (pX_at (by omega)) rfl 0 (by decide) (List.mem_of_getElem? (i := 3) rfl) rfl rfl ?_
        refine v_getE (pc' := 75) (z := nI (kN (ks t))) F dX9_about_72 (i := (ks t)) (by omega) 0 rfl (List.mem_of_getElem? (i := 4) rfl) (kN_of (by omega)) rfl ?_
        refine v_perm (wz := ((x, .inr (7, [.ref pgo, .ref ppa, .ref dl, .ref se, .ref tr, .ref im, .ref la, .ref dr, .int (nI pe), .int (nI ac), .int (nI lr), .int (nI sd)])) :: (la, .inr (2, [.ref b0, .ref b1, .ref b2, .ref b3, .int (nI lp), .int (nI ld)])) :: (b0, aI G 4 tk) :: (b1, aI G 4 gv) :: (b2, aI G 4 pr) :: (b3, aI G 4 py) :: (ppa, aP G 5 pq) :: pX G pq ks sx)) [6, 0, 1, 2, 3, 4, 5, 7, 8, 9, 10, 11] (by decide) rfl ?_
        exact rt dX9_about_75 () (by unfold A_about; rw [if_pos (by assumption), if_pos (by assumption), tN_nI (t := t) (by omega), tN_nI (t := w) (by omega)]; unfold aboutV; rw [if_pos (by assumption)]; first | done | rfl) rfl
      · refine v_nswI (k := 1) (off := 48) (tgt := 76) F dX9_about_28 h4 (by decide) (by decide) (by decide) (by decide) (by decide) ?_
        refine v_iload (pc' := 78) F dX9_about_76 0 rfl rfl ?_
        refine v_perm (wz := ((x, .inr (7, [.ref pgo, .ref ppa, .ref dl, .ref se, .ref tr, .ref im, .ref la, .ref dr, .int (nI pe), .int (nI ac), .int (nI lr), .int (nI sd)])) :: (la, .inr (2, [.ref b0, .ref b1, .ref b2, .ref b3, .int (nI lp), .int (nI ld)])) :: (b0, aI G 4 tk) :: (b1, aI G 4 gv) :: (b2, aI G 4 pr) :: (b3, aI G 4 py) :: (ppa, aP G 5 pq) :: pX G pq ks sx)) [6, 0, 1, 2, 3, 4, 5, 7, 8, 9, 10, 11] (by decide) rfl ?_
        exact rt dX9_about_78 () (by unfold A_about; rw [if_pos (by assumption), if_pos (by assumption), tN_nI (t := t) (by omega), tN_nI (t := w) (by omega)]; unfold aboutV; rw [if_neg (by omega), if_pos (by assumption)]; first | done | rfl) rfl
      · refine v_nswI (k := 2) (off := 51) (tgt := 79) F dX9_about_28 h4 (by decide) (by decide) (by decide) (by decide) (by decide) ?_
        refine v_aload_n (pc' := 80) F dX9_about_79 rfl 1 rfl rfl ?_
        refine v_get (pc' := 83) (C := RX5) (T := TX5) (N := 2) F dX9_about_80 in_X9_about_X5 (t + 7) (pX_at (by omega)) rfl 1 (by decide) (List.mem_of_getElem? (i := 2) rfl) rfl rfl ?_
        refine cSI0 (pc' := 86) (As := [.int (nI (eS (sx t)))]) (rest := []) F (c_X7_goodsOf (sx t) (by omega)) (va_cwS 1 F.2.2.2.2.1 gX9_about_X7_goodsOf rfl rfl rfl (by decide +kernel) ⟨Nat.le_of_ble_eq_true rfl, Nat.le_of_ble_eq_true rfl⟩) rfl rfl (Nat.le_of_ble_eq_true rfl) dX9_about_83 ⟨Nat.zero_le _, Nat.zero_le _⟩ rfl (fun r u q5 => ?_)
        obtain rfl := q5
        refine v_perm (wz := ((x, .inr (7, [.ref pgo, .ref ppa, .ref dl, .ref se, .ref tr, .ref im, .ref la, .ref dr, .int (nI pe), .int (nI ac), .int (nI lr), .int (nI sd)])) :: (la, .inr (2, [.ref b0, .ref b1, .ref b2, .ref b3, .int (nI lp), .int (nI ld)])) :: (b0, aI G 4 tk) :: (b1, aI G 4 gv) :: (b2, aI G 4 pr) :: (b3, aI G 4 py) :: (ppa, aP G 5 pq) :: pX G pq ks sx)) [6, 0, 1, 2, 3, 4, 5, 7, 8, 9, 10, 11] (by decide) rfl ?_
        exact rt dX9_about_86 () (by unfold A_about; rw [if_pos (by assumption), if_pos (by assumption), tN_nI (t := t) (by omega), tN_nI (t := w) (by omega)]; unfold aboutV; rw [if_neg (by omega), if_neg (by omega), if_pos (by assumption)]; first | done | rfl) rfl
      · refine v_nswI (k := 3) (off := 59) (tgt := 87) F dX9_about_28 h4 (by decide) (by decide) (by decide) (by decide) (by decide) ?_
        refine v_aload_n (pc' := 88) F dX9_about_87 rfl 1 rfl rfl ?_
        refine v_get (pc' := 91) (C := RX5) (T := TX5) (N := 2) F dX9_about_88 in_X9_about_X5 (t + 7) (pX_at (by omega)) rfl 1 (by decide) (List.mem_of_getElem? (i := 2) rfl) rfl rfl ?_
        refine cSI0 (pc' := 94) (As := [.int (nI (eS (sx t)))]) (rest := []) F (c_X7_coinsTogether (sx t) (by omega)) (va_cwS 1 F.2.2.2.2.1 gX9_about_X7_coinsTogether rfl rfl rfl (by decide +kernel) ⟨Nat.le_of_ble_eq_true rfl, Nat.le_of_ble_eq_true rfl⟩) rfl rfl (Nat.le_of_ble_eq_true rfl) dX9_about_91 ⟨Nat.zero_le _, Nat.zero_le _⟩ rfl (fun r u q6 => ?_)
        obtain rfl := q6
        refine v_perm (wz := ((x, .inr (7, [.ref pgo, .ref ppa, .ref dl, .ref se, .ref tr, .ref im, .ref la, .ref dr, .int (nI pe), .int (nI ac), .int (nI lr), .int (nI sd)])) :: (la, .inr (2, [.ref b0, .ref b1, .ref b2, .ref b3, .int (nI lp), .int (nI ld)])) :: (b0, aI G 4 tk) :: (b1, aI G 4 gv) :: (b2, aI G 4 pr) :: (b3, aI G 4 py) :: (ppa, aP G 5 pq) :: pX G pq ks sx)) [6, 0, 1, 2, 3, 4, 5, 7, 8, 9, 10, 11] (by decide) rfl ?_
        exact rt dX9_about_94 () (by unfold A_about; rw [if_pos (by assumption), if_pos (by assumption), tN_nI (t := t) (by omega), tN_nI (t := w) (by omega)]; unfold aboutV; rw [if_neg (by omega), if_neg (by omega), if_neg (by omega), if_pos (by assumption)]; first | done | rfl) rfl
      · refine v_nswI (k := 4) (off := 67) (tgt := 95) F dX9_about_28 h4 (by decide) (by decide) (by decide) (by decide) (by decide) ?_
        refine v_aload_n (pc' := 96) F dX9_about_95 rfl 1 rfl rfl ?_
        refine v_get (pc' := 99) (C := RX5) (T := TX5) (N := 2) F dX9_about_96 in_X9_about_X5 (t + 7) (pX_at (by omega)) rfl 0 (by decide) (List.mem_of_getElem? (i := 3) rfl) rfl rfl ?_
        refine v_aload_n (pc' := 100) F dX9_about_99 rfl 2 rfl rfl ?_
        refine v_get (pc' := 103) (C := RX9) (T := TX9) (N := 12) F dX9_about_100 in_X9_about_X9 6 rfl rfl 6 (by decide) (List.mem_of_getElem? (i := 5) rfl) rfl rfl ?_
        refine v_get (pc' := 106) (C := RX3) (T := TX3) (N := 6) F dX9_about_103 in_X9_about_X3 0 rfl rfl 2 (by decide) (List.mem_of_getElem? (i := 6) rfl) rfl rfl ?_
        refine v_iload (pc' := 108) F dX9_about_106 0 rfl rfl ?_
        refine v_iald (pc' := 109) (z := pr ((sx t) % 4)) F dX9_about_108 3 rfl (by omega) (by decide) rfl rfl ?_
        refine cVI0 (pc' := 112) (As := [.int (nI (pr ((sx t) % 4)))]) (rest := []) F (c_X2_cost (ks t) (pr ((sx t) % 4)) (by omega) h9.2.2.1 h9.2.2.2.1) (cwV 1 F.2.2.2.2.1 gX9_about_X2_cost rfl rfl rfl (by decide +kernel) ⟨Nat.le_of_ble_eq_true rfl, Nat.le_of_ble_eq_true rfl⟩) (v_rcvE F (i := (ks t)) (by omega)) rfl rfl (Nat.le_of_ble_eq_true rfl) dX9_about_109 ⟨Nat.zero_le _, Nat.zero_le _⟩ rfl (fun r u q7 => ?_)
        obtain rfl := q7
        refine v_perm (wz := ((x, .inr (7, [.ref pgo, .ref ppa, .ref dl, .ref se, .ref tr, .ref im, .ref la, .ref dr, .int (nI pe), .int (nI ac), .int (nI lr), .int (nI sd)])) :: (la, .inr (2, [.ref b0, .ref b1, .ref b2, .ref b3, .int (nI lp), .int (nI ld)])) :: (b0, aI G 4 tk) :: (b1, aI G 4 gv) :: (b2, aI G 4 pr) :: (b3, aI G 4 py) :: (ppa, aP G 5 pq) :: pX G pq ks sx)) [6, 0, 1, 2, 3, 4, 5, 7, 8, 9, 10, 11] (by decide) rfl ?_
        exact rt dX9_about_112 () (by unfold A_about; rw [if_pos (by assumption), if_pos (by assumption), tN_nI (t := t) (by omega), tN_nI (t := w) (by omega)]; unfold aboutV; rw [if_neg (by omega), if_neg (by omega), if_neg (by omega), if_neg (by omega), if_pos (by assumption)]; first | done | rfl) rfl
      · refine v_nswI (k := 5) (off := 85) (tgt := 113) F dX9_about_28 h4 (by decide) (by decide) (by decide) (by decide) (by decide) ?_
        refine v_aload_n (pc' := 114) F dX9_about_113 rfl 1 rfl rfl ?_
        refine v_get (pc' := 117) (C := RX5) (T := TX5) (N := 2) F dX9_about_114 in_X9_about_X5 (t + 7) (pX_at (by omega)) rfl 0 (by decide) (List.mem_of_getElem? (i := 3) rfl) rfl rfl ?_
        refine v_aload_n (pc' := 118) F dX9_about_117 rfl 2 rfl rfl ?_
        refine v_get (pc' := 121) (C := RX9) (T := TX9) (N := 12) F dX9_about_118 in_X9_about_X9 6 rfl rfl 6 (by decide) (List.mem_of_getElem? (i := 5) rfl) rfl rfl ?_
        refine v_get (pc' := 124) (C := RX3) (T := TX3) (N := 6) F dX9_about_121 in_X9_about_X3 0 rfl rfl 3 (by decide) (List.mem_of_getElem? (i := 7) rfl) rfl rfl ?_
        refine v_iload (pc' := 126) F dX9_about_124 0 rfl rfl ?_
        refine v_iald (pc' := 127) (z := py ((sx t) % 4)) F dX9_about_126 4 rfl (by omega) (by decide) rfl rfl ?_
        refine cVI0 (pc' := 130) (As := [.int (nI (py ((sx t) % 4)))]) (rest := []) F (c_X2_gain (ks t) (py ((sx t) % 4)) (by omega) h9.2.2.2.2) (cwV 1 F.2.2.2.2.1 gX9_about_X2_gain rfl rfl rfl (by decide +kernel) ⟨Nat.le_of_ble_eq_true rfl, Nat.le_of_ble_eq_true rfl⟩) (v_rcvE F (i := (ks t)) (by omega)) rfl rfl (Nat.le_of_ble_eq_true rfl) dX9_about_127 ⟨Nat.zero_le _, Nat.zero_le _⟩ rfl (fun r u q8 => ?_)
        obtain rfl := q8
        refine v_perm (wz := ((x, .inr (7, [.ref pgo, .ref ppa, .ref dl, .ref se, .ref tr, .ref im, .ref la, .ref dr, .int (nI pe), .int (nI ac), .int (nI lr), .int (nI sd)])) :: (la, .inr (2, [.ref b0, .ref b1, .ref b2, .ref b3, .int (nI lp), .int (nI ld)])) :: (b0, aI G 4 tk) :: (b1, aI G 4 gv) :: (b2, aI G 4 pr) :: (b3, aI G 4 py) :: (ppa, aP G 5 pq) :: pX G pq ks sx)) [6, 0, 1, 2, 3, 4, 5, 7, 8, 9, 10, 11] (by decide) rfl ?_
        exact rt dX9_about_130 () (by unfold A_about; rw [if_pos (by assumption), if_pos (by assumption), tN_nI (t := t) (by omega), tN_nI (t := w) (by omega)]; unfold aboutV; rw [if_neg (by omega), if_neg (by omega), if_neg (by omega), if_neg (by omega), if_neg (by omega), if_pos (by assumption)]; first | done | rfl) rfl
      · exact absurd h4 (by omega)
    · refine v_rswO (hi := 5) (tgt := 131) F dX9_about_28 (by decide) cq (by decide) ?_
      refine v_iload_n (pc' := 132) F dX9_about_131 rfl 4 rfl rfl ?_
      refine v_bipush (pc' := 134) (v := nI 10) F dX9_about_132 (by decide) rfl ?_
      refine v_isub (pc' := 135) (z := (z - nI 10)) F dX9_about_134 rfl rfl ?_
      refine cSI0 (pc' := 138) (As := [.int (z - nI 10)]) (rest := []) F (c_X9_isCoin (z - nI 10)) (va_cwS 1 F.2.2.2.2.1 gX9_about_X9_isCoin rfl rfl rfl (by decide +kernel) ⟨Nat.le_of_ble_eq_true rfl, Nat.le_of_ble_eq_true rfl⟩) rfl rfl (Nat.le_of_ble_eq_true rfl) dX9_about_135 ⟨Nat.zero_le _, Nat.zero_le _⟩ rfl (fun r u q9 => ?_)
      obtain rfl := q9
      refine v_bif_eq (tgt := 155) (pc' := 141) F dX9_about_138 (by decide) rfl (fun c10 => ?_) (fun c10 => ?_)
      · refine v_bipush (pc' := 157) (v := (-102)) F dX9_about_155 (by decide) rfl ?_
        refine v_perm (wz := ((x, .inr (7, [.ref pgo, .ref ppa, .ref dl, .ref se, .ref tr, .ref im, .ref la, .ref dr, .int (nI pe), .int (nI ac), .int (nI lr), .int (nI sd)])) :: (la, .inr (2, [.ref b0, .ref b1, .ref b2, .ref b3, .int (nI lp), .int (nI ld)])) :: (b0, aI G 4 tk) :: (b1, aI G 4 gv) :: (b2, aI G 4 pr) :: (b3, aI G 4 py) :: (ppa, aP G 5 pq) :: pX G pq ks sx)) [6, 0, 1, 2, 3, 4, 5, 7, 8, 9, 10, 11] (by decide) rfl ?_
        exact rt dX9_about_157 () (by unfold A_about; rw [if_pos (by assumption), if_neg (by assumption), if_neg (ab_no (by assumption))]) rfl
      · obtain ⟨q, hq, rfl⟩ := ab_yes c10
        have hz9 : inR (nI 10) (nI (q + 10)) (nI 13) := inR_nI (by omega) (by omega) (by decide)
        refine v_aload_n (pc' := 142) F dX9_about_141 rfl 1 rfl rfl ?_
        refine v_get (pc' := 145) (C := RX5) (T := TX5) (N := 2) F dX9_about_142 in_X9_about_X5 (t + 7) (pX_at (by omega)) rfl 1 (by decide) (List.mem_of_getElem? (i := 2) rfl) rfl rfl ?_
        refine v_iload_n (pc' := 146) F dX9_about_145 rfl 4 rfl rfl ?_
        refine v_bipush (pc' := 148) (v := nI 10) F dX9_about_146 (by decide) rfl ?_
        refine v_isub (pc' := 149) (z := nI q) F dX9_about_148 (by rw [pk_sub (by omega)]; rfl) rfl ?_
        refine cSI0 (pc' := 152) (As := [.int (nI (eS (sx t))), .int (nI q)]) (rest := []) F (c_X7_coinsOf (sx t) q (by omega) (by omega)) (va_cwS 2 F.2.2.2.2.1 gX9_about_X7_coinsOf rfl rfl rfl (by decide +kernel) ⟨Nat.le_of_ble_eq_true rfl, Nat.le_of_ble_eq_true rfl⟩) rfl rfl (Nat.le_of_ble_eq_true rfl) dX9_about_149 ⟨Nat.zero_le _, Nat.zero_le _⟩ rfl (fun r u q11 => ?_)
        obtain rfl := q11
        refine v_goto (tgt := 157) F dX9_about_152 (by decide) ?_
        refine v_perm (wz := ((x, .inr (7, [.ref pgo, .ref ppa, .ref dl, .ref se, .ref tr, .ref im, .ref la, .ref dr, .int (nI pe), .int (nI ac), .int (nI lr), .int (nI sd)])) :: (la, .inr (2, [.ref b0, .ref b1, .ref b2, .ref b3, .int (nI lp), .int (nI ld)])) :: (b0, aI G 4 tk) :: (b1, aI G 4 gv) :: (b2, aI G 4 pr) :: (b3, aI G 4 py) :: (ppa, aP G 5 pq) :: pX G pq ks sx)) [6, 0, 1, 2, 3, 4, 5, 7, 8, 9, 10, 11] (by decide) rfl ?_
        exact rt dX9_about_157 () (by unfold A_about; rw [if_pos (by assumption), if_neg (by assumption), if_pos hz9, tN_nI (t := t) (by omega), tN_nI (t := (q + 10)) (by omega)]; unfold aboutV; rw [if_neg (by omega), if_neg (by omega), if_neg (by omega), if_neg (by omega), if_neg (by omega), if_neg (by omega), Nat.add_sub_cancel]) rfl
  · refine v_bipush (pc' := 10) (v := (-101)) F dX9_about_8 (by decide) rfl ?_
    refine v_perm (wz := ((x, .inr (7, [.ref pgo, .ref ppa, .ref dl, .ref se, .ref tr, .ref im, .ref la, .ref dr, .int (nI pe), .int (nI ac), .int (nI lr), .int (nI sd)])) :: (la, .inr (2, [.ref b0, .ref b1, .ref b2, .ref b3, .int (nI lp), .int (nI ld)])) :: (b0, aI G 4 tk) :: (b1, aI G 4 gv) :: (b2, aI G 4 pr) :: (b3, aI G 4 py) :: (ppa, aP G 5 pq) :: pX G pq ks sx)) [6, 0, 1, 2, 3, 4, 5, 7, 8, 9, 10, 11] (by decide) rfl ?_
    exact rt dX9_about_10 () (by unfold A_about; rw [if_neg (by first | assumption | exact inR_no0 (by assumption) | exact inR_no1 (by assumption) | exact inR_no2 (by assumption) | exact inR_no2 (nle9 (by assumption)) | exact inR_noL (by decide) (by assumption))]) rfl
def rm_X9_as : Room := { frames := 1, cells := 0, slots := 0, locals := 21 }
theorem in_X9_as_X5 : ∀ w ∈ u_ws RX5 TX5 2, w ∈ wsX9_as := fun w h => List.mem_cons_of_mem _ (List.mem_append_right _ (h))
theorem in_X9_as_X9 : ∀ w ∈ u_ws RX9 TX9 12, w ∈ wsX9_as := fun w h => List.mem_cons_of_mem _ (List.mem_append_left _ (List.mem_append_right _ (h)))
set_option maxHeartbeats 4000000 in
set_option maxRecDepth 100000 in
theorem c_X9_as {l : Launch} {D : va_G} {G : gT} (x pgo ppa dl se tr im la dr pe ac lr sd : Nat) (pq ks sx : Nat → Nat) (y z : Int32) (h5 : pe ≤ 5) (hk5 : ∀ j, j < 5 → ks j < 5) : CtI (σ := Unit) l yX9_as wsX9_as rm_X9_as D G [.ref x, .int y, .int z] ((x, .inr (7, [.ref pgo, .ref ppa, .ref dl, .ref se, .ref tr, .ref im, .ref la, .ref dr, .int (nI pe), .int (nI ac), .int (nI lr), .int (nI sd)])) :: (ppa, aP G 5 pq) :: pX G pq ks sx) (fun r _ => r = A_as pe ks y z) (fun _ => ((x, .inr (7, [.ref pgo, .ref ppa, .ref dl, .ref se, .ref tr, .ref im, .ref la, .ref dr, .int (nI pe), .int (nI ac), .int (nI lr), .int (nI sd)])) :: (ppa, aP G 5 pq) :: pX G pq ks sx)) := by
  refine openI (maxL := 3) (by decide) rfl (Nat.le_of_ble_eq_true rfl) ?_
  intro pg ev sg mm ags bl me cd A Q F hmn rt
  refine v_lv (lz := [(0, .ref x), (1, .int y), (2, .int z)]) rfl ?_
  refine v_aload_n (pc' := 1) F dX9_as_0 rfl 0 rfl rfl ?_
  refine v_iload_n (pc' := 2) F dX9_as_1 rfl 1 rfl rfl ?_
  refine cVI (pc' := 5) (As := [.int y]) (rest := []) (wr := ((ppa, aP G 5 pq) :: pX G pq ks sx)) F (c_X9_isPerson x pgo ppa dl se tr im la dr pe ac lr sd y) (cwV 1 F.2.2.2.2.1 gX9_as_X9_isPerson rfl rfl rfl (by decide +kernel) ⟨Nat.le_of_ble_eq_true rfl, Nat.le_of_ble_eq_true rfl⟩) (v_rcvW F 7 0 rfl rfl) rfl rfl (Nat.le_of_ble_eq_true rfl) dX9_as_2 [0] [1, 2, 3, 4, 5, 6] (by decide) rfl rfl (by decide) (by decide) ⟨Nat.zero_le _, Nat.zero_le _⟩ rfl (fun r u q1 => ?_)
  obtain rfl := q1
  refine v_perm (wz := ((ppa, aP G 5 pq) :: (x, .inr (7, [.ref pgo, .ref ppa, .ref dl, .ref se, .ref tr, .ref im, .ref la, .ref dr, .int (nI pe), .int (nI ac), .int (nI lr), .int (nI sd)])) :: pX G pq ks sx)) [0, 6, 1, 2, 3, 4, 5] (by decide) rfl ?_
  refine v_bif_ne (tgt := 11) (pc' := 8) F dX9_as_5 (by decide) rfl (fun c2 => ?_) (fun c2 => ?_)
  · obtain ⟨t, ht, rfl⟩ := isP_of (by omega) c2
    have hw9 := hk5 t (by omega)
    refine v_iload_n (pc' := 12) F dX9_as_11 rfl 2 rfl rfl ?_
    refine cSI0 (pc' := 15) (As := [.int z]) (rest := []) F (c_X9_isKind z) (va_cwS 1 F.2.2.2.2.1 gX9_as_X9_isKind rfl rfl rfl (by decide +kernel) ⟨Nat.le_of_ble_eq_true rfl, Nat.le_of_ble_eq_true rfl⟩) rfl rfl (Nat.le_of_ble_eq_true rfl) dX9_as_12 ⟨Nat.zero_le _, Nat.zero_le _⟩ rfl (fun r u q3 => ?_)
    obtain rfl := q3
    refine v_bif_ne (tgt := 21) (pc' := 18) F dX9_as_15 (by decide) rfl (fun c4 => ?_) (fun c4 => ?_)
    · obtain ⟨w, hw, rfl⟩ := inR_of (by decide) c4
      refine v_aload_n (pc' := 22) F dX9_as_21 rfl 0 rfl rfl ?_
      refine v_get (pc' := 25) (C := RX9) (T := TX9) (N := 12) F dX9_as_22 in_X9_as_X9 1 rfl rfl 1 (by decide) (List.mem_of_getElem? (i := 1) rfl) rfl rfl ?_
      refine v_iload_n (pc' := 26) F dX9_as_25 rfl 1 rfl rfl ?_
      refine v_pald (pc' := 27) (z := pq t) F dX9_as_26 0 rfl (by omega) (by decide) rfl rfl ?_
      refine v_get (pc' := 30) (C := RX5) (T := TX5) (N := 2) F dX9_as_27 in_X9_as_X5 (t + 2) (pX_at (by omega)) rfl 0 (by decide) (List.mem_of_getElem? (i := 2) rfl) rfl rfl ?_
      refine v_getsKs (pc' := 33) F dX9_as_30 (List.mem_of_getElem? (i := 3) rfl) rfl ?_
      refine v_iload_n (pc' := 34) F dX9_as_33 rfl 2 rfl rfl ?_
      refine v_tqK (pc' := 35) F dX9_as_34 (by omega) rfl ?_
      refine cVI0 (pc' := 38) (As := [.ref (gAd G w)]) (rest := []) F (c_X2_isAlso (ks t) w (by omega) (by omega)) (cwV 1 F.2.2.2.2.1 gX9_as_X2_isAlso rfl rfl rfl (by decide +kernel) ⟨Nat.le_of_ble_eq_true rfl, Nat.le_of_ble_eq_true rfl⟩) (v_rcvE F (i := (ks t)) (by omega)) rfl rfl (Nat.le_of_ble_eq_true rfl) dX9_as_35 ⟨Nat.zero_le _, Nat.zero_le _⟩ rfl (fun r u q5 => ?_)
      obtain rfl := q5
      refine v_bif_eq (tgt := 45) (pc' := 41) F dX9_as_38 (by decide) rfl (fun c6 => ?_) (fun c6 => ?_)
      · refine v_iconst (pc' := 46) (v := (-1)) F dX9_as_45 (by decide) rfl ?_
        refine v_perm (wz := ((x, .inr (7, [.ref pgo, .ref ppa, .ref dl, .ref se, .ref tr, .ref im, .ref la, .ref dr, .int (nI pe), .int (nI ac), .int (nI lr), .int (nI sd)])) :: (ppa, aP G 5 pq) :: pX G pq ks sx)) [1, 0, 2, 3, 4, 5, 6] (by decide) rfl ?_
        exact rt dX9_as_46 () (by unfold A_as; rw [if_pos (by assumption), if_pos (by assumption), tN_nI (t := t) (by omega), tN_nI (t := w) (by omega), if_neg (by assumption)]) rfl
      · refine v_iload_n (pc' := 42) F dX9_as_41 rfl 1 rfl rfl ?_
        refine v_goto (tgt := 46) F dX9_as_42 (by decide) ?_
        refine v_perm (wz := ((x, .inr (7, [.ref pgo, .ref ppa, .ref dl, .ref se, .ref tr, .ref im, .ref la, .ref dr, .int (nI pe), .int (nI ac), .int (nI lr), .int (nI sd)])) :: (ppa, aP G 5 pq) :: pX G pq ks sx)) [1, 0, 2, 3, 4, 5, 6] (by decide) rfl ?_
        exact rt dX9_as_46 () (by unfold A_as; rw [if_pos (by assumption), if_pos (by assumption), tN_nI (t := t) (by omega), tN_nI (t := w) (by omega), if_pos (by assumption)]) rfl
    · refine v_bipush (pc' := 20) (v := (-102)) F dX9_as_18 (by decide) rfl ?_
      refine v_perm (wz := ((x, .inr (7, [.ref pgo, .ref ppa, .ref dl, .ref se, .ref tr, .ref im, .ref la, .ref dr, .int (nI pe), .int (nI ac), .int (nI lr), .int (nI sd)])) :: (ppa, aP G 5 pq) :: pX G pq ks sx)) [1, 0, 2, 3, 4, 5, 6] (by decide) rfl ?_
      exact rt dX9_as_20 () (by unfold A_as; rw [if_pos (by assumption), if_neg (by first | assumption | exact inR_no0 (by assumption) | exact inR_no1 (by assumption) | exact inR_no2 (by assumption) | exact inR_no2 (nle9 (by assumption)) | exact inR_noL (by decide) (by assumption))]) rfl
  · refine v_bipush (pc' := 10) (v := (-101)) F dX9_as_8 (by decide) rfl ?_
    refine v_perm (wz := ((x, .inr (7, [.ref pgo, .ref ppa, .ref dl, .ref se, .ref tr, .ref im, .ref la, .ref dr, .int (nI pe), .int (nI ac), .int (nI lr), .int (nI sd)])) :: (ppa, aP G 5 pq) :: pX G pq ks sx)) [1, 0, 2, 3, 4, 5, 6] (by decide) rfl ?_
    exact rt dX9_as_10 () (by unfold A_as; rw [if_neg (by first | assumption | exact inR_no0 (by assumption) | exact inR_no1 (by assumption) | exact inR_no2 (by assumption) | exact inR_no2 (nle9 (by assumption)) | exact inR_noL (by decide) (by assumption))]) rfl
def rm_X9_purse : Room := { frames := 1, cells := 0, slots := 0, locals := 22 }
theorem in_X9_purse_X5 : ∀ w ∈ u_ws RX5 TX5 2, w ∈ wsX9_purse := fun w h => List.mem_cons_of_mem _ (List.mem_append_right _ (h))
theorem in_X9_purse_X9 : ∀ w ∈ u_ws RX9 TX9 12, w ∈ wsX9_purse := fun w h => List.mem_cons_of_mem _ (List.mem_append_left _ (List.mem_append_right _ (h)))
set_option maxHeartbeats 4000000 in
set_option maxRecDepth 100000 in
theorem c_X9_purse {l : Launch} {D : va_G} {G : gT} (x pgo ppa dl se tr im la dr pe ac lr sd : Nat) (pq ks sx : Nat → Nat) (y z v : Int32) (h5 : pe ≤ 5) (hs5 : ∀ j, j < 5 → sx j < 40000) : CtI (σ := (Nat → Nat)) l yX9_purse wsX9_purse rm_X9_purse D G [.ref x, .int y, .int z, .int v] ((x, .inr (7, [.ref pgo, .ref ppa, .ref dl, .ref se, .ref tr, .ref im, .ref la, .ref dr, .int (nI pe), .int (nI ac), .int (nI lr), .int (nI sd)])) :: (ppa, aP G 5 pq) :: pX G pq ks sx) (fun r u => r = A_purse pe sx y z v ∧ u = N_purse pe sx y z v) (fun u => ((x, .inr (7, [.ref pgo, .ref ppa, .ref dl, .ref se, .ref tr, .ref im, .ref la, .ref dr, .int (nI pe), .int (nI ac), .int (nI lr), .int (nI sd)])) :: (ppa, aP G 5 pq) :: pX G pq ks u)) := by
  refine openI (maxL := 6) (by decide) rfl (Nat.le_of_ble_eq_true rfl) ?_
  intro pg ev sg mm ags bl me cd A Q F hmn rt
  refine v_lv (lz := [(0, .ref x), (1, .int y), (2, .int z), (3, .int v)]) rfl ?_
  refine v_aload_n (pc' := 1) F dX9_purse_0 rfl 0 rfl rfl ?_
  refine v_iload_n (pc' := 2) F dX9_purse_1 rfl 1 rfl rfl ?_
  refine cVI (pc' := 5) (As := [.int y]) (rest := []) (wr := ((ppa, aP G 5 pq) :: pX G pq ks sx)) F (c_X9_isPerson x pgo ppa dl se tr im la dr pe ac lr sd y) (cwV 1 F.2.2.2.2.1 gX9_purse_X9_isPerson rfl rfl rfl (by decide +kernel) ⟨Nat.le_of_ble_eq_true rfl, Nat.le_of_ble_eq_true rfl⟩) (v_rcvW F 7 0 rfl rfl) rfl rfl (Nat.le_of_ble_eq_true rfl) dX9_purse_2 [0] [1, 2, 3, 4, 5, 6] (by decide) rfl rfl (by decide) (by decide) ⟨Nat.zero_le _, Nat.zero_le _⟩ rfl (fun r u q1 => ?_)
  obtain rfl := q1
  refine v_perm (wz := ((ppa, aP G 5 pq) :: (x, .inr (7, [.ref pgo, .ref ppa, .ref dl, .ref se, .ref tr, .ref im, .ref la, .ref dr, .int (nI pe), .int (nI ac), .int (nI lr), .int (nI sd)])) :: pX G pq ks sx)) [0, 6, 1, 2, 3, 4, 5] (by decide) rfl ?_
  refine v_bif_eq (tgt := 15) (pc' := 8) F dX9_purse_5 (by decide) rfl (fun c2 => ?_) (fun c2 => ?_)
  · refine v_bipush (pc' := 17) (v := (-101)) F dX9_purse_15 (by decide) rfl ?_
    refine v_perm (wz := ((x, .inr (7, [.ref pgo, .ref ppa, .ref dl, .ref se, .ref tr, .ref im, .ref la, .ref dr, .int (nI pe), .int (nI ac), .int (nI lr), .int (nI sd)])) :: (ppa, aP G 5 pq) :: pX G pq ks sx)) [1, 0, 2, 3, 4, 5, 6] (by decide) rfl ?_
    exact rt dX9_purse_17 sx ⟨(by unfold A_purse; first | rw [if_neg (by assumption)] | rw [if_pos (by assumption), if_neg (by assumption)]), (by unfold N_purse; first | rw [if_neg (by assumption)] | rw [if_pos (by assumption), if_neg (by assumption)])⟩ rfl
  · obtain ⟨t, ht, rfl⟩ := isP_of (by omega) c2
    have hw9 := hs5 t (by omega)
    refine v_iload_n (pc' := 9) F dX9_purse_8 rfl 2 rfl rfl ?_
    refine cSI0 (pc' := 12) (As := [.int z]) (rest := []) F (c_X9_isCoin z) (va_cwS 1 F.2.2.2.2.1 gX9_purse_X9_isCoin rfl rfl rfl (by decide +kernel) ⟨Nat.le_of_ble_eq_true rfl, Nat.le_of_ble_eq_true rfl⟩) rfl rfl (Nat.le_of_ble_eq_true rfl) dX9_purse_9 ⟨Nat.zero_le _, Nat.zero_le _⟩ rfl (fun r u q3 => ?_)
    obtain rfl := q3
    refine v_bif_ne (tgt := 18) (pc' := 15) F dX9_purse_12 (by decide) rfl (fun c4 => ?_) (fun c4 => ?_)
    · obtain ⟨w, hw, rfl⟩ := inR_of (by decide) c4
      refine v_iload_n (pc' := 19) F dX9_purse_18 rfl 3 rfl rfl ?_
      refine v_if_lt (tgt := 27) (pc' := 22) F dX9_purse_19 (by decide) rfl (fun c5 => ?_) (fun c5 => ?_)
      · refine v_bipush (pc' := 29) (v := (-102)) F dX9_purse_27 (by decide) rfl ?_
        refine v_perm (wz := ((x, .inr (7, [.ref pgo, .ref ppa, .ref dl, .ref se, .ref tr, .ref im, .ref la, .ref dr, .int (nI pe), .int (nI ac), .int (nI lr), .int (nI sd)])) :: (ppa, aP G 5 pq) :: pX G pq ks sx)) [1, 0, 2, 3, 4, 5, 6] (by decide) rfl ?_
        exact rt dX9_purse_29 sx ⟨(by unfold A_purse; rw [if_pos (by assumption), if_pos (by assumption), if_neg (by first | assumption | exact inR_no0 (by assumption) | exact inR_no1 (by assumption) | exact inR_no2 (by assumption) | exact inR_no2 (nle9 (by assumption)) | exact inR_noL (by decide) (by assumption))]), (by unfold N_purse; rw [if_pos (by assumption), if_pos (by assumption), if_neg (by first | assumption | exact inR_no0 (by assumption) | exact inR_no1 (by assumption) | exact inR_no2 (by assumption) | exact inR_no2 (nle9 (by assumption)) | exact inR_noL (by decide) (by assumption))])⟩ rfl
      · refine v_iload_n (pc' := 23) F dX9_purse_22 rfl 3 rfl rfl ?_
        refine v_iconst (pc' := 24) (v := nI 4) F dX9_purse_23 (by decide) rfl ?_
        refine v_icmp_le (tgt := 30) (pc' := 27) F dX9_purse_24 (by decide) rfl (fun c6 => ?_) (fun c6 => ?_)
        · have hy9 := inR_mk2 (k := 4) (x := v) (by assumption) (by assumption)
          obtain ⟨q, hq, rfl⟩ := inR_of (by decide) hy9
          have hd9 := dg_lt (sx t) w
          refine v_aload_n (pc' := 31) F dX9_purse_30 rfl 0 rfl rfl ?_
          refine v_get (pc' := 34) (C := RX9) (T := TX9) (N := 12) F dX9_purse_31 in_X9_purse_X9 1 rfl rfl 1 (by decide) (List.mem_of_getElem? (i := 1) rfl) rfl rfl ?_
          refine v_iload_n (pc' := 35) F dX9_purse_34 rfl 1 rfl rfl ?_
          refine v_pald (pc' := 36) (z := pq t) F dX9_purse_35 0 rfl (by omega) (by decide) rfl rfl ?_
          refine v_astore (pc' := 38) (lv' := [(4, .ref (pq t)), (0, .ref x), (1, .int (nI t)), (2, .int (nI w)), (3, .int (nI q))]) F dX9_purse_36 (by decide) rfl rfl ?_
          refine v_aload (pc' := 40) F dX9_purse_38 0 rfl rfl ?_
          refine v_get (pc' := 43) (C := RX5) (T := TX5) (N := 2) F dX9_purse_40 in_X9_purse_X5 (t + 2) (pX_at (by omega)) rfl 1 (by decide) (List.mem_of_getElem? (i := 2) rfl) rfl rfl ?_
          refine v_iload_n (pc' := 44) F dX9_purse_43 rfl 3 rfl rfl ?_
          refine cSI0 (pc' := 47) (As := [.int (nI (eS (sx t))), .int (nI w)]) (rest := []) F (c_X7_coinsOf (sx t) w (by omega) (by omega)) (va_cwS 2 F.2.2.2.2.1 gX9_purse_X7_coinsOf rfl rfl rfl (by decide +kernel) ⟨Nat.le_of_ble_eq_true rfl, Nat.le_of_ble_eq_true rfl⟩) rfl rfl (Nat.le_of_ble_eq_true rfl) dX9_purse_44 ⟨Nat.zero_le _, Nat.zero_le _⟩ rfl (fun r u q7 => ?_)
          obtain rfl := q7
          refine v_istore (pc' := 49) (lv' := [(5, .int (nI (dg (sx t) w))), (4, .ref (pq t)), (0, .ref x), (1, .int (nI t)), (2, .int (nI w)), (3, .int (nI q))]) F dX9_purse_47 (by decide) rfl rfl ?_
          refine v_aload (pc' := 51) F dX9_purse_49 1 rfl rfl ?_
          refine v_aload (pc' := 53) F dX9_purse_51 1 rfl rfl ?_
          refine v_get (pc' := 56) (C := RX5) (T := TX5) (N := 2) F dX9_purse_53 in_X9_purse_X5 (t + 2) (pX_at (by omega)) rfl 1 (by decide) (List.mem_of_getElem? (i := 2) rfl) rfl rfl ?_
          refine v_iload_n (pc' := 57) F dX9_purse_56 rfl 4 rfl rfl ?_
          refine v_iload_n (pc' := 58) F dX9_purse_57 rfl 5 rfl rfl ?_
          refine v_iload (pc' := 60) F dX9_purse_58 0 rfl rfl ?_
          refine v_isub (pc' := 61) (z := (nI q - nI (dg (sx t) w))) F dX9_purse_60 rfl rfl ?_
          refine cSI0 (pc' := 64) (As := [.int (nI (eS (sx t))), .int (nI w), .int (nI q - nI (dg (sx t) w))]) (rest := [.ref (pq t)]) F (c_X7_withMore (sx t) w q (dg (sx t) w) (by omega) (by omega) (by omega) (by omega)) (va_cwS 3 F.2.2.2.2.1 gX9_purse_X7_withMore rfl rfl rfl (by decide +kernel) ⟨Nat.le_of_ble_eq_true rfl, Nat.le_of_ble_eq_true rfl⟩) rfl rfl (Nat.le_of_ble_eq_true rfl) dX9_purse_61 ⟨Nat.zero_le _, Nat.zero_le _⟩ rfl (fun r u q8 => ?_)
          obtain rfl := q8
          refine v_put (pc' := 67) (ws := ((ppa, aP G 5 pq) :: (x, .inr (7, [.ref pgo, .ref ppa, .ref dl, .ref se, .ref tr, .ref im, .ref la, .ref dr, .int (nI pe), .int (nI ac), .int (nI lr), .int (nI sd)])) :: pX G pq ks sx)) (ws' := ((ppa, aP G 5 pq) :: (x, .inr (7, [.ref pgo, .ref ppa, .ref dl, .ref se, .ref tr, .ref im, .ref la, .ref dr, .int (nI pe), .int (nI ac), .int (nI lr), .int (nI sd)])) :: pX G pq ks (va_up sx t (wC (sx t) w q (dg (sx t) w))))) (C := RX5) (T := TX5) (N := 2) F dX9_purse_64 in_X9_purse_X5 tyX5_ok nmX5 (t + 2) (pX_at (by omega)) rfl 1 (by decide) (List.mem_of_getElem? (i := 2) rfl) rfl rfl rfl (Nat.le_of_ble_eq_true rfl) (congrArg (fun zz : va_W => ((ppa, aP G 5 pq) :: (x, .inr (7, [.ref pgo, .ref ppa, .ref dl, .ref se, .ref tr, .ref im, .ref la, .ref dr, .int (nI pe), .int (nI ac), .int (nI lr), .int (nI sd)])) :: zz : va_W)) (pX_set1 (G := G) (pa := pq) (ks := ks) (sx := sx) (i := t) (w := wC (sx t) w q (dg (sx t) w)) (by omega))) rfl ?_
          refine v_iload (pc' := 69) F dX9_purse_67 0 rfl rfl ?_
          refine v_perm (wz := ((x, .inr (7, [.ref pgo, .ref ppa, .ref dl, .ref se, .ref tr, .ref im, .ref la, .ref dr, .int (nI pe), .int (nI ac), .int (nI lr), .int (nI sd)])) :: (ppa, aP G 5 pq) :: pX G pq ks (va_up sx t (wC (sx t) w q (dg (sx t) w))))) [1, 0, 2, 3, 4, 5, 6] (by decide) rfl ?_
          exact rt dX9_purse_69 (va_up sx t (wC (sx t) w q (dg (sx t) w))) ⟨(by unfold A_purse; rw [if_pos (by assumption), if_pos (by assumption), if_pos (by assumption), tN_nI (t := t) (by omega), tN_nI (t := w) (by omega)]), (by unfold N_purse; rw [if_pos (by assumption), if_pos (by assumption), if_pos (by assumption), tN_nI (t := t) (by omega), tN_nI (t := w) (by omega), tN_nI (t := q) (by omega)])⟩ rfl
        · refine v_bipush (pc' := 29) (v := (-102)) F dX9_purse_27 (by decide) rfl ?_
          refine v_perm (wz := ((x, .inr (7, [.ref pgo, .ref ppa, .ref dl, .ref se, .ref tr, .ref im, .ref la, .ref dr, .int (nI pe), .int (nI ac), .int (nI lr), .int (nI sd)])) :: (ppa, aP G 5 pq) :: pX G pq ks sx)) [1, 0, 2, 3, 4, 5, 6] (by decide) rfl ?_
          exact rt dX9_purse_29 sx ⟨(by unfold A_purse; rw [if_pos (by assumption), if_pos (by assumption), if_neg (by first | assumption | exact inR_no0 (by assumption) | exact inR_no1 (by assumption) | exact inR_no2 (by assumption) | exact inR_no2 (nle9 (by assumption)) | exact inR_noL (by decide) (by assumption))]), (by unfold N_purse; rw [if_pos (by assumption), if_pos (by assumption), if_neg (by first | assumption | exact inR_no0 (by assumption) | exact inR_no1 (by assumption) | exact inR_no2 (by assumption) | exact inR_no2 (nle9 (by assumption)) | exact inR_noL (by decide) (by assumption))])⟩ rfl
    · refine v_bipush (pc' := 17) (v := (-101)) F dX9_purse_15 (by decide) rfl ?_
      refine v_perm (wz := ((x, .inr (7, [.ref pgo, .ref ppa, .ref dl, .ref se, .ref tr, .ref im, .ref la, .ref dr, .int (nI pe), .int (nI ac), .int (nI lr), .int (nI sd)])) :: (ppa, aP G 5 pq) :: pX G pq ks sx)) [1, 0, 2, 3, 4, 5, 6] (by decide) rfl ?_
      exact rt dX9_purse_17 sx ⟨(by unfold A_purse; first | rw [if_neg (by assumption)] | rw [if_pos (by assumption), if_neg (by assumption)]), (by unfold N_purse; first | rw [if_neg (by assumption)] | rw [if_pos (by assumption), if_neg (by assumption)])⟩ rfl
def rm_X9_may : Room := { frames := 4, cells := 0, slots := 0, locals := 78 }
theorem in_X9_may_X5 : ∀ w ∈ u_ws RX5 TX5 2, w ∈ wsX9_may := fun w h => List.mem_cons_of_mem _ (List.mem_append_left _ (List.mem_append_left _ (List.mem_append_right _ (h))))
theorem in_X9_may_X9 : ∀ w ∈ u_ws RX9 TX9 12, w ∈ wsX9_may := fun w h => List.mem_cons_of_mem _ (List.mem_append_left _ (List.mem_append_left _ (List.mem_append_left _ (List.mem_append_right _ (h)))))
set_option maxHeartbeats 4000000 in
set_option maxRecDepth 100000 in
theorem c_X9_may {l : Launch} {D : va_G} {G : gT} (x pgo ppa dl se tr im la dr pe ac lr sd : Nat) (a0 a1 a2 a3 : Nat) (co ge gi pa : Nat → Nat) (b0 b1 b2 b3 lp ld : Nat) (tk gv pr py : Nat → Nat) (pq ks sx : Nat → Nat) (y z : Int32) (h5 : pe ≤ 5) (hwp : WPe ks sx) (hl : 0 < pe → WL tk gv pr py) : CtI (σ := (Nat → Nat) × (Nat → Nat) × (Nat → Nat) × (Nat → Nat)) l yX9_may wsX9_may rm_X9_may D G [.ref x, .int y, .int z] ((x, .inr (7, [.ref pgo, .ref ppa, .ref dl, .ref se, .ref tr, .ref im, .ref la, .ref dr, .int (nI pe), .int (nI ac), .int (nI lr), .int (nI sd)])) :: (dl, .inr (0, [.ref a0, .ref a1, .ref a2, .ref a3])) :: (a0, aI G 4 co) :: (a1, aI G 4 ge) :: (a2, aI G 4 gi) :: (a3, aI G 4 pa) :: (la, .inr (2, [.ref b0, .ref b1, .ref b2, .ref b3, .int (nI lp), .int (nI ld)])) :: (b0, aI G 4 tk) :: (b1, aI G 4 gv) :: (b2, aI G 4 pr) :: (b3, aI G 4 py) :: (ppa, aP G 5 pq) :: pX G pq ks sx) (fun r u => r = A_may pe tk gv pr py ks sx y z) (fun u => ((x, .inr (7, [.ref pgo, .ref ppa, .ref dl, .ref se, .ref tr, .ref im, .ref la, .ref dr, .int (nI pe), .int (nI ac), .int (nI lr), .int (nI sd)])) :: (dl, .inr (0, [.ref a0, .ref a1, .ref a2, .ref a3])) :: (a0, aI G 4 (u.1)) :: (a1, aI G 4 (u.2.1)) :: (a2, aI G 4 (u.2.2.1)) :: (a3, aI G 4 (u.2.2.2)) :: (la, .inr (2, [.ref b0, .ref b1, .ref b2, .ref b3, .int (nI lp), .int (nI ld)])) :: (b0, aI G 4 tk) :: (b1, aI G 4 gv) :: (b2, aI G 4 pr) :: (b3, aI G 4 py) :: (ppa, aP G 5 pq) :: pX G pq ks sx)) := by
  refine openI (maxL := 3) (by decide) rfl (Nat.le_of_ble_eq_true rfl) ?_
  intro pg ev sg mm ags bl me cd A Q F hmn rt
  refine v_lv (lz := [(0, .ref x), (1, .int y), (2, .int z)]) rfl ?_
  refine v_aload_n (pc' := 1) F dX9_may_0 rfl 0 rfl rfl ?_
  refine v_iload_n (pc' := 2) F dX9_may_1 rfl 1 rfl rfl ?_
  refine cVI (pc' := 5) (As := [.int y]) (rest := []) (wr := ((dl, .inr (0, [.ref a0, .ref a1, .ref a2, .ref a3])) :: (a0, aI G 4 co) :: (a1, aI G 4 ge) :: (a2, aI G 4 gi) :: (a3, aI G 4 pa) :: (la, .inr (2, [.ref b0, .ref b1, .ref b2, .ref b3, .int (nI lp), .int (nI ld)])) :: (b0, aI G 4 tk) :: (b1, aI G 4 gv) :: (b2, aI G 4 pr) :: (b3, aI G 4 py) :: (ppa, aP G 5 pq) :: pX G pq ks sx)) F (c_X9_isPerson x pgo ppa dl se tr im la dr pe ac lr sd y) (cwV 1 F.2.2.2.2.1 gX9_may_X9_isPerson rfl rfl rfl (by decide +kernel) ⟨Nat.le_of_ble_eq_true rfl, Nat.le_of_ble_eq_true rfl⟩) (v_rcvW F 7 0 rfl rfl) rfl rfl (Nat.le_of_ble_eq_true rfl) dX9_may_2 [0] [1, 2, 3, 4, 5, 6, 7, 8, 9, 10, 11, 12, 13, 14, 15, 16] (by decide) rfl rfl (by decide) (by decide) ⟨Nat.zero_le _, Nat.zero_le _⟩ rfl (fun r u q1 => ?_)
  obtain rfl := q1
  refine v_perm (wz := ((dl, .inr (0, [.ref a0, .ref a1, .ref a2, .ref a3])) :: (a0, aI G 4 co) :: (a1, aI G 4 ge) :: (a2, aI G 4 gi) :: (a3, aI G 4 pa) :: (la, .inr (2, [.ref b0, .ref b1, .ref b2, .ref b3, .int (nI lp), .int (nI ld)])) :: (b0, aI G 4 tk) :: (b1, aI G 4 gv) :: (b2, aI G 4 pr) :: (b3, aI G 4 py) :: (ppa, aP G 5 pq) :: (x, .inr (7, [.ref pgo, .ref ppa, .ref dl, .ref se, .ref tr, .ref im, .ref la, .ref dr, .int (nI pe), .int (nI ac), .int (nI lr), .int (nI sd)])) :: pX G pq ks sx)) [0, 1, 2, 3, 4, 5, 6, 7, 8, 9, 10, 16, 11, 12, 13, 14, 15] (by decide) rfl ?_
  refine v_bif_eq (tgt := 15) (pc' := 8) F dX9_may_5 (by decide) rfl (fun c2 => ?_) (fun c2 => ?_)
  · refine v_bipush (pc' := 17) (v := (-101)) F dX9_may_15 (by decide) rfl ?_
    refine v_perm (wz := ((x, .inr (7, [.ref pgo, .ref ppa, .ref dl, .ref se, .ref tr, .ref im, .ref la, .ref dr, .int (nI pe), .int (nI ac), .int (nI lr), .int (nI sd)])) :: (dl, .inr (0, [.ref a0, .ref a1, .ref a2, .ref a3])) :: (a0, aI G 4 co) :: (a1, aI G 4 ge) :: (a2, aI G 4 gi) :: (a3, aI G 4 pa) :: (la, .inr (2, [.ref b0, .ref b1, .ref b2, .ref b3, .int (nI lp), .int (nI ld)])) :: (b0, aI G 4 tk) :: (b1, aI G 4 gv) :: (b2, aI G 4 pr) :: (b3, aI G 4 py) :: (ppa, aP G 5 pq) :: pX G pq ks sx)) [11, 0, 1, 2, 3, 4, 5, 6, 7, 8, 9, 10, 12, 13, 14, 15, 16] (by decide) rfl ?_
    exact rt dX9_may_17 (co, ge, gi, pa) (by unfold A_may; first | rw [if_neg (by assumption)] | rw [if_pos (by assumption), if_neg (by assumption)]) rfl
  · obtain ⟨t, ht, rfl⟩ := isP_of (by omega) c2
    have hw9 := hwp t (by omega)
    have hl9 := hl (by omega)
    refine v_iload_n (pc' := 9) F dX9_may_8 rfl 2 rfl rfl ?_
    refine cSI0 (pc' := 12) (As := [.int z]) (rest := []) F (c_X9_isAct z) (va_cwS 1 F.2.2.2.2.1 gX9_may_X9_isAct rfl rfl rfl (by decide +kernel) ⟨Nat.le_of_ble_eq_true rfl, Nat.le_of_ble_eq_true rfl⟩) rfl rfl (Nat.le_of_ble_eq_true rfl) dX9_may_9 ⟨Nat.zero_le _, Nat.zero_le _⟩ rfl (fun r u q3 => ?_)
    obtain rfl := q3
    refine v_bif_ne (tgt := 18) (pc' := 15) F dX9_may_12 (by decide) rfl (fun c4 => ?_) (fun c4 => ?_)
    · obtain ⟨w, hw, rfl⟩ := aOkI_of c4
      have hw24 := aOk_lt hw
      refine v_aload_n (pc' := 19) F dX9_may_18 rfl 0 rfl rfl ?_
      refine v_iload_n (pc' := 20) F dX9_may_19 rfl 1 rfl rfl ?_
      refine cVR (pc' := 23) (As := [.int (nI t)]) (rest := []) (wr := []) F (c_X9_dealFor x pgo ppa dl se tr im la dr pe ac lr sd a0 a1 a2 a3 co ge gi pa b0 b1 b2 b3 lp ld tk gv pr py pq ks sx t (by omega) hw9.1 hl9) (cwV 1 F.2.2.2.2.1 gX9_may_X9_dealFor rfl rfl rfl (by decide +kernel) ⟨Nat.le_of_ble_eq_true rfl, Nat.le_of_ble_eq_true rfl⟩) (v_rcvW F 7 11 rfl rfl) rfl rfl (Nat.le_of_ble_eq_true rfl) dX9_may_20 [11, 0, 1, 2, 3, 4, 5, 6, 7, 8, 9, 10, 12, 13, 14, 15, 16] [] (by decide) rfl rfl (by decide) (by decide) ⟨Nat.zero_le _, Nat.zero_le _⟩ rfl (fun u q10 => ?_)
      obtain ⟨co2_5, ge2_6, gi2_7, pa2_8⟩ := u
      have hD_9 := q10
      have hwd := DLo_WD hl9 hD_9
      have hbe := DLo_bh hD_9
      refine v_ws (wz := ((x, .inr (7, [.ref pgo, .ref ppa, .ref dl, .ref se, .ref tr, .ref im, .ref la, .ref dr, .int (nI pe), .int (nI ac), .int (nI lr), .int (nI sd)])) :: (dl, .inr (0, [.ref a0, .ref a1, .ref a2, .ref a3])) :: (a0, aI G 4 co2_5) :: (a1, aI G 4 ge2_6) :: (a2, aI G 4 gi2_7) :: (a3, aI G 4 pa2_8) :: (la, .inr (2, [.ref b0, .ref b1, .ref b2, .ref b3, .int (nI lp), .int (nI ld)])) :: (b0, aI G 4 tk) :: (b1, aI G 4 gv) :: (b2, aI G 4 pr) :: (b3, aI G 4 py) :: (ppa, aP G 5 pq) :: pX G pq ks sx)) rfl ?_
      refine v_aload_n (pc' := 24) F dX9_may_23 rfl 0 rfl rfl ?_
      refine v_get (pc' := 27) (C := RX9) (T := TX9) (N := 12) F dX9_may_24 in_X9_may_X9 0 rfl rfl 1 (by decide) (List.mem_of_getElem? (i := 1) rfl) rfl rfl ?_
      refine v_iload_n (pc' := 28) F dX9_may_27 rfl 1 rfl rfl ?_
      refine v_pald (pc' := 29) (z := pq t) F dX9_may_28 11 rfl (by omega) (by decide) rfl rfl ?_
      refine v_get (pc' := 32) (C := RX5) (T := TX5) (N := 2) F dX9_may_29 in_X9_may_X5 (t + 12) (pX_at (by omega)) rfl 1 (by decide) (List.mem_of_getElem? (i := 2) rfl) rfl rfl ?_
      refine v_iload_n (pc' := 33) F dX9_may_32 rfl 2 rfl rfl ?_
      refine cVI (pc' := 36) (As := [.int (nI (eS (sx t))), .int (nI w)]) (rest := []) (wr := ((x, .inr (7, [.ref pgo, .ref ppa, .ref dl, .ref se, .ref tr, .ref im, .ref la, .ref dr, .int (nI pe), .int (nI ac), .int (nI lr), .int (nI sd)])) :: (la, .inr (2, [.ref b0, .ref b1, .ref b2, .ref b3, .int (nI lp), .int (nI ld)])) :: (b0, aI G 4 tk) :: (b1, aI G 4 gv) :: (b2, aI G 4 pr) :: (b3, aI G 4 py) :: (ppa, aP G 5 pq) :: pX G pq ks sx)) F (c_X0_after dl a0 a1 a2 a3 co2_5 ge2_6 gi2_7 pa2_8 (sx t) w hwd hw9.2 hw) (cwV 2 F.2.2.2.2.1 gX9_may_X0_after rfl rfl rfl (by decide +kernel) ⟨Nat.le_of_ble_eq_true rfl, Nat.le_of_ble_eq_true rfl⟩) (v_rcvW F 0 1 rfl rfl) rfl rfl (Nat.le_of_ble_eq_true rfl) dX9_may_33 [1, 2, 3, 4, 5] [0, 6, 7, 8, 9, 10, 11, 12, 13, 14, 15, 16] (by decide) rfl rfl (by decide) (by decide) ⟨Nat.zero_le _, Nat.zero_le _⟩ rfl (fun r u q11 => ?_)
      obtain rfl := q11
      refine v_perm (wz := ((x, .inr (7, [.ref pgo, .ref ppa, .ref dl, .ref se, .ref tr, .ref im, .ref la, .ref dr, .int (nI pe), .int (nI ac), .int (nI lr), .int (nI sd)])) :: (la, .inr (2, [.ref b0, .ref b1, .ref b2, .ref b3, .int (nI lp), .int (nI ld)])) :: (b0, aI G 4 tk) :: (b1, aI G 4 gv) :: (b2, aI G 4 pr) :: (b3, aI G 4 py) :: (ppa, aP G 5 pq) :: (dl, .inr (0, [.ref a0, .ref a1, .ref a2, .ref a3])) :: (a0, aI G 4 co2_5) :: (a1, aI G 4 ge2_6) :: (a2, aI G 4 gi2_7) :: (a3, aI G 4 pa2_8) :: pX G pq ks sx)) [0, 1, 2, 3, 4, 5, 6, 12, 13, 14, 15, 16, 7, 8, 9, 10, 11] (by decide) rfl ?_
      refine v_top (y := oC (mB (ks t) tk gv pr py (sx t) w)) (by rw [hbe]) ?_
      cases hb13 : mB (ks t) tk gv pr py (sx t) w with
      | none =>
        refine v_top (oC_none rfl) ?_
        refine v_iconst (pc' := 37) (v := (-1)) F dX9_may_36 (by decide) rfl ?_
        refine v_icmp_ne (tgt := 44) (pc' := 40) F dX9_may_37 (by decide) rfl (fun c14 => ?_) (fun c14 => ?_)
        · exact absurd rfl c14
        · refine v_iconst (pc' := 41) (v := nI 0) F dX9_may_40 (by decide) rfl ?_
          refine v_goto (tgt := 45) F dX9_may_41 (by decide) ?_
          refine v_perm (wz := ((x, .inr (7, [.ref pgo, .ref ppa, .ref dl, .ref se, .ref tr, .ref im, .ref la, .ref dr, .int (nI pe), .int (nI ac), .int (nI lr), .int (nI sd)])) :: (dl, .inr (0, [.ref a0, .ref a1, .ref a2, .ref a3])) :: (a0, aI G 4 co2_5) :: (a1, aI G 4 ge2_6) :: (a2, aI G 4 gi2_7) :: (a3, aI G 4 pa2_8) :: (la, .inr (2, [.ref b0, .ref b1, .ref b2, .ref b3, .int (nI lp), .int (nI ld)])) :: (b0, aI G 4 tk) :: (b1, aI G 4 gv) :: (b2, aI G 4 pr) :: (b3, aI G 4 py) :: (ppa, aP G 5 pq) :: pX G pq ks sx)) [0, 7, 8, 9, 10, 11, 1, 2, 3, 4, 5, 6, 12, 13, 14, 15, 16] (by decide) rfl ?_
          exact rt dX9_may_45 (co2_5, ge2_6, gi2_7, pa2_8) (by unfold A_may pB1; rw [if_pos (by assumption), if_pos (by assumption), tN_nI (t := t) (by omega), tN_nI (t := w) (by omega), hb13]; rfl) rfl
      | some k12 =>
        refine v_top (oC_some rfl) ?_
        have hk := bh_lt (WL_WD (ks t) hl9) hw9.2 hw hb13
        have hks := eS_lt hk
        refine v_iconst (pc' := 37) (v := (-1)) F dX9_may_36 (by decide) rfl ?_
        refine v_icmp_ne (tgt := 44) (pc' := 40) F dX9_may_37 (by decide) rfl (fun c15 => ?_) (fun c15 => ?_)
        · refine v_iconst (pc' := 45) (v := nI 1) F dX9_may_44 (by decide) rfl ?_
          refine v_perm (wz := ((x, .inr (7, [.ref pgo, .ref ppa, .ref dl, .ref se, .ref tr, .ref im, .ref la, .ref dr, .int (nI pe), .int (nI ac), .int (nI lr), .int (nI sd)])) :: (dl, .inr (0, [.ref a0, .ref a1, .ref a2, .ref a3])) :: (a0, aI G 4 co2_5) :: (a1, aI G 4 ge2_6) :: (a2, aI G 4 gi2_7) :: (a3, aI G 4 pa2_8) :: (la, .inr (2, [.ref b0, .ref b1, .ref b2, .ref b3, .int (nI lp), .int (nI ld)])) :: (b0, aI G 4 tk) :: (b1, aI G 4 gv) :: (b2, aI G 4 pr) :: (b3, aI G 4 py) :: (ppa, aP G 5 pq) :: pX G pq ks sx)) [0, 7, 8, 9, 10, 11, 1, 2, 3, 4, 5, 6, 12, 13, 14, 15, 16] (by decide) rfl ?_
          exact rt dX9_may_45 (co2_5, ge2_6, gi2_7, pa2_8) (by unfold A_may pB1; rw [if_pos (by assumption), if_pos (by assumption), tN_nI (t := t) (by omega), tN_nI (t := w) (by omega), hb13]; rfl) rfl
        · exact absurd c15 (ni_m1 (by omega))
    · refine v_bipush (pc' := 17) (v := (-101)) F dX9_may_15 (by decide) rfl ?_
      refine v_perm (wz := ((x, .inr (7, [.ref pgo, .ref ppa, .ref dl, .ref se, .ref tr, .ref im, .ref la, .ref dr, .int (nI pe), .int (nI ac), .int (nI lr), .int (nI sd)])) :: (dl, .inr (0, [.ref a0, .ref a1, .ref a2, .ref a3])) :: (a0, aI G 4 co) :: (a1, aI G 4 ge) :: (a2, aI G 4 gi) :: (a3, aI G 4 pa) :: (la, .inr (2, [.ref b0, .ref b1, .ref b2, .ref b3, .int (nI lp), .int (nI ld)])) :: (b0, aI G 4 tk) :: (b1, aI G 4 gv) :: (b2, aI G 4 pr) :: (b3, aI G 4 py) :: (ppa, aP G 5 pq) :: pX G pq ks sx)) [11, 0, 1, 2, 3, 4, 5, 6, 7, 8, 9, 10, 12, 13, 14, 15, 16] (by decide) rfl ?_
      exact rt dX9_may_17 (co, ge, gi, pa) (by unfold A_may; first | rw [if_neg (by assumption)] | rw [if_pos (by assumption), if_neg (by assumption)]) rfl
def rm_X9_act : Room := { frames := 4, cells := 0, slots := 0, locals := 78 }
theorem in_X9_act_X5 : ∀ w ∈ u_ws RX5 TX5 2, w ∈ wsX9_act := fun w h => List.mem_cons_of_mem _ (List.mem_append_left _ (List.mem_append_left _ (List.mem_append_right _ (h))))
theorem in_X9_act_X9 : ∀ w ∈ u_ws RX9 TX9 12, w ∈ wsX9_act := fun w h => List.mem_cons_of_mem _ (List.mem_append_left _ (List.mem_append_left _ (List.mem_append_left _ (List.mem_append_right _ (h)))))
set_option maxHeartbeats 4000000 in
set_option maxRecDepth 100000 in
theorem c_X9_act {l : Launch} {D : va_G} {G : gT} (x pgo ppa dl se tr im la dr pe ac lr sd : Nat) (a0 a1 a2 a3 : Nat) (co ge gi pa : Nat → Nat) (b0 b1 b2 b3 lp ld : Nat) (tk gv pr py : Nat → Nat) (pq ks sx : Nat → Nat) (y z : Int32) (h5 : pe ≤ 5) (hwp : WPe ks sx) (hl : 0 < pe → WL tk gv pr py) : CtI (σ := (Nat → Nat) × (Nat → Nat) × (Nat → Nat) × (Nat → Nat) × ((Nat → Nat) × Nat)) l yX9_act wsX9_act rm_X9_act D G [.ref x, .int y, .int z] ((x, .inr (7, [.ref pgo, .ref ppa, .ref dl, .ref se, .ref tr, .ref im, .ref la, .ref dr, .int (nI pe), .int (nI ac), .int (nI lr), .int (nI sd)])) :: (dl, .inr (0, [.ref a0, .ref a1, .ref a2, .ref a3])) :: (a0, aI G 4 co) :: (a1, aI G 4 ge) :: (a2, aI G 4 gi) :: (a3, aI G 4 pa) :: (la, .inr (2, [.ref b0, .ref b1, .ref b2, .ref b3, .int (nI lp), .int (nI ld)])) :: (b0, aI G 4 tk) :: (b1, aI G 4 gv) :: (b2, aI G 4 pr) :: (b3, aI G 4 py) :: (ppa, aP G 5 pq) :: pX G pq ks sx) (fun r u => r = A_act pe tk gv pr py ks sx y z ∧ (u.2.2.2.2) = N_act pe tk gv pr py ks sx ac y z) (fun u => ((x, .inr (7, [.ref pgo, .ref ppa, .ref dl, .ref se, .ref tr, .ref im, .ref la, .ref dr, .int (nI pe), .int (nI ((u.2.2.2.2).2)), .int (nI lr), .int (nI sd)])) :: (dl, .inr (0, [.ref a0, .ref a1, .ref a2, .ref a3])) :: (a0, aI G 4 (u.1)) :: (a1, aI G 4 (u.2.1)) :: (a2, aI G 4 (u.2.2.1)) :: (a3, aI G 4 (u.2.2.2.1)) :: (la, .inr (2, [.ref b0, .ref b1, .ref b2, .ref b3, .int (nI lp), .int (nI ld)])) :: (b0, aI G 4 tk) :: (b1, aI G 4 gv) :: (b2, aI G 4 pr) :: (b3, aI G 4 py) :: (ppa, aP G 5 pq) :: pX G pq ks ((u.2.2.2.2).1))) := by
  refine openI (maxL := 5) (by decide) rfl (Nat.le_of_ble_eq_true rfl) ?_
  intro pg ev sg mm ags bl me cd A Q F hmn rt
  refine v_lv (lz := [(0, .ref x), (1, .int y), (2, .int z)]) rfl ?_
  refine v_aload_n (pc' := 1) F dX9_act_0 rfl 0 rfl rfl ?_
  refine v_iload_n (pc' := 2) F dX9_act_1 rfl 1 rfl rfl ?_
  refine cVI (pc' := 5) (As := [.int y]) (rest := []) (wr := ((dl, .inr (0, [.ref a0, .ref a1, .ref a2, .ref a3])) :: (a0, aI G 4 co) :: (a1, aI G 4 ge) :: (a2, aI G 4 gi) :: (a3, aI G 4 pa) :: (la, .inr (2, [.ref b0, .ref b1, .ref b2, .ref b3, .int (nI lp), .int (nI ld)])) :: (b0, aI G 4 tk) :: (b1, aI G 4 gv) :: (b2, aI G 4 pr) :: (b3, aI G 4 py) :: (ppa, aP G 5 pq) :: pX G pq ks sx)) F (c_X9_isPerson x pgo ppa dl se tr im la dr pe ac lr sd y) (cwV 1 F.2.2.2.2.1 gX9_act_X9_isPerson rfl rfl rfl (by decide +kernel) ⟨Nat.le_of_ble_eq_true rfl, Nat.le_of_ble_eq_true rfl⟩) (v_rcvW F 7 0 rfl rfl) rfl rfl (Nat.le_of_ble_eq_true rfl) dX9_act_2 [0] [1, 2, 3, 4, 5, 6, 7, 8, 9, 10, 11, 12, 13, 14, 15, 16] (by decide) rfl rfl (by decide) (by decide) ⟨Nat.zero_le _, Nat.zero_le _⟩ rfl (fun r u q1 => ?_)
  obtain rfl := q1
  refine v_perm (wz := ((dl, .inr (0, [.ref a0, .ref a1, .ref a2, .ref a3])) :: (a0, aI G 4 co) :: (a1, aI G 4 ge) :: (a2, aI G 4 gi) :: (a3, aI G 4 pa) :: (la, .inr (2, [.ref b0, .ref b1, .ref b2, .ref b3, .int (nI lp), .int (nI ld)])) :: (b0, aI G 4 tk) :: (b1, aI G 4 gv) :: (b2, aI G 4 pr) :: (b3, aI G 4 py) :: (ppa, aP G 5 pq) :: (x, .inr (7, [.ref pgo, .ref ppa, .ref dl, .ref se, .ref tr, .ref im, .ref la, .ref dr, .int (nI pe), .int (nI ac), .int (nI lr), .int (nI sd)])) :: pX G pq ks sx)) [0, 1, 2, 3, 4, 5, 6, 7, 8, 9, 10, 16, 11, 12, 13, 14, 15] (by decide) rfl ?_
  refine v_bif_eq (tgt := 15) (pc' := 8) F dX9_act_5 (by decide) rfl (fun c2 => ?_) (fun c2 => ?_)
  · refine v_bipush (pc' := 17) (v := (-101)) F dX9_act_15 (by decide) rfl ?_
    refine v_perm (wz := ((x, .inr (7, [.ref pgo, .ref ppa, .ref dl, .ref se, .ref tr, .ref im, .ref la, .ref dr, .int (nI pe), .int (nI ac), .int (nI lr), .int (nI sd)])) :: (dl, .inr (0, [.ref a0, .ref a1, .ref a2, .ref a3])) :: (a0, aI G 4 co) :: (a1, aI G 4 ge) :: (a2, aI G 4 gi) :: (a3, aI G 4 pa) :: (la, .inr (2, [.ref b0, .ref b1, .ref b2, .ref b3, .int (nI lp), .int (nI ld)])) :: (b0, aI G 4 tk) :: (b1, aI G 4 gv) :: (b2, aI G 4 pr) :: (b3, aI G 4 py) :: (ppa, aP G 5 pq) :: pX G pq ks sx)) [11, 0, 1, 2, 3, 4, 5, 6, 7, 8, 9, 10, 12, 13, 14, 15, 16] (by decide) rfl ?_
    exact rt dX9_act_17 (co, ge, gi, pa, sx, ac) ⟨(by unfold A_act; first | rw [if_neg (by assumption)] | rw [if_pos (by assumption), if_neg (by assumption)]), (by unfold N_act; first | rw [if_neg (by assumption)] | rw [if_pos (by assumption), if_neg (by assumption)])⟩ rfl
  · obtain ⟨t, ht, rfl⟩ := isP_of (by omega) c2
    have hw9 := hwp t (by omega)
    have hl9 := hl (by omega)
    refine v_iload_n (pc' := 9) F dX9_act_8 rfl 2 rfl rfl ?_
    refine cSI0 (pc' := 12) (As := [.int z]) (rest := []) F (c_X9_isAct z) (va_cwS 1 F.2.2.2.2.1 gX9_act_X9_isAct rfl rfl rfl (by decide +kernel) ⟨Nat.le_of_ble_eq_true rfl, Nat.le_of_ble_eq_true rfl⟩) rfl rfl (Nat.le_of_ble_eq_true rfl) dX9_act_9 ⟨Nat.zero_le _, Nat.zero_le _⟩ rfl (fun r u q3 => ?_)
    obtain rfl := q3
    refine v_bif_ne (tgt := 18) (pc' := 15) F dX9_act_12 (by decide) rfl (fun c4 => ?_) (fun c4 => ?_)
    · obtain ⟨w, hw, rfl⟩ := aOkI_of c4
      have hw24 := aOk_lt hw
      refine v_aload_n (pc' := 19) F dX9_act_18 rfl 0 rfl rfl ?_
      refine v_get (pc' := 22) (C := RX9) (T := TX9) (N := 12) F dX9_act_19 in_X9_act_X9 11 rfl rfl 1 (by decide) (List.mem_of_getElem? (i := 1) rfl) rfl rfl ?_
      refine v_iload_n (pc' := 23) F dX9_act_22 rfl 1 rfl rfl ?_
      refine v_pald (pc' := 24) (z := pq t) F dX9_act_23 10 rfl (by omega) (by decide) rfl rfl ?_
      refine v_astore_n (pc' := 25) (lv' := [(3, .ref (pq t)), (0, .ref x), (1, .int (nI t)), (2, .int (nI w))]) F dX9_act_24 rfl (by decide) rfl rfl ?_
      refine v_aload_n (pc' := 26) F dX9_act_25 rfl 1 rfl rfl ?_
      refine v_iload_n (pc' := 27) F dX9_act_26 rfl 2 rfl rfl ?_
      refine cVR (pc' := 30) (As := [.int (nI t)]) (rest := []) (wr := []) F (c_X9_dealFor x pgo ppa dl se tr im la dr pe ac lr sd a0 a1 a2 a3 co ge gi pa b0 b1 b2 b3 lp ld tk gv pr py pq ks sx t (by omega) hw9.1 hl9) (cwV 1 F.2.2.2.2.1 gX9_act_X9_dealFor rfl rfl rfl (by decide +kernel) ⟨Nat.le_of_ble_eq_true rfl, Nat.le_of_ble_eq_true rfl⟩) (v_rcvW F 7 11 rfl rfl) rfl rfl (Nat.le_of_ble_eq_true rfl) dX9_act_27 [11, 0, 1, 2, 3, 4, 5, 6, 7, 8, 9, 10, 12, 13, 14, 15, 16] [] (by decide) rfl rfl (by decide) (by decide) ⟨Nat.zero_le _, Nat.zero_le _⟩ rfl (fun u q10 => ?_)
      obtain ⟨co2_5, ge2_6, gi2_7, pa2_8⟩ := u
      have hD_9 := q10
      have hwd := DLo_WD hl9 hD_9
      have hbe := DLo_bh hD_9
      refine v_ws (wz := ((x, .inr (7, [.ref pgo, .ref ppa, .ref dl, .ref se, .ref tr, .ref im, .ref la, .ref dr, .int (nI pe), .int (nI ac), .int (nI lr), .int (nI sd)])) :: (dl, .inr (0, [.ref a0, .ref a1, .ref a2, .ref a3])) :: (a0, aI G 4 co2_5) :: (a1, aI G 4 ge2_6) :: (a2, aI G 4 gi2_7) :: (a3, aI G 4 pa2_8) :: (la, .inr (2, [.ref b0, .ref b1, .ref b2, .ref b3, .int (nI lp), .int (nI ld)])) :: (b0, aI G 4 tk) :: (b1, aI G 4 gv) :: (b2, aI G 4 pr) :: (b3, aI G 4 py) :: (ppa, aP G 5 pq) :: pX G pq ks sx)) rfl ?_
      refine v_aload_n (pc' := 31) F dX9_act_30 rfl 0 rfl rfl ?_
      refine v_get (pc' := 34) (C := RX5) (T := TX5) (N := 2) F dX9_act_31 in_X9_act_X5 (t + 12) (pX_at (by omega)) rfl 1 (by decide) (List.mem_of_getElem? (i := 2) rfl) rfl rfl ?_
      refine v_iload_n (pc' := 35) F dX9_act_34 rfl 3 rfl rfl ?_
      refine cVI (pc' := 38) (As := [.int (nI (eS (sx t))), .int (nI w)]) (rest := []) (wr := ((x, .inr (7, [.ref pgo, .ref ppa, .ref dl, .ref se, .ref tr, .ref im, .ref la, .ref dr, .int (nI pe), .int (nI ac), .int (nI lr), .int (nI sd)])) :: (la, .inr (2, [.ref b0, .ref b1, .ref b2, .ref b3, .int (nI lp), .int (nI ld)])) :: (b0, aI G 4 tk) :: (b1, aI G 4 gv) :: (b2, aI G 4 pr) :: (b3, aI G 4 py) :: (ppa, aP G 5 pq) :: pX G pq ks sx)) F (c_X0_after dl a0 a1 a2 a3 co2_5 ge2_6 gi2_7 pa2_8 (sx t) w hwd hw9.2 hw) (cwV 2 F.2.2.2.2.1 gX9_act_X0_after rfl rfl rfl (by decide +kernel) ⟨Nat.le_of_ble_eq_true rfl, Nat.le_of_ble_eq_true rfl⟩) (v_rcvW F 0 1 rfl rfl) rfl rfl (Nat.le_of_ble_eq_true rfl) dX9_act_35 [1, 2, 3, 4, 5] [0, 6, 7, 8, 9, 10, 11, 12, 13, 14, 15, 16] (by decide) rfl rfl (by decide) (by decide) ⟨Nat.zero_le _, Nat.zero_le _⟩ rfl (fun r u q11 => ?_)
      obtain rfl := q11
      refine v_perm (wz := ((x, .inr (7, [.ref pgo, .ref ppa, .ref dl, .ref se, .ref tr, .ref im, .ref la, .ref dr, .int (nI pe), .int (nI ac), .int (nI lr), .int (nI sd)])) :: (la, .inr (2, [.ref b0, .ref b1, .ref b2, .ref b3, .int (nI lp), .int (nI ld)])) :: (b0, aI G 4 tk) :: (b1, aI G 4 gv) :: (b2, aI G 4 pr) :: (b3, aI G 4 py) :: (ppa, aP G 5 pq) :: (dl, .inr (0, [.ref a0, .ref a1, .ref a2, .ref a3])) :: (a0, aI G 4 co2_5) :: (a1, aI G 4 ge2_6) :: (a2, aI G 4 gi2_7) :: (a3, aI G 4 pa2_8) :: pX G pq ks sx)) [0, 1, 2, 3, 4, 5, 6, 12, 13, 14, 15, 16, 7, 8, 9, 10, 11] (by decide) rfl ?_
      refine v_top (y := oC (mB (ks t) tk gv pr py (sx t) w)) (by rw [hbe]) ?_
      cases hb13 : mB (ks t) tk gv pr py (sx t) w with
      | none =>
        refine v_top (oC_none rfl) ?_
        refine v_istore (pc' := 40) (lv' := [(4, .int (-1)), (3, .ref (pq t)), (0, .ref x), (1, .int (nI t)), (2, .int (nI w))]) F dX9_act_38 (by decide) rfl rfl ?_
        refine v_iload (pc' := 42) F dX9_act_40 0 rfl rfl ?_
        refine v_iconst (pc' := 43) (v := (-1)) F dX9_act_42 (by decide) rfl ?_
        refine v_icmp_ne (tgt := 49) (pc' := 46) F dX9_act_43 (by decide) rfl (fun c14 => ?_) (fun c14 => ?_)
        · exact absurd rfl c14
        · refine v_bipush (pc' := 48) (v := (-103)) F dX9_act_46 (by decide) rfl ?_
          refine v_perm (wz := ((x, .inr (7, [.ref pgo, .ref ppa, .ref dl, .ref se, .ref tr, .ref im, .ref la, .ref dr, .int (nI pe), .int (nI ac), .int (nI lr), .int (nI sd)])) :: (dl, .inr (0, [.ref a0, .ref a1, .ref a2, .ref a3])) :: (a0, aI G 4 co2_5) :: (a1, aI G 4 ge2_6) :: (a2, aI G 4 gi2_7) :: (a3, aI G 4 pa2_8) :: (la, .inr (2, [.ref b0, .ref b1, .ref b2, .ref b3, .int (nI lp), .int (nI ld)])) :: (b0, aI G 4 tk) :: (b1, aI G 4 gv) :: (b2, aI G 4 pr) :: (b3, aI G 4 py) :: (ppa, aP G 5 pq) :: pX G pq ks sx)) [0, 7, 8, 9, 10, 11, 1, 2, 3, 4, 5, 6, 12, 13, 14, 15, 16] (by decide) rfl ?_
          exact rt dX9_act_48 (co2_5, ge2_6, gi2_7, pa2_8, sx, ac) ⟨(by unfold A_act pB1; rw [if_pos (by assumption), if_pos (by assumption), tN_nI (t := t) (by omega), tN_nI (t := w) (by omega), hb13]), (by unfold N_act pB1; rw [if_pos (by assumption), if_pos (by assumption), tN_nI (t := t) (by omega), tN_nI (t := w) (by omega), hb13])⟩ rfl
      | some k12 =>
        refine v_top (oC_some rfl) ?_
        have hk := bh_lt (WL_WD (ks t) hl9) hw9.2 hw hb13
        have hks := eS_lt hk
        refine v_istore (pc' := 40) (lv' := [(4, .int (nI (eS k12))), (3, .ref (pq t)), (0, .ref x), (1, .int (nI t)), (2, .int (nI w))]) F dX9_act_38 (by decide) rfl rfl ?_
        refine v_iload (pc' := 42) F dX9_act_40 0 rfl rfl ?_
        refine v_iconst (pc' := 43) (v := (-1)) F dX9_act_42 (by decide) rfl ?_
        refine v_icmp_ne (tgt := 49) (pc' := 46) F dX9_act_43 (by decide) rfl (fun c15 => ?_) (fun c15 => ?_)
        · refine v_aload_n (pc' := 50) F dX9_act_49 rfl 1 rfl rfl ?_
          refine v_iload (pc' := 52) F dX9_act_50 0 rfl rfl ?_
          refine v_put (pc' := 55) (ws := ((x, .inr (7, [.ref pgo, .ref ppa, .ref dl, .ref se, .ref tr, .ref im, .ref la, .ref dr, .int (nI pe), .int (nI ac), .int (nI lr), .int (nI sd)])) :: (la, .inr (2, [.ref b0, .ref b1, .ref b2, .ref b3, .int (nI lp), .int (nI ld)])) :: (b0, aI G 4 tk) :: (b1, aI G 4 gv) :: (b2, aI G 4 pr) :: (b3, aI G 4 py) :: (ppa, aP G 5 pq) :: (dl, .inr (0, [.ref a0, .ref a1, .ref a2, .ref a3])) :: (a0, aI G 4 co2_5) :: (a1, aI G 4 ge2_6) :: (a2, aI G 4 gi2_7) :: (a3, aI G 4 pa2_8) :: pX G pq ks sx)) (ws' := ((x, .inr (7, [.ref pgo, .ref ppa, .ref dl, .ref se, .ref tr, .ref im, .ref la, .ref dr, .int (nI pe), .int (nI ac), .int (nI lr), .int (nI sd)])) :: (la, .inr (2, [.ref b0, .ref b1, .ref b2, .ref b3, .int (nI lp), .int (nI ld)])) :: (b0, aI G 4 tk) :: (b1, aI G 4 gv) :: (b2, aI G 4 pr) :: (b3, aI G 4 py) :: (ppa, aP G 5 pq) :: (dl, .inr (0, [.ref a0, .ref a1, .ref a2, .ref a3])) :: (a0, aI G 4 co2_5) :: (a1, aI G 4 ge2_6) :: (a2, aI G 4 gi2_7) :: (a3, aI G 4 pa2_8) :: pX G pq ks (va_up sx t k12))) (C := RX5) (T := TX5) (N := 2) F dX9_act_52 in_X9_act_X5 tyX5_ok nmX5 (t + 12) (pX_at (by omega)) rfl 1 (by decide) (List.mem_of_getElem? (i := 2) rfl) rfl rfl rfl (Nat.le_of_ble_eq_true rfl) (congrArg (fun zz : va_W => ((x, .inr (7, [.ref pgo, .ref ppa, .ref dl, .ref se, .ref tr, .ref im, .ref la, .ref dr, .int (nI pe), .int (nI ac), .int (nI lr), .int (nI sd)])) :: (la, .inr (2, [.ref b0, .ref b1, .ref b2, .ref b3, .int (nI lp), .int (nI ld)])) :: (b0, aI G 4 tk) :: (b1, aI G 4 gv) :: (b2, aI G 4 pr) :: (b3, aI G 4 py) :: (ppa, aP G 5 pq) :: (dl, .inr (0, [.ref a0, .ref a1, .ref a2, .ref a3])) :: (a0, aI G 4 co2_5) :: (a1, aI G 4 ge2_6) :: (a2, aI G 4 gi2_7) :: (a3, aI G 4 pa2_8) :: zz : va_W)) (pX_set1 (G := G) (pa := pq) (ks := ks) (sx := sx) (i := t) (w := k12) (by omega))) rfl ?_
          refine v_aload_n (pc' := 56) F dX9_act_55 rfl 2 rfl rfl ?_
          refine v_dup (pc' := 57) F dX9_act_56 rfl rfl ?_
          refine v_get (pc' := 60) (C := RX9) (T := TX9) (N := 12) F dX9_act_57 in_X9_act_X9 0 rfl rfl 9 (by decide) (List.mem_of_getElem? (i := 3) rfl) rfl rfl ?_
          refine v_iconst (pc' := 61) (v := nI 1) F dX9_act_60 (by decide) rfl ?_
          refine v_iadd (pc' := 62) (z := nI (ac + 1)) F dX9_act_61 (nI_add _ _) rfl ?_
          refine v_put (pc' := 65) (ws' := ((x, .inr (7, [.ref pgo, .ref ppa, .ref dl, .ref se, .ref tr, .ref im, .ref la, .ref dr, .int (nI pe), .int (nI (ac + 1)), .int (nI lr), .int (nI sd)])) :: (la, .inr (2, [.ref b0, .ref b1, .ref b2, .ref b3, .int (nI lp), .int (nI ld)])) :: (b0, aI G 4 tk) :: (b1, aI G 4 gv) :: (b2, aI G 4 pr) :: (b3, aI G 4 py) :: (ppa, aP G 5 pq) :: (dl, .inr (0, [.ref a0, .ref a1, .ref a2, .ref a3])) :: (a0, aI G 4 co2_5) :: (a1, aI G 4 ge2_6) :: (a2, aI G 4 gi2_7) :: (a3, aI G 4 pa2_8) :: pX G pq ks (va_up sx t k12))) (C := RX9) (T := TX9) (N := 12) F dX9_act_62 in_X9_act_X9 tyX9_ok nmX9 0 rfl rfl 9 (by decide) (List.mem_of_getElem? (i := 3) rfl) rfl rfl rfl (Nat.le_of_ble_eq_true rfl) rfl rfl ?_
          refine v_iload (pc' := 67) F dX9_act_65 0 rfl rfl ?_
          refine cSI0 (pc' := 70) (As := [.int (nI (eS k12))]) (rest := []) F (c_X7_coinsTogether k12 (by omega)) (va_cwS 1 F.2.2.2.2.1 gX9_act_X7_coinsTogether rfl rfl rfl (by decide +kernel) ⟨Nat.le_of_ble_eq_true rfl, Nat.le_of_ble_eq_true rfl⟩) rfl rfl (Nat.le_of_ble_eq_true rfl) dX9_act_67 ⟨Nat.zero_le _, Nat.zero_le _⟩ rfl (fun r u q16 => ?_)
          obtain rfl := q16
          refine v_perm (wz := ((x, .inr (7, [.ref pgo, .ref ppa, .ref dl, .ref se, .ref tr, .ref im, .ref la, .ref dr, .int (nI pe), .int (nI (ac + 1)), .int (nI lr), .int (nI sd)])) :: (dl, .inr (0, [.ref a0, .ref a1, .ref a2, .ref a3])) :: (a0, aI G 4 co2_5) :: (a1, aI G 4 ge2_6) :: (a2, aI G 4 gi2_7) :: (a3, aI G 4 pa2_8) :: (la, .inr (2, [.ref b0, .ref b1, .ref b2, .ref b3, .int (nI lp), .int (nI ld)])) :: (b0, aI G 4 tk) :: (b1, aI G 4 gv) :: (b2, aI G 4 pr) :: (b3, aI G 4 py) :: (ppa, aP G 5 pq) :: pX G pq ks (va_up sx t k12))) [0, 7, 8, 9, 10, 11, 1, 2, 3, 4, 5, 6, 12, 13, 14, 15, 16] (by decide) rfl ?_
          exact rt dX9_act_70 (co2_5, ge2_6, gi2_7, pa2_8, va_up sx t k12, ac + 1) ⟨(by unfold A_act pB1; rw [if_pos (by assumption), if_pos (by assumption), tN_nI (t := t) (by omega), tN_nI (t := w) (by omega), hb13]), (by unfold N_act pB1; rw [if_pos (by assumption), if_pos (by assumption), tN_nI (t := t) (by omega), tN_nI (t := w) (by omega), hb13])⟩ rfl
        · exact absurd c15 (ni_m1 (by omega))
    · refine v_bipush (pc' := 17) (v := (-101)) F dX9_act_15 (by decide) rfl ?_
      refine v_perm (wz := ((x, .inr (7, [.ref pgo, .ref ppa, .ref dl, .ref se, .ref tr, .ref im, .ref la, .ref dr, .int (nI pe), .int (nI ac), .int (nI lr), .int (nI sd)])) :: (dl, .inr (0, [.ref a0, .ref a1, .ref a2, .ref a3])) :: (a0, aI G 4 co) :: (a1, aI G 4 ge) :: (a2, aI G 4 gi) :: (a3, aI G 4 pa) :: (la, .inr (2, [.ref b0, .ref b1, .ref b2, .ref b3, .int (nI lp), .int (nI ld)])) :: (b0, aI G 4 tk) :: (b1, aI G 4 gv) :: (b2, aI G 4 pr) :: (b3, aI G 4 py) :: (ppa, aP G 5 pq) :: pX G pq ks sx)) [11, 0, 1, 2, 3, 4, 5, 6, 7, 8, 9, 10, 12, 13, 14, 15, 16] (by decide) rfl ?_
      exact rt dX9_act_17 (co, ge, gi, pa, sx, ac) ⟨(by unfold A_act; first | rw [if_neg (by assumption)] | rw [if_pos (by assumption), if_neg (by assumption)]), (by unfold N_act; first | rw [if_neg (by assumption)] | rw [if_pos (by assumption), if_neg (by assumption)])⟩ rfl
