def rm_X10_fewest : Room := { frames := 5, cells := 0, slots := 0, locals := 120 }
theorem in_X10_fewest_X10 : ∀ w ∈ u_ws RX10 TX10 38, w ∈ wsX10_fewest := fun w h => List.mem_cons_of_mem _ (List.mem_append_right _ (h))
set_option maxHeartbeats 4000000 in
set_option maxRecDepth 100000 in
theorem c_X10_fewest {l : Launch} {D : va_G} {G : gT} (o : Nat) (ma : Nat → Nat) (fi : Nat → Int32) (fl : Nat → Int64) (tk gv pr py ks sx fo qu : Nat → Nat) (pe sd qe : Nat) (x y z : Int32) (hpe : fi 6 = nI pe) (h5 : pe ≤ 5) (hsd : fi 10 = nI sd) (h40 : sd ≤ 40) (hqe : fi 26 = nI qe) (hcq : CQ fo qu qe) (hwp : WPe ks sx) (hl : 0 < pe → WL tk gv pr py) : CtI (σ := Nat × Int32 × Nat × (Nat → Nat) × (Nat → Nat)) l yX10_fewest wsX10_fewest rm_X10_fewest D G [.ref o, .int x, .int y, .int z] [(o, mO ma fi fl), (ma 2, aI G 4 tk), (ma 3, aI G 4 gv), (ma 4, aI G 4 pr), (ma 5, aI G 4 py), (ma 7, aI G 5 ks), (ma 8, aI G 5 sx), (ma 24, aB G 40000 fo), (ma 25, aI G 40000 qu)] (fun r u => r = A_fewest pe sd tk gv pr py ks sx x y z ∧ (u.1) = N_fewest pe sd x y z ∧ CQ (u.2.2.2.1) (u.2.2.2.2) (u.2.2.1)) (fun u => [(o, mO ma (va_up (va_up (va_up fi 10 (nI (u.1))) 27 (u.2.1)) 26 (nI (u.2.2.1))) fl), (ma 2, aI G 4 tk), (ma 3, aI G 4 gv), (ma 4, aI G 4 pr), (ma 5, aI G 4 py), (ma 7, aI G 5 ks), (ma 8, aI G 5 sx), (ma 24, aB G 40000 (u.2.2.2.1)), (ma 25, aI G 40000 (u.2.2.2.2))]) := by
  refine openI (maxL := 5) (by decide) rfl (Nat.le_of_ble_eq_true rfl) ?_
  intro pgZ evZ sgZ mmZ agsZ blZ meZ cdZ AZ QZ F hmn rt
  refine v_lv (lz := [(0, .ref o), (1, .int x), (2, .int y), (3, .int z)]) rfl ?_
  refine v_aload_n (pc' := 1) F dX10_fewest_0 rfl 0 rfl rfl ?_
  refine v_iload_n (pc' := 2) F dX10_fewest_1 rfl 1 rfl rfl ?_
  refine cVI (pc' := 5) (As := [.int x]) (rest := []) (wr := [(ma 2, aI G 4 tk), (ma 3, aI G 4 gv), (ma 4, aI G 4 pr), (ma 5, aI G 4 py), (ma 7, aI G 5 ks), (ma 8, aI G 5 sx), (ma 24, aB G 40000 fo), (ma 25, aI G 40000 qu)]) F (c_X10_isPerson o ma fi fl pe x hpe h5) (cwV 1 F.2.2.2.2.1 gX10_fewest_X10_isPerson rfl rfl rfl (by decide +kernel) ⟨Nat.le_of_ble_eq_true rfl, Nat.le_of_ble_eq_true rfl⟩) (v_rcvW F 8 0 rfl rfl) rfl rfl (Nat.le_of_ble_eq_true rfl) dX10_fewest_2 [0] [1, 2, 3, 4, 5, 6, 7, 8] (by decide) rfl rfl (by decide) (by decide) ⟨Nat.zero_le _, Nat.zero_le _⟩ rfl (fun r u q1 => ?_)
  obtain rfl := q1
  refine v_ws (wz := [(ma 2, aI G 4 tk), (ma 3, aI G 4 gv), (ma 4, aI G 4 pr), (ma 5, aI G 4 py), (ma 7, aI G 5 ks), (ma 8, aI G 5 sx), (ma 24, aB G 40000 fo), (ma 25, aI G 40000 qu), (o, mO ma fi fl)]) rfl ?_
  refine v_bif_eq (tgt := 15) (pc' := 8) F dX10_fewest_5 (by decide) rfl (fun c2 => ?_) (fun c2 => ?_)
  · refine v_bipush (pc' := 17) (v := (-101)) F dX10_fewest_15 (by decide) rfl ?_
    refine v_ws (wz := [(ma 2, aI G 4 tk), (ma 3, aI G 4 gv), (ma 4, aI G 4 pr), (ma 5, aI G 4 py), (ma 7, aI G 5 ks), (ma 8, aI G 5 sx), (ma 24, aB G 40000 fo), (ma 25, aI G 40000 qu), (o, mO ma (va_up (va_up (va_up fi 10 (nI sd)) 27 (fi 27)) 26 (nI qe)) fl)]) (by rw [up_same (f := fi) (k := 10) hsd, up_same (f := fi) (k := 27) rfl, up_same (f := fi) (k := 26) hqe]) ?_
    refine v_perm (wz := [(o, mO ma (va_up (va_up (va_up fi 10 (nI sd)) 27 (fi 27)) 26 (nI qe)) fl), (ma 2, aI G 4 tk), (ma 3, aI G 4 gv), (ma 4, aI G 4 pr), (ma 5, aI G 4 py), (ma 7, aI G 5 ks), (ma 8, aI G 5 sx), (ma 24, aB G 40000 fo), (ma 25, aI G 40000 qu)]) [8, 0, 1, 2, 3, 4, 5, 6, 7] (by decide) rfl ?_
    exact rt dX10_fewest_17 (sd, fi 27, qe, fo, qu) ⟨(by unfold A_fewest; first | rw [if_neg (by assumption)] | rw [if_pos (by assumption), if_neg (by assumption)]), (by unfold N_fewest; first | rw [if_neg (by assumption)] | rw [if_pos (by assumption), if_neg (by assumption)]), hcq⟩ rfl
  · obtain ⟨t, ht, rfl⟩ := isP_of (by omega) c2
    have hw9 := hwp t (by omega)
    have hl9 := hl (by omega)
    refine v_iload_n (pc' := 9) F dX10_fewest_8 rfl 2 rfl rfl ?_
    refine cSI0 (pc' := 12) (As := [.int y]) (rest := []) F (c_X10_isTown y) (va_cwS 1 F.2.2.2.2.1 gX10_fewest_X10_isTown rfl rfl rfl (by decide +kernel) ⟨Nat.le_of_ble_eq_true rfl, Nat.le_of_ble_eq_true rfl⟩) rfl rfl (Nat.le_of_ble_eq_true rfl) dX10_fewest_9 ⟨Nat.zero_le _, Nat.zero_le _⟩ rfl (fun r u q3 => ?_)
    obtain rfl := q3
    refine v_bif_ne (tgt := 18) (pc' := 15) F dX10_fewest_12 (by decide) rfl (fun c4 => ?_) (fun c4 => ?_)
    · obtain ⟨w, hw, rfl⟩ := inR_of (by decide) c4
      refine v_iload_n (pc' := 19) F dX10_fewest_18 rfl 3 rfl rfl ?_
      refine v_iconst (pc' := 20) (v := nI 0) F dX10_fewest_19 (by decide) rfl ?_
      refine v_iconst (pc' := 21) (v := nI 1) F dX10_fewest_20 (by decide) rfl ?_
      refine cSI0 (pc' := 24) (As := [.int z, .int (nI 0), .int (nI 1)]) (rest := []) F (c_X10_within z (nI 0) (nI 1)) (va_cwS 3 F.2.2.2.2.1 gX10_fewest_X10_within rfl rfl rfl (by decide +kernel) ⟨Nat.le_of_ble_eq_true rfl, Nat.le_of_ble_eq_true rfl⟩) rfl rfl (Nat.le_of_ble_eq_true rfl) dX10_fewest_21 ⟨Nat.zero_le _, Nat.zero_le _⟩ rfl (fun r u q5 => ?_)
      obtain rfl := q5
      refine v_bif_ne (tgt := 30) (pc' := 27) F dX10_fewest_24 (by decide) rfl (fun c6 => ?_) (fun c6 => ?_)
      · obtain ⟨q, hq, rfl⟩ := inR_of (by decide) c6
        refine v_aload_n (pc' := 31) F dX10_fewest_30 rfl 0 rfl rfl ?_
        refine v_get (pc' := 34) (v := .int (nI sd)) (C := RX10) (T := TX10) (N := 38) F dX10_fewest_31 in_X10_fewest_X10 8 rfl rfl 10 (by decide) (List.mem_of_getElem? (i := 1) rfl) (congrArg (fun z => some (Value.int z)) hsd) rfl ?_
        refine v_bipush (pc' := 36) (v := nI 40) F dX10_fewest_34 (by decide) rfl ?_
        refine v_ncmp_ne (tgt := 42) (pc' := 39) F dX10_fewest_36 (by omega) (by omega) (by decide) rfl (fun c7 => ?_) (fun c7 => ?_)
        · refine v_aload_n (pc' := 43) F dX10_fewest_42 rfl 0 rfl rfl ?_
          refine v_dup (pc' := 44) F dX10_fewest_43 rfl rfl ?_
          refine v_get (pc' := 47) (v := .int (nI sd)) (C := RX10) (T := TX10) (N := 38) F dX10_fewest_44 in_X10_fewest_X10 8 rfl rfl 10 (by decide) (List.mem_of_getElem? (i := 1) rfl) (congrArg (fun z => some (Value.int z)) hsd) rfl ?_
          refine v_iconst (pc' := 48) (v := nI 1) F dX10_fewest_47 (by decide) rfl ?_
          refine v_iadd (pc' := 49) (z := nI (sd + 1)) F dX10_fewest_48 (nI_add _ _) rfl ?_
          refine v_put (pc' := 52) (ws' := [(ma 2, aI G 4 tk), (ma 3, aI G 4 gv), (ma 4, aI G 4 pr), (ma 5, aI G 4 py), (ma 7, aI G 5 ks), (ma 8, aI G 5 sx), (ma 24, aB G 40000 fo), (ma 25, aI G 40000 qu), (o, mO ma (va_up fi 10 (nI (sd + 1))) fl)]) (C := RX10) (T := TX10) (N := 38) F dX10_fewest_49 in_X10_fewest_X10 tyX10_ok nmX10 8 rfl rfl 10 (by decide) (List.mem_of_getElem? (i := 1) rfl) rfl rfl rfl (Nat.le_of_ble_eq_true rfl) rfl rfl ?_
          refine v_aload_n (pc' := 53) F dX10_fewest_52 rfl 0 rfl rfl ?_
          refine v_iload_n (pc' := 54) F dX10_fewest_53 rfl 1 rfl rfl ?_
          refine v_iload_n (pc' := 55) F dX10_fewest_54 rfl 2 rfl rfl ?_
          refine cVI (pc' := 58) (As := [.int (nI t), .int (nI w)]) (rest := []) (wr := []) F (c_X10_fewestOf o ma (va_up fi 10 (nI (sd + 1))) fl tk gv pr py ks sx fo qu qe t hqe hcq (by omega) hwp hl9 w (by omega)) (cwV 2 F.2.2.2.2.1 gX10_fewest_X10_fewestOf rfl rfl rfl (by decide +kernel) ⟨Nat.le_of_ble_eq_true rfl, Nat.le_of_ble_eq_true rfl⟩) (v_rcvW F 8 8 rfl rfl) rfl rfl (Nat.le_of_ble_eq_true rfl) dX10_fewest_55 [8, 0, 1, 2, 3, 4, 5, 6, 7] [] (by decide) rfl rfl (by decide) (by decide) ⟨Nat.zero_le _, Nat.zero_le _⟩ rfl (fun r u q14 => ?_)
          obtain ⟨f27_8, qe2_9, fo2_10, qu2_11⟩ := u
          obtain ⟨rfl, hF_12, hC_13⟩ := q14
          refine v_ws (wz := [(o, mO ma (va_up (va_up (va_up fi 10 (nI (sd + 1))) 27 f27_8) 26 (nI qe2_9)) fl), (ma 2, aI G 4 tk), (ma 3, aI G 4 gv), (ma 4, aI G 4 pr), (ma 5, aI G 4 py), (ma 7, aI G 5 ks), (ma 8, aI G 5 sx), (ma 24, aB G 40000 fo2_10), (ma 25, aI G 40000 qu2_11)]) rfl ?_
          refine v_ws (wz := [(o, mO ma (va_up (va_up (va_up fi 10 (nI (sd + 1))) 27 f27_8) 26 (nI qe2_9)) fl), (ma 2, aI G 4 tk), (ma 3, aI G 4 gv), (ma 4, aI G 4 pr), (ma 5, aI G 4 py), (ma 7, aI G 5 ks), (ma 8, aI G 5 sx), (ma 24, aB G 40000 fo2_10), (ma 25, aI G 40000 qu2_11)]) (by rfl) ?_
          refine v_istore (pc' := 60) (lv' := [(4, .int (oM (fnM (ks t) tk gv pr py w (sx t)))), (0, .ref o), (1, .int (nI t)), (2, .int (nI w)), (3, .int (nI q))]) F dX10_fewest_58 (by decide) rfl rfl ?_
          refine v_iload_n (pc' := 61) F dX10_fewest_60 rfl 4 rfl rfl ?_
          refine v_nif_ne (tgt := 69) (pc' := 64) F dX10_fewest_61 (by omega) (by decide) rfl (fun c15 => ?_) (fun c15 => ?_)
          · refine v_aload_n (pc' := 70) F dX10_fewest_69 rfl 1 rfl rfl ?_
            refine v_get (pc' := 73) (v := .int f27_8) (C := RX10) (T := TX10) (N := 38) F dX10_fewest_70 in_X10_fewest_X10 0 rfl rfl 27 (by decide) (List.mem_of_getElem? (i := 2) rfl) rfl rfl ?_
            exact rt dX10_fewest_73 (sd + 1, f27_8, qe2_9, fo2_10, qu2_11) ⟨(by unfold A_fewest; rw [if_pos (show isP pe (nI t) by assumption), if_pos (show inR (nI 0) (nI w) (nI 3) by assumption), if_pos (show inR (nI 0) (nI q) (nI 1) by assumption), if_neg (show ¬ sd = 40 by omega), tN_nI (t := t) (by omega), tN_nI (t := w) (by omega), tN_nI (t := q) (by omega)]; exact hF_12.trans (fa_1 (by omega))), (by unfold N_fewest; rw [if_pos (show isP pe (nI t) by assumption), if_pos (show inR (nI 0) (nI w) (nI 3) by assumption), if_pos (show inR (nI 0) (nI q) (nI 1) by assumption), if_neg (show ¬ sd = 40 by omega)]), hC_13⟩ rfl
          · refine v_iload (pc' := 66) F dX10_fewest_64 0 rfl rfl ?_
            refine v_goto (tgt := 73) F dX10_fewest_66 (by decide) ?_
            exact rt dX10_fewest_73 (sd + 1, f27_8, qe2_9, fo2_10, qu2_11) ⟨(by unfold A_fewest; rw [if_pos (show isP pe (nI t) by assumption), if_pos (show inR (nI 0) (nI w) (nI 3) by assumption), if_pos (show inR (nI 0) (nI q) (nI 1) by assumption), if_neg (show ¬ sd = 40 by omega), tN_nI (t := t) (by omega), tN_nI (t := w) (by omega), tN_nI (t := q) (by omega)]; exact fa_0 (by omega)), (by unfold N_fewest; rw [if_pos (show isP pe (nI t) by assumption), if_pos (show inR (nI 0) (nI w) (nI 3) by assumption), if_pos (show inR (nI 0) (nI q) (nI 1) by assumption), if_neg (show ¬ sd = 40 by omega)]), hC_13⟩ rfl
        · refine v_bipush (pc' := 41) (v := (-103)) F dX10_fewest_39 (by decide) rfl ?_
          refine v_ws (wz := [(ma 2, aI G 4 tk), (ma 3, aI G 4 gv), (ma 4, aI G 4 pr), (ma 5, aI G 4 py), (ma 7, aI G 5 ks), (ma 8, aI G 5 sx), (ma 24, aB G 40000 fo), (ma 25, aI G 40000 qu), (o, mO ma (va_up (va_up (va_up fi 10 (nI sd)) 27 (fi 27)) 26 (nI qe)) fl)]) (by rw [up_same (f := fi) (k := 10) hsd, up_same (f := fi) (k := 27) rfl, up_same (f := fi) (k := 26) hqe]) ?_
          refine v_perm (wz := [(o, mO ma (va_up (va_up (va_up fi 10 (nI sd)) 27 (fi 27)) 26 (nI qe)) fl), (ma 2, aI G 4 tk), (ma 3, aI G 4 gv), (ma 4, aI G 4 pr), (ma 5, aI G 4 py), (ma 7, aI G 5 ks), (ma 8, aI G 5 sx), (ma 24, aB G 40000 fo), (ma 25, aI G 40000 qu)]) [8, 0, 1, 2, 3, 4, 5, 6, 7] (by decide) rfl ?_
          exact rt dX10_fewest_41 (sd, fi 27, qe, fo, qu) ⟨(by unfold A_fewest; rw [if_pos (show isP pe (nI t) by assumption), if_pos (show inR (nI 0) (nI w) (nI 3) by assumption), if_pos (by assumption), if_pos (show sd = 40 by omega)]), (by unfold N_fewest; rw [if_pos (show isP pe (nI t) by assumption), if_pos (show inR (nI 0) (nI w) (nI 3) by assumption), if_pos (by assumption), if_pos (show sd = 40 by omega)]), hcq⟩ rfl
      · refine v_bipush (pc' := 29) (v := (-102)) F dX10_fewest_27 (by decide) rfl ?_
        refine v_ws (wz := [(ma 2, aI G 4 tk), (ma 3, aI G 4 gv), (ma 4, aI G 4 pr), (ma 5, aI G 4 py), (ma 7, aI G 5 ks), (ma 8, aI G 5 sx), (ma 24, aB G 40000 fo), (ma 25, aI G 40000 qu), (o, mO ma (va_up (va_up (va_up fi 10 (nI sd)) 27 (fi 27)) 26 (nI qe)) fl)]) (by rw [up_same (f := fi) (k := 10) hsd, up_same (f := fi) (k := 27) rfl, up_same (f := fi) (k := 26) hqe]) ?_
        refine v_perm (wz := [(o, mO ma (va_up (va_up (va_up fi 10 (nI sd)) 27 (fi 27)) 26 (nI qe)) fl), (ma 2, aI G 4 tk), (ma 3, aI G 4 gv), (ma 4, aI G 4 pr), (ma 5, aI G 4 py), (ma 7, aI G 5 ks), (ma 8, aI G 5 sx), (ma 24, aB G 40000 fo), (ma 25, aI G 40000 qu)]) [8, 0, 1, 2, 3, 4, 5, 6, 7] (by decide) rfl ?_
        exact rt dX10_fewest_29 (sd, fi 27, qe, fo, qu) ⟨(by unfold A_fewest; rw [if_pos (show isP pe (nI t) by assumption), if_pos (show inR (nI 0) (nI w) (nI 3) by assumption), if_neg (by assumption)]), (by unfold N_fewest; rw [if_pos (show isP pe (nI t) by assumption), if_pos (show inR (nI 0) (nI w) (nI 3) by assumption), if_neg (by assumption)]), hcq⟩ rfl
    · refine v_bipush (pc' := 17) (v := (-101)) F dX10_fewest_15 (by decide) rfl ?_
      refine v_ws (wz := [(ma 2, aI G 4 tk), (ma 3, aI G 4 gv), (ma 4, aI G 4 pr), (ma 5, aI G 4 py), (ma 7, aI G 5 ks), (ma 8, aI G 5 sx), (ma 24, aB G 40000 fo), (ma 25, aI G 40000 qu), (o, mO ma (va_up (va_up (va_up fi 10 (nI sd)) 27 (fi 27)) 26 (nI qe)) fl)]) (by rw [up_same (f := fi) (k := 10) hsd, up_same (f := fi) (k := 27) rfl, up_same (f := fi) (k := 26) hqe]) ?_
      refine v_perm (wz := [(o, mO ma (va_up (va_up (va_up fi 10 (nI sd)) 27 (fi 27)) 26 (nI qe)) fl), (ma 2, aI G 4 tk), (ma 3, aI G 4 gv), (ma 4, aI G 4 pr), (ma 5, aI G 4 py), (ma 7, aI G 5 ks), (ma 8, aI G 5 sx), (ma 24, aB G 40000 fo), (ma 25, aI G 40000 qu)]) [8, 0, 1, 2, 3, 4, 5, 6, 7] (by decide) rfl ?_
      exact rt dX10_fewest_17 (sd, fi 27, qe, fo, qu) ⟨(by unfold A_fewest; first | rw [if_neg (by assumption)] | rw [if_pos (by assumption), if_neg (by assumption)]), (by unfold N_fewest; first | rw [if_neg (by assumption)] | rw [if_pos (by assumption), if_neg (by assumption)]), hcq⟩ rfl
def rm_X10_richest : Room := { frames := 5, cells := 0, slots := 0, locals := 119 }
theorem in_X10_richest_X10 : ∀ w ∈ u_ws RX10 TX10 38, w ∈ wsX10_richest := fun w h => List.mem_cons_of_mem _ (List.mem_append_right _ (h))
set_option maxHeartbeats 4000000 in
set_option maxRecDepth 100000 in
theorem c_X10_richest {l : Launch} {D : va_G} {G : gT} (o : Nat) (ma : Nat → Nat) (fi : Nat → Int32) (fl : Nat → Int64) (tk gv pr py ks sx fo qu : Nat → Nat) (pe sd qe : Nat) (x y : Int32) (hpe : fi 6 = nI pe) (h5 : pe ≤ 5) (hsd : fi 10 = nI sd) (h40 : sd ≤ 40) (hqe : fi 26 = nI qe) (hcq : CQ fo qu qe) (hwp : WPe ks sx) (hl : 0 < pe → WL tk gv pr py) : CtI (σ := Nat × Nat × (Nat → Nat) × (Nat → Nat)) l yX10_richest wsX10_richest rm_X10_richest D G [.ref o, .int x, .int y] [(o, mO ma fi fl), (ma 2, aI G 4 tk), (ma 3, aI G 4 gv), (ma 4, aI G 4 pr), (ma 5, aI G 4 py), (ma 7, aI G 5 ks), (ma 8, aI G 5 sx), (ma 24, aB G 40000 fo), (ma 25, aI G 40000 qu)] (fun r u => r = A_richest pe sd tk gv pr py ks sx x y ∧ (u.1) = N_richest pe sd x y ∧ CQ (u.2.2.1) (u.2.2.2) (u.2.1)) (fun u => [(o, mO ma (va_up (va_up fi 10 (nI (u.1))) 26 (nI (u.2.1))) fl), (ma 2, aI G 4 tk), (ma 3, aI G 4 gv), (ma 4, aI G 4 pr), (ma 5, aI G 4 py), (ma 7, aI G 5 ks), (ma 8, aI G 5 sx), (ma 24, aB G 40000 (u.2.2.1)), (ma 25, aI G 40000 (u.2.2.2))]) := by
  refine openI (maxL := 3) (by decide) rfl (Nat.le_of_ble_eq_true rfl) ?_
  intro pgZ evZ sgZ mmZ agsZ blZ meZ cdZ AZ QZ F hmn rt
  refine v_lv (lz := [(0, .ref o), (1, .int x), (2, .int y)]) rfl ?_
  refine v_aload_n (pc' := 1) F dX10_richest_0 rfl 0 rfl rfl ?_
  refine v_iload_n (pc' := 2) F dX10_richest_1 rfl 1 rfl rfl ?_
  refine cVI (pc' := 5) (As := [.int x]) (rest := []) (wr := [(ma 2, aI G 4 tk), (ma 3, aI G 4 gv), (ma 4, aI G 4 pr), (ma 5, aI G 4 py), (ma 7, aI G 5 ks), (ma 8, aI G 5 sx), (ma 24, aB G 40000 fo), (ma 25, aI G 40000 qu)]) F (c_X10_isPerson o ma fi fl pe x hpe h5) (cwV 1 F.2.2.2.2.1 gX10_richest_X10_isPerson rfl rfl rfl (by decide +kernel) ⟨Nat.le_of_ble_eq_true rfl, Nat.le_of_ble_eq_true rfl⟩) (v_rcvW F 8 0 rfl rfl) rfl rfl (Nat.le_of_ble_eq_true rfl) dX10_richest_2 [0] [1, 2, 3, 4, 5, 6, 7, 8] (by decide) rfl rfl (by decide) (by decide) ⟨Nat.zero_le _, Nat.zero_le _⟩ rfl (fun r u q1 => ?_)
  obtain rfl := q1
  refine v_ws (wz := [(ma 2, aI G 4 tk), (ma 3, aI G 4 gv), (ma 4, aI G 4 pr), (ma 5, aI G 4 py), (ma 7, aI G 5 ks), (ma 8, aI G 5 sx), (ma 24, aB G 40000 fo), (ma 25, aI G 40000 qu), (o, mO ma fi fl)]) rfl ?_
  refine v_bif_ne (tgt := 11) (pc' := 8) F dX10_richest_5 (by decide) rfl (fun c2 => ?_) (fun c2 => ?_)
  · obtain ⟨t, ht, rfl⟩ := isP_of (by omega) c2
    have hw9 := hwp t (by omega)
    have hl9 := hl (by omega)
    refine v_iload_n (pc' := 12) F dX10_richest_11 rfl 2 rfl rfl ?_
    refine v_iconst (pc' := 13) (v := nI 0) F dX10_richest_12 (by decide) rfl ?_
    refine v_bipush (pc' := 15) (v := nI 8) F dX10_richest_13 (by decide) rfl ?_
    refine cSI0 (pc' := 18) (As := [.int y, .int (nI 0), .int (nI 8)]) (rest := []) F (c_X10_within y (nI 0) (nI 8)) (va_cwS 3 F.2.2.2.2.1 gX10_richest_X10_within rfl rfl rfl (by decide +kernel) ⟨Nat.le_of_ble_eq_true rfl, Nat.le_of_ble_eq_true rfl⟩) rfl rfl (Nat.le_of_ble_eq_true rfl) dX10_richest_15 ⟨Nat.zero_le _, Nat.zero_le _⟩ rfl (fun r u q3 => ?_)
    obtain rfl := q3
    refine v_bif_ne (tgt := 24) (pc' := 21) F dX10_richest_18 (by decide) rfl (fun c4 => ?_) (fun c4 => ?_)
    · obtain ⟨q, hq, rfl⟩ := inR_of (by decide) c4
      refine v_aload_n (pc' := 25) F dX10_richest_24 rfl 0 rfl rfl ?_
      refine v_get (pc' := 28) (v := .int (nI sd)) (C := RX10) (T := TX10) (N := 38) F dX10_richest_25 in_X10_richest_X10 8 rfl rfl 10 (by decide) (List.mem_of_getElem? (i := 1) rfl) (congrArg (fun z => some (Value.int z)) hsd) rfl ?_
      refine v_bipush (pc' := 30) (v := nI 40) F dX10_richest_28 (by decide) rfl ?_
      refine v_ncmp_ne (tgt := 36) (pc' := 33) F dX10_richest_30 (by omega) (by omega) (by decide) rfl (fun c5 => ?_) (fun c5 => ?_)
      · refine v_aload_n (pc' := 37) F dX10_richest_36 rfl 0 rfl rfl ?_
        refine v_dup (pc' := 38) F dX10_richest_37 rfl rfl ?_
        refine v_get (pc' := 41) (v := .int (nI sd)) (C := RX10) (T := TX10) (N := 38) F dX10_richest_38 in_X10_richest_X10 8 rfl rfl 10 (by decide) (List.mem_of_getElem? (i := 1) rfl) (congrArg (fun z => some (Value.int z)) hsd) rfl ?_
        refine v_iconst (pc' := 42) (v := nI 1) F dX10_richest_41 (by decide) rfl ?_
        refine v_iadd (pc' := 43) (z := nI (sd + 1)) F dX10_richest_42 (nI_add _ _) rfl ?_
        refine v_put (pc' := 46) (ws' := [(ma 2, aI G 4 tk), (ma 3, aI G 4 gv), (ma 4, aI G 4 pr), (ma 5, aI G 4 py), (ma 7, aI G 5 ks), (ma 8, aI G 5 sx), (ma 24, aB G 40000 fo), (ma 25, aI G 40000 qu), (o, mO ma (va_up fi 10 (nI (sd + 1))) fl)]) (C := RX10) (T := TX10) (N := 38) F dX10_richest_43 in_X10_richest_X10 tyX10_ok nmX10 8 rfl rfl 10 (by decide) (List.mem_of_getElem? (i := 1) rfl) rfl rfl rfl (Nat.le_of_ble_eq_true rfl) rfl rfl ?_
        refine v_aload_n (pc' := 47) F dX10_richest_46 rfl 0 rfl rfl ?_
        refine v_iload_n (pc' := 48) F dX10_richest_47 rfl 1 rfl rfl ?_
        refine v_iload_n (pc' := 49) F dX10_richest_48 rfl 2 rfl rfl ?_
        refine cVI (pc' := 52) (As := [.int (nI t), .int (nI q)]) (rest := []) (wr := []) F (c_X10_richestOf o ma (va_up fi 10 (nI (sd + 1))) fl tk gv pr py ks sx fo qu qe t hqe hcq (by omega) hwp hl9 q (by omega)) (cwV 2 F.2.2.2.2.1 gX10_richest_X10_richestOf rfl rfl rfl (by decide +kernel) ⟨Nat.le_of_ble_eq_true rfl, Nat.le_of_ble_eq_true rfl⟩) (v_rcvW F 8 8 rfl rfl) rfl rfl (Nat.le_of_ble_eq_true rfl) dX10_richest_49 [8, 0, 1, 2, 3, 4, 5, 6, 7] [] (by decide) rfl rfl (by decide) (by decide) ⟨Nat.zero_le _, Nat.zero_le _⟩ rfl (fun r u q10 => ?_)
        obtain ⟨qe2_6, fo2_7, qu2_8⟩ := u
        obtain ⟨rfl, hC_9⟩ := q10
        refine v_ws (wz := [(o, mO ma (va_up (va_up fi 10 (nI (sd + 1))) 26 (nI qe2_6)) fl), (ma 2, aI G 4 tk), (ma 3, aI G 4 gv), (ma 4, aI G 4 pr), (ma 5, aI G 4 py), (ma 7, aI G 5 ks), (ma 8, aI G 5 sx), (ma 24, aB G 40000 fo2_7), (ma 25, aI G 40000 qu2_8)]) rfl ?_
        refine v_ws (wz := [(o, mO ma (va_up (va_up fi 10 (nI (sd + 1))) 26 (nI qe2_6)) fl), (ma 2, aI G 4 tk), (ma 3, aI G 4 gv), (ma 4, aI G 4 pr), (ma 5, aI G 4 py), (ma 7, aI G 5 ks), (ma 8, aI G 5 sx), (ma 24, aB G 40000 fo2_7), (ma 25, aI G 40000 qu2_8)]) (by rfl) ?_
        exact rt dX10_richest_52 (sd + 1, qe2_6, fo2_7, qu2_8) ⟨(by unfold A_richest; rw [if_pos (show isP pe (nI t) by assumption), if_pos (show inR (nI 0) (nI q) (nI 8) by assumption), if_neg (show ¬ sd = 40 by omega), tN_nI (t := t) (by omega), tN_nI (t := q) (by omega)]), (by unfold N_richest; rw [if_pos (show isP pe (nI t) by assumption), if_pos (show inR (nI 0) (nI q) (nI 8) by assumption), if_neg (show ¬ sd = 40 by omega)]), hC_9⟩ rfl
      · refine v_bipush (pc' := 35) (v := (-103)) F dX10_richest_33 (by decide) rfl ?_
        refine v_ws (wz := [(ma 2, aI G 4 tk), (ma 3, aI G 4 gv), (ma 4, aI G 4 pr), (ma 5, aI G 4 py), (ma 7, aI G 5 ks), (ma 8, aI G 5 sx), (ma 24, aB G 40000 fo), (ma 25, aI G 40000 qu), (o, mO ma (va_up (va_up fi 10 (nI sd)) 26 (nI qe)) fl)]) (by rw [up_same (f := fi) (k := 10) hsd, up_same (f := fi) (k := 26) hqe]) ?_
        refine v_perm (wz := [(o, mO ma (va_up (va_up fi 10 (nI sd)) 26 (nI qe)) fl), (ma 2, aI G 4 tk), (ma 3, aI G 4 gv), (ma 4, aI G 4 pr), (ma 5, aI G 4 py), (ma 7, aI G 5 ks), (ma 8, aI G 5 sx), (ma 24, aB G 40000 fo), (ma 25, aI G 40000 qu)]) [8, 0, 1, 2, 3, 4, 5, 6, 7] (by decide) rfl ?_
        exact rt dX10_richest_35 (sd, qe, fo, qu) ⟨(by unfold A_richest; rw [if_pos (show isP pe (nI t) by assumption), if_pos (by assumption), if_pos (show sd = 40 by omega)]), (by unfold N_richest; rw [if_pos (show isP pe (nI t) by assumption), if_pos (by assumption), if_pos (show sd = 40 by omega)]), hcq⟩ rfl
    · refine v_bipush (pc' := 23) (v := (-102)) F dX10_richest_21 (by decide) rfl ?_
      refine v_ws (wz := [(ma 2, aI G 4 tk), (ma 3, aI G 4 gv), (ma 4, aI G 4 pr), (ma 5, aI G 4 py), (ma 7, aI G 5 ks), (ma 8, aI G 5 sx), (ma 24, aB G 40000 fo), (ma 25, aI G 40000 qu), (o, mO ma (va_up (va_up fi 10 (nI sd)) 26 (nI qe)) fl)]) (by rw [up_same (f := fi) (k := 10) hsd, up_same (f := fi) (k := 26) hqe]) ?_
      refine v_perm (wz := [(o, mO ma (va_up (va_up fi 10 (nI sd)) 26 (nI qe)) fl), (ma 2, aI G 4 tk), (ma 3, aI G 4 gv), (ma 4, aI G 4 pr), (ma 5, aI G 4 py), (ma 7, aI G 5 ks), (ma 8, aI G 5 sx), (ma 24, aB G 40000 fo), (ma 25, aI G 40000 qu)]) [8, 0, 1, 2, 3, 4, 5, 6, 7] (by decide) rfl ?_
      exact rt dX10_richest_23 (sd, qe, fo, qu) ⟨(by unfold A_richest; rw [if_pos (show isP pe (nI t) by assumption), if_neg (by assumption)]), (by unfold N_richest; rw [if_pos (show isP pe (nI t) by assumption), if_neg (by assumption)]), hcq⟩ rfl
  · refine v_bipush (pc' := 10) (v := (-101)) F dX10_richest_8 (by decide) rfl ?_
    refine v_ws (wz := [(ma 2, aI G 4 tk), (ma 3, aI G 4 gv), (ma 4, aI G 4 pr), (ma 5, aI G 4 py), (ma 7, aI G 5 ks), (ma 8, aI G 5 sx), (ma 24, aB G 40000 fo), (ma 25, aI G 40000 qu), (o, mO ma (va_up (va_up fi 10 (nI sd)) 26 (nI qe)) fl)]) (by rw [up_same (f := fi) (k := 10) hsd, up_same (f := fi) (k := 26) hqe]) ?_
    refine v_perm (wz := [(o, mO ma (va_up (va_up fi 10 (nI sd)) 26 (nI qe)) fl), (ma 2, aI G 4 tk), (ma 3, aI G 4 gv), (ma 4, aI G 4 pr), (ma 5, aI G 4 py), (ma 7, aI G 5 ks), (ma 8, aI G 5 sx), (ma 24, aB G 40000 fo), (ma 25, aI G 40000 qu)]) [8, 0, 1, 2, 3, 4, 5, 6, 7] (by decide) rfl ?_
    exact rt dX10_richest_10 (sd, qe, fo, qu) ⟨(by unfold A_richest; first | rw [if_neg (by assumption)] | rw [if_pos (by assumption), if_neg (by assumption)]), (by unfold N_richest; first | rw [if_neg (by assumption)] | rw [if_pos (by assumption), if_neg (by assumption)]), hcq⟩ rfl
def rm_X10_gainsNow : Room := { frames := 5, cells := 0, slots := 0, locals := 120 }
theorem in_X10_gainsNow_X10 : ∀ w ∈ u_ws RX10 TX10 38, w ∈ wsX10_gainsNow := fun w h => List.mem_cons_of_mem _ (List.mem_append_right _ (h))
set_option maxHeartbeats 4000000 in
set_option maxRecDepth 100000 in
theorem c_X10_gainsNow {l : Launch} {D : va_G} {G : gT} (o : Nat) (ma : Nat → Nat) (fi : Nat → Int32) (fl : Nat → Int64) (tk gv pr py ks sx fo qu : Nat → Nat) (pe qe g9 v9 : Nat) (hpe : fi 6 = nI pe) (h5 : pe ≤ 5) (hqe : fi 26 = nI qe) (hcq : CQ fo qu qe) (hg : g9 < 4) (hv1 : 1 ≤ v9) (hv4 : v9 ≤ 4) (hpr : pr g9 < 2 ^ 31) (hwp : WPe ks sx) (hl : 0 < pe → WL tk gv pr py) : CtI (σ := Int32 × Nat × (Nat → Nat) × (Nat → Nat)) l yX10_gainsNow wsX10_gainsNow rm_X10_gainsNow D G [.ref o, .int (nI g9), .int (nI v9)] [(o, mO ma fi fl), (ma 2, aI G 4 tk), (ma 3, aI G 4 gv), (ma 4, aI G 4 pr), (ma 5, aI G 4 py), (ma 7, aI G 5 ks), (ma 8, aI G 5 sx), (ma 24, aB G 40000 fo), (ma 25, aI G 40000 qu)] (fun r u => r = nI (gnN tk gv pr py ks sx g9 v9 pe) ∧ CQ (u.2.2.1) (u.2.2.2) (u.2.1)) (fun u => [(o, mO ma (va_up (va_up fi 27 (u.1)) 26 (nI (u.2.1))) fl), (ma 2, aI G 4 tk), (ma 3, aI G 4 gv), (ma 4, aI G 4 pr), (ma 5, aI G 4 py), (ma 7, aI G 5 ks), (ma 8, aI G 5 sx), (ma 24, aB G 40000 (u.2.2.1)), (ma 25, aI G 40000 (u.2.2.2))]) := by
  refine openI (maxL := 8) (by decide) rfl (Nat.le_of_ble_eq_true rfl) ?_
  intro pgZ evZ sgZ mmZ agsZ blZ meZ cdZ AZ QZ F hmn rt
  refine v_lv (lz := [(0, .ref o), (1, .int (nI g9)), (2, .int (nI v9))]) rfl ?_
  refine v_iconst (pc' := 1) (v := nI 0) F dX10_gainsNow_0 (by decide) rfl ?_
  refine v_istore_n (pc' := 2) (lv' := [(3, .int (nI 0)), (0, .ref o), (1, .int (nI g9)), (2, .int (nI v9))]) F dX10_gainsNow_1 rfl (by decide) rfl rfl ?_
  refine v_aload_n (pc' := 3) F dX10_gainsNow_2 rfl 1 rfl rfl ?_
  refine v_get (pc' := 6) (v := .ref (ma 4)) (C := RX10) (T := TX10) (N := 38) F dX10_gainsNow_3 in_X10_gainsNow_X10 0 rfl rfl 4 (by decide) (List.mem_of_getElem? (i := 1) rfl) rfl rfl ?_
  refine v_iload_n (pc' := 7) F dX10_gainsNow_6 rfl 2 rfl rfl ?_
  refine v_iald (pc' := 8) (z := pr g9) F dX10_gainsNow_7 3 rfl (by omega) (by first | decide | omega) rfl rfl ?_
  refine v_istore (pc' := 10) (lv' := [(4, .int (nI (pr g9))), (3, .int (nI 0)), (0, .ref o), (1, .int (nI g9)), (2, .int (nI v9))]) F dX10_gainsNow_8 (by decide) rfl rfl ?_
  refine v_iconst (pc' := 11) (v := nI 0) F dX10_gainsNow_10 (by decide) rfl ?_
  refine v_istore (pc' := 13) (lv' := [(5, .int (nI 0)), (4, .int (nI (pr g9))), (3, .int (nI 0)), (0, .ref o), (1, .int (nI g9)), (2, .int (nI v9))]) F dX10_gainsNow_11 (by decide) rfl rfl ?_
  refine v_ws (wz := [(o, mO ma (va_up (va_up fi 27 (fi 27)) 26 (nI qe)) fl), (ma 2, aI G 4 tk), (ma 3, aI G 4 gv), (ma 4, aI G 4 pr), (ma 5, aI G 4 py), (ma 7, aI G 5 ks), (ma 8, aI G 5 sx), (ma 24, aB G 40000 fo), (ma 25, aI G 40000 qu)]) (by rw [up_same (f := fi) (k := 27) rfl, up_same (f := fi) (k := 26) hqe]) ?_
  have L13 : ∀ (fu : Nat) (p : Nat) (bt : Nat) (fq : Int32) (qe1 : Nat) (fo1 : Nat → Nat) (qu1 : Nat → Nat), (p ≤ pe) → (bt = gnN tk gv pr py ks sx g9 v9 p) → (CQ fo1 qu1 qe1) → pe < p + fu → V pgZ l evZ rm_X10_gainsNow sgZ mmZ agsZ blZ meZ cdZ 0 0 QZ D AZ 8 13 [(5, .int (nI p)), (4, .int (nI (pr g9))), (3, .int (nI bt)), (0, .ref o), (1, .int (nI g9)), (2, .int (nI v9))] [] [(o, mO ma (va_up (va_up fi 27 fq) 26 (nI qe1)) fl), (ma 2, aI G 4 tk), (ma 3, aI G 4 gv), (ma 4, aI G 4 pr), (ma 5, aI G 4 py), (ma 7, aI G 5 ks), (ma 8, aI G 5 sx), (ma 24, aB G 40000 fo1), (ma 25, aI G 40000 qu1)] := by
    intro fu
    induction fu with
    | zero => intro p bt fq qe1 fo1 qu1 hp hbt hC1 hfu; exact absurd hfu (by omega)
    | succ fu ih13 =>
      intro p bt fq qe1 fo1 qu1 hp hbt hC1 hfu
      have hgl := gnN_lt (tk := tk) (gv := gv) (pr := pr) (py := py) (ks := ks) (sx := sx) (t := g9) (v := v9) (p := p) (by omega)
      refine v_iload (pc' := 15) F dX10_gainsNow_13 0 rfl rfl ?_
      refine v_aload_n (pc' := 16) F dX10_gainsNow_15 rfl 3 rfl rfl ?_
      refine v_get (pc' := 19) (v := .int (nI pe)) (C := RX10) (T := TX10) (N := 38) F dX10_gainsNow_16 in_X10_gainsNow_X10 0 rfl rfl 6 (by decide) (List.mem_of_getElem? (i := 2) rfl) (congrArg (fun z => some (Value.int z)) hpe) rfl ?_
      refine v_ncmp_ge (tgt := 91) (pc' := 22) F dX10_gainsNow_19 (by omega) (by omega) (by decide) rfl (fun c2 => ?_) (fun c2 => ?_)
      · refine v_iload_n (pc' := 92) F dX10_gainsNow_91 rfl 2 rfl rfl ?_
        exact rt dX10_gainsNow_92 (fq, qe1, fo1, qu1) ⟨by rw [hbt, show p = pe by omega], hC1⟩ rfl
      · have hw9 := hwp p (by omega)
        have hl9 := hl (by omega)
        have hl8 := WL_up (g := g9) hl9 hv1 hv4
        have hp16 := pw_le16 (show p < 5 by omega)
        refine v_aload_n (pc' := 23) F dX10_gainsNow_22 rfl 3 rfl rfl ?_
        refine v_iload (pc' := 25) F dX10_gainsNow_23 0 rfl rfl ?_
        refine v_iload_n (pc' := 26) F dX10_gainsNow_25 rfl 4 rfl rfl ?_
        refine cVI (pc' := 29) (As := [.int (nI p), .int (nI g9)]) (rest := []) (wr := []) F (c_X10_fewestOf o ma (va_up (va_up fi 27 fq) 26 (nI qe1)) fl tk gv pr py ks sx fo1 qu1 qe1 p (up_at _ _ _) hC1 (by omega) hwp hl9 g9 hg) (cwV 2 F.2.2.2.2.1 gX10_gainsNow_X10_fewestOf rfl rfl rfl (by decide +kernel) ⟨Nat.le_of_ble_eq_true rfl, Nat.le_of_ble_eq_true rfl⟩) (v_rcvW F 8 0 rfl rfl) rfl rfl (Nat.le_of_ble_eq_true rfl) dX10_gainsNow_26 [0, 1, 2, 3, 4, 5, 6, 7, 8] [] (by decide) rfl rfl (by decide) (by decide) ⟨Nat.zero_le _, Nat.zero_le _⟩ rfl (fun r u q9 => ?_)
        obtain ⟨f27_3, qe2_4, fo2_5, qu2_6⟩ := u
        obtain ⟨rfl, hF_7, hC_8⟩ := q9
        refine v_ws (wz := [(o, mO ma (va_up (va_up (va_up (va_up fi 27 fq) 26 (nI qe1)) 27 f27_3) 26 (nI qe2_4)) fl), (ma 2, aI G 4 tk), (ma 3, aI G 4 gv), (ma 4, aI G 4 pr), (ma 5, aI G 4 py), (ma 7, aI G 5 ks), (ma 8, aI G 5 sx), (ma 24, aB G 40000 fo2_5), (ma 25, aI G 40000 qu2_6)]) rfl ?_
        refine v_ws (wz := [(o, mO ma (va_up (va_up fi 27 f27_3) 26 (nI qe2_4)) fl), (ma 2, aI G 4 tk), (ma 3, aI G 4 gv), (ma 4, aI G 4 pr), (ma 5, aI G 4 py), (ma 7, aI G 5 ks), (ma 8, aI G 5 sx), (ma 24, aB G 40000 fo2_5), (ma 25, aI G 40000 qu2_6)]) (by rw [up_u2 _ _ _ _ _ _ _ (by decide)]) ?_
        cases hb11 : fnM (ks p) tk gv pr py g9 (sx p) with
        | none =>
          refine v_top (oM_none rfl) ?_
          refine v_istore (pc' := 31) (lv' := [(6, .int (-1)), (5, .int (nI p)), (4, .int (nI (pr g9))), (3, .int (nI bt)), (0, .ref o), (1, .int (nI g9)), (2, .int (nI v9))]) F dX10_gainsNow_29 (by decide) rfl rfl ?_
          refine v_aload_n (pc' := 32) F dX10_gainsNow_31 rfl 4 rfl rfl ?_
          refine v_get (pc' := 35) (v := .ref (ma 4)) (C := RX10) (T := TX10) (N := 38) F dX10_gainsNow_32 in_X10_gainsNow_X10 0 rfl rfl 4 (by decide) (List.mem_of_getElem? (i := 1) rfl) rfl rfl ?_
          refine v_iload_n (pc' := 36) F dX10_gainsNow_35 rfl 5 rfl rfl ?_
          refine v_iload_n (pc' := 37) F dX10_gainsNow_36 rfl 6 rfl rfl ?_
          refine v_iast (pc' := 38) (ws' := [(o, mO ma (va_up (va_up fi 27 f27_3) 26 (nI qe2_4)) fl), (ma 2, aI G 4 tk), (ma 3, aI G 4 gv), (ma 4, aI G 4 (va_up pr g9 v9)), (ma 5, aI G 4 py), (ma 7, aI G 5 ks), (ma 8, aI G 5 sx), (ma 24, aB G 40000 fo2_5), (ma 25, aI G 40000 qu2_6)]) F dX10_gainsNow_37 3 rfl (by omega) (by first | decide | omega) rfl rfl ?_
          refine v_aload_n (pc' := 39) F dX10_gainsNow_38 rfl 4 rfl rfl ?_
          refine v_iload (pc' := 41) F dX10_gainsNow_39 1 rfl rfl ?_
          refine v_iload_n (pc' := 42) F dX10_gainsNow_41 rfl 5 rfl rfl ?_
          refine cVI (pc' := 45) (As := [.int (nI p), .int (nI g9)]) (rest := []) (wr := []) F (c_X10_fewestOf o ma (va_up (va_up fi 27 f27_3) 26 (nI qe2_4)) fl tk gv (va_up pr g9 v9) py ks sx fo2_5 qu2_6 qe2_4 p (up_at _ _ _) hC_8 (by omega) hwp hl8 g9 hg) (cwV 2 F.2.2.2.2.1 gX10_gainsNow_X10_fewestOf rfl rfl rfl (by decide +kernel) ⟨Nat.le_of_ble_eq_true rfl, Nat.le_of_ble_eq_true rfl⟩) (v_rcvW F 8 0 rfl rfl) rfl rfl (Nat.le_of_ble_eq_true rfl) dX10_gainsNow_42 [0, 1, 2, 3, 4, 5, 6, 7, 8] [] (by decide) rfl rfl (by decide) (by decide) ⟨Nat.zero_le _, Nat.zero_le _⟩ rfl (fun r u q18 => ?_)
          obtain ⟨f27_12, qe2_13, fo2_14, qu2_15⟩ := u
          obtain ⟨rfl, hF_16, hC_17⟩ := q18
          refine v_ws (wz := [(o, mO ma (va_up (va_up (va_up (va_up fi 27 f27_3) 26 (nI qe2_4)) 27 f27_12) 26 (nI qe2_13)) fl), (ma 2, aI G 4 tk), (ma 3, aI G 4 gv), (ma 4, aI G 4 (va_up pr g9 v9)), (ma 5, aI G 4 py), (ma 7, aI G 5 ks), (ma 8, aI G 5 sx), (ma 24, aB G 40000 fo2_14), (ma 25, aI G 40000 qu2_15)]) rfl ?_
          refine v_ws (wz := [(o, mO ma (va_up (va_up fi 27 f27_12) 26 (nI qe2_13)) fl), (ma 2, aI G 4 tk), (ma 3, aI G 4 gv), (ma 4, aI G 4 (va_up pr g9 v9)), (ma 5, aI G 4 py), (ma 7, aI G 5 ks), (ma 8, aI G 5 sx), (ma 24, aB G 40000 fo2_14), (ma 25, aI G 40000 qu2_15)]) (by rw [up_u2 _ _ _ _ _ _ _ (by decide)]) ?_
          cases hb20 : fnM (ks p) tk gv (va_up pr g9 v9) py g9 (sx p) with
          | none =>
            refine v_top (oM_none rfl) ?_
            refine v_istore (pc' := 47) (lv' := [(7, .int (-1)), (6, .int (-1)), (5, .int (nI p)), (4, .int (nI (pr g9))), (3, .int (nI bt)), (0, .ref o), (1, .int (nI g9)), (2, .int (nI v9))]) F dX10_gainsNow_45 (by decide) rfl rfl ?_
            refine v_aload_n (pc' := 48) F dX10_gainsNow_47 rfl 5 rfl rfl ?_
            refine v_get (pc' := 51) (v := .ref (ma 4)) (C := RX10) (T := TX10) (N := 38) F dX10_gainsNow_48 in_X10_gainsNow_X10 0 rfl rfl 4 (by decide) (List.mem_of_getElem? (i := 1) rfl) rfl rfl ?_
            refine v_iload_n (pc' := 52) F dX10_gainsNow_51 rfl 6 rfl rfl ?_
            refine v_iload (pc' := 54) F dX10_gainsNow_52 3 rfl rfl ?_
            refine v_iast (pc' := 55) (ws' := [(o, mO ma (va_up (va_up fi 27 f27_12) 26 (nI qe2_13)) fl), (ma 2, aI G 4 tk), (ma 3, aI G 4 gv), (ma 4, aI G 4 (va_up (va_up pr g9 v9) g9 (pr g9))), (ma 5, aI G 4 py), (ma 7, aI G 5 ks), (ma 8, aI G 5 sx), (ma 24, aB G 40000 fo2_14), (ma 25, aI G 40000 qu2_15)]) F dX10_gainsNow_54 3 rfl (by omega) (by first | decide | omega) rfl rfl ?_
            refine v_ws (wz := [(o, mO ma (va_up (va_up fi 27 f27_12) 26 (nI qe2_13)) fl), (ma 2, aI G 4 tk), (ma 3, aI G 4 gv), (ma 4, aI G 4 pr), (ma 5, aI G 4 py), (ma 7, aI G 5 ks), (ma 8, aI G 5 sx), (ma 24, aB G 40000 fo2_14), (ma 25, aI G 40000 qu2_15)]) (by rw [up_up, up_id]) ?_
            refine v_iload_n (pc' := 56) F dX10_gainsNow_55 rfl 4 rfl rfl ?_
            refine v_iload (pc' := 58) F dX10_gainsNow_56 0 rfl rfl ?_
            refine v_iconst (pc' := 59) (v := (-1)) F dX10_gainsNow_58 (by decide) rfl ?_
            refine v_icmp_eq (tgt := 82) (pc' := 62) F dX10_gainsNow_59 (by decide) rfl (fun c21 => ?_) (fun c21 => ?_)
            · refine v_iconst (pc' := 83) (v := nI 0) F dX10_gainsNow_82 (by decide) rfl ?_
              refine v_ior (pc' := 84) (z := nI (bt ||| 0)) F dX10_gainsNow_83 (ni_or _ _) rfl ?_
              refine v_istore_n (pc' := 85) (lv' := [(3, .int (nI (bt ||| 0))), (7, .int (-1)), (6, .int (-1)), (5, .int (nI p)), (4, .int (nI (pr g9))), (0, .ref o), (1, .int (nI g9)), (2, .int (nI v9))]) F dX10_gainsNow_84 rfl (by decide) rfl rfl ?_
              refine v_iinc (pc' := 88) (v := nI (p + 1)) (lv' := [(5, .int (nI (p + 1))), (3, .int (nI (bt ||| 0))), (7, .int (-1)), (6, .int (-1)), (4, .int (nI (pr g9))), (0, .ref o), (1, .int (nI g9)), (2, .int (nI v9))]) F dX10_gainsNow_85 3 rfl (nI_add _ _) (by decide) rfl rfl ?_
              refine v_goto (tgt := 13) F dX10_gainsNow_88 (by decide) ?_
              refine v_lpick (lz := [(5, .int (nI (p + 1))), (4, .int (nI (pr g9))), (3, .int (nI (bt ||| 0))), (0, .ref o), (1, .int (nI g9)), (2, .int (nI v9))]) [0, 4, 1, 5, 6, 7] rfl ?_
              exact ih13 (p + 1) (bt ||| 0) f27_12 qe2_13 fo2_14 qu2_15 (by omega) (by rw [hbt, Nat.or_zero]; exact (gnN_n (gb_0 hb20)).symm) (hC_17) (by omega)
            · exact absurd rfl c21
          | some z19 =>
            refine v_top (oM_some rfl) ?_
            have hzb := fn_le hl8 hw9.2 hb20
            refine v_istore (pc' := 47) (lv' := [(7, .int (nI z19)), (6, .int (-1)), (5, .int (nI p)), (4, .int (nI (pr g9))), (3, .int (nI bt)), (0, .ref o), (1, .int (nI g9)), (2, .int (nI v9))]) F dX10_gainsNow_45 (by decide) rfl rfl ?_
            refine v_aload_n (pc' := 48) F dX10_gainsNow_47 rfl 5 rfl rfl ?_
            refine v_get (pc' := 51) (v := .ref (ma 4)) (C := RX10) (T := TX10) (N := 38) F dX10_gainsNow_48 in_X10_gainsNow_X10 0 rfl rfl 4 (by decide) (List.mem_of_getElem? (i := 1) rfl) rfl rfl ?_
            refine v_iload_n (pc' := 52) F dX10_gainsNow_51 rfl 6 rfl rfl ?_
            refine v_iload (pc' := 54) F dX10_gainsNow_52 3 rfl rfl ?_
            refine v_iast (pc' := 55) (ws' := [(o, mO ma (va_up (va_up fi 27 f27_12) 26 (nI qe2_13)) fl), (ma 2, aI G 4 tk), (ma 3, aI G 4 gv), (ma 4, aI G 4 (va_up (va_up pr g9 v9) g9 (pr g9))), (ma 5, aI G 4 py), (ma 7, aI G 5 ks), (ma 8, aI G 5 sx), (ma 24, aB G 40000 fo2_14), (ma 25, aI G 40000 qu2_15)]) F dX10_gainsNow_54 3 rfl (by omega) (by first | decide | omega) rfl rfl ?_
            refine v_ws (wz := [(o, mO ma (va_up (va_up fi 27 f27_12) 26 (nI qe2_13)) fl), (ma 2, aI G 4 tk), (ma 3, aI G 4 gv), (ma 4, aI G 4 pr), (ma 5, aI G 4 py), (ma 7, aI G 5 ks), (ma 8, aI G 5 sx), (ma 24, aB G 40000 fo2_14), (ma 25, aI G 40000 qu2_15)]) (by rw [up_up, up_id]) ?_
            refine v_iload_n (pc' := 56) F dX10_gainsNow_55 rfl 4 rfl rfl ?_
            refine v_iload (pc' := 58) F dX10_gainsNow_56 0 rfl rfl ?_
            refine v_iconst (pc' := 59) (v := (-1)) F dX10_gainsNow_58 (by decide) rfl ?_
            refine v_icmp_eq (tgt := 82) (pc' := 62) F dX10_gainsNow_59 (by decide) rfl (fun c22 => ?_) (fun c22 => ?_)
            · exact absurd c22 (ni_m1 (by omega))
            · refine v_iload (pc' := 64) F dX10_gainsNow_62 1 rfl rfl ?_
              refine v_iconst (pc' := 65) (v := (-1)) F dX10_gainsNow_64 (by decide) rfl ?_
              refine v_icmp_eq (tgt := 75) (pc' := 68) F dX10_gainsNow_65 (by decide) rfl (fun c23 => ?_) (fun c23 => ?_)
              · refine v_iconst (pc' := 76) (v := nI 1) F dX10_gainsNow_75 (by decide) rfl ?_
                refine v_iload (pc' := 78) F dX10_gainsNow_76 2 rfl rfl ?_
                refine v_ishl (pc' := 79) (z := nI (1 * 2 ^ p)) F dX10_gainsNow_78 (ni_shl (by omega) (by omega)) rfl ?_
                refine v_goto (tgt := 83) F dX10_gainsNow_79 (by decide) ?_
                refine v_ior (pc' := 84) (z := nI (bt ||| (1 * 2 ^ p))) F dX10_gainsNow_83 (ni_or _ _) rfl ?_
                refine v_istore_n (pc' := 85) (lv' := [(3, .int (nI (bt ||| (1 * 2 ^ p)))), (7, .int (nI z19)), (6, .int (-1)), (5, .int (nI p)), (4, .int (nI (pr g9))), (0, .ref o), (1, .int (nI g9)), (2, .int (nI v9))]) F dX10_gainsNow_84 rfl (by decide) rfl rfl ?_
                refine v_iinc (pc' := 88) (v := nI (p + 1)) (lv' := [(5, .int (nI (p + 1))), (3, .int (nI (bt ||| (1 * 2 ^ p)))), (7, .int (nI z19)), (6, .int (-1)), (4, .int (nI (pr g9))), (0, .ref o), (1, .int (nI g9)), (2, .int (nI v9))]) F dX10_gainsNow_85 3 rfl (nI_add _ _) (by decide) rfl rfl ?_
                refine v_goto (tgt := 13) F dX10_gainsNow_88 (by decide) ?_
                refine v_lpick (lz := [(5, .int (nI (p + 1))), (4, .int (nI (pr g9))), (3, .int (nI (bt ||| (1 * 2 ^ p)))), (0, .ref o), (1, .int (nI g9)), (2, .int (nI v9))]) [0, 4, 1, 5, 6, 7] rfl ?_
                exact ih13 (p + 1) (bt ||| (1 * 2 ^ p)) f27_12 qe2_13 fo2_14 qu2_15 (by omega) (by rw [hbt]; exact (gnN_y (gb_1 hb20 hb11)).symm) (hC_17) (by omega)
              · exact absurd rfl c23
        | some z10 =>
          refine v_top (oM_some rfl) ?_
          have hza := fn_le hl9 hw9.2 hb11
          refine v_istore (pc' := 31) (lv' := [(6, .int (nI z10)), (5, .int (nI p)), (4, .int (nI (pr g9))), (3, .int (nI bt)), (0, .ref o), (1, .int (nI g9)), (2, .int (nI v9))]) F dX10_gainsNow_29 (by decide) rfl rfl ?_
          refine v_aload_n (pc' := 32) F dX10_gainsNow_31 rfl 4 rfl rfl ?_
          refine v_get (pc' := 35) (v := .ref (ma 4)) (C := RX10) (T := TX10) (N := 38) F dX10_gainsNow_32 in_X10_gainsNow_X10 0 rfl rfl 4 (by decide) (List.mem_of_getElem? (i := 1) rfl) rfl rfl ?_
          refine v_iload_n (pc' := 36) F dX10_gainsNow_35 rfl 5 rfl rfl ?_
          refine v_iload_n (pc' := 37) F dX10_gainsNow_36 rfl 6 rfl rfl ?_
          refine v_iast (pc' := 38) (ws' := [(o, mO ma (va_up (va_up fi 27 f27_3) 26 (nI qe2_4)) fl), (ma 2, aI G 4 tk), (ma 3, aI G 4 gv), (ma 4, aI G 4 (va_up pr g9 v9)), (ma 5, aI G 4 py), (ma 7, aI G 5 ks), (ma 8, aI G 5 sx), (ma 24, aB G 40000 fo2_5), (ma 25, aI G 40000 qu2_6)]) F dX10_gainsNow_37 3 rfl (by omega) (by first | decide | omega) rfl rfl ?_
          refine v_aload_n (pc' := 39) F dX10_gainsNow_38 rfl 4 rfl rfl ?_
          refine v_iload (pc' := 41) F dX10_gainsNow_39 1 rfl rfl ?_
          refine v_iload_n (pc' := 42) F dX10_gainsNow_41 rfl 5 rfl rfl ?_
          refine cVI (pc' := 45) (As := [.int (nI p), .int (nI g9)]) (rest := []) (wr := []) F (c_X10_fewestOf o ma (va_up (va_up fi 27 f27_3) 26 (nI qe2_4)) fl tk gv (va_up pr g9 v9) py ks sx fo2_5 qu2_6 qe2_4 p (up_at _ _ _) hC_8 (by omega) hwp hl8 g9 hg) (cwV 2 F.2.2.2.2.1 gX10_gainsNow_X10_fewestOf rfl rfl rfl (by decide +kernel) ⟨Nat.le_of_ble_eq_true rfl, Nat.le_of_ble_eq_true rfl⟩) (v_rcvW F 8 0 rfl rfl) rfl rfl (Nat.le_of_ble_eq_true rfl) dX10_gainsNow_42 [0, 1, 2, 3, 4, 5, 6, 7, 8] [] (by decide) rfl rfl (by decide) (by decide) ⟨Nat.zero_le _, Nat.zero_le _⟩ rfl (fun r u q30 => ?_)
          obtain ⟨f27_24, qe2_25, fo2_26, qu2_27⟩ := u
          obtain ⟨rfl, hF_28, hC_29⟩ := q30
          refine v_ws (wz := [(o, mO ma (va_up (va_up (va_up (va_up fi 27 f27_3) 26 (nI qe2_4)) 27 f27_24) 26 (nI qe2_25)) fl), (ma 2, aI G 4 tk), (ma 3, aI G 4 gv), (ma 4, aI G 4 (va_up pr g9 v9)), (ma 5, aI G 4 py), (ma 7, aI G 5 ks), (ma 8, aI G 5 sx), (ma 24, aB G 40000 fo2_26), (ma 25, aI G 40000 qu2_27)]) rfl ?_
          refine v_ws (wz := [(o, mO ma (va_up (va_up fi 27 f27_24) 26 (nI qe2_25)) fl), (ma 2, aI G 4 tk), (ma 3, aI G 4 gv), (ma 4, aI G 4 (va_up pr g9 v9)), (ma 5, aI G 4 py), (ma 7, aI G 5 ks), (ma 8, aI G 5 sx), (ma 24, aB G 40000 fo2_26), (ma 25, aI G 40000 qu2_27)]) (by rw [up_u2 _ _ _ _ _ _ _ (by decide)]) ?_
          cases hb32 : fnM (ks p) tk gv (va_up pr g9 v9) py g9 (sx p) with
          | none =>
            refine v_top (oM_none rfl) ?_
            refine v_istore (pc' := 47) (lv' := [(7, .int (-1)), (6, .int (nI z10)), (5, .int (nI p)), (4, .int (nI (pr g9))), (3, .int (nI bt)), (0, .ref o), (1, .int (nI g9)), (2, .int (nI v9))]) F dX10_gainsNow_45 (by decide) rfl rfl ?_
            refine v_aload_n (pc' := 48) F dX10_gainsNow_47 rfl 5 rfl rfl ?_
            refine v_get (pc' := 51) (v := .ref (ma 4)) (C := RX10) (T := TX10) (N := 38) F dX10_gainsNow_48 in_X10_gainsNow_X10 0 rfl rfl 4 (by decide) (List.mem_of_getElem? (i := 1) rfl) rfl rfl ?_
            refine v_iload_n (pc' := 52) F dX10_gainsNow_51 rfl 6 rfl rfl ?_
            refine v_iload (pc' := 54) F dX10_gainsNow_52 3 rfl rfl ?_
            refine v_iast (pc' := 55) (ws' := [(o, mO ma (va_up (va_up fi 27 f27_24) 26 (nI qe2_25)) fl), (ma 2, aI G 4 tk), (ma 3, aI G 4 gv), (ma 4, aI G 4 (va_up (va_up pr g9 v9) g9 (pr g9))), (ma 5, aI G 4 py), (ma 7, aI G 5 ks), (ma 8, aI G 5 sx), (ma 24, aB G 40000 fo2_26), (ma 25, aI G 40000 qu2_27)]) F dX10_gainsNow_54 3 rfl (by omega) (by first | decide | omega) rfl rfl ?_
            refine v_ws (wz := [(o, mO ma (va_up (va_up fi 27 f27_24) 26 (nI qe2_25)) fl), (ma 2, aI G 4 tk), (ma 3, aI G 4 gv), (ma 4, aI G 4 pr), (ma 5, aI G 4 py), (ma 7, aI G 5 ks), (ma 8, aI G 5 sx), (ma 24, aB G 40000 fo2_26), (ma 25, aI G 40000 qu2_27)]) (by rw [up_up, up_id]) ?_
            refine v_iload_n (pc' := 56) F dX10_gainsNow_55 rfl 4 rfl rfl ?_
            refine v_iload (pc' := 58) F dX10_gainsNow_56 0 rfl rfl ?_
            refine v_iconst (pc' := 59) (v := (-1)) F dX10_gainsNow_58 (by decide) rfl ?_
            refine v_icmp_eq (tgt := 82) (pc' := 62) F dX10_gainsNow_59 (by decide) rfl (fun c33 => ?_) (fun c33 => ?_)
            · refine v_iconst (pc' := 83) (v := nI 0) F dX10_gainsNow_82 (by decide) rfl ?_
              refine v_ior (pc' := 84) (z := nI (bt ||| 0)) F dX10_gainsNow_83 (ni_or _ _) rfl ?_
              refine v_istore_n (pc' := 85) (lv' := [(3, .int (nI (bt ||| 0))), (7, .int (-1)), (6, .int (nI z10)), (5, .int (nI p)), (4, .int (nI (pr g9))), (0, .ref o), (1, .int (nI g9)), (2, .int (nI v9))]) F dX10_gainsNow_84 rfl (by decide) rfl rfl ?_
              refine v_iinc (pc' := 88) (v := nI (p + 1)) (lv' := [(5, .int (nI (p + 1))), (3, .int (nI (bt ||| 0))), (7, .int (-1)), (6, .int (nI z10)), (4, .int (nI (pr g9))), (0, .ref o), (1, .int (nI g9)), (2, .int (nI v9))]) F dX10_gainsNow_85 3 rfl (nI_add _ _) (by decide) rfl rfl ?_
              refine v_goto (tgt := 13) F dX10_gainsNow_88 (by decide) ?_
              refine v_lpick (lz := [(5, .int (nI (p + 1))), (4, .int (nI (pr g9))), (3, .int (nI (bt ||| 0))), (0, .ref o), (1, .int (nI g9)), (2, .int (nI v9))]) [0, 4, 1, 5, 6, 7] rfl ?_
              exact ih13 (p + 1) (bt ||| 0) f27_24 qe2_25 fo2_26 qu2_27 (by omega) (by rw [hbt, Nat.or_zero]; exact (gnN_n (gb_0 hb32)).symm) (hC_29) (by omega)
            · exact absurd rfl c33
          | some z31 =>
            refine v_top (oM_some rfl) ?_
            have hzb := fn_le hl8 hw9.2 hb32
            refine v_istore (pc' := 47) (lv' := [(7, .int (nI z31)), (6, .int (nI z10)), (5, .int (nI p)), (4, .int (nI (pr g9))), (3, .int (nI bt)), (0, .ref o), (1, .int (nI g9)), (2, .int (nI v9))]) F dX10_gainsNow_45 (by decide) rfl rfl ?_
            refine v_aload_n (pc' := 48) F dX10_gainsNow_47 rfl 5 rfl rfl ?_
            refine v_get (pc' := 51) (v := .ref (ma 4)) (C := RX10) (T := TX10) (N := 38) F dX10_gainsNow_48 in_X10_gainsNow_X10 0 rfl rfl 4 (by decide) (List.mem_of_getElem? (i := 1) rfl) rfl rfl ?_
            refine v_iload_n (pc' := 52) F dX10_gainsNow_51 rfl 6 rfl rfl ?_
            refine v_iload (pc' := 54) F dX10_gainsNow_52 3 rfl rfl ?_
            refine v_iast (pc' := 55) (ws' := [(o, mO ma (va_up (va_up fi 27 f27_24) 26 (nI qe2_25)) fl), (ma 2, aI G 4 tk), (ma 3, aI G 4 gv), (ma 4, aI G 4 (va_up (va_up pr g9 v9) g9 (pr g9))), (ma 5, aI G 4 py), (ma 7, aI G 5 ks), (ma 8, aI G 5 sx), (ma 24, aB G 40000 fo2_26), (ma 25, aI G 40000 qu2_27)]) F dX10_gainsNow_54 3 rfl (by omega) (by first | decide | omega) rfl rfl ?_
            refine v_ws (wz := [(o, mO ma (va_up (va_up fi 27 f27_24) 26 (nI qe2_25)) fl), (ma 2, aI G 4 tk), (ma 3, aI G 4 gv), (ma 4, aI G 4 pr), (ma 5, aI G 4 py), (ma 7, aI G 5 ks), (ma 8, aI G 5 sx), (ma 24, aB G 40000 fo2_26), (ma 25, aI G 40000 qu2_27)]) (by rw [up_up, up_id]) ?_
            refine v_iload_n (pc' := 56) F dX10_gainsNow_55 rfl 4 rfl rfl ?_
            refine v_iload (pc' := 58) F dX10_gainsNow_56 0 rfl rfl ?_
            refine v_iconst (pc' := 59) (v := (-1)) F dX10_gainsNow_58 (by decide) rfl ?_
            refine v_icmp_eq (tgt := 82) (pc' := 62) F dX10_gainsNow_59 (by decide) rfl (fun c34 => ?_) (fun c34 => ?_)
            · exact absurd c34 (ni_m1 (by omega))
            · refine v_iload (pc' := 64) F dX10_gainsNow_62 1 rfl rfl ?_
              refine v_iconst (pc' := 65) (v := (-1)) F dX10_gainsNow_64 (by decide) rfl ?_
              refine v_icmp_eq (tgt := 75) (pc' := 68) F dX10_gainsNow_65 (by decide) rfl (fun c35 => ?_) (fun c35 => ?_)
              · exact absurd c35 (ni_m1 (by omega))
              · refine v_iload (pc' := 70) F dX10_gainsNow_68 0 rfl rfl ?_
                refine v_iload (pc' := 72) F dX10_gainsNow_70 1 rfl rfl ?_
                refine v_ncmp_ge (tgt := 82) (pc' := 75) F dX10_gainsNow_72 (by omega) (by omega) (by decide) rfl (fun c36 => ?_) (fun c36 => ?_)
                · refine v_iconst (pc' := 83) (v := nI 0) F dX10_gainsNow_82 (by decide) rfl ?_
                  refine v_ior (pc' := 84) (z := nI (bt ||| 0)) F dX10_gainsNow_83 (ni_or _ _) rfl ?_
                  refine v_istore_n (pc' := 85) (lv' := [(3, .int (nI (bt ||| 0))), (7, .int (nI z31)), (6, .int (nI z10)), (5, .int (nI p)), (4, .int (nI (pr g9))), (0, .ref o), (1, .int (nI g9)), (2, .int (nI v9))]) F dX10_gainsNow_84 rfl (by decide) rfl rfl ?_
                  refine v_iinc (pc' := 88) (v := nI (p + 1)) (lv' := [(5, .int (nI (p + 1))), (3, .int (nI (bt ||| 0))), (7, .int (nI z31)), (6, .int (nI z10)), (4, .int (nI (pr g9))), (0, .ref o), (1, .int (nI g9)), (2, .int (nI v9))]) F dX10_gainsNow_85 3 rfl (nI_add _ _) (by decide) rfl rfl ?_
                  refine v_goto (tgt := 13) F dX10_gainsNow_88 (by decide) ?_
                  refine v_lpick (lz := [(5, .int (nI (p + 1))), (4, .int (nI (pr g9))), (3, .int (nI (bt ||| 0))), (0, .ref o), (1, .int (nI g9)), (2, .int (nI v9))]) [0, 4, 1, 5, 6, 7] rfl ?_
                  exact ih13 (p + 1) (bt ||| 0) f27_24 qe2_25 fo2_26 qu2_27 (by omega) (by rw [hbt, Nat.or_zero]; exact (gnN_n (gb_3 hb32 hb11 (by omega))).symm) (hC_29) (by omega)
                · refine v_iconst (pc' := 76) (v := nI 1) F dX10_gainsNow_75 (by decide) rfl ?_
                  refine v_iload (pc' := 78) F dX10_gainsNow_76 2 rfl rfl ?_
                  refine v_ishl (pc' := 79) (z := nI (1 * 2 ^ p)) F dX10_gainsNow_78 (ni_shl (by omega) (by omega)) rfl ?_
                  refine v_goto (tgt := 83) F dX10_gainsNow_79 (by decide) ?_
                  refine v_ior (pc' := 84) (z := nI (bt ||| (1 * 2 ^ p))) F dX10_gainsNow_83 (ni_or _ _) rfl ?_
                  refine v_istore_n (pc' := 85) (lv' := [(3, .int (nI (bt ||| (1 * 2 ^ p)))), (7, .int (nI z31)), (6, .int (nI z10)), (5, .int (nI p)), (4, .int (nI (pr g9))), (0, .ref o), (1, .int (nI g9)), (2, .int (nI v9))]) F dX10_gainsNow_84 rfl (by decide) rfl rfl ?_
                  refine v_iinc (pc' := 88) (v := nI (p + 1)) (lv' := [(5, .int (nI (p + 1))), (3, .int (nI (bt ||| (1 * 2 ^ p)))), (7, .int (nI z31)), (6, .int (nI z10)), (4, .int (nI (pr g9))), (0, .ref o), (1, .int (nI g9)), (2, .int (nI v9))]) F dX10_gainsNow_85 3 rfl (nI_add _ _) (by decide) rfl rfl ?_
                  refine v_goto (tgt := 13) F dX10_gainsNow_88 (by decide) ?_
                  refine v_lpick (lz := [(5, .int (nI (p + 1))), (4, .int (nI (pr g9))), (3, .int (nI (bt ||| (1 * 2 ^ p)))), (0, .ref o), (1, .int (nI g9)), (2, .int (nI v9))]) [0, 4, 1, 5, 6, 7] rfl ?_
                  exact ih13 (p + 1) (bt ||| (1 * 2 ^ p)) f27_24 qe2_25 fo2_26 qu2_27 (by omega) (by rw [hbt]; exact (gnN_y (gb_2 hb32 hb11 (by omega))).symm) (hC_29) (by omega)
  exact L13 (pe + 1) 0 0 (fi 27) qe fo qu (by omega) (rfl) (hcq) (by omega)
def rm_X10_gains : Room := { frames := 6, cells := 0, slots := 0, locals := 147 }
theorem in_X10_gains_X10 : ∀ w ∈ u_ws RX10 TX10 38, w ∈ wsX10_gains := fun w h => List.mem_cons_of_mem _ (List.mem_append_right _ (h))
set_option maxHeartbeats 4000000 in
set_option maxRecDepth 100000 in
theorem c_X10_gains {l : Launch} {D : va_G} {G : gT} (o : Nat) (ma : Nat → Nat) (fi : Nat → Int32) (fl : Nat → Int64) (tk gv pr py ks sx fo qu : Nat → Nat) (pe lr qe : Nat) (x y : Int32) (hil : fi 0 = bI (¬ lr = 0)) (hpe : fi 6 = nI pe) (h5 : pe ≤ 5) (hqe : fi 26 = nI qe) (hcq : CQ fo qu qe) (hpr : ∀ j, j < 4 → pr j < 2 ^ 31) (hwp : WPe ks sx) (hl : 0 < pe → WL tk gv pr py) : CtI (σ := Int32 × Nat × (Nat → Nat) × (Nat → Nat)) l yX10_gains wsX10_gains rm_X10_gains D G [.ref o, .int x, .int y] [(o, mO ma fi fl), (ma 2, aI G 4 tk), (ma 3, aI G 4 gv), (ma 4, aI G 4 pr), (ma 5, aI G 4 py), (ma 7, aI G 5 ks), (ma 8, aI G 5 sx), (ma 24, aB G 40000 fo), (ma 25, aI G 40000 qu)] (fun r u => r = A_gains lr pe tk gv pr py ks sx x y ∧ CQ (u.2.2.1) (u.2.2.2) (u.2.1)) (fun u => [(o, mO ma (va_up (va_up fi 27 (u.1)) 26 (nI (u.2.1))) fl), (ma 2, aI G 4 tk), (ma 3, aI G 4 gv), (ma 4, aI G 4 pr), (ma 5, aI G 4 py), (ma 7, aI G 5 ks), (ma 8, aI G 5 sx), (ma 24, aB G 40000 (u.2.2.1)), (ma 25, aI G 40000 (u.2.2.2))]) := by
  refine openI (maxL := 3) (by decide) rfl (Nat.le_of_ble_eq_true rfl) ?_
  intro pgZ evZ sgZ mmZ agsZ blZ meZ cdZ AZ QZ F hmn rt
  refine v_lv (lz := [(0, .ref o), (1, .int x), (2, .int y)]) rfl ?_
  refine v_iload_n (pc' := 1) F dX10_gains_0 rfl 1 rfl rfl ?_
  refine cSI0 (pc' := 4) (As := [.int x]) (rest := []) F (c_X10_isTown x) (va_cwS 1 F.2.2.2.2.1 gX10_gains_X10_isTown rfl rfl rfl (by decide +kernel) ⟨Nat.le_of_ble_eq_true rfl, Nat.le_of_ble_eq_true rfl⟩) rfl rfl (Nat.le_of_ble_eq_true rfl) dX10_gains_1 ⟨Nat.zero_le _, Nat.zero_le _⟩ rfl (fun r u q1 => ?_)
  obtain rfl := q1
  refine v_bif_ne (tgt := 10) (pc' := 7) F dX10_gains_4 (by decide) rfl (fun c2 => ?_) (fun c2 => ?_)
  · obtain ⟨g9, hg9, rfl⟩ := inR_of (by decide) c2
    refine v_iload_n (pc' := 11) F dX10_gains_10 rfl 2 rfl rfl ?_
    refine v_iconst (pc' := 12) (v := nI 1) F dX10_gains_11 (by decide) rfl ?_
    refine v_iconst (pc' := 13) (v := nI 4) F dX10_gains_12 (by decide) rfl ?_
    refine cSI0 (pc' := 16) (As := [.int y, .int (nI 1), .int (nI 4)]) (rest := []) F (c_X10_within y (nI 1) (nI 4)) (va_cwS 3 F.2.2.2.2.1 gX10_gains_X10_within rfl rfl rfl (by decide +kernel) ⟨Nat.le_of_ble_eq_true rfl, Nat.le_of_ble_eq_true rfl⟩) rfl rfl (Nat.le_of_ble_eq_true rfl) dX10_gains_13 ⟨Nat.zero_le _, Nat.zero_le _⟩ rfl (fun r u q3 => ?_)
    obtain rfl := q3
    refine v_bif_ne (tgt := 22) (pc' := 19) F dX10_gains_16 (by decide) rfl (fun c4 => ?_) (fun c4 => ?_)
    · obtain ⟨v9, hv9, rfl⟩ := inR_of2 (by decide) (by decide) c4
      refine v_aload_n (pc' := 23) F dX10_gains_22 rfl 0 rfl rfl ?_
      refine v_get (pc' := 26) (v := .int (bI (¬ lr = 0))) (C := RX10) (T := TX10) (N := 38) F dX10_gains_23 in_X10_gains_X10 0 rfl rfl 0 (by decide) (List.mem_of_getElem? (i := 1) rfl) (congrArg (fun z => some (Value.int z)) hil) rfl ?_
      refine v_bif_eq (tgt := 38) (pc' := 29) F dX10_gains_26 (by decide) rfl (fun c5 => ?_) (fun c5 => ?_)
      · have c5 := Decidable.not_not.mp c5
        refine v_ws (wz := [(o, mO ma (va_up (va_up fi 27 (fi 27)) 26 (nI qe)) fl), (ma 2, aI G 4 tk), (ma 3, aI G 4 gv), (ma 4, aI G 4 pr), (ma 5, aI G 4 py), (ma 7, aI G 5 ks), (ma 8, aI G 5 sx), (ma 24, aB G 40000 fo), (ma 25, aI G 40000 qu)]) (by rw [up_same (f := fi) (k := 27) rfl, up_same (f := fi) (k := 26) hqe]) ?_
        refine v_bipush (pc' := 40) (v := (-103)) F dX10_gains_38 (by decide) rfl ?_
        exact rt dX10_gains_40 (fi 27, qe, fo, qu) ⟨(by unfold A_gains; rw [if_pos (by assumption), if_pos (by assumption), if_pos (by assumption)]), hcq⟩ rfl
      · refine v_aload_n (pc' := 30) F dX10_gains_29 rfl 0 rfl rfl ?_
        refine v_iload_n (pc' := 31) F dX10_gains_30 rfl 1 rfl rfl ?_
        refine v_iload_n (pc' := 32) F dX10_gains_31 rfl 2 rfl rfl ?_
        refine cVI (pc' := 35) (As := [.int (nI g9), .int (nI v9)]) (rest := []) (wr := []) F (c_X10_gainsNow o ma fi fl tk gv pr py ks sx fo qu pe qe g9 v9 hpe h5 hqe hcq (by omega) (by omega) (by omega) (hpr _ (by omega)) hwp hl) (cwV 2 F.2.2.2.2.1 gX10_gains_X10_gainsNow rfl rfl rfl (by decide +kernel) ⟨Nat.le_of_ble_eq_true rfl, Nat.le_of_ble_eq_true rfl⟩) (v_rcvW F 8 0 rfl rfl) rfl rfl (Nat.le_of_ble_eq_true rfl) dX10_gains_32 [0, 1, 2, 3, 4, 5, 6, 7, 8] [] (by decide) rfl rfl (by decide) (by decide) ⟨Nat.zero_le _, Nat.zero_le _⟩ rfl (fun r u q11 => ?_)
        obtain ⟨f27_6, qe2_7, fo2_8, qu2_9⟩ := u
        obtain ⟨rfl, hC_10⟩ := q11
        refine v_ws (wz := [(o, mO ma (va_up (va_up fi 27 f27_6) 26 (nI qe2_7)) fl), (ma 2, aI G 4 tk), (ma 3, aI G 4 gv), (ma 4, aI G 4 pr), (ma 5, aI G 4 py), (ma 7, aI G 5 ks), (ma 8, aI G 5 sx), (ma 24, aB G 40000 fo2_8), (ma 25, aI G 40000 qu2_9)]) rfl ?_
        refine v_goto (tgt := 40) F dX10_gains_35 (by decide) ?_
        exact rt dX10_gains_40 (f27_6, qe2_7, fo2_8, qu2_9) ⟨(by unfold A_gains; rw [if_pos (by assumption), if_pos (by assumption), if_neg (by first | assumption | exact inR_no0 (by assumption) | exact inR_no1 (by assumption) | exact inR_no2 (by assumption) | exact inR_no2 (nle9 (by assumption)) | exact inR_noL (by decide) (by assumption)), tN_nI (t := g9) (by omega), tN_nI (t := v9) (by omega)]), hC_10⟩ rfl
    · refine v_bipush (pc' := 21) (v := (-102)) F dX10_gains_19 (by decide) rfl ?_
      refine v_ws (wz := [(o, mO ma (va_up (va_up fi 27 (fi 27)) 26 (nI qe)) fl), (ma 2, aI G 4 tk), (ma 3, aI G 4 gv), (ma 4, aI G 4 pr), (ma 5, aI G 4 py), (ma 7, aI G 5 ks), (ma 8, aI G 5 sx), (ma 24, aB G 40000 fo), (ma 25, aI G 40000 qu)]) (by rw [up_same (f := fi) (k := 27) rfl, up_same (f := fi) (k := 26) hqe]) ?_
      exact rt dX10_gains_21 (fi 27, qe, fo, qu) ⟨(by unfold A_gains; rw [if_pos (by assumption), if_neg (by first | assumption | exact inR_no0 (by assumption) | exact inR_no1 (by assumption) | exact inR_no2 (by assumption) | exact inR_no2 (nle9 (by assumption)) | exact inR_noL (by decide) (by assumption))]), hcq⟩ rfl
  · refine v_bipush (pc' := 9) (v := (-101)) F dX10_gains_7 (by decide) rfl ?_
    refine v_ws (wz := [(o, mO ma (va_up (va_up fi 27 (fi 27)) 26 (nI qe)) fl), (ma 2, aI G 4 tk), (ma 3, aI G 4 gv), (ma 4, aI G 4 pr), (ma 5, aI G 4 py), (ma 7, aI G 5 ks), (ma 8, aI G 5 sx), (ma 24, aB G 40000 fo), (ma 25, aI G 40000 qu)]) (by rw [up_same (f := fi) (k := 27) rfl, up_same (f := fi) (k := 26) hqe]) ?_
    exact rt dX10_gains_9 (fi 27, qe, fo, qu) ⟨(by unfold A_gains; rw [if_neg (by first | assumption | exact inR_no0 (by assumption) | exact inR_no1 (by assumption) | exact inR_no2 (by assumption) | exact inR_no2 (nle9 (by assumption)) | exact inR_noL (by decide) (by assumption))]), hcq⟩ rfl
