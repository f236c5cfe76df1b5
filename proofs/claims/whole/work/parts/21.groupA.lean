def rm_X10_isPerson : Room := { frames := 1, cells := 0, slots := 0, locals := 22 }
theorem in_X10_isPerson_X10 : ∀ w ∈ u_ws RX10 TX10 38, w ∈ wsX10_isPerson := fun w h => List.mem_cons_of_mem _ (List.mem_append_right _ (h))
set_option maxHeartbeats 4000000 in
set_option maxRecDepth 100000 in
theorem c_X10_isPerson {l : Launch} {D : va_G} {G : gT} (o : Nat) (ma : Nat → Nat) (fi : Nat → Int32) (fl : Nat → Int64) (pe : Nat) (x : Int32) (hpe : fi 6 = nI pe) (h5 : pe ≤ 5) : CtI (σ := Unit) l yX10_isPerson wsX10_isPerson rm_X10_isPerson D G [.ref o, .int x] [(o, mO ma fi fl)] (fun r _ => r = bI (isP pe x)) (fun _ => [(o, mO ma fi fl)]) := by
  refine openZ (maxL := 2) (by decide) rfl (Nat.le_of_ble_eq_true rfl) ?_
  intro pg ev sg mm ags bl me cd A Q F hmn rt
  refine v_lv (lz := [(0, .ref o), (1, .int x)]) rfl ?_
  refine v_iload_n (pc' := 1) F dX10_isPerson_0 rfl 1 rfl rfl ?_
  refine v_iconst (pc' := 2) (v := nI 0) F dX10_isPerson_1 (by decide) rfl ?_
  refine v_aload_n (pc' := 3) F dX10_isPerson_2 rfl 0 rfl rfl ?_
  refine v_get (pc' := 6) (v := .int (nI pe)) (C := RX10) (T := TX10) (N := 38) F dX10_isPerson_3 in_X10_isPerson_X10 0 rfl rfl 6 (by decide) (List.mem_of_getElem? (i := 1) rfl) (congrArg (fun z => some (Value.int z)) hpe) rfl ?_
  refine v_iconst (pc' := 7) (v := nI 1) F dX10_isPerson_6 (by decide) rfl ?_
  refine v_isub (pc' := 8) (z := (nI pe - nI 1)) F dX10_isPerson_7 rfl rfl ?_
  refine cSI0 (pc' := 11) (As := [.int x, .int (nI 0), .int (nI pe - nI 1)]) (rest := []) F (c_X10_within x (nI 0) (nI pe - nI 1)) (va_cwS 3 F.2.2.2.2.1 gX10_isPerson_X10_within rfl rfl rfl (by decide +kernel) ⟨Nat.le_of_ble_eq_true rfl, Nat.le_of_ble_eq_true rfl⟩) rfl rfl (Nat.le_of_ble_eq_true rfl) dX10_isPerson_8 ⟨Nat.zero_le _, Nat.zero_le _⟩ rfl (fun r u q1 => ?_)
  obtain rfl := q1
  exact rt (nar_bI _) dX10_isPerson_11 () (bI_cong (isP_m h5)) rfl
def rm_X10_townNow : Room := { frames := 1, cells := 0, slots := 0, locals := 20 }
theorem in_X10_townNow_X10 : ∀ w ∈ u_ws RX10 TX10 38, w ∈ wsX10_townNow := fun w h => List.mem_cons_of_mem _ (List.mem_append_right _ (h))
set_option maxHeartbeats 4000000 in
set_option maxRecDepth 100000 in
theorem c_X10_townNow {l : Launch} {D : va_G} {G : gT} (o : Nat) (ma : Nat → Nat) (fi : Nat → Int32) (fl : Nat → Int64) (tk gv pr py sx : Nat → Nat) (pe t w : Nat) (hpe : fi 6 = nI pe) (h5 : pe ≤ 5) (ht : t < 4) (hw : w < 5) (hsx : ∀ j, j < 5 → sx j < 40000) : CtI (σ := Unit) l yX10_townNow wsX10_townNow rm_X10_townNow D G [.ref o, .int (nI t), .int (nI w)] [(o, mO ma fi fl), (ma 2, aI G 4 tk), (ma 3, aI G 4 gv), (ma 4, aI G 4 pr), (ma 5, aI G 4 py), (ma 8, aI G 5 sx)] (fun r _ => r = nI (townV tk gv pr py pe sx t w)) (fun _ => [(o, mO ma fi fl), (ma 2, aI G 4 tk), (ma 3, aI G 4 gv), (ma 4, aI G 4 pr), (ma 5, aI G 4 py), (ma 8, aI G 5 sx)]) := by
  refine openI (maxL := 5) (by decide) rfl (Nat.le_of_ble_eq_true rfl) ?_
  intro pg ev sg mm ags bl me cd A Q F hmn rt
  refine v_lv (lz := [(0, .ref o), (1, .int (nI t)), (2, .int (nI w))]) rfl ?_
  refine v_iload_n (pc' := 1) F dX10_townNow_0 rfl 2 rfl rfl ?_
  rcases (show w = 0 ∨ w = 1 ∨ w = 2 ∨ w = 3 ∨ 3 < w by omega) with h1 | h1 | h1 | h1 | h1
  · refine v_nswI (k := 0) (off := 31) (tgt := 32) F dX10_townNow_1 h1 (by decide) (by decide) (by decide) (by decide) (by decide) ?_
    refine v_aload_n (pc' := 33) F dX10_townNow_32 rfl 0 rfl rfl ?_
    refine v_get (pc' := 36) (v := .ref (ma 2)) (C := RX10) (T := TX10) (N := 38) F dX10_townNow_33 in_X10_townNow_X10 0 rfl rfl 2 (by decide) (List.mem_of_getElem? (i := 1) rfl) rfl rfl ?_
    refine v_iload_n (pc' := 37) F dX10_townNow_36 rfl 1 rfl rfl ?_
    refine v_iald (pc' := 38) (z := tk t) F dX10_townNow_37 1 rfl (by omega) (by decide) rfl rfl ?_
    exact rt dX10_townNow_38 () (by unfold townV; rw [if_pos (by assumption)]) rfl
  · refine v_nswI (k := 1) (off := 38) (tgt := 39) F dX10_townNow_1 h1 (by decide) (by decide) (by decide) (by decide) (by decide) ?_
    refine v_aload_n (pc' := 40) F dX10_townNow_39 rfl 0 rfl rfl ?_
    refine v_get (pc' := 43) (v := .ref (ma 3)) (C := RX10) (T := TX10) (N := 38) F dX10_townNow_40 in_X10_townNow_X10 0 rfl rfl 3 (by decide) (List.mem_of_getElem? (i := 2) rfl) rfl rfl ?_
    refine v_iload_n (pc' := 44) F dX10_townNow_43 rfl 1 rfl rfl ?_
    refine v_iald (pc' := 45) (z := gv t) F dX10_townNow_44 2 rfl (by omega) (by decide) rfl rfl ?_
    exact rt dX10_townNow_45 () (by unfold townV; rw [if_neg (by omega), if_pos (by assumption)]) rfl
  · refine v_nswI (k := 2) (off := 45) (tgt := 46) F dX10_townNow_1 h1 (by decide) (by decide) (by decide) (by decide) (by decide) ?_
    refine v_aload_n (pc' := 47) F dX10_townNow_46 rfl 0 rfl rfl ?_
    refine v_get (pc' := 50) (v := .ref (ma 4)) (C := RX10) (T := TX10) (N := 38) F dX10_townNow_47 in_X10_townNow_X10 0 rfl rfl 4 (by decide) (List.mem_of_getElem? (i := 3) rfl) rfl rfl ?_
    refine v_iload_n (pc' := 51) F dX10_townNow_50 rfl 1 rfl rfl ?_
    refine v_iald (pc' := 52) (z := pr t) F dX10_townNow_51 3 rfl (by omega) (by decide) rfl rfl ?_
    exact rt dX10_townNow_52 () (by unfold townV; rw [if_neg (by omega), if_neg (by omega), if_pos (by assumption)]) rfl
  · refine v_nswI (k := 3) (off := 52) (tgt := 53) F dX10_townNow_1 h1 (by decide) (by decide) (by decide) (by decide) (by decide) ?_
    refine v_aload_n (pc' := 54) F dX10_townNow_53 rfl 0 rfl rfl ?_
    refine v_get (pc' := 57) (v := .ref (ma 5)) (C := RX10) (T := TX10) (N := 38) F dX10_townNow_54 in_X10_townNow_X10 0 rfl rfl 5 (by decide) (List.mem_of_getElem? (i := 4) rfl) rfl rfl ?_
    refine v_iload_n (pc' := 58) F dX10_townNow_57 rfl 1 rfl rfl ?_
    refine v_iald (pc' := 59) (z := py t) F dX10_townNow_58 4 rfl (by omega) (by decide) rfl rfl ?_
    exact rt dX10_townNow_59 () (by unfold townV; rw [if_neg (by omega), if_neg (by omega), if_neg (by omega), if_pos (by assumption)]) rfl
  · refine v_nswO (tgt := 60) F dX10_townNow_1 (by omega) (by omega) (by decide) ?_
    refine v_iconst (pc' := 61) (v := nI 0) F dX10_townNow_60 (by decide) rfl ?_
    refine v_istore_n (pc' := 62) (lv' := [(3, .int (nI 0)), (0, .ref o), (1, .int (nI t)), (2, .int (nI w))]) F dX10_townNow_61 rfl (by decide) rfl rfl ?_
    refine v_iconst (pc' := 63) (v := nI 0) F dX10_townNow_62 (by decide) rfl ?_
    refine v_istore (pc' := 65) (lv' := [(4, .int (nI 0)), (3, .int (nI 0)), (0, .ref o), (1, .int (nI t)), (2, .int (nI w))]) F dX10_townNow_63 (by decide) rfl rfl ?_
    have L65 : ∀ (fu : Nat) (j : Nat) (ct : Nat), j ≤ pe → ct = pIn sx t j → pe < j + fu → V pg l ev rm_X10_townNow sg mm ags bl me cd 0 0 Q D A 5 65 [(4, .int (nI j)), (3, .int (nI ct)), (0, .ref o), (1, .int (nI t)), (2, .int (nI w))] [] [(o, mO ma fi fl), (ma 2, aI G 4 tk), (ma 3, aI G 4 gv), (ma 4, aI G 4 pr), (ma 5, aI G 4 py), (ma 8, aI G 5 sx)] := by
      intro fu
      induction fu with
      | zero => intro j ct hj hct hfu; exact absurd hfu (by omega)
      | succ fu ih65 =>
        intro j ct hj hct hfu
        have h8 := pIn_le sx t j
        refine v_iload (pc' := 67) F dX10_townNow_65 0 rfl rfl ?_
        refine v_aload_n (pc' := 68) F dX10_townNow_67 rfl 2 rfl rfl ?_
        refine v_get (pc' := 71) (v := .int (nI pe)) (C := RX10) (T := TX10) (N := 38) F dX10_townNow_68 in_X10_townNow_X10 0 rfl rfl 6 (by decide) (List.mem_of_getElem? (i := 5) rfl) (congrArg (fun z => some (Value.int z)) hpe) rfl ?_
        refine v_ncmp_ge (tgt := 102) (pc' := 74) F dX10_townNow_71 (by omega) (by omega) (by decide) rfl (fun c3 => ?_) (fun c3 => ?_)
        · refine v_iload_n (pc' := 103) F dX10_townNow_102 rfl 1 rfl rfl ?_
          exact rt dX10_townNow_103 () (by unfold townV; rw [if_neg (by omega), if_neg (by omega), if_neg (by omega), if_neg (by omega), hct, show j = pe by omega]) rfl
        · refine v_iload_n (pc' := 75) F dX10_townNow_74 rfl 1 rfl rfl ?_
          refine v_aload_n (pc' := 76) F dX10_townNow_75 rfl 2 rfl rfl ?_
          refine v_get (pc' := 79) (v := .ref (ma 8)) (C := RX10) (T := TX10) (N := 38) F dX10_townNow_76 in_X10_townNow_X10 0 rfl rfl 8 (by decide) (List.mem_of_getElem? (i := 6) rfl) rfl rfl ?_
          refine v_iload (pc' := 81) F dX10_townNow_79 0 rfl rfl ?_
          refine v_iald (pc' := 82) (z := sx j) F dX10_townNow_81 5 rfl (by omega) (by decide) rfl rfl ?_
          have h7 := hsx j (by omega)
          refine cSI0 (pc' := 85) (As := [.int (nI (sx j))]) (rest := [.int (nI ct)]) F (c_X10_townIn (sx j) (by omega)) (va_cwS 1 F.2.2.2.2.1 gX10_townNow_X10_townIn rfl rfl rfl (by decide +kernel) ⟨Nat.le_of_ble_eq_true rfl, Nat.le_of_ble_eq_true rfl⟩) rfl rfl (Nat.le_of_ble_eq_true rfl) dX10_townNow_82 ⟨Nat.zero_le _, Nat.zero_le _⟩ rfl (fun r u q4 => ?_)
          obtain rfl := q4
          refine v_iload_n (pc' := 86) F dX10_townNow_85 rfl 3 rfl rfl ?_
          refine v_ncmp_ne (tgt := 93) (pc' := 89) F dX10_townNow_86 (by omega) (by omega) (by decide) rfl (fun c5 => ?_) (fun c5 => ?_)
          · refine v_iconst (pc' := 94) (v := nI 0) F dX10_townNow_93 (by decide) rfl ?_
            refine v_iadd (pc' := 95) (z := nI (ct + 0)) F dX10_townNow_94 (nI_add _ _) rfl ?_
            refine v_istore_n (pc' := 96) (lv' := [(3, .int (nI (ct + 0))), (4, .int (nI j)), (0, .ref o), (1, .int (nI t)), (2, .int (nI w))]) F dX10_townNow_95 rfl (by decide) rfl rfl ?_
            refine v_iinc (pc' := 99) (v := nI (j + 1)) (lv' := [(4, .int (nI (j + 1))), (3, .int (nI (ct + 0))), (0, .ref o), (1, .int (nI t)), (2, .int (nI w))]) F dX10_townNow_96 1 rfl (nI_add _ _) (by decide) rfl rfl ?_
            refine v_goto (tgt := 65) F dX10_townNow_99 (by decide) ?_
            exact ih65 (j + 1) (ct + 0) (by omega) (by rw [hct, pIn_n (by assumption), Nat.add_zero]) (by omega)
          · refine v_iconst (pc' := 90) (v := nI 1) F dX10_townNow_89 (by decide) rfl ?_
            refine v_goto (tgt := 94) F dX10_townNow_90 (by decide) ?_
            refine v_iadd (pc' := 95) (z := nI (ct + 1)) F dX10_townNow_94 (nI_add _ _) rfl ?_
            refine v_istore_n (pc' := 96) (lv' := [(3, .int (nI (ct + 1))), (4, .int (nI j)), (0, .ref o), (1, .int (nI t)), (2, .int (nI w))]) F dX10_townNow_95 rfl (by decide) rfl rfl ?_
            refine v_iinc (pc' := 99) (v := nI (j + 1)) (lv' := [(4, .int (nI (j + 1))), (3, .int (nI (ct + 1))), (0, .ref o), (1, .int (nI t)), (2, .int (nI w))]) F dX10_townNow_96 1 rfl (nI_add _ _) (by decide) rfl rfl ?_
            refine v_goto (tgt := 65) F dX10_townNow_99 (by decide) ?_
            exact ih65 (j + 1) (ct + 1) (by omega) (by rw [hct, pIn_y (by assumption)]) (by omega)
    exact L65 (pe + 1) 0 0 (by omega) (rfl) (by omega)
def rm_X10_town : Room := { frames := 2, cells := 0, slots := 0, locals := 44 }
theorem in_X10_town_X10 : ∀ w ∈ u_ws RX10 TX10 38, w ∈ wsX10_town := fun w h => List.mem_cons_of_mem _ (List.mem_append_right _ (h))
set_option maxHeartbeats 4000000 in
set_option maxRecDepth 100000 in
theorem c_X10_town {l : Launch} {D : va_G} {G : gT} (o : Nat) (ma : Nat → Nat) (fi : Nat → Int32) (fl : Nat → Int64) (tk gv pr py sx : Nat → Nat) (pe lr : Nat) (x y : Int32) (hil : fi 0 = bI (¬ lr = 0)) (hpe : fi 6 = nI pe) (h5 : pe ≤ 5) (hsx : ∀ j, j < 5 → sx j < 40000) : CtI (σ := Unit) l yX10_town wsX10_town rm_X10_town D G [.ref o, .int x, .int y] [(o, mO ma fi fl), (ma 2, aI G 4 tk), (ma 3, aI G 4 gv), (ma 4, aI G 4 pr), (ma 5, aI G 4 py), (ma 8, aI G 5 sx)] (fun r _ => r = A_town lr tk gv pr py pe sx x y) (fun _ => [(o, mO ma fi fl), (ma 2, aI G 4 tk), (ma 3, aI G 4 gv), (ma 4, aI G 4 pr), (ma 5, aI G 4 py), (ma 8, aI G 5 sx)]) := by
  refine openI (maxL := 3) (by decide) rfl (Nat.le_of_ble_eq_true rfl) ?_
  intro pg ev sg mm ags bl me cd A Q F hmn rt
  refine v_lv (lz := [(0, .ref o), (1, .int x), (2, .int y)]) rfl ?_
  refine v_iload_n (pc' := 1) F dX10_town_0 rfl 1 rfl rfl ?_
  refine cSI0 (pc' := 4) (As := [.int x]) (rest := []) F (c_X10_isTown x) (va_cwS 1 F.2.2.2.2.1 gX10_town_X10_isTown rfl rfl rfl (by decide +kernel) ⟨Nat.le_of_ble_eq_true rfl, Nat.le_of_ble_eq_true rfl⟩) rfl rfl (Nat.le_of_ble_eq_true rfl) dX10_town_1 ⟨Nat.zero_le _, Nat.zero_le _⟩ rfl (fun r u q1 => ?_)
  obtain rfl := q1
  refine v_bif_ne (tgt := 10) (pc' := 7) F dX10_town_4 (by decide) rfl (fun c2 => ?_) (fun c2 => ?_)
  · obtain ⟨t, ht, rfl⟩ := inR_of (by decide) c2
    refine v_iload_n (pc' := 11) F dX10_town_10 rfl 2 rfl rfl ?_
    refine v_iconst (pc' := 12) (v := nI 0) F dX10_town_11 (by decide) rfl ?_
    refine v_iconst (pc' := 13) (v := nI 4) F dX10_town_12 (by decide) rfl ?_
    refine cSI0 (pc' := 16) (As := [.int y, .int (nI 0), .int (nI 4)]) (rest := []) F (c_X10_within y (nI 0) (nI 4)) (va_cwS 3 F.2.2.2.2.1 gX10_town_X10_within rfl rfl rfl (by decide +kernel) ⟨Nat.le_of_ble_eq_true rfl, Nat.le_of_ble_eq_true rfl⟩) rfl rfl (Nat.le_of_ble_eq_true rfl) dX10_town_13 ⟨Nat.zero_le _, Nat.zero_le _⟩ rfl (fun r u q3 => ?_)
    obtain rfl := q3
    refine v_bif_ne (tgt := 22) (pc' := 19) F dX10_town_16 (by decide) rfl (fun c4 => ?_) (fun c4 => ?_)
    · obtain ⟨w, hw, rfl⟩ := inR_of (by decide) c4
      refine v_aload_n (pc' := 23) F dX10_town_22 rfl 0 rfl rfl ?_
      refine v_get (pc' := 26) (v := .int (bI (¬ lr = 0))) (C := RX10) (T := TX10) (N := 38) F dX10_town_23 in_X10_town_X10 0 rfl rfl 0 (by decide) (List.mem_of_getElem? (i := 1) rfl) (congrArg (fun z => some (Value.int z)) hil) rfl ?_
      refine v_bif_eq (tgt := 38) (pc' := 29) F dX10_town_26 (by decide) rfl (fun c5 => ?_) (fun c5 => ?_)
      · have c5 := Decidable.not_not.mp c5
        refine v_bipush (pc' := 40) (v := (-103)) F dX10_town_38 (by decide) rfl ?_
        exact rt dX10_town_40 () (by unfold A_town; rw [if_pos (by assumption), if_pos (by assumption), if_pos (by assumption)]) rfl
      · refine v_aload_n (pc' := 30) F dX10_town_29 rfl 0 rfl rfl ?_
        refine v_iload_n (pc' := 31) F dX10_town_30 rfl 1 rfl rfl ?_
        refine v_iload_n (pc' := 32) F dX10_town_31 rfl 2 rfl rfl ?_
        refine cVI (pc' := 35) (As := [.int (nI t), .int (nI w)]) (rest := []) (wr := []) F (c_X10_townNow o ma fi fl tk gv pr py sx pe t w hpe h5 (by omega) (by omega) hsx) (cwV 2 F.2.2.2.2.1 gX10_town_X10_townNow rfl rfl rfl (by decide +kernel) ⟨Nat.le_of_ble_eq_true rfl, Nat.le_of_ble_eq_true rfl⟩) (v_rcvW F 8 0 rfl rfl) rfl rfl (Nat.le_of_ble_eq_true rfl) dX10_town_32 [0, 1, 2, 3, 4, 5] [] (by decide) rfl rfl (by decide) (by decide) ⟨Nat.zero_le _, Nat.zero_le _⟩ rfl (fun r u q6 => ?_)
        obtain rfl := q6
        refine v_ws (wz := [(o, mO ma fi fl), (ma 2, aI G 4 tk), (ma 3, aI G 4 gv), (ma 4, aI G 4 pr), (ma 5, aI G 4 py), (ma 8, aI G 5 sx)]) rfl ?_
        refine v_goto (tgt := 40) F dX10_town_35 (by decide) ?_
        exact rt dX10_town_40 () (by unfold A_town; rw [if_pos (by assumption), if_pos (by assumption), if_neg (by first | assumption | exact inR_no0 (by assumption) | exact inR_no1 (by assumption) | exact inR_no2 (by assumption) | exact inR_noL (by decide) (by assumption)), tN_nI (t := t) (by omega), tN_nI (t := w) (by omega)]) rfl
    · refine v_bipush (pc' := 21) (v := (-102)) F dX10_town_19 (by decide) rfl ?_
      exact rt dX10_town_21 () (by unfold A_town; rw [if_pos (by assumption), if_neg (by first | assumption | exact inR_no0 (by assumption) | exact inR_no1 (by assumption) | exact inR_no2 (by assumption) | exact inR_noL (by decide) (by assumption))]) rfl
  · refine v_bipush (pc' := 9) (v := (-101)) F dX10_town_7 (by decide) rfl ?_
    exact rt dX10_town_9 () (by unfold A_town; rw [if_neg (by first | assumption | exact inR_no0 (by assumption) | exact inR_no1 (by assumption) | exact inR_no2 (by assumption) | exact inR_noL (by decide) (by assumption))]) rfl
def rm_X10_price : Room := { frames := 2, cells := 0, slots := 0, locals := 42 }
theorem in_X10_price_X10 : ∀ w ∈ u_ws RX10 TX10 38, w ∈ wsX10_price := fun w h => List.mem_cons_of_mem _ (List.mem_append_right _ (h))
set_option maxHeartbeats 4000000 in
set_option maxRecDepth 100000 in
theorem c_X10_price {l : Launch} {D : va_G} {G : gT} (o : Nat) (ma : Nat → Nat) (fi : Nat → Int32) (fl : Nat → Int64) (pr : Nat → Nat) (lr : Nat) (x y : Int32) (hil : fi 0 = bI (¬ lr = 0)) : CtI (σ := (Nat → Nat)) l yX10_price wsX10_price rm_X10_price D G [.ref o, .int x, .int y] [(o, mO ma fi fl), (ma 4, aI G 4 pr)] (fun r u => r = A_price lr pr x y ∧ u = N_price lr pr x y) (fun u => [(o, mO ma fi fl), (ma 4, aI G 4 u)]) := by
  refine openI (maxL := 4) (by decide) rfl (Nat.le_of_ble_eq_true rfl) ?_
  intro pg ev sg mm ags bl me cd A Q F hmn rt
  refine v_lv (lz := [(0, .ref o), (1, .int x), (2, .int y)]) rfl ?_
  refine v_iload_n (pc' := 1) F dX10_price_0 rfl 1 rfl rfl ?_
  refine cSI0 (pc' := 4) (As := [.int x]) (rest := []) F (c_X10_isTown x) (va_cwS 1 F.2.2.2.2.1 gX10_price_X10_isTown rfl rfl rfl (by decide +kernel) ⟨Nat.le_of_ble_eq_true rfl, Nat.le_of_ble_eq_true rfl⟩) rfl rfl (Nat.le_of_ble_eq_true rfl) dX10_price_1 ⟨Nat.zero_le _, Nat.zero_le _⟩ rfl (fun r u q1 => ?_)
  obtain rfl := q1
  refine v_bif_ne (tgt := 10) (pc' := 7) F dX10_price_4 (by decide) rfl (fun c2 => ?_) (fun c2 => ?_)
  · obtain ⟨t, ht, rfl⟩ := inR_of (by decide) c2
    refine v_iload_n (pc' := 11) F dX10_price_10 rfl 2 rfl rfl ?_
    refine v_iconst (pc' := 12) (v := nI 1) F dX10_price_11 (by decide) rfl ?_
    refine v_iconst (pc' := 13) (v := nI 4) F dX10_price_12 (by decide) rfl ?_
    refine cSI0 (pc' := 16) (As := [.int y, .int (nI 1), .int (nI 4)]) (rest := []) F (c_X10_within y (nI 1) (nI 4)) (va_cwS 3 F.2.2.2.2.1 gX10_price_X10_within rfl rfl rfl (by decide +kernel) ⟨Nat.le_of_ble_eq_true rfl, Nat.le_of_ble_eq_true rfl⟩) rfl rfl (Nat.le_of_ble_eq_true rfl) dX10_price_13 ⟨Nat.zero_le _, Nat.zero_le _⟩ rfl (fun r u q3 => ?_)
    obtain rfl := q3
    refine v_bif_ne (tgt := 22) (pc' := 19) F dX10_price_16 (by decide) rfl (fun c4 => ?_) (fun c4 => ?_)
    · obtain ⟨w, hw, rfl⟩ := inR_of2 (by decide) (by decide) c4
      refine v_aload_n (pc' := 23) F dX10_price_22 rfl 0 rfl rfl ?_
      refine v_get (pc' := 26) (v := .int (bI (¬ lr = 0))) (C := RX10) (T := TX10) (N := 38) F dX10_price_23 in_X10_price_X10 0 rfl rfl 0 (by decide) (List.mem_of_getElem? (i := 1) rfl) (congrArg (fun z => some (Value.int z)) hil) rfl ?_
      refine v_bif_ne (tgt := 32) (pc' := 29) F dX10_price_26 (by decide) rfl (fun c5 => ?_) (fun c5 => ?_)
      · refine v_aload_n (pc' := 33) F dX10_price_32 rfl 0 rfl rfl ?_
        refine v_get (pc' := 36) (v := .ref (ma 4)) (C := RX10) (T := TX10) (N := 38) F dX10_price_33 in_X10_price_X10 0 rfl rfl 4 (by decide) (List.mem_of_getElem? (i := 2) rfl) rfl rfl ?_
        refine v_iload_n (pc' := 37) F dX10_price_36 rfl 1 rfl rfl ?_
        refine v_iald (pc' := 38) (z := pr t) F dX10_price_37 1 rfl (by omega) (by decide) rfl rfl ?_
        refine v_istore_n (pc' := 39) (lv' := [(3, .int (nI (pr t))), (0, .ref o), (1, .int (nI t)), (2, .int (nI w))]) F dX10_price_38 rfl (by decide) rfl rfl ?_
        refine v_aload_n (pc' := 40) F dX10_price_39 rfl 1 rfl rfl ?_
        refine v_get (pc' := 43) (v := .ref (ma 4)) (C := RX10) (T := TX10) (N := 38) F dX10_price_40 in_X10_price_X10 0 rfl rfl 4 (by decide) (List.mem_of_getElem? (i := 2) rfl) rfl rfl ?_
        refine v_iload_n (pc' := 44) F dX10_price_43 rfl 2 rfl rfl ?_
        refine v_iload_n (pc' := 45) F dX10_price_44 rfl 3 rfl rfl ?_
        refine v_iast (pc' := 46) (ws' := [(o, mO ma fi fl), (ma 4, aI G 4 (va_up pr t w))]) F dX10_price_45 1 rfl (by omega) (by decide) rfl rfl ?_
        refine v_iload_n (pc' := 47) F dX10_price_46 rfl 0 rfl rfl ?_
        exact rt dX10_price_47 (va_up pr t w) ⟨(by unfold A_price; rw [if_pos (by assumption), if_pos (by assumption), if_neg (by first | assumption | exact inR_no0 (by assumption) | exact inR_no1 (by assumption) | exact inR_no2 (by assumption) | exact inR_noL (by decide) (by assumption)), tN_nI (t := t) (by omega)]), (by unfold N_price; rw [if_pos (by assumption), if_pos (by assumption), if_neg (by first | assumption | exact inR_no0 (by assumption) | exact inR_no1 (by assumption) | exact inR_no2 (by assumption) | exact inR_noL (by decide) (by assumption)), tN_nI (t := t) (by omega), tN_nI (t := w) (by omega)])⟩ rfl
      · have c5 := Decidable.not_not.mp c5
        refine v_bipush (pc' := 31) (v := (-103)) F dX10_price_29 (by decide) rfl ?_
        exact rt dX10_price_31 pr ⟨(by unfold A_price; rw [if_pos (by assumption), if_pos (by assumption), if_pos (by assumption)]), (by unfold N_price; rw [if_pos (by assumption), if_pos (by assumption), if_pos (by assumption)])⟩ rfl
    · refine v_bipush (pc' := 21) (v := (-102)) F dX10_price_19 (by decide) rfl ?_
      exact rt dX10_price_21 pr ⟨(by unfold A_price; rw [if_pos (by assumption), if_neg (by first | assumption | exact inR_no0 (by assumption) | exact inR_no1 (by assumption) | exact inR_no2 (by assumption) | exact inR_noL (by decide) (by assumption))]), (by unfold N_price; rw [if_pos (by assumption), if_neg (by first | assumption | exact inR_no0 (by assumption) | exact inR_no1 (by assumption) | exact inR_no2 (by assumption) | exact inR_noL (by decide) (by assumption))])⟩ rfl
  · refine v_bipush (pc' := 9) (v := (-101)) F dX10_price_7 (by decide) rfl ?_
    exact rt dX10_price_9 pr ⟨(by unfold A_price; rw [if_neg (by first | assumption | exact inR_no0 (by assumption) | exact inR_no1 (by assumption) | exact inR_no2 (by assumption) | exact inR_noL (by decide) (by assumption))]), (by unfold N_price; rw [if_neg (by first | assumption | exact inR_no0 (by assumption) | exact inR_no1 (by assumption) | exact inR_no2 (by assumption) | exact inR_noL (by decide) (by assumption))])⟩ rfl
def rm_X10_person : Room := { frames := 2, cells := 0, slots := 0, locals := 42 }
theorem in_X10_person_X10 : ∀ w ∈ u_ws RX10 TX10 38, w ∈ wsX10_person := fun w h => List.mem_cons_of_mem _ (List.mem_append_right _ (h))
set_option maxHeartbeats 4000000 in
set_option maxRecDepth 100000 in
theorem c_X10_person {l : Launch} {D : va_G} {G : gT} (o : Nat) (ma : Nat → Nat) (fi : Nat → Int32) (fl : Nat → Int64) (ks sx : Nat → Nat) (pe lr : Nat) (x y : Int32) (hil : fi 0 = bI (¬ lr = 0)) (hpe : fi 6 = nI pe) (h5 : pe ≤ 5) : CtI (σ := (Nat → Int32) × (Nat × (Nat → Nat) × (Nat → Nat))) l yX10_person wsX10_person rm_X10_person D G [.ref o, .int x, .int y] [(o, mO ma fi fl), (ma 7, aI G 5 ks), (ma 8, aI G 5 sx)] (fun r u => r = A_person lr pe x y ∧ (u.2) = N_person lr pe x y ks sx ∧ (u.1) = va_up fi 6 (nI (u.2).1)) (fun u => [(o, mO ma (u.1) fl), (ma 7, aI G 5 ((u.2).2.1)), (ma 8, aI G 5 ((u.2).2.2))]) := by
  refine openI (maxL := 3) (by decide) rfl (Nat.le_of_ble_eq_true rfl) ?_
  intro pg ev sg mm ags bl me cd A Q F hmn rt
  refine v_lv (lz := [(0, .ref o), (1, .int x), (2, .int y)]) rfl ?_
  refine v_iload_n (pc' := 1) F dX10_person_0 rfl 2 rfl rfl ?_
  refine cSI0 (pc' := 4) (As := [.int y]) (rest := []) F (c_X10_isTown y) (va_cwS 1 F.2.2.2.2.1 gX10_person_X10_isTown rfl rfl rfl (by decide +kernel) ⟨Nat.le_of_ble_eq_true rfl, Nat.le_of_ble_eq_true rfl⟩) rfl rfl (Nat.le_of_ble_eq_true rfl) dX10_person_1 ⟨Nat.zero_le _, Nat.zero_le _⟩ rfl (fun r u q1 => ?_)
  obtain rfl := q1
  refine v_bif_ne (tgt := 10) (pc' := 7) F dX10_person_4 (by decide) rfl (fun c2 => ?_) (fun c2 => ?_)
  · obtain ⟨t, ht, rfl⟩ := inR_of (by decide) c2
    refine v_iload_n (pc' := 11) F dX10_person_10 rfl 1 rfl rfl ?_
    refine v_iconst (pc' := 12) (v := nI 0) F dX10_person_11 (by decide) rfl ?_
    refine v_iconst (pc' := 13) (v := nI 4) F dX10_person_12 (by decide) rfl ?_
    refine cSI0 (pc' := 16) (As := [.int x, .int (nI 0), .int (nI 4)]) (rest := []) F (c_X10_within x (nI 0) (nI 4)) (va_cwS 3 F.2.2.2.2.1 gX10_person_X10_within rfl rfl rfl (by decide +kernel) ⟨Nat.le_of_ble_eq_true rfl, Nat.le_of_ble_eq_true rfl⟩) rfl rfl (Nat.le_of_ble_eq_true rfl) dX10_person_13 ⟨Nat.zero_le _, Nat.zero_le _⟩ rfl (fun r u q3 => ?_)
    obtain rfl := q3
    refine v_bif_ne (tgt := 22) (pc' := 19) F dX10_person_16 (by decide) rfl (fun c4 => ?_) (fun c4 => ?_)
    · obtain ⟨w, hw, rfl⟩ := inR_of (by decide) c4
      refine v_aload_n (pc' := 23) F dX10_person_22 rfl 0 rfl rfl ?_
      refine v_get (pc' := 26) (v := .int (bI (¬ lr = 0))) (C := RX10) (T := TX10) (N := 38) F dX10_person_23 in_X10_person_X10 0 rfl rfl 0 (by decide) (List.mem_of_getElem? (i := 1) rfl) (congrArg (fun z => some (Value.int z)) hil) rfl ?_
      refine v_bif_ne (tgt := 32) (pc' := 29) F dX10_person_26 (by decide) rfl (fun c5 => ?_) (fun c5 => ?_)
      · refine v_aload_n (pc' := 33) F dX10_person_32 rfl 0 rfl rfl ?_
        refine v_get (pc' := 36) (v := .int (nI pe)) (C := RX10) (T := TX10) (N := 38) F dX10_person_33 in_X10_person_X10 0 rfl rfl 6 (by decide) (List.mem_of_getElem? (i := 2) rfl) (congrArg (fun z => some (Value.int z)) hpe) rfl ?_
        refine v_iconst (pc' := 37) (v := nI 5) F dX10_person_36 (by decide) rfl ?_
        refine v_ncmp_ne (tgt := 43) (pc' := 40) F dX10_person_37 (by omega) (by omega) (by decide) rfl (fun c6 => ?_) (fun c6 => ?_)
        · refine v_aload_n (pc' := 44) F dX10_person_43 rfl 0 rfl rfl ?_
          refine v_get (pc' := 47) (v := .ref (ma 7)) (C := RX10) (T := TX10) (N := 38) F dX10_person_44 in_X10_person_X10 0 rfl rfl 7 (by decide) (List.mem_of_getElem? (i := 3) rfl) rfl rfl ?_
          refine v_aload_n (pc' := 48) F dX10_person_47 rfl 0 rfl rfl ?_
          refine v_get (pc' := 51) (v := .int (nI pe)) (C := RX10) (T := TX10) (N := 38) F dX10_person_48 in_X10_person_X10 0 rfl rfl 6 (by decide) (List.mem_of_getElem? (i := 2) rfl) (congrArg (fun z => some (Value.int z)) hpe) rfl ?_
          refine v_iload_n (pc' := 52) F dX10_person_51 rfl 1 rfl rfl ?_
          refine v_iast (pc' := 53) (ws' := [(o, mO ma fi fl), (ma 7, aI G 5 (va_up ks pe w)), (ma 8, aI G 5 sx)]) F dX10_person_52 1 rfl (by omega) (by decide) rfl rfl ?_
          refine v_aload_n (pc' := 54) F dX10_person_53 rfl 0 rfl rfl ?_
          refine v_get (pc' := 57) (v := .ref (ma 8)) (C := RX10) (T := TX10) (N := 38) F dX10_person_54 in_X10_person_X10 0 rfl rfl 8 (by decide) (List.mem_of_getElem? (i := 4) rfl) rfl rfl ?_
          refine v_aload_n (pc' := 58) F dX10_person_57 rfl 0 rfl rfl ?_
          refine v_get (pc' := 61) (v := .int (nI pe)) (C := RX10) (T := TX10) (N := 38) F dX10_person_58 in_X10_person_X10 0 rfl rfl 6 (by decide) (List.mem_of_getElem? (i := 2) rfl) (congrArg (fun z => some (Value.int z)) hpe) rfl ?_
          refine v_iload_n (pc' := 62) F dX10_person_61 rfl 2 rfl rfl ?_
          refine v_iast (pc' := 63) (ws' := [(o, mO ma fi fl), (ma 7, aI G 5 (va_up ks pe w)), (ma 8, aI G 5 (va_up sx pe t))]) F dX10_person_62 2 rfl (by omega) (by decide) rfl rfl ?_
          refine v_aload_n (pc' := 64) F dX10_person_63 rfl 0 rfl rfl ?_
          refine v_dup (pc' := 65) F dX10_person_64 rfl rfl ?_
          refine v_get (pc' := 68) (v := .int (nI pe)) (C := RX10) (T := TX10) (N := 38) F dX10_person_65 in_X10_person_X10 0 rfl rfl 6 (by decide) (List.mem_of_getElem? (i := 2) rfl) (congrArg (fun z => some (Value.int z)) hpe) rfl ?_
          refine v_iconst (pc' := 69) (v := nI 1) F dX10_person_68 (by decide) rfl ?_
          refine v_iadd (pc' := 70) (z := nI (pe + 1)) F dX10_person_69 (nI_add _ _) rfl ?_
          refine v_put (pc' := 73) (ws' := [(o, mO ma (va_up fi 6 (nI (pe + 1))) fl), (ma 7, aI G 5 (va_up ks pe w)), (ma 8, aI G 5 (va_up sx pe t))]) (C := RX10) (T := TX10) (N := 38) F dX10_person_70 in_X10_person_X10 tyX10_ok nmX10 0 rfl rfl 6 (by decide) (List.mem_of_getElem? (i := 2) rfl) rfl rfl rfl (Nat.le_of_ble_eq_true rfl) rfl rfl ?_
          refine v_aload_n (pc' := 74) F dX10_person_73 rfl 0 rfl rfl ?_
          refine v_get (pc' := 77) (v := .int (nI (pe + 1))) (C := RX10) (T := TX10) (N := 38) F dX10_person_74 in_X10_person_X10 0 rfl rfl 6 (by decide) (List.mem_of_getElem? (i := 2) rfl) rfl rfl ?_
          refine v_iconst (pc' := 78) (v := nI 1) F dX10_person_77 (by decide) rfl ?_
          refine v_isub (pc' := 79) (z := nI ((pe + 1) - 1)) F dX10_person_78 (pk_sub (by omega)) rfl ?_
          exact rt dX10_person_79 ((va_up fi 6 (nI (pe + 1))), pe + 1, va_up ks pe w, va_up sx pe t) ⟨(by unfold A_person; rw [if_pos (by assumption), if_pos (by assumption), if_neg (by first | assumption | exact inR_no0 (by assumption) | exact inR_no1 (by assumption) | exact inR_no2 (by assumption) | exact inR_noL (by decide) (by assumption)), if_neg (by first | assumption | exact inR_no0 (by assumption) | exact inR_no1 (by assumption) | exact inR_no2 (by assumption) | exact inR_noL (by decide) (by assumption))]; rfl), (by unfold N_person; rw [if_pos (by assumption), if_pos (by assumption), if_neg (by first | assumption | exact inR_no0 (by assumption) | exact inR_no1 (by assumption) | exact inR_no2 (by assumption) | exact inR_noL (by decide) (by assumption)), if_neg (by first | assumption | exact inR_no0 (by assumption) | exact inR_no1 (by assumption) | exact inR_no2 (by assumption) | exact inR_noL (by decide) (by assumption)), tN_nI (t := t) (by omega), tN_nI (t := w) (by omega)]), rfl⟩ rfl
        · refine v_bipush (pc' := 42) (v := (-104)) F dX10_person_40 (by decide) rfl ?_
          refine v_ws (wz := [(o, mO ma (va_up fi 6 (nI pe)) fl), (ma 7, aI G 5 ks), (ma 8, aI G 5 sx)]) (by rw [← hpe, up_id]) ?_
          exact rt dX10_person_42 (va_up fi 6 (nI pe), pe, ks, sx) ⟨(by unfold A_person; rw [if_pos (by assumption), if_pos (by assumption), if_neg (by first | assumption | exact inR_no0 (by assumption) | exact inR_no1 (by assumption) | exact inR_no2 (by assumption) | exact inR_noL (by decide) (by assumption)), if_pos (by assumption)]), (by unfold N_person; rw [if_pos (by assumption), if_pos (by assumption), if_neg (by first | assumption | exact inR_no0 (by assumption) | exact inR_no1 (by assumption) | exact inR_no2 (by assumption) | exact inR_noL (by decide) (by assumption)), if_pos (by assumption)]), rfl⟩ rfl
      · have c5 := Decidable.not_not.mp c5
        refine v_bipush (pc' := 31) (v := (-103)) F dX10_person_29 (by decide) rfl ?_
        refine v_ws (wz := [(o, mO ma (va_up fi 6 (nI pe)) fl), (ma 7, aI G 5 ks), (ma 8, aI G 5 sx)]) (by rw [← hpe, up_id]) ?_
        exact rt dX10_person_31 (va_up fi 6 (nI pe), pe, ks, sx) ⟨(by unfold A_person; rw [if_pos (by assumption), if_pos (by assumption), if_pos (by assumption)]), (by unfold N_person; rw [if_pos (by assumption), if_pos (by assumption), if_pos (by assumption)]), rfl⟩ rfl
    · refine v_bipush (pc' := 21) (v := (-102)) F dX10_person_19 (by decide) rfl ?_
      refine v_ws (wz := [(o, mO ma (va_up fi 6 (nI pe)) fl), (ma 7, aI G 5 ks), (ma 8, aI G 5 sx)]) (by rw [← hpe, up_id]) ?_
      exact rt dX10_person_21 (va_up fi 6 (nI pe), pe, ks, sx) ⟨(by unfold A_person; rw [if_pos (by assumption), if_neg (by first | assumption | exact inR_no0 (by assumption) | exact inR_no1 (by assumption) | exact inR_no2 (by assumption) | exact inR_noL (by decide) (by assumption))]), (by unfold N_person; rw [if_pos (by assumption), if_neg (by first | assumption | exact inR_no0 (by assumption) | exact inR_no1 (by assumption) | exact inR_no2 (by assumption) | exact inR_noL (by decide) (by assumption))]), rfl⟩ rfl
  · refine v_bipush (pc' := 9) (v := (-101)) F dX10_person_7 (by decide) rfl ?_
    refine v_ws (wz := [(o, mO ma (va_up fi 6 (nI pe)) fl), (ma 7, aI G 5 ks), (ma 8, aI G 5 sx)]) (by rw [← hpe, up_id]) ?_
    exact rt dX10_person_9 (va_up fi 6 (nI pe), pe, ks, sx) ⟨(by unfold A_person; rw [if_neg (by first | assumption | exact inR_no0 (by assumption) | exact inR_no1 (by assumption) | exact inR_no2 (by assumption) | exact inR_noL (by decide) (by assumption))]), (by unfold N_person; rw [if_neg (by first | assumption | exact inR_no0 (by assumption) | exact inR_no1 (by assumption) | exact inR_no2 (by assumption) | exact inR_noL (by decide) (by assumption))]), rfl⟩ rfl
def rm_X10_personNow : Room := { frames := 3, cells := 0, slots := 0, locals := 61 }
theorem in_X10_personNow_X10 : ∀ w ∈ u_ws RX10 TX10 38, w ∈ wsX10_personNow := fun w h => List.mem_cons_of_mem _ (List.mem_append_right _ (h))
set_option maxHeartbeats 4000000 in
set_option maxRecDepth 100000 in
theorem c_X10_personNow {l : Launch} {D : va_G} {G : gT} (o : Nat) (ma : Nat → Nat) (fi : Nat → Int32) (fl : Nat → Int64) (ks sx pr py : Nat → Nat) (t w : Nat) (ht : t < 5) (hw : w < 6 ∨ (10 ≤ w ∧ w < 14)) (hk : ks t < 5) (hs : sx t < 40000) (hl : ∀ j, j < 4 → 1 ≤ pr j ∧ pr j ≤ 4 ∧ py j ≤ 4) : CtI (σ := Unit) l yX10_personNow wsX10_personNow rm_X10_personNow D G [.ref o, .int (nI t), .int (nI w)] [(o, mO ma fi fl), (ma 4, aI G 4 pr), (ma 5, aI G 4 py), (ma 7, aI G 5 ks), (ma 8, aI G 5 sx)] (fun r _ => r = nI (aboutV ks sx pr py t w)) (fun _ => [(o, mO ma fi fl), (ma 4, aI G 4 pr), (ma 5, aI G 4 py), (ma 7, aI G 5 ks), (ma 8, aI G 5 sx)]) := by
  refine openI (maxL := 4) (by decide) rfl (Nat.le_of_ble_eq_true rfl) ?_
  intro pg ev sg mm ags bl me cd A Q F hmn rt
  refine v_lv (lz := [(0, .ref o), (1, .int (nI t)), (2, .int (nI w))]) rfl ?_
  refine v_aload_n (pc' := 1) F dX10_personNow_0 rfl 0 rfl rfl ?_
  refine v_get (pc' := 4) (v := .ref (ma 8)) (C := RX10) (T := TX10) (N := 38) F dX10_personNow_1 in_X10_personNow_X10 0 rfl rfl 8 (by decide) (List.mem_of_getElem? (i := 1) rfl) rfl rfl ?_
  refine v_iload_n (pc' := 5) F dX10_personNow_4 rfl 1 rfl rfl ?_
  refine v_iald (pc' := 6) (z := sx t) F dX10_personNow_5 4 rfl (by omega) (by decide) rfl rfl ?_
  refine v_istore_n (pc' := 7) (lv' := [(3, .int (nI (sx t))), (0, .ref o), (1, .int (nI t)), (2, .int (nI w))]) F dX10_personNow_6 rfl (by decide) rfl rfl ?_
  refine v_iload_n (pc' := 8) F dX10_personNow_7 rfl 3 rfl rfl ?_
  have h9 := hl (sx t % 4) (Nat.mod_lt _ (by decide))
  rcases (show w = 0 ∨ w = 1 ∨ w = 2 ∨ w = 3 ∨ w = 4 ∨ w = 5 ∨ 5 < w by omega) with h1 | h1 | h1 | h1 | h1 | h1 | h1
  · refine v_nswI (k := 0) (off := 40) (tgt := 48) F dX10_personNow_8 h1 (by decide) (by decide) (by decide) (by decide) (by decide) ?_
    refine v_aload_n (pc' := 49) F dX10_personNow_48 rfl 1 rfl rfl ?_
    refine v_get (pc' := 52) (v := .ref (ma 7)) (C := RX10) (T := TX10) (N := 38) F dX10_personNow_49 in_X10_personNow_X10 0 rfl rfl 7 (by decide) (List.mem_of_getElem? (i := 2) rfl) rfl rfl ?_
    refine v_iload_n (pc' := 53) F dX10_personNow_52 rfl 2 rfl rfl ?_
    refine v_iald (pc' := 54) (z := ks t) F dX10_personNow_53 3 rfl (by omega) (by decide) rfl rfl ?_
    exact rt dX10_personNow_54 () (by unfold aboutV; rw [if_pos (by assumption)]) rfl
  · refine v_nswI (k := 1) (off := 47) (tgt := 55) F dX10_personNow_8 h1 (by decide) (by decide) (by decide) (by decide) (by decide) ?_
    refine v_iload_n (pc' := 56) F dX10_personNow_55 rfl 0 rfl rfl ?_
    refine cSI0 (pc' := 59) (As := [.int (nI (sx t))]) (rest := []) F (c_X10_townIn (sx t) (by omega)) (va_cwS 1 F.2.2.2.2.1 gX10_personNow_X10_townIn rfl rfl rfl (by decide +kernel) ⟨Nat.le_of_ble_eq_true rfl, Nat.le_of_ble_eq_true rfl⟩) rfl rfl (Nat.le_of_ble_eq_true rfl) dX10_personNow_56 ⟨Nat.zero_le _, Nat.zero_le _⟩ rfl (fun r u q2 => ?_)
    obtain rfl := q2
    exact rt dX10_personNow_59 () (by unfold aboutV; rw [if_neg (by omega), if_pos (by assumption)]) rfl
  · refine v_nswI (k := 2) (off := 52) (tgt := 60) F dX10_personNow_8 h1 (by decide) (by decide) (by decide) (by decide) (by decide) ?_
    refine v_iload_n (pc' := 61) F dX10_personNow_60 rfl 0 rfl rfl ?_
    refine cSI0 (pc' := 64) (As := [.int (nI (sx t))]) (rest := []) F (c_X10_goodsIn (sx t) (by omega)) (va_cwS 1 F.2.2.2.2.1 gX10_personNow_X10_goodsIn rfl rfl rfl (by decide +kernel) ⟨Nat.le_of_ble_eq_true rfl, Nat.le_of_ble_eq_true rfl⟩) rfl rfl (Nat.le_of_ble_eq_true rfl) dX10_personNow_61 ⟨Nat.zero_le _, Nat.zero_le _⟩ rfl (fun r u q3 => ?_)
    obtain rfl := q3
    exact rt dX10_personNow_64 () (by unfold aboutV; rw [if_neg (by omega), if_neg (by omega), if_pos (by assumption)]) rfl
  · refine v_nswI (k := 3) (off := 57) (tgt := 65) F dX10_personNow_8 h1 (by decide) (by decide) (by decide) (by decide) (by decide) ?_
    refine v_iload_n (pc' := 66) F dX10_personNow_65 rfl 0 rfl rfl ?_
    refine cSI0 (pc' := 69) (As := [.int (nI (sx t))]) (rest := []) F (c_X10_coinsAll (sx t) (by omega)) (va_cwS 1 F.2.2.2.2.1 gX10_personNow_X10_coinsAll rfl rfl rfl (by decide +kernel) ⟨Nat.le_of_ble_eq_true rfl, Nat.le_of_ble_eq_true rfl⟩) rfl rfl (Nat.le_of_ble_eq_true rfl) dX10_personNow_66 ⟨Nat.zero_le _, Nat.zero_le _⟩ rfl (fun r u q4 => ?_)
    obtain rfl := q4
    exact rt dX10_personNow_69 () (by unfold aboutV; rw [if_neg (by omega), if_neg (by omega), if_neg (by omega), if_pos (by assumption)]) rfl
  · refine v_nswI (k := 4) (off := 62) (tgt := 70) F dX10_personNow_8 h1 (by decide) (by decide) (by decide) (by decide) (by decide) ?_
    refine v_aload_n (pc' := 71) F dX10_personNow_70 rfl 1 rfl rfl ?_
    refine v_aload_n (pc' := 72) F dX10_personNow_71 rfl 1 rfl rfl ?_
    refine v_get (pc' := 75) (v := .ref (ma 7)) (C := RX10) (T := TX10) (N := 38) F dX10_personNow_72 in_X10_personNow_X10 0 rfl rfl 7 (by decide) (List.mem_of_getElem? (i := 2) rfl) rfl rfl ?_
    refine v_iload_n (pc' := 76) F dX10_personNow_75 rfl 2 rfl rfl ?_
    refine v_iald (pc' := 77) (z := ks t) F dX10_personNow_76 3 rfl (by omega) (by decide) rfl rfl ?_
    refine v_iload_n (pc' := 78) F dX10_personNow_77 rfl 0 rfl rfl ?_
    refine cSI0 (pc' := 81) (As := [.int (nI (sx t))]) (rest := [.int (nI (ks t)), .ref o]) F (c_X10_townIn (sx t) (by omega)) (va_cwS 1 F.2.2.2.2.1 gX10_personNow_X10_townIn rfl rfl rfl (by decide +kernel) ⟨Nat.le_of_ble_eq_true rfl, Nat.le_of_ble_eq_true rfl⟩) rfl rfl (Nat.le_of_ble_eq_true rfl) dX10_personNow_78 ⟨Nat.zero_le _, Nat.zero_le _⟩ rfl (fun r u q5 => ?_)
    obtain rfl := q5
    refine cVI (pc' := 84) (As := [.int (nI (ks t)), .int (nI ((sx t) % 4))]) (rest := []) (wr := [(ma 5, aI G 4 py), (ma 7, aI G 5 ks), (ma 8, aI G 5 sx)]) F (c_X10_costs o ma fi fl pr (ks t) ((sx t) % 4) (by omega) (by omega) (by omega) (by omega)) (cwV 2 F.2.2.2.2.1 gX10_personNow_X10_costs rfl rfl rfl (by decide +kernel) ⟨Nat.le_of_ble_eq_true rfl, Nat.le_of_ble_eq_true rfl⟩) (v_rcvW F 8 0 rfl rfl) rfl rfl (Nat.le_of_ble_eq_true rfl) dX10_personNow_81 [0, 1] [2, 3, 4] (by decide) rfl rfl (by decide) (by decide) ⟨Nat.zero_le _, Nat.zero_le _⟩ rfl (fun r u q6 => ?_)
    obtain rfl := q6
    refine v_ws (wz := [(ma 5, aI G 4 py), (ma 7, aI G 5 ks), (ma 8, aI G 5 sx), (o, mO ma fi fl), (ma 4, aI G 4 pr)]) rfl ?_
    refine v_perm (wz := [(o, mO ma fi fl), (ma 4, aI G 4 pr), (ma 5, aI G 4 py), (ma 7, aI G 5 ks), (ma 8, aI G 5 sx)]) [3, 4, 0, 1, 2] (by decide) rfl ?_
    exact rt dX10_personNow_84 () (by unfold aboutV; rw [if_neg (by omega), if_neg (by omega), if_neg (by omega), if_neg (by omega), if_pos (by assumption)]) rfl
  · refine v_nswI (k := 5) (off := 77) (tgt := 85) F dX10_personNow_8 h1 (by decide) (by decide) (by decide) (by decide) (by decide) ?_
    refine v_aload_n (pc' := 86) F dX10_personNow_85 rfl 1 rfl rfl ?_
    refine v_aload_n (pc' := 87) F dX10_personNow_86 rfl 1 rfl rfl ?_
    refine v_get (pc' := 90) (v := .ref (ma 7)) (C := RX10) (T := TX10) (N := 38) F dX10_personNow_87 in_X10_personNow_X10 0 rfl rfl 7 (by decide) (List.mem_of_getElem? (i := 2) rfl) rfl rfl ?_
    refine v_iload_n (pc' := 91) F dX10_personNow_90 rfl 2 rfl rfl ?_
    refine v_iald (pc' := 92) (z := ks t) F dX10_personNow_91 3 rfl (by omega) (by decide) rfl rfl ?_
    refine v_iload_n (pc' := 93) F dX10_personNow_92 rfl 0 rfl rfl ?_
    refine cSI0 (pc' := 96) (As := [.int (nI (sx t))]) (rest := [.int (nI (ks t)), .ref o]) F (c_X10_townIn (sx t) (by omega)) (va_cwS 1 F.2.2.2.2.1 gX10_personNow_X10_townIn rfl rfl rfl (by decide +kernel) ⟨Nat.le_of_ble_eq_true rfl, Nat.le_of_ble_eq_true rfl⟩) rfl rfl (Nat.le_of_ble_eq_true rfl) dX10_personNow_93 ⟨Nat.zero_le _, Nat.zero_le _⟩ rfl (fun r u q7 => ?_)
    obtain rfl := q7
    refine cVI (pc' := 99) (As := [.int (nI (ks t)), .int (nI ((sx t) % 4))]) (rest := []) (wr := [(ma 4, aI G 4 pr), (ma 7, aI G 5 ks), (ma 8, aI G 5 sx)]) F (c_X10_gets o ma fi fl py (ks t) ((sx t) % 4) (by omega) (by omega) (by omega)) (cwV 2 F.2.2.2.2.1 gX10_personNow_X10_gets rfl rfl rfl (by decide +kernel) ⟨Nat.le_of_ble_eq_true rfl, Nat.le_of_ble_eq_true rfl⟩) (v_rcvW F 8 0 rfl rfl) rfl rfl (Nat.le_of_ble_eq_true rfl) dX10_personNow_96 [0, 2] [1, 3, 4] (by decide) rfl rfl (by decide) (by decide) ⟨Nat.zero_le _, Nat.zero_le _⟩ rfl (fun r u q8 => ?_)
    obtain rfl := q8
    refine v_ws (wz := [(ma 4, aI G 4 pr), (ma 7, aI G 5 ks), (ma 8, aI G 5 sx), (o, mO ma fi fl), (ma 5, aI G 4 py)]) rfl ?_
    refine v_perm (wz := [(o, mO ma fi fl), (ma 4, aI G 4 pr), (ma 5, aI G 4 py), (ma 7, aI G 5 ks), (ma 8, aI G 5 sx)]) [3, 0, 4, 1, 2] (by decide) rfl ?_
    exact rt dX10_personNow_99 () (by unfold aboutV; rw [if_neg (by omega), if_neg (by omega), if_neg (by omega), if_neg (by omega), if_neg (by omega), if_pos (by assumption)]) rfl
  · refine v_nswO (tgt := 100) F dX10_personNow_8 (by omega) (by omega) (by decide) ?_
    refine v_iload_n (pc' := 101) F dX10_personNow_100 rfl 0 rfl rfl ?_
    refine v_iload_n (pc' := 102) F dX10_personNow_101 rfl 3 rfl rfl ?_
    refine v_bipush (pc' := 104) (v := nI 10) F dX10_personNow_102 (by decide) rfl ?_
    refine v_isub (pc' := 105) (z := nI (w - 10)) F dX10_personNow_104 (pk_sub (by omega)) rfl ?_
    refine cSI0 (pc' := 108) (As := [.int (nI (sx t)), .int (nI (w - 10))]) (rest := []) F (c_X10_coins (sx t) (w - 10) (by omega) (by omega)) (va_cwS 2 F.2.2.2.2.1 gX10_personNow_X10_coins rfl rfl rfl (by decide +kernel) ⟨Nat.le_of_ble_eq_true rfl, Nat.le_of_ble_eq_true rfl⟩) rfl rfl (Nat.le_of_ble_eq_true rfl) dX10_personNow_105 ⟨Nat.zero_le _, Nat.zero_le _⟩ rfl (fun r u q9 => ?_)
    obtain rfl := q9
    exact rt dX10_personNow_108 () (by unfold aboutV; rw [if_neg (by omega), if_neg (by omega), if_neg (by omega), if_neg (by omega), if_neg (by omega), if_neg (by omega)]) rfl
def rm_X10_about : Room := { frames := 4, cells := 0, slots := 0, locals := 84 }
set_option maxHeartbeats 4000000 in
set_option maxRecDepth 100000 in
theorem c_X10_about {l : Launch} {D : va_G} {G : gT} (o : Nat) (ma : Nat → Nat) (fi : Nat → Int32) (fl : Nat → Int64) (ks sx pr py : Nat → Nat) (pe : Nat) (x y : Int32) (hpe : fi 6 = nI pe) (h5 : pe ≤ 5) (hwp : WPe ks sx) (hl : 0 < pe → ∀ j, j < 4 → 1 ≤ pr j ∧ pr j ≤ 4 ∧ py j ≤ 4) : CtI (σ := Unit) l yX10_about wsX10_about rm_X10_about D G [.ref o, .int x, .int y] [(o, mO ma fi fl), (ma 4, aI G 4 pr), (ma 5, aI G 4 py), (ma 7, aI G 5 ks), (ma 8, aI G 5 sx)] (fun r _ => r = A_about pe ks sx pr py x y) (fun _ => [(o, mO ma fi fl), (ma 4, aI G 4 pr), (ma 5, aI G 4 py), (ma 7, aI G 5 ks), (ma 8, aI G 5 sx)]) := by
  refine openI (maxL := 3) (by decide) rfl (Nat.le_of_ble_eq_true rfl) ?_
  intro pg ev sg mm ags bl me cd A Q F hmn rt
  refine v_lv (lz := [(0, .ref o), (1, .int x), (2, .int y)]) rfl ?_
  refine v_aload_n (pc' := 1) F dX10_about_0 rfl 0 rfl rfl ?_
  refine v_iload_n (pc' := 2) F dX10_about_1 rfl 1 rfl rfl ?_
  refine cVI (pc' := 5) (As := [.int x]) (rest := []) (wr := [(ma 4, aI G 4 pr), (ma 5, aI G 4 py), (ma 7, aI G 5 ks), (ma 8, aI G 5 sx)]) F (c_X10_isPerson o ma fi fl pe x hpe h5) (cwV 1 F.2.2.2.2.1 gX10_about_X10_isPerson rfl rfl rfl (by decide +kernel) ⟨Nat.le_of_ble_eq_true rfl, Nat.le_of_ble_eq_true rfl⟩) (v_rcvW F 8 0 rfl rfl) rfl rfl (Nat.le_of_ble_eq_true rfl) dX10_about_2 [0] [1, 2, 3, 4] (by decide) rfl rfl (by decide) (by decide) ⟨Nat.zero_le _, Nat.zero_le _⟩ rfl (fun r u q1 => ?_)
  obtain rfl := q1
  refine v_ws (wz := [(ma 4, aI G 4 pr), (ma 5, aI G 4 py), (ma 7, aI G 5 ks), (ma 8, aI G 5 sx), (o, mO ma fi fl)]) rfl ?_
  refine v_bif_ne (tgt := 11) (pc' := 8) F dX10_about_5 (by decide) rfl (fun c2 => ?_) (fun c2 => ?_)
  · obtain ⟨t, ht, rfl⟩ := isP_of (by omega) c2
    have hw9 := hwp t (by omega)
    refine v_iload_n (pc' := 12) F dX10_about_11 rfl 2 rfl rfl ?_
    refine v_iconst (pc' := 13) (v := nI 0) F dX10_about_12 (by decide) rfl ?_
    refine v_iconst (pc' := 14) (v := nI 5) F dX10_about_13 (by decide) rfl ?_
    refine cSI0 (pc' := 17) (As := [.int y, .int (nI 0), .int (nI 5)]) (rest := []) F (c_X10_within y (nI 0) (nI 5)) (va_cwS 3 F.2.2.2.2.1 gX10_about_X10_within rfl rfl rfl (by decide +kernel) ⟨Nat.le_of_ble_eq_true rfl, Nat.le_of_ble_eq_true rfl⟩) rfl rfl (Nat.le_of_ble_eq_true rfl) dX10_about_14 ⟨Nat.zero_le _, Nat.zero_le _⟩ rfl (fun r u q3 => ?_)
    obtain rfl := q3
    refine v_bif_ne (tgt := 31) (pc' := 20) F dX10_about_17 (by decide) rfl (fun c4 => ?_) (fun c4 => ?_)
    · obtain ⟨w, hw, rfl⟩ := inR_of (by decide) c4
      refine v_aload_n (pc' := 32) F dX10_about_31 rfl 0 rfl rfl ?_
      refine v_iload_n (pc' := 33) F dX10_about_32 rfl 1 rfl rfl ?_
      refine v_iload_n (pc' := 34) F dX10_about_33 rfl 2 rfl rfl ?_
      refine cVI (pc' := 37) (As := [.int (nI t), .int (nI w)]) (rest := []) (wr := []) F (c_X10_personNow o ma fi fl ks sx pr py t w (by omega) (by omega) hw9.1 hw9.2 (hl (by omega))) (cwV 2 F.2.2.2.2.1 gX10_about_X10_personNow rfl rfl rfl (by decide +kernel) ⟨Nat.le_of_ble_eq_true rfl, Nat.le_of_ble_eq_true rfl⟩) (v_rcvW F 8 4 rfl rfl) rfl rfl (Nat.le_of_ble_eq_true rfl) dX10_about_34 [4, 0, 1, 2, 3] [] (by decide) rfl rfl (by decide) (by decide) ⟨Nat.zero_le _, Nat.zero_le _⟩ rfl (fun r u q5 => ?_)
      obtain rfl := q5
      refine v_ws (wz := [(o, mO ma fi fl), (ma 4, aI G 4 pr), (ma 5, aI G 4 py), (ma 7, aI G 5 ks), (ma 8, aI G 5 sx)]) rfl ?_
      refine v_goto (tgt := 42) F dX10_about_37 (by decide) ?_
      exact rt dX10_about_42 () (by unfold A_about; first | rw [if_pos (by assumption), if_pos (by assumption), tN_nI (t := t) (by omega), tN_nI (t := w) (by omega)] | rw [if_pos (by assumption), if_neg (by assumption), if_pos (by assumption), tN_nI (t := t) (by omega), tN_nI (t := w) (by omega)]) rfl
    · refine v_iload_n (pc' := 21) F dX10_about_20 rfl 2 rfl rfl ?_
      refine v_bipush (pc' := 23) (v := nI 10) F dX10_about_21 (by decide) rfl ?_
      refine v_bipush (pc' := 25) (v := nI 13) F dX10_about_23 (by decide) rfl ?_
      refine cSI0 (pc' := 28) (As := [.int y, .int (nI 10), .int (nI 13)]) (rest := []) F (c_X10_within y (nI 10) (nI 13)) (va_cwS 3 F.2.2.2.2.1 gX10_about_X10_within rfl rfl rfl (by decide +kernel) ⟨Nat.le_of_ble_eq_true rfl, Nat.le_of_ble_eq_true rfl⟩) rfl rfl (Nat.le_of_ble_eq_true rfl) dX10_about_25 ⟨Nat.zero_le _, Nat.zero_le _⟩ rfl (fun r u q6 => ?_)
      obtain rfl := q6
      refine v_bif_eq (tgt := 40) (pc' := 31) F dX10_about_28 (by decide) rfl (fun c7 => ?_) (fun c7 => ?_)
      · refine v_bipush (pc' := 42) (v := (-102)) F dX10_about_40 (by decide) rfl ?_
        refine v_perm (wz := [(o, mO ma fi fl), (ma 4, aI G 4 pr), (ma 5, aI G 4 py), (ma 7, aI G 5 ks), (ma 8, aI G 5 sx)]) [4, 0, 1, 2, 3] (by decide) rfl ?_
        exact rt dX10_about_42 () (by unfold A_about; rw [if_pos (by assumption), if_neg (by first | assumption | exact inR_no0 (by assumption) | exact inR_no1 (by assumption) | exact inR_no2 (by assumption) | exact inR_noL (by decide) (by assumption)), if_neg (by first | assumption | exact inR_no0 (by assumption) | exact inR_no1 (by assumption) | exact inR_no2 (by assumption) | exact inR_noL (by decide) (by assumption))]) rfl
      · obtain ⟨w, hw, rfl⟩ := inR_of2 (by decide) (by decide) c7
        refine v_aload_n (pc' := 32) F dX10_about_31 rfl 0 rfl rfl ?_
        refine v_iload_n (pc' := 33) F dX10_about_32 rfl 1 rfl rfl ?_
        refine v_iload_n (pc' := 34) F dX10_about_33 rfl 2 rfl rfl ?_
        refine cVI (pc' := 37) (As := [.int (nI t), .int (nI w)]) (rest := []) (wr := []) F (c_X10_personNow o ma fi fl ks sx pr py t w (by omega) (by omega) hw9.1 hw9.2 (hl (by omega))) (cwV 2 F.2.2.2.2.1 gX10_about_X10_personNow rfl rfl rfl (by decide +kernel) ⟨Nat.le_of_ble_eq_true rfl, Nat.le_of_ble_eq_true rfl⟩) (v_rcvW F 8 4 rfl rfl) rfl rfl (Nat.le_of_ble_eq_true rfl) dX10_about_34 [4, 0, 1, 2, 3] [] (by decide) rfl rfl (by decide) (by decide) ⟨Nat.zero_le _, Nat.zero_le _⟩ rfl (fun r u q8 => ?_)
        obtain rfl := q8
        refine v_ws (wz := [(o, mO ma fi fl), (ma 4, aI G 4 pr), (ma 5, aI G 4 py), (ma 7, aI G 5 ks), (ma 8, aI G 5 sx)]) rfl ?_
        refine v_goto (tgt := 42) F dX10_about_37 (by decide) ?_
        exact rt dX10_about_42 () (by unfold A_about; first | rw [if_pos (by assumption), if_pos (by assumption), tN_nI (t := t) (by omega), tN_nI (t := w) (by omega)] | rw [if_pos (by assumption), if_neg (by assumption), if_pos (by assumption), tN_nI (t := t) (by omega), tN_nI (t := w) (by omega)]) rfl
  · refine v_bipush (pc' := 10) (v := (-101)) F dX10_about_8 (by decide) rfl ?_
    refine v_perm (wz := [(o, mO ma fi fl), (ma 4, aI G 4 pr), (ma 5, aI G 4 py), (ma 7, aI G 5 ks), (ma 8, aI G 5 sx)]) [4, 0, 1, 2, 3] (by decide) rfl ?_
    exact rt dX10_about_10 () (by unfold A_about; rw [if_neg (by first | assumption | exact inR_no0 (by assumption) | exact inR_no1 (by assumption) | exact inR_no2 (by assumption) | exact inR_noL (by decide) (by assumption))]) rfl
def rm_X10_as : Room := { frames := 2, cells := 0, slots := 0, locals := 43 }
theorem in_X10_as_X10 : ∀ w ∈ u_ws RX10 TX10 38, w ∈ wsX10_as := fun w h => List.mem_cons_of_mem _ (List.mem_append_right _ (h))
set_option maxHeartbeats 4000000 in
set_option maxRecDepth 100000 in
theorem c_X10_as {l : Launch} {D : va_G} {G : gT} (o : Nat) (ma : Nat → Nat) (fi : Nat → Int32) (fl : Nat → Int64) (ks : Nat → Nat) (pe : Nat) (x y : Int32) (hpe : fi 6 = nI pe) (h5 : pe ≤ 5) (hk5 : ∀ j, j < 5 → ks j < 5) : CtI (σ := Unit) l yX10_as wsX10_as rm_X10_as D G [.ref o, .int x, .int y] [(o, mO ma fi fl), (ma 7, aI G 5 ks)] (fun r _ => r = A_as pe ks x y) (fun _ => [(o, mO ma fi fl), (ma 7, aI G 5 ks)]) := by
  refine openI (maxL := 4) (by decide) rfl (Nat.le_of_ble_eq_true rfl) ?_
  intro pg ev sg mm ags bl me cd A Q F hmn rt
  refine v_lv (lz := [(0, .ref o), (1, .int x), (2, .int y)]) rfl ?_
  refine v_aload_n (pc' := 1) F dX10_as_0 rfl 0 rfl rfl ?_
  refine v_iload_n (pc' := 2) F dX10_as_1 rfl 1 rfl rfl ?_
  refine cVI (pc' := 5) (As := [.int x]) (rest := []) (wr := [(ma 7, aI G 5 ks)]) F (c_X10_isPerson o ma fi fl pe x hpe h5) (cwV 1 F.2.2.2.2.1 gX10_as_X10_isPerson rfl rfl rfl (by decide +kernel) ⟨Nat.le_of_ble_eq_true rfl, Nat.le_of_ble_eq_true rfl⟩) (v_rcvW F 8 0 rfl rfl) rfl rfl (Nat.le_of_ble_eq_true rfl) dX10_as_2 [0] [1] (by decide) rfl rfl (by decide) (by decide) ⟨Nat.zero_le _, Nat.zero_le _⟩ rfl (fun r u q1 => ?_)
  obtain rfl := q1
  refine v_ws (wz := [(ma 7, aI G 5 ks), (o, mO ma fi fl)]) rfl ?_
  refine v_bif_ne (tgt := 11) (pc' := 8) F dX10_as_5 (by decide) rfl (fun c2 => ?_) (fun c2 => ?_)
  · obtain ⟨t, ht, rfl⟩ := isP_of (by omega) c2
    have hw9 := hk5 t (by omega)
    refine v_iload_n (pc' := 12) F dX10_as_11 rfl 2 rfl rfl ?_
    refine v_iconst (pc' := 13) (v := nI 0) F dX10_as_12 (by decide) rfl ?_
    refine v_iconst (pc' := 14) (v := nI 4) F dX10_as_13 (by decide) rfl ?_
    refine cSI0 (pc' := 17) (As := [.int y, .int (nI 0), .int (nI 4)]) (rest := []) F (c_X10_within y (nI 0) (nI 4)) (va_cwS 3 F.2.2.2.2.1 gX10_as_X10_within rfl rfl rfl (by decide +kernel) ⟨Nat.le_of_ble_eq_true rfl, Nat.le_of_ble_eq_true rfl⟩) rfl rfl (Nat.le_of_ble_eq_true rfl) dX10_as_14 ⟨Nat.zero_le _, Nat.zero_le _⟩ rfl (fun r u q3 => ?_)
    obtain rfl := q3
    refine v_bif_ne (tgt := 23) (pc' := 20) F dX10_as_17 (by decide) rfl (fun c4 => ?_) (fun c4 => ?_)
    · obtain ⟨w, hw, rfl⟩ := inR_of (by decide) c4
      refine v_aload_n (pc' := 24) F dX10_as_23 rfl 0 rfl rfl ?_
      refine v_get (pc' := 27) (v := .ref (ma 7)) (C := RX10) (T := TX10) (N := 38) F dX10_as_24 in_X10_as_X10 1 rfl rfl 7 (by decide) (List.mem_of_getElem? (i := 1) rfl) rfl rfl ?_
      refine v_iload_n (pc' := 28) F dX10_as_27 rfl 1 rfl rfl ?_
      refine v_iald (pc' := 29) (z := ks t) F dX10_as_28 0 rfl (by omega) (by decide) rfl rfl ?_
      refine v_istore_n (pc' := 30) (lv' := [(3, .int (nI (ks t))), (0, .ref o), (1, .int (nI t)), (2, .int (nI w))]) F dX10_as_29 rfl (by decide) rfl rfl ?_
      refine v_iload_n (pc' := 31) F dX10_as_30 rfl 3 rfl rfl ?_
      refine v_nif_eq (tgt := 49) (pc' := 34) F dX10_as_31 (by omega) (by decide) rfl (fun c5 => ?_) (fun c5 => ?_)
      · refine v_iload_n (pc' := 50) F dX10_as_49 rfl 2 rfl rfl ?_
        refine v_goto (tgt := 54) F dX10_as_50 (by decide) ?_
        refine v_perm (wz := [(o, mO ma fi fl), (ma 7, aI G 5 ks)]) [1, 0] (by decide) rfl ?_
        exact rt dX10_as_54 () (by unfold A_as; rw [if_pos (by assumption), if_pos (by assumption), tN_nI (t := t) (by omega), tN_nI (t := w) (by omega), if_pos (by omega)]) rfl
      · refine v_iload_n (pc' := 35) F dX10_as_34 rfl 0 rfl rfl ?_
        refine v_iload_n (pc' := 36) F dX10_as_35 rfl 3 rfl rfl ?_
        refine v_ncmp_eq (tgt := 49) (pc' := 39) F dX10_as_36 (by omega) (by omega) (by decide) rfl (fun c6 => ?_) (fun c6 => ?_)
        · refine v_iload_n (pc' := 50) F dX10_as_49 rfl 2 rfl rfl ?_
          refine v_goto (tgt := 54) F dX10_as_50 (by decide) ?_
          refine v_perm (wz := [(o, mO ma fi fl), (ma 7, aI G 5 ks)]) [1, 0] (by decide) rfl ?_
          exact rt dX10_as_54 () (by unfold A_as; rw [if_pos (by assumption), if_pos (by assumption), tN_nI (t := t) (by omega), tN_nI (t := w) (by omega), if_pos (by omega)]) rfl
        · refine v_iload_n (pc' := 40) F dX10_as_39 rfl 3 rfl rfl ?_
          refine v_iconst (pc' := 41) (v := nI 3) F dX10_as_40 (by decide) rfl ?_
          refine v_ncmp_ne (tgt := 53) (pc' := 44) F dX10_as_41 (by omega) (by omega) (by decide) rfl (fun c7 => ?_) (fun c7 => ?_)
          · refine v_iconst (pc' := 54) (v := (-1)) F dX10_as_53 (by decide) rfl ?_
            refine v_perm (wz := [(o, mO ma fi fl), (ma 7, aI G 5 ks)]) [1, 0] (by decide) rfl ?_
            exact rt dX10_as_54 () (by unfold A_as; rw [if_pos (by assumption), if_pos (by assumption), tN_nI (t := t) (by omega), tN_nI (t := w) (by omega), if_neg (by omega)]) rfl
          · refine v_iload_n (pc' := 45) F dX10_as_44 rfl 0 rfl rfl ?_
            refine v_iconst (pc' := 46) (v := nI 4) F dX10_as_45 (by decide) rfl ?_
            refine v_ncmp_ne (tgt := 53) (pc' := 49) F dX10_as_46 (by omega) (by omega) (by decide) rfl (fun c8 => ?_) (fun c8 => ?_)
            · refine v_iconst (pc' := 54) (v := (-1)) F dX10_as_53 (by decide) rfl ?_
              refine v_perm (wz := [(o, mO ma fi fl), (ma 7, aI G 5 ks)]) [1, 0] (by decide) rfl ?_
              exact rt dX10_as_54 () (by unfold A_as; rw [if_pos (by assumption), if_pos (by assumption), tN_nI (t := t) (by omega), tN_nI (t := w) (by omega), if_neg (by omega)]) rfl
            · refine v_iload_n (pc' := 50) F dX10_as_49 rfl 2 rfl rfl ?_
              refine v_goto (tgt := 54) F dX10_as_50 (by decide) ?_
              refine v_perm (wz := [(o, mO ma fi fl), (ma 7, aI G 5 ks)]) [1, 0] (by decide) rfl ?_
              exact rt dX10_as_54 () (by unfold A_as; rw [if_pos (by assumption), if_pos (by assumption), tN_nI (t := t) (by omega), tN_nI (t := w) (by omega), if_pos (by omega)]) rfl
    · refine v_bipush (pc' := 22) (v := (-102)) F dX10_as_20 (by decide) rfl ?_
      refine v_perm (wz := [(o, mO ma fi fl), (ma 7, aI G 5 ks)]) [1, 0] (by decide) rfl ?_
      exact rt dX10_as_22 () (by unfold A_as; rw [if_pos (by assumption), if_neg (by first | assumption | exact inR_no0 (by assumption) | exact inR_no1 (by assumption) | exact inR_no2 (by assumption) | exact inR_noL (by decide) (by assumption))]) rfl
  · refine v_bipush (pc' := 10) (v := (-101)) F dX10_as_8 (by decide) rfl ?_
    refine v_perm (wz := [(o, mO ma fi fl), (ma 7, aI G 5 ks)]) [1, 0] (by decide) rfl ?_
    exact rt dX10_as_10 () (by unfold A_as; rw [if_neg (by first | assumption | exact inR_no0 (by assumption) | exact inR_no1 (by assumption) | exact inR_no2 (by assumption) | exact inR_noL (by decide) (by assumption))]) rfl
def rm_X10_purse : Room := { frames := 2, cells := 0, slots := 0, locals := 43 }
theorem in_X10_purse_X10 : ∀ w ∈ u_ws RX10 TX10 38, w ∈ wsX10_purse := fun w h => List.mem_cons_of_mem _ (List.mem_append_right _ (h))
set_option maxHeartbeats 4000000 in
set_option maxRecDepth 100000 in
theorem c_X10_purse {l : Launch} {D : va_G} {G : gT} (o : Nat) (ma : Nat → Nat) (fi : Nat → Int32) (fl : Nat → Int64) (sx : Nat → Nat) (pe : Nat) (x y z : Int32) (hpe : fi 6 = nI pe) (h5 : pe ≤ 5) (hs5 : ∀ j, j < 5 → sx j < 40000) : CtI (σ := (Nat → Nat)) l yX10_purse wsX10_purse rm_X10_purse D G [.ref o, .int x, .int y, .int z] [(o, mO ma fi fl), (ma 8, aI G 5 sx)] (fun r u => r = A_purse pe sx x y z ∧ u = N_purse pe sx x y z) (fun u => [(o, mO ma fi fl), (ma 8, aI G 5 u)]) := by
  refine openI (maxL := 5) (by decide) rfl (Nat.le_of_ble_eq_true rfl) ?_
  intro pg ev sg mm ags bl me cd A Q F hmn rt
  refine v_lv (lz := [(0, .ref o), (1, .int x), (2, .int y), (3, .int z)]) rfl ?_
  refine v_aload_n (pc' := 1) F dX10_purse_0 rfl 0 rfl rfl ?_
  refine v_iload_n (pc' := 2) F dX10_purse_1 rfl 1 rfl rfl ?_
  refine cVI (pc' := 5) (As := [.int x]) (rest := []) (wr := [(ma 8, aI G 5 sx)]) F (c_X10_isPerson o ma fi fl pe x hpe h5) (cwV 1 F.2.2.2.2.1 gX10_purse_X10_isPerson rfl rfl rfl (by decide +kernel) ⟨Nat.le_of_ble_eq_true rfl, Nat.le_of_ble_eq_true rfl⟩) (v_rcvW F 8 0 rfl rfl) rfl rfl (Nat.le_of_ble_eq_true rfl) dX10_purse_2 [0] [1] (by decide) rfl rfl (by decide) (by decide) ⟨Nat.zero_le _, Nat.zero_le _⟩ rfl (fun r u q1 => ?_)
  obtain rfl := q1
  refine v_ws (wz := [(ma 8, aI G 5 sx), (o, mO ma fi fl)]) rfl ?_
  refine v_bif_eq (tgt := 15) (pc' := 8) F dX10_purse_5 (by decide) rfl (fun c2 => ?_) (fun c2 => ?_)
  · refine v_bipush (pc' := 17) (v := (-101)) F dX10_purse_15 (by decide) rfl ?_
    refine v_perm (wz := [(o, mO ma fi fl), (ma 8, aI G 5 sx)]) [1, 0] (by decide) rfl ?_
    exact rt dX10_purse_17 sx ⟨(by unfold A_purse; first | rw [if_neg (by assumption)] | rw [if_pos (by assumption), if_neg (by assumption)]), (by unfold N_purse; first | rw [if_neg (by assumption)] | rw [if_pos (by assumption), if_neg (by assumption)])⟩ rfl
  · obtain ⟨t, ht, rfl⟩ := isP_of (by omega) c2
    have hw9 := hs5 t (by omega)
    refine v_iload_n (pc' := 9) F dX10_purse_8 rfl 2 rfl rfl ?_
    refine cSI0 (pc' := 12) (As := [.int y]) (rest := []) F (c_X10_isTown y) (va_cwS 1 F.2.2.2.2.1 gX10_purse_X10_isTown rfl rfl rfl (by decide +kernel) ⟨Nat.le_of_ble_eq_true rfl, Nat.le_of_ble_eq_true rfl⟩) rfl rfl (Nat.le_of_ble_eq_true rfl) dX10_purse_9 ⟨Nat.zero_le _, Nat.zero_le _⟩ rfl (fun r u q3 => ?_)
    obtain rfl := q3
    refine v_bif_ne (tgt := 18) (pc' := 15) F dX10_purse_12 (by decide) rfl (fun c4 => ?_) (fun c4 => ?_)
    · obtain ⟨w, hw, rfl⟩ := inR_of (by decide) c4
      refine v_iload_n (pc' := 19) F dX10_purse_18 rfl 3 rfl rfl ?_
      refine v_iconst (pc' := 20) (v := nI 0) F dX10_purse_19 (by decide) rfl ?_
      refine v_iconst (pc' := 21) (v := nI 4) F dX10_purse_20 (by decide) rfl ?_
      refine cSI0 (pc' := 24) (As := [.int z, .int (nI 0), .int (nI 4)]) (rest := []) F (c_X10_within z (nI 0) (nI 4)) (va_cwS 3 F.2.2.2.2.1 gX10_purse_X10_within rfl rfl rfl (by decide +kernel) ⟨Nat.le_of_ble_eq_true rfl, Nat.le_of_ble_eq_true rfl⟩) rfl rfl (Nat.le_of_ble_eq_true rfl) dX10_purse_21 ⟨Nat.zero_le _, Nat.zero_le _⟩ rfl (fun r u q5 => ?_)
      obtain rfl := q5
      refine v_bif_ne (tgt := 30) (pc' := 27) F dX10_purse_24 (by decide) rfl (fun c6 => ?_) (fun c6 => ?_)
      · obtain ⟨v, hv, rfl⟩ := inR_of (by decide) c6
        have hd9 := dg_lt (sx t) w
        refine v_aload_n (pc' := 31) F dX10_purse_30 rfl 0 rfl rfl ?_
        refine v_get (pc' := 34) (v := .ref (ma 8)) (C := RX10) (T := TX10) (N := 38) F dX10_purse_31 in_X10_purse_X10 1 rfl rfl 8 (by decide) (List.mem_of_getElem? (i := 1) rfl) rfl rfl ?_
        refine v_iload_n (pc' := 35) F dX10_purse_34 rfl 1 rfl rfl ?_
        refine v_iald (pc' := 36) (z := sx t) F dX10_purse_35 0 rfl (by omega) (by decide) rfl rfl ?_
        refine v_iload_n (pc' := 37) F dX10_purse_36 rfl 2 rfl rfl ?_
        refine cSI0 (pc' := 40) (As := [.int (nI (sx t)), .int (nI w)]) (rest := []) F (c_X10_coins (sx t) w (by omega) (by omega)) (va_cwS 2 F.2.2.2.2.1 gX10_purse_X10_coins rfl rfl rfl (by decide +kernel) ⟨Nat.le_of_ble_eq_true rfl, Nat.le_of_ble_eq_true rfl⟩) rfl rfl (Nat.le_of_ble_eq_true rfl) dX10_purse_37 ⟨Nat.zero_le _, Nat.zero_le _⟩ rfl (fun r u q7 => ?_)
        obtain rfl := q7
        refine v_istore (pc' := 42) (lv' := [(4, .int (nI (dg (sx t) w))), (0, .ref o), (1, .int (nI t)), (2, .int (nI w)), (3, .int (nI v))]) F dX10_purse_40 (by decide) rfl rfl ?_
        refine v_aload_n (pc' := 43) F dX10_purse_42 rfl 1 rfl rfl ?_
        refine v_get (pc' := 46) (v := .ref (ma 8)) (C := RX10) (T := TX10) (N := 38) F dX10_purse_43 in_X10_purse_X10 1 rfl rfl 8 (by decide) (List.mem_of_getElem? (i := 1) rfl) rfl rfl ?_
        refine v_iload_n (pc' := 47) F dX10_purse_46 rfl 2 rfl rfl ?_
        refine v_aload_n (pc' := 48) F dX10_purse_47 rfl 1 rfl rfl ?_
        refine v_get (pc' := 51) (v := .ref (ma 8)) (C := RX10) (T := TX10) (N := 38) F dX10_purse_48 in_X10_purse_X10 1 rfl rfl 8 (by decide) (List.mem_of_getElem? (i := 1) rfl) rfl rfl ?_
        refine v_iload_n (pc' := 52) F dX10_purse_51 rfl 2 rfl rfl ?_
        refine v_iald (pc' := 53) (z := sx t) F dX10_purse_52 0 rfl (by omega) (by decide) rfl rfl ?_
        refine v_iload_n (pc' := 54) F dX10_purse_53 rfl 3 rfl rfl ?_
        refine v_iload_n (pc' := 55) F dX10_purse_54 rfl 4 rfl rfl ?_
        refine v_iload (pc' := 57) F dX10_purse_55 0 rfl rfl ?_
        refine v_isub (pc' := 58) (z := (nI v - nI (dg (sx t) w))) F dX10_purse_57 rfl rfl ?_
        refine cSI0 (pc' := 61) (As := [.int (nI (sx t)), .int (nI w), .int (nI v - nI (dg (sx t) w))]) (rest := [.int (nI t), .ref (ma 8)]) F (c_X10_withCoins (sx t) w v (dg (sx t) w) (by omega) (by omega) (by omega) (by omega)) (va_cwS 3 F.2.2.2.2.1 gX10_purse_X10_withCoins rfl rfl rfl (by decide +kernel) ⟨Nat.le_of_ble_eq_true rfl, Nat.le_of_ble_eq_true rfl⟩) rfl rfl (Nat.le_of_ble_eq_true rfl) dX10_purse_58 ⟨Nat.zero_le _, Nat.zero_le _⟩ rfl (fun r u q8 => ?_)
        obtain rfl := q8
        refine v_iast (pc' := 62) (ws' := [(ma 8, aI G 5 (va_up sx t (wC (sx t) w v (dg (sx t) w)))), (o, mO ma fi fl)]) F dX10_purse_61 0 rfl (by omega) (by decide) rfl rfl ?_
        refine v_iload (pc' := 64) F dX10_purse_62 0 rfl rfl ?_
        refine v_perm (wz := [(o, mO ma fi fl), (ma 8, aI G 5 (va_up sx t (wC (sx t) w v (dg (sx t) w))))]) [1, 0] (by decide) rfl ?_
        exact rt dX10_purse_64 (va_up sx t (wC (sx t) w v (dg (sx t) w))) ⟨(by unfold A_purse; rw [if_pos (by assumption), if_pos (by assumption), if_pos (by assumption), tN_nI (t := t) (by omega), tN_nI (t := w) (by omega)]), (by unfold N_purse; rw [if_pos (by assumption), if_pos (by assumption), if_pos (by assumption), tN_nI (t := t) (by omega), tN_nI (t := w) (by omega), tN_nI (t := v) (by omega)])⟩ rfl
      · refine v_bipush (pc' := 29) (v := (-102)) F dX10_purse_27 (by decide) rfl ?_
        refine v_perm (wz := [(o, mO ma fi fl), (ma 8, aI G 5 sx)]) [1, 0] (by decide) rfl ?_
        exact rt dX10_purse_29 sx ⟨(by unfold A_purse; rw [if_pos (by assumption), if_pos (by assumption), if_neg (by first | assumption | exact inR_no0 (by assumption) | exact inR_no1 (by assumption) | exact inR_no2 (by assumption) | exact inR_noL (by decide) (by assumption))]), (by unfold N_purse; rw [if_pos (by assumption), if_pos (by assumption), if_neg (by first | assumption | exact inR_no0 (by assumption) | exact inR_no1 (by assumption) | exact inR_no2 (by assumption) | exact inR_noL (by decide) (by assumption))])⟩ rfl
    · refine v_bipush (pc' := 17) (v := (-101)) F dX10_purse_15 (by decide) rfl ?_
      refine v_perm (wz := [(o, mO ma fi fl), (ma 8, aI G 5 sx)]) [1, 0] (by decide) rfl ?_
      exact rt dX10_purse_17 sx ⟨(by unfold A_purse; first | rw [if_neg (by assumption)] | rw [if_pos (by assumption), if_neg (by assumption)]), (by unfold N_purse; first | rw [if_neg (by assumption)] | rw [if_pos (by assumption), if_neg (by assumption)])⟩ rfl
def rm_X10_may : Room := { frames := 3, cells := 0, slots := 0, locals := 70 }
theorem in_X10_may_X10 : ∀ w ∈ u_ws RX10 TX10 38, w ∈ wsX10_may := fun w h => List.mem_cons_of_mem _ (List.mem_append_right _ (h))
set_option maxHeartbeats 4000000 in
set_option maxRecDepth 100000 in
theorem c_X10_may {l : Launch} {D : va_G} {G : gT} (o : Nat) (ma : Nat → Nat) (fi : Nat → Int32) (fl : Nat → Int64) (tk gv pr py ks sx : Nat → Nat) (pe : Nat) (x y : Int32) (hpe : fi 6 = nI pe) (h5 : pe ≤ 5) (hwp : WPe ks sx) (hl : 0 < pe → WL tk gv pr py) : CtI (σ := Unit) l yX10_may wsX10_may rm_X10_may D G [.ref o, .int x, .int y] [(o, mO ma fi fl), (ma 2, aI G 4 tk), (ma 3, aI G 4 gv), (ma 4, aI G 4 pr), (ma 5, aI G 4 py), (ma 7, aI G 5 ks), (ma 8, aI G 5 sx)] (fun r _ => r = A_may pe tk gv pr py ks sx x y) (fun _ => [(o, mO ma fi fl), (ma 2, aI G 4 tk), (ma 3, aI G 4 gv), (ma 4, aI G 4 pr), (ma 5, aI G 4 py), (ma 7, aI G 5 ks), (ma 8, aI G 5 sx)]) := by
  refine openI (maxL := 3) (by decide) rfl (Nat.le_of_ble_eq_true rfl) ?_
  intro pg ev sg mm ags bl me cd A Q F hmn rt
  refine v_lv (lz := [(0, .ref o), (1, .int x), (2, .int y)]) rfl ?_
  refine v_aload_n (pc' := 1) F dX10_may_0 rfl 0 rfl rfl ?_
  refine v_iload_n (pc' := 2) F dX10_may_1 rfl 1 rfl rfl ?_
  refine cVI (pc' := 5) (As := [.int x]) (rest := []) (wr := [(ma 2, aI G 4 tk), (ma 3, aI G 4 gv), (ma 4, aI G 4 pr), (ma 5, aI G 4 py), (ma 7, aI G 5 ks), (ma 8, aI G 5 sx)]) F (c_X10_isPerson o ma fi fl pe x hpe h5) (cwV 1 F.2.2.2.2.1 gX10_may_X10_isPerson rfl rfl rfl (by decide +kernel) ⟨Nat.le_of_ble_eq_true rfl, Nat.le_of_ble_eq_true rfl⟩) (v_rcvW F 8 0 rfl rfl) rfl rfl (Nat.le_of_ble_eq_true rfl) dX10_may_2 [0] [1, 2, 3, 4, 5, 6] (by decide) rfl rfl (by decide) (by decide) ⟨Nat.zero_le _, Nat.zero_le _⟩ rfl (fun r u q1 => ?_)
  obtain rfl := q1
  refine v_ws (wz := [(ma 2, aI G 4 tk), (ma 3, aI G 4 gv), (ma 4, aI G 4 pr), (ma 5, aI G 4 py), (ma 7, aI G 5 ks), (ma 8, aI G 5 sx), (o, mO ma fi fl)]) rfl ?_
  refine v_bif_eq (tgt := 15) (pc' := 8) F dX10_may_5 (by decide) rfl (fun c2 => ?_) (fun c2 => ?_)
  · refine v_bipush (pc' := 17) (v := (-101)) F dX10_may_15 (by decide) rfl ?_
    refine v_perm (wz := [(o, mO ma fi fl), (ma 2, aI G 4 tk), (ma 3, aI G 4 gv), (ma 4, aI G 4 pr), (ma 5, aI G 4 py), (ma 7, aI G 5 ks), (ma 8, aI G 5 sx)]) [6, 0, 1, 2, 3, 4, 5] (by decide) rfl ?_
    exact rt dX10_may_17 () (by unfold A_may; first | rw [if_neg (by assumption)] | rw [if_pos (by assumption), if_neg (by assumption)]) rfl
  · obtain ⟨t, ht, rfl⟩ := isP_of (by omega) c2
    have hw9 := hwp t (by omega)
    have hl9 := hl (by omega)
    refine v_iload_n (pc' := 9) F dX10_may_8 rfl 2 rfl rfl ?_
    refine cSI0 (pc' := 12) (As := [.int y]) (rest := []) F (c_X10_isAct y) (va_cwS 1 F.2.2.2.2.1 gX10_may_X10_isAct rfl rfl rfl (by decide +kernel) ⟨Nat.le_of_ble_eq_true rfl, Nat.le_of_ble_eq_true rfl⟩) rfl rfl (Nat.le_of_ble_eq_true rfl) dX10_may_9 ⟨Nat.zero_le _, Nat.zero_le _⟩ rfl (fun r u q3 => ?_)
    obtain rfl := q3
    refine v_bif_ne (tgt := 18) (pc' := 15) F dX10_may_12 (by decide) rfl (fun c4 => ?_) (fun c4 => ?_)
    · obtain ⟨w, hw, rfl⟩ := aOkI_of c4
      have hw24 := aOk_lt hw
      refine v_aload_n (pc' := 19) F dX10_may_18 rfl 0 rfl rfl ?_
      refine v_aload_n (pc' := 20) F dX10_may_19 rfl 0 rfl rfl ?_
      refine v_get (pc' := 23) (v := .ref (ma 7)) (C := RX10) (T := TX10) (N := 38) F dX10_may_20 in_X10_may_X10 6 rfl rfl 7 (by decide) (List.mem_of_getElem? (i := 1) rfl) rfl rfl ?_
      refine v_iload_n (pc' := 24) F dX10_may_23 rfl 1 rfl rfl ?_
      refine v_iald (pc' := 25) (z := ks t) F dX10_may_24 4 rfl (by omega) (by decide) rfl rfl ?_
      refine v_aload_n (pc' := 26) F dX10_may_25 rfl 0 rfl rfl ?_
      refine v_get (pc' := 29) (v := .ref (ma 8)) (C := RX10) (T := TX10) (N := 38) F dX10_may_26 in_X10_may_X10 6 rfl rfl 8 (by decide) (List.mem_of_getElem? (i := 2) rfl) rfl rfl ?_
      refine v_iload_n (pc' := 30) F dX10_may_29 rfl 1 rfl rfl ?_
      refine v_iald (pc' := 31) (z := sx t) F dX10_may_30 5 rfl (by omega) (by decide) rfl rfl ?_
      refine v_iload_n (pc' := 32) F dX10_may_31 rfl 2 rfl rfl ?_
      refine cVI (pc' := 35) (As := [.int (nI (ks t)), .int (nI (sx t)), .int (nI w)]) (rest := []) (wr := [(ma 7, aI G 5 ks), (ma 8, aI G 5 sx)]) F (c_X10_behind o ma fi fl tk gv pr py (ks t) (sx t) w hl9 hw9.1 hw9.2 hw) (cwV 3 F.2.2.2.2.1 gX10_may_X10_behind rfl rfl rfl (by decide +kernel) ⟨Nat.le_of_ble_eq_true rfl, Nat.le_of_ble_eq_true rfl⟩) (v_rcvW F 8 6 rfl rfl) rfl rfl (Nat.le_of_ble_eq_true rfl) dX10_may_32 [6, 0, 1, 2, 3] [4, 5] (by decide) rfl rfl (by decide) (by decide) ⟨Nat.zero_le _, Nat.zero_le _⟩ rfl (fun r u q5 => ?_)
      obtain rfl := q5
      refine v_ws (wz := [(ma 7, aI G 5 ks), (ma 8, aI G 5 sx), (o, mO ma fi fl), (ma 2, aI G 4 tk), (ma 3, aI G 4 gv), (ma 4, aI G 4 pr), (ma 5, aI G 4 py)]) rfl ?_
      cases hb7 : mB (ks t) tk gv pr py (sx t) w with
      | none =>
        refine v_top (oM_none rfl) ?_
        refine v_iconst (pc' := 36) (v := (-1)) F dX10_may_35 (by decide) rfl ?_
        refine v_icmp_ne (tgt := 43) (pc' := 39) F dX10_may_36 (by decide) rfl (fun c8 => ?_) (fun c8 => ?_)
        · exact absurd rfl c8
        · refine v_iconst (pc' := 40) (v := nI 0) F dX10_may_39 (by decide) rfl ?_
          refine v_goto (tgt := 44) F dX10_may_40 (by decide) ?_
          refine v_perm (wz := [(o, mO ma fi fl), (ma 2, aI G 4 tk), (ma 3, aI G 4 gv), (ma 4, aI G 4 pr), (ma 5, aI G 4 py), (ma 7, aI G 5 ks), (ma 8, aI G 5 sx)]) [2, 3, 4, 5, 6, 0, 1] (by decide) rfl ?_
          exact rt dX10_may_44 () (by unfold A_may pB1; rw [if_pos (by assumption), if_pos (by assumption), tN_nI (t := t) (by omega), tN_nI (t := w) (by omega), hb7]; rfl) rfl
      | some k6 =>
        refine v_top (oM_some rfl) ?_
        have hk := bh_lt (WL_WD (ks t) hl9) hw9.2 hw hb7
        refine v_iconst (pc' := 36) (v := (-1)) F dX10_may_35 (by decide) rfl ?_
        refine v_icmp_ne (tgt := 43) (pc' := 39) F dX10_may_36 (by decide) rfl (fun c9 => ?_) (fun c9 => ?_)
        · refine v_iconst (pc' := 44) (v := nI 1) F dX10_may_43 (by decide) rfl ?_
          refine v_perm (wz := [(o, mO ma fi fl), (ma 2, aI G 4 tk), (ma 3, aI G 4 gv), (ma 4, aI G 4 pr), (ma 5, aI G 4 py), (ma 7, aI G 5 ks), (ma 8, aI G 5 sx)]) [2, 3, 4, 5, 6, 0, 1] (by decide) rfl ?_
          exact rt dX10_may_44 () (by unfold A_may pB1; rw [if_pos (by assumption), if_pos (by assumption), tN_nI (t := t) (by omega), tN_nI (t := w) (by omega), hb7]; rfl) rfl
        · exact absurd c9 (ni_m1 (by omega))
    · refine v_bipush (pc' := 17) (v := (-101)) F dX10_may_15 (by decide) rfl ?_
      refine v_perm (wz := [(o, mO ma fi fl), (ma 2, aI G 4 tk), (ma 3, aI G 4 gv), (ma 4, aI G 4 pr), (ma 5, aI G 4 py), (ma 7, aI G 5 ks), (ma 8, aI G 5 sx)]) [6, 0, 1, 2, 3, 4, 5] (by decide) rfl ?_
      exact rt dX10_may_17 () (by unfold A_may; first | rw [if_neg (by assumption)] | rw [if_pos (by assumption), if_neg (by assumption)]) rfl
def rm_X10_act : Room := { frames := 3, cells := 0, slots := 0, locals := 70 }
theorem in_X10_act_X10 : ∀ w ∈ u_ws RX10 TX10 38, w ∈ wsX10_act := fun w h => List.mem_cons_of_mem _ (List.mem_append_right _ (h))
set_option maxHeartbeats 4000000 in
set_option maxRecDepth 100000 in
theorem c_X10_act {l : Launch} {D : va_G} {G : gT} (o : Nat) (ma : Nat → Nat) (fi : Nat → Int32) (fl : Nat → Int64) (tk gv pr py ks sx : Nat → Nat) (pe ac : Nat) (x y : Int32) (hpe : fi 6 = nI pe) (h5 : pe ≤ 5) (hac : fi 9 = nI ac) (hwp : WPe ks sx) (hl : 0 < pe → WL tk gv pr py) : CtI (σ := (Nat → Int32) × ((Nat → Nat) × Nat)) l yX10_act wsX10_act rm_X10_act D G [.ref o, .int x, .int y] [(o, mO ma fi fl), (ma 2, aI G 4 tk), (ma 3, aI G 4 gv), (ma 4, aI G 4 pr), (ma 5, aI G 4 py), (ma 7, aI G 5 ks), (ma 8, aI G 5 sx)] (fun r u => r = A_act pe tk gv pr py ks sx x y ∧ (u.2) = N_act pe tk gv pr py ks sx ac x y ∧ (u.1) = va_up fi 9 (nI (u.2).2)) (fun u => [(o, mO ma (u.1) fl), (ma 2, aI G 4 tk), (ma 3, aI G 4 gv), (ma 4, aI G 4 pr), (ma 5, aI G 4 py), (ma 7, aI G 5 ks), (ma 8, aI G 5 ((u.2).1))]) := by
  refine openI (maxL := 4) (by decide) rfl (Nat.le_of_ble_eq_true rfl) ?_
  intro pg ev sg mm ags bl me cd A Q F hmn rt
  refine v_lv (lz := [(0, .ref o), (1, .int x), (2, .int y)]) rfl ?_
  refine v_aload_n (pc' := 1) F dX10_act_0 rfl 0 rfl rfl ?_
  refine v_iload_n (pc' := 2) F dX10_act_1 rfl 1 rfl rfl ?_
  refine cVI (pc' := 5) (As := [.int x]) (rest := []) (wr := [(ma 2, aI G 4 tk), (ma 3, aI G 4 gv), (ma 4, aI G 4 pr), (ma 5, aI G 4 py), (ma 7, aI G 5 ks), (ma 8, aI G 5 sx)]) F (c_X10_isPerson o ma fi fl pe x hpe h5) (cwV 1 F.2.2.2.2.1 gX10_act_X10_isPerson rfl rfl rfl (by decide +kernel) ⟨Nat.le_of_ble_eq_true rfl, Nat.le_of_ble_eq_true rfl⟩) (v_rcvW F 8 0 rfl rfl) rfl rfl (Nat.le_of_ble_eq_true rfl) dX10_act_2 [0] [1, 2, 3, 4, 5, 6] (by decide) rfl rfl (by decide) (by decide) ⟨Nat.zero_le _, Nat.zero_le _⟩ rfl (fun r u q1 => ?_)
  obtain rfl := q1
  refine v_ws (wz := [(ma 2, aI G 4 tk), (ma 3, aI G 4 gv), (ma 4, aI G 4 pr), (ma 5, aI G 4 py), (ma 7, aI G 5 ks), (ma 8, aI G 5 sx), (o, mO ma fi fl)]) rfl ?_
  refine v_bif_eq (tgt := 15) (pc' := 8) F dX10_act_5 (by decide) rfl (fun c2 => ?_) (fun c2 => ?_)
  · refine v_bipush (pc' := 17) (v := (-101)) F dX10_act_15 (by decide) rfl ?_
    refine v_ws (wz := [(ma 2, aI G 4 tk), (ma 3, aI G 4 gv), (ma 4, aI G 4 pr), (ma 5, aI G 4 py), (ma 7, aI G 5 ks), (ma 8, aI G 5 sx), (o, mO ma (va_up fi 9 (nI ac)) fl)]) (by rw [← hac, up_id]) ?_
    refine v_perm (wz := [(o, mO ma (va_up fi 9 (nI ac)) fl), (ma 2, aI G 4 tk), (ma 3, aI G 4 gv), (ma 4, aI G 4 pr), (ma 5, aI G 4 py), (ma 7, aI G 5 ks), (ma 8, aI G 5 sx)]) [6, 0, 1, 2, 3, 4, 5] (by decide) rfl ?_
    exact rt dX10_act_17 ((va_up fi 9 (nI ac)), sx, ac) ⟨(by unfold A_act; first | rw [if_neg (by assumption)] | rw [if_pos (by assumption), if_neg (by assumption)]), (by unfold N_act; first | rw [if_neg (by assumption)] | rw [if_pos (by assumption), if_neg (by assumption)]), rfl⟩ rfl
  · obtain ⟨t, ht, rfl⟩ := isP_of (by omega) c2
    have hw9 := hwp t (by omega)
    have hl9 := hl (by omega)
    refine v_iload_n (pc' := 9) F dX10_act_8 rfl 2 rfl rfl ?_
    refine cSI0 (pc' := 12) (As := [.int y]) (rest := []) F (c_X10_isAct y) (va_cwS 1 F.2.2.2.2.1 gX10_act_X10_isAct rfl rfl rfl (by decide +kernel) ⟨Nat.le_of_ble_eq_true rfl, Nat.le_of_ble_eq_true rfl⟩) rfl rfl (Nat.le_of_ble_eq_true rfl) dX10_act_9 ⟨Nat.zero_le _, Nat.zero_le _⟩ rfl (fun r u q3 => ?_)
    obtain rfl := q3
    refine v_bif_ne (tgt := 18) (pc' := 15) F dX10_act_12 (by decide) rfl (fun c4 => ?_) (fun c4 => ?_)
    · obtain ⟨w, hw, rfl⟩ := aOkI_of c4
      have hw24 := aOk_lt hw
      refine v_aload_n (pc' := 19) F dX10_act_18 rfl 0 rfl rfl ?_
      refine v_aload_n (pc' := 20) F dX10_act_19 rfl 0 rfl rfl ?_
      refine v_get (pc' := 23) (v := .ref (ma 7)) (C := RX10) (T := TX10) (N := 38) F dX10_act_20 in_X10_act_X10 6 rfl rfl 7 (by decide) (List.mem_of_getElem? (i := 1) rfl) rfl rfl ?_
      refine v_iload_n (pc' := 24) F dX10_act_23 rfl 1 rfl rfl ?_
      refine v_iald (pc' := 25) (z := ks t) F dX10_act_24 4 rfl (by omega) (by decide) rfl rfl ?_
      refine v_aload_n (pc' := 26) F dX10_act_25 rfl 0 rfl rfl ?_
      refine v_get (pc' := 29) (v := .ref (ma 8)) (C := RX10) (T := TX10) (N := 38) F dX10_act_26 in_X10_act_X10 6 rfl rfl 8 (by decide) (List.mem_of_getElem? (i := 2) rfl) rfl rfl ?_
      refine v_iload_n (pc' := 30) F dX10_act_29 rfl 1 rfl rfl ?_
      refine v_iald (pc' := 31) (z := sx t) F dX10_act_30 5 rfl (by omega) (by decide) rfl rfl ?_
      refine v_iload_n (pc' := 32) F dX10_act_31 rfl 2 rfl rfl ?_
      refine cVI (pc' := 35) (As := [.int (nI (ks t)), .int (nI (sx t)), .int (nI w)]) (rest := []) (wr := [(ma 7, aI G 5 ks), (ma 8, aI G 5 sx)]) F (c_X10_behind o ma fi fl tk gv pr py (ks t) (sx t) w hl9 hw9.1 hw9.2 hw) (cwV 3 F.2.2.2.2.1 gX10_act_X10_behind rfl rfl rfl (by decide +kernel) ⟨Nat.le_of_ble_eq_true rfl, Nat.le_of_ble_eq_true rfl⟩) (v_rcvW F 8 6 rfl rfl) rfl rfl (Nat.le_of_ble_eq_true rfl) dX10_act_32 [6, 0, 1, 2, 3] [4, 5] (by decide) rfl rfl (by decide) (by decide) ⟨Nat.zero_le _, Nat.zero_le _⟩ rfl (fun r u q5 => ?_)
      obtain rfl := q5
      refine v_ws (wz := [(ma 7, aI G 5 ks), (ma 8, aI G 5 sx), (o, mO ma fi fl), (ma 2, aI G 4 tk), (ma 3, aI G 4 gv), (ma 4, aI G 4 pr), (ma 5, aI G 4 py)]) rfl ?_
      cases hb7 : mB (ks t) tk gv pr py (sx t) w with
      | none =>
        refine v_top (oM_none rfl) ?_
        refine v_istore_n (pc' := 36) (lv' := [(3, .int (-1)), (0, .ref o), (1, .int (nI t)), (2, .int (nI w))]) F dX10_act_35 rfl (by decide) rfl rfl ?_
        refine v_iload_n (pc' := 37) F dX10_act_36 rfl 0 rfl rfl ?_
        refine v_iconst (pc' := 38) (v := (-1)) F dX10_act_37 (by decide) rfl ?_
        refine v_icmp_ne (tgt := 44) (pc' := 41) F dX10_act_38 (by decide) rfl (fun c8 => ?_) (fun c8 => ?_)
        · exact absurd rfl c8
        · refine v_bipush (pc' := 43) (v := (-103)) F dX10_act_41 (by decide) rfl ?_
          refine v_ws (wz := [(ma 7, aI G 5 ks), (ma 8, aI G 5 sx), (o, mO ma (va_up fi 9 (nI ac)) fl), (ma 2, aI G 4 tk), (ma 3, aI G 4 gv), (ma 4, aI G 4 pr), (ma 5, aI G 4 py)]) (by rw [← hac, up_id]) ?_
          refine v_perm (wz := [(o, mO ma (va_up fi 9 (nI ac)) fl), (ma 2, aI G 4 tk), (ma 3, aI G 4 gv), (ma 4, aI G 4 pr), (ma 5, aI G 4 py), (ma 7, aI G 5 ks), (ma 8, aI G 5 sx)]) [2, 3, 4, 5, 6, 0, 1] (by decide) rfl ?_
          exact rt dX10_act_43 ((va_up fi 9 (nI ac)), sx, ac) ⟨(by unfold A_act pB1; rw [if_pos (by assumption), if_pos (by assumption), tN_nI (t := t) (by omega), tN_nI (t := w) (by omega), hb7]), (by unfold N_act pB1; rw [if_pos (by assumption), if_pos (by assumption), tN_nI (t := t) (by omega), tN_nI (t := w) (by omega), hb7]), rfl⟩ rfl
      | some k6 =>
        refine v_top (oM_some rfl) ?_
        have hk := bh_lt (WL_WD (ks t) hl9) hw9.2 hw hb7
        refine v_istore_n (pc' := 36) (lv' := [(3, .int (nI k6)), (0, .ref o), (1, .int (nI t)), (2, .int (nI w))]) F dX10_act_35 rfl (by decide) rfl rfl ?_
        refine v_iload_n (pc' := 37) F dX10_act_36 rfl 0 rfl rfl ?_
        refine v_iconst (pc' := 38) (v := (-1)) F dX10_act_37 (by decide) rfl ?_
        refine v_icmp_ne (tgt := 44) (pc' := 41) F dX10_act_38 (by decide) rfl (fun c9 => ?_) (fun c9 => ?_)
        · refine v_aload_n (pc' := 45) F dX10_act_44 rfl 1 rfl rfl ?_
          refine v_get (pc' := 48) (v := .ref (ma 8)) (C := RX10) (T := TX10) (N := 38) F dX10_act_45 in_X10_act_X10 2 rfl rfl 8 (by decide) (List.mem_of_getElem? (i := 2) rfl) rfl rfl ?_
          refine v_iload_n (pc' := 49) F dX10_act_48 rfl 2 rfl rfl ?_
          refine v_iload_n (pc' := 50) F dX10_act_49 rfl 0 rfl rfl ?_
          refine v_iast (pc' := 51) (ws' := [(ma 7, aI G 5 ks), (ma 8, aI G 5 (va_up sx t k6)), (o, mO ma fi fl), (ma 2, aI G 4 tk), (ma 3, aI G 4 gv), (ma 4, aI G 4 pr), (ma 5, aI G 4 py)]) F dX10_act_50 1 rfl (by omega) (by decide) rfl rfl ?_
          refine v_aload_n (pc' := 52) F dX10_act_51 rfl 1 rfl rfl ?_
          refine v_dup (pc' := 53) F dX10_act_52 rfl rfl ?_
          refine v_get (pc' := 56) (v := .int (nI ac)) (C := RX10) (T := TX10) (N := 38) F dX10_act_53 in_X10_act_X10 2 rfl rfl 9 (by decide) (List.mem_of_getElem? (i := 3) rfl) (congrArg (fun z => some (Value.int z)) hac) rfl ?_
          refine v_iconst (pc' := 57) (v := nI 1) F dX10_act_56 (by decide) rfl ?_
          refine v_iadd (pc' := 58) (z := nI (ac + 1)) F dX10_act_57 (nI_add _ _) rfl ?_
          refine v_put (pc' := 61) (ws' := [(ma 7, aI G 5 ks), (ma 8, aI G 5 (va_up sx t k6)), (o, mO ma (va_up fi 9 (nI (ac + 1))) fl), (ma 2, aI G 4 tk), (ma 3, aI G 4 gv), (ma 4, aI G 4 pr), (ma 5, aI G 4 py)]) (C := RX10) (T := TX10) (N := 38) F dX10_act_58 in_X10_act_X10 tyX10_ok nmX10 2 rfl rfl 9 (by decide) (List.mem_of_getElem? (i := 3) rfl) rfl rfl rfl (Nat.le_of_ble_eq_true rfl) rfl rfl ?_
          refine v_iload_n (pc' := 62) F dX10_act_61 rfl 0 rfl rfl ?_
          refine cSI0 (pc' := 65) (As := [.int (nI k6)]) (rest := []) F (c_X10_coinsAll k6 (by omega)) (va_cwS 1 F.2.2.2.2.1 gX10_act_X10_coinsAll rfl rfl rfl (by decide +kernel) ⟨Nat.le_of_ble_eq_true rfl, Nat.le_of_ble_eq_true rfl⟩) rfl rfl (Nat.le_of_ble_eq_true rfl) dX10_act_62 ⟨Nat.zero_le _, Nat.zero_le _⟩ rfl (fun r u q10 => ?_)
          obtain rfl := q10
          refine v_perm (wz := [(o, mO ma (va_up fi 9 (nI (ac + 1))) fl), (ma 2, aI G 4 tk), (ma 3, aI G 4 gv), (ma 4, aI G 4 pr), (ma 5, aI G 4 py), (ma 7, aI G 5 ks), (ma 8, aI G 5 (va_up sx t k6))]) [2, 3, 4, 5, 6, 0, 1] (by decide) rfl ?_
          exact rt dX10_act_65 ((va_up fi 9 (nI (ac + 1))), va_up sx t k6, ac + 1) ⟨(by unfold A_act pB1; rw [if_pos (by assumption), if_pos (by assumption), tN_nI (t := t) (by omega), tN_nI (t := w) (by omega), hb7]), (by unfold N_act pB1; rw [if_pos (by assumption), if_pos (by assumption), tN_nI (t := t) (by omega), tN_nI (t := w) (by omega), hb7]), rfl⟩ rfl
        · exact absurd c9 (ni_m1 (by omega))
    · refine v_bipush (pc' := 17) (v := (-101)) F dX10_act_15 (by decide) rfl ?_
      refine v_ws (wz := [(ma 2, aI G 4 tk), (ma 3, aI G 4 gv), (ma 4, aI G 4 pr), (ma 5, aI G 4 py), (ma 7, aI G 5 ks), (ma 8, aI G 5 sx), (o, mO ma (va_up fi 9 (nI ac)) fl)]) (by rw [← hac, up_id]) ?_
      refine v_perm (wz := [(o, mO ma (va_up fi 9 (nI ac)) fl), (ma 2, aI G 4 tk), (ma 3, aI G 4 gv), (ma 4, aI G 4 pr), (ma 5, aI G 4 py), (ma 7, aI G 5 ks), (ma 8, aI G 5 sx)]) [6, 0, 1, 2, 3, 4, 5] (by decide) rfl ?_
      exact rt dX10_act_17 ((va_up fi 9 (nI ac)), sx, ac) ⟨(by unfold A_act; first | rw [if_neg (by assumption)] | rw [if_pos (by assumption), if_neg (by assumption)]), (by unfold N_act; first | rw [if_neg (by assumption)] | rw [if_pos (by assumption), if_neg (by assumption)]), rfl⟩ rfl
