def rm_X10_goFrom : Room := { frames := 3, cells := 0, slots := 0, locals := 70 }
theorem in_X10_goFrom_X10 : ∀ w ∈ u_ws RX10 TX10 38, w ∈ wsX10_goFrom := fun w h => List.mem_cons_of_mem _ (List.mem_append_right _ (h))
set_option maxHeartbeats 4000000 in
set_option maxRecDepth 100000 in
theorem c_X10_goFrom {l : Launch} {D : va_G} {G : gT} (o : Nat) (ma : Nat → Nat) (fi : Nat → Int32) (fl : Nat → Int64) (tk gv pr py fo qu : Nat → Nat) (k n9 f9 m : Nat) (Q : qT) (hqe : fi 26 = nI Q.length) (hmm : MM fo qu Q) (hQ : QI Q) (hat : Q[m]? = some (n9, f9)) (hw : WL tk gv pr py) (hk : k < 5) : CtV (σ := (Nat → Nat) × (Nat → Nat)) l yX10_goFrom wsX10_goFrom rm_X10_goFrom D G [.ref o, .int (nI k), .int (nI n9)] [(o, mO ma fi fl), (ma 2, aI G 4 tk), (ma 3, aI G 4 gv), (ma 4, aI G 4 pr), (ma 5, aI G 4 py), (ma 24, aB G 40000 fo), (ma 25, aI G 40000 qu)] (fun u => MM (u.1) (u.2) (exL m f9 Q (opP (mB k tk gv pr py n9)))) (fun u => [(o, mO ma (va_up fi 26 (nI (exL m f9 Q (opP (mB k tk gv pr py n9))).length)) fl), (ma 2, aI G 4 tk), (ma 3, aI G 4 gv), (ma 4, aI G 4 pr), (ma 5, aI G 4 py), (ma 24, aB G 40000 (u.1)), (ma 25, aI G 40000 (u.2))]) := by
  have hGB : GB (mB k tk gv pr py) := GB_m hw
  obtain ⟨hn9, hf9⟩ := QI_at hQ hat
  refine openV (maxL := 5) (by decide) rfl (Nat.le_of_ble_eq_true rfl) ?_
  intro pgZ evZ sgZ mmZ agsZ blZ meZ cdZ AZ QZ F hmn rt
  refine v_lv (lz := [(0, .ref o), (1, .int (nI k)), (2, .int (nI n9))]) rfl ?_
  refine v_iconst (pc' := 1) (v := nI 0) F dX10_goFrom_0 (by decide) rfl ?_
  refine v_istore_n (pc' := 2) (lv' := [(3, .int (nI 0)), (0, .ref o), (1, .int (nI k)), (2, .int (nI n9))]) F dX10_goFrom_1 rfl (by decide) rfl rfl ?_
  refine v_ws (wz := [(o, mO ma (va_up fi 26 (nI ((exL m f9 Q (oMP (mB k tk gv pr py n9) 0)).length))) fl), (ma 2, aI G 4 tk), (ma 3, aI G 4 gv), (ma 4, aI G 4 pr), (ma 5, aI G 4 py), (ma 24, aB G 40000 fo), (ma 25, aI G 40000 qu)]) (by rw [show (exL m f9 Q (oMP (mB k tk gv pr py n9) 0)) = Q from rfl, ← hqe, up_id]) ?_
  have L2 : ∀ (fu : Nat) (j : Nat) (fo1 : Nat → Nat) (qu1 : Nat → Nat), (j ≤ 24) → (MM fo1 qu1 (exL m f9 Q (oMP (mB k tk gv pr py n9) j))) → 24 < j + fu → V pgZ l evZ rm_X10_goFrom sgZ mmZ agsZ blZ meZ cdZ 0 0 QZ D AZ 5 2 [(3, .int (nI j)), (0, .ref o), (1, .int (nI k)), (2, .int (nI n9))] [] [(o, mO ma (va_up fi 26 (nI ((exL m f9 Q (oMP (mB k tk gv pr py n9) j)).length))) fl), (ma 2, aI G 4 tk), (ma 3, aI G 4 gv), (ma 4, aI G 4 pr), (ma 5, aI G 4 py), (ma 24, aB G 40000 fo1), (ma 25, aI G 40000 qu1)] := by
    intro fu
    induction fu with
    | zero => intro j fo1 qu1 hj hM hfu; exact absurd hfu (by omega)
    | succ fu ih2 =>
      intro j fo1 qu1 hj hM hfu
      refine v_iload_n (pc' := 3) F dX10_goFrom_2 rfl 0 rfl rfl ?_
      refine v_bipush (pc' := 5) (v := nI 24) F dX10_goFrom_3 (by decide) rfl ?_
      refine v_ncmp_ge (tgt := 102) (pc' := 8) F dX10_goFrom_5 (by omega) (by omega) (by decide) rfl (fun c2 => ?_) (fun c2 => ?_)
      · have hj24 : j = 24 := by omega
        subst hj24
        refine v_ws (wz := [(o, mO ma (va_up fi 26 (nI ((exL m f9 Q (opP (mB k tk gv pr py n9))).length))) fl), (ma 2, aI G 4 tk), (ma 3, aI G 4 gv), (ma 4, aI G 4 pr), (ma 5, aI G 4 py), (ma 24, aB G 40000 fo1), (ma 25, aI G 40000 qu1)]) (by rw [oMP_24]) ?_
        exact rt dX10_goFrom_102 (fo1, qu1) (by rw [oMP_24] at hM; exact hM) rfl
      · have hQX : QI (exL m f9 Q (oMP (mB k tk gv pr py n9) j)) := exL_QI hf9 hQ (oMP_ok hGB hn9 hj)
        have hQXl := QI_len hQX
        have hatX := exL_at (i := m) (f := f9) (n9 := 0) (j9 := m) (P := oMP (mB k tk gv pr py n9) j) hat
        have hX99 := MM_99 hM hQX hatX
        refine v_iload_n (pc' := 9) F dX10_goFrom_8 rfl 0 rfl rfl ?_
        refine cSI0 (pc' := 12) (As := [.int (nI j)]) (rest := []) F (c_X10_isAct (nI j)) (va_cwS 1 F.2.2.2.2.1 gX10_goFrom_X10_isAct rfl rfl rfl (by decide +kernel) ⟨Nat.le_of_ble_eq_true rfl, Nat.le_of_ble_eq_true rfl⟩) rfl rfl (Nat.le_of_ble_eq_true rfl) dX10_goFrom_9 ⟨Nat.zero_le _, Nat.zero_le _⟩ rfl (fun r u q3 => ?_)
        obtain rfl := q3
        refine v_bif_eq (tgt := 25) (pc' := 15) F dX10_goFrom_12 (by decide) rfl (fun c4 => ?_) (fun c4 => ?_)
        · have hna := aOkI_nj hj c4
          refine v_iconst (pc' := 26) (v := (-1)) F dX10_goFrom_25 (by decide) rfl ?_
          refine v_istore (pc' := 28) (lv' := [(4, .int (-1)), (3, .int (nI j)), (0, .ref o), (1, .int (nI k)), (2, .int (nI n9))]) F dX10_goFrom_26 (by decide) rfl rfl ?_
          refine v_iload (pc' := 30) F dX10_goFrom_28 0 rfl rfl ?_
          refine v_iconst (pc' := 31) (v := (-1)) F dX10_goFrom_30 (by decide) rfl ?_
          refine v_icmp_eq (tgt := 96) (pc' := 34) F dX10_goFrom_31 (by decide) rfl (fun c5 => ?_) (fun c5 => ?_)
          · refine v_iinc (pc' := 99) (v := nI (j + 1)) (lv' := [(3, .int (nI (j + 1))), (4, .int (-1)), (0, .ref o), (1, .int (nI k)), (2, .int (nI n9))]) F dX10_goFrom_96 1 rfl (nI_add _ _) (by decide) rfl rfl ?_
            refine v_goto (tgt := 2) F dX10_goFrom_99 (by decide) ?_
            refine v_ws (wz := [(o, mO ma (va_up fi 26 (nI ((exL m f9 Q (oMP (mB k tk gv pr py n9) (j + 1))).length))) fl), (ma 2, aI G 4 tk), (ma 3, aI G 4 gv), (ma 4, aI G 4 pr), (ma 5, aI G 4 py), (ma 24, aB G 40000 fo1), (ma 25, aI G 40000 qu1)]) (by rw [oMP_no hna]) ?_
            refine v_lpick (lz := [(3, .int (nI (j + 1))), (0, .ref o), (1, .int (nI k)), (2, .int (nI n9))]) [0, 2, 3, 4] rfl ?_
            exact ih2 (j + 1) fo1 qu1 (by omega) (by rw [oMP_no hna]; exact hM) (by omega)
          · exact absurd rfl c5
        · have haj := aOkI_j hj c4
          refine v_aload_n (pc' := 16) F dX10_goFrom_15 rfl 1 rfl rfl ?_
          refine v_iload_n (pc' := 17) F dX10_goFrom_16 rfl 2 rfl rfl ?_
          refine v_iload_n (pc' := 18) F dX10_goFrom_17 rfl 3 rfl rfl ?_
          refine v_iload_n (pc' := 19) F dX10_goFrom_18 rfl 0 rfl rfl ?_
          refine cVI (pc' := 22) (As := [.int (nI k), .int (nI n9), .int (nI j)]) (rest := []) (wr := [(ma 24, aB G 40000 fo1), (ma 25, aI G 40000 qu1)]) F (c_X10_behind o ma (va_up fi 26 (nI ((exL m f9 Q (oMP (mB k tk gv pr py n9) j)).length))) fl tk gv pr py k n9 j hw hk hn9 haj) (cwV 3 F.2.2.2.2.1 gX10_goFrom_X10_behind rfl rfl rfl (by decide +kernel) ⟨Nat.le_of_ble_eq_true rfl, Nat.le_of_ble_eq_true rfl⟩) (v_rcvW F 8 0 rfl rfl) rfl rfl (Nat.le_of_ble_eq_true rfl) dX10_goFrom_19 [0, 1, 2, 3, 4] [5, 6] (by decide) rfl rfl (by decide) (by decide) ⟨Nat.zero_le _, Nat.zero_le _⟩ rfl (fun r u q6 => ?_)
          obtain rfl := q6
          refine v_ws (wz := [(ma 24, aB G 40000 fo1), (ma 25, aI G 40000 qu1), (o, mO ma (va_up fi 26 (nI ((exL m f9 Q (oMP (mB k tk gv pr py n9) j)).length))) fl), (ma 2, aI G 4 tk), (ma 3, aI G 4 gv), (ma 4, aI G 4 pr), (ma 5, aI G 4 py)]) rfl ?_
          cases hb8 : mB k tk gv pr py n9 j with
          | none =>
            refine v_top (oM_none rfl) ?_
            refine v_goto (tgt := 26) F dX10_goFrom_22 (by decide) ?_
            refine v_istore (pc' := 28) (lv' := [(4, .int (-1)), (3, .int (nI j)), (0, .ref o), (1, .int (nI k)), (2, .int (nI n9))]) F dX10_goFrom_26 (by decide) rfl rfl ?_
            refine v_iload (pc' := 30) F dX10_goFrom_28 0 rfl rfl ?_
            refine v_iconst (pc' := 31) (v := (-1)) F dX10_goFrom_30 (by decide) rfl ?_
            refine v_icmp_eq (tgt := 96) (pc' := 34) F dX10_goFrom_31 (by decide) rfl (fun c9 => ?_) (fun c9 => ?_)
            · refine v_iinc (pc' := 99) (v := nI (j + 1)) (lv' := [(3, .int (nI (j + 1))), (4, .int (-1)), (0, .ref o), (1, .int (nI k)), (2, .int (nI n9))]) F dX10_goFrom_96 1 rfl (nI_add _ _) (by decide) rfl rfl ?_
              refine v_goto (tgt := 2) F dX10_goFrom_99 (by decide) ?_
              refine v_ws (wz := [(ma 24, aB G 40000 fo1), (ma 25, aI G 40000 qu1), (o, mO ma (va_up fi 26 (nI ((exL m f9 Q (oMP (mB k tk gv pr py n9) (j + 1))).length))) fl), (ma 2, aI G 4 tk), (ma 3, aI G 4 gv), (ma 4, aI G 4 pr), (ma 5, aI G 4 py)]) (by rw [oMP_none hb8]) ?_
              refine v_perm (wz := [(o, mO ma (va_up fi 26 (nI ((exL m f9 Q (oMP (mB k tk gv pr py n9) (j + 1))).length))) fl), (ma 2, aI G 4 tk), (ma 3, aI G 4 gv), (ma 4, aI G 4 pr), (ma 5, aI G 4 py), (ma 24, aB G 40000 fo1), (ma 25, aI G 40000 qu1)]) [2, 3, 4, 5, 6, 0, 1] (by decide) rfl ?_
              refine v_lpick (lz := [(3, .int (nI (j + 1))), (0, .ref o), (1, .int (nI k)), (2, .int (nI n9))]) [0, 2, 3, 4] rfl ?_
              exact ih2 (j + 1) fo1 qu1 (by omega) (by rw [oMP_none hb8]; exact hM) (by omega)
            · exact absurd rfl c9
          | some k7 =>
            refine v_top (oM_some rfl) ?_
            have hk9 := hGB n9 j k7 hn9 haj hb8
            have hXl := MM_le hM hQX hk9
            have hXn := MM_le hM hQX hn9
            have hXq := MM_q hM hk9
            refine v_goto (tgt := 26) F dX10_goFrom_22 (by decide) ?_
            refine v_istore (pc' := 28) (lv' := [(4, .int (nI k7)), (3, .int (nI j)), (0, .ref o), (1, .int (nI k)), (2, .int (nI n9))]) F dX10_goFrom_26 (by decide) rfl rfl ?_
            refine v_iload (pc' := 30) F dX10_goFrom_28 0 rfl rfl ?_
            refine v_iconst (pc' := 31) (v := (-1)) F dX10_goFrom_30 (by decide) rfl ?_
            refine v_icmp_eq (tgt := 96) (pc' := 34) F dX10_goFrom_31 (by decide) rfl (fun c10 => ?_) (fun c10 => ?_)
            · exact absurd c10 (ni_m1 (by omega))
            · refine v_aload_n (pc' := 35) F dX10_goFrom_34 rfl 2 rfl rfl ?_
              refine v_get (pc' := 38) (v := .ref (ma 24)) (C := RX10) (T := TX10) (N := 38) F dX10_goFrom_35 in_X10_goFrom_X10 2 rfl rfl 24 (by decide) (List.mem_of_getElem? (i := 1) rfl) rfl rfl ?_
              refine v_iload (pc' := 40) F dX10_goFrom_38 0 rfl rfl ?_
              refine v_bald (pc' := 41) (z := fo1 k7) F dX10_goFrom_40 0 rfl (by omega) (by first | decide | omega) rfl rfl ?_
              refine v_nif_ne (tgt := 96) (pc' := 44) F dX10_goFrom_41 (by omega) (by decide) rfl (fun c11 => ?_) (fun c11 => ?_)
              · have hin := Classical.byContradiction (fun z => c11 (hXq.mpr z))
                refine v_iinc (pc' := 99) (v := nI (j + 1)) (lv' := [(3, .int (nI (j + 1))), (4, .int (nI k7)), (0, .ref o), (1, .int (nI k)), (2, .int (nI n9))]) F dX10_goFrom_96 1 rfl (nI_add _ _) (by decide) rfl rfl ?_
                refine v_goto (tgt := 2) F dX10_goFrom_99 (by decide) ?_
                refine v_ws (wz := [(ma 24, aB G 40000 fo1), (ma 25, aI G 40000 qu1), (o, mO ma (va_up fi 26 (nI ((exL m f9 Q (oMP (mB k tk gv pr py n9) (j + 1))).length))) fl), (ma 2, aI G 4 tk), (ma 3, aI G 4 gv), (ma 4, aI G 4 pr), (ma 5, aI G 4 py)]) (by rw [old_go hin haj hb8]) ?_
                refine v_perm (wz := [(o, mO ma (va_up fi 26 (nI ((exL m f9 Q (oMP (mB k tk gv pr py n9) (j + 1))).length))) fl), (ma 2, aI G 4 tk), (ma 3, aI G 4 gv), (ma 4, aI G 4 pr), (ma 5, aI G 4 py), (ma 24, aB G 40000 fo1), (ma 25, aI G 40000 qu1)]) [2, 3, 4, 5, 6, 0, 1] (by decide) rfl ?_
                refine v_lpick (lz := [(3, .int (nI (j + 1))), (0, .ref o), (1, .int (nI k)), (2, .int (nI n9))]) [0, 2, 3, 4] rfl ?_
                exact ih2 (j + 1) fo1 qu1 (by omega) (by rw [old_go hin haj hb8]; exact hM) (by omega)
              · have hin := hXq.mp c11
                have hnew := QI_new hQX hk9 (f := f9) hf9 hin
                refine v_aload_n (pc' := 45) F dX10_goFrom_44 rfl 2 rfl rfl ?_
                refine v_get (pc' := 48) (v := .ref (ma 24)) (C := RX10) (T := TX10) (N := 38) F dX10_goFrom_45 in_X10_goFrom_X10 2 rfl rfl 24 (by decide) (List.mem_of_getElem? (i := 1) rfl) rfl rfl ?_
                refine v_iload (pc' := 50) F dX10_goFrom_48 0 rfl rfl ?_
                refine v_aload_n (pc' := 51) F dX10_goFrom_50 rfl 2 rfl rfl ?_
                refine v_get (pc' := 54) (v := .ref (ma 24)) (C := RX10) (T := TX10) (N := 38) F dX10_goFrom_51 in_X10_goFrom_X10 2 rfl rfl 24 (by decide) (List.mem_of_getElem? (i := 1) rfl) rfl rfl ?_
                refine v_iload_n (pc' := 55) F dX10_goFrom_54 rfl 4 rfl rfl ?_
                refine v_bald (pc' := 56) (z := fo1 n9) F dX10_goFrom_55 0 rfl (by omega) (by first | decide | omega) rfl rfl ?_
                refine v_bipush (pc' := 58) (v := nI 99) F dX10_goFrom_56 (by decide) rfl ?_
                refine v_ncmp_ne (tgt := 68) (pc' := 61) F dX10_goFrom_58 (by omega) (by omega) (by decide) rfl (fun c12 => ?_) (fun c12 => ?_)
                · have hm9 : ¬ m = 0 := fun q => c12 (hX99.mpr q)
                  have hfn := MM_f hM hatX hm9
                  refine v_aload_n (pc' := 69) F dX10_goFrom_68 rfl 2 rfl rfl ?_
                  refine v_get (pc' := 72) (v := .ref (ma 24)) (C := RX10) (T := TX10) (N := 38) F dX10_goFrom_69 in_X10_goFrom_X10 2 rfl rfl 24 (by decide) (List.mem_of_getElem? (i := 1) rfl) rfl rfl ?_
                  refine v_iload_n (pc' := 73) F dX10_goFrom_72 rfl 4 rfl rfl ?_
                  refine v_bald (pc' := 74) (z := fo1 n9) F dX10_goFrom_73 0 rfl (by omega) (by first | decide | omega) rfl rfl ?_
                  refine v_bast (pc' := 75) (ws' := [(ma 24, aB G 40000 (va_up fo1 k7 (fo1 n9))), (ma 25, aI G 40000 qu1), (o, mO ma (va_up fi 26 (nI ((exL m f9 Q (oMP (mB k tk gv pr py n9) j)).length))) fl), (ma 2, aI G 4 tk), (ma 3, aI G 4 gv), (ma 4, aI G 4 pr), (ma 5, aI G 4 py)]) F dX10_goFrom_74 0 rfl (by omega) (by first | decide | omega) (nar8 (by omega)) rfl rfl ?_
                  refine v_aload_n (pc' := 76) F dX10_goFrom_75 rfl 2 rfl rfl ?_
                  refine v_get (pc' := 79) (v := .ref (ma 25)) (C := RX10) (T := TX10) (N := 38) F dX10_goFrom_76 in_X10_goFrom_X10 2 rfl rfl 25 (by decide) (List.mem_of_getElem? (i := 2) rfl) rfl rfl ?_
                  refine v_aload_n (pc' := 80) F dX10_goFrom_79 rfl 2 rfl rfl ?_
                  refine v_get (pc' := 83) (v := .int (nI ((exL m f9 Q (oMP (mB k tk gv pr py n9) j)).length))) (C := RX10) (T := TX10) (N := 38) F dX10_goFrom_80 in_X10_goFrom_X10 2 rfl rfl 26 (by decide) (List.mem_of_getElem? (i := 3) rfl) rfl rfl ?_
                  refine v_iload (pc' := 85) F dX10_goFrom_83 0 rfl rfl ?_
                  refine v_iast (pc' := 86) (ws' := [(ma 24, aB G 40000 (va_up fo1 k7 (fo1 n9))), (ma 25, aI G 40000 (va_up qu1 ((exL m f9 Q (oMP (mB k tk gv pr py n9) j)).length) k7)), (o, mO ma (va_up fi 26 (nI ((exL m f9 Q (oMP (mB k tk gv pr py n9) j)).length))) fl), (ma 2, aI G 4 tk), (ma 3, aI G 4 gv), (ma 4, aI G 4 pr), (ma 5, aI G 4 py)]) F dX10_goFrom_85 1 rfl (by omega) (by first | decide | omega) rfl rfl ?_
                  refine v_aload_n (pc' := 87) F dX10_goFrom_86 rfl 2 rfl rfl ?_
                  refine v_dup (pc' := 88) F dX10_goFrom_87 rfl rfl ?_
                  refine v_get (pc' := 91) (v := .int (nI ((exL m f9 Q (oMP (mB k tk gv pr py n9) j)).length))) (C := RX10) (T := TX10) (N := 38) F dX10_goFrom_88 in_X10_goFrom_X10 2 rfl rfl 26 (by decide) (List.mem_of_getElem? (i := 3) rfl) rfl rfl ?_
                  refine v_iconst (pc' := 92) (v := nI 1) F dX10_goFrom_91 (by decide) rfl ?_
                  refine v_iadd (pc' := 93) (z := nI (((exL m f9 Q (oMP (mB k tk gv pr py n9) j)).length) + 1)) F dX10_goFrom_92 (nI_add _ _) rfl ?_
                  refine v_put (pc' := 96) (ws' := [(ma 24, aB G 40000 (va_up fo1 k7 (fo1 n9))), (ma 25, aI G 40000 (va_up qu1 ((exL m f9 Q (oMP (mB k tk gv pr py n9) j)).length) k7)), (o, mO ma (va_up (va_up fi 26 (nI ((exL m f9 Q (oMP (mB k tk gv pr py n9) j)).length))) 26 (nI (((exL m f9 Q (oMP (mB k tk gv pr py n9) j)).length) + 1))) fl), (ma 2, aI G 4 tk), (ma 3, aI G 4 gv), (ma 4, aI G 4 pr), (ma 5, aI G 4 py)]) (C := RX10) (T := TX10) (N := 38) F dX10_goFrom_93 in_X10_goFrom_X10 tyX10_ok nmX10 2 rfl rfl 26 (by decide) (List.mem_of_getElem? (i := 3) rfl) rfl rfl rfl (Nat.le_of_ble_eq_true rfl) rfl rfl ?_
                  refine v_iinc (pc' := 99) (v := nI (j + 1)) (lv' := [(3, .int (nI (j + 1))), (4, .int (nI k7)), (0, .ref o), (1, .int (nI k)), (2, .int (nI n9))]) F dX10_goFrom_96 1 rfl (nI_add _ _) (by decide) rfl rfl ?_
                  refine v_goto (tgt := 2) F dX10_goFrom_99 (by decide) ?_
                  refine v_ws (wz := [(ma 24, aB G 40000 (va_up fo1 k7 (fo1 n9))), (ma 25, aI G 40000 (va_up qu1 ((exL m f9 Q (oMP (mB k tk gv pr py n9) j)).length) k7)), (o, mO ma (va_up fi 26 (nI ((exL m f9 Q (oMP (mB k tk gv pr py n9) (j + 1))).length))) fl), (ma 2, aI G 4 tk), (ma 3, aI G 4 gv), (ma 4, aI G 4 pr), (ma 5, aI G 4 py)]) (by rw [up_up, len_go hin haj hb8]) ?_
                  refine v_perm (wz := [(o, mO ma (va_up fi 26 (nI ((exL m f9 Q (oMP (mB k tk gv pr py n9) (j + 1))).length))) fl), (ma 2, aI G 4 tk), (ma 3, aI G 4 gv), (ma 4, aI G 4 pr), (ma 5, aI G 4 py), (ma 24, aB G 40000 (va_up fo1 k7 (fo1 n9))), (ma 25, aI G 40000 (va_up qu1 ((exL m f9 Q (oMP (mB k tk gv pr py n9) j)).length) k7))]) [2, 3, 4, 5, 6, 0, 1] (by decide) rfl ?_
                  refine v_lpick (lz := [(3, .int (nI (j + 1))), (0, .ref o), (1, .int (nI k)), (2, .int (nI n9))]) [0, 2, 3, 4] rfl ?_
                  exact ih2 (j + 1) (va_up fo1 k7 (fo1 n9)) (va_up qu1 ((exL m f9 Q (oMP (mB k tk gv pr py n9) j)).length) k7) (by omega) (MM_go hM hQX (ex_ne hat) hin haj hb8 (fo1 n9) (by rw [if_neg hm9]; exact hfn)) (by omega)
                · have hm9 : m = 0 := hX99.mp c12
                  refine v_iload_n (pc' := 62) F dX10_goFrom_61 rfl 1 rfl rfl ?_
                  refine v_iconst (pc' := 63) (v := nI 1) F dX10_goFrom_62 (by decide) rfl ?_
                  refine v_iadd (pc' := 64) (z := nI (j + 1)) F dX10_goFrom_63 (nI_add _ _) rfl ?_
                  refine v_i2b (pc' := 65) (z := nI (j + 1)) F dX10_goFrom_64 (i2b_n (by omega)) rfl ?_
                  refine v_goto (tgt := 74) F dX10_goFrom_65 (by decide) ?_
                  refine v_bast (pc' := 75) (ws' := [(ma 24, aB G 40000 (va_up fo1 k7 (j + 1))), (ma 25, aI G 40000 qu1), (o, mO ma (va_up fi 26 (nI ((exL m f9 Q (oMP (mB k tk gv pr py n9) j)).length))) fl), (ma 2, aI G 4 tk), (ma 3, aI G 4 gv), (ma 4, aI G 4 pr), (ma 5, aI G 4 py)]) F dX10_goFrom_74 0 rfl (by omega) (by first | decide | omega) (nar8 (by omega)) rfl rfl ?_
                  refine v_aload_n (pc' := 76) F dX10_goFrom_75 rfl 2 rfl rfl ?_
                  refine v_get (pc' := 79) (v := .ref (ma 25)) (C := RX10) (T := TX10) (N := 38) F dX10_goFrom_76 in_X10_goFrom_X10 2 rfl rfl 25 (by decide) (List.mem_of_getElem? (i := 2) rfl) rfl rfl ?_
                  refine v_aload_n (pc' := 80) F dX10_goFrom_79 rfl 2 rfl rfl ?_
                  refine v_get (pc' := 83) (v := .int (nI ((exL m f9 Q (oMP (mB k tk gv pr py n9) j)).length))) (C := RX10) (T := TX10) (N := 38) F dX10_goFrom_80 in_X10_goFrom_X10 2 rfl rfl 26 (by decide) (List.mem_of_getElem? (i := 3) rfl) rfl rfl ?_
                  refine v_iload (pc' := 85) F dX10_goFrom_83 0 rfl rfl ?_
                  refine v_iast (pc' := 86) (ws' := [(ma 24, aB G 40000 (va_up fo1 k7 (j + 1))), (ma 25, aI G 40000 (va_up qu1 ((exL m f9 Q (oMP (mB k tk gv pr py n9) j)).length) k7)), (o, mO ma (va_up fi 26 (nI ((exL m f9 Q (oMP (mB k tk gv pr py n9) j)).length))) fl), (ma 2, aI G 4 tk), (ma 3, aI G 4 gv), (ma 4, aI G 4 pr), (ma 5, aI G 4 py)]) F dX10_goFrom_85 1 rfl (by omega) (by first | decide | omega) rfl rfl ?_
                  refine v_aload_n (pc' := 87) F dX10_goFrom_86 rfl 2 rfl rfl ?_
                  refine v_dup (pc' := 88) F dX10_goFrom_87 rfl rfl ?_
                  refine v_get (pc' := 91) (v := .int (nI ((exL m f9 Q (oMP (mB k tk gv pr py n9) j)).length))) (C := RX10) (T := TX10) (N := 38) F dX10_goFrom_88 in_X10_goFrom_X10 2 rfl rfl 26 (by decide) (List.mem_of_getElem? (i := 3) rfl) rfl rfl ?_
                  refine v_iconst (pc' := 92) (v := nI 1) F dX10_goFrom_91 (by decide) rfl ?_
                  refine v_iadd (pc' := 93) (z := nI (((exL m f9 Q (oMP (mB k tk gv pr py n9) j)).length) + 1)) F dX10_goFrom_92 (nI_add _ _) rfl ?_
                  refine v_put (pc' := 96) (ws' := [(ma 24, aB G 40000 (va_up fo1 k7 (j + 1))), (ma 25, aI G 40000 (va_up qu1 ((exL m f9 Q (oMP (mB k tk gv pr py n9) j)).length) k7)), (o, mO ma (va_up (va_up fi 26 (nI ((exL m f9 Q (oMP (mB k tk gv pr py n9) j)).length))) 26 (nI (((exL m f9 Q (oMP (mB k tk gv pr py n9) j)).length) + 1))) fl), (ma 2, aI G 4 tk), (ma 3, aI G 4 gv), (ma 4, aI G 4 pr), (ma 5, aI G 4 py)]) (C := RX10) (T := TX10) (N := 38) F dX10_goFrom_93 in_X10_goFrom_X10 tyX10_ok nmX10 2 rfl rfl 26 (by decide) (List.mem_of_getElem? (i := 3) rfl) rfl rfl rfl (Nat.le_of_ble_eq_true rfl) rfl rfl ?_
                  refine v_iinc (pc' := 99) (v := nI (j + 1)) (lv' := [(3, .int (nI (j + 1))), (4, .int (nI k7)), (0, .ref o), (1, .int (nI k)), (2, .int (nI n9))]) F dX10_goFrom_96 1 rfl (nI_add _ _) (by decide) rfl rfl ?_
                  refine v_goto (tgt := 2) F dX10_goFrom_99 (by decide) ?_
                  refine v_ws (wz := [(ma 24, aB G 40000 (va_up fo1 k7 (j + 1))), (ma 25, aI G 40000 (va_up qu1 ((exL m f9 Q (oMP (mB k tk gv pr py n9) j)).length) k7)), (o, mO ma (va_up fi 26 (nI ((exL m f9 Q (oMP (mB k tk gv pr py n9) (j + 1))).length))) fl), (ma 2, aI G 4 tk), (ma 3, aI G 4 gv), (ma 4, aI G 4 pr), (ma 5, aI G 4 py)]) (by rw [up_up, len_go hin haj hb8]) ?_
                  refine v_perm (wz := [(o, mO ma (va_up fi 26 (nI ((exL m f9 Q (oMP (mB k tk gv pr py n9) (j + 1))).length))) fl), (ma 2, aI G 4 tk), (ma 3, aI G 4 gv), (ma 4, aI G 4 pr), (ma 5, aI G 4 py), (ma 24, aB G 40000 (va_up fo1 k7 (j + 1))), (ma 25, aI G 40000 (va_up qu1 ((exL m f9 Q (oMP (mB k tk gv pr py n9) j)).length) k7))]) [2, 3, 4, 5, 6, 0, 1] (by decide) rfl ?_
                  refine v_lpick (lz := [(3, .int (nI (j + 1))), (0, .ref o), (1, .int (nI k)), (2, .int (nI n9))]) [0, 2, 3, 4] rfl ?_
                  exact ih2 (j + 1) (va_up fo1 k7 (j + 1)) (va_up qu1 ((exL m f9 Q (oMP (mB k tk gv pr py n9) j)).length) k7) (by omega) (MM_go hM hQX (ex_ne hat) hin haj hb8 (j + 1) (by rw [if_pos hm9])) (by omega)
  exact L2 (24 + 1) 0 fo qu (by omega) (hmm) (by omega)
def rm_X10_layQueue : Room := { frames := 0, cells := 0, slots := 0, locals := 0 }
theorem in_X10_layQueue_X10 : ∀ w ∈ u_ws RX10 TX10 38, w ∈ wsX10_layQueue := fun w h => List.mem_cons_of_mem _ (List.mem_append_right _ (h))
set_option maxHeartbeats 4000000 in
set_option maxRecDepth 100000 in
theorem c_X10_layQueue {l : Launch} {D : va_G} {G : gT} (o : Nat) (ma : Nat → Nat) (fi : Nat → Int32) (fl : Nat → Int64) (fo qu : Nat → Nat) (qe s9 : Nat) (hqe : fi 26 = nI qe) (hcq : CQ fo qu qe) (hs9 : s9 < 40000) : CtV (σ := (Nat → Nat) × (Nat → Nat)) l yX10_layQueue wsX10_layQueue rm_X10_layQueue D G [.ref o, .int (nI s9)] [(o, mO ma fi fl), (ma 24, aB G 40000 fo), (ma 25, aI G 40000 qu)] (fun u => MM (u.1) (u.2) [(s9, 0)]) (fun u => [(o, mO ma (va_up fi 26 (nI 1)) fl), (ma 24, aB G 40000 (u.1)), (ma 25, aI G 40000 (u.2))]) := by
  have hqe4 := hcq.1
  refine openV (maxL := 3) (by decide) rfl (Nat.le_of_ble_eq_true rfl) ?_
  intro pgZ evZ sgZ mmZ agsZ blZ meZ cdZ AZ QZ F hmn rt
  refine v_lv (lz := [(0, .ref o), (1, .int (nI s9))]) rfl ?_
  refine v_iconst (pc' := 1) (v := nI 0) F dX10_layQueue_0 (by decide) rfl ?_
  refine v_istore_n (pc' := 2) (lv' := [(2, .int (nI 0)), (0, .ref o), (1, .int (nI s9))]) F dX10_layQueue_1 rfl (by decide) rfl rfl ?_
  have L2 : ∀ (fu : Nat) (j : Nat) (fo1 : Nat → Nat), (j ≤ qe) → (fo1 = clr fo qu j) → qe < j + fu → V pgZ l evZ rm_X10_layQueue sgZ mmZ agsZ blZ meZ cdZ 0 0 QZ D AZ 3 2 [(2, .int (nI j)), (0, .ref o), (1, .int (nI s9))] [] [(o, mO ma fi fl), (ma 24, aB G 40000 fo1), (ma 25, aI G 40000 qu)] := by
    intro fu
    induction fu with
    | zero => intro j fo1 hj hfo hfu; exact absurd hfu (by omega)
    | succ fu ih2 =>
      intro j fo1 hj hfo hfu
      refine v_iload_n (pc' := 3) F dX10_layQueue_2 rfl 0 rfl rfl ?_
      refine v_aload_n (pc' := 4) F dX10_layQueue_3 rfl 1 rfl rfl ?_
      refine v_get (pc' := 7) (v := .int (nI qe)) (C := RX10) (T := TX10) (N := 38) F dX10_layQueue_4 in_X10_layQueue_X10 0 rfl rfl 26 (by decide) (List.mem_of_getElem? (i := 1) rfl) (congrArg (fun z => some (Value.int z)) hqe) rfl ?_
      refine v_ncmp_ge (tgt := 28) (pc' := 10) F dX10_layQueue_7 (by omega) (by omega) (by decide) rfl (fun c2 => ?_) (fun c2 => ?_)
      · have hje : j = qe := by omega
        subst hje
        have hz0 : ∀ k, k < 40000 → fo1 k = 0 := fun k hk => by rw [hfo]; exact clr_0 hcq k hk
        refine v_aload_n (pc' := 29) F dX10_layQueue_28 rfl 1 rfl rfl ?_
        refine v_get (pc' := 32) (v := .ref (ma 24)) (C := RX10) (T := TX10) (N := 38) F dX10_layQueue_29 in_X10_layQueue_X10 0 rfl rfl 24 (by decide) (List.mem_of_getElem? (i := 2) rfl) rfl rfl ?_
        refine v_iload_n (pc' := 33) F dX10_layQueue_32 rfl 2 rfl rfl ?_
        refine v_bipush (pc' := 35) (v := nI 99) F dX10_layQueue_33 (by decide) rfl ?_
        refine v_bast (pc' := 36) (ws' := [(o, mO ma fi fl), (ma 24, aB G 40000 (va_up fo1 s9 99)), (ma 25, aI G 40000 qu)]) F dX10_layQueue_35 1 rfl (by omega) (by first | decide | omega) (nar8 (by omega)) rfl rfl ?_
        refine v_aload_n (pc' := 37) F dX10_layQueue_36 rfl 1 rfl rfl ?_
        refine v_get (pc' := 40) (v := .ref (ma 25)) (C := RX10) (T := TX10) (N := 38) F dX10_layQueue_37 in_X10_layQueue_X10 0 rfl rfl 25 (by decide) (List.mem_of_getElem? (i := 3) rfl) rfl rfl ?_
        refine v_iconst (pc' := 41) (v := nI 0) F dX10_layQueue_40 (by decide) rfl ?_
        refine v_iload_n (pc' := 42) F dX10_layQueue_41 rfl 2 rfl rfl ?_
        refine v_iast (pc' := 43) (ws' := [(o, mO ma fi fl), (ma 24, aB G 40000 (va_up fo1 s9 99)), (ma 25, aI G 40000 (va_up qu 0 s9))]) F dX10_layQueue_42 2 rfl (by omega) (by first | decide | omega) rfl rfl ?_
        refine v_aload_n (pc' := 44) F dX10_layQueue_43 rfl 1 rfl rfl ?_
        refine v_iconst (pc' := 45) (v := nI 1) F dX10_layQueue_44 (by decide) rfl ?_
        refine v_put (pc' := 48) (ws' := [(o, mO ma (va_up fi 26 (nI 1)) fl), (ma 24, aB G 40000 (va_up fo1 s9 99)), (ma 25, aI G 40000 (va_up qu 0 s9))]) (C := RX10) (T := TX10) (N := 38) F dX10_layQueue_45 in_X10_layQueue_X10 tyX10_ok nmX10 0 rfl rfl 26 (by decide) (List.mem_of_getElem? (i := 1) rfl) rfl rfl rfl (Nat.le_of_ble_eq_true rfl) rfl rfl ?_
        exact rt dX10_layQueue_48 (va_up fo1 s9 99, va_up qu 0 s9) (MM_one hz0) rfl
      · have hqj := hcq.2.1 j (by omega)
        refine v_aload_n (pc' := 11) F dX10_layQueue_10 rfl 1 rfl rfl ?_
        refine v_get (pc' := 14) (v := .ref (ma 24)) (C := RX10) (T := TX10) (N := 38) F dX10_layQueue_11 in_X10_layQueue_X10 0 rfl rfl 24 (by decide) (List.mem_of_getElem? (i := 2) rfl) rfl rfl ?_
        refine v_aload_n (pc' := 15) F dX10_layQueue_14 rfl 1 rfl rfl ?_
        refine v_get (pc' := 18) (v := .ref (ma 25)) (C := RX10) (T := TX10) (N := 38) F dX10_layQueue_15 in_X10_layQueue_X10 0 rfl rfl 25 (by decide) (List.mem_of_getElem? (i := 3) rfl) rfl rfl ?_
        refine v_iload_n (pc' := 19) F dX10_layQueue_18 rfl 0 rfl rfl ?_
        refine v_iald (pc' := 20) (z := qu j) F dX10_layQueue_19 2 rfl (by omega) (by first | decide | omega) rfl rfl ?_
        refine v_iconst (pc' := 21) (v := nI 0) F dX10_layQueue_20 (by decide) rfl ?_
        refine v_bast (pc' := 22) (ws' := [(o, mO ma fi fl), (ma 24, aB G 40000 (va_up fo1 (qu j) 0)), (ma 25, aI G 40000 qu)]) F dX10_layQueue_21 1 rfl (by omega) (by first | decide | omega) (nar8 (by omega)) rfl rfl ?_
        refine v_iinc (pc' := 25) (v := nI (j + 1)) (lv' := [(2, .int (nI (j + 1))), (0, .ref o), (1, .int (nI s9))]) F dX10_layQueue_22 0 rfl (nI_add _ _) (by decide) rfl rfl ?_
        refine v_goto (tgt := 2) F dX10_layQueue_25 (by decide) ?_
        exact ih2 (j + 1) (va_up fo1 (qu j) 0) (by omega) (by rw [hfo]; rfl) (by omega)
  exact L2 (qe + 1) 0 fo (by omega) (rfl) (by omega)
def rm_X10_fewestOf : Room := { frames := 4, cells := 0, slots := 0, locals := 94 }
theorem in_X10_fewestOf_X10 : ∀ w ∈ u_ws RX10 TX10 38, w ∈ wsX10_fewestOf := fun w h => List.mem_cons_of_mem _ (List.mem_append_right _ (h))
set_option maxHeartbeats 4000000 in
set_option maxRecDepth 100000 in
theorem c_X10_fewestOf {l : Launch} {D : va_G} {G : gT} (o : Nat) (ma : Nat → Nat) (fi : Nat → Int32) (fl : Nat → Int64) (tk gv pr py ks sx fo qu : Nat → Nat) (qe p : Nat) (hqe : fi 26 = nI qe) (hcq : CQ fo qu qe) (hp : p < 5) (hwp : WPe ks sx) (hw : WL tk gv pr py) (g9 : Nat) (hg : g9 < 4) : CtI (σ := Int32 × Nat × (Nat → Nat) × (Nat → Nat)) l yX10_fewestOf wsX10_fewestOf rm_X10_fewestOf D G [.ref o, .int (nI p), .int (nI g9)] [(o, mO ma fi fl), (ma 2, aI G 4 tk), (ma 3, aI G 4 gv), (ma 4, aI G 4 pr), (ma 5, aI G 4 py), (ma 7, aI G 5 ks), (ma 8, aI G 5 sx), (ma 24, aB G 40000 fo), (ma 25, aI G 40000 qu)] (fun r u => r = oM (fnM (ks p) tk gv pr py g9 (sx p)) ∧ (u.1) = f1A (ks p) tk gv pr py g9 (sx p) ∧ CQ (u.2.2.1) (u.2.2.2) (u.2.1)) (fun u => [(o, mO ma (va_up (va_up fi 27 (u.1)) 26 (nI (u.2.1))) fl), (ma 2, aI G 4 tk), (ma 3, aI G 4 gv), (ma 4, aI G 4 pr), (ma 5, aI G 4 py), (ma 7, aI G 5 ks), (ma 8, aI G 5 sx), (ma 24, aB G 40000 (u.2.2.1)), (ma 25, aI G 40000 (u.2.2.2))]) := by
  obtain ⟨s9, hs9⟩ : ∃ z, z = sx p := ⟨_, rfl⟩
  have hks := (hwp p hp).1
  have hsl : s9 < 40000 := by rw [hs9]; exact (hwp p hp).2
  have hGB : GB (mB (ks p) tk gv pr py) := GB_m hw
  have hqi := fun m => qS_QI hGB hsl m
  have hb4 := fun d => bS_40 hGB hsl d
  have hbl := fun d => bS_le (B := mB (ks p) tk gv pr py) (s := s9) d
  refine openI (maxL := 7) (by decide) rfl (Nat.le_of_ble_eq_true rfl) ?_
  intro pgZ evZ sgZ mmZ agsZ blZ meZ cdZ AZ QZ F hmn rt
  refine v_lv (lz := [(0, .ref o), (1, .int (nI p)), (2, .int (nI g9))]) rfl ?_
  refine v_aload_n (pc' := 1) F dX10_fewestOf_0 rfl 0 rfl rfl ?_
  refine v_iconst (pc' := 2) (v := (-1)) F dX10_fewestOf_1 (by decide) rfl ?_
  refine v_put (pc' := 5) (ws' := [(o, mO ma (va_up fi 27 (-1)) fl), (ma 2, aI G 4 tk), (ma 3, aI G 4 gv), (ma 4, aI G 4 pr), (ma 5, aI G 4 py), (ma 7, aI G 5 ks), (ma 8, aI G 5 sx), (ma 24, aB G 40000 fo), (ma 25, aI G 40000 qu)]) (C := RX10) (T := TX10) (N := 38) F dX10_fewestOf_2 in_X10_fewestOf_X10 tyX10_ok nmX10 0 rfl rfl 27 (by decide) (List.mem_of_getElem? (i := 1) rfl) rfl rfl rfl (Nat.le_of_ble_eq_true rfl) rfl rfl ?_
  refine v_aload_n (pc' := 6) F dX10_fewestOf_5 rfl 0 rfl rfl ?_
  refine v_get (pc' := 9) (v := .ref (ma 8)) (C := RX10) (T := TX10) (N := 38) F dX10_fewestOf_6 in_X10_fewestOf_X10 0 rfl rfl 8 (by decide) (List.mem_of_getElem? (i := 2) rfl) rfl rfl ?_
  refine v_iload_n (pc' := 10) F dX10_fewestOf_9 rfl 1 rfl rfl ?_
  refine v_iald (pc' := 11) (z := sx p) F dX10_fewestOf_10 6 rfl (by omega) (by first | decide | omega) rfl rfl ?_
  refine v_top (y := nI s9) (by rw [hs9]) ?_
  refine cSI0 (pc' := 14) (As := [.int (nI s9)]) (rest := []) F (c_X10_goodsIn s9 (by omega)) (va_cwS 1 F.2.2.2.2.1 gX10_fewestOf_X10_goodsIn rfl rfl rfl (by decide +kernel) ⟨Nat.le_of_ble_eq_true rfl, Nat.le_of_ble_eq_true rfl⟩) rfl rfl (Nat.le_of_ble_eq_true rfl) dX10_fewestOf_11 ⟨Nat.zero_le _, Nat.zero_le _⟩ rfl (fun r u q1 => ?_)
  obtain rfl := q1
  refine v_iload_n (pc' := 15) F dX10_fewestOf_14 rfl 2 rfl rfl ?_
  refine cSI0 (pc' := 18) (As := [.int (nI (s9 / 2500)), .int (nI g9)]) (rest := []) F (c_X10_has (s9 / 2500) g9 (by omega) (by omega)) (va_cwS 2 F.2.2.2.2.1 gX10_fewestOf_X10_has rfl rfl rfl (by decide +kernel) ⟨Nat.le_of_ble_eq_true rfl, Nat.le_of_ble_eq_true rfl⟩) rfl rfl (Nat.le_of_ble_eq_true rfl) dX10_fewestOf_15 ⟨Nat.zero_le _, Nat.zero_le _⟩ rfl (fun r u q2 => ?_)
  obtain rfl := q2
  refine v_bif_eq (tgt := 23) (pc' := 21) F dX10_fewestOf_18 (by decide) rfl (fun c3 => ?_) (fun c3 => ?_)
  · have hng : ¬ gd s9 g9 := by assumption
    refine v_aload_n (pc' := 24) F dX10_fewestOf_23 rfl 0 rfl rfl ?_
    refine v_aload_n (pc' := 25) F dX10_fewestOf_24 rfl 0 rfl rfl ?_
    refine v_get (pc' := 28) (v := .ref (ma 8)) (C := RX10) (T := TX10) (N := 38) F dX10_fewestOf_25 in_X10_fewestOf_X10 0 rfl rfl 8 (by decide) (List.mem_of_getElem? (i := 2) rfl) rfl rfl ?_
    refine v_iload_n (pc' := 29) F dX10_fewestOf_28 rfl 1 rfl rfl ?_
    refine v_iald (pc' := 30) (z := sx p) F dX10_fewestOf_29 6 rfl (by omega) (by first | decide | omega) rfl rfl ?_
    refine v_top (y := nI s9) (by rw [hs9]) ?_
    refine cVV (pc' := 33) (As := [.int (nI s9)]) (rest := []) (wr := [(ma 2, aI G 4 tk), (ma 3, aI G 4 gv), (ma 4, aI G 4 pr), (ma 5, aI G 4 py), (ma 7, aI G 5 ks), (ma 8, aI G 5 sx)]) F (c_X10_layQueue o ma (va_up fi 27 (-1)) fl fo qu qe s9 hqe hcq (by omega)) (cwV 1 F.2.2.2.2.1 gX10_fewestOf_X10_layQueue rfl rfl rfl (by decide +kernel) ⟨Nat.le_of_ble_eq_true rfl, Nat.le_of_ble_eq_true rfl⟩) (v_rcvW F 8 0 rfl rfl) rfl rfl (Nat.le_of_ble_eq_true rfl) dX10_fewestOf_30 [0, 7, 8] [1, 2, 3, 4, 5, 6] (by decide) rfl rfl (by decide) (by decide) ⟨Nat.zero_le _, Nat.zero_le _⟩ rfl (fun u q7 => ?_)
    obtain ⟨fo2_4, qu2_5⟩ := u
    have hM_6 := q7
    refine v_ws (wz := [(ma 2, aI G 4 tk), (ma 3, aI G 4 gv), (ma 4, aI G 4 pr), (ma 5, aI G 4 py), (ma 7, aI G 5 ks), (ma 8, aI G 5 sx), (o, mO ma (va_up (va_up fi 27 (-1)) 26 (nI 1)) fl), (ma 24, aB G 40000 fo2_4), (ma 25, aI G 40000 qu2_5)]) rfl ?_
    refine v_iconst (pc' := 34) (v := nI 0) F dX10_fewestOf_33 (by decide) rfl ?_
    refine v_istore_n (pc' := 35) (lv' := [(3, .int (nI 0)), (0, .ref o), (1, .int (nI p)), (2, .int (nI g9))]) F dX10_fewestOf_34 rfl (by decide) rfl rfl ?_
    refine v_iconst (pc' := 36) (v := nI 0) F dX10_fewestOf_35 (by decide) rfl ?_
    refine v_istore (pc' := 38) (lv' := [(4, .int (nI 0)), (3, .int (nI 0)), (0, .ref o), (1, .int (nI p)), (2, .int (nI g9))]) F dX10_fewestOf_36 (by decide) rfl rfl ?_
    refine v_ws (wz := [(ma 2, aI G 4 tk), (ma 3, aI G 4 gv), (ma 4, aI G 4 pr), (ma 5, aI G 4 py), (ma 7, aI G 5 ks), (ma 8, aI G 5 sx), (o, mO ma (va_up (va_up fi 27 (-1)) 26 (nI (bS (mB (ks p) tk gv pr py) s9 (0 + 1)))) fl), (ma 24, aB G 40000 fo2_4), (ma 25, aI G 40000 qu2_5)]) (by rfl) ?_
    have L38 : ∀ (fu : Nat) (d : Nat) (b9 : Nat) (fo1 : Nat → Nat) (qu1 : Nat → Nat), (b9 = (bS (mB (ks p) tk gv pr py) s9 d)) → (b9 ≤ 40000) → (d ≤ (bS (mB (ks p) tk gv pr py) s9 d)) → (MM fo1 qu1 (qS (mB (ks p) tk gv pr py) s9 (bS (mB (ks p) tk gv pr py) s9 d))) → (NGQ g9 (qS (mB (ks p) tk gv pr py) s9 (bS (mB (ks p) tk gv pr py) s9 d))) → (fwM (ks p) tk gv pr py g9 s9 = fwR (mB (ks p) tk gv pr py) (mCo (ks p) pr g9) (mPa (ks p) tk g9) g9 s9 (40000 - d) d) → 40000 < b9 + fu → V pgZ l evZ rm_X10_fewestOf sgZ mmZ agsZ blZ meZ cdZ 0 0 QZ D AZ 7 38 [(4, .int (nI d)), (3, .int (nI b9)), (0, .ref o), (1, .int (nI p)), (2, .int (nI g9))] [] [(ma 2, aI G 4 tk), (ma 3, aI G 4 gv), (ma 4, aI G 4 pr), (ma 5, aI G 4 py), (ma 7, aI G 5 ks), (ma 8, aI G 5 sx), (o, mO ma (va_up (va_up fi 27 (-1)) 26 (nI (bS (mB (ks p) tk gv pr py) s9 (d + 1)))) fl), (ma 24, aB G 40000 fo1), (ma 25, aI G 40000 qu1)] := by
      intro fu
      induction fu with
      | zero => intro d b9 fo1 qu1 hb9 hb40 hdb hM hN hfw hfu; exact absurd hfu (by omega)
      | succ fu ih38 =>
        intro d b9 fo1 qu1 hb9 hb40 hdb hM hN hfw hfu
        subst hb9
        refine v_iload_n (pc' := 39) F dX10_fewestOf_38 rfl 1 rfl rfl ?_
        refine v_aload_n (pc' := 40) F dX10_fewestOf_39 rfl 2 rfl rfl ?_
        refine v_get (pc' := 43) (v := .int (nI (bS (mB (ks p) tk gv pr py) s9 (d + 1)))) (C := RX10) (T := TX10) (N := 38) F dX10_fewestOf_40 in_X10_fewestOf_X10 6 rfl rfl 26 (by decide) (List.mem_of_getElem? (i := 3) rfl) rfl rfl ?_
        have hb1 := hb4 d
        have hb2 := hb4 (d + 1)
        have hb3 := hb4 (d + 1 + 1)
        have hb5 := hbl d
        have hb6 := hbl (d + 1)
        refine v_ncmp_ge (tgt := 143) (pc' := 46) F dX10_fewestOf_43 (by omega) (by omega) (by decide) rfl (fun c9 => ?_) (fun c9 => ?_)
        · refine v_iconst (pc' := 144) (v := (-1)) F dX10_fewestOf_143 (by decide) rfl ?_
          refine v_perm (wz := [(o, mO ma (va_up (va_up fi 27 (-1)) 26 (nI (bS (mB (ks p) tk gv pr py) s9 (d + 1)))) fl), (ma 2, aI G 4 tk), (ma 3, aI G 4 gv), (ma 4, aI G 4 pr), (ma 5, aI G 4 py), (ma 7, aI G 5 ks), (ma 8, aI G 5 sx), (ma 24, aB G 40000 fo1), (ma 25, aI G 40000 qu1)]) [6, 0, 1, 2, 3, 4, 5, 7, 8] (by decide) rfl ?_
          exact rt dX10_fewestOf_144 (-1, (bS (mB (ks p) tk gv pr py) s9 (d + 1)), fo1, qu1) (by rw [← hs9]; exact ⟨(fe_none hng (fwR_dry hfw (by omega))).1, (fe_none hng (fwR_dry hfw (by omega))).2, CQ_of hM (hqi _)⟩) rfl
        · refine v_aload_n (pc' := 47) F dX10_fewestOf_46 rfl 2 rfl rfl ?_
          refine v_get (pc' := 50) (v := .int (nI (bS (mB (ks p) tk gv pr py) s9 (d + 1)))) (C := RX10) (T := TX10) (N := 38) F dX10_fewestOf_47 in_X10_fewestOf_X10 6 rfl rfl 26 (by decide) (List.mem_of_getElem? (i := 3) rfl) rfl rfl ?_
          refine v_istore (pc' := 52) (lv' := [(5, .int (nI (bS (mB (ks p) tk gv pr py) s9 (d + 1)))), (4, .int (nI d)), (3, .int (nI (bS (mB (ks p) tk gv pr py) s9 d))), (0, .ref o), (1, .int (nI p)), (2, .int (nI g9))]) F dX10_fewestOf_50 (by decide) rfl rfl ?_
          refine v_iinc (pc' := 55) (v := nI (d + 1)) (lv' := [(4, .int (nI (d + 1))), (5, .int (nI (bS (mB (ks p) tk gv pr py) s9 (d + 1)))), (3, .int (nI (bS (mB (ks p) tk gv pr py) s9 d))), (0, .ref o), (1, .int (nI p)), (2, .int (nI g9))]) F dX10_fewestOf_52 1 rfl (nI_add _ _) (by decide) rfl rfl ?_
          refine v_ws (wz := [(ma 2, aI G 4 tk), (ma 3, aI G 4 gv), (ma 4, aI G 4 pr), (ma 5, aI G 4 py), (ma 7, aI G 5 ks), (ma 8, aI G 5 sx), (o, mO ma (va_up (va_up fi 27 (-1)) 26 (nI ((qS (mB (ks p) tk gv pr py) s9 (bS (mB (ks p) tk gv pr py) s9 d)).length))) fl), (ma 24, aB G 40000 fo1), (ma 25, aI G 40000 qu1)]) (by rfl) ?_
          have L55 : ∀ (fu : Nat) (m : Nat) (fo2 : Nat → Nat) (qu2 : Nat → Nat), ((bS (mB (ks p) tk gv pr py) s9 d) ≤ m) → (m ≤ (bS (mB (ks p) tk gv pr py) s9 (d + 1))) → (MM fo2 qu2 (qS (mB (ks p) tk gv pr py) s9 m)) → (bS (mB (ks p) tk gv pr py) s9 (d + 1)) < m + fu → V pgZ l evZ rm_X10_fewestOf sgZ mmZ agsZ blZ meZ cdZ 0 0 QZ D AZ 7 55 [(4, .int (nI (d + 1))), (5, .int (nI (bS (mB (ks p) tk gv pr py) s9 (d + 1)))), (3, .int (nI m)), (0, .ref o), (1, .int (nI p)), (2, .int (nI g9))] [] [(ma 2, aI G 4 tk), (ma 3, aI G 4 gv), (ma 4, aI G 4 pr), (ma 5, aI G 4 py), (ma 7, aI G 5 ks), (ma 8, aI G 5 sx), (o, mO ma (va_up (va_up fi 27 (-1)) 26 (nI ((qS (mB (ks p) tk gv pr py) s9 m).length))) fl), (ma 24, aB G 40000 fo2), (ma 25, aI G 40000 qu2)] := by
            intro fu
            induction fu with
            | zero => intro m fo2 qu2 hm1 hm2 hM2 hfu; exact absurd hfu (by omega)
            | succ fu ih55 =>
              intro m fo2 qu2 hm1 hm2 hM2 hfu
              refine v_iload_n (pc' := 56) F dX10_fewestOf_55 rfl 2 rfl rfl ?_
              refine v_iload (pc' := 58) F dX10_fewestOf_56 1 rfl rfl ?_
              refine v_ncmp_ge (tgt := 83) (pc' := 61) F dX10_fewestOf_58 (by omega) (by omega) (by decide) rfl (fun c11 => ?_) (fun c11 => ?_)
              · have hme : m = (bS (mB (ks p) tk gv pr py) s9 (d + 1)) := by omega
                subst hme
                have hM3 := hM2
                refine v_ws (wz := [(ma 2, aI G 4 tk), (ma 3, aI G 4 gv), (ma 4, aI G 4 pr), (ma 5, aI G 4 py), (ma 7, aI G 5 ks), (ma 8, aI G 5 sx), (o, mO ma (va_up (va_up fi 27 (-1)) 26 (nI (bS (mB (ks p) tk gv pr py) s9 (d + 1 + 1)))) fl), (ma 24, aB G 40000 fo2), (ma 25, aI G 40000 qu2)]) (by rfl) ?_
                refine v_iload (pc' := 85) F dX10_fewestOf_83 1 rfl rfl ?_
                refine v_istore (pc' := 87) (lv' := [(6, .int (nI (bS (mB (ks p) tk gv pr py) s9 (d + 1)))), (4, .int (nI (d + 1))), (5, .int (nI (bS (mB (ks p) tk gv pr py) s9 (d + 1)))), (3, .int (nI (bS (mB (ks p) tk gv pr py) s9 (d + 1)))), (0, .ref o), (1, .int (nI p)), (2, .int (nI g9))]) F dX10_fewestOf_85 (by decide) rfl rfl ?_
                have L87 : ∀ (fu : Nat) (j : Nat), ((bS (mB (ks p) tk gv pr py) s9 (d + 1)) ≤ j) → (j ≤ (bS (mB (ks p) tk gv pr py) s9 (d + 1 + 1))) → (NBf g9 (qS (mB (ks p) tk gv pr py) s9 (bS (mB (ks p) tk gv pr py) s9 (d + 1))) j) → (bS (mB (ks p) tk gv pr py) s9 (d + 1 + 1)) < j + fu → V pgZ l evZ rm_X10_fewestOf sgZ mmZ agsZ blZ meZ cdZ 0 0 QZ D AZ 7 87 [(6, .int (nI j)), (4, .int (nI (d + 1))), (5, .int (nI (bS (mB (ks p) tk gv pr py) s9 (d + 1)))), (3, .int (nI (bS (mB (ks p) tk gv pr py) s9 (d + 1)))), (0, .ref o), (1, .int (nI p)), (2, .int (nI g9))] [] [(ma 2, aI G 4 tk), (ma 3, aI G 4 gv), (ma 4, aI G 4 pr), (ma 5, aI G 4 py), (ma 7, aI G 5 ks), (ma 8, aI G 5 sx), (o, mO ma (va_up (va_up fi 27 (-1)) 26 (nI (bS (mB (ks p) tk gv pr py) s9 (d + 1 + 1)))) fl), (ma 24, aB G 40000 fo2), (ma 25, aI G 40000 qu2)] := by
                  intro fu
                  induction fu with
                  | zero => intro j hj1 hj2 hB hfu; exact absurd hfu (by omega)
                  | succ fu ih87 =>
                    intro j hj1 hj2 hB hfu
                    refine v_iload (pc' := 89) F dX10_fewestOf_87 0 rfl rfl ?_
                    refine v_aload_n (pc' := 90) F dX10_fewestOf_89 rfl 4 rfl rfl ?_
                    refine v_get (pc' := 93) (v := .int (nI (bS (mB (ks p) tk gv pr py) s9 (d + 1 + 1)))) (C := RX10) (T := TX10) (N := 38) F dX10_fewestOf_90 in_X10_fewestOf_X10 6 rfl rfl 26 (by decide) (List.mem_of_getElem? (i := 3) rfl) rfl rfl ?_
                    refine v_ncmp_ge (tgt := 140) (pc' := 96) F dX10_fewestOf_93 (by omega) (by omega) (by decide) rfl (fun c13 => ?_) (fun c13 => ?_)
                    · refine v_goto (tgt := 38) F dX10_fewestOf_140 (by decide) ?_
                      refine v_lpick (lz := [(4, .int (nI (d + 1))), (3, .int (nI (bS (mB (ks p) tk gv pr py) s9 (d + 1)))), (0, .ref o), (1, .int (nI p)), (2, .int (nI g9))]) [1, 3, 4, 5, 6] rfl ?_
                      exact ih38 (d + 1) (bS (mB (ks p) tk gv pr py) s9 (d + 1)) fo2 qu2 (rfl) (by omega) (by omega) (hM3) (NBf_end hB (show (bS (mB (ks p) tk gv pr py) s9 (d + 1 + 1)) ≤ j by omega)) (fwR_go hfw (by omega) (by omega) (fe_miss hw hg hsl hN (NBf_end hB (show (bS (mB (ks p) tk gv pr py) s9 (d + 1 + 1)) ≤ j by omega)))) (by omega)
                    · obtain ⟨n9, f9, hat⟩ := at_lt (Q := (qS (mB (ks p) tk gv pr py) s9 (bS (mB (ks p) tk gv pr py) s9 (d + 1)))) (j := j) (by show j < (bS (mB (ks p) tk gv pr py) s9 (d + 1 + 1)); omega)
                      obtain ⟨hn9, hf9⟩ := QI_at (hqi _) hat
                      have hqn := (hM3.1 _ _ _ hat).1
                      have hfn := MM_f hM3 hat (by omega)
                      refine v_aload_n (pc' := 97) F dX10_fewestOf_96 rfl 4 rfl rfl ?_
                      refine v_get (pc' := 100) (v := .ref (ma 25)) (C := RX10) (T := TX10) (N := 38) F dX10_fewestOf_97 in_X10_fewestOf_X10 6 rfl rfl 25 (by decide) (List.mem_of_getElem? (i := 5) rfl) rfl rfl ?_
                      refine v_iload (pc' := 102) F dX10_fewestOf_100 0 rfl rfl ?_
                      refine v_iald (pc' := 103) (z := qu2 j) F dX10_fewestOf_102 8 rfl (by omega) (by first | decide | omega) rfl rfl ?_
                      refine v_top (y := nI n9) (by rw [hqn]) ?_
                      refine cSI0 (pc' := 106) (As := [.int (nI n9)]) (rest := []) F (c_X10_goodsIn n9 (by omega)) (va_cwS 1 F.2.2.2.2.1 gX10_fewestOf_X10_goodsIn rfl rfl rfl (by decide +kernel) ⟨Nat.le_of_ble_eq_true rfl, Nat.le_of_ble_eq_true rfl⟩) rfl rfl (Nat.le_of_ble_eq_true rfl) dX10_fewestOf_103 ⟨Nat.zero_le _, Nat.zero_le _⟩ rfl (fun r u q14 => ?_)
                      obtain rfl := q14
                      refine v_iload_n (pc' := 107) F dX10_fewestOf_106 rfl 6 rfl rfl ?_
                      refine cSI0 (pc' := 110) (As := [.int (nI (n9 / 2500)), .int (nI g9)]) (rest := []) F (c_X10_has (n9 / 2500) g9 (by omega) (by omega)) (va_cwS 2 F.2.2.2.2.1 gX10_fewestOf_X10_has rfl rfl rfl (by decide +kernel) ⟨Nat.le_of_ble_eq_true rfl, Nat.le_of_ble_eq_true rfl⟩) rfl rfl (Nat.le_of_ble_eq_true rfl) dX10_fewestOf_107 ⟨Nat.zero_le _, Nat.zero_le _⟩ rfl (fun r u q15 => ?_)
                      obtain rfl := q15
                      refine v_bif_eq (tgt := 134) (pc' := 113) F dX10_fewestOf_110 (by decide) rfl (fun c16 => ?_) (fun c16 => ?_)
                      · refine v_iinc (pc' := 137) (v := nI (j + 1)) (lv' := [(6, .int (nI (j + 1))), (4, .int (nI (d + 1))), (5, .int (nI (bS (mB (ks p) tk gv pr py) s9 (d + 1)))), (3, .int (nI (bS (mB (ks p) tk gv pr py) s9 (d + 1)))), (0, .ref o), (1, .int (nI p)), (2, .int (nI g9))]) F dX10_fewestOf_134 0 rfl (nI_add _ _) (by decide) rfl rfl ?_
                        refine v_goto (tgt := 87) F dX10_fewestOf_137 (by decide) ?_
                        exact ih87 (j + 1) (by omega) (by omega) (NBf_s hB hat (by assumption)) (by omega)
                      · have hgn : gd n9 g9 := by assumption
                        have hhit := fwR_hit hfw (by omega) (by omega) (fe_hit hw hg hsl hN hB hat hgn)
                        obtain ⟨hy1, hy2⟩ := fe_yes hng hhit
                        refine v_aload_n (pc' := 114) F dX10_fewestOf_113 rfl 4 rfl rfl ?_
                        refine v_aload_n (pc' := 115) F dX10_fewestOf_114 rfl 4 rfl rfl ?_
                        refine v_get (pc' := 118) (v := .ref (ma 24)) (C := RX10) (T := TX10) (N := 38) F dX10_fewestOf_115 in_X10_fewestOf_X10 6 rfl rfl 24 (by decide) (List.mem_of_getElem? (i := 6) rfl) rfl rfl ?_
                        refine v_aload_n (pc' := 119) F dX10_fewestOf_118 rfl 4 rfl rfl ?_
                        refine v_get (pc' := 122) (v := .ref (ma 25)) (C := RX10) (T := TX10) (N := 38) F dX10_fewestOf_119 in_X10_fewestOf_X10 6 rfl rfl 25 (by decide) (List.mem_of_getElem? (i := 5) rfl) rfl rfl ?_
                        refine v_iload (pc' := 124) F dX10_fewestOf_122 0 rfl rfl ?_
                        refine v_iald (pc' := 125) (z := qu2 j) F dX10_fewestOf_124 8 rfl (by omega) (by first | decide | omega) rfl rfl ?_
                        refine v_top (y := nI n9) (by rw [hqn]) ?_
                        refine v_bald (pc' := 126) (z := fo2 n9) F dX10_fewestOf_125 7 rfl (by omega) (by first | decide | omega) rfl rfl ?_
                        refine v_iconst (pc' := 127) (v := nI 1) F dX10_fewestOf_126 (by decide) rfl ?_
                        refine v_isub (pc' := 128) (z := nI f9) F dX10_fewestOf_127 (by rw [hfn, pk_sub (by omega)]; rfl) rfl ?_
                        refine v_put (pc' := 131) (ws' := [(ma 2, aI G 4 tk), (ma 3, aI G 4 gv), (ma 4, aI G 4 pr), (ma 5, aI G 4 py), (ma 7, aI G 5 ks), (ma 8, aI G 5 sx), (o, mO ma (va_up (va_up (va_up fi 27 (-1)) 26 (nI (bS (mB (ks p) tk gv pr py) s9 (d + 1 + 1)))) 27 (nI f9)) fl), (ma 24, aB G 40000 fo2), (ma 25, aI G 40000 qu2)]) (C := RX10) (T := TX10) (N := 38) F dX10_fewestOf_128 in_X10_fewestOf_X10 tyX10_ok nmX10 6 rfl rfl 27 (by decide) (List.mem_of_getElem? (i := 1) rfl) rfl rfl rfl (Nat.le_of_ble_eq_true rfl) rfl rfl ?_
                        refine v_iload (pc' := 133) F dX10_fewestOf_131 1 rfl rfl ?_
                        refine v_ws (wz := [(ma 2, aI G 4 tk), (ma 3, aI G 4 gv), (ma 4, aI G 4 pr), (ma 5, aI G 4 py), (ma 7, aI G 5 ks), (ma 8, aI G 5 sx), (o, mO ma (va_up (va_up fi 27 (nI f9)) 26 (nI (bS (mB (ks p) tk gv pr py) s9 (d + 1 + 1)))) fl), (ma 24, aB G 40000 fo2), (ma 25, aI G 40000 qu2)]) (by rw [up_sw _ _ _ _ _ _ (by decide)]) ?_
                        refine v_perm (wz := [(o, mO ma (va_up (va_up fi 27 (nI f9)) 26 (nI (bS (mB (ks p) tk gv pr py) s9 (d + 1 + 1)))) fl), (ma 2, aI G 4 tk), (ma 3, aI G 4 gv), (ma 4, aI G 4 pr), (ma 5, aI G 4 py), (ma 7, aI G 5 ks), (ma 8, aI G 5 sx), (ma 24, aB G 40000 fo2), (ma 25, aI G 40000 qu2)]) [6, 0, 1, 2, 3, 4, 5, 7, 8] (by decide) rfl ?_
                        exact rt dX10_fewestOf_133 (nI f9, (bS (mB (ks p) tk gv pr py) s9 (d + 1 + 1)), fo2, qu2) (by rw [← hs9]; exact ⟨hy1, hy2, CQ_of hM3 (hqi _)⟩) rfl
                exact L87 ((bS (mB (ks p) tk gv pr py) s9 (d + 1 + 1)) + 1) (bS (mB (ks p) tk gv pr py) s9 (d + 1)) (by omega) (by omega) (NBf_0 hN _) (by omega)
              · have hmq : m < (qS (mB (ks p) tk gv pr py) s9 m).length := Nat.lt_of_lt_of_le (show m < (qS (mB (ks p) tk gv pr py) s9 (bS (mB (ks p) tk gv pr py) s9 d)).length from (by assumption)) (qS_len (by omega))
                obtain ⟨n9, f9, hat⟩ := at_lt hmq
                obtain ⟨hn9, hf9⟩ := QI_at (hqi m) hat
                have hqn := (hM2.1 _ _ _ hat).1
                have hlm := QI_len (hqi m)
                refine v_aload_n (pc' := 62) F dX10_fewestOf_61 rfl 3 rfl rfl ?_
                refine v_aload_n (pc' := 63) F dX10_fewestOf_62 rfl 3 rfl rfl ?_
                refine v_get (pc' := 66) (v := .ref (ma 7)) (C := RX10) (T := TX10) (N := 38) F dX10_fewestOf_63 in_X10_fewestOf_X10 6 rfl rfl 7 (by decide) (List.mem_of_getElem? (i := 4) rfl) rfl rfl ?_
                refine v_iload_n (pc' := 67) F dX10_fewestOf_66 rfl 4 rfl rfl ?_
                refine v_iald (pc' := 68) (z := ks p) F dX10_fewestOf_67 4 rfl (by omega) (by first | decide | omega) rfl rfl ?_
                refine v_aload_n (pc' := 69) F dX10_fewestOf_68 rfl 3 rfl rfl ?_
                refine v_get (pc' := 72) (v := .ref (ma 25)) (C := RX10) (T := TX10) (N := 38) F dX10_fewestOf_69 in_X10_fewestOf_X10 6 rfl rfl 25 (by decide) (List.mem_of_getElem? (i := 5) rfl) rfl rfl ?_
                refine v_iload_n (pc' := 73) F dX10_fewestOf_72 rfl 2 rfl rfl ?_
                refine v_iald (pc' := 74) (z := qu2 m) F dX10_fewestOf_73 8 rfl (by omega) (by first | decide | omega) rfl rfl ?_
                refine v_top (y := nI n9) (by rw [hqn]) ?_
                refine cVV (pc' := 77) (As := [.int (nI (ks p)), .int (nI n9)]) (rest := []) (wr := [(ma 7, aI G 5 ks), (ma 8, aI G 5 sx)]) F (c_X10_goFrom o ma (va_up (va_up fi 27 (-1)) 26 (nI ((qS (mB (ks p) tk gv pr py) s9 m).length))) fl tk gv pr py fo2 qu2 (ks p) n9 f9 m (qS (mB (ks p) tk gv pr py) s9 m) (up_at _ _ _) hM2 (hqi m) hat hw hks) (cwV 2 F.2.2.2.2.1 gX10_fewestOf_X10_goFrom rfl rfl rfl (by decide +kernel) ⟨Nat.le_of_ble_eq_true rfl, Nat.le_of_ble_eq_true rfl⟩) (v_rcvW F 8 6 rfl rfl) rfl rfl (Nat.le_of_ble_eq_true rfl) dX10_fewestOf_74 [6, 0, 1, 2, 3, 7, 8] [4, 5] (by decide) rfl rfl (by decide) (by decide) ⟨Nat.zero_le _, Nat.zero_le _⟩ rfl (fun u q20 => ?_)
                obtain ⟨fo2_17, qu2_18⟩ := u
                have hM_19 := q20
                refine v_ws (wz := [(ma 7, aI G 5 ks), (ma 8, aI G 5 sx), (o, mO ma (va_up (va_up (va_up fi 27 (-1)) 26 (nI ((qS (mB (ks p) tk gv pr py) s9 m).length))) 26 (nI (exL m f9 (qS (mB (ks p) tk gv pr py) s9 m) (opP (mB (ks p) tk gv pr py n9))).length)) fl), (ma 2, aI G 4 tk), (ma 3, aI G 4 gv), (ma 4, aI G 4 pr), (ma 5, aI G 4 py), (ma 24, aB G 40000 fo2_17), (ma 25, aI G 40000 qu2_18)]) rfl ?_
                refine v_iinc (pc' := 80) (v := nI (m + 1)) (lv' := [(3, .int (nI (m + 1))), (4, .int (nI (d + 1))), (5, .int (nI (bS (mB (ks p) tk gv pr py) s9 (d + 1)))), (0, .ref o), (1, .int (nI p)), (2, .int (nI g9))]) F dX10_fewestOf_77 2 rfl (nI_add _ _) (by decide) rfl rfl ?_
                refine v_goto (tgt := 55) F dX10_fewestOf_80 (by decide) ?_
                refine v_ws (wz := [(ma 7, aI G 5 ks), (ma 8, aI G 5 sx), (o, mO ma (va_up (va_up fi 27 (-1)) 26 (nI ((qS (mB (ks p) tk gv pr py) s9 (m + 1)).length))) fl), (ma 2, aI G 4 tk), (ma 3, aI G 4 gv), (ma 4, aI G 4 pr), (ma 5, aI G 4 py), (ma 24, aB G 40000 fo2_17), (ma 25, aI G 40000 qu2_18)]) (by rw [up_up, qS_s hat]) ?_
                refine v_perm (wz := [(ma 2, aI G 4 tk), (ma 3, aI G 4 gv), (ma 4, aI G 4 pr), (ma 5, aI G 4 py), (ma 7, aI G 5 ks), (ma 8, aI G 5 sx), (o, mO ma (va_up (va_up fi 27 (-1)) 26 (nI ((qS (mB (ks p) tk gv pr py) s9 (m + 1)).length))) fl), (ma 24, aB G 40000 fo2_17), (ma 25, aI G 40000 qu2_18)]) [3, 4, 5, 6, 0, 1, 2, 7, 8] (by decide) rfl ?_
                refine v_lpick (lz := [(4, .int (nI (d + 1))), (5, .int (nI (bS (mB (ks p) tk gv pr py) s9 (d + 1)))), (3, .int (nI (m + 1))), (0, .ref o), (1, .int (nI p)), (2, .int (nI g9))]) [1, 2, 0, 3, 4, 5] rfl ?_
                exact ih55 (m + 1) fo2_17 qu2_18 (by omega) (by omega) (by rw [qS_s hat]; exact hM_19) (by omega)
          exact L55 ((bS (mB (ks p) tk gv pr py) s9 (d + 1)) + 1) (bS (mB (ks p) tk gv pr py) s9 d) fo1 qu1 (by omega) (by omega) (hM) (by omega)
    exact L38 (40000 + 1) 0 0 fo2_4 qu2_5 (rfl) (by omega) (by omega) (by assumption) (NGQ_0 hng) (rfl) (by omega)
  · have hgs : gd s9 g9 := by assumption
    refine v_iconst (pc' := 22) (v := nI 0) F dX10_fewestOf_21 (by decide) rfl ?_
    refine v_ws (wz := [(o, mO ma (va_up (va_up fi 27 (-1)) 26 (nI qe)) fl), (ma 2, aI G 4 tk), (ma 3, aI G 4 gv), (ma 4, aI G 4 pr), (ma 5, aI G 4 py), (ma 7, aI G 5 ks), (ma 8, aI G 5 sx), (ma 24, aB G 40000 fo), (ma 25, aI G 40000 qu)]) (by rw [up_same (k := 26) (by rw [up_ne _ _ (by decide)]; exact hqe)]) ?_
    exact rt dX10_fewestOf_22 (-1, qe, fo, qu) (by rw [← hs9]; exact ⟨(by rw [show fnM (ks p) tk gv pr py g9 s9 = some 0 from fn_has hgs]; rfl), (f1_has hgs).symm, hcq⟩) rfl
def rm_X10_richestOf : Room := { frames := 4, cells := 0, slots := 0, locals := 94 }
theorem in_X10_richestOf_X10 : ∀ w ∈ u_ws RX10 TX10 38, w ∈ wsX10_richestOf := fun w h => List.mem_cons_of_mem _ (List.mem_append_right _ (h))
set_option maxHeartbeats 4000000 in
set_option maxRecDepth 100000 in
theorem c_X10_richestOf {l : Launch} {D : va_G} {G : gT} (o : Nat) (ma : Nat → Nat) (fi : Nat → Int32) (fl : Nat → Int64) (tk gv pr py ks sx fo qu : Nat → Nat) (qe p : Nat) (hqe : fi 26 = nI qe) (hcq : CQ fo qu qe) (hp : p < 5) (hwp : WPe ks sx) (hw : WL tk gv pr py) (a9 : Nat) (ha : a9 ≤ 8) : CtI (σ := Nat × (Nat → Nat) × (Nat → Nat)) l yX10_richestOf wsX10_richestOf rm_X10_richestOf D G [.ref o, .int (nI p), .int (nI a9)] [(o, mO ma fi fl), (ma 2, aI G 4 tk), (ma 3, aI G 4 gv), (ma 4, aI G 4 pr), (ma 5, aI G 4 py), (ma 7, aI G 5 ks), (ma 8, aI G 5 sx), (ma 24, aB G 40000 fo), (ma 25, aI G 40000 qu)] (fun r u => r = nI (rcV (mB (ks p) tk gv pr py) (sx p) a9) ∧ CQ (u.2.1) (u.2.2) (u.1)) (fun u => [(o, mO ma (va_up fi 26 (nI (u.1))) fl), (ma 2, aI G 4 tk), (ma 3, aI G 4 gv), (ma 4, aI G 4 pr), (ma 5, aI G 4 py), (ma 7, aI G 5 ks), (ma 8, aI G 5 sx), (ma 24, aB G 40000 (u.2.1)), (ma 25, aI G 40000 (u.2.2))]) := by
  obtain ⟨s9, hs9⟩ : ∃ z, z = sx p := ⟨_, rfl⟩
  have hks := (hwp p hp).1
  have hsl : s9 < 40000 := by rw [hs9]; exact (hwp p hp).2
  have hGB : GB (mB (ks p) tk gv pr py) := GB_m hw
  have hqi := fun m => qS_QI hGB hsl m
  have hb4 := fun d => bS_40 hGB hsl d
  have hbl := fun d => bS_le (B := mB (ks p) tk gv pr py) (s := s9) d
  refine openI (maxL := 6) (by decide) rfl (Nat.le_of_ble_eq_true rfl) ?_
  intro pgZ evZ sgZ mmZ agsZ blZ meZ cdZ AZ QZ F hmn rt
  refine v_lv (lz := [(0, .ref o), (1, .int (nI p)), (2, .int (nI a9))]) rfl ?_
  refine v_aload_n (pc' := 1) F dX10_richestOf_0 rfl 0 rfl rfl ?_
  refine v_aload_n (pc' := 2) F dX10_richestOf_1 rfl 0 rfl rfl ?_
  refine v_get (pc' := 5) (v := .ref (ma 8)) (C := RX10) (T := TX10) (N := 38) F dX10_richestOf_2 in_X10_richestOf_X10 0 rfl rfl 8 (by decide) (List.mem_of_getElem? (i := 1) rfl) rfl rfl ?_
  refine v_iload_n (pc' := 6) F dX10_richestOf_5 rfl 1 rfl rfl ?_
  refine v_iald (pc' := 7) (z := sx p) F dX10_richestOf_6 6 rfl (by omega) (by first | decide | omega) rfl rfl ?_
  refine v_top (y := nI s9) (by rw [hs9]) ?_
  refine cVV (pc' := 10) (As := [.int (nI s9)]) (rest := []) (wr := [(ma 2, aI G 4 tk), (ma 3, aI G 4 gv), (ma 4, aI G 4 pr), (ma 5, aI G 4 py), (ma 7, aI G 5 ks), (ma 8, aI G 5 sx)]) F (c_X10_layQueue o ma fi fl fo qu qe s9 hqe hcq (by omega)) (cwV 1 F.2.2.2.2.1 gX10_richestOf_X10_layQueue rfl rfl rfl (by decide +kernel) ⟨Nat.le_of_ble_eq_true rfl, Nat.le_of_ble_eq_true rfl⟩) (v_rcvW F 8 0 rfl rfl) rfl rfl (Nat.le_of_ble_eq_true rfl) dX10_richestOf_7 [0, 7, 8] [1, 2, 3, 4, 5, 6] (by decide) rfl rfl (by decide) (by decide) ⟨Nat.zero_le _, Nat.zero_le _⟩ rfl (fun u q4 => ?_)
  obtain ⟨fo2_1, qu2_2⟩ := u
  have hM_3 := q4
  refine v_ws (wz := [(ma 2, aI G 4 tk), (ma 3, aI G 4 gv), (ma 4, aI G 4 pr), (ma 5, aI G 4 py), (ma 7, aI G 5 ks), (ma 8, aI G 5 sx), (o, mO ma (va_up fi 26 (nI 1)) fl), (ma 24, aB G 40000 fo2_1), (ma 25, aI G 40000 qu2_2)]) rfl ?_
  refine v_iconst (pc' := 11) (v := nI 0) F dX10_richestOf_10 (by decide) rfl ?_
  refine v_istore_n (pc' := 12) (lv' := [(3, .int (nI 0)), (0, .ref o), (1, .int (nI p)), (2, .int (nI a9))]) F dX10_richestOf_11 rfl (by decide) rfl rfl ?_
  refine v_iconst (pc' := 13) (v := nI 0) F dX10_richestOf_12 (by decide) rfl ?_
  refine v_istore (pc' := 15) (lv' := [(4, .int (nI 0)), (3, .int (nI 0)), (0, .ref o), (1, .int (nI p)), (2, .int (nI a9))]) F dX10_richestOf_13 (by decide) rfl rfl ?_
  refine v_ws (wz := [(ma 2, aI G 4 tk), (ma 3, aI G 4 gv), (ma 4, aI G 4 pr), (ma 5, aI G 4 py), (ma 7, aI G 5 ks), (ma 8, aI G 5 sx), (o, mO ma (va_up fi 26 (nI (bS (mB (ks p) tk gv pr py) s9 (0 + 1)))) fl), (ma 24, aB G 40000 fo2_1), (ma 25, aI G 40000 qu2_2)]) (by rfl) ?_
  have L15 : ∀ (fu : Nat) (d : Nat) (b9 : Nat) (fo1 : Nat → Nat) (qu1 : Nat → Nat), (d ≤ a9) → (b9 = (bS (mB (ks p) tk gv pr py) s9 d)) → (MM fo1 qu1 (qS (mB (ks p) tk gv pr py) s9 (bS (mB (ks p) tk gv pr py) s9 d))) → a9 < d + fu → V pgZ l evZ rm_X10_richestOf sgZ mmZ agsZ blZ meZ cdZ 0 0 QZ D AZ 6 15 [(4, .int (nI d)), (3, .int (nI b9)), (0, .ref o), (1, .int (nI p)), (2, .int (nI a9))] [] [(ma 2, aI G 4 tk), (ma 3, aI G 4 gv), (ma 4, aI G 4 pr), (ma 5, aI G 4 py), (ma 7, aI G 5 ks), (ma 8, aI G 5 sx), (o, mO ma (va_up fi 26 (nI (bS (mB (ks p) tk gv pr py) s9 (d + 1)))) fl), (ma 24, aB G 40000 fo1), (ma 25, aI G 40000 qu1)] := by
    intro fu
    induction fu with
    | zero => intro d b9 fo1 qu1 hd hb9 hM hfu; exact absurd hfu (by omega)
    | succ fu ih15 =>
      intro d b9 fo1 qu1 hd hb9 hM hfu
      subst hb9
      have hb1 := hb4 d
      have hb2 := hb4 (d + 1)
      have hb5 := hbl d
      refine v_iload (pc' := 17) F dX10_richestOf_15 0 rfl rfl ?_
      refine v_iload_n (pc' := 18) F dX10_richestOf_17 rfl 4 rfl rfl ?_
      refine v_ncmp_ge (tgt := 61) (pc' := 21) F dX10_richestOf_18 (by omega) (by omega) (by decide) rfl (fun c6 => ?_) (fun c6 => ?_)
      · have hda : d = a9 := by omega
        subst hda
        refine v_iconst (pc' := 62) (v := nI 0) F dX10_richestOf_61 (by decide) rfl ?_
        refine v_istore (pc' := 64) (lv' := [(4, .int (nI 0)), (3, .int (nI (bS (mB (ks p) tk gv pr py) s9 d))), (0, .ref o), (1, .int (nI p)), (2, .int (nI d))]) F dX10_richestOf_62 (by decide) rfl rfl ?_
        refine v_iconst (pc' := 65) (v := nI 0) F dX10_richestOf_64 (by decide) rfl ?_
        refine v_istore (pc' := 67) (lv' := [(5, .int (nI 0)), (4, .int (nI 0)), (3, .int (nI (bS (mB (ks p) tk gv pr py) s9 d))), (0, .ref o), (1, .int (nI p)), (2, .int (nI d))]) F dX10_richestOf_65 (by decide) rfl rfl ?_
        have L67 : ∀ (fu : Nat) (j : Nat) (mx : Nat), (j ≤ (bS (mB (ks p) tk gv pr py) s9 (d + 1))) → (mx = mxD (qS (mB (ks p) tk gv pr py) s9 (bS (mB (ks p) tk gv pr py) s9 d)) j) → (bS (mB (ks p) tk gv pr py) s9 (d + 1)) < j + fu → V pgZ l evZ rm_X10_richestOf sgZ mmZ agsZ blZ meZ cdZ 0 0 QZ D AZ 6 67 [(5, .int (nI j)), (4, .int (nI mx)), (3, .int (nI (bS (mB (ks p) tk gv pr py) s9 d))), (0, .ref o), (1, .int (nI p)), (2, .int (nI d))] [] [(ma 2, aI G 4 tk), (ma 3, aI G 4 gv), (ma 4, aI G 4 pr), (ma 5, aI G 4 py), (ma 7, aI G 5 ks), (ma 8, aI G 5 sx), (o, mO ma (va_up fi 26 (nI (bS (mB (ks p) tk gv pr py) s9 (d + 1)))) fl), (ma 24, aB G 40000 fo1), (ma 25, aI G 40000 qu1)] := by
          intro fu
          induction fu with
          | zero => intro j mx hj hmx hfu; exact absurd hfu (by omega)
          | succ fu ih67 =>
            intro j mx hj hmx hfu
            have hmxl := mxD_lt (qS (mB (ks p) tk gv pr py) s9 (bS (mB (ks p) tk gv pr py) s9 d)) j
            refine v_iload (pc' := 69) F dX10_richestOf_67 0 rfl rfl ?_
            refine v_aload_n (pc' := 70) F dX10_richestOf_69 rfl 3 rfl rfl ?_
            refine v_get (pc' := 73) (v := .int (nI (bS (mB (ks p) tk gv pr py) s9 (d + 1)))) (C := RX10) (T := TX10) (N := 38) F dX10_richestOf_70 in_X10_richestOf_X10 6 rfl rfl 26 (by decide) (List.mem_of_getElem? (i := 2) rfl) rfl rfl ?_
            refine v_ncmp_ge (tgt := 114) (pc' := 76) F dX10_richestOf_73 (by omega) (by omega) (by decide) rfl (fun c8 => ?_) (fun c8 => ?_)
            · refine v_iload (pc' := 116) F dX10_richestOf_114 1 rfl rfl ?_
              refine v_perm (wz := [(o, mO ma (va_up fi 26 (nI (bS (mB (ks p) tk gv pr py) s9 (d + 1)))) fl), (ma 2, aI G 4 tk), (ma 3, aI G 4 gv), (ma 4, aI G 4 pr), (ma 5, aI G 4 py), (ma 7, aI G 5 ks), (ma 8, aI G 5 sx), (ma 24, aB G 40000 fo1), (ma 25, aI G 40000 qu1)]) [6, 0, 1, 2, 3, 4, 5, 7, 8] (by decide) rfl ?_
              exact rt dX10_richestOf_116 ((bS (mB (ks p) tk gv pr py) s9 (d + 1)), fo1, qu1) (by rw [← hs9]; exact ⟨by rw [hmx, show j = (bS (mB (ks p) tk gv pr py) s9 (d + 1)) by omega], CQ_of hM (hqi _)⟩) rfl
            · obtain ⟨n9, f9, hat⟩ := at_lt (Q := (qS (mB (ks p) tk gv pr py) s9 (bS (mB (ks p) tk gv pr py) s9 d))) (j := j) (by show j < (bS (mB (ks p) tk gv pr py) s9 (d + 1)); omega)
              obtain ⟨hn9, hf9⟩ := QI_at (hqi _) hat
              have hqn := (hM.1 _ _ _ hat).1
              have hdt := dT_lt n9
              refine v_aload_n (pc' := 77) F dX10_richestOf_76 rfl 3 rfl rfl ?_
              refine v_get (pc' := 80) (v := .ref (ma 25)) (C := RX10) (T := TX10) (N := 38) F dX10_richestOf_77 in_X10_richestOf_X10 6 rfl rfl 25 (by decide) (List.mem_of_getElem? (i := 4) rfl) rfl rfl ?_
              refine v_iload (pc' := 82) F dX10_richestOf_80 0 rfl rfl ?_
              refine v_iald (pc' := 83) (z := qu1 j) F dX10_richestOf_82 8 rfl (by omega) (by first | decide | omega) rfl rfl ?_
              refine v_top (y := nI n9) (by rw [hqn]) ?_
              refine cSI0 (pc' := 86) (As := [.int (nI n9)]) (rest := []) F (c_X10_coinsAll n9 (by omega)) (va_cwS 1 F.2.2.2.2.1 gX10_richestOf_X10_coinsAll rfl rfl rfl (by decide +kernel) ⟨Nat.le_of_ble_eq_true rfl, Nat.le_of_ble_eq_true rfl⟩) rfl rfl (Nat.le_of_ble_eq_true rfl) dX10_richestOf_83 ⟨Nat.zero_le _, Nat.zero_le _⟩ rfl (fun r u q9 => ?_)
              obtain rfl := q9
              refine v_iload (pc' := 88) F dX10_richestOf_86 1 rfl rfl ?_
              refine v_ncmp_le (tgt := 104) (pc' := 91) F dX10_richestOf_88 (by omega) (by omega) (by decide) rfl (fun c10 => ?_) (fun c10 => ?_)
              · refine v_iload (pc' := 106) F dX10_richestOf_104 1 rfl rfl ?_
                refine v_istore (pc' := 108) (lv' := [(4, .int (nI mx)), (5, .int (nI j)), (3, .int (nI (bS (mB (ks p) tk gv pr py) s9 d))), (0, .ref o), (1, .int (nI p)), (2, .int (nI d))]) F dX10_richestOf_106 (by decide) rfl rfl ?_
                refine v_iinc (pc' := 111) (v := nI (j + 1)) (lv' := [(5, .int (nI (j + 1))), (4, .int (nI mx)), (3, .int (nI (bS (mB (ks p) tk gv pr py) s9 d))), (0, .ref o), (1, .int (nI p)), (2, .int (nI d))]) F dX10_richestOf_108 1 rfl (nI_add _ _) (by decide) rfl rfl ?_
                refine v_goto (tgt := 67) F dX10_richestOf_111 (by decide) ?_
                exact ih67 (j + 1) mx (by omega) (by rw [mxD_s hat, ← hmx]; omega) (by omega)
              · refine v_aload_n (pc' := 92) F dX10_richestOf_91 rfl 3 rfl rfl ?_
                refine v_get (pc' := 95) (v := .ref (ma 25)) (C := RX10) (T := TX10) (N := 38) F dX10_richestOf_92 in_X10_richestOf_X10 6 rfl rfl 25 (by decide) (List.mem_of_getElem? (i := 4) rfl) rfl rfl ?_
                refine v_iload (pc' := 97) F dX10_richestOf_95 0 rfl rfl ?_
                refine v_iald (pc' := 98) (z := qu1 j) F dX10_richestOf_97 8 rfl (by omega) (by first | decide | omega) rfl rfl ?_
                refine v_top (y := nI n9) (by rw [hqn]) ?_
                refine cSI0 (pc' := 101) (As := [.int (nI n9)]) (rest := []) F (c_X10_coinsAll n9 (by omega)) (va_cwS 1 F.2.2.2.2.1 gX10_richestOf_X10_coinsAll rfl rfl rfl (by decide +kernel) ⟨Nat.le_of_ble_eq_true rfl, Nat.le_of_ble_eq_true rfl⟩) rfl rfl (Nat.le_of_ble_eq_true rfl) dX10_richestOf_98 ⟨Nat.zero_le _, Nat.zero_le _⟩ rfl (fun r u q11 => ?_)
                obtain rfl := q11
                refine v_goto (tgt := 106) F dX10_richestOf_101 (by decide) ?_
                refine v_istore (pc' := 108) (lv' := [(4, .int (nI (dT n9))), (5, .int (nI j)), (3, .int (nI (bS (mB (ks p) tk gv pr py) s9 d))), (0, .ref o), (1, .int (nI p)), (2, .int (nI d))]) F dX10_richestOf_106 (by decide) rfl rfl ?_
                refine v_iinc (pc' := 111) (v := nI (j + 1)) (lv' := [(5, .int (nI (j + 1))), (4, .int (nI (dT n9))), (3, .int (nI (bS (mB (ks p) tk gv pr py) s9 d))), (0, .ref o), (1, .int (nI p)), (2, .int (nI d))]) F dX10_richestOf_108 1 rfl (nI_add _ _) (by decide) rfl rfl ?_
                refine v_goto (tgt := 67) F dX10_richestOf_111 (by decide) ?_
                exact ih67 (j + 1) (dT n9) (by omega) (by rw [mxD_s hat, ← hmx]; omega) (by omega)
        exact L67 ((bS (mB (ks p) tk gv pr py) s9 (d + 1)) + 1) 0 0 (by omega) (rfl) (by omega)
      · refine v_aload_n (pc' := 22) F dX10_richestOf_21 rfl 2 rfl rfl ?_
        refine v_get (pc' := 25) (v := .int (nI (bS (mB (ks p) tk gv pr py) s9 (d + 1)))) (C := RX10) (T := TX10) (N := 38) F dX10_richestOf_22 in_X10_richestOf_X10 6 rfl rfl 26 (by decide) (List.mem_of_getElem? (i := 2) rfl) rfl rfl ?_
        refine v_istore (pc' := 27) (lv' := [(5, .int (nI (bS (mB (ks p) tk gv pr py) s9 (d + 1)))), (4, .int (nI d)), (3, .int (nI (bS (mB (ks p) tk gv pr py) s9 d))), (0, .ref o), (1, .int (nI p)), (2, .int (nI a9))]) F dX10_richestOf_25 (by decide) rfl rfl ?_
        refine v_ws (wz := [(ma 2, aI G 4 tk), (ma 3, aI G 4 gv), (ma 4, aI G 4 pr), (ma 5, aI G 4 py), (ma 7, aI G 5 ks), (ma 8, aI G 5 sx), (o, mO ma (va_up fi 26 (nI ((qS (mB (ks p) tk gv pr py) s9 (bS (mB (ks p) tk gv pr py) s9 d)).length))) fl), (ma 24, aB G 40000 fo1), (ma 25, aI G 40000 qu1)]) (by rfl) ?_
        have L27 : ∀ (fu : Nat) (m : Nat) (fo2 : Nat → Nat) (qu2 : Nat → Nat), ((bS (mB (ks p) tk gv pr py) s9 d) ≤ m) → (m ≤ (bS (mB (ks p) tk gv pr py) s9 (d + 1))) → (MM fo2 qu2 (qS (mB (ks p) tk gv pr py) s9 m)) → (bS (mB (ks p) tk gv pr py) s9 (d + 1)) < m + fu → V pgZ l evZ rm_X10_richestOf sgZ mmZ agsZ blZ meZ cdZ 0 0 QZ D AZ 6 27 [(5, .int (nI (bS (mB (ks p) tk gv pr py) s9 (d + 1)))), (4, .int (nI d)), (3, .int (nI m)), (0, .ref o), (1, .int (nI p)), (2, .int (nI a9))] [] [(ma 2, aI G 4 tk), (ma 3, aI G 4 gv), (ma 4, aI G 4 pr), (ma 5, aI G 4 py), (ma 7, aI G 5 ks), (ma 8, aI G 5 sx), (o, mO ma (va_up fi 26 (nI ((qS (mB (ks p) tk gv pr py) s9 m).length))) fl), (ma 24, aB G 40000 fo2), (ma 25, aI G 40000 qu2)] := by
          intro fu
          induction fu with
          | zero => intro m fo2 qu2 hm1 hm2 hM2 hfu; exact absurd hfu (by omega)
          | succ fu ih27 =>
            intro m fo2 qu2 hm1 hm2 hM2 hfu
            refine v_iload_n (pc' := 28) F dX10_richestOf_27 rfl 2 rfl rfl ?_
            refine v_iload (pc' := 30) F dX10_richestOf_28 0 rfl rfl ?_
            refine v_ncmp_ge (tgt := 55) (pc' := 33) F dX10_richestOf_30 (by omega) (by omega) (by decide) rfl (fun c13 => ?_) (fun c13 => ?_)
            · have hme : m = (bS (mB (ks p) tk gv pr py) s9 (d + 1)) := by omega
              subst hme
              refine v_iinc (pc' := 58) (v := nI (d + 1)) (lv' := [(4, .int (nI (d + 1))), (5, .int (nI (bS (mB (ks p) tk gv pr py) s9 (d + 1)))), (3, .int (nI (bS (mB (ks p) tk gv pr py) s9 (d + 1)))), (0, .ref o), (1, .int (nI p)), (2, .int (nI a9))]) F dX10_richestOf_55 1 rfl (nI_add _ _) (by decide) rfl rfl ?_
              refine v_goto (tgt := 15) F dX10_richestOf_58 (by decide) ?_
              refine v_ws (wz := [(ma 2, aI G 4 tk), (ma 3, aI G 4 gv), (ma 4, aI G 4 pr), (ma 5, aI G 4 py), (ma 7, aI G 5 ks), (ma 8, aI G 5 sx), (o, mO ma (va_up fi 26 (nI (bS (mB (ks p) tk gv pr py) s9 (d + 1 + 1)))) fl), (ma 24, aB G 40000 fo2), (ma 25, aI G 40000 qu2)]) (by rfl) ?_
              refine v_lpick (lz := [(4, .int (nI (d + 1))), (3, .int (nI (bS (mB (ks p) tk gv pr py) s9 (d + 1)))), (0, .ref o), (1, .int (nI p)), (2, .int (nI a9))]) [0, 2, 3, 4, 5] rfl ?_
              exact ih15 (d + 1) (bS (mB (ks p) tk gv pr py) s9 (d + 1)) fo2 qu2 (by omega) (rfl) (hM2) (by omega)
            · have hmq : m < (qS (mB (ks p) tk gv pr py) s9 m).length := Nat.lt_of_lt_of_le (show m < (qS (mB (ks p) tk gv pr py) s9 (bS (mB (ks p) tk gv pr py) s9 d)).length from (by assumption)) (qS_len (by omega))
              obtain ⟨n9, f9, hat⟩ := at_lt hmq
              obtain ⟨hn9, hf9⟩ := QI_at (hqi m) hat
              have hqn := (hM2.1 _ _ _ hat).1
              have hlm := QI_len (hqi m)
              refine v_aload_n (pc' := 34) F dX10_richestOf_33 rfl 3 rfl rfl ?_
              refine v_aload_n (pc' := 35) F dX10_richestOf_34 rfl 3 rfl rfl ?_
              refine v_get (pc' := 38) (v := .ref (ma 7)) (C := RX10) (T := TX10) (N := 38) F dX10_richestOf_35 in_X10_richestOf_X10 6 rfl rfl 7 (by decide) (List.mem_of_getElem? (i := 3) rfl) rfl rfl ?_
              refine v_iload_n (pc' := 39) F dX10_richestOf_38 rfl 4 rfl rfl ?_
              refine v_iald (pc' := 40) (z := ks p) F dX10_richestOf_39 4 rfl (by omega) (by first | decide | omega) rfl rfl ?_
              refine v_aload_n (pc' := 41) F dX10_richestOf_40 rfl 3 rfl rfl ?_
              refine v_get (pc' := 44) (v := .ref (ma 25)) (C := RX10) (T := TX10) (N := 38) F dX10_richestOf_41 in_X10_richestOf_X10 6 rfl rfl 25 (by decide) (List.mem_of_getElem? (i := 4) rfl) rfl rfl ?_
              refine v_iload_n (pc' := 45) F dX10_richestOf_44 rfl 2 rfl rfl ?_
              refine v_iald (pc' := 46) (z := qu2 m) F dX10_richestOf_45 8 rfl (by omega) (by first | decide | omega) rfl rfl ?_
              refine v_top (y := nI n9) (by rw [hqn]) ?_
              refine cVV (pc' := 49) (As := [.int (nI (ks p)), .int (nI n9)]) (rest := []) (wr := [(ma 7, aI G 5 ks), (ma 8, aI G 5 sx)]) F (c_X10_goFrom o ma (va_up fi 26 (nI ((qS (mB (ks p) tk gv pr py) s9 m).length))) fl tk gv pr py fo2 qu2 (ks p) n9 f9 m (qS (mB (ks p) tk gv pr py) s9 m) (up_at _ _ _) hM2 (hqi m) hat hw hks) (cwV 2 F.2.2.2.2.1 gX10_richestOf_X10_goFrom rfl rfl rfl (by decide +kernel) ⟨Nat.le_of_ble_eq_true rfl, Nat.le_of_ble_eq_true rfl⟩) (v_rcvW F 8 6 rfl rfl) rfl rfl (Nat.le_of_ble_eq_true rfl) dX10_richestOf_46 [6, 0, 1, 2, 3, 7, 8] [4, 5] (by decide) rfl rfl (by decide) (by decide) ⟨Nat.zero_le _, Nat.zero_le _⟩ rfl (fun u q17 => ?_)
              obtain ⟨fo2_14, qu2_15⟩ := u
              have hM_16 := q17
              refine v_ws (wz := [(ma 7, aI G 5 ks), (ma 8, aI G 5 sx), (o, mO ma (va_up (va_up fi 26 (nI ((qS (mB (ks p) tk gv pr py) s9 m).length))) 26 (nI (exL m f9 (qS (mB (ks p) tk gv pr py) s9 m) (opP (mB (ks p) tk gv pr py n9))).length)) fl), (ma 2, aI G 4 tk), (ma 3, aI G 4 gv), (ma 4, aI G 4 pr), (ma 5, aI G 4 py), (ma 24, aB G 40000 fo2_14), (ma 25, aI G 40000 qu2_15)]) rfl ?_
              refine v_iinc (pc' := 52) (v := nI (m + 1)) (lv' := [(3, .int (nI (m + 1))), (5, .int (nI (bS (mB (ks p) tk gv pr py) s9 (d + 1)))), (4, .int (nI d)), (0, .ref o), (1, .int (nI p)), (2, .int (nI a9))]) F dX10_richestOf_49 2 rfl (nI_add _ _) (by decide) rfl rfl ?_
              refine v_goto (tgt := 27) F dX10_richestOf_52 (by decide) ?_
              refine v_ws (wz := [(ma 7, aI G 5 ks), (ma 8, aI G 5 sx), (o, mO ma (va_up fi 26 (nI ((qS (mB (ks p) tk gv pr py) s9 (m + 1)).length))) fl), (ma 2, aI G 4 tk), (ma 3, aI G 4 gv), (ma 4, aI G 4 pr), (ma 5, aI G 4 py), (ma 24, aB G 40000 fo2_14), (ma 25, aI G 40000 qu2_15)]) (by rw [up_up, qS_s hat]) ?_
              refine v_perm (wz := [(ma 2, aI G 4 tk), (ma 3, aI G 4 gv), (ma 4, aI G 4 pr), (ma 5, aI G 4 py), (ma 7, aI G 5 ks), (ma 8, aI G 5 sx), (o, mO ma (va_up fi 26 (nI ((qS (mB (ks p) tk gv pr py) s9 (m + 1)).length))) fl), (ma 24, aB G 40000 fo2_14), (ma 25, aI G 40000 qu2_15)]) [3, 4, 5, 6, 0, 1, 2, 7, 8] (by decide) rfl ?_
              refine v_lpick (lz := [(5, .int (nI (bS (mB (ks p) tk gv pr py) s9 (d + 1)))), (4, .int (nI d)), (3, .int (nI (m + 1))), (0, .ref o), (1, .int (nI p)), (2, .int (nI a9))]) [1, 2, 0, 3, 4, 5] rfl ?_
              exact ih27 (m + 1) fo2_14 qu2_15 (by omega) (by omega) (by rw [qS_s hat]; exact hM_16) (by omega)
        exact L27 ((bS (mB (ks p) tk gv pr py) s9 (d + 1)) + 1) (bS (mB (ks p) tk gv pr py) s9 d) fo1 qu1 (by omega) (by omega) (hM) (by omega)
  exact L15 (a9 + 1) 0 0 fo2_1 qu2_2 (by omega) (rfl) (by assumption) (by omega)
