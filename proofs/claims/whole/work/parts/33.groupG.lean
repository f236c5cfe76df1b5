def rm_X8_followAct : Room := { frames := 3, cells := 0, slots := 0, locals := 69 }
theorem in_X8_followAct_X8 : ∀ w ∈ u_ws RX8 TX8 7, w ∈ wsX8_followAct := fun w h => List.mem_cons_of_mem _ (List.mem_append_left _ (List.mem_append_right _ (h)))
set_option maxHeartbeats 4000000 in
set_option maxRecDepth 100000 in
theorem c_X8_followAct {l : Launch} {D : va_G} {G : gT} (tr tpu tro trb tg kd sf sz : Nat) (d a0 a1 a2 a3 : Nat) (co ge gi pa : Nat → Nat) (q9 t9 : Nat) (w w0 : Nat → Nat) (hw : WD co ge gi pa) (hq : q9 < 625) (ht : t9 < 625) (hkd : kd < 5) (hwb : ∀ j, j < 64 → w j < 2 ^ 31) : CtV (σ := Unit) l yX8_followAct wsX8_followAct rm_X8_followAct D G [.ref tr, .ref d, .int (nI (eS (4 * q9))), .int (nI (eS (4 * t9)))] [(tr, .inr (6, [.ref tpu, .ref tro, .ref trb, .int (nI tg), .ref (gAd G kd), .int (nI (eS sf)), .int (nI sz)])), (tro, aI G 64 w), (trb, aI G 64 w0), (d, .inr (0, [.ref a0, .ref a1, .ref a2, .ref a3])), (a0, aI G 4 co), (a1, aI G 4 ge), (a2, aI G 4 gi), (a3, aI G 4 pa)] (fun _ => True) (fun _ => [(tr, .inr (6, [.ref tpu, .ref trb, .ref tro, .int (nI tg), .ref (gAd G kd), .int (nI (eS sf)), .int (nI sz)])), (tro, aI G 64 w), (trb, aI G 64 (wyS (bh co ge gi pa) q9 t9 w 64)), (d, .inr (0, [.ref a0, .ref a1, .ref a2, .ref a3])), (a0, aI G 4 co), (a1, aI G 4 ge), (a2, aI G 4 gi), (a3, aI G 4 pa)]) := by
  refine openV (maxL := 10) (by decide) rfl (Nat.le_of_ble_eq_true rfl) ?_
  intro pgZ evZ sgZ mmZ agsZ blZ meZ cdZ AZ QZ F hmn rt
  refine v_lv (lz := [(0, .ref tr), (1, .ref d), (2, .int (nI (eS (4 * q9)))), (3, .int (nI (eS (4 * t9))))]) rfl ?_
  refine v_aload_n (pc' := 1) F dX8_followAct_0 rfl 0 rfl rfl ?_
  refine v_get (pc' := 4) (C := RX8) (T := TX8) (N := 7) F dX8_followAct_1 in_X8_followAct_X8 0 rfl rfl 2 (by decide) (List.mem_of_getElem? (i := 1) rfl) rfl rfl ?_
  refine v_iconst (pc' := 5) (v := nI 0) F dX8_followAct_4 (by decide) rfl ?_
  refine cSV (pc' := 8) (As := [.ref trb, .int (nI 0)]) (rest := []) (wr := [(tr, .inr (6, [.ref tpu, .ref tro, .ref trb, .int (nI tg), .ref (gAd G kd), .int (nI (eS sf)), .int (nI sz)])), (tro, aI G 64 w), (d, .inr (0, [.ref a0, .ref a1, .ref a2, .ref a3])), (a0, aI G 4 co), (a1, aI G 4 ge), (a2, aI G 4 gi), (a3, aI G 4 pa)]) F (c_J7_fill_53178 trb 64 0 w0 (by omega)) (va_cwS 2 F.2.2.2.2.1 gX8_followAct_J7_fill_53178 rfl rfl rfl (by decide +kernel) ⟨Nat.le_of_ble_eq_true rfl, Nat.le_of_ble_eq_true rfl⟩) rfl rfl (Nat.le_of_ble_eq_true rfl) dX8_followAct_5 [2] [0, 1, 3, 4, 5, 6, 7] (by decide) rfl rfl (by decide) (by decide) ⟨Nat.zero_le _, Nat.zero_le _⟩ rfl (fun u q1 => ?_)
  refine v_ws (wz := [(tr, .inr (6, [.ref tpu, .ref tro, .ref trb, .int (nI tg), .ref (gAd G kd), .int (nI (eS sf)), .int (nI sz)])), (tro, aI G 64 w), (d, .inr (0, [.ref a0, .ref a1, .ref a2, .ref a3])), (a0, aI G 4 co), (a1, aI G 4 ge), (a2, aI G 4 gi), (a3, aI G 4 pa), (trb, aI G 64 (cpy (fun _ => 0) w0 64))]) rfl ?_
  refine v_iconst (pc' := 9) (v := nI 0) F dX8_followAct_8 (by decide) rfl ?_
  refine v_istore (pc' := 11) (lv' := [(4, .int (nI 0)), (0, .ref tr), (1, .ref d), (2, .int (nI (eS (4 * q9)))), (3, .int (nI (eS (4 * t9))))]) F dX8_followAct_9 (by decide) rfl rfl ?_
  refine v_aI (ws' := [(tr, .inr (6, [.ref tpu, .ref tro, .ref trb, .int (nI tg), .ref (gAd G kd), .int (nI (eS sf)), .int (nI sz)])), (tro, aI G 64 w), (d, .inr (0, [.ref a0, .ref a1, .ref a2, .ref a3])), (a0, aI G 4 co), (a1, aI G 4 ge), (a2, aI G 4 gi), (a3, aI G 4 pa), (trb, aI G 64 zN)]) 7 rfl cpy_z rfl ?_
  have L11 : ∀ (fu : Nat) (k : Nat) (f : Nat → Nat), (k ≤ 64) → (f = wyS (bh co ge gi pa) q9 t9 w k) → 64 < k + fu → V pgZ l evZ rm_X8_followAct sgZ mmZ agsZ blZ meZ cdZ 0 0 QZ D AZ 10 11 [(4, .int (nI k)), (0, .ref tr), (1, .ref d), (2, .int (nI (eS (4 * q9)))), (3, .int (nI (eS (4 * t9))))] [] [(tr, .inr (6, [.ref tpu, .ref tro, .ref trb, .int (nI tg), .ref (gAd G kd), .int (nI (eS sf)), .int (nI sz)])), (tro, aI G 64 w), (d, .inr (0, [.ref a0, .ref a1, .ref a2, .ref a3])), (a0, aI G 4 co), (a1, aI G 4 ge), (a2, aI G 4 gi), (a3, aI G 4 pa), (trb, aI G 64 f)] := by
    intro fu
    induction fu with
    | zero => intro k f hk hf hfu; exact absurd hfu (by omega)
    | succ fu ih11 =>
      intro k f hk hf hfu
      have hkb := hwb k
      refine v_iload (pc' := 13) F dX8_followAct_11 0 rfl rfl ?_
      refine v_bipush (pc' := 15) (v := nI 64) F dX8_followAct_13 (by decide) rfl ?_
      refine v_ncmp_ge (tgt := 118) (pc' := 18) F dX8_followAct_15 (by omega) (by omega) (by decide) rfl (fun c3 => ?_) (fun c3 => ?_)
      · have hk64 : k = 64 := by omega
        refine v_aload_n (pc' := 119) F dX8_followAct_118 rfl 1 rfl rfl ?_
        refine v_get (pc' := 122) (C := RX8) (T := TX8) (N := 7) F dX8_followAct_119 in_X8_followAct_X8 0 rfl rfl 1 (by decide) (List.mem_of_getElem? (i := 2) rfl) rfl rfl ?_
        refine v_astore (pc' := 124) (lv' := [(4, .ref tro), (0, .ref tr), (1, .ref d), (2, .int (nI (eS (4 * q9)))), (3, .int (nI (eS (4 * t9))))]) F dX8_followAct_122 (by decide) rfl rfl ?_
        refine v_aload_n (pc' := 125) F dX8_followAct_124 rfl 1 rfl rfl ?_
        refine v_aload_n (pc' := 126) F dX8_followAct_125 rfl 1 rfl rfl ?_
        refine v_get (pc' := 129) (C := RX8) (T := TX8) (N := 7) F dX8_followAct_126 in_X8_followAct_X8 0 rfl rfl 2 (by decide) (List.mem_of_getElem? (i := 1) rfl) rfl rfl ?_
        refine v_put (pc' := 132) (ws' := [(tr, .inr (6, [.ref tpu, .ref trb, .ref trb, .int (nI tg), .ref (gAd G kd), .int (nI (eS sf)), .int (nI sz)])), (tro, aI G 64 w), (d, .inr (0, [.ref a0, .ref a1, .ref a2, .ref a3])), (a0, aI G 4 co), (a1, aI G 4 ge), (a2, aI G 4 gi), (a3, aI G 4 pa), (trb, aI G 64 f)]) (C := RX8) (T := TX8) (N := 7) F dX8_followAct_129 in_X8_followAct_X8 tyX8_ok nmX8 0 rfl rfl 1 (by decide) (List.mem_of_getElem? (i := 2) rfl) rfl rfl rfl (Nat.le_of_ble_eq_true rfl) rfl rfl ?_
        refine v_aload_n (pc' := 133) F dX8_followAct_132 rfl 1 rfl rfl ?_
        refine v_aload (pc' := 135) F dX8_followAct_133 0 rfl rfl ?_
        refine v_put (pc' := 138) (ws' := [(tr, .inr (6, [.ref tpu, .ref trb, .ref tro, .int (nI tg), .ref (gAd G kd), .int (nI (eS sf)), .int (nI sz)])), (tro, aI G 64 w), (d, .inr (0, [.ref a0, .ref a1, .ref a2, .ref a3])), (a0, aI G 4 co), (a1, aI G 4 ge), (a2, aI G 4 gi), (a3, aI G 4 pa), (trb, aI G 64 f)]) (C := RX8) (T := TX8) (N := 7) F dX8_followAct_135 in_X8_followAct_X8 tyX8_ok nmX8 0 rfl rfl 2 (by decide) (List.mem_of_getElem? (i := 1) rfl) rfl rfl rfl (Nat.le_of_ble_eq_true rfl) rfl rfl ?_
        refine v_ws (wz := [(tr, .inr (6, [.ref tpu, .ref trb, .ref tro, .int (nI tg), .ref (gAd G kd), .int (nI (eS sf)), .int (nI sz)])), (tro, aI G 64 w), (d, .inr (0, [.ref a0, .ref a1, .ref a2, .ref a3])), (a0, aI G 4 co), (a1, aI G 4 ge), (a2, aI G 4 gi), (a3, aI G 4 pa), (trb, aI G 64 (wyS (bh co ge gi pa) q9 t9 w 64))]) (by rw [hf, hk64]) ?_
        refine v_perm (wz := [(tr, .inr (6, [.ref tpu, .ref trb, .ref tro, .int (nI tg), .ref (gAd G kd), .int (nI (eS sf)), .int (nI sz)])), (tro, aI G 64 w), (trb, aI G 64 (wyS (bh co ge gi pa) q9 t9 w 64)), (d, .inr (0, [.ref a0, .ref a1, .ref a2, .ref a3])), (a0, aI G 4 co), (a1, aI G 4 ge), (a2, aI G 4 gi), (a3, aI G 4 pa)]) [0, 1, 7, 2, 3, 4, 5, 6] (by decide) rfl ?_
        exact rt dX8_followAct_138 () (by trivial) rfl
      · refine v_getsAN (pc' := 21) F dX8_followAct_18 (F.2.2.2.2.2.2.2.2.2.2.1) rfl ?_
        refine v_astore (pc' := 23) (lv' := [(5, .ref (gA G)), (4, .int (nI k)), (0, .ref tr), (1, .ref d), (2, .int (nI (eS (4 * q9)))), (3, .int (nI (eS (4 * t9))))]) F dX8_followAct_21 (by decide) rfl rfl ?_
        refine v_aload (pc' := 25) F dX8_followAct_23 0 rfl rfl ?_
        refine v_tlenA (pc' := 26) F dX8_followAct_25 rfl ?_
        refine v_istore (pc' := 28) (lv' := [(6, .int (nI 12)), (5, .ref (gA G)), (4, .int (nI k)), (0, .ref tr), (1, .ref d), (2, .int (nI (eS (4 * q9)))), (3, .int (nI (eS (4 * t9))))]) F dX8_followAct_26 (by decide) rfl rfl ?_
        refine v_iconst (pc' := 29) (v := nI 0) F dX8_followAct_28 (by decide) rfl ?_
        refine v_istore (pc' := 31) (lv' := [(7, .int (nI 0)), (6, .int (nI 12)), (5, .ref (gA G)), (4, .int (nI k)), (0, .ref tr), (1, .ref d), (2, .int (nI (eS (4 * q9)))), (3, .int (nI (eS (4 * t9))))]) F dX8_followAct_29 (by decide) rfl rfl ?_
        have L31 : ∀ (fu : Nat) (j : Nat) (f2 : Nat → Nat), (j ≤ 12) → (f2 = addL t9 (w k) (opC (bh co ge gi pa (stN q9 k)) j) (wyS (bh co ge gi pa) q9 t9 w k)) → 12 < j + fu → V pgZ l evZ rm_X8_followAct sgZ mmZ agsZ blZ meZ cdZ 0 0 QZ D AZ 10 31 [(7, .int (nI j)), (6, .int (nI 12)), (5, .ref (gA G)), (4, .int (nI k)), (0, .ref tr), (1, .ref d), (2, .int (nI (eS (4 * q9)))), (3, .int (nI (eS (4 * t9))))] [] [(tr, .inr (6, [.ref tpu, .ref tro, .ref trb, .int (nI tg), .ref (gAd G kd), .int (nI (eS sf)), .int (nI sz)])), (tro, aI G 64 w), (d, .inr (0, [.ref a0, .ref a1, .ref a2, .ref a3])), (a0, aI G 4 co), (a1, aI G 4 ge), (a2, aI G 4 gi), (a3, aI G 4 pa), (trb, aI G 64 f2)] := by
          intro fu
          induction fu with
          | zero => intro j f2 hj hf2 hfu; exact absurd hfu (by omega)
          | succ fu ih31 =>
            intro j f2 hj hf2 hfu
            refine v_iload (pc' := 33) F dX8_followAct_31 0 rfl rfl ?_
            refine v_iload (pc' := 35) F dX8_followAct_33 1 rfl rfl ?_
            refine v_ncmp_ge (tgt := 112) (pc' := 38) F dX8_followAct_35 (by omega) (by omega) (by decide) rfl (fun c5 => ?_) (fun c5 => ?_)
            · refine v_iinc (pc' := 115) (v := nI (k + 1)) (lv' := [(4, .int (nI (k + 1))), (7, .int (nI j)), (6, .int (nI 12)), (5, .ref (gA G)), (0, .ref tr), (1, .ref d), (2, .int (nI (eS (4 * q9)))), (3, .int (nI (eS (4 * t9))))]) F dX8_followAct_112 3 rfl (nI_add _ _) (by decide) rfl rfl ?_
              refine v_goto (tgt := 11) F dX8_followAct_115 (by decide) ?_
              refine v_lpick (lz := [(4, .int (nI (k + 1))), (0, .ref tr), (1, .ref d), (2, .int (nI (eS (4 * q9)))), (3, .int (nI (eS (4 * t9))))]) [0, 4, 5, 6, 7] rfl ?_
              exact ih11 (k + 1) f2 (by omega) (by rw [hf2, show j = 12 by omega, opC_12]; rfl) (by omega)
            · refine v_aload (pc' := 40) F dX8_followAct_38 2 rfl rfl ?_
              refine v_iload (pc' := 42) F dX8_followAct_40 0 rfl rfl ?_
              refine v_tiA (pc' := 43) F dX8_followAct_42 (by omega) rfl ?_
              refine v_istore (pc' := 45) (lv' := [(8, .int (nI (actN j))), (7, .int (nI j)), (6, .int (nI 12)), (5, .ref (gA G)), (4, .int (nI k)), (0, .ref tr), (1, .ref d), (2, .int (nI (eS (4 * q9)))), (3, .int (nI (eS (4 * t9))))]) F dX8_followAct_43 (by decide) rfl rfl ?_
              have hao := (actN_ok j (by omega)).1
              have hal := (actN_ok j (by omega)).2
              have hst := stN_lt hq (show k < 64 by omega)
              have hkb9 := hkb (by omega)
              refine v_aload_n (pc' := 46) F dX8_followAct_45 rfl 5 rfl rfl ?_
              refine v_get (pc' := 49) (C := RX8) (T := TX8) (N := 7) F dX8_followAct_46 in_X8_followAct_X8 0 rfl rfl 1 (by decide) (List.mem_of_getElem? (i := 2) rfl) rfl rfl ?_
              refine v_iload (pc' := 51) F dX8_followAct_49 4 rfl rfl ?_
              refine v_iald (pc' := 52) (z := w k) F dX8_followAct_51 1 rfl (by omega) (by first | decide | omega) rfl rfl ?_
              refine v_nif_ne (tgt := 59) (pc' := 55) F dX8_followAct_52 (by omega) (by decide) rfl (fun c6 => ?_) (fun c6 => ?_)
              · refine v_aload_n (pc' := 60) F dX8_followAct_59 rfl 6 rfl rfl ?_
                refine v_iload_n (pc' := 61) F dX8_followAct_60 rfl 7 rfl rfl ?_
                refine v_iload (pc' := 63) F dX8_followAct_61 4 rfl rfl ?_
                refine v_ior (pc' := 64) (z := nI (eS (stN q9 k))) F dX8_followAct_63 (eS_or hq (by omega)) rfl ?_
                refine v_iload (pc' := 66) F dX8_followAct_64 0 rfl rfl ?_
                refine cVI (pc' := 69) (As := [.int (nI (eS (stN q9 k))), .int (nI (actN j))]) (rest := []) (wr := [(tr, .inr (6, [.ref tpu, .ref tro, .ref trb, .int (nI tg), .ref (gAd G kd), .int (nI (eS sf)), .int (nI sz)])), (tro, aI G 64 w), (trb, aI G 64 f2)]) F (c_X0_after d a0 a1 a2 a3 co ge gi pa (stN q9 k) (actN j) hw (by omega) (by assumption)) (cwV 2 F.2.2.2.2.1 gX8_followAct_X0_after rfl rfl rfl (by decide +kernel) ⟨Nat.le_of_ble_eq_true rfl, Nat.le_of_ble_eq_true rfl⟩) (v_rcvW F 0 2 rfl rfl) rfl rfl (Nat.le_of_ble_eq_true rfl) dX8_followAct_66 [2, 3, 4, 5, 6] [0, 1, 7] (by decide) rfl rfl (by decide) (by decide) ⟨Nat.zero_le _, Nat.zero_le _⟩ rfl (fun r u q7 => ?_)
                obtain rfl := q7
                refine v_ws (wz := [(tr, .inr (6, [.ref tpu, .ref tro, .ref trb, .int (nI tg), .ref (gAd G kd), .int (nI (eS sf)), .int (nI sz)])), (tro, aI G 64 w), (trb, aI G 64 f2), (d, .inr (0, [.ref a0, .ref a1, .ref a2, .ref a3])), (a0, aI G 4 co), (a1, aI G 4 ge), (a2, aI G 4 gi), (a3, aI G 4 pa)]) rfl ?_
                cases hb9 : bh co ge gi pa (stN q9 k) (actN j) with
                | none =>
                  refine v_top (oC_none rfl) ?_
                  refine v_istore (pc' := 71) (lv' := [(9, .int (-1)), (8, .int (nI (actN j))), (7, .int (nI j)), (6, .int (nI 12)), (5, .ref (gA G)), (4, .int (nI k)), (0, .ref tr), (1, .ref d), (2, .int (nI (eS (4 * q9)))), (3, .int (nI (eS (4 * t9))))]) F dX8_followAct_69 (by decide) rfl rfl ?_
                  refine v_iload (pc' := 73) F dX8_followAct_71 0 rfl rfl ?_
                  refine v_iconst (pc' := 74) (v := (-1)) F dX8_followAct_73 (by decide) rfl ?_
                  refine v_icmp_eq (tgt := 106) (pc' := 77) F dX8_followAct_74 (by decide) rfl (fun c10 => ?_) (fun c10 => ?_)
                  · refine v_iinc (pc' := 109) (v := nI (j + 1)) (lv' := [(7, .int (nI (j + 1))), (9, .int (-1)), (8, .int (nI (actN j))), (6, .int (nI 12)), (5, .ref (gA G)), (4, .int (nI k)), (0, .ref tr), (1, .ref d), (2, .int (nI (eS (4 * q9)))), (3, .int (nI (eS (4 * t9))))]) F dX8_followAct_106 2 rfl (nI_add _ _) (by decide) rfl rfl ?_
                    refine v_goto (tgt := 31) F dX8_followAct_109 (by decide) ?_
                    refine v_perm (wz := [(tr, .inr (6, [.ref tpu, .ref tro, .ref trb, .int (nI tg), .ref (gAd G kd), .int (nI (eS sf)), .int (nI sz)])), (tro, aI G 64 w), (d, .inr (0, [.ref a0, .ref a1, .ref a2, .ref a3])), (a0, aI G 4 co), (a1, aI G 4 ge), (a2, aI G 4 gi), (a3, aI G 4 pa), (trb, aI G 64 f2)]) [0, 1, 3, 4, 5, 6, 7, 2] (by decide) rfl ?_
                    refine v_lpick (lz := [(7, .int (nI (j + 1))), (6, .int (nI 12)), (5, .ref (gA G)), (4, .int (nI k)), (0, .ref tr), (1, .ref d), (2, .int (nI (eS (4 * q9)))), (3, .int (nI (eS (4 * t9))))]) [0, 3, 4, 5, 6, 7, 8, 9] rfl ?_
                    exact ih31 (j + 1) f2 (by omega) (opC_skip hf2 (opC_none hb9)) (by omega)
                  · exact absurd rfl c10
                | some k8 =>
                  refine v_top (oC_some rfl) ?_
                  have hkk := bh_lt hw hst (actN_ok j (by omega)).1 hb9
                  have hks := eS_lt hkk
                  have hpl := pl_lt hkk
                  have hks2 := eS_lt (show wP k8 < 40000 by unfold wP; omega)
                  have hks3 := eS_lt (show 4 * t9 < 40000 by omega)
                  refine v_istore (pc' := 71) (lv' := [(9, .int (nI (eS k8))), (8, .int (nI (actN j))), (7, .int (nI j)), (6, .int (nI 12)), (5, .ref (gA G)), (4, .int (nI k)), (0, .ref tr), (1, .ref d), (2, .int (nI (eS (4 * q9)))), (3, .int (nI (eS (4 * t9))))]) F dX8_followAct_69 (by decide) rfl rfl ?_
                  refine v_iload (pc' := 73) F dX8_followAct_71 0 rfl rfl ?_
                  refine v_iconst (pc' := 74) (v := (-1)) F dX8_followAct_73 (by decide) rfl ?_
                  refine v_icmp_eq (tgt := 106) (pc' := 77) F dX8_followAct_74 (by decide) rfl (fun c11 => ?_) (fun c11 => ?_)
                  · exact absurd c11 (ni_m1 (by omega))
                  · refine v_iload (pc' := 79) F dX8_followAct_77 0 rfl rfl ?_
                    refine cSI0 (pc' := 82) (As := [.int (nI (eS k8))]) (rest := []) F (c_X7_withoutPlace k8 (by omega)) (va_cwS 1 F.2.2.2.2.1 gX8_followAct_X7_withoutPlace rfl rfl rfl (by decide +kernel) ⟨Nat.le_of_ble_eq_true rfl, Nat.le_of_ble_eq_true rfl⟩) rfl rfl (Nat.le_of_ble_eq_true rfl) dX8_followAct_79 ⟨Nat.zero_le _, Nat.zero_le _⟩ rfl (fun r u q12 => ?_)
                    obtain rfl := q12
                    refine v_iload_n (pc' := 83) F dX8_followAct_82 rfl 9 rfl rfl ?_
                    refine v_ncmp_ne (tgt := 106) (pc' := 86) F dX8_followAct_83 (by omega) (by omega) (by decide) rfl (fun c13 => ?_) (fun c13 => ?_)
                    · refine v_iinc (pc' := 109) (v := nI (j + 1)) (lv' := [(7, .int (nI (j + 1))), (9, .int (nI (eS k8))), (8, .int (nI (actN j))), (6, .int (nI 12)), (5, .ref (gA G)), (4, .int (nI k)), (0, .ref tr), (1, .ref d), (2, .int (nI (eS (4 * q9)))), (3, .int (nI (eS (4 * t9))))]) F dX8_followAct_106 2 rfl (nI_add _ _) (by decide) rfl rfl ?_
                      refine v_goto (tgt := 31) F dX8_followAct_109 (by decide) ?_
                      refine v_perm (wz := [(tr, .inr (6, [.ref tpu, .ref tro, .ref trb, .int (nI tg), .ref (gAd G kd), .int (nI (eS sf)), .int (nI sz)])), (tro, aI G 64 w), (d, .inr (0, [.ref a0, .ref a1, .ref a2, .ref a3])), (a0, aI G 4 co), (a1, aI G 4 ge), (a2, aI G 4 gi), (a3, aI G 4 pa), (trb, aI G 64 f2)]) [0, 1, 3, 4, 5, 6, 7, 2] (by decide) rfl ?_
                      refine v_lpick (lz := [(7, .int (nI (j + 1))), (6, .int (nI 12)), (5, .ref (gA G)), (4, .int (nI k)), (0, .ref tr), (1, .ref d), (2, .int (nI (eS (4 * q9)))), (3, .int (nI (eS (4 * t9))))]) [0, 3, 4, 5, 6, 7, 8, 9] rfl ?_
                      exact ih31 (j + 1) f2 (by omega) (opC_not hf2 hb9 (fun q => absurd ((eSP_iff hkk ht).mpr q) (by assumption))) (by omega)
                    · refine v_aload_n (pc' := 87) F dX8_followAct_86 rfl 6 rfl rfl ?_
                      refine v_get (pc' := 90) (C := RX8) (T := TX8) (N := 7) F dX8_followAct_87 in_X8_followAct_X8 0 rfl rfl 2 (by decide) (List.mem_of_getElem? (i := 1) rfl) rfl rfl ?_
                      refine v_iload (pc' := 92) F dX8_followAct_90 0 rfl rfl ?_
                      refine cSI0 (pc' := 95) (As := [.int (nI (eS k8))]) (rest := [.ref trb]) F (c_X7_placeOf k8 (by omega)) (va_cwS 1 F.2.2.2.2.1 gX8_followAct_X7_placeOf rfl rfl rfl (by decide +kernel) ⟨Nat.le_of_ble_eq_true rfl, Nat.le_of_ble_eq_true rfl⟩) rfl rfl (Nat.le_of_ble_eq_true rfl) dX8_followAct_92 ⟨Nat.zero_le _, Nat.zero_le _⟩ rfl (fun r u q14 => ?_)
                      obtain rfl := q14
                      refine v_dup2 (pc' := 96) F dX8_followAct_95 rfl rfl rfl ?_
                      refine v_iald (pc' := 97) (z := f2 (pl k8)) F dX8_followAct_96 2 rfl (by omega) (by first | decide | omega) rfl rfl ?_
                      refine v_aload_n (pc' := 98) F dX8_followAct_97 rfl 6 rfl rfl ?_
                      refine v_get (pc' := 101) (C := RX8) (T := TX8) (N := 7) F dX8_followAct_98 in_X8_followAct_X8 0 rfl rfl 1 (by decide) (List.mem_of_getElem? (i := 2) rfl) rfl rfl ?_
                      refine v_iload (pc' := 103) F dX8_followAct_101 5 rfl rfl ?_
                      refine v_iald (pc' := 104) (z := w k) F dX8_followAct_103 1 rfl (by omega) (by first | decide | omega) rfl rfl ?_
                      refine v_iadd (pc' := 105) (z := nI ((f2 (pl k8)) + (w k))) F dX8_followAct_104 (nI_add _ _) rfl ?_
                      refine v_iast (pc' := 106) (ws' := [(tr, .inr (6, [.ref tpu, .ref tro, .ref trb, .int (nI tg), .ref (gAd G kd), .int (nI (eS sf)), .int (nI sz)])), (tro, aI G 64 w), (trb, aI G 64 (va_up f2 (pl k8) ((f2 (pl k8)) + (w k)))), (d, .inr (0, [.ref a0, .ref a1, .ref a2, .ref a3])), (a0, aI G 4 co), (a1, aI G 4 ge), (a2, aI G 4 gi), (a3, aI G 4 pa)]) F dX8_followAct_105 2 rfl (by omega) (by first | decide | omega) rfl rfl ?_
                      refine v_iinc (pc' := 109) (v := nI (j + 1)) (lv' := [(7, .int (nI (j + 1))), (9, .int (nI (eS k8))), (8, .int (nI (actN j))), (6, .int (nI 12)), (5, .ref (gA G)), (4, .int (nI k)), (0, .ref tr), (1, .ref d), (2, .int (nI (eS (4 * q9)))), (3, .int (nI (eS (4 * t9))))]) F dX8_followAct_106 2 rfl (nI_add _ _) (by decide) rfl rfl ?_
                      refine v_goto (tgt := 31) F dX8_followAct_109 (by decide) ?_
                      refine v_perm (wz := [(tr, .inr (6, [.ref tpu, .ref tro, .ref trb, .int (nI tg), .ref (gAd G kd), .int (nI (eS sf)), .int (nI sz)])), (tro, aI G 64 w), (d, .inr (0, [.ref a0, .ref a1, .ref a2, .ref a3])), (a0, aI G 4 co), (a1, aI G 4 ge), (a2, aI G 4 gi), (a3, aI G 4 pa), (trb, aI G 64 (va_up f2 (pl k8) ((f2 (pl k8)) + (w k))))]) [0, 1, 3, 4, 5, 6, 7, 2] (by decide) rfl ?_
                      refine v_lpick (lz := [(7, .int (nI (j + 1))), (6, .int (nI 12)), (5, .ref (gA G)), (4, .int (nI k)), (0, .ref tr), (1, .ref d), (2, .int (nI (eS (4 * q9)))), (3, .int (nI (eS (4 * t9))))]) [0, 3, 4, 5, 6, 7, 8, 9] rfl ?_
                      exact ih31 (j + 1) (va_up f2 (pl k8) ((f2 (pl k8)) + (w k))) (by omega) (opC_add hf2 hb9 ((eSP_iff hkk ht).mp (by assumption))) (by omega)
              · refine v_iconst (pc' := 56) (v := (-1)) F dX8_followAct_55 (by decide) rfl ?_
                refine v_goto (tgt := 69) F dX8_followAct_56 (by decide) ?_
                refine v_istore (pc' := 71) (lv' := [(9, .int (-1)), (8, .int (nI (actN j))), (7, .int (nI j)), (6, .int (nI 12)), (5, .ref (gA G)), (4, .int (nI k)), (0, .ref tr), (1, .ref d), (2, .int (nI (eS (4 * q9)))), (3, .int (nI (eS (4 * t9))))]) F dX8_followAct_69 (by decide) rfl rfl ?_
                refine v_iload (pc' := 73) F dX8_followAct_71 0 rfl rfl ?_
                refine v_iconst (pc' := 74) (v := (-1)) F dX8_followAct_73 (by decide) rfl ?_
                refine v_icmp_eq (tgt := 106) (pc' := 77) F dX8_followAct_74 (by decide) rfl (fun c15 => ?_) (fun c15 => ?_)
                · refine v_iinc (pc' := 109) (v := nI (j + 1)) (lv' := [(7, .int (nI (j + 1))), (9, .int (-1)), (8, .int (nI (actN j))), (6, .int (nI 12)), (5, .ref (gA G)), (4, .int (nI k)), (0, .ref tr), (1, .ref d), (2, .int (nI (eS (4 * q9)))), (3, .int (nI (eS (4 * t9))))]) F dX8_followAct_106 2 rfl (nI_add _ _) (by decide) rfl rfl ?_
                  refine v_goto (tgt := 31) F dX8_followAct_109 (by decide) ?_
                  refine v_lpick (lz := [(7, .int (nI (j + 1))), (6, .int (nI 12)), (5, .ref (gA G)), (4, .int (nI k)), (0, .ref tr), (1, .ref d), (2, .int (nI (eS (4 * q9)))), (3, .int (nI (eS (4 * t9))))]) [0, 3, 4, 5, 6, 7, 8, 9] rfl ?_
                  exact ih31 (j + 1) f2 (by omega) (opC_zero hf2 (by assumption)) (by omega)
                · exact absurd rfl c15
        exact L31 (12 + 1) 0 f (by omega) (by rw [hf]; rfl) (by omega)
  exact L11 (64 + 1) 0 zN (by omega) (rfl) (by omega)
def rm_X8_follow : Room := { frames := 4, cells := 0, slots := 0, locals := 98 }
theorem in_X8_follow_X8 : ∀ w ∈ u_ws RX8 TX8 7, w ∈ wsX8_follow := fun w h => List.mem_cons_of_mem _ (List.mem_append_left _ (List.mem_append_right _ (h)))
set_option maxHeartbeats 4000000 in
set_option maxRecDepth 100000 in
theorem c_X8_follow {l : Launch} {D : va_G} {G : gT} (tr tpu tro trb tg kd sf sz : Nat) (d a0 a1 a2 a3 : Nat) (co ge gi pa : Nat → Nat) (tw w w0 : Nat → Nat) (hw : WD co ge gi pa) (hsf : sf < 40000) (hsz : sz ≤ 5) (htg : tg < 2) (hkd : kd < 5) (htw : ∀ j, j < 5 → tw j < 625) (hwb : ∀ d, d ≤ 5 → ∀ j, j < 64 → wyT (bh co ge gi pa) sf tw d j < 2 ^ 31) : CtV (σ := Nat × Nat × (Nat → Nat) × (Nat → Nat)) l yX8_follow wsX8_follow rm_X8_follow D G [.ref tr, .ref d] [(tr, .inr (6, [.ref tpu, .ref tro, .ref trb, .int (nI tg), .ref (gAd G kd), .int (nI (eS sf)), .int (nI sz)])), (tpu, aI G 5 (fun j => eS (4 * tw j))), (tro, aI G 64 w), (trb, aI G 64 w0), (d, .inr (0, [.ref a0, .ref a1, .ref a2, .ref a3])), (a0, aI G 4 co), (a1, aI G 4 ge), (a2, aI G 4 gi), (a3, aI G 4 pa)] (fun u => (u.2.2.1) = wyT (bh co ge gi pa) sf tw sz) (fun u => [(tr, .inr (6, [.ref tpu, .ref (u.1), .ref (u.2.1), .int (nI tg), .ref (gAd G kd), .int (nI (eS sf)), .int (nI sz)])), (tpu, aI G 5 (fun j => eS (4 * tw j))), ((u.1), aI G 64 (u.2.2.1)), ((u.2.1), aI G 64 (u.2.2.2)), (d, .inr (0, [.ref a0, .ref a1, .ref a2, .ref a3])), (a0, aI G 4 co), (a1, aI G 4 ge), (a2, aI G 4 gi), (a3, aI G 4 pa)]) := by
  refine openV (maxL := 4) (by decide) rfl (Nat.le_of_ble_eq_true rfl) ?_
  intro pgZ evZ sgZ mmZ agsZ blZ meZ cdZ AZ QZ F hmn rt
  refine v_lv (lz := [(0, .ref tr), (1, .ref d)]) rfl ?_
  refine v_aload_n (pc' := 1) F dX8_follow_0 rfl 0 rfl rfl ?_
  refine v_get (pc' := 4) (C := RX8) (T := TX8) (N := 7) F dX8_follow_1 in_X8_follow_X8 0 rfl rfl 1 (by decide) (List.mem_of_getElem? (i := 1) rfl) rfl rfl ?_
  refine v_iconst (pc' := 5) (v := nI 0) F dX8_follow_4 (by decide) rfl ?_
  refine cSV (pc' := 8) (As := [.ref tro, .int (nI 0)]) (rest := []) (wr := [(tr, .inr (6, [.ref tpu, .ref tro, .ref trb, .int (nI tg), .ref (gAd G kd), .int (nI (eS sf)), .int (nI sz)])), (tpu, aI G 5 (fun j => eS (4 * tw j))), (trb, aI G 64 w0), (d, .inr (0, [.ref a0, .ref a1, .ref a2, .ref a3])), (a0, aI G 4 co), (a1, aI G 4 ge), (a2, aI G 4 gi), (a3, aI G 4 pa)]) F (c_J7_fill_53178 tro 64 0 w (by omega)) (va_cwS 2 F.2.2.2.2.1 gX8_follow_J7_fill_53178 rfl rfl rfl (by decide +kernel) ⟨Nat.le_of_ble_eq_true rfl, Nat.le_of_ble_eq_true rfl⟩) rfl rfl (Nat.le_of_ble_eq_true rfl) dX8_follow_5 [2] [0, 1, 3, 4, 5, 6, 7, 8] (by decide) rfl rfl (by decide) (by decide) ⟨Nat.zero_le _, Nat.zero_le _⟩ rfl (fun u q1 => ?_)
  refine v_ws (wz := [(tr, .inr (6, [.ref tpu, .ref tro, .ref trb, .int (nI tg), .ref (gAd G kd), .int (nI (eS sf)), .int (nI sz)])), (tpu, aI G 5 (fun j => eS (4 * tw j))), (trb, aI G 64 w0), (d, .inr (0, [.ref a0, .ref a1, .ref a2, .ref a3])), (a0, aI G 4 co), (a1, aI G 4 ge), (a2, aI G 4 gi), (a3, aI G 4 pa), (tro, aI G 64 (cpy (fun _ => 0) w 64))]) rfl ?_
  refine v_aI (ws' := [(tr, .inr (6, [.ref tpu, .ref tro, .ref trb, .int (nI tg), .ref (gAd G kd), .int (nI (eS sf)), .int (nI sz)])), (tpu, aI G 5 (fun j => eS (4 * tw j))), (trb, aI G 64 w0), (d, .inr (0, [.ref a0, .ref a1, .ref a2, .ref a3])), (a0, aI G 4 co), (a1, aI G 4 ge), (a2, aI G 4 gi), (a3, aI G 4 pa), (tro, aI G 64 zN)]) 8 rfl cpy_z rfl ?_
  have hpl := pl_lt hsf
  refine v_aload_n (pc' := 9) F dX8_follow_8 rfl 0 rfl rfl ?_
  refine v_get (pc' := 12) (C := RX8) (T := TX8) (N := 7) F dX8_follow_9 in_X8_follow_X8 0 rfl rfl 1 (by decide) (List.mem_of_getElem? (i := 1) rfl) rfl rfl ?_
  refine v_aload_n (pc' := 13) F dX8_follow_12 rfl 0 rfl rfl ?_
  refine v_get (pc' := 16) (C := RX8) (T := TX8) (N := 7) F dX8_follow_13 in_X8_follow_X8 0 rfl rfl 5 (by decide) (List.mem_of_getElem? (i := 2) rfl) rfl rfl ?_
  refine cSI0 (pc' := 19) (As := [.int (nI (eS sf))]) (rest := [.ref tro]) F (c_X7_placeOf sf (by omega)) (va_cwS 1 F.2.2.2.2.1 gX8_follow_X7_placeOf rfl rfl rfl (by decide +kernel) ⟨Nat.le_of_ble_eq_true rfl, Nat.le_of_ble_eq_true rfl⟩) rfl rfl (Nat.le_of_ble_eq_true rfl) dX8_follow_16 ⟨Nat.zero_le _, Nat.zero_le _⟩ rfl (fun r u q2 => ?_)
  obtain rfl := q2
  refine v_iconst (pc' := 20) (v := nI 1) F dX8_follow_19 (by decide) rfl ?_
  refine v_iast (pc' := 21) (ws' := [(tr, .inr (6, [.ref tpu, .ref tro, .ref trb, .int (nI tg), .ref (gAd G kd), .int (nI (eS sf)), .int (nI sz)])), (tpu, aI G 5 (fun j => eS (4 * tw j))), (trb, aI G 64 w0), (d, .inr (0, [.ref a0, .ref a1, .ref a2, .ref a3])), (a0, aI G 4 co), (a1, aI G 4 ge), (a2, aI G 4 gi), (a3, aI G 4 pa), (tro, aI G 64 (va_up zN (pl sf) 1))]) F dX8_follow_20 8 rfl (by omega) (by first | decide | omega) rfl rfl ?_
  refine v_aload_n (pc' := 22) F dX8_follow_21 rfl 0 rfl rfl ?_
  refine v_get (pc' := 25) (C := RX8) (T := TX8) (N := 7) F dX8_follow_22 in_X8_follow_X8 0 rfl rfl 5 (by decide) (List.mem_of_getElem? (i := 2) rfl) rfl rfl ?_
  refine cSI0 (pc' := 28) (As := [.int (nI (eS sf))]) (rest := []) F (c_X7_withoutPlace sf (by omega)) (va_cwS 1 F.2.2.2.2.1 gX8_follow_X7_withoutPlace rfl rfl rfl (by decide +kernel) ⟨Nat.le_of_ble_eq_true rfl, Nat.le_of_ble_eq_true rfl⟩) rfl rfl (Nat.le_of_ble_eq_true rfl) dX8_follow_25 ⟨Nat.zero_le _, Nat.zero_le _⟩ rfl (fun r u q3 => ?_)
  obtain rfl := q3
  refine v_top (y := nI (eS (4 * pqN sf tw 0))) rfl ?_
  refine v_istore_n (pc' := 29) (lv' := [(2, .int (nI (eS (4 * pqN sf tw 0)))), (0, .ref tr), (1, .ref d)]) F dX8_follow_28 rfl (by decide) rfl rfl ?_
  refine v_iconst (pc' := 30) (v := nI 0) F dX8_follow_29 (by decide) rfl ?_
  refine v_istore_n (pc' := 31) (lv' := [(3, .int (nI 0)), (2, .int (nI (eS (4 * pqN sf tw 0)))), (0, .ref tr), (1, .ref d)]) F dX8_follow_30 rfl (by decide) rfl rfl ?_
  have L31 : ∀ (fu : Nat) (i : Nat) (q9 : Nat) (r1 : Nat) (r2 : Nat) (f1 : Nat → Nat) (f2 : Nat → Nat), (i ≤ sz) → (q9 = pqN sf tw i) → (f1 = wyT (bh co ge gi pa) sf tw i) → sz < i + fu → V pgZ l evZ rm_X8_follow sgZ mmZ agsZ blZ meZ cdZ 0 0 QZ D AZ 4 31 [(3, .int (nI i)), (2, .int (nI (eS (4 * q9)))), (0, .ref tr), (1, .ref d)] [] [(tr, .inr (6, [.ref tpu, .ref r1, .ref r2, .int (nI tg), .ref (gAd G kd), .int (nI (eS sf)), .int (nI sz)])), (tpu, aI G 5 (fun j => eS (4 * tw j))), (r2, aI G 64 f2), (d, .inr (0, [.ref a0, .ref a1, .ref a2, .ref a3])), (a0, aI G 4 co), (a1, aI G 4 ge), (a2, aI G 4 gi), (a3, aI G 4 pa), (r1, aI G 64 f1)] := by
    intro fu
    induction fu with
    | zero => intro i q9 r1 r2 f1 f2 hi hq9 hf1 hfu; exact absurd hfu (by omega)
    | succ fu ih31 =>
      intro i q9 r1 r2 f1 f2 hi hq9 hf1 hfu
      refine v_iload_n (pc' := 32) F dX8_follow_31 rfl 0 rfl rfl ?_
      refine v_aload_n (pc' := 33) F dX8_follow_32 rfl 2 rfl rfl ?_
      refine v_get (pc' := 36) (C := RX8) (T := TX8) (N := 7) F dX8_follow_33 in_X8_follow_X8 0 rfl rfl 6 (by decide) (List.mem_of_getElem? (i := 3) rfl) rfl rfl ?_
      refine v_ncmp_ge (tgt := 64) (pc' := 39) F dX8_follow_36 (by omega) (by omega) (by decide) rfl (fun c5 => ?_) (fun c5 => ?_)
      · refine v_perm (wz := [(tr, .inr (6, [.ref tpu, .ref r1, .ref r2, .int (nI tg), .ref (gAd G kd), .int (nI (eS sf)), .int (nI sz)])), (tpu, aI G 5 (fun j => eS (4 * tw j))), (r1, aI G 64 f1), (r2, aI G 64 f2), (d, .inr (0, [.ref a0, .ref a1, .ref a2, .ref a3])), (a0, aI G 4 co), (a1, aI G 4 ge), (a2, aI G 4 gi), (a3, aI G 4 pa)]) [0, 1, 8, 2, 3, 4, 5, 6, 7] (by decide) rfl ?_
        exact rt dX8_follow_64 (r1, r2, f1, f2) (by rw [hf1, show i = sz by omega]) rfl
      · have hqq := pqN_lt (n0 := sf) (d := i) htw (by omega)
        have htt := htw i (by omega)
        refine v_aload_n (pc' := 40) F dX8_follow_39 rfl 2 rfl rfl ?_
        refine v_aload_n (pc' := 41) F dX8_follow_40 rfl 3 rfl rfl ?_
        refine v_iload_n (pc' := 42) F dX8_follow_41 rfl 1 rfl rfl ?_
        refine v_aload_n (pc' := 43) F dX8_follow_42 rfl 2 rfl rfl ?_
        refine v_get (pc' := 46) (C := RX8) (T := TX8) (N := 7) F dX8_follow_43 in_X8_follow_X8 0 rfl rfl 0 (by decide) (List.mem_of_getElem? (i := 4) rfl) rfl rfl ?_
        refine v_iload_n (pc' := 47) F dX8_follow_46 rfl 0 rfl rfl ?_
        refine v_iald (pc' := 48) (z := eS (4 * tw i)) F dX8_follow_47 1 rfl (by omega) (by first | decide | omega) rfl rfl ?_
        refine cVV (pc' := 51) (As := [.ref d, .int (nI (eS (4 * q9))), .int (nI (eS (4 * tw i)))]) (rest := []) (wr := [(tpu, aI G 5 (fun j => eS (4 * tw j)))]) F (c_X8_followAct tr tpu r1 r2 tg kd sf sz d a0 a1 a2 a3 co ge gi pa q9 (tw i) f1 f2 hw (by omega) htt hkd (by rw [hf1]; exact hwb i (by omega))) (cwV 3 F.2.2.2.2.1 gX8_follow_X8_followAct rfl rfl rfl (by decide +kernel) ⟨Nat.le_of_ble_eq_true rfl, Nat.le_of_ble_eq_true rfl⟩) (v_rcvW F 6 0 rfl rfl) rfl rfl (Nat.le_of_ble_eq_true rfl) dX8_follow_48 [0, 8, 2, 3, 4, 5, 6, 7] [1] (by decide) rfl rfl (by decide) (by decide) ⟨Nat.zero_le _, Nat.zero_le _⟩ rfl (fun u q6 => ?_)
        refine v_ws (wz := [(tpu, aI G 5 (fun j => eS (4 * tw j))), (tr, .inr (6, [.ref tpu, .ref r2, .ref r1, .int (nI tg), .ref (gAd G kd), .int (nI (eS sf)), .int (nI sz)])), (r1, aI G 64 f1), (r2, aI G 64 (wyS (bh co ge gi pa) q9 (tw i) f1 64)), (d, .inr (0, [.ref a0, .ref a1, .ref a2, .ref a3])), (a0, aI G 4 co), (a1, aI G 4 ge), (a2, aI G 4 gi), (a3, aI G 4 pa)]) rfl ?_
        refine v_aload_n (pc' := 52) F dX8_follow_51 rfl 2 rfl rfl ?_
        refine v_get (pc' := 55) (C := RX8) (T := TX8) (N := 7) F dX8_follow_52 in_X8_follow_X8 1 rfl rfl 0 (by decide) (List.mem_of_getElem? (i := 4) rfl) rfl rfl ?_
        refine v_iload_n (pc' := 56) F dX8_follow_55 rfl 0 rfl rfl ?_
        refine v_iald (pc' := 57) (z := eS (4 * tw i)) F dX8_follow_56 0 rfl (by omega) (by first | decide | omega) rfl rfl ?_
        refine v_istore_n (pc' := 58) (lv' := [(2, .int (nI (eS (4 * tw i)))), (3, .int (nI i)), (0, .ref tr), (1, .ref d)]) F dX8_follow_57 rfl (by decide) rfl rfl ?_
        refine v_iinc (pc' := 61) (v := nI (i + 1)) (lv' := [(3, .int (nI (i + 1))), (2, .int (nI (eS (4 * tw i)))), (0, .ref tr), (1, .ref d)]) F dX8_follow_58 1 rfl (nI_add _ _) (by decide) rfl rfl ?_
        refine v_goto (tgt := 31) F dX8_follow_61 (by decide) ?_
        refine v_perm (wz := [(tr, .inr (6, [.ref tpu, .ref r2, .ref r1, .int (nI tg), .ref (gAd G kd), .int (nI (eS sf)), .int (nI sz)])), (tpu, aI G 5 (fun j => eS (4 * tw j))), (r1, aI G 64 f1), (d, .inr (0, [.ref a0, .ref a1, .ref a2, .ref a3])), (a0, aI G 4 co), (a1, aI G 4 ge), (a2, aI G 4 gi), (a3, aI G 4 pa), (r2, aI G 64 (wyS (bh co ge gi pa) q9 (tw i) f1 64))]) [1, 0, 2, 4, 5, 6, 7, 8, 3] (by decide) rfl ?_
        exact ih31 (i + 1) (tw i) r2 r1 (wyS (bh co ge gi pa) q9 (tw i) f1 64) f1 (by omega) (pqN_s sf tw i) (by rw [hf1, hq9]; rfl) (by omega)
  exact L31 (sz + 1) 0 (pqN sf tw 0) tro trb (va_up zN (pl sf) 1) w0 (by omega) (rfl) (rfl) (by omega)
def rm_X8_rows : Room := { frames := 0, cells := 0, slots := 0, locals := 0 }
theorem in_X8_rows_X8 : ∀ w ∈ u_ws RX8 TX8 7, w ∈ wsX8_rows := fun w h => List.mem_cons_of_mem _ (List.mem_append_right _ (h))
set_option maxHeartbeats 4000000 in
set_option maxRecDepth 100000 in
theorem c_X8_rows {l : Launch} {D : va_G} {G : gT} (tr tpu tro trb tg kd sf sz : Nat) (w : Nat → Nat) : CtI (σ := Unit) l yX8_rows wsX8_rows rm_X8_rows D G [.ref tr] [(tr, .inr (6, [.ref tpu, .ref tro, .ref trb, .int (nI tg), .ref (gAd G kd), .int (nI (eS sf)), .int (nI sz)])), (tro, aI G 64 w)] (fun r _ => r = nI (tot w 64)) (fun _ => [(tr, .inr (6, [.ref tpu, .ref tro, .ref trb, .int (nI tg), .ref (gAd G kd), .int (nI (eS sf)), .int (nI sz)])), (tro, aI G 64 w)]) := by
  refine openI (maxL := 3) (by decide) rfl (Nat.le_of_ble_eq_true rfl) ?_
  intro pgZ evZ sgZ mmZ agsZ blZ meZ cdZ AZ QZ F hmn rt
  refine v_lv (lz := [(0, .ref tr)]) rfl ?_
  refine v_iconst (pc' := 1) (v := nI 0) F dX8_rows_0 (by decide) rfl ?_
  refine v_istore_n (pc' := 2) (lv' := [(1, .int (nI 0)), (0, .ref tr)]) F dX8_rows_1 rfl (by decide) rfl rfl ?_
  refine v_iconst (pc' := 3) (v := nI 0) F dX8_rows_2 (by decide) rfl ?_
  refine v_istore_n (pc' := 4) (lv' := [(2, .int (nI 0)), (1, .int (nI 0)), (0, .ref tr)]) F dX8_rows_3 rfl (by decide) rfl rfl ?_
  have L4 : ∀ (fu : Nat) (j : Nat) (ct : Nat), (j ≤ 64) → (ct = tot w j) → 64 < j + fu → V pgZ l evZ rm_X8_rows sgZ mmZ agsZ blZ meZ cdZ 0 0 QZ D AZ 3 4 [(2, .int (nI j)), (1, .int (nI ct)), (0, .ref tr)] [] [(tr, .inr (6, [.ref tpu, .ref tro, .ref trb, .int (nI tg), .ref (gAd G kd), .int (nI (eS sf)), .int (nI sz)])), (tro, aI G 64 w)] := by
    intro fu
    induction fu with
    | zero => intro j ct hj hct hfu; exact absurd hfu (by omega)
    | succ fu ih4 =>
      intro j ct hj hct hfu
      refine v_iload_n (pc' := 5) F dX8_rows_4 rfl 0 rfl rfl ?_
      refine v_bipush (pc' := 7) (v := nI 64) F dX8_rows_5 (by decide) rfl ?_
      refine v_ncmp_ge (tgt := 25) (pc' := 10) F dX8_rows_7 (by omega) (by omega) (by decide) rfl (fun c2 => ?_) (fun c2 => ?_)
      · refine v_iload_n (pc' := 26) F dX8_rows_25 rfl 1 rfl rfl ?_
        exact rt dX8_rows_26 () (by rw [hct, show j = 64 by omega]) rfl
      · refine v_iload_n (pc' := 11) F dX8_rows_10 rfl 1 rfl rfl ?_
        refine v_aload_n (pc' := 12) F dX8_rows_11 rfl 2 rfl rfl ?_
        refine v_get (pc' := 15) (C := RX8) (T := TX8) (N := 7) F dX8_rows_12 in_X8_rows_X8 0 rfl rfl 1 (by decide) (List.mem_of_getElem? (i := 1) rfl) rfl rfl ?_
        refine v_iload_n (pc' := 16) F dX8_rows_15 rfl 0 rfl rfl ?_
        refine v_iald (pc' := 17) (z := w j) F dX8_rows_16 1 rfl (by omega) (by first | decide | omega) rfl rfl ?_
        refine v_iadd (pc' := 18) (z := nI (ct + (w j))) F dX8_rows_17 (nI_add _ _) rfl ?_
        refine v_istore_n (pc' := 19) (lv' := [(1, .int (nI (ct + (w j)))), (2, .int (nI j)), (0, .ref tr)]) F dX8_rows_18 rfl (by decide) rfl rfl ?_
        refine v_iinc (pc' := 22) (v := nI (j + 1)) (lv' := [(2, .int (nI (j + 1))), (1, .int (nI (ct + (w j)))), (0, .ref tr)]) F dX8_rows_19 1 rfl (nI_add _ _) (by decide) rfl rfl ?_
        refine v_goto (tgt := 4) F dX8_rows_22 (by decide) ?_
        exact ih4 (j + 1) (ct + (w j)) (by omega) (by rw [hct]; rfl) (by omega)
  exact L4 (64 + 1) 0 0 (by omega) (rfl) (by omega)
def rm_X8_towns : Room := { frames := 1, cells := 0, slots := 0, locals := 20 }
theorem in_X8_towns_X8 : ∀ w ∈ u_ws RX8 TX8 7, w ∈ wsX8_towns := fun w h => List.mem_cons_of_mem _ (List.mem_append_right _ (h))
set_option maxHeartbeats 4000000 in
set_option maxRecDepth 100000 in
theorem c_X8_towns {l : Launch} {D : va_G} {G : gT} (tr tpu tro trb tg kd sf sz : Nat) (w : Nat → Nat) (hwb : ∀ j, j < 64 → w j < 2 ^ 31) : CtI (σ := Unit) l yX8_towns wsX8_towns rm_X8_towns D G [.ref tr] [(tr, .inr (6, [.ref tpu, .ref tro, .ref trb, .int (nI tg), .ref (gAd G kd), .int (nI (eS sf)), .int (nI sz)])), (tro, aI G 64 w)] (fun r _ => r = nI (twB w 64)) (fun _ => [(tr, .inr (6, [.ref tpu, .ref tro, .ref trb, .int (nI tg), .ref (gAd G kd), .int (nI (eS sf)), .int (nI sz)])), (tro, aI G 64 w)]) := by
  refine openI (maxL := 3) (by decide) rfl (Nat.le_of_ble_eq_true rfl) ?_
  intro pgZ evZ sgZ mmZ agsZ blZ meZ cdZ AZ QZ F hmn rt
  refine v_lv (lz := [(0, .ref tr)]) rfl ?_
  refine v_iconst (pc' := 1) (v := nI 0) F dX8_towns_0 (by decide) rfl ?_
  refine v_istore_n (pc' := 2) (lv' := [(1, .int (nI 0)), (0, .ref tr)]) F dX8_towns_1 rfl (by decide) rfl rfl ?_
  refine v_iconst (pc' := 3) (v := nI 0) F dX8_towns_2 (by decide) rfl ?_
  refine v_istore_n (pc' := 4) (lv' := [(2, .int (nI 0)), (1, .int (nI 0)), (0, .ref tr)]) F dX8_towns_3 rfl (by decide) rfl rfl ?_
  have L4 : ∀ (fu : Nat) (j : Nat) (ct : Nat), (j ≤ 64) → (ct = twB w j) → 64 < j + fu → V pgZ l evZ rm_X8_towns sgZ mmZ agsZ blZ meZ cdZ 0 0 QZ D AZ 3 4 [(2, .int (nI j)), (1, .int (nI ct)), (0, .ref tr)] [] [(tr, .inr (6, [.ref tpu, .ref tro, .ref trb, .int (nI tg), .ref (gAd G kd), .int (nI (eS sf)), .int (nI sz)])), (tro, aI G 64 w)] := by
    intro fu
    induction fu with
    | zero => intro j ct hj hct hfu; exact absurd hfu (by omega)
    | succ fu ih4 =>
      intro j ct hj hct hfu
      have h8 := twB_lt w j
      have h7 := hwb j
      have h6 := pw_le8 (show j % 4 < 4 from Nat.mod_lt _ (by decide))
      refine v_iload_n (pc' := 5) F dX8_towns_4 rfl 0 rfl rfl ?_
      refine v_bipush (pc' := 7) (v := nI 64) F dX8_towns_5 (by decide) rfl ?_
      refine v_ncmp_ge (tgt := 34) (pc' := 10) F dX8_towns_7 (by omega) (by omega) (by decide) rfl (fun c2 => ?_) (fun c2 => ?_)
      · refine v_iload_n (pc' := 35) F dX8_towns_34 rfl 1 rfl rfl ?_
        exact rt dX8_towns_35 () (by rw [hct, show j = 64 by omega]) rfl
      · have h5 := h7 (by omega)
        have hsj := stN_lt (q := 0) (by decide) (show j < 64 by omega)
        refine v_aload_n (pc' := 11) F dX8_towns_10 rfl 2 rfl rfl ?_
        refine v_get (pc' := 14) (C := RX8) (T := TX8) (N := 7) F dX8_towns_11 in_X8_towns_X8 0 rfl rfl 1 (by decide) (List.mem_of_getElem? (i := 1) rfl) rfl rfl ?_
        refine v_iload_n (pc' := 15) F dX8_towns_14 rfl 0 rfl rfl ?_
        refine v_iald (pc' := 16) (z := w j) F dX8_towns_15 1 rfl (by omega) (by first | decide | omega) rfl rfl ?_
        refine v_nif_le (tgt := 28) (pc' := 19) F dX8_towns_16 (by omega) (by decide) rfl (fun c3 => ?_) (fun c3 => ?_)
        · refine v_iinc (pc' := 31) (v := nI (j + 1)) (lv' := [(2, .int (nI (j + 1))), (1, .int (nI ct)), (0, .ref tr)]) F dX8_towns_28 0 rfl (nI_add _ _) (by decide) rfl rfl ?_
          refine v_goto (tgt := 4) F dX8_towns_31 (by decide) ?_
          exact ih4 (j + 1) ct (by omega) (by rw [hct]; first | exact (twB_0 (by omega)).symm | exact (twB_1 (by omega)).symm) (by omega)
        · refine v_iload_n (pc' := 20) F dX8_towns_19 rfl 1 rfl rfl ?_
          refine v_iconst (pc' := 21) (v := nI 1) F dX8_towns_20 (by decide) rfl ?_
          refine v_iload_n (pc' := 22) F dX8_towns_21 rfl 0 rfl rfl ?_
          refine v_top (y := nI (eS (stN 0 j))) (congrArg nI (eS_k (by omega)).symm) ?_
          refine cSI0 (pc' := 25) (As := [.int (nI (eS (stN 0 j)))]) (rest := [.int (nI 1), .int (nI ct)]) F (c_X7_townOf (stN 0 j) (by omega)) (va_cwS 1 F.2.2.2.2.1 gX8_towns_X7_townOf rfl rfl rfl (by decide +kernel) ⟨Nat.le_of_ble_eq_true rfl, Nat.le_of_ble_eq_true rfl⟩) rfl rfl (Nat.le_of_ble_eq_true rfl) dX8_towns_22 ⟨Nat.zero_le _, Nat.zero_le _⟩ rfl (fun r u q4 => ?_)
          obtain rfl := q4
          refine v_top (y := nI (j % 4)) (congrArg nI (show stN 0 j % 4 = j % 4 by unfold stN; omega)) ?_
          refine v_ishl (pc' := 26) (z := nI (1 * 2 ^ (j % 4))) F dX8_towns_25 (ni_shl (by omega) (by omega)) rfl ?_
          refine v_ior (pc' := 27) (z := nI (ct ||| (1 * 2 ^ (j % 4)))) F dX8_towns_26 (ni_or _ _) rfl ?_
          refine v_istore_n (pc' := 28) (lv' := [(1, .int (nI (ct ||| (1 * 2 ^ (j % 4))))), (2, .int (nI j)), (0, .ref tr)]) F dX8_towns_27 rfl (by decide) rfl rfl ?_
          refine v_iinc (pc' := 31) (v := nI (j + 1)) (lv' := [(2, .int (nI (j + 1))), (1, .int (nI (ct ||| (1 * 2 ^ (j % 4))))), (0, .ref tr)]) F dX8_towns_28 1 rfl (nI_add _ _) (by decide) rfl rfl ?_
          refine v_goto (tgt := 4) F dX8_towns_31 (by decide) ?_
          exact ih4 (j + 1) (ct ||| (1 * 2 ^ (j % 4))) (by omega) (by rw [hct]; first | exact (twB_0 (by omega)).symm | exact (twB_1 (by omega)).symm) (by omega)
  exact L4 (64 + 1) 0 0 (by omega) (rfl) (by omega)
def rm_X9_ways : Room := { frames := 5, cells := 0, slots := 0, locals := 121 }
theorem in_X9_ways_X8 : ∀ w ∈ u_ws RX8 TX8 7, w ∈ wsX9_ways := fun w h => List.mem_cons_of_mem _ (List.mem_append_left _ (List.mem_append_left _ (List.mem_append_right _ (h))))
theorem in_X9_ways_X9 : ∀ w ∈ u_ws RX9 TX9 12, w ∈ wsX9_ways := fun w h => List.mem_cons_of_mem _ (List.mem_append_left _ (List.mem_append_left _ (List.mem_append_left _ (List.mem_append_right _ (h)))))
set_option maxHeartbeats 4000000 in
set_option maxRecDepth 100000 in
theorem c_X9_ways {l : Launch} {D : va_G} {G : gT} (x pgo ppa dl se tr im la dr pe ac lr sd : Nat) (a0 a1 a2 a3 : Nat) (co ge gi pa : Nat → Nat) (b0 b1 b2 b3 lp ld : Nat) (tk gv pr py : Nat → Nat) (tpu tro trb tg kd sf sz : Nat) (tw w w0 : Nat → Nat) (hsf : sf < 40000) (hsz : sz ≤ 5) (htg : tg < 2) (hkd : kd < 5) (htw : ∀ j, j < 5 → tw j < 625) (hl : ¬ tg = 0 → WL tk gv pr py) : CtI (σ := (Nat → Nat) × (Nat → Nat) × (Nat → Nat) × (Nat → Nat) × Nat × Nat × (Nat → Nat) × (Nat → Nat)) l yX9_ways wsX9_ways rm_X9_ways D G [.ref x] [(x, .inr (7, [.ref pgo, .ref ppa, .ref dl, .ref se, .ref tr, .ref im, .ref la, .ref dr, .int (nI pe), .int (nI ac), .int (nI lr), .int (nI sd)])), (dl, .inr (0, [.ref a0, .ref a1, .ref a2, .ref a3])), (a0, aI G 4 co), (a1, aI G 4 ge), (a2, aI G 4 gi), (a3, aI G 4 pa), (la, .inr (2, [.ref b0, .ref b1, .ref b2, .ref b3, .int (nI lp), .int (nI ld)])), (b0, aI G 4 tk), (b1, aI G 4 gv), (b2, aI G 4 pr), (b3, aI G 4 py), (tr, .inr (6, [.ref tpu, .ref tro, .ref trb, .int (nI tg), .ref (gAd G kd), .int (nI (eS sf)), .int (nI sz)])), (tpu, aI G 5 (fun j => eS (4 * tw j))), (tro, aI G 64 w), (trb, aI G 64 w0)] (fun r u => r = A_ways tg (wyT (mB kd tk gv pr py) sf tw sz)) (fun u => [(x, .inr (7, [.ref pgo, .ref ppa, .ref dl, .ref se, .ref tr, .ref im, .ref la, .ref dr, .int (nI pe), .int (nI ac), .int (nI lr), .int (nI sd)])), (dl, .inr (0, [.ref a0, .ref a1, .ref a2, .ref a3])), (a0, aI G 4 (u.1)), (a1, aI G 4 (u.2.1)), (a2, aI G 4 (u.2.2.1)), (a3, aI G 4 (u.2.2.2.1)), (la, .inr (2, [.ref b0, .ref b1, .ref b2, .ref b3, .int (nI lp), .int (nI ld)])), (b0, aI G 4 tk), (b1, aI G 4 gv), (b2, aI G 4 pr), (b3, aI G 4 py), (tr, .inr (6, [.ref tpu, .ref (u.2.2.2.2.1), .ref (u.2.2.2.2.2.1), .int (nI tg), .ref (gAd G kd), .int (nI (eS sf)), .int (nI sz)])), (tpu, aI G 5 (fun j => eS (4 * tw j))), ((u.2.2.2.2.1), aI G 64 (u.2.2.2.2.2.2.1)), ((u.2.2.2.2.2.1), aI G 64 (u.2.2.2.2.2.2.2))]) := by
  refine openI (maxL := 1) (by decide) rfl (Nat.le_of_ble_eq_true rfl) ?_
  intro pgZ evZ sgZ mmZ agsZ blZ meZ cdZ AZ QZ F hmn rt
  refine v_lv (lz := [(0, .ref x)]) rfl ?_
  refine v_aload_n (pc' := 1) F dX9_ways_0 rfl 0 rfl rfl ?_
  refine v_get (pc' := 4) (C := RX9) (T := TX9) (N := 12) F dX9_ways_1 in_X9_ways_X9 0 rfl rfl 4 (by decide) (List.mem_of_getElem? (i := 1) rfl) rfl rfl ?_
  refine v_get (pc' := 7) (C := RX8) (T := TX8) (N := 7) F dX9_ways_4 in_X9_ways_X8 11 rfl rfl 3 (by decide) (List.mem_of_getElem? (i := 2) rfl) rfl rfl ?_
  refine v_nif_ne (tgt := 13) (pc' := 10) F dX9_ways_7 (by omega) (by decide) rfl (fun c1 => ?_) (fun c1 => ?_)
  · have hl9 := hl (by omega)
    refine v_aload_n (pc' := 14) F dX9_ways_13 rfl 0 rfl rfl ?_
    refine v_get (pc' := 17) (C := RX9) (T := TX9) (N := 12) F dX9_ways_14 in_X9_ways_X9 0 rfl rfl 4 (by decide) (List.mem_of_getElem? (i := 1) rfl) rfl rfl ?_
    refine v_aload_n (pc' := 18) F dX9_ways_17 rfl 0 rfl rfl ?_
    refine v_get (pc' := 21) (C := RX9) (T := TX9) (N := 12) F dX9_ways_18 in_X9_ways_X9 0 rfl rfl 2 (by decide) (List.mem_of_getElem? (i := 3) rfl) rfl rfl ?_
    refine v_aload_n (pc' := 22) F dX9_ways_21 rfl 0 rfl rfl ?_
    refine v_get (pc' := 25) (C := RX9) (T := TX9) (N := 12) F dX9_ways_22 in_X9_ways_X9 0 rfl rfl 6 (by decide) (List.mem_of_getElem? (i := 4) rfl) rfl rfl ?_
    refine v_aload_n (pc' := 26) F dX9_ways_25 rfl 0 rfl rfl ?_
    refine v_get (pc' := 29) (C := RX9) (T := TX9) (N := 12) F dX9_ways_26 in_X9_ways_X9 0 rfl rfl 4 (by decide) (List.mem_of_getElem? (i := 1) rfl) rfl rfl ?_
    refine v_get (pc' := 32) (C := RX8) (T := TX8) (N := 7) F dX9_ways_29 in_X9_ways_X8 11 rfl rfl 4 (by decide) (List.mem_of_getElem? (i := 5) rfl) rfl rfl ?_
    refine cVR (pc' := 35) (As := [.ref la, .ref (gAd G kd)]) (rest := [.ref tr]) (wr := [(x, .inr (7, [.ref pgo, .ref ppa, .ref dl, .ref se, .ref tr, .ref im, .ref la, .ref dr, .int (nI pe), .int (nI ac), .int (nI lr), .int (nI sd)])), (tr, .inr (6, [.ref tpu, .ref tro, .ref trb, .int (nI tg), .ref (gAd G kd), .int (nI (eS sf)), .int (nI sz)])), (tpu, aI G 5 (fun j => eS (4 * tw j))), (tro, aI G 64 w), (trb, aI G 64 w0)]) F (c_X0_set dl a0 a1 a2 a3 la b0 b1 b2 b3 lp ld co ge gi pa tk gv pr py kd (by omega) hl9) (cwV 2 F.2.2.2.2.1 gX9_ways_X0_set rfl rfl rfl (by decide +kernel) ⟨Nat.le_of_ble_eq_true rfl, Nat.le_of_ble_eq_true rfl⟩) (v_rcvW F 0 1 rfl rfl) rfl rfl (Nat.le_of_ble_eq_true rfl) dX9_ways_32 [1, 2, 3, 4, 5, 6, 7, 8, 9, 10] [0, 11, 12, 13, 14] (by decide) rfl rfl (by decide) (by decide) ⟨Nat.zero_le _, Nat.zero_le _⟩ rfl (fun u q7 => ?_)
    obtain ⟨co2_2, ge2_3, gi2_4, pa2_5⟩ := u
    have hD_6 := q7
    have hwd := DLo_WD hl9 hD_6
    have hbe := DLo_bh hD_6
    have hfb : bh @co2_2 @ge2_3 @gi2_4 @pa2_5 = mB kd tk gv pr py := funext fun n => funext fun a => hbe n a
    refine v_ws (wz := [(x, .inr (7, [.ref pgo, .ref ppa, .ref dl, .ref se, .ref tr, .ref im, .ref la, .ref dr, .int (nI pe), .int (nI ac), .int (nI lr), .int (nI sd)])), (tr, .inr (6, [.ref tpu, .ref tro, .ref trb, .int (nI tg), .ref (gAd G kd), .int (nI (eS sf)), .int (nI sz)])), (tpu, aI G 5 (fun j => eS (4 * tw j))), (tro, aI G 64 w), (trb, aI G 64 w0), (dl, .inr (0, [.ref a0, .ref a1, .ref a2, .ref a3])), (a0, aI G 4 co2_2), (a1, aI G 4 ge2_3), (a2, aI G 4 gi2_4), (a3, aI G 4 pa2_5), (la, .inr (2, [.ref b0, .ref b1, .ref b2, .ref b3, .int (nI lp), .int (nI ld)])), (b0, aI G 4 tk), (b1, aI G 4 gv), (b2, aI G 4 pr), (b3, aI G 4 py)]) rfl ?_
    refine cVV (pc' := 38) (As := [.ref dl]) (rest := []) (wr := [(x, .inr (7, [.ref pgo, .ref ppa, .ref dl, .ref se, .ref tr, .ref im, .ref la, .ref dr, .int (nI pe), .int (nI ac), .int (nI lr), .int (nI sd)])), (la, .inr (2, [.ref b0, .ref b1, .ref b2, .ref b3, .int (nI lp), .int (nI ld)])), (b0, aI G 4 tk), (b1, aI G 4 gv), (b2, aI G 4 pr), (b3, aI G 4 py)]) F (c_X8_follow tr tpu tro trb tg kd sf sz dl a0 a1 a2 a3 co2_2 ge2_3 gi2_4 pa2_5 tw w w0 hwd hsf hsz htg hkd htw (by rw [hfb]; exact fun d hd => wyT_lt hl9 hsf htw hd)) (cwV 1 F.2.2.2.2.1 gX9_ways_X8_follow rfl rfl rfl (by decide +kernel) ⟨Nat.le_of_ble_eq_true rfl, Nat.le_of_ble_eq_true rfl⟩) (v_rcvW F 6 1 rfl rfl) rfl rfl (Nat.le_of_ble_eq_true rfl) dX9_ways_35 [1, 2, 3, 4, 5, 6, 7, 8, 9] [0, 10, 11, 12, 13, 14] (by decide) rfl rfl (by decide) (by decide) ⟨Nat.zero_le _, Nat.zero_le _⟩ rfl (fun u q13 => ?_)
    obtain ⟨r1_8, r2_9, w1_10, w2_11⟩ := u
    have hW_12 := q13
    refine v_ws (wz := [(x, .inr (7, [.ref pgo, .ref ppa, .ref dl, .ref se, .ref tr, .ref im, .ref la, .ref dr, .int (nI pe), .int (nI ac), .int (nI lr), .int (nI sd)])), (la, .inr (2, [.ref b0, .ref b1, .ref b2, .ref b3, .int (nI lp), .int (nI ld)])), (b0, aI G 4 tk), (b1, aI G 4 gv), (b2, aI G 4 pr), (b3, aI G 4 py), (tr, .inr (6, [.ref tpu, .ref r1_8, .ref r2_9, .int (nI tg), .ref (gAd G kd), .int (nI (eS sf)), .int (nI sz)])), (tpu, aI G 5 (fun j => eS (4 * tw j))), (r1_8, aI G 64 w1_10), (r2_9, aI G 64 w2_11), (dl, .inr (0, [.ref a0, .ref a1, .ref a2, .ref a3])), (a0, aI G 4 co2_2), (a1, aI G 4 ge2_3), (a2, aI G 4 gi2_4), (a3, aI G 4 pa2_5)]) rfl ?_
    rw [hfb] at hW_12
    refine v_ws (wz := [(x, .inr (7, [.ref pgo, .ref ppa, .ref dl, .ref se, .ref tr, .ref im, .ref la, .ref dr, .int (nI pe), .int (nI ac), .int (nI lr), .int (nI sd)])), (la, .inr (2, [.ref b0, .ref b1, .ref b2, .ref b3, .int (nI lp), .int (nI ld)])), (b0, aI G 4 tk), (b1, aI G 4 gv), (b2, aI G 4 pr), (b3, aI G 4 py), (tr, .inr (6, [.ref tpu, .ref r1_8, .ref r2_9, .int (nI tg), .ref (gAd G kd), .int (nI (eS sf)), .int (nI sz)])), (tpu, aI G 5 (fun j => eS (4 * tw j))), (r1_8, aI G 64 (wyT (mB kd tk gv pr py) sf tw sz)), (r2_9, aI G 64 w2_11), (dl, .inr (0, [.ref a0, .ref a1, .ref a2, .ref a3])), (a0, aI G 4 co2_2), (a1, aI G 4 ge2_3), (a2, aI G 4 gi2_4), (a3, aI G 4 pa2_5)]) (by rw [← hW_12]) ?_
    refine v_aload_n (pc' := 39) F dX9_ways_38 rfl 0 rfl rfl ?_
    refine v_get (pc' := 42) (C := RX9) (T := TX9) (N := 12) F dX9_ways_39 in_X9_ways_X9 0 rfl rfl 4 (by decide) (List.mem_of_getElem? (i := 1) rfl) rfl rfl ?_
    refine cVI (pc' := 45) (As := []) (rest := []) (wr := [(x, .inr (7, [.ref pgo, .ref ppa, .ref dl, .ref se, .ref tr, .ref im, .ref la, .ref dr, .int (nI pe), .int (nI ac), .int (nI lr), .int (nI sd)])), (la, .inr (2, [.ref b0, .ref b1, .ref b2, .ref b3, .int (nI lp), .int (nI ld)])), (b0, aI G 4 tk), (b1, aI G 4 gv), (b2, aI G 4 pr), (b3, aI G 4 py), (tpu, aI G 5 (fun j => eS (4 * tw j))), (r2_9, aI G 64 w2_11), (dl, .inr (0, [.ref a0, .ref a1, .ref a2, .ref a3])), (a0, aI G 4 co2_2), (a1, aI G 4 ge2_3), (a2, aI G 4 gi2_4), (a3, aI G 4 pa2_5)]) F (c_X8_rows tr tpu r1_8 r2_9 tg kd sf sz (wyT (mB kd tk gv pr py) sf tw sz)) (cwV 0 F.2.2.2.2.1 gX9_ways_X8_rows rfl rfl rfl (by decide +kernel) ⟨Nat.le_of_ble_eq_true rfl, Nat.le_of_ble_eq_true rfl⟩) (v_rcvW F 6 6 rfl rfl) rfl rfl (Nat.le_of_ble_eq_true rfl) dX9_ways_42 [6, 8] [0, 1, 2, 3, 4, 5, 7, 9, 10, 11, 12, 13, 14] (by decide) rfl rfl (by decide) (by decide) ⟨Nat.zero_le _, Nat.zero_le _⟩ rfl (fun r u q14 => ?_)
    obtain rfl := q14
    refine v_ws (wz := [(x, .inr (7, [.ref pgo, .ref ppa, .ref dl, .ref se, .ref tr, .ref im, .ref la, .ref dr, .int (nI pe), .int (nI ac), .int (nI lr), .int (nI sd)])), (la, .inr (2, [.ref b0, .ref b1, .ref b2, .ref b3, .int (nI lp), .int (nI ld)])), (b0, aI G 4 tk), (b1, aI G 4 gv), (b2, aI G 4 pr), (b3, aI G 4 py), (tpu, aI G 5 (fun j => eS (4 * tw j))), (r2_9, aI G 64 w2_11), (dl, .inr (0, [.ref a0, .ref a1, .ref a2, .ref a3])), (a0, aI G 4 co2_2), (a1, aI G 4 ge2_3), (a2, aI G 4 gi2_4), (a3, aI G 4 pa2_5), (tr, .inr (6, [.ref tpu, .ref r1_8, .ref r2_9, .int (nI tg), .ref (gAd G kd), .int (nI (eS sf)), .int (nI sz)])), (r1_8, aI G 64 (wyT (mB kd tk gv pr py) sf tw sz))]) rfl ?_
    refine v_perm (wz := [(x, .inr (7, [.ref pgo, .ref ppa, .ref dl, .ref se, .ref tr, .ref im, .ref la, .ref dr, .int (nI pe), .int (nI ac), .int (nI lr), .int (nI sd)])), (dl, .inr (0, [.ref a0, .ref a1, .ref a2, .ref a3])), (a0, aI G 4 co2_2), (a1, aI G 4 ge2_3), (a2, aI G 4 gi2_4), (a3, aI G 4 pa2_5), (la, .inr (2, [.ref b0, .ref b1, .ref b2, .ref b3, .int (nI lp), .int (nI ld)])), (b0, aI G 4 tk), (b1, aI G 4 gv), (b2, aI G 4 pr), (b3, aI G 4 py), (tr, .inr (6, [.ref tpu, .ref r1_8, .ref r2_9, .int (nI tg), .ref (gAd G kd), .int (nI (eS sf)), .int (nI sz)])), (tpu, aI G 5 (fun j => eS (4 * tw j))), (r1_8, aI G 64 (wyT (mB kd tk gv pr py) sf tw sz)), (r2_9, aI G 64 w2_11)]) [0, 8, 9, 10, 11, 12, 1, 2, 3, 4, 5, 13, 6, 14, 7] (by decide) rfl ?_
    exact rt dX9_ways_45 (co2_2, ge2_3, gi2_4, pa2_5, r1_8, r2_9, (wyT (mB kd tk gv pr py) sf tw sz), w2_11) (by unfold A_ways; rw [if_neg (by assumption)]) rfl
  · refine v_bipush (pc' := 12) (v := (-103)) F dX9_ways_10 (by decide) rfl ?_
    exact rt dX9_ways_12 (co, ge, gi, pa, tro, trb, w, w0) (by unfold A_ways; rw [if_pos (by assumption)]) rfl
def rm_X9_ends : Room := { frames := 5, cells := 0, slots := 0, locals := 121 }
theorem in_X9_ends_X8 : ∀ w ∈ u_ws RX8 TX8 7, w ∈ wsX9_ends := fun w h => List.mem_cons_of_mem _ (List.mem_append_left _ (List.mem_append_left _ (List.mem_append_right _ (h))))
theorem in_X9_ends_X9 : ∀ w ∈ u_ws RX9 TX9 12, w ∈ wsX9_ends := fun w h => List.mem_cons_of_mem _ (List.mem_append_left _ (List.mem_append_left _ (List.mem_append_left _ (List.mem_append_right _ (h)))))
set_option maxHeartbeats 4000000 in
set_option maxRecDepth 100000 in
theorem c_X9_ends {l : Launch} {D : va_G} {G : gT} (x pgo ppa dl se tr im la dr pe ac lr sd : Nat) (a0 a1 a2 a3 : Nat) (co ge gi pa : Nat → Nat) (b0 b1 b2 b3 lp ld : Nat) (tk gv pr py : Nat → Nat) (tpu tro trb tg kd sf sz : Nat) (tw w w0 : Nat → Nat) (hsf : sf < 40000) (hsz : sz ≤ 5) (htg : tg < 2) (hkd : kd < 5) (htw : ∀ j, j < 5 → tw j < 625) (hl : ¬ tg = 0 → WL tk gv pr py) : CtI (σ := (Nat → Nat) × (Nat → Nat) × (Nat → Nat) × (Nat → Nat) × Nat × Nat × (Nat → Nat) × (Nat → Nat)) l yX9_ends wsX9_ends rm_X9_ends D G [.ref x] [(x, .inr (7, [.ref pgo, .ref ppa, .ref dl, .ref se, .ref tr, .ref im, .ref la, .ref dr, .int (nI pe), .int (nI ac), .int (nI lr), .int (nI sd)])), (dl, .inr (0, [.ref a0, .ref a1, .ref a2, .ref a3])), (a0, aI G 4 co), (a1, aI G 4 ge), (a2, aI G 4 gi), (a3, aI G 4 pa), (la, .inr (2, [.ref b0, .ref b1, .ref b2, .ref b3, .int (nI lp), .int (nI ld)])), (b0, aI G 4 tk), (b1, aI G 4 gv), (b2, aI G 4 pr), (b3, aI G 4 py), (tr, .inr (6, [.ref tpu, .ref tro, .ref trb, .int (nI tg), .ref (gAd G kd), .int (nI (eS sf)), .int (nI sz)])), (tpu, aI G 5 (fun j => eS (4 * tw j))), (tro, aI G 64 w), (trb, aI G 64 w0)] (fun r u => r = A_ends tg (wyT (mB kd tk gv pr py) sf tw sz)) (fun u => [(x, .inr (7, [.ref pgo, .ref ppa, .ref dl, .ref se, .ref tr, .ref im, .ref la, .ref dr, .int (nI pe), .int (nI ac), .int (nI lr), .int (nI sd)])), (dl, .inr (0, [.ref a0, .ref a1, .ref a2, .ref a3])), (a0, aI G 4 (u.1)), (a1, aI G 4 (u.2.1)), (a2, aI G 4 (u.2.2.1)), (a3, aI G 4 (u.2.2.2.1)), (la, .inr (2, [.ref b0, .ref b1, .ref b2, .ref b3, .int (nI lp), .int (nI ld)])), (b0, aI G 4 tk), (b1, aI G 4 gv), (b2, aI G 4 pr), (b3, aI G 4 py), (tr, .inr (6, [.ref tpu, .ref (u.2.2.2.2.1), .ref (u.2.2.2.2.2.1), .int (nI tg), .ref (gAd G kd), .int (nI (eS sf)), .int (nI sz)])), (tpu, aI G 5 (fun j => eS (4 * tw j))), ((u.2.2.2.2.1), aI G 64 (u.2.2.2.2.2.2.1)), ((u.2.2.2.2.2.1), aI G 64 (u.2.2.2.2.2.2.2))]) := by
  refine openI (maxL := 1) (by decide) rfl (Nat.le_of_ble_eq_true rfl) ?_
  intro pgZ evZ sgZ mmZ agsZ blZ meZ cdZ AZ QZ F hmn rt
  refine v_lv (lz := [(0, .ref x)]) rfl ?_
  refine v_aload_n (pc' := 1) F dX9_ends_0 rfl 0 rfl rfl ?_
  refine v_get (pc' := 4) (C := RX9) (T := TX9) (N := 12) F dX9_ends_1 in_X9_ends_X9 0 rfl rfl 4 (by decide) (List.mem_of_getElem? (i := 1) rfl) rfl rfl ?_
  refine v_get (pc' := 7) (C := RX8) (T := TX8) (N := 7) F dX9_ends_4 in_X9_ends_X8 11 rfl rfl 3 (by decide) (List.mem_of_getElem? (i := 2) rfl) rfl rfl ?_
  refine v_nif_ne (tgt := 13) (pc' := 10) F dX9_ends_7 (by omega) (by decide) rfl (fun c1 => ?_) (fun c1 => ?_)
  · have hl9 := hl (by omega)
    refine v_aload_n (pc' := 14) F dX9_ends_13 rfl 0 rfl rfl ?_
    refine v_get (pc' := 17) (C := RX9) (T := TX9) (N := 12) F dX9_ends_14 in_X9_ends_X9 0 rfl rfl 4 (by decide) (List.mem_of_getElem? (i := 1) rfl) rfl rfl ?_
    refine v_aload_n (pc' := 18) F dX9_ends_17 rfl 0 rfl rfl ?_
    refine v_get (pc' := 21) (C := RX9) (T := TX9) (N := 12) F dX9_ends_18 in_X9_ends_X9 0 rfl rfl 2 (by decide) (List.mem_of_getElem? (i := 3) rfl) rfl rfl ?_
    refine v_aload_n (pc' := 22) F dX9_ends_21 rfl 0 rfl rfl ?_
    refine v_get (pc' := 25) (C := RX9) (T := TX9) (N := 12) F dX9_ends_22 in_X9_ends_X9 0 rfl rfl 6 (by decide) (List.mem_of_getElem? (i := 4) rfl) rfl rfl ?_
    refine v_aload_n (pc' := 26) F dX9_ends_25 rfl 0 rfl rfl ?_
    refine v_get (pc' := 29) (C := RX9) (T := TX9) (N := 12) F dX9_ends_26 in_X9_ends_X9 0 rfl rfl 4 (by decide) (List.mem_of_getElem? (i := 1) rfl) rfl rfl ?_
    refine v_get (pc' := 32) (C := RX8) (T := TX8) (N := 7) F dX9_ends_29 in_X9_ends_X8 11 rfl rfl 4 (by decide) (List.mem_of_getElem? (i := 5) rfl) rfl rfl ?_
    refine cVR (pc' := 35) (As := [.ref la, .ref (gAd G kd)]) (rest := [.ref tr]) (wr := [(x, .inr (7, [.ref pgo, .ref ppa, .ref dl, .ref se, .ref tr, .ref im, .ref la, .ref dr, .int (nI pe), .int (nI ac), .int (nI lr), .int (nI sd)])), (tr, .inr (6, [.ref tpu, .ref tro, .ref trb, .int (nI tg), .ref (gAd G kd), .int (nI (eS sf)), .int (nI sz)])), (tpu, aI G 5 (fun j => eS (4 * tw j))), (tro, aI G 64 w), (trb, aI G 64 w0)]) F (c_X0_set dl a0 a1 a2 a3 la b0 b1 b2 b3 lp ld co ge gi pa tk gv pr py kd (by omega) hl9) (cwV 2 F.2.2.2.2.1 gX9_ends_X0_set rfl rfl rfl (by decide +kernel) ⟨Nat.le_of_ble_eq_true rfl, Nat.le_of_ble_eq_true rfl⟩) (v_rcvW F 0 1 rfl rfl) rfl rfl (Nat.le_of_ble_eq_true rfl) dX9_ends_32 [1, 2, 3, 4, 5, 6, 7, 8, 9, 10] [0, 11, 12, 13, 14] (by decide) rfl rfl (by decide) (by decide) ⟨Nat.zero_le _, Nat.zero_le _⟩ rfl (fun u q7 => ?_)
    obtain ⟨co2_2, ge2_3, gi2_4, pa2_5⟩ := u
    have hD_6 := q7
    have hwd := DLo_WD hl9 hD_6
    have hbe := DLo_bh hD_6
    have hfb : bh @co2_2 @ge2_3 @gi2_4 @pa2_5 = mB kd tk gv pr py := funext fun n => funext fun a => hbe n a
    refine v_ws (wz := [(x, .inr (7, [.ref pgo, .ref ppa, .ref dl, .ref se, .ref tr, .ref im, .ref la, .ref dr, .int (nI pe), .int (nI ac), .int (nI lr), .int (nI sd)])), (tr, .inr (6, [.ref tpu, .ref tro, .ref trb, .int (nI tg), .ref (gAd G kd), .int (nI (eS sf)), .int (nI sz)])), (tpu, aI G 5 (fun j => eS (4 * tw j))), (tro, aI G 64 w), (trb, aI G 64 w0), (dl, .inr (0, [.ref a0, .ref a1, .ref a2, .ref a3])), (a0, aI G 4 co2_2), (a1, aI G 4 ge2_3), (a2, aI G 4 gi2_4), (a3, aI G 4 pa2_5), (la, .inr (2, [.ref b0, .ref b1, .ref b2, .ref b3, .int (nI lp), .int (nI ld)])), (b0, aI G 4 tk), (b1, aI G 4 gv), (b2, aI G 4 pr), (b3, aI G 4 py)]) rfl ?_
    refine cVV (pc' := 38) (As := [.ref dl]) (rest := []) (wr := [(x, .inr (7, [.ref pgo, .ref ppa, .ref dl, .ref se, .ref tr, .ref im, .ref la, .ref dr, .int (nI pe), .int (nI ac), .int (nI lr), .int (nI sd)])), (la, .inr (2, [.ref b0, .ref b1, .ref b2, .ref b3, .int (nI lp), .int (nI ld)])), (b0, aI G 4 tk), (b1, aI G 4 gv), (b2, aI G 4 pr), (b3, aI G 4 py)]) F (c_X8_follow tr tpu tro trb tg kd sf sz dl a0 a1 a2 a3 co2_2 ge2_3 gi2_4 pa2_5 tw w w0 hwd hsf hsz htg hkd htw (by rw [hfb]; exact fun d hd => wyT_lt hl9 hsf htw hd)) (cwV 1 F.2.2.2.2.1 gX9_ends_X8_follow rfl rfl rfl (by decide +kernel) ⟨Nat.le_of_ble_eq_true rfl, Nat.le_of_ble_eq_true rfl⟩) (v_rcvW F 6 1 rfl rfl) rfl rfl (Nat.le_of_ble_eq_true rfl) dX9_ends_35 [1, 2, 3, 4, 5, 6, 7, 8, 9] [0, 10, 11, 12, 13, 14] (by decide) rfl rfl (by decide) (by decide) ⟨Nat.zero_le _, Nat.zero_le _⟩ rfl (fun u q13 => ?_)
    obtain ⟨r1_8, r2_9, w1_10, w2_11⟩ := u
    have hW_12 := q13
    refine v_ws (wz := [(x, .inr (7, [.ref pgo, .ref ppa, .ref dl, .ref se, .ref tr, .ref im, .ref la, .ref dr, .int (nI pe), .int (nI ac), .int (nI lr), .int (nI sd)])), (la, .inr (2, [.ref b0, .ref b1, .ref b2, .ref b3, .int (nI lp), .int (nI ld)])), (b0, aI G 4 tk), (b1, aI G 4 gv), (b2, aI G 4 pr), (b3, aI G 4 py), (tr, .inr (6, [.ref tpu, .ref r1_8, .ref r2_9, .int (nI tg), .ref (gAd G kd), .int (nI (eS sf)), .int (nI sz)])), (tpu, aI G 5 (fun j => eS (4 * tw j))), (r1_8, aI G 64 w1_10), (r2_9, aI G 64 w2_11), (dl, .inr (0, [.ref a0, .ref a1, .ref a2, .ref a3])), (a0, aI G 4 co2_2), (a1, aI G 4 ge2_3), (a2, aI G 4 gi2_4), (a3, aI G 4 pa2_5)]) rfl ?_
    rw [hfb] at hW_12
    refine v_ws (wz := [(x, .inr (7, [.ref pgo, .ref ppa, .ref dl, .ref se, .ref tr, .ref im, .ref la, .ref dr, .int (nI pe), .int (nI ac), .int (nI lr), .int (nI sd)])), (la, .inr (2, [.ref b0, .ref b1, .ref b2, .ref b3, .int (nI lp), .int (nI ld)])), (b0, aI G 4 tk), (b1, aI G 4 gv), (b2, aI G 4 pr), (b3, aI G 4 py), (tr, .inr (6, [.ref tpu, .ref r1_8, .ref r2_9, .int (nI tg), .ref (gAd G kd), .int (nI (eS sf)), .int (nI sz)])), (tpu, aI G 5 (fun j => eS (4 * tw j))), (r1_8, aI G 64 (wyT (mB kd tk gv pr py) sf tw sz)), (r2_9, aI G 64 w2_11), (dl, .inr (0, [.ref a0, .ref a1, .ref a2, .ref a3])), (a0, aI G 4 co2_2), (a1, aI G 4 ge2_3), (a2, aI G 4 gi2_4), (a3, aI G 4 pa2_5)]) (by rw [← hW_12]) ?_
    refine v_aload_n (pc' := 39) F dX9_ends_38 rfl 0 rfl rfl ?_
    refine v_get (pc' := 42) (C := RX9) (T := TX9) (N := 12) F dX9_ends_39 in_X9_ends_X9 0 rfl rfl 4 (by decide) (List.mem_of_getElem? (i := 1) rfl) rfl rfl ?_
    refine cVI (pc' := 45) (As := []) (rest := []) (wr := [(x, .inr (7, [.ref pgo, .ref ppa, .ref dl, .ref se, .ref tr, .ref im, .ref la, .ref dr, .int (nI pe), .int (nI ac), .int (nI lr), .int (nI sd)])), (la, .inr (2, [.ref b0, .ref b1, .ref b2, .ref b3, .int (nI lp), .int (nI ld)])), (b0, aI G 4 tk), (b1, aI G 4 gv), (b2, aI G 4 pr), (b3, aI G 4 py), (tpu, aI G 5 (fun j => eS (4 * tw j))), (r2_9, aI G 64 w2_11), (dl, .inr (0, [.ref a0, .ref a1, .ref a2, .ref a3])), (a0, aI G 4 co2_2), (a1, aI G 4 ge2_3), (a2, aI G 4 gi2_4), (a3, aI G 4 pa2_5)]) F (c_X8_towns tr tpu r1_8 r2_9 tg kd sf sz (wyT (mB kd tk gv pr py) sf tw sz) (fun j hj => wyT_lt hl9 hsf htw hsz j hj)) (cwV 0 F.2.2.2.2.1 gX9_ends_X8_towns rfl rfl rfl (by decide +kernel) ⟨Nat.le_of_ble_eq_true rfl, Nat.le_of_ble_eq_true rfl⟩) (v_rcvW F 6 6 rfl rfl) rfl rfl (Nat.le_of_ble_eq_true rfl) dX9_ends_42 [6, 8] [0, 1, 2, 3, 4, 5, 7, 9, 10, 11, 12, 13, 14] (by decide) rfl rfl (by decide) (by decide) ⟨Nat.zero_le _, Nat.zero_le _⟩ rfl (fun r u q14 => ?_)
    obtain rfl := q14
    refine v_ws (wz := [(x, .inr (7, [.ref pgo, .ref ppa, .ref dl, .ref se, .ref tr, .ref im, .ref la, .ref dr, .int (nI pe), .int (nI ac), .int (nI lr), .int (nI sd)])), (la, .inr (2, [.ref b0, .ref b1, .ref b2, .ref b3, .int (nI lp), .int (nI ld)])), (b0, aI G 4 tk), (b1, aI G 4 gv), (b2, aI G 4 pr), (b3, aI G 4 py), (tpu, aI G 5 (fun j => eS (4 * tw j))), (r2_9, aI G 64 w2_11), (dl, .inr (0, [.ref a0, .ref a1, .ref a2, .ref a3])), (a0, aI G 4 co2_2), (a1, aI G 4 ge2_3), (a2, aI G 4 gi2_4), (a3, aI G 4 pa2_5), (tr, .inr (6, [.ref tpu, .ref r1_8, .ref r2_9, .int (nI tg), .ref (gAd G kd), .int (nI (eS sf)), .int (nI sz)])), (r1_8, aI G 64 (wyT (mB kd tk gv pr py) sf tw sz))]) rfl ?_
    refine v_perm (wz := [(x, .inr (7, [.ref pgo, .ref ppa, .ref dl, .ref se, .ref tr, .ref im, .ref la, .ref dr, .int (nI pe), .int (nI ac), .int (nI lr), .int (nI sd)])), (dl, .inr (0, [.ref a0, .ref a1, .ref a2, .ref a3])), (a0, aI G 4 co2_2), (a1, aI G 4 ge2_3), (a2, aI G 4 gi2_4), (a3, aI G 4 pa2_5), (la, .inr (2, [.ref b0, .ref b1, .ref b2, .ref b3, .int (nI lp), .int (nI ld)])), (b0, aI G 4 tk), (b1, aI G 4 gv), (b2, aI G 4 pr), (b3, aI G 4 py), (tr, .inr (6, [.ref tpu, .ref r1_8, .ref r2_9, .int (nI tg), .ref (gAd G kd), .int (nI (eS sf)), .int (nI sz)])), (tpu, aI G 5 (fun j => eS (4 * tw j))), (r1_8, aI G 64 (wyT (mB kd tk gv pr py) sf tw sz)), (r2_9, aI G 64 w2_11)]) [0, 8, 9, 10, 11, 12, 1, 2, 3, 4, 5, 13, 6, 14, 7] (by decide) rfl ?_
    exact rt dX9_ends_45 (co2_2, ge2_3, gi2_4, pa2_5, r1_8, r2_9, (wyT (mB kd tk gv pr py) sf tw sz), w2_11) (by unfold A_ends; rw [if_neg (by assumption)]) rfl
  · refine v_bipush (pc' := 12) (v := (-103)) F dX9_ends_10 (by decide) rfl ?_
    exact rt dX9_ends_12 (co, ge, gi, pa, tro, trb, w, w0) (by unfold A_ends; rw [if_pos (by assumption)]) rfl
