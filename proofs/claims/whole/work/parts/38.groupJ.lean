def rm_X6_firstToBuy : Room := { frames := 1, cells := 0, slots := 0, locals := 24 }
theorem in_X6_firstToBuy_X6 : ∀ w ∈ u_ws RX6 TX6 6, w ∈ wsX6_firstToBuy := fun w h => List.mem_cons_of_mem _ (List.mem_append_left _ (List.mem_append_right _ (h)))
set_option maxHeartbeats 4000000 in
set_option maxRecDepth 100000 in
theorem c_X6_firstToBuy {l : Launch} {D : va_G} {G : gT} (se sea sef fc ls le dp : Nat) (fd : Nat → Nat) (Q : qT) (hf9 : ∀ j n f, Q[j]? = some (n, f) → fd j = eS n + f * 262144) (hQ : QI Q) (hle : le ≤ Q.length) (hll : ls ≤ le) (hdp : dp < 2 ^ 30) (hd : (dp = 0 ∧ ls = 0 ∧ le ≤ 1) ∨ (0 < dp ∧ 0 < ls)) (d a0 a1 a2 a3 : Nat) (co ge gi pa : Nat → Nat) (hw : WD co ge gi pa) (g9 c9 : Nat) (hg : g9 < 4) (hc : c9 < 2 ^ 31) : CtI (σ := Unit) l yX6_firstToBuy wsX6_firstToBuy rm_X6_firstToBuy D G [.ref se, .ref d, .int (nI g9), .int (nI c9)] [(se, .inr (5, [.ref sea, .ref sef, .int (nI fc), .int (nI ls), .int (nI le), .int (nI dp)])), (sef, aI G 40000 fd), (d, .inr (0, [.ref a0, .ref a1, .ref a2, .ref a3])), (a0, aI G 4 co), (a1, aI G 4 ge), (a2, aI G 4 gi), (a3, aI G 4 pa)] (fun r _ => r = oM (fl c9 (pa g9) g9 Q ls (le - ls))) (fun _ => [(se, .inr (5, [.ref sea, .ref sef, .int (nI fc), .int (nI ls), .int (nI le), .int (nI dp)])), (sef, aI G 40000 fd), (d, .inr (0, [.ref a0, .ref a1, .ref a2, .ref a3])), (a0, aI G 4 co), (a1, aI G 4 ge), (a2, aI G 4 gi), (a3, aI G 4 pa)]) := by
  have hql := QI_len hQ
  have hpg := (hw g9 hg).2.2.2
  refine openI (maxL := 7) (by decide) rfl (Nat.le_of_ble_eq_true rfl) ?_
  intro pgZ evZ sgZ mmZ agsZ blZ meZ cdZ AZ QZ F hmn rt
  refine v_lv (lz := [(0, .ref se), (1, .ref d), (2, .int (nI g9)), (3, .int (nI c9))]) rfl ?_
  refine v_aload_n (pc' := 1) F dX6_firstToBuy_0 rfl 0 rfl rfl ?_
  refine v_get (pc' := 4) (C := RX6) (T := TX6) (N := 6) F dX6_firstToBuy_1 in_X6_firstToBuy_X6 0 rfl rfl 3 (by decide) (List.mem_of_getElem? (i := 1) rfl) rfl rfl ?_
  refine v_istore (pc' := 6) (lv' := [(4, .int (nI ls)), (0, .ref se), (1, .ref d), (2, .int (nI g9)), (3, .int (nI c9))]) F dX6_firstToBuy_4 (by decide) rfl rfl ?_
  have L6 : ∀ (fu : Nat) (i : Nat), (ls ≤ i) → (i ≤ le) → (fl c9 (pa g9) g9 Q ls (i - ls) = none) → le < i + fu → V pgZ l evZ rm_X6_firstToBuy sgZ mmZ agsZ blZ meZ cdZ 0 0 QZ D AZ 7 6 [(4, .int (nI i)), (0, .ref se), (1, .ref d), (2, .int (nI g9)), (3, .int (nI c9))] [] [(se, .inr (5, [.ref sea, .ref sef, .int (nI fc), .int (nI ls), .int (nI le), .int (nI dp)])), (sef, aI G 40000 fd), (d, .inr (0, [.ref a0, .ref a1, .ref a2, .ref a3])), (a0, aI G 4 co), (a1, aI G 4 ge), (a2, aI G 4 gi), (a3, aI G 4 pa)] := by
    intro fu
    induction fu with
    | zero => intro i hi hil hfl hfu; exact absurd hfu (by omega)
    | succ fu ih6 =>
      intro i hi hil hfl hfu
      refine v_iload (pc' := 8) F dX6_firstToBuy_6 0 rfl rfl ?_
      refine v_aload_n (pc' := 9) F dX6_firstToBuy_8 rfl 1 rfl rfl ?_
      refine v_get (pc' := 12) (C := RX6) (T := TX6) (N := 6) F dX6_firstToBuy_9 in_X6_firstToBuy_X6 0 rfl rfl 4 (by decide) (List.mem_of_getElem? (i := 2) rfl) rfl rfl ?_
      refine v_ncmp_ge (tgt := 83) (pc' := 15) F dX6_firstToBuy_12 (by omega) (by omega) (by decide) rfl (fun c2 => ?_) (fun c2 => ?_)
      · refine v_iconst (pc' := 84) (v := (-1)) F dX6_firstToBuy_83 (by decide) rfl ?_
        exact rt dX6_firstToBuy_84 () ((oM_none (show fl c9 (pa g9) g9 Q ls (le - ls) = none by rcases Nat.lt_or_ge le ls with q | q; rw [show le - ls = 0 by omega]; rfl; rw [show le = i by omega]; exact hfl)).symm) rfl
      · obtain ⟨n9, f9, hat⟩ := at_lt (show i < Q.length by omega)
        obtain ⟨hn9, hf24⟩ := QI_at hQ hat
        have hfd9 := hf9 i n9 f9 hat
        have hs18 := eS_lt hn9
        refine v_aload_n (pc' := 16) F dX6_firstToBuy_15 rfl 1 rfl rfl ?_
        refine v_iload (pc' := 18) F dX6_firstToBuy_16 0 rfl rfl ?_
        refine cVI (pc' := 21) (As := [.int (nI i)]) (rest := []) (wr := [(d, .inr (0, [.ref a0, .ref a1, .ref a2, .ref a3])), (a0, aI G 4 co), (a1, aI G 4 ge), (a2, aI G 4 gi), (a3, aI G 4 pa)]) F (c_X6_standingAt se sea sef fc ls le dp fd i n9 f9 (by omega) hfd9 hn9 hf24) (cwV 1 F.2.2.2.2.1 gX6_firstToBuy_X6_standingAt rfl rfl rfl (by decide +kernel) ⟨Nat.le_of_ble_eq_true rfl, Nat.le_of_ble_eq_true rfl⟩) (v_rcvW F 5 0 rfl rfl) rfl rfl (Nat.le_of_ble_eq_true rfl) dX6_firstToBuy_18 [0, 1] [2, 3, 4, 5, 6] (by decide) rfl rfl (by decide) (by decide) ⟨Nat.zero_le _, Nat.zero_le _⟩ rfl (fun r u q3 => ?_)
        obtain rfl := q3
        refine v_ws (wz := [(d, .inr (0, [.ref a0, .ref a1, .ref a2, .ref a3])), (a0, aI G 4 co), (a1, aI G 4 ge), (a2, aI G 4 gi), (a3, aI G 4 pa), (se, .inr (5, [.ref sea, .ref sef, .int (nI fc), .int (nI ls), .int (nI le), .int (nI dp)])), (sef, aI G 40000 fd)]) rfl ?_
        refine v_istore (pc' := 23) (lv' := [(5, .int (nI (eS n9))), (4, .int (nI i)), (0, .ref se), (1, .ref d), (2, .int (nI g9)), (3, .int (nI c9))]) F dX6_firstToBuy_21 (by decide) rfl rfl ?_
        refine v_iconst (pc' := 24) (v := nI 0) F dX6_firstToBuy_23 (by decide) rfl ?_
        refine v_istore (pc' := 26) (lv' := [(6, .int (nI 0)), (5, .int (nI (eS n9))), (4, .int (nI i)), (0, .ref se), (1, .ref d), (2, .int (nI g9)), (3, .int (nI c9))]) F dX6_firstToBuy_24 (by decide) rfl rfl ?_
        have L26 : ∀ (fu : Nat) (k : Nat), (k ≤ 4) → (bc c9 (pa g9) g9 n9 k = none) → 4 < k + fu → V pgZ l evZ rm_X6_firstToBuy sgZ mmZ agsZ blZ meZ cdZ 0 0 QZ D AZ 7 26 [(6, .int (nI k)), (5, .int (nI (eS n9))), (4, .int (nI i)), (0, .ref se), (1, .ref d), (2, .int (nI g9)), (3, .int (nI c9))] [] [(d, .inr (0, [.ref a0, .ref a1, .ref a2, .ref a3])), (a0, aI G 4 co), (a1, aI G 4 ge), (a2, aI G 4 gi), (a3, aI G 4 pa), (se, .inr (5, [.ref sea, .ref sef, .int (nI fc), .int (nI ls), .int (nI le), .int (nI dp)])), (sef, aI G 40000 fd)] := by
          intro fu
          induction fu with
          | zero => intro k hk hbc hfu; exact absurd hfu (by omega)
          | succ fu ih26 =>
            intro k hk hbc hfu
            refine v_iload (pc' := 28) F dX6_firstToBuy_26 0 rfl rfl ?_
            refine v_iconst (pc' := 29) (v := nI 4) F dX6_firstToBuy_28 (by decide) rfl ?_
            refine v_ncmp_ge (tgt := 77) (pc' := 32) F dX6_firstToBuy_29 (by omega) (by omega) (by decide) rfl (fun c5 => ?_) (fun c5 => ?_)
            · refine v_iinc (pc' := 80) (v := nI (i + 1)) (lv' := [(4, .int (nI (i + 1))), (6, .int (nI k)), (5, .int (nI (eS n9))), (0, .ref se), (1, .ref d), (2, .int (nI g9)), (3, .int (nI c9))]) F dX6_firstToBuy_77 2 rfl (nI_add _ _) (by decide) rfl rfl ?_
              refine v_goto (tgt := 6) F dX6_firstToBuy_80 (by decide) ?_
              refine v_perm (wz := [(se, .inr (5, [.ref sea, .ref sef, .int (nI fc), .int (nI ls), .int (nI le), .int (nI dp)])), (sef, aI G 40000 fd), (d, .inr (0, [.ref a0, .ref a1, .ref a2, .ref a3])), (a0, aI G 4 co), (a1, aI G 4 ge), (a2, aI G 4 gi), (a3, aI G 4 pa)]) [5, 6, 0, 1, 2, 3, 4] (by decide) rfl ?_
              refine v_lpick (lz := [(4, .int (nI (i + 1))), (0, .ref se), (1, .ref d), (2, .int (nI g9)), (3, .int (nI c9))]) [0, 3, 4, 5, 6] rfl ?_
              exact ih6 (i + 1) (by omega) (by omega) (fl_ni hi hfl hat (by first | exact bc_town (by assumption) 4 | (rw [show (4 : Nat) = k by omega]; exact hbc))) (by omega)
            · refine v_iload (pc' := 34) F dX6_firstToBuy_32 1 rfl rfl ?_
              refine cSI0 (pc' := 37) (As := [.int (nI (eS n9))]) (rest := []) F (c_X7_townOf n9 (by omega)) (va_cwS 1 F.2.2.2.2.1 gX6_firstToBuy_X7_townOf rfl rfl rfl (by decide +kernel) ⟨Nat.le_of_ble_eq_true rfl, Nat.le_of_ble_eq_true rfl⟩) rfl rfl (Nat.le_of_ble_eq_true rfl) dX6_firstToBuy_34 ⟨Nat.zero_le _, Nat.zero_le _⟩ rfl (fun r u q6 => ?_)
              obtain rfl := q6
              refine v_iload_n (pc' := 38) F dX6_firstToBuy_37 rfl 5 rfl rfl ?_
              refine v_ncmp_ne (tgt := 77) (pc' := 41) F dX6_firstToBuy_38 (by omega) (by omega) (by decide) rfl (fun c7 => ?_) (fun c7 => ?_)
              · refine v_iinc (pc' := 80) (v := nI (i + 1)) (lv' := [(4, .int (nI (i + 1))), (6, .int (nI k)), (5, .int (nI (eS n9))), (0, .ref se), (1, .ref d), (2, .int (nI g9)), (3, .int (nI c9))]) F dX6_firstToBuy_77 2 rfl (nI_add _ _) (by decide) rfl rfl ?_
                refine v_goto (tgt := 6) F dX6_firstToBuy_80 (by decide) ?_
                refine v_perm (wz := [(se, .inr (5, [.ref sea, .ref sef, .int (nI fc), .int (nI ls), .int (nI le), .int (nI dp)])), (sef, aI G 40000 fd), (d, .inr (0, [.ref a0, .ref a1, .ref a2, .ref a3])), (a0, aI G 4 co), (a1, aI G 4 ge), (a2, aI G 4 gi), (a3, aI G 4 pa)]) [5, 6, 0, 1, 2, 3, 4] (by decide) rfl ?_
                refine v_lpick (lz := [(4, .int (nI (i + 1))), (0, .ref se), (1, .ref d), (2, .int (nI g9)), (3, .int (nI c9))]) [0, 3, 4, 5, 6] rfl ?_
                exact ih6 (i + 1) (by omega) (by omega) (fl_ni hi hfl hat (by first | exact bc_town (by assumption) 4 | (rw [show (4 : Nat) = k by omega]; exact hbc))) (by omega)
              · refine v_aload_n (pc' := 42) F dX6_firstToBuy_41 rfl 4 rfl rfl ?_
                refine v_iload_n (pc' := 43) F dX6_firstToBuy_42 rfl 5 rfl rfl ?_
                refine v_iload (pc' := 45) F dX6_firstToBuy_43 0 rfl rfl ?_
                refine v_iload (pc' := 47) F dX6_firstToBuy_45 1 rfl rfl ?_
                refine v_iload (pc' := 49) F dX6_firstToBuy_47 0 rfl rfl ?_
                have hdk := dg_lt n9 k
                refine cSI0 (pc' := 52) (As := [.int (nI (eS n9)), .int (nI k)]) (rest := [.int (nI k), .int (nI g9), .ref d]) F (c_X7_coinsOf n9 k (by omega) (by omega)) (va_cwS 2 F.2.2.2.2.1 gX6_firstToBuy_X7_coinsOf rfl rfl rfl (by decide +kernel) ⟨Nat.le_of_ble_eq_true rfl, Nat.le_of_ble_eq_true rfl⟩) rfl rfl (Nat.le_of_ble_eq_true rfl) dX6_firstToBuy_49 ⟨Nat.zero_le _, Nat.zero_le _⟩ rfl (fun r u q8 => ?_)
                obtain rfl := q8
                refine v_iload_n (pc' := 53) F dX6_firstToBuy_52 rfl 6 rfl rfl ?_
                refine cVI (pc' := 56) (As := [.int (nI g9), .int (nI k), .int (nI (dg n9 k)), .int (nI c9)]) (rest := []) (wr := [(se, .inr (5, [.ref sea, .ref sef, .int (nI fc), .int (nI ls), .int (nI le), .int (nI dp)])), (sef, aI G 40000 fd)]) F (c_X0_canPay d a0 a1 a2 a3 co ge gi pa g9 k (dg n9 k) c9 hw (by omega) (by omega) (by omega) (by omega)) (cwV 4 F.2.2.2.2.1 gX6_firstToBuy_X0_canPay rfl rfl rfl (by decide +kernel) ⟨Nat.le_of_ble_eq_true rfl, Nat.le_of_ble_eq_true rfl⟩) (v_rcvW F 0 0 rfl rfl) rfl rfl (Nat.le_of_ble_eq_true rfl) dX6_firstToBuy_53 [0, 1, 2, 3, 4] [5, 6] (by decide) rfl rfl (by decide) (by decide) ⟨Nat.zero_le _, Nat.zero_le _⟩ rfl (fun r u q9 => ?_)
                obtain rfl := q9
                refine v_ws (wz := [(se, .inr (5, [.ref sea, .ref sef, .int (nI fc), .int (nI ls), .int (nI le), .int (nI dp)])), (sef, aI G 40000 fd), (d, .inr (0, [.ref a0, .ref a1, .ref a2, .ref a3])), (a0, aI G 4 co), (a1, aI G 4 ge), (a2, aI G 4 gi), (a3, aI G 4 pa)]) rfl ?_
                refine v_bif_eq (tgt := 71) (pc' := 59) F dX6_firstToBuy_56 (by decide) rfl (fun c10 => ?_) (fun c10 => ?_)
                · refine v_iinc (pc' := 74) (v := nI (k + 1)) (lv' := [(6, .int (nI (k + 1))), (5, .int (nI (eS n9))), (4, .int (nI i)), (0, .ref se), (1, .ref d), (2, .int (nI g9)), (3, .int (nI c9))]) F dX6_firstToBuy_71 0 rfl (nI_add _ _) (by decide) rfl rfl ?_
                  refine v_goto (tgt := 26) F dX6_firstToBuy_74 (by decide) ?_
                  refine v_perm (wz := [(d, .inr (0, [.ref a0, .ref a1, .ref a2, .ref a3])), (a0, aI G 4 co), (a1, aI G 4 ge), (a2, aI G 4 gi), (a3, aI G 4 pa), (se, .inr (5, [.ref sea, .ref sef, .int (nI fc), .int (nI ls), .int (nI le), .int (nI dp)])), (sef, aI G 40000 fd)]) [2, 3, 4, 5, 6, 0, 1] (by decide) rfl ?_
                  exact ih26 (k + 1) (by omega) (bc_n hbc (fun q => absurd (show pa g9 / 2 ^ k % 2 = 1 ∧ c9 ≤ dg n9 k from ⟨q.2.1, q.2.2⟩) (by assumption))) (by omega)
                · refine v_aload_n (pc' := 60) F dX6_firstToBuy_59 rfl 3 rfl rfl ?_
                  refine v_iload (pc' := 62) F dX6_firstToBuy_60 2 rfl rfl ?_
                  refine v_bipush (pc' := 64) (v := nI 10) F dX6_firstToBuy_62 (by decide) rfl ?_
                  refine v_iload (pc' := 66) F dX6_firstToBuy_64 0 rfl rfl ?_
                  refine v_iadd (pc' := 67) (z := nI (10 + k)) F dX6_firstToBuy_66 (nI_add _ _) rfl ?_
                  refine cVI (pc' := 70) (As := [.int (nI i), .int (nI (10 + k))]) (rest := []) (wr := [(d, .inr (0, [.ref a0, .ref a1, .ref a2, .ref a3])), (a0, aI G 4 co), (a1, aI G 4 ge), (a2, aI G 4 gi), (a3, aI G 4 pa)]) F (c_X6_firstActTo se sea sef fc ls le dp fd i (10 + k) n9 f9 (by omega) hfd9 hn9 hf24 (by omega) (by omega)) (cwV 2 F.2.2.2.2.1 gX6_firstToBuy_X6_firstActTo rfl rfl rfl (by decide +kernel) ⟨Nat.le_of_ble_eq_true rfl, Nat.le_of_ble_eq_true rfl⟩) (v_rcvW F 5 0 rfl rfl) rfl rfl (Nat.le_of_ble_eq_true rfl) dX6_firstToBuy_67 [0, 1] [2, 3, 4, 5, 6] (by decide) rfl rfl (by decide) (by decide) ⟨Nat.zero_le _, Nat.zero_le _⟩ rfl (fun r u q11 => ?_)
                  obtain rfl := q11
                  refine v_ws (wz := [(d, .inr (0, [.ref a0, .ref a1, .ref a2, .ref a3])), (a0, aI G 4 co), (a1, aI G 4 ge), (a2, aI G 4 gi), (a3, aI G 4 pa), (se, .inr (5, [.ref sea, .ref sef, .int (nI fc), .int (nI ls), .int (nI le), .int (nI dp)])), (sef, aI G 40000 fd)]) rfl ?_
                  refine v_perm (wz := [(se, .inr (5, [.ref sea, .ref sef, .int (nI fc), .int (nI ls), .int (nI le), .int (nI dp)])), (sef, aI G 40000 fd), (d, .inr (0, [.ref a0, .ref a1, .ref a2, .ref a3])), (a0, aI G 4 co), (a1, aI G 4 ge), (a2, aI G 4 gi), (a3, aI G 4 pa)]) [5, 6, 0, 1, 2, 3, 4] (by decide) rfl ?_
                  exact rt dX6_firstToBuy_70 () ((oM_some (fl_yi hi hfl hat hbc (by omega) ⟨by assumption, (show _ ∧ _ by assumption)⟩ (by omega))).symm) rfl
        exact L26 (4 + 1) 0 (by omega) (rfl) (by omega)
  exact L6 (le + 1) ls (by omega) (by omega) (by rw [Nat.sub_self]; rfl) (by omega)
def rm_X6_firstToward : Room := { frames := 4, cells := 0, slots := 0, locals := 97 }
theorem in_X6_firstToward_X0 : ∀ w ∈ u_ws RX0 TX0 4, w ∈ wsX6_firstToward := fun w h => List.mem_cons_of_mem _ (List.mem_append_right _ (h))
theorem in_X6_firstToward_X6 : ∀ w ∈ u_ws RX6 TX6 6, w ∈ wsX6_firstToward := fun w h => List.mem_cons_of_mem _ (List.mem_append_left _ (List.mem_append_right _ (h)))
set_option maxHeartbeats 4000000 in
set_option maxRecDepth 100000 in
theorem c_X6_firstToward {l : Launch} {D : va_G} {G : gT} (se sea sef fc ls le dp : Nat) (sn fd : Nat → Nat) (s : Nat) (hs9 : s < 40000) (d a0 a1 a2 a3 : Nat) (co ge gi pa : Nat → Nat) (hw : WD co ge gi pa) (g9 : Nat) (hg : g9 < 4) : CtI (σ := Nat × Nat × Nat × Nat × (Nat → Nat) × (Nat → Nat)) l yX6_firstToward wsX6_firstToward rm_X6_firstToward D G [.ref se, .ref d, .int (nI (eS s)), .int (nI g9)] [(se, .inr (5, [.ref sea, .ref sef, .int (nI fc), .int (nI ls), .int (nI le), .int (nI dp)])), (sea, aI G 8192 sn), (sef, aI G 40000 fd), (d, .inr (0, [.ref a0, .ref a1, .ref a2, .ref a3])), (a0, aI G 4 co), (a1, aI G 4 ge), (a2, aI G 4 gi), (a3, aI G 4 pa)] (fun r u => r = fwF (fwS (bh co ge gi pa) (co g9) (pa g9) g9 s) ∧ ∀ x, fwS (bh co ge gi pa) (co g9) (pa g9) g9 s = some x → (u.2.2.2.1) + 1 = x.1) (fun u => [(se, .inr (5, [.ref sea, .ref sef, .int (nI (u.1)), .int (nI (u.2.1)), .int (nI (u.2.2.1)), .int (nI (u.2.2.2.1))])), (sea, aI G 8192 (u.2.2.2.2.1)), (sef, aI G 40000 (u.2.2.2.2.2)), (d, .inr (0, [.ref a0, .ref a1, .ref a2, .ref a3])), (a0, aI G 4 co), (a1, aI G 4 ge), (a2, aI G 4 gi), (a3, aI G 4 pa)]) := by
  have hGB : GB (bh co ge gi pa) := GB_d hw
  have hqi := fun m => qS_QI hGB hs9 m
  have hb4 := fun d => bS_40 hGB hs9 d
  have hbl := fun d => bS_le (B := (bh co ge gi pa)) (s := s) d
  refine openI (maxL := 6) (by decide) rfl (Nat.le_of_ble_eq_true rfl) ?_
  intro pgZ evZ sgZ mmZ agsZ blZ meZ cdZ AZ QZ F hmn rt
  refine v_lv (lz := [(0, .ref se), (1, .ref d), (2, .int (nI (eS s))), (3, .int (nI g9))]) rfl ?_
  refine v_aload_n (pc' := 1) F dX6_firstToward_0 rfl 0 rfl rfl ?_
  refine v_iload_n (pc' := 2) F dX6_firstToward_1 rfl 2 rfl rfl ?_
  refine cVV (pc' := 5) (As := [.int (nI (eS s))]) (rest := []) (wr := [(d, .inr (0, [.ref a0, .ref a1, .ref a2, .ref a3])), (a0, aI G 4 co), (a1, aI G 4 ge), (a2, aI G 4 gi), (a3, aI G 4 pa)]) F (c_X6_begin se sea sef fc ls le dp sn fd s (by omega)) (cwV 1 F.2.2.2.2.1 gX6_firstToward_X6_begin rfl rfl rfl (by decide +kernel) ⟨Nat.le_of_ble_eq_true rfl, Nat.le_of_ble_eq_true rfl⟩) (v_rcvW F 5 0 rfl rfl) rfl rfl (Nat.le_of_ble_eq_true rfl) dX6_firstToward_2 [0, 1, 2] [3, 4, 5, 6, 7] (by decide) rfl rfl (by decide) (by decide) ⟨Nat.zero_le _, Nat.zero_le _⟩ rfl (fun u q4 => ?_)
  obtain ⟨sn2_1, fd2_2⟩ := u
  have hM_3 := q4
  refine v_ws (wz := [(d, .inr (0, [.ref a0, .ref a1, .ref a2, .ref a3])), (a0, aI G 4 co), (a1, aI G 4 ge), (a2, aI G 4 gi), (a3, aI G 4 pa), (se, .inr (5, [.ref sea, .ref sef, .int (nI 1), .int (nI 0), .int (nI 1), .int (nI 0)])), (sea, aI G 8192 sn2_1), (sef, aI G 40000 fd2_2)]) rfl ?_
  refine v_iconst (pc' := 6) (v := nI 0) F dX6_firstToward_5 (by decide) rfl ?_
  refine v_istore (pc' := 8) (lv' := [(4, .int (nI 0)), (0, .ref se), (1, .ref d), (2, .int (nI (eS s))), (3, .int (nI g9))]) F dX6_firstToward_6 (by decide) rfl rfl ?_
  refine v_ws (wz := [(d, .inr (0, [.ref a0, .ref a1, .ref a2, .ref a3])), (a0, aI G 4 co), (a1, aI G 4 ge), (a2, aI G 4 gi), (a3, aI G 4 pa), (se, .inr (5, [.ref sea, .ref sef, .int (nI (bS (bh co ge gi pa) s (0 + 1))), .int (nI (bS (bh co ge gi pa) s 0)), .int (nI (bS (bh co ge gi pa) s (0 + 1))), .int (nI 0)])), (sea, aI G 8192 sn2_1), (sef, aI G 40000 fd2_2)]) rfl ?_
  have L8 : ∀ (fu : Nat) (i : Nat) (f1 : Nat → Nat) (f2 : Nat → Nat), (i ≤ 40000) → (SM f1 f2 (qS (bh co ge gi pa) s (bS (bh co ge gi pa) s i))) → (fwS (bh co ge gi pa) (co g9) (pa g9) g9 s = fwR (bh co ge gi pa) (co g9) (pa g9) g9 s (40000 - i) i) → 40000 < i + fu → V pgZ l evZ rm_X6_firstToward sgZ mmZ agsZ blZ meZ cdZ 0 0 QZ D AZ 6 8 [(4, .int (nI i)), (0, .ref se), (1, .ref d), (2, .int (nI (eS s))), (3, .int (nI g9))] [] [(d, .inr (0, [.ref a0, .ref a1, .ref a2, .ref a3])), (a0, aI G 4 co), (a1, aI G 4 ge), (a2, aI G 4 gi), (a3, aI G 4 pa), (se, .inr (5, [.ref sea, .ref sef, .int (nI (bS (bh co ge gi pa) s (i + 1))), .int (nI (bS (bh co ge gi pa) s i)), .int (nI (bS (bh co ge gi pa) s (i + 1))), .int (nI i)])), (sea, aI G 8192 f1), (sef, aI G 40000 f2)] := by
    intro fu
    induction fu with
    | zero => intro i f1 f2 hi hM hfw hfu; exact absurd hfu (by omega)
    | succ fu ih8 =>
      intro i f1 f2 hi hM hfw hfu
      refine v_iload (pc' := 10) F dX6_firstToward_8 0 rfl rfl ?_
      refine v_ldc (pc' := 12) (v := nI 40000) F dX6_firstToward_10 (List.mem_of_getElem? (i := 1) rfl) rfl ?_
      refine v_ncmp_ge (tgt := 60) (pc' := 15) F dX6_firstToward_12 (by omega) (by omega) (by decide) rfl (fun c6 => ?_) (fun c6 => ?_)
      · refine v_iconst (pc' := 61) (v := (-1)) F dX6_firstToward_60 (by decide) rfl ?_
        refine v_perm (wz := [(se, .inr (5, [.ref sea, .ref sef, .int (nI (bS (bh co ge gi pa) s (i + 1))), .int (nI (bS (bh co ge gi pa) s i)), .int (nI (bS (bh co ge gi pa) s (i + 1))), .int (nI i)])), (sea, aI G 8192 f1), (sef, aI G 40000 f2), (d, .inr (0, [.ref a0, .ref a1, .ref a2, .ref a3])), (a0, aI G 4 co), (a1, aI G 4 ge), (a2, aI G 4 gi), (a3, aI G 4 pa)]) [5, 6, 7, 0, 1, 2, 3, 4] (by decide) rfl ?_
        exact rt dX6_firstToward_61 ((bS (bh co ge gi pa) s (i + 1)), (bS (bh co ge gi pa) s i), (bS (bh co ge gi pa) s (i + 1)), i, f1, f2) (have hq : fwS (bh co ge gi pa) (co g9) (pa g9) g9 s = none := (by first | exact fwR_out hfw (by omega) | exact fwR_dry hfw (by omega)); ⟨(fwF_n hq).symm, fun x hx => by rw [hq] at hx; cases hx⟩) rfl
      · have hb1 := hb4 i
        have hb2 := hb4 (i + 1)
        have hcg := (hw g9 hg).1
        refine v_aload_n (pc' := 16) F dX6_firstToward_15 rfl 1 rfl rfl ?_
        refine v_get (pc' := 19) (C := RX6) (T := TX6) (N := 6) F dX6_firstToward_16 in_X6_firstToward_X6 5 rfl rfl 3 (by decide) (List.mem_of_getElem? (i := 2) rfl) rfl rfl ?_
        refine v_aload_n (pc' := 20) F dX6_firstToward_19 rfl 1 rfl rfl ?_
        refine v_get (pc' := 23) (C := RX6) (T := TX6) (N := 6) F dX6_firstToward_20 in_X6_firstToward_X6 5 rfl rfl 4 (by decide) (List.mem_of_getElem? (i := 3) rfl) rfl rfl ?_
        refine v_ncmp_ge (tgt := 60) (pc' := 26) F dX6_firstToward_23 (by omega) (by omega) (by decide) rfl (fun c7 => ?_) (fun c7 => ?_)
        · refine v_iconst (pc' := 61) (v := (-1)) F dX6_firstToward_60 (by decide) rfl ?_
          refine v_perm (wz := [(se, .inr (5, [.ref sea, .ref sef, .int (nI (bS (bh co ge gi pa) s (i + 1))), .int (nI (bS (bh co ge gi pa) s i)), .int (nI (bS (bh co ge gi pa) s (i + 1))), .int (nI i)])), (sea, aI G 8192 f1), (sef, aI G 40000 f2), (d, .inr (0, [.ref a0, .ref a1, .ref a2, .ref a3])), (a0, aI G 4 co), (a1, aI G 4 ge), (a2, aI G 4 gi), (a3, aI G 4 pa)]) [5, 6, 7, 0, 1, 2, 3, 4] (by decide) rfl ?_
          exact rt dX6_firstToward_61 ((bS (bh co ge gi pa) s (i + 1)), (bS (bh co ge gi pa) s i), (bS (bh co ge gi pa) s (i + 1)), i, f1, f2) (have hq : fwS (bh co ge gi pa) (co g9) (pa g9) g9 s = none := (by first | exact fwR_out hfw (by omega) | exact fwR_dry hfw (by omega)); ⟨(fwF_n hq).symm, fun x hx => by rw [hq] at hx; cases hx⟩) rfl
        · refine v_aload_n (pc' := 27) F dX6_firstToward_26 rfl 1 rfl rfl ?_
          refine v_aload_n (pc' := 28) F dX6_firstToward_27 rfl 2 rfl rfl ?_
          refine v_iload_n (pc' := 29) F dX6_firstToward_28 rfl 4 rfl rfl ?_
          refine v_aload_n (pc' := 30) F dX6_firstToward_29 rfl 2 rfl rfl ?_
          refine v_get (pc' := 33) (C := RX0) (T := TX0) (N := 4) F dX6_firstToward_30 in_X6_firstToward_X0 0 rfl rfl 0 (by decide) (List.mem_of_getElem? (i := 4) rfl) rfl rfl ?_
          refine v_iload_n (pc' := 34) F dX6_firstToward_33 rfl 4 rfl rfl ?_
          refine v_iald (pc' := 35) (z := co g9) F dX6_firstToward_34 1 rfl (by omega) (by first | decide | omega) rfl rfl ?_
          refine cVI (pc' := 38) (As := [.ref d, .int (nI g9), .int (nI (co g9))]) (rest := []) (wr := [(sea, aI G 8192 f1)]) F (c_X6_firstToBuy se sea sef (bS (bh co ge gi pa) s (i + 1)) (bS (bh co ge gi pa) s i) (bS (bh co ge gi pa) s (i + 1)) i f2 (qS (bh co ge gi pa) s (bS (bh co ge gi pa) s i)) (show SM _ _ _ by assumption).2.2 (hqi _) (Nat.le_refl _) (hbl _) (by omega) (by rcases Nat.eq_zero_or_pos i with q | q; subst q; exact Or.inl ⟨rfl, rfl, Nat.le_refl 1⟩; exact Or.inr ⟨q, bS_pos q⟩) d a0 a1 a2 a3 co ge gi pa hw g9 (co g9) (by omega) (by omega)) (cwV 3 F.2.2.2.2.1 gX6_firstToward_X6_firstToBuy rfl rfl rfl (by decide +kernel) ⟨Nat.le_of_ble_eq_true rfl, Nat.le_of_ble_eq_true rfl⟩) (v_rcvW F 5 5 rfl rfl) rfl rfl (Nat.le_of_ble_eq_true rfl) dX6_firstToward_35 [5, 7, 0, 1, 2, 3, 4] [6] (by decide) rfl rfl (by decide) (by decide) ⟨Nat.zero_le _, Nat.zero_le _⟩ rfl (fun r u q8 => ?_)
          obtain rfl := q8
          refine v_top (y := oM (fD (bh co ge gi pa) (co g9) (pa g9) g9 s i)) rfl ?_
          refine v_ws (wz := [(sea, aI G 8192 f1), (se, .inr (5, [.ref sea, .ref sef, .int (nI (bS (bh co ge gi pa) s (i + 1))), .int (nI (bS (bh co ge gi pa) s i)), .int (nI (bS (bh co ge gi pa) s (i + 1))), .int (nI i)])), (sef, aI G 40000 f2), (d, .inr (0, [.ref a0, .ref a1, .ref a2, .ref a3])), (a0, aI G 4 co), (a1, aI G 4 ge), (a2, aI G 4 gi), (a3, aI G 4 pa)]) rfl ?_
          cases hb10 : fD (bh co ge gi pa) (co g9) (pa g9) g9 s i with
          | none =>
            refine v_top (oM_none rfl) ?_
            refine v_istore (pc' := 40) (lv' := [(5, .int (-1)), (4, .int (nI i)), (0, .ref se), (1, .ref d), (2, .int (nI (eS s))), (3, .int (nI g9))]) F dX6_firstToward_38 (by decide) rfl rfl ?_
            refine v_iload (pc' := 42) F dX6_firstToward_40 0 rfl rfl ?_
            refine v_iconst (pc' := 43) (v := (-1)) F dX6_firstToward_42 (by decide) rfl ?_
            refine v_icmp_eq (tgt := 49) (pc' := 46) F dX6_firstToward_43 (by decide) rfl (fun c11 => ?_) (fun c11 => ?_)
            · refine v_aload_n (pc' := 50) F dX6_firstToward_49 rfl 2 rfl rfl ?_
              refine v_aload_n (pc' := 51) F dX6_firstToward_50 rfl 3 rfl rfl ?_
              refine v_ws (wz := [(sea, aI G 8192 f1), (se, .inr (5, [.ref sea, .ref sef, .int (nI ((qS (bh co ge gi pa) s (bS (bh co ge gi pa) s i)).length)), .int (nI (bS (bh co ge gi pa) s i)), .int (nI ((qS (bh co ge gi pa) s (bS (bh co ge gi pa) s i)).length)), .int (nI i)])), (sef, aI G 40000 f2), (d, .inr (0, [.ref a0, .ref a1, .ref a2, .ref a3])), (a0, aI G 4 co), (a1, aI G 4 ge), (a2, aI G 4 gi), (a3, aI G 4 pa)]) rfl ?_
              refine cVV (pc' := 54) (As := [.ref d]) (rest := []) (wr := []) F (c_X6_deepen se sea sef (bS (bh co ge gi pa) s i) i f1 f2 s hs9 d a0 a1 a2 a3 co ge gi pa hw (by assumption) (hb4 _) (by omega) (by rcases Nat.eq_zero_or_pos i with q | q; subst q; exact Or.inl ⟨rfl, rfl⟩; exact Or.inr ⟨q, bS_pos q⟩) (hbl _)) (cwV 1 F.2.2.2.2.1 gX6_firstToward_X6_deepen rfl rfl rfl (by decide +kernel) ⟨Nat.le_of_ble_eq_true rfl, Nat.le_of_ble_eq_true rfl⟩) (v_rcvW F 5 1 rfl rfl) rfl rfl (Nat.le_of_ble_eq_true rfl) dX6_firstToward_51 [1, 0, 2, 3, 4, 5, 6, 7] [] (by decide) rfl rfl (by decide) (by decide) ⟨Nat.zero_le _, Nat.zero_le _⟩ rfl (fun u q15 => ?_)
              obtain ⟨sn_12, fd_13⟩ := u
              have hM_14 := q15
              refine v_ws (wz := [(se, .inr (5, [.ref sea, .ref sef, .int (nI ((qS (bh co ge gi pa) s (qS (bh co ge gi pa) s (bS (bh co ge gi pa) s i)).length).length)), .int (nI ((qS (bh co ge gi pa) s (bS (bh co ge gi pa) s i)).length)), .int (nI ((qS (bh co ge gi pa) s (qS (bh co ge gi pa) s (bS (bh co ge gi pa) s i)).length).length)), .int (nI (i + 1))])), (sea, aI G 8192 sn_12), (sef, aI G 40000 fd_13), (d, .inr (0, [.ref a0, .ref a1, .ref a2, .ref a3])), (a0, aI G 4 co), (a1, aI G 4 ge), (a2, aI G 4 gi), (a3, aI G 4 pa)]) rfl ?_
              refine v_ws (wz := [(se, .inr (5, [.ref sea, .ref sef, .int (nI (bS (bh co ge gi pa) s ((i + 1) + 1))), .int (nI (bS (bh co ge gi pa) s (i + 1))), .int (nI (bS (bh co ge gi pa) s ((i + 1) + 1))), .int (nI (i + 1))])), (sea, aI G 8192 sn_12), (sef, aI G 40000 fd_13), (d, .inr (0, [.ref a0, .ref a1, .ref a2, .ref a3])), (a0, aI G 4 co), (a1, aI G 4 ge), (a2, aI G 4 gi), (a3, aI G 4 pa)]) rfl ?_
              refine v_iinc (pc' := 57) (v := nI (i + 1)) (lv' := [(4, .int (nI (i + 1))), (5, .int (-1)), (0, .ref se), (1, .ref d), (2, .int (nI (eS s))), (3, .int (nI g9))]) F dX6_firstToward_54 1 rfl (nI_add _ _) (by decide) rfl rfl ?_
              refine v_goto (tgt := 8) F dX6_firstToward_57 (by decide) ?_
              refine v_perm (wz := [(d, .inr (0, [.ref a0, .ref a1, .ref a2, .ref a3])), (a0, aI G 4 co), (a1, aI G 4 ge), (a2, aI G 4 gi), (a3, aI G 4 pa), (se, .inr (5, [.ref sea, .ref sef, .int (nI (bS (bh co ge gi pa) s ((i + 1) + 1))), .int (nI (bS (bh co ge gi pa) s (i + 1))), .int (nI (bS (bh co ge gi pa) s ((i + 1) + 1))), .int (nI (i + 1))])), (sea, aI G 8192 sn_12), (sef, aI G 40000 fd_13)]) [3, 4, 5, 6, 7, 0, 1, 2] (by decide) rfl ?_
              refine v_lpick (lz := [(4, .int (nI (i + 1))), (0, .ref se), (1, .ref d), (2, .int (nI (eS s))), (3, .int (nI g9))]) [0, 2, 3, 4, 5] rfl ?_
              exact ih8 (i + 1) sn_12 fd_13 (by omega) (hM_14) (fwR_go hfw (by omega) (by omega) hb10) (by omega)
            · exact absurd rfl c11
          | some x9 =>
            refine v_top (oM_some rfl) ?_
            have hx24 := fl_lt (hqi _) hb10
            refine v_istore (pc' := 40) (lv' := [(5, .int (nI x9)), (4, .int (nI i)), (0, .ref se), (1, .ref d), (2, .int (nI (eS s))), (3, .int (nI g9))]) F dX6_firstToward_38 (by decide) rfl rfl ?_
            refine v_iload (pc' := 42) F dX6_firstToward_40 0 rfl rfl ?_
            refine v_iconst (pc' := 43) (v := (-1)) F dX6_firstToward_42 (by decide) rfl ?_
            refine v_icmp_eq (tgt := 49) (pc' := 46) F dX6_firstToward_43 (by decide) rfl (fun c16 => ?_) (fun c16 => ?_)
            · exact absurd c16 (ni_m1 (by omega))
            · refine v_iload (pc' := 48) F dX6_firstToward_46 0 rfl rfl ?_
              refine v_perm (wz := [(se, .inr (5, [.ref sea, .ref sef, .int (nI (bS (bh co ge gi pa) s (i + 1))), .int (nI (bS (bh co ge gi pa) s i)), .int (nI (bS (bh co ge gi pa) s (i + 1))), .int (nI i)])), (sea, aI G 8192 f1), (sef, aI G 40000 f2), (d, .inr (0, [.ref a0, .ref a1, .ref a2, .ref a3])), (a0, aI G 4 co), (a1, aI G 4 ge), (a2, aI G 4 gi), (a3, aI G 4 pa)]) [1, 0, 2, 3, 4, 5, 6, 7] (by decide) rfl ?_
              exact rt dX6_firstToward_48 ((bS (bh co ge gi pa) s (i + 1)), (bS (bh co ge gi pa) s i), (bS (bh co ge gi pa) s (i + 1)), i, f1, f2) (have hq := fwR_hit hfw (by omega) (by omega) hb10; ⟨(fwF_s hq).symm, fun x hx => by rw [hq] at hx; cases hx; rfl⟩) rfl
  exact L8 (40000 + 1) 0 sn2_1 fd2_2 (by omega) (by assumption) (rfl) (by omega)
def rm_X6_isSooner : Room := { frames := 4, cells := 0, slots := 0, locals := 97 }
theorem in_X6_isSooner_X0 : ∀ w ∈ u_ws RX0 TX0 4, w ∈ wsX6_isSooner := fun w h => List.mem_cons_of_mem _ (List.mem_append_left _ (List.mem_append_right _ (h)))
theorem in_X6_isSooner_X6 : ∀ w ∈ u_ws RX6 TX6 6, w ∈ wsX6_isSooner := fun w h => List.mem_cons_of_mem _ (List.mem_append_right _ (h))
set_option maxHeartbeats 4000000 in
set_option maxRecDepth 100000 in
theorem c_X6_isSooner {l : Launch} {D : va_G} {G : gT} (se sea sef fc ls le dp : Nat) (sn fd : Nat → Nat) (s : Nat) (hs9 : s < 40000) (d a0 a1 a2 a3 : Nat) (co ge gi pa : Nat → Nat) (hw : WD co ge gi pa) (g9 o9 : Nat) (hg : g9 < 4) (ho : o9 < 2 ^ 31) : CtI (σ := Nat × Nat × Nat × Nat × (Nat → Nat) × (Nat → Nat)) l yX6_isSooner wsX6_isSooner rm_X6_isSooner D G [.ref se, .ref d, .int (nI (eS s)), .int (nI g9), .int (nI o9)] [(se, .inr (5, [.ref sea, .ref sef, .int (nI fc), .int (nI ls), .int (nI le), .int (nI dp)])), (sea, aI G 8192 sn), (sef, aI G 40000 fd), (d, .inr (0, [.ref a0, .ref a1, .ref a2, .ref a3])), (a0, aI G 4 co), (a1, aI G 4 ge), (a2, aI G 4 gi), (a3, aI G 4 pa)] (fun r u => r = bI (o9 < co g9 ∧ ¬ gd s g9 ∧ snR (bh co ge gi pa) (co g9) o9 (pa g9) g9 s 40000 0 = 1)) (fun u => [(se, .inr (5, [.ref sea, .ref sef, .int (nI (u.1)), .int (nI (u.2.1)), .int (nI (u.2.2.1)), .int (nI (u.2.2.2.1))])), (sea, aI G 8192 (u.2.2.2.2.1)), (sef, aI G 40000 (u.2.2.2.2.2)), (d, .inr (0, [.ref a0, .ref a1, .ref a2, .ref a3])), (a0, aI G 4 co), (a1, aI G 4 ge), (a2, aI G 4 gi), (a3, aI G 4 pa)]) := by
  have hGB : GB (bh co ge gi pa) := GB_d hw
  have hqi := fun m => qS_QI hGB hs9 m
  have hb4 := fun d => bS_40 hGB hs9 d
  have hbl := fun d => bS_le (B := (bh co ge gi pa)) (s := s) d
  have hcg := (hw g9 hg).1
  refine openZ (maxL := 6) (by decide) rfl (Nat.le_of_ble_eq_true rfl) ?_
  intro pgZ evZ sgZ mmZ agsZ blZ meZ cdZ AZ QZ F hmn rt
  refine v_lv (lz := [(0, .ref se), (1, .ref d), (2, .int (nI (eS s))), (3, .int (nI g9)), (4, .int (nI o9))]) rfl ?_
  refine v_iload (pc' := 2) F dX6_isSooner_0 4 rfl rfl ?_
  refine v_aload_n (pc' := 3) F dX6_isSooner_2 rfl 1 rfl rfl ?_
  refine v_get (pc' := 6) (C := RX0) (T := TX0) (N := 4) F dX6_isSooner_3 in_X6_isSooner_X0 3 rfl rfl 0 (by decide) (List.mem_of_getElem? (i := 1) rfl) rfl rfl ?_
  refine v_iload_n (pc' := 7) F dX6_isSooner_6 rfl 3 rfl rfl ?_
  refine v_iald (pc' := 8) (z := co g9) F dX6_isSooner_7 4 rfl (by omega) (by first | decide | omega) rfl rfl ?_
  refine v_ncmp_ge (tgt := 19) (pc' := 11) F dX6_isSooner_8 (by omega) (by omega) (by decide) rfl (fun c1 => ?_) (fun c1 => ?_)
  · refine v_iconst (pc' := 20) (v := nI 0) F dX6_isSooner_19 (by decide) rfl ?_
    exact rt rfl dX6_isSooner_20 (fc, ls, le, dp, sn, fd) (nI0_b (fun q => by first | exact absurd q.2.1 (Decidable.not_not.mpr (by assumption)) | exact absurd (by assumption) q.2.1 | exact absurd q.1 (by omega))) rfl
  · refine v_iload_n (pc' := 12) F dX6_isSooner_11 rfl 2 rfl rfl ?_
    refine v_iload_n (pc' := 13) F dX6_isSooner_12 rfl 3 rfl rfl ?_
    refine cSI0 (pc' := 16) (As := [.int (nI (eS s)), .int (nI g9)]) (rest := []) F (c_X7_hasGood s g9 (by omega) (by omega)) (va_cwS 2 F.2.2.2.2.1 gX6_isSooner_X7_hasGood rfl rfl rfl (by decide +kernel) ⟨Nat.le_of_ble_eq_true rfl, Nat.le_of_ble_eq_true rfl⟩) rfl rfl (Nat.le_of_ble_eq_true rfl) dX6_isSooner_13 ⟨Nat.zero_le _, Nat.zero_le _⟩ rfl (fun r u q2 => ?_)
    obtain rfl := q2
    refine v_bif_eq (tgt := 21) (pc' := 19) F dX6_isSooner_16 (by decide) rfl (fun c3 => ?_) (fun c3 => ?_)
    · refine v_aload_n (pc' := 22) F dX6_isSooner_21 rfl 0 rfl rfl ?_
      refine v_iload_n (pc' := 23) F dX6_isSooner_22 rfl 2 rfl rfl ?_
      refine cVV (pc' := 26) (As := [.int (nI (eS s))]) (rest := []) (wr := [(d, .inr (0, [.ref a0, .ref a1, .ref a2, .ref a3])), (a0, aI G 4 co), (a1, aI G 4 ge), (a2, aI G 4 gi), (a3, aI G 4 pa)]) F (c_X6_begin se sea sef fc ls le dp sn fd s (by omega)) (cwV 1 F.2.2.2.2.1 gX6_isSooner_X6_begin rfl rfl rfl (by decide +kernel) ⟨Nat.le_of_ble_eq_true rfl, Nat.le_of_ble_eq_true rfl⟩) (v_rcvW F 5 0 rfl rfl) rfl rfl (Nat.le_of_ble_eq_true rfl) dX6_isSooner_23 [0, 1, 2] [3, 4, 5, 6, 7] (by decide) rfl rfl (by decide) (by decide) ⟨Nat.zero_le _, Nat.zero_le _⟩ rfl (fun u q7 => ?_)
      obtain ⟨sn2_4, fd2_5⟩ := u
      have hM_6 := q7
      refine v_ws (wz := [(d, .inr (0, [.ref a0, .ref a1, .ref a2, .ref a3])), (a0, aI G 4 co), (a1, aI G 4 ge), (a2, aI G 4 gi), (a3, aI G 4 pa), (se, .inr (5, [.ref sea, .ref sef, .int (nI 1), .int (nI 0), .int (nI 1), .int (nI 0)])), (sea, aI G 8192 sn2_4), (sef, aI G 40000 fd2_5)]) rfl ?_
      refine v_iconst (pc' := 27) (v := nI 0) F dX6_isSooner_26 (by decide) rfl ?_
      refine v_istore (pc' := 29) (lv' := [(5, .int (nI 0)), (0, .ref se), (1, .ref d), (2, .int (nI (eS s))), (3, .int (nI g9)), (4, .int (nI o9))]) F dX6_isSooner_27 (by decide) rfl rfl ?_
      refine v_ws (wz := [(d, .inr (0, [.ref a0, .ref a1, .ref a2, .ref a3])), (a0, aI G 4 co), (a1, aI G 4 ge), (a2, aI G 4 gi), (a3, aI G 4 pa), (se, .inr (5, [.ref sea, .ref sef, .int (nI (bS (bh co ge gi pa) s (0 + 1))), .int (nI (bS (bh co ge gi pa) s 0)), .int (nI (bS (bh co ge gi pa) s (0 + 1))), .int (nI 0)])), (sea, aI G 8192 sn2_4), (sef, aI G 40000 fd2_5)]) rfl ?_
      have L29 : ∀ (fu : Nat) (i : Nat) (f1 : Nat → Nat) (f2 : Nat → Nat), (i ≤ 40000) → (SM f1 f2 (qS (bh co ge gi pa) s (bS (bh co ge gi pa) s i))) → (snR (bh co ge gi pa) (co g9) o9 (pa g9) g9 s 40000 0 = snR (bh co ge gi pa) (co g9) o9 (pa g9) g9 s (40000 - i) i) → 40000 < i + fu → V pgZ l evZ rm_X6_isSooner sgZ mmZ agsZ blZ meZ cdZ 0 0 QZ D AZ 6 29 [(5, .int (nI i)), (0, .ref se), (1, .ref d), (2, .int (nI (eS s))), (3, .int (nI g9)), (4, .int (nI o9))] [] [(d, .inr (0, [.ref a0, .ref a1, .ref a2, .ref a3])), (a0, aI G 4 co), (a1, aI G 4 ge), (a2, aI G 4 gi), (a3, aI G 4 pa), (se, .inr (5, [.ref sea, .ref sef, .int (nI (bS (bh co ge gi pa) s (i + 1))), .int (nI (bS (bh co ge gi pa) s i)), .int (nI (bS (bh co ge gi pa) s (i + 1))), .int (nI i)])), (sea, aI G 8192 f1), (sef, aI G 40000 f2)] := by
        intro fu
        induction fu with
        | zero => intro i f1 f2 hi hM hsn hfu; exact absurd hfu (by omega)
        | succ fu ih29 =>
          intro i f1 f2 hi hM hsn hfu
          refine v_iload (pc' := 31) F dX6_isSooner_29 0 rfl rfl ?_
          refine v_ldc (pc' := 33) (v := nI 40000) F dX6_isSooner_31 (List.mem_of_getElem? (i := 2) rfl) rfl ?_
          refine v_ncmp_ge (tgt := 90) (pc' := 36) F dX6_isSooner_33 (by omega) (by omega) (by decide) rfl (fun c9 => ?_) (fun c9 => ?_)
          · refine v_iconst (pc' := 91) (v := nI 0) F dX6_isSooner_90 (by decide) rfl ?_
            refine v_perm (wz := [(se, .inr (5, [.ref sea, .ref sef, .int (nI (bS (bh co ge gi pa) s (i + 1))), .int (nI (bS (bh co ge gi pa) s i)), .int (nI (bS (bh co ge gi pa) s (i + 1))), .int (nI i)])), (sea, aI G 8192 f1), (sef, aI G 40000 f2), (d, .inr (0, [.ref a0, .ref a1, .ref a2, .ref a3])), (a0, aI G 4 co), (a1, aI G 4 ge), (a2, aI G 4 gi), (a3, aI G 4 pa)]) [5, 6, 7, 0, 1, 2, 3, 4] (by decide) rfl ?_
            exact rt rfl dX6_isSooner_91 ((bS (bh co ge gi pa) s (i + 1)), (bS (bh co ge gi pa) s i), (bS (bh co ge gi pa) s (i + 1)), i, f1, f2) (nI0_b (fun q => by have hq := snR_d hsn (by omega); rw [hq] at q; exact absurd q.2.2 (by decide))) rfl
          · have hb1 := hb4 i
            have hb2 := hb4 (i + 1)
            refine v_aload_n (pc' := 37) F dX6_isSooner_36 rfl 1 rfl rfl ?_
            refine v_get (pc' := 40) (C := RX6) (T := TX6) (N := 6) F dX6_isSooner_37 in_X6_isSooner_X6 5 rfl rfl 3 (by decide) (List.mem_of_getElem? (i := 3) rfl) rfl rfl ?_
            refine v_aload_n (pc' := 41) F dX6_isSooner_40 rfl 1 rfl rfl ?_
            refine v_get (pc' := 44) (C := RX6) (T := TX6) (N := 6) F dX6_isSooner_41 in_X6_isSooner_X6 5 rfl rfl 4 (by decide) (List.mem_of_getElem? (i := 4) rfl) rfl rfl ?_
            refine v_ncmp_ge (tgt := 90) (pc' := 47) F dX6_isSooner_44 (by omega) (by omega) (by decide) rfl (fun c10 => ?_) (fun c10 => ?_)
            · refine v_iconst (pc' := 91) (v := nI 0) F dX6_isSooner_90 (by decide) rfl ?_
              refine v_perm (wz := [(se, .inr (5, [.ref sea, .ref sef, .int (nI (bS (bh co ge gi pa) s (i + 1))), .int (nI (bS (bh co ge gi pa) s i)), .int (nI (bS (bh co ge gi pa) s (i + 1))), .int (nI i)])), (sea, aI G 8192 f1), (sef, aI G 40000 f2), (d, .inr (0, [.ref a0, .ref a1, .ref a2, .ref a3])), (a0, aI G 4 co), (a1, aI G 4 ge), (a2, aI G 4 gi), (a3, aI G 4 pa)]) [5, 6, 7, 0, 1, 2, 3, 4] (by decide) rfl ?_
              exact rt rfl dX6_isSooner_91 ((bS (bh co ge gi pa) s (i + 1)), (bS (bh co ge gi pa) s i), (bS (bh co ge gi pa) s (i + 1)), i, f1, f2) (nI0_b (fun q => by have hq := snR_d hsn (by omega); rw [hq] at q; exact absurd q.2.2 (by decide))) rfl
            · refine v_aload_n (pc' := 48) F dX6_isSooner_47 rfl 1 rfl rfl ?_
              refine v_aload_n (pc' := 49) F dX6_isSooner_48 rfl 2 rfl rfl ?_
              refine v_iload_n (pc' := 50) F dX6_isSooner_49 rfl 4 rfl rfl ?_
              refine v_aload_n (pc' := 51) F dX6_isSooner_50 rfl 2 rfl rfl ?_
              refine v_get (pc' := 54) (C := RX0) (T := TX0) (N := 4) F dX6_isSooner_51 in_X6_isSooner_X0 0 rfl rfl 0 (by decide) (List.mem_of_getElem? (i := 1) rfl) rfl rfl ?_
              refine v_iload_n (pc' := 55) F dX6_isSooner_54 rfl 4 rfl rfl ?_
              refine v_iald (pc' := 56) (z := co g9) F dX6_isSooner_55 1 rfl (by omega) (by first | decide | omega) rfl rfl ?_
              refine cVI (pc' := 59) (As := [.ref d, .int (nI g9), .int (nI (co g9))]) (rest := []) (wr := [(sea, aI G 8192 f1)]) F (c_X6_firstToBuy se sea sef (bS (bh co ge gi pa) s (i + 1)) (bS (bh co ge gi pa) s i) (bS (bh co ge gi pa) s (i + 1)) i f2 (qS (bh co ge gi pa) s (bS (bh co ge gi pa) s i)) (show SM _ _ _ by assumption).2.2 (hqi _) (Nat.le_refl _) (hbl _) (by omega) (by rcases Nat.eq_zero_or_pos i with q | q; subst q; exact Or.inl ⟨rfl, rfl, Nat.le_refl 1⟩; exact Or.inr ⟨q, bS_pos q⟩) d a0 a1 a2 a3 co ge gi pa hw g9 (co g9) (by omega) (by omega)) (cwV 3 F.2.2.2.2.1 gX6_isSooner_X6_firstToBuy rfl rfl rfl (by decide +kernel) ⟨Nat.le_of_ble_eq_true rfl, Nat.le_of_ble_eq_true rfl⟩) (v_rcvW F 5 5 rfl rfl) rfl rfl (Nat.le_of_ble_eq_true rfl) dX6_isSooner_56 [5, 7, 0, 1, 2, 3, 4] [6] (by decide) rfl rfl (by decide) (by decide) ⟨Nat.zero_le _, Nat.zero_le _⟩ rfl (fun r u q11 => ?_)
              obtain rfl := q11
              refine v_top (y := oM (fD (bh co ge gi pa) (co g9) (pa g9) g9 s i)) rfl ?_
              refine v_ws (wz := [(sea, aI G 8192 f1), (se, .inr (5, [.ref sea, .ref sef, .int (nI (bS (bh co ge gi pa) s (i + 1))), .int (nI (bS (bh co ge gi pa) s i)), .int (nI (bS (bh co ge gi pa) s (i + 1))), .int (nI i)])), (sef, aI G 40000 f2), (d, .inr (0, [.ref a0, .ref a1, .ref a2, .ref a3])), (a0, aI G 4 co), (a1, aI G 4 ge), (a2, aI G 4 gi), (a3, aI G 4 pa)]) rfl ?_
              cases hb13 : fD (bh co ge gi pa) (co g9) (pa g9) g9 s i with
              | none =>
                refine v_top (oM_none rfl) ?_
                refine v_iconst (pc' := 60) (v := (-1)) F dX6_isSooner_59 (by decide) rfl ?_
                refine v_icmp_eq (tgt := 65) (pc' := 63) F dX6_isSooner_60 (by decide) rfl (fun c14 => ?_) (fun c14 => ?_)
                · refine v_aload_n (pc' := 66) F dX6_isSooner_65 rfl 1 rfl rfl ?_
                  refine v_aload_n (pc' := 67) F dX6_isSooner_66 rfl 2 rfl rfl ?_
                  refine v_iload_n (pc' := 68) F dX6_isSooner_67 rfl 4 rfl rfl ?_
                  refine v_iload (pc' := 70) F dX6_isSooner_68 5 rfl rfl ?_
                  refine cVI (pc' := 73) (As := [.ref d, .int (nI g9), .int (nI o9)]) (rest := []) (wr := [(sea, aI G 8192 f1)]) F (c_X6_firstToBuy se sea sef (bS (bh co ge gi pa) s (i + 1)) (bS (bh co ge gi pa) s i) (bS (bh co ge gi pa) s (i + 1)) i f2 (qS (bh co ge gi pa) s (bS (bh co ge gi pa) s i)) (show SM _ _ _ by assumption).2.2 (hqi _) (Nat.le_refl _) (hbl _) (by omega) (by rcases Nat.eq_zero_or_pos i with q | q; subst q; exact Or.inl ⟨rfl, rfl, Nat.le_refl 1⟩; exact Or.inr ⟨q, bS_pos q⟩) d a0 a1 a2 a3 co ge gi pa hw g9 o9 (by omega) (by omega)) (cwV 3 F.2.2.2.2.1 gX6_isSooner_X6_firstToBuy rfl rfl rfl (by decide +kernel) ⟨Nat.le_of_ble_eq_true rfl, Nat.le_of_ble_eq_true rfl⟩) (v_rcvW F 5 1 rfl rfl) rfl rfl (Nat.le_of_ble_eq_true rfl) dX6_isSooner_70 [1, 2, 3, 4, 5, 6, 7] [0] (by decide) rfl rfl (by decide) (by decide) ⟨Nat.zero_le _, Nat.zero_le _⟩ rfl (fun r u q15 => ?_)
                  obtain rfl := q15
                  refine v_top (y := oM (fD (bh co ge gi pa) o9 (pa g9) g9 s i)) rfl ?_
                  refine v_ws (wz := [(sea, aI G 8192 f1), (se, .inr (5, [.ref sea, .ref sef, .int (nI (bS (bh co ge gi pa) s (i + 1))), .int (nI (bS (bh co ge gi pa) s i)), .int (nI (bS (bh co ge gi pa) s (i + 1))), .int (nI i)])), (sef, aI G 40000 f2), (d, .inr (0, [.ref a0, .ref a1, .ref a2, .ref a3])), (a0, aI G 4 co), (a1, aI G 4 ge), (a2, aI G 4 gi), (a3, aI G 4 pa)]) rfl ?_
                  cases hb17 : fD (bh co ge gi pa) o9 (pa g9) g9 s i with
                  | none =>
                    refine v_top (oM_none rfl) ?_
                    refine v_iconst (pc' := 74) (v := (-1)) F dX6_isSooner_73 (by decide) rfl ?_
                    refine v_icmp_eq (tgt := 79) (pc' := 77) F dX6_isSooner_74 (by decide) rfl (fun c18 => ?_) (fun c18 => ?_)
                    · refine v_aload_n (pc' := 80) F dX6_isSooner_79 rfl 1 rfl rfl ?_
                      refine v_aload_n (pc' := 81) F dX6_isSooner_80 rfl 2 rfl rfl ?_
                      refine v_ws (wz := [(sea, aI G 8192 f1), (se, .inr (5, [.ref sea, .ref sef, .int (nI ((qS (bh co ge gi pa) s (bS (bh co ge gi pa) s i)).length)), .int (nI (bS (bh co ge gi pa) s i)), .int (nI ((qS (bh co ge gi pa) s (bS (bh co ge gi pa) s i)).length)), .int (nI i)])), (sef, aI G 40000 f2), (d, .inr (0, [.ref a0, .ref a1, .ref a2, .ref a3])), (a0, aI G 4 co), (a1, aI G 4 ge), (a2, aI G 4 gi), (a3, aI G 4 pa)]) rfl ?_
                      refine cVV (pc' := 84) (As := [.ref d]) (rest := []) (wr := []) F (c_X6_deepen se sea sef (bS (bh co ge gi pa) s i) i f1 f2 s hs9 d a0 a1 a2 a3 co ge gi pa hw (by assumption) (hb4 _) (by omega) (by rcases Nat.eq_zero_or_pos i with q | q; subst q; exact Or.inl ⟨rfl, rfl⟩; exact Or.inr ⟨q, bS_pos q⟩) (hbl _)) (cwV 1 F.2.2.2.2.1 gX6_isSooner_X6_deepen rfl rfl rfl (by decide +kernel) ⟨Nat.le_of_ble_eq_true rfl, Nat.le_of_ble_eq_true rfl⟩) (v_rcvW F 5 1 rfl rfl) rfl rfl (Nat.le_of_ble_eq_true rfl) dX6_isSooner_81 [1, 0, 2, 3, 4, 5, 6, 7] [] (by decide) rfl rfl (by decide) (by decide) ⟨Nat.zero_le _, Nat.zero_le _⟩ rfl (fun u q22 => ?_)
                      obtain ⟨sn_19, fd_20⟩ := u
                      have hM_21 := q22
                      refine v_ws (wz := [(se, .inr (5, [.ref sea, .ref sef, .int (nI ((qS (bh co ge gi pa) s (qS (bh co ge gi pa) s (bS (bh co ge gi pa) s i)).length).length)), .int (nI ((qS (bh co ge gi pa) s (bS (bh co ge gi pa) s i)).length)), .int (nI ((qS (bh co ge gi pa) s (qS (bh co ge gi pa) s (bS (bh co ge gi pa) s i)).length).length)), .int (nI (i + 1))])), (sea, aI G 8192 sn_19), (sef, aI G 40000 fd_20), (d, .inr (0, [.ref a0, .ref a1, .ref a2, .ref a3])), (a0, aI G 4 co), (a1, aI G 4 ge), (a2, aI G 4 gi), (a3, aI G 4 pa)]) rfl ?_
                      refine v_ws (wz := [(se, .inr (5, [.ref sea, .ref sef, .int (nI (bS (bh co ge gi pa) s ((i + 1) + 1))), .int (nI (bS (bh co ge gi pa) s (i + 1))), .int (nI (bS (bh co ge gi pa) s ((i + 1) + 1))), .int (nI (i + 1))])), (sea, aI G 8192 sn_19), (sef, aI G 40000 fd_20), (d, .inr (0, [.ref a0, .ref a1, .ref a2, .ref a3])), (a0, aI G 4 co), (a1, aI G 4 ge), (a2, aI G 4 gi), (a3, aI G 4 pa)]) rfl ?_
                      refine v_iinc (pc' := 87) (v := nI (i + 1)) (lv' := [(5, .int (nI (i + 1))), (0, .ref se), (1, .ref d), (2, .int (nI (eS s))), (3, .int (nI g9)), (4, .int (nI o9))]) F dX6_isSooner_84 0 rfl (nI_add _ _) (by decide) rfl rfl ?_
                      refine v_goto (tgt := 29) F dX6_isSooner_87 (by decide) ?_
                      refine v_perm (wz := [(d, .inr (0, [.ref a0, .ref a1, .ref a2, .ref a3])), (a0, aI G 4 co), (a1, aI G 4 ge), (a2, aI G 4 gi), (a3, aI G 4 pa), (se, .inr (5, [.ref sea, .ref sef, .int (nI (bS (bh co ge gi pa) s ((i + 1) + 1))), .int (nI (bS (bh co ge gi pa) s (i + 1))), .int (nI (bS (bh co ge gi pa) s ((i + 1) + 1))), .int (nI (i + 1))])), (sea, aI G 8192 sn_19), (sef, aI G 40000 fd_20)]) [3, 4, 5, 6, 7, 0, 1, 2] (by decide) rfl ?_
                      exact ih29 (i + 1) sn_19 fd_20 (by omega) (hM_21) (snR_c hsn (by omega) (by omega) hb13 hb17) (by omega)
                    · exact absurd rfl c18
                  | some x16 =>
                    refine v_top (oM_some rfl) ?_
                    have hx24 := fl_lt (hqi _) hb17
                    refine v_iconst (pc' := 74) (v := (-1)) F dX6_isSooner_73 (by decide) rfl ?_
                    refine v_icmp_eq (tgt := 79) (pc' := 77) F dX6_isSooner_74 (by decide) rfl (fun c23 => ?_) (fun c23 => ?_)
                    · exact absurd c23 (ni_m1 (by omega))
                    · refine v_iconst (pc' := 78) (v := nI 1) F dX6_isSooner_77 (by decide) rfl ?_
                      refine v_perm (wz := [(se, .inr (5, [.ref sea, .ref sef, .int (nI (bS (bh co ge gi pa) s (i + 1))), .int (nI (bS (bh co ge gi pa) s i)), .int (nI (bS (bh co ge gi pa) s (i + 1))), .int (nI i)])), (sea, aI G 8192 f1), (sef, aI G 40000 f2), (d, .inr (0, [.ref a0, .ref a1, .ref a2, .ref a3])), (a0, aI G 4 co), (a1, aI G 4 ge), (a2, aI G 4 gi), (a3, aI G 4 pa)]) [1, 0, 2, 3, 4, 5, 6, 7] (by decide) rfl ?_
                      exact rt rfl dX6_isSooner_78 ((bS (bh co ge gi pa) s (i + 1)), (bS (bh co ge gi pa) s i), (bS (bh co ge gi pa) s (i + 1)), i, f1, f2) (nI1_b ⟨by assumption, by assumption, snR_b hsn (by omega) (by omega) hb13 hb17⟩) rfl
                · exact absurd rfl c14
              | some x12 =>
                refine v_top (oM_some rfl) ?_
                have hx24 := fl_lt (hqi _) hb13
                refine v_iconst (pc' := 60) (v := (-1)) F dX6_isSooner_59 (by decide) rfl ?_
                refine v_icmp_eq (tgt := 65) (pc' := 63) F dX6_isSooner_60 (by decide) rfl (fun c24 => ?_) (fun c24 => ?_)
                · exact absurd c24 (ni_m1 (by omega))
                · refine v_iconst (pc' := 64) (v := nI 0) F dX6_isSooner_63 (by decide) rfl ?_
                  refine v_perm (wz := [(se, .inr (5, [.ref sea, .ref sef, .int (nI (bS (bh co ge gi pa) s (i + 1))), .int (nI (bS (bh co ge gi pa) s i)), .int (nI (bS (bh co ge gi pa) s (i + 1))), .int (nI i)])), (sea, aI G 8192 f1), (sef, aI G 40000 f2), (d, .inr (0, [.ref a0, .ref a1, .ref a2, .ref a3])), (a0, aI G 4 co), (a1, aI G 4 ge), (a2, aI G 4 gi), (a3, aI G 4 pa)]) [1, 0, 2, 3, 4, 5, 6, 7] (by decide) rfl ?_
                  exact rt rfl dX6_isSooner_64 ((bS (bh co ge gi pa) s (i + 1)), (bS (bh co ge gi pa) s i), (bS (bh co ge gi pa) s (i + 1)), i, f1, f2) (nI0_b (fun q => by have hq := snR_a hsn (by omega) hb13; rw [hq] at q; exact absurd q.2.2 (by decide))) rfl
      exact L29 (40000 + 1) 0 sn2_4 fd2_5 (by omega) (by assumption) (rfl) (by omega)
    · refine v_iconst (pc' := 20) (v := nI 0) F dX6_isSooner_19 (by decide) rfl ?_
      exact rt rfl dX6_isSooner_20 (fc, ls, le, dp, sn, fd) (nI0_b (fun q => by first | exact absurd q.2.1 (Decidable.not_not.mpr (by assumption)) | exact absurd (by assumption) q.2.1 | exact absurd q.1 (by omega))) rfl
def rm_X6_mostCoins : Room := { frames := 4, cells := 0, slots := 0, locals := 97 }
theorem in_X6_mostCoins_X6 : ∀ w ∈ u_ws RX6 TX6 6, w ∈ wsX6_mostCoins := fun w h => List.mem_cons_of_mem _ (List.mem_append_left _ (List.mem_append_right _ (h)))
set_option maxHeartbeats 4000000 in
set_option maxRecDepth 100000 in
theorem c_X6_mostCoins {l : Launch} {D : va_G} {G : gT} (se sea sef fc ls le dp : Nat) (sn fd : Nat → Nat) (s : Nat) (hs9 : s < 40000) (d a0 a1 a2 a3 : Nat) (co ge gi pa : Nat → Nat) (hw : WD co ge gi pa) (a9 : Nat) (ha : a9 ≤ 8) : CtI (σ := Nat × Nat × Nat × Nat × (Nat → Nat) × (Nat → Nat)) l yX6_mostCoins wsX6_mostCoins rm_X6_mostCoins D G [.ref se, .ref d, .int (nI (eS s)), .int (nI a9)] [(se, .inr (5, [.ref sea, .ref sef, .int (nI fc), .int (nI ls), .int (nI le), .int (nI dp)])), (sea, aI G 8192 sn), (sef, aI G 40000 fd), (d, .inr (0, [.ref a0, .ref a1, .ref a2, .ref a3])), (a0, aI G 4 co), (a1, aI G 4 ge), (a2, aI G 4 gi), (a3, aI G 4 pa)] (fun r u => r = nI (mxD (qS (bh co ge gi pa) s (bS (bh co ge gi pa) s a9)) (bS (bh co ge gi pa) s (a9 + 1)))) (fun u => [(se, .inr (5, [.ref sea, .ref sef, .int (nI (u.1)), .int (nI (u.2.1)), .int (nI (u.2.2.1)), .int (nI (u.2.2.2.1))])), (sea, aI G 8192 (u.2.2.2.2.1)), (sef, aI G 40000 (u.2.2.2.2.2)), (d, .inr (0, [.ref a0, .ref a1, .ref a2, .ref a3])), (a0, aI G 4 co), (a1, aI G 4 ge), (a2, aI G 4 gi), (a3, aI G 4 pa)]) := by
  have hGB : GB (bh co ge gi pa) := GB_d hw
  have hqi := fun m => qS_QI hGB hs9 m
  have hb4 := fun d => bS_40 hGB hs9 d
  have hbl := fun d => bS_le (B := (bh co ge gi pa)) (s := s) d
  refine openI (maxL := 6) (by decide) rfl (Nat.le_of_ble_eq_true rfl) ?_
  intro pgZ evZ sgZ mmZ agsZ blZ meZ cdZ AZ QZ F hmn rt
  refine v_lv (lz := [(0, .ref se), (1, .ref d), (2, .int (nI (eS s))), (3, .int (nI a9))]) rfl ?_
  refine v_aload_n (pc' := 1) F dX6_mostCoins_0 rfl 0 rfl rfl ?_
  refine v_iload_n (pc' := 2) F dX6_mostCoins_1 rfl 2 rfl rfl ?_
  refine cVV (pc' := 5) (As := [.int (nI (eS s))]) (rest := []) (wr := [(d, .inr (0, [.ref a0, .ref a1, .ref a2, .ref a3])), (a0, aI G 4 co), (a1, aI G 4 ge), (a2, aI G 4 gi), (a3, aI G 4 pa)]) F (c_X6_begin se sea sef fc ls le dp sn fd s (by omega)) (cwV 1 F.2.2.2.2.1 gX6_mostCoins_X6_begin rfl rfl rfl (by decide +kernel) ⟨Nat.le_of_ble_eq_true rfl, Nat.le_of_ble_eq_true rfl⟩) (v_rcvW F 5 0 rfl rfl) rfl rfl (Nat.le_of_ble_eq_true rfl) dX6_mostCoins_2 [0, 1, 2] [3, 4, 5, 6, 7] (by decide) rfl rfl (by decide) (by decide) ⟨Nat.zero_le _, Nat.zero_le _⟩ rfl (fun u q4 => ?_)
  obtain ⟨sn2_1, fd2_2⟩ := u
  have hM_3 := q4
  refine v_ws (wz := [(d, .inr (0, [.ref a0, .ref a1, .ref a2, .ref a3])), (a0, aI G 4 co), (a1, aI G 4 ge), (a2, aI G 4 gi), (a3, aI G 4 pa), (se, .inr (5, [.ref sea, .ref sef, .int (nI 1), .int (nI 0), .int (nI 1), .int (nI 0)])), (sea, aI G 8192 sn2_1), (sef, aI G 40000 fd2_2)]) rfl ?_
  refine v_iconst (pc' := 6) (v := nI 0) F dX6_mostCoins_5 (by decide) rfl ?_
  refine v_istore (pc' := 8) (lv' := [(4, .int (nI 0)), (0, .ref se), (1, .ref d), (2, .int (nI (eS s))), (3, .int (nI a9))]) F dX6_mostCoins_6 (by decide) rfl rfl ?_
  refine v_ws (wz := [(d, .inr (0, [.ref a0, .ref a1, .ref a2, .ref a3])), (a0, aI G 4 co), (a1, aI G 4 ge), (a2, aI G 4 gi), (a3, aI G 4 pa), (se, .inr (5, [.ref sea, .ref sef, .int (nI (bS (bh co ge gi pa) s (0 + 1))), .int (nI (bS (bh co ge gi pa) s 0)), .int (nI (bS (bh co ge gi pa) s (0 + 1))), .int (nI 0)])), (sea, aI G 8192 sn2_1), (sef, aI G 40000 fd2_2)]) rfl ?_
  have L8 : ∀ (fu : Nat) (i : Nat) (f1 : Nat → Nat) (f2 : Nat → Nat), (i ≤ a9) → (SM f1 f2 (qS (bh co ge gi pa) s (bS (bh co ge gi pa) s i))) → a9 < i + fu → V pgZ l evZ rm_X6_mostCoins sgZ mmZ agsZ blZ meZ cdZ 0 0 QZ D AZ 6 8 [(4, .int (nI i)), (0, .ref se), (1, .ref d), (2, .int (nI (eS s))), (3, .int (nI a9))] [] [(d, .inr (0, [.ref a0, .ref a1, .ref a2, .ref a3])), (a0, aI G 4 co), (a1, aI G 4 ge), (a2, aI G 4 gi), (a3, aI G 4 pa), (se, .inr (5, [.ref sea, .ref sef, .int (nI (bS (bh co ge gi pa) s (i + 1))), .int (nI (bS (bh co ge gi pa) s i)), .int (nI (bS (bh co ge gi pa) s (i + 1))), .int (nI i)])), (sea, aI G 8192 f1), (sef, aI G 40000 f2)] := by
    intro fu
    induction fu with
    | zero => intro i f1 f2 hi hM hfu; exact absurd hfu (by omega)
    | succ fu ih8 =>
      intro i f1 f2 hi hM hfu
      refine v_iload (pc' := 10) F dX6_mostCoins_8 0 rfl rfl ?_
      refine v_iload_n (pc' := 11) F dX6_mostCoins_10 rfl 4 rfl rfl ?_
      refine v_ncmp_ge (tgt := 25) (pc' := 14) F dX6_mostCoins_11 (by omega) (by omega) (by decide) rfl (fun c6 => ?_) (fun c6 => ?_)
      · refine v_iconst (pc' := 26) (v := nI 0) F dX6_mostCoins_25 (by decide) rfl ?_
        refine v_istore (pc' := 28) (lv' := [(4, .int (nI 0)), (0, .ref se), (1, .ref d), (2, .int (nI (eS s))), (3, .int (nI a9))]) F dX6_mostCoins_26 (by decide) rfl rfl ?_
        refine v_iconst (pc' := 29) (v := nI 0) F dX6_mostCoins_28 (by decide) rfl ?_
        refine v_istore (pc' := 31) (lv' := [(5, .int (nI 0)), (4, .int (nI 0)), (0, .ref se), (1, .ref d), (2, .int (nI (eS s))), (3, .int (nI a9))]) F dX6_mostCoins_29 (by decide) rfl rfl ?_
        have L31 : ∀ (fu : Nat) (j : Nat) (mx : Nat), (j ≤ (bS (bh co ge gi pa) s (i + 1))) → (mx = mxD (qS (bh co ge gi pa) s (bS (bh co ge gi pa) s i)) j) → (bS (bh co ge gi pa) s (i + 1)) < j + fu → V pgZ l evZ rm_X6_mostCoins sgZ mmZ agsZ blZ meZ cdZ 0 0 QZ D AZ 6 31 [(5, .int (nI j)), (4, .int (nI mx)), (0, .ref se), (1, .ref d), (2, .int (nI (eS s))), (3, .int (nI a9))] [] [(d, .inr (0, [.ref a0, .ref a1, .ref a2, .ref a3])), (a0, aI G 4 co), (a1, aI G 4 ge), (a2, aI G 4 gi), (a3, aI G 4 pa), (se, .inr (5, [.ref sea, .ref sef, .int (nI (bS (bh co ge gi pa) s (i + 1))), .int (nI (bS (bh co ge gi pa) s i)), .int (nI (bS (bh co ge gi pa) s (i + 1))), .int (nI i)])), (sea, aI G 8192 f1), (sef, aI G 40000 f2)] := by
          intro fu
          induction fu with
          | zero => intro j mx hj hmx hfu; exact absurd hfu (by omega)
          | succ fu ih31 =>
            intro j mx hj hmx hfu
            have hb2 := hb4 (i + 1)
            have hmt := mxD_lt (qS (bh co ge gi pa) s (bS (bh co ge gi pa) s i)) j
            refine v_iload (pc' := 33) F dX6_mostCoins_31 0 rfl rfl ?_
            refine v_aload_n (pc' := 34) F dX6_mostCoins_33 rfl 2 rfl rfl ?_
            refine v_get (pc' := 37) (C := RX6) (T := TX6) (N := 6) F dX6_mostCoins_34 in_X6_mostCoins_X6 5 rfl rfl 2 (by decide) (List.mem_of_getElem? (i := 1) rfl) rfl rfl ?_
            refine v_ncmp_ge (tgt := 63) (pc' := 40) F dX6_mostCoins_37 (by omega) (by omega) (by decide) rfl (fun c8 => ?_) (fun c8 => ?_)
            · refine v_iload (pc' := 65) F dX6_mostCoins_63 1 rfl rfl ?_
              refine v_perm (wz := [(se, .inr (5, [.ref sea, .ref sef, .int (nI (bS (bh co ge gi pa) s (i + 1))), .int (nI (bS (bh co ge gi pa) s i)), .int (nI (bS (bh co ge gi pa) s (i + 1))), .int (nI i)])), (sea, aI G 8192 f1), (sef, aI G 40000 f2), (d, .inr (0, [.ref a0, .ref a1, .ref a2, .ref a3])), (a0, aI G 4 co), (a1, aI G 4 ge), (a2, aI G 4 gi), (a3, aI G 4 pa)]) [5, 6, 7, 0, 1, 2, 3, 4] (by decide) rfl ?_
              exact rt dX6_mostCoins_65 ((bS (bh co ge gi pa) s (i + 1)), (bS (bh co ge gi pa) s i), (bS (bh co ge gi pa) s (i + 1)), i, f1, f2) (by rw [hmx, show i = a9 by omega, show j = (bS (bh co ge gi pa) s (a9 + 1)) by rw [show a9 = i by omega]; omega]) rfl
            · obtain ⟨n9, f9, hat⟩ := at_lt (show j < (qS (bh co ge gi pa) s (bS (bh co ge gi pa) s i)).length from by show j < (bS (bh co ge gi pa) s (i + 1)); omega)
              obtain ⟨hn9, hf24⟩ := QI_at (hqi _) hat
              have hfd9 := hM.2.2 j n9 f9 hat
              have hs18 := eS_lt hn9
              have hdt := dT_lt n9
              refine v_iload (pc' := 42) F dX6_mostCoins_40 1 rfl rfl ?_
              refine v_aload_n (pc' := 43) F dX6_mostCoins_42 rfl 2 rfl rfl ?_
              refine v_get (pc' := 46) (C := RX6) (T := TX6) (N := 6) F dX6_mostCoins_43 in_X6_mostCoins_X6 5 rfl rfl 1 (by decide) (List.mem_of_getElem? (i := 2) rfl) rfl rfl ?_
              refine v_iload (pc' := 48) F dX6_mostCoins_46 0 rfl rfl ?_
              refine v_iald (pc' := 49) (z := f2 j) F dX6_mostCoins_48 7 rfl (by omega) (by first | decide | omega) rfl rfl ?_
              refine v_top (y := nI (eS n9 + f9 * 262144)) (congrArg nI hfd9) ?_
              refine cSI0 (pc' := 52) (As := [.int (nI (eS n9 + f9 * 262144))]) (rest := [.int (nI mx)]) F (c_X7_coinsTogetherF n9 f9 (by omega) (by omega)) (va_cwS 1 F.2.2.2.2.1 gX6_mostCoins_X7_coinsTogether rfl rfl rfl (by decide +kernel) ⟨Nat.le_of_ble_eq_true rfl, Nat.le_of_ble_eq_true rfl⟩) rfl rfl (Nat.le_of_ble_eq_true rfl) dX6_mostCoins_49 ⟨Nat.zero_le _, Nat.zero_le _⟩ rfl (fun r u q9 => ?_)
              obtain rfl := q9
              refine v_max (pc' := 55) (z := nI (max mx (dT n9))) F dX6_mostCoins_52 (List.mem_of_getElem? (i := 3) rfl) (List.mem_of_getElem? (i := 4) rfl) (List.mem_of_getElem? (i := 5) rfl) (List.mem_of_getElem? (i := 6) rfl) (by decide) (by decide) (by decide) (by decide) (ni_max (by omega) (by omega)) rfl ?_
              refine v_istore (pc' := 57) (lv' := [(4, .int (nI (max mx (dT n9)))), (5, .int (nI j)), (0, .ref se), (1, .ref d), (2, .int (nI (eS s))), (3, .int (nI a9))]) F dX6_mostCoins_55 (by decide) rfl rfl ?_
              refine v_iinc (pc' := 60) (v := nI (j + 1)) (lv' := [(5, .int (nI (j + 1))), (4, .int (nI (max mx (dT n9)))), (0, .ref se), (1, .ref d), (2, .int (nI (eS s))), (3, .int (nI a9))]) F dX6_mostCoins_57 1 rfl (nI_add _ _) (by decide) rfl rfl ?_
              refine v_goto (tgt := 31) F dX6_mostCoins_60 (by decide) ?_
              exact ih31 (j + 1) (max mx (dT n9)) (by omega) (by rw [mxD_s hat, hmx]) (by omega)
        exact L31 ((bS (bh co ge gi pa) s (i + 1)) + 1) 0 0 (by omega) (rfl) (by omega)
      · refine v_aload_n (pc' := 15) F dX6_mostCoins_14 rfl 1 rfl rfl ?_
        refine v_aload_n (pc' := 16) F dX6_mostCoins_15 rfl 2 rfl rfl ?_
        refine v_ws (wz := [(d, .inr (0, [.ref a0, .ref a1, .ref a2, .ref a3])), (a0, aI G 4 co), (a1, aI G 4 ge), (a2, aI G 4 gi), (a3, aI G 4 pa), (se, .inr (5, [.ref sea, .ref sef, .int (nI ((qS (bh co ge gi pa) s (bS (bh co ge gi pa) s i)).length)), .int (nI (bS (bh co ge gi pa) s i)), .int (nI ((qS (bh co ge gi pa) s (bS (bh co ge gi pa) s i)).length)), .int (nI i)])), (sea, aI G 8192 f1), (sef, aI G 40000 f2)]) rfl ?_
        refine cVV (pc' := 19) (As := [.ref d]) (rest := []) (wr := []) F (c_X6_deepen se sea sef (bS (bh co ge gi pa) s i) i f1 f2 s hs9 d a0 a1 a2 a3 co ge gi pa hw (by assumption) (hb4 _) (by omega) (by rcases Nat.eq_zero_or_pos i with q | q; subst q; exact Or.inl ⟨rfl, rfl⟩; exact Or.inr ⟨q, bS_pos q⟩) (hbl _)) (cwV 1 F.2.2.2.2.1 gX6_mostCoins_X6_deepen rfl rfl rfl (by decide +kernel) ⟨Nat.le_of_ble_eq_true rfl, Nat.le_of_ble_eq_true rfl⟩) (v_rcvW F 5 5 rfl rfl) rfl rfl (Nat.le_of_ble_eq_true rfl) dX6_mostCoins_16 [5, 6, 7, 0, 1, 2, 3, 4] [] (by decide) rfl rfl (by decide) (by decide) ⟨Nat.zero_le _, Nat.zero_le _⟩ rfl (fun u q13 => ?_)
        obtain ⟨sn_10, fd_11⟩ := u
        have hM_12 := q13
        refine v_ws (wz := [(se, .inr (5, [.ref sea, .ref sef, .int (nI ((qS (bh co ge gi pa) s (qS (bh co ge gi pa) s (bS (bh co ge gi pa) s i)).length).length)), .int (nI ((qS (bh co ge gi pa) s (bS (bh co ge gi pa) s i)).length)), .int (nI ((qS (bh co ge gi pa) s (qS (bh co ge gi pa) s (bS (bh co ge gi pa) s i)).length).length)), .int (nI (i + 1))])), (sea, aI G 8192 sn_10), (sef, aI G 40000 fd_11), (d, .inr (0, [.ref a0, .ref a1, .ref a2, .ref a3])), (a0, aI G 4 co), (a1, aI G 4 ge), (a2, aI G 4 gi), (a3, aI G 4 pa)]) rfl ?_
        refine v_ws (wz := [(se, .inr (5, [.ref sea, .ref sef, .int (nI (bS (bh co ge gi pa) s ((i + 1) + 1))), .int (nI (bS (bh co ge gi pa) s (i + 1))), .int (nI (bS (bh co ge gi pa) s ((i + 1) + 1))), .int (nI (i + 1))])), (sea, aI G 8192 sn_10), (sef, aI G 40000 fd_11), (d, .inr (0, [.ref a0, .ref a1, .ref a2, .ref a3])), (a0, aI G 4 co), (a1, aI G 4 ge), (a2, aI G 4 gi), (a3, aI G 4 pa)]) rfl ?_
        refine v_iinc (pc' := 22) (v := nI (i + 1)) (lv' := [(4, .int (nI (i + 1))), (0, .ref se), (1, .ref d), (2, .int (nI (eS s))), (3, .int (nI a9))]) F dX6_mostCoins_19 0 rfl (nI_add _ _) (by decide) rfl rfl ?_
        refine v_goto (tgt := 8) F dX6_mostCoins_22 (by decide) ?_
        refine v_perm (wz := [(d, .inr (0, [.ref a0, .ref a1, .ref a2, .ref a3])), (a0, aI G 4 co), (a1, aI G 4 ge), (a2, aI G 4 gi), (a3, aI G 4 pa), (se, .inr (5, [.ref sea, .ref sef, .int (nI (bS (bh co ge gi pa) s ((i + 1) + 1))), .int (nI (bS (bh co ge gi pa) s (i + 1))), .int (nI (bS (bh co ge gi pa) s ((i + 1) + 1))), .int (nI (i + 1))])), (sea, aI G 8192 sn_10), (sef, aI G 40000 fd_11)]) [3, 4, 5, 6, 7, 0, 1, 2] (by decide) rfl ?_
        exact ih8 (i + 1) sn_10 fd_11 (by omega) (hM_12) (by omega)
  exact L8 (a9 + 1) 0 sn2_1 fd2_2 (by omega) (by assumption) (by omega)
