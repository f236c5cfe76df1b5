def rm_J7_fill_53178 : Room := { frames := 0, cells := 0, slots := 0, locals := 0 }
set_option maxHeartbeats 4000000 in
set_option maxRecDepth 100000 in
theorem c_J7_fill_53178 {l : Launch} {D : va_G} {G : gT} (a nn v : Nat) (f : Nat → Nat) (hn : nn < 2 ^ 31) : CtV (σ := Unit) l yJ7_fill_53178 wsJ7_fill_53178 rm_J7_fill_53178 D G [.ref a, .int (nI v)] [(a, aI G nn f)] (fun _ => True) (fun _ => [(a, aI G nn (cpy (fun _ => v) f nn))]) := by
  refine openV (maxL := 4) (by decide) rfl (Nat.le_of_ble_eq_true rfl) ?_
  intro pgZ evZ sgZ mmZ agsZ blZ meZ cdZ AZ QZ F hmn rt
  refine v_lv (lz := [(0, .ref a), (1, .int (nI v))]) rfl ?_
  refine v_iconst (pc' := 1) (v := nI 0) F dJ7_fill_53178_0 (by decide) rfl ?_
  refine v_istore_n (pc' := 2) (lv' := [(2, .int (nI 0)), (0, .ref a), (1, .int (nI v))]) F dJ7_fill_53178_1 rfl (by decide) rfl rfl ?_
  refine v_aload_n (pc' := 3) F dJ7_fill_53178_2 rfl 1 rfl rfl ?_
  refine v_ilen (pc' := 4) F dJ7_fill_53178_3 0 rfl rfl ?_
  refine v_istore_n (pc' := 5) (lv' := [(3, .int (nI nn)), (2, .int (nI 0)), (0, .ref a), (1, .int (nI v))]) F dJ7_fill_53178_4 rfl (by decide) rfl rfl ?_
  have L5 : ∀ (fu : Nat) (j : Nat) (f2 : Nat → Nat), (j ≤ nn) → (f2 = cpy (fun _ => v) f j) → nn < j + fu → V pgZ l evZ rm_J7_fill_53178 sgZ mmZ agsZ blZ meZ cdZ 0 0 QZ D AZ 4 5 [(3, .int (nI nn)), (2, .int (nI j)), (0, .ref a), (1, .int (nI v))] [] [(a, aI G nn f2)] := by
    intro fu
    induction fu with
    | zero => intro j f2 hj hf hfu; exact absurd hfu (by omega)
    | succ fu ih5 =>
      intro j f2 hj hf hfu
      subst hf
      refine v_iload_n (pc' := 6) F dJ7_fill_53178_5 rfl 1 rfl rfl ?_
      refine v_iload_n (pc' := 7) F dJ7_fill_53178_6 rfl 0 rfl rfl ?_
      refine v_ncmp_ge (tgt := 20) (pc' := 10) F dJ7_fill_53178_7 (by omega) (by omega) (by decide) rfl (fun c2 => ?_) (fun c2 => ?_)
      · have hjn : j = nn := by omega
        subst hjn
        exact rt dJ7_fill_53178_20 () (by trivial) rfl
      · refine v_aload_n (pc' := 11) F dJ7_fill_53178_10 rfl 2 rfl rfl ?_
        refine v_iload_n (pc' := 12) F dJ7_fill_53178_11 rfl 1 rfl rfl ?_
        refine v_iload_n (pc' := 13) F dJ7_fill_53178_12 rfl 3 rfl rfl ?_
        refine v_iast (pc' := 14) (ws' := [(a, aI G nn (va_up (cpy (fun _ => v) f j) j v))]) F dJ7_fill_53178_13 0 rfl (by omega) (by first | decide | omega) rfl rfl ?_
        refine v_iinc (pc' := 17) (v := nI (j + 1)) (lv' := [(2, .int (nI (j + 1))), (3, .int (nI nn)), (0, .ref a), (1, .int (nI v))]) F dJ7_fill_53178_14 1 rfl (nI_add _ _) (by decide) rfl rfl ?_
        refine v_goto (tgt := 5) F dJ7_fill_53178_17 (by decide) ?_
        refine v_lpick (lz := [(3, .int (nI nn)), (2, .int (nI (j + 1))), (0, .ref a), (1, .int (nI v))]) [1, 0, 2, 3] rfl ?_
        exact ih5 (j + 1) (va_up (cpy (fun _ => v) f j) j v) (by omega) (cpy_s (fun _ => v) f j) (by omega)
  exact L5 (nn + 1) 0 f (by omega) (cpy_0 (fun _ => v) f) (by omega)
def rm_X4_codeAt : Room := { frames := 0, cells := 0, slots := 0, locals := 0 }
set_option maxHeartbeats 4000000 in
set_option maxRecDepth 100000 in
theorem c_X4_codeAt {l : Launch} {D : va_G} {G : gT} (x9 k : Nat) (hx9 : x9 < 2 ^ 64) (hk : k < 8) : CtI (σ := Unit) l yX4_codeAt wsX4_codeAt rm_X4_codeAt D G [.long (lN x9), .int (nI k)] [] (fun r _ => r = nI (cd x9 k)) (fun _ => []) := by
  refine openI (maxL := 3) (by decide) rfl (Nat.le_of_ble_eq_true rfl) ?_
  intro pgZ evZ sgZ mmZ agsZ blZ meZ cdZ AZ QZ F hmn rt
  refine v_lv (lz := [(0, .long (lN x9)), (2, .int (nI k))]) rfl ?_
  refine v_lload_n (pc' := 1) F dX4_codeAt_0 rfl 0 rfl rfl ?_
  refine v_bipush (pc' := 3) (v := nI 8) F dX4_codeAt_1 (by decide) rfl ?_
  refine v_iload_n (pc' := 4) F dX4_codeAt_3 rfl 1 rfl rfl ?_
  refine v_imul (pc' := 5) (z := nI (8 * k)) F dX4_codeAt_4 (pk_mul _ _) rfl ?_
  refine v_lushr (pc' := 6) (z := ((lN x9).toUInt64 >>> ((nI (8 * k)).toInt64.toUInt64 &&& Int64.toUInt64 63)).toInt64) F dX4_codeAt_5 rfl rfl ?_
  refine v_ldc2 (pc' := 9) (v := lN 255) F dX4_codeAt_6 (List.mem_of_getElem? (i := 1) rfl) rfl ?_
  refine v_land (pc' := 10) (z := lN (cd x9 k)) F dX4_codeAt_9 (cd_ushr hx9 hk) rfl ?_
  refine v_l2i (pc' := 11) (z := nI (cd x9 k)) F dX4_codeAt_10 (lN_i _) rfl ?_
  exact rt dX4_codeAt_11 () rfl rfl
def rm_X4_lettersIn : Room := { frames := 1, cells := 0, slots := 0, locals := 22 }
set_option maxHeartbeats 4000000 in
set_option maxRecDepth 100000 in
theorem c_X4_lettersIn {l : Launch} {D : va_G} {G : gT} (x9 : Nat) (hx9 : x9 < 2 ^ 64) : CtI (σ := Unit) l yX4_lettersIn wsX4_lettersIn rm_X4_lettersIn D G [.long (lN x9)] [] (fun r _ => r = ltI (ltN x9 8)) (fun _ => []) := by
  refine openI (maxL := 6) (by decide) rfl (Nat.le_of_ble_eq_true rfl) ?_
  intro pgZ evZ sgZ mmZ agsZ blZ meZ cdZ AZ QZ F hmn rt
  refine v_lv (lz := [(0, .long (lN x9))]) rfl ?_
  refine v_iconst (pc' := 1) (v := nI 0) F dX4_lettersIn_0 (by decide) rfl ?_
  refine v_istore_n (pc' := 2) (lv' := [(2, .int (nI 0)), (0, .long (lN x9))]) F dX4_lettersIn_1 rfl (by decide) rfl rfl ?_
  refine v_iconst (pc' := 3) (v := nI 0) F dX4_lettersIn_2 (by decide) rfl ?_
  refine v_istore_n (pc' := 4) (lv' := [(3, .int (nI 0)), (2, .int (nI 0)), (0, .long (lN x9))]) F dX4_lettersIn_3 rfl (by decide) rfl rfl ?_
  have L4 : ∀ (fu : Nat) (j : Nat) (ct : Nat), (j ≤ 8) → (ltN x9 j = some ct) → 8 < j + fu → V pgZ l evZ rm_X4_lettersIn sgZ mmZ agsZ blZ meZ cdZ 0 0 QZ D AZ 6 4 [(3, .int (nI j)), (2, .int (nI ct)), (0, .long (lN x9))] [] [] := by
    intro fu
    induction fu with
    | zero => intro j ct hj hct hfu; exact absurd hfu (by omega)
    | succ fu ih4 =>
      intro j ct hj hct hfu
      have h8 := ltN_le hct
      have h7 := cd_lt x9 j
      refine v_iload_n (pc' := 5) F dX4_lettersIn_4 rfl 0 rfl rfl ?_
      refine v_bipush (pc' := 7) (v := nI 8) F dX4_lettersIn_5 (by decide) rfl ?_
      refine v_ncmp_ge (tgt := 63) (pc' := 10) F dX4_lettersIn_7 (by omega) (by omega) (by decide) rfl (fun c2 => ?_) (fun c2 => ?_)
      · refine v_iload_n (pc' := 64) F dX4_lettersIn_63 rfl 1 rfl rfl ?_
        exact rt dX4_lettersIn_64 () ((ltI_some (show ltN x9 8 = some ct by rw [show (8 : Nat) = j by omega]; exact hct)).symm) rfl
      · refine v_lload_n (pc' := 11) F dX4_lettersIn_10 rfl 2 rfl rfl ?_
        refine v_iload_n (pc' := 12) F dX4_lettersIn_11 rfl 0 rfl rfl ?_
        refine cSI0 (pc' := 15) (As := [.long (lN x9), .int (nI j)]) (rest := []) F (c_X4_codeAt x9 j hx9 (by omega)) (va_cwS 2 F.2.2.2.2.1 gX4_lettersIn_X4_codeAt rfl rfl rfl (by decide +kernel) ⟨Nat.le_of_ble_eq_true rfl, Nat.le_of_ble_eq_true rfl⟩) rfl rfl (Nat.le_of_ble_eq_true rfl) dX4_lettersIn_12 ⟨Nat.zero_le _, Nat.zero_le _⟩ rfl (fun r u q3 => ?_)
        obtain rfl := q3
        refine v_istore (pc' := 17) (lv' := [(4, .int (nI (cd x9 j))), (3, .int (nI j)), (2, .int (nI ct)), (0, .long (lN x9))]) F dX4_lettersIn_15 (by decide) rfl rfl ?_
        have J27_4 : V pgZ l evZ rm_X4_lettersIn sgZ mmZ agsZ blZ meZ cdZ 0 0 QZ D AZ 6 27 [(4, .int (nI (cd x9 j))), (3, .int (nI j)), (2, .int (nI ct)), (0, .long (lN x9))] [.int (bI (ct < j))] [] := by
          refine v_istore (pc' := 29) (lv' := [(5, .int (bI (ct < j))), (4, .int (nI (cd x9 j))), (3, .int (nI j)), (2, .int (nI ct)), (0, .long (lN x9))]) F dX4_lettersIn_27 (by decide) rfl rfl ?_
          refine v_iload (pc' := 31) F dX4_lettersIn_29 1 rfl rfl ?_
          refine v_bipush (pc' := 33) (v := nI 126) F dX4_lettersIn_31 (by decide) rfl ?_
          refine v_ncmp_gt (tgt := 46) (pc' := 36) F dX4_lettersIn_33 (by omega) (by omega) (by decide) rfl (fun c5 => ?_) (fun c5 => ?_)
          · refine v_bipush (pc' := 48) (v := (-102)) F dX4_lettersIn_46 (by decide) rfl ?_
            exact rt dX4_lettersIn_48 () ((ltI_none (ltN_end (ltN_no hct (by omega)) (by omega))).symm) rfl
          · refine v_iload (pc' := 38) F dX4_lettersIn_36 1 rfl rfl ?_
            refine v_nif_eq (tgt := 49) (pc' := 41) F dX4_lettersIn_38 (by omega) (by decide) rfl (fun c6 => ?_) (fun c6 => ?_)
            · refine v_iload (pc' := 51) F dX4_lettersIn_49 1 rfl rfl ?_
              refine v_nif_eq (tgt := 57) (pc' := 54) F dX4_lettersIn_51 (by omega) (by decide) rfl (fun c7 => ?_) (fun c7 => ?_)
              · refine v_iinc (pc' := 60) (v := nI (j + 1)) (lv' := [(3, .int (nI (j + 1))), (5, .int (bI (ct < j))), (4, .int (nI (cd x9 j))), (2, .int (nI ct)), (0, .long (lN x9))]) F dX4_lettersIn_57 2 rfl (nI_add _ _) (by decide) rfl rfl ?_
                refine v_goto (tgt := 4) F dX4_lettersIn_60 (by decide) ?_
                refine v_lpick (lz := [(3, .int (nI (j + 1))), (2, .int (nI ct)), (0, .long (lN x9))]) [0, 3, 4] rfl ?_
                exact ih4 (j + 1) ct (by omega) (by first | exact ltN_0 hct (by assumption) | exact ltN_1 hct (by omega) (by omega) (by omega)) (by omega)
              · refine v_iinc (pc' := 57) (v := nI (ct + 1)) (lv' := [(2, .int (nI (ct + 1))), (5, .int (bI (ct < j))), (4, .int (nI (cd x9 j))), (3, .int (nI j)), (0, .long (lN x9))]) F dX4_lettersIn_54 3 rfl (nI_add _ _) (by decide) rfl rfl ?_
                refine v_iinc (pc' := 60) (v := nI (j + 1)) (lv' := [(3, .int (nI (j + 1))), (2, .int (nI (ct + 1))), (5, .int (bI (ct < j))), (4, .int (nI (cd x9 j))), (0, .long (lN x9))]) F dX4_lettersIn_57 3 rfl (nI_add _ _) (by decide) rfl rfl ?_
                refine v_goto (tgt := 4) F dX4_lettersIn_60 (by decide) ?_
                refine v_lpick (lz := [(3, .int (nI (j + 1))), (2, .int (nI (ct + 1))), (0, .long (lN x9))]) [0, 1, 4] rfl ?_
                exact ih4 (j + 1) (ct + 1) (by omega) (by first | exact ltN_0 hct (by assumption) | exact ltN_1 hct (by omega) (by omega) (by omega)) (by omega)
            · refine v_iload (pc' := 43) F dX4_lettersIn_41 0 rfl rfl ?_
              refine v_bif_eq (tgt := 49) (pc' := 46) F dX4_lettersIn_43 (by decide) rfl (fun c8 => ?_) (fun c8 => ?_)
              · refine v_iload (pc' := 51) F dX4_lettersIn_49 1 rfl rfl ?_
                refine v_nif_eq (tgt := 57) (pc' := 54) F dX4_lettersIn_51 (by omega) (by decide) rfl (fun c9 => ?_) (fun c9 => ?_)
                · refine v_iinc (pc' := 60) (v := nI (j + 1)) (lv' := [(3, .int (nI (j + 1))), (5, .int (bI (ct < j))), (4, .int (nI (cd x9 j))), (2, .int (nI ct)), (0, .long (lN x9))]) F dX4_lettersIn_57 2 rfl (nI_add _ _) (by decide) rfl rfl ?_
                  refine v_goto (tgt := 4) F dX4_lettersIn_60 (by decide) ?_
                  refine v_lpick (lz := [(3, .int (nI (j + 1))), (2, .int (nI ct)), (0, .long (lN x9))]) [0, 3, 4] rfl ?_
                  exact ih4 (j + 1) ct (by omega) (by first | exact ltN_0 hct (by assumption) | exact ltN_1 hct (by omega) (by omega) (by omega)) (by omega)
                · refine v_iinc (pc' := 57) (v := nI (ct + 1)) (lv' := [(2, .int (nI (ct + 1))), (5, .int (bI (ct < j))), (4, .int (nI (cd x9 j))), (3, .int (nI j)), (0, .long (lN x9))]) F dX4_lettersIn_54 3 rfl (nI_add _ _) (by decide) rfl rfl ?_
                  refine v_iinc (pc' := 60) (v := nI (j + 1)) (lv' := [(3, .int (nI (j + 1))), (2, .int (nI (ct + 1))), (5, .int (bI (ct < j))), (4, .int (nI (cd x9 j))), (0, .long (lN x9))]) F dX4_lettersIn_57 3 rfl (nI_add _ _) (by decide) rfl rfl ?_
                  refine v_goto (tgt := 4) F dX4_lettersIn_60 (by decide) ?_
                  refine v_lpick (lz := [(3, .int (nI (j + 1))), (2, .int (nI (ct + 1))), (0, .long (lN x9))]) [0, 1, 4] rfl ?_
                  exact ih4 (j + 1) (ct + 1) (by omega) (by first | exact ltN_0 hct (by assumption) | exact ltN_1 hct (by omega) (by omega) (by omega)) (by omega)
              · refine v_bipush (pc' := 48) (v := (-102)) F dX4_lettersIn_46 (by decide) rfl ?_
                exact rt dX4_lettersIn_48 () ((ltI_none (ltN_end (ltN_no hct (by omega)) (by omega))).symm) rfl
        refine v_iload_n (pc' := 18) F dX4_lettersIn_17 rfl 2 rfl rfl ?_
        refine v_iload_n (pc' := 19) F dX4_lettersIn_18 rfl 1 rfl rfl ?_
        refine v_ncmp_ge (tgt := 26) (pc' := 22) F dX4_lettersIn_19 (by omega) (by omega) (by decide) rfl (fun c10 => ?_) (fun c10 => ?_)
        · refine v_iconst (pc' := 27) (v := nI 0) F dX4_lettersIn_26 (by decide) rfl ?_
          exact v_top (nI0_b (by first | assumption | omega)) J27_4
        · refine v_iconst (pc' := 23) (v := nI 1) F dX4_lettersIn_22 (by decide) rfl ?_
          refine v_goto (tgt := 27) F dX4_lettersIn_23 (by decide) ?_
          exact v_top (nI1_b (by first | assumption | omega)) J27_4
  exact L4 (8 + 1) 0 0 (by omega) (rfl) (by omega)
def rm_X4_add : Room := { frames := 2, cells := 0, slots := 0, locals := 47 }
theorem in_X4_add_X4 : ∀ w ∈ u_ws RX4 TX4 2, w ∈ wsX4_add := fun w h => List.mem_cons_of_mem _ (List.mem_append_right _ (h))
set_option maxHeartbeats 4000000 in
set_option maxRecDepth 100000 in
theorem c_X4_add {l : Launch} {D : va_G} {G : gT} (pgo : Nat) (pgc pl : Nat) (pg : Nat → Nat) (x9 : Nat) (hx9 : x9 < 2 ^ 64) (hpl : pl ≤ 32) : CtI (σ := (Nat × (Nat → Nat))) l yX4_add wsX4_add rm_X4_add D G [.ref pgo, .long (lN x9)] [(pgo, .inr (3, [.ref pgc, .int (nI pl)])), (pgc, aI G 32 pg)] (fun r u => r = A_letters pl x9 ∧ u = N_letters pg pl x9) (fun u => [(pgo, .inr (3, [.ref pgc, .int (nI u.1)])), (pgc, aI G 32 u.2)]) := by
  refine openI (maxL := 5) (by decide) rfl (Nat.le_of_ble_eq_true rfl) ?_
  intro pgZ evZ sgZ mmZ agsZ blZ meZ cdZ AZ QZ F hmn rt
  refine v_lv (lz := [(0, .ref pgo), (1, .long (lN x9))]) rfl ?_
  refine v_lload_n (pc' := 1) F dX4_add_0 rfl 1 rfl rfl ?_
  refine cSI0 (pc' := 4) (As := [.long (lN x9)]) (rest := []) F (c_X4_lettersIn x9 hx9) (va_cwS 1 F.2.2.2.2.1 gX4_add_X4_lettersIn rfl rfl rfl (by decide +kernel) ⟨Nat.le_of_ble_eq_true rfl, Nat.le_of_ble_eq_true rfl⟩) rfl rfl (Nat.le_of_ble_eq_true rfl) dX4_add_1 ⟨Nat.zero_le _, Nat.zero_le _⟩ rfl (fun r u q1 => ?_)
  obtain rfl := q1
  cases hb3 : ltN x9 8 with
  | none =>
    refine v_top (ltI_none rfl) ?_
    refine v_istore_n (pc' := 5) (lv' := [(3, .int (-102)), (0, .ref pgo), (1, .long (lN x9))]) F dX4_add_4 rfl (by decide) rfl rfl ?_
    refine v_iload_n (pc' := 6) F dX4_add_5 rfl 0 rfl rfl ?_
    refine v_bipush (pc' := 8) (v := (-102)) F dX4_add_6 (by decide) rfl ?_
    refine v_icmp_ne (tgt := 14) (pc' := 11) F dX4_add_8 (by decide) rfl (fun c4 => ?_) (fun c4 => ?_)
    · exact absurd rfl c4
    · refine v_bipush (pc' := 13) (v := (-102)) F dX4_add_11 (by decide) rfl ?_
      exact rt dX4_add_13 (pl, pg) (have hq := let_no (pg := pg) (pl := pl) hb3; ⟨hq.1.symm, hq.2.symm⟩) rfl
  | some k2 =>
    refine v_top (ltI_some rfl) ?_
    have hk8 := ltN_le hb3
    refine v_istore_n (pc' := 5) (lv' := [(3, .int (nI k2)), (0, .ref pgo), (1, .long (lN x9))]) F dX4_add_4 rfl (by decide) rfl rfl ?_
    refine v_iload_n (pc' := 6) F dX4_add_5 rfl 0 rfl rfl ?_
    refine v_bipush (pc' := 8) (v := (-102)) F dX4_add_6 (by decide) rfl ?_
    refine v_icmp_ne (tgt := 14) (pc' := 11) F dX4_add_8 (by decide) rfl (fun c5 => ?_) (fun c5 => ?_)
    · refine v_aload_n (pc' := 15) F dX4_add_14 rfl 1 rfl rfl ?_
      refine v_get (pc' := 18) (C := RX4) (T := TX4) (N := 2) F dX4_add_15 in_X4_add_X4 0 rfl rfl 1 (by decide) (List.mem_of_getElem? (i := 1) rfl) rfl rfl ?_
      refine v_iload_n (pc' := 19) F dX4_add_18 rfl 0 rfl rfl ?_
      refine v_iadd (pc' := 20) (z := nI (pl + k2)) F dX4_add_19 (nI_add _ _) rfl ?_
      refine v_aload_n (pc' := 21) F dX4_add_20 rfl 1 rfl rfl ?_
      refine v_get (pc' := 24) (C := RX4) (T := TX4) (N := 2) F dX4_add_21 in_X4_add_X4 0 rfl rfl 0 (by decide) (List.mem_of_getElem? (i := 2) rfl) rfl rfl ?_
      refine v_ilen (pc' := 25) F dX4_add_24 1 rfl rfl ?_
      refine v_ncmp_le (tgt := 31) (pc' := 28) F dX4_add_25 (by omega) (by omega) (by decide) rfl (fun c6 => ?_) (fun c6 => ?_)
      · refine v_iconst (pc' := 32) (v := nI 0) F dX4_add_31 (by decide) rfl ?_
        refine v_istore (pc' := 34) (lv' := [(4, .int (nI 0)), (3, .int (nI k2)), (0, .ref pgo), (1, .long (lN x9))]) F dX4_add_32 (by decide) rfl rfl ?_
        have L34 : ∀ (fu : Nat) (i : Nat) (f2 : Nat → Nat), (i ≤ k2) → (f2 = lay pg pl x9 i) → k2 < i + fu → V pgZ l evZ rm_X4_add sgZ mmZ agsZ blZ meZ cdZ 0 0 QZ D AZ 5 34 [(4, .int (nI i)), (3, .int (nI k2)), (0, .ref pgo), (1, .long (lN x9))] [] [(pgo, .inr (3, [.ref pgc, .int (nI pl)])), (pgc, aI G 32 f2)] := by
          intro fu
          induction fu with
          | zero => intro i f2 hi hf hfu; exact absurd hfu (by omega)
          | succ fu ih34 =>
            intro i f2 hi hf hfu
            subst hf
            refine v_iload (pc' := 36) F dX4_add_34 0 rfl rfl ?_
            refine v_iload_n (pc' := 37) F dX4_add_36 rfl 1 rfl rfl ?_
            refine v_ncmp_ge (tgt := 64) (pc' := 40) F dX4_add_37 (by omega) (by omega) (by decide) rfl (fun c8 => ?_) (fun c8 => ?_)
            · refine v_aload_n (pc' := 65) F dX4_add_64 rfl 2 rfl rfl ?_
              refine v_dup (pc' := 66) F dX4_add_65 rfl rfl ?_
              refine v_get (pc' := 69) (C := RX4) (T := TX4) (N := 2) F dX4_add_66 in_X4_add_X4 0 rfl rfl 1 (by decide) (List.mem_of_getElem? (i := 1) rfl) rfl rfl ?_
              refine v_iload_n (pc' := 70) F dX4_add_69 rfl 1 rfl rfl ?_
              refine v_iadd (pc' := 71) (z := nI (pl + k2)) F dX4_add_70 (nI_add _ _) rfl ?_
              refine v_put (pc' := 74) (ws' := [(pgo, .inr (3, [.ref pgc, .int (nI (pl + k2))])), (pgc, aI G 32 (lay pg pl x9 i))]) (C := RX4) (T := TX4) (N := 2) F dX4_add_71 in_X4_add_X4 tyX4_ok nmX4 0 rfl rfl 1 (by decide) (List.mem_of_getElem? (i := 1) rfl) rfl rfl rfl (Nat.le_of_ble_eq_true rfl) rfl rfl ?_
              refine v_aload_n (pc' := 75) F dX4_add_74 rfl 2 rfl rfl ?_
              refine v_get (pc' := 78) (C := RX4) (T := TX4) (N := 2) F dX4_add_75 in_X4_add_X4 0 rfl rfl 1 (by decide) (List.mem_of_getElem? (i := 1) rfl) rfl rfl ?_
              exact rt dX4_add_78 (pl + k2, lay pg pl x9 i) (have hq := let_ok (pg := pg) hb3 (show ¬ 32 < pl + k2 by omega); ⟨hq.1.symm, by rw [show i = k2 by omega]; exact hq.2.symm⟩) rfl
            · refine v_aload_n (pc' := 41) F dX4_add_40 rfl 2 rfl rfl ?_
              refine v_get (pc' := 44) (C := RX4) (T := TX4) (N := 2) F dX4_add_41 in_X4_add_X4 0 rfl rfl 0 (by decide) (List.mem_of_getElem? (i := 2) rfl) rfl rfl ?_
              refine v_aload_n (pc' := 45) F dX4_add_44 rfl 2 rfl rfl ?_
              refine v_get (pc' := 48) (C := RX4) (T := TX4) (N := 2) F dX4_add_45 in_X4_add_X4 0 rfl rfl 1 (by decide) (List.mem_of_getElem? (i := 1) rfl) rfl rfl ?_
              refine v_iload (pc' := 50) F dX4_add_48 0 rfl rfl ?_
              refine v_iadd (pc' := 51) (z := nI (pl + i)) F dX4_add_50 (nI_add _ _) rfl ?_
              refine v_lload_n (pc' := 52) F dX4_add_51 rfl 3 rfl rfl ?_
              refine v_iload (pc' := 54) F dX4_add_52 0 rfl rfl ?_
              refine cSI0 (pc' := 57) (As := [.long (lN x9), .int (nI i)]) (rest := [.int (nI (pl + i)), .ref pgc]) F (c_X4_codeAt x9 i hx9 (by omega)) (va_cwS 2 F.2.2.2.2.1 gX4_add_X4_codeAt rfl rfl rfl (by decide +kernel) ⟨Nat.le_of_ble_eq_true rfl, Nat.le_of_ble_eq_true rfl⟩) rfl rfl (Nat.le_of_ble_eq_true rfl) dX4_add_54 ⟨Nat.zero_le _, Nat.zero_le _⟩ rfl (fun r u q9 => ?_)
              obtain rfl := q9
              refine v_iast (pc' := 58) (ws' := [(pgo, .inr (3, [.ref pgc, .int (nI pl)])), (pgc, aI G 32 (va_up (lay pg pl x9 i) (pl + i) (cd x9 i)))]) F dX4_add_57 1 rfl (by omega) (by first | decide | omega) rfl rfl ?_
              refine v_iinc (pc' := 61) (v := nI (i + 1)) (lv' := [(4, .int (nI (i + 1))), (3, .int (nI k2)), (0, .ref pgo), (1, .long (lN x9))]) F dX4_add_58 0 rfl (nI_add _ _) (by decide) rfl rfl ?_
              refine v_goto (tgt := 34) F dX4_add_61 (by decide) ?_
              exact ih34 (i + 1) (va_up (lay pg pl x9 i) (pl + i) (cd x9 i)) (by omega) (lay_s pg pl x9 i) (by omega)
        exact L34 (k2 + 1) 0 pg (by omega) (lay_0 pg pl x9) (by omega)
      · refine v_bipush (pc' := 30) (v := (-104)) F dX4_add_28 (by decide) rfl ?_
        exact rt dX4_add_30 (pl, pg) (have hq := let_full (pg := pg) hb3 (show 32 < pl + k2 by omega); ⟨hq.1.symm, hq.2.symm⟩) rfl
    · exact absurd c5 (ni_m102 (by omega))
def rm_X4_clear : Room := { frames := 0, cells := 0, slots := 0, locals := 0 }
theorem in_X4_clear_X4 : ∀ w ∈ u_ws RX4 TX4 2, w ∈ wsX4_clear := fun w h => List.mem_cons_of_mem _ (List.mem_append_right _ (h))
set_option maxHeartbeats 4000000 in
set_option maxRecDepth 100000 in
theorem c_X4_clear {l : Launch} {D : va_G} {G : gT} (pgo pgc pl : Nat) : CtI (σ := Unit) l yX4_clear wsX4_clear rm_X4_clear D G [.ref pgo] [(pgo, .inr (3, [.ref pgc, .int (nI pl)]))] (fun r _ => r = nI pl) (fun _ => [(pgo, .inr (3, [.ref pgc, .int (nI 0)]))]) := by
  refine openI (maxL := 2) (by decide) rfl (Nat.le_of_ble_eq_true rfl) ?_
  intro pgZ evZ sgZ mmZ agsZ blZ meZ cdZ AZ QZ F hmn rt
  refine v_lv (lz := [(0, .ref pgo)]) rfl ?_
  refine v_aload_n (pc' := 1) F dX4_clear_0 rfl 0 rfl rfl ?_
  refine v_get (pc' := 4) (C := RX4) (T := TX4) (N := 2) F dX4_clear_1 in_X4_clear_X4 0 rfl rfl 1 (by decide) (List.mem_of_getElem? (i := 1) rfl) rfl rfl ?_
  refine v_istore_n (pc' := 5) (lv' := [(1, .int (nI pl)), (0, .ref pgo)]) F dX4_clear_4 rfl (by decide) rfl rfl ?_
  refine v_aload_n (pc' := 6) F dX4_clear_5 rfl 1 rfl rfl ?_
  refine v_iconst (pc' := 7) (v := nI 0) F dX4_clear_6 (by decide) rfl ?_
  refine v_put (pc' := 10) (ws' := [(pgo, .inr (3, [.ref pgc, .int (nI 0)]))]) (C := RX4) (T := TX4) (N := 2) F dX4_clear_7 in_X4_clear_X4 tyX4_ok nmX4 0 rfl rfl 1 (by decide) (List.mem_of_getElem? (i := 1) rfl) rfl rfl rfl (Nat.le_of_ble_eq_true rfl) rfl rfl ?_
  refine v_iload_n (pc' := 11) F dX4_clear_10 rfl 0 rfl rfl ?_
  exact rt dX4_clear_11 () rfl rfl
def rm_X9_letters : Room := { frames := 3, cells := 0, slots := 0, locals := 71 }
theorem in_X9_letters_X9 : ∀ w ∈ u_ws RX9 TX9 12, w ∈ wsX9_letters := fun w h => List.mem_cons_of_mem _ (List.mem_append_left _ (List.mem_append_right _ (h)))
set_option maxHeartbeats 4000000 in
set_option maxRecDepth 100000 in
theorem c_X9_letters {l : Launch} {D : va_G} {G : gT} (x pgo ppa dl se tr im la dr pe ac lr sd : Nat) (pgc pl : Nat) (pg : Nat → Nat) (x9 : Nat) (hx9 : x9 < 2 ^ 64) (hpl : pl ≤ 32) : CtI (σ := (Nat × (Nat → Nat))) l yX9_letters wsX9_letters rm_X9_letters D G [.ref x, .long (lN x9)] [(x, .inr (7, [.ref pgo, .ref ppa, .ref dl, .ref se, .ref tr, .ref im, .ref la, .ref dr, .int (nI pe), .int (nI ac), .int (nI lr), .int (nI sd)])), (pgo, .inr (3, [.ref pgc, .int (nI pl)])), (pgc, aI G 32 pg)] (fun r u => r = A_letters pl x9 ∧ u = N_letters pg pl x9) (fun u => [(x, .inr (7, [.ref pgo, .ref ppa, .ref dl, .ref se, .ref tr, .ref im, .ref la, .ref dr, .int (nI pe), .int (nI ac), .int (nI lr), .int (nI sd)])), (pgo, .inr (3, [.ref pgc, .int (nI u.1)])), (pgc, aI G 32 u.2)]) := by
  refine openI (maxL := 3) (by decide) rfl (Nat.le_of_ble_eq_true rfl) ?_
  intro pgZ evZ sgZ mmZ agsZ blZ meZ cdZ AZ QZ F hmn rt
  refine v_lv (lz := [(0, .ref x), (1, .long (lN x9))]) rfl ?_
  refine v_aload_n (pc' := 1) F dX9_letters_0 rfl 0 rfl rfl ?_
  refine v_get (pc' := 4) (C := RX9) (T := TX9) (N := 12) F dX9_letters_1 in_X9_letters_X9 0 rfl rfl 0 (by decide) (List.mem_of_getElem? (i := 1) rfl) rfl rfl ?_
  refine v_lload_n (pc' := 5) F dX9_letters_4 rfl 1 rfl rfl ?_
  refine cVI (pc' := 8) (As := [.long (lN x9)]) (rest := []) (wr := [(x, .inr (7, [.ref pgo, .ref ppa, .ref dl, .ref se, .ref tr, .ref im, .ref la, .ref dr, .int (nI pe), .int (nI ac), .int (nI lr), .int (nI sd)]))]) F (c_X4_add pgo pgc pl pg x9 hx9 hpl) (cwV 1 F.2.2.2.2.1 gX9_letters_X4_add rfl rfl rfl (by decide +kernel) ⟨Nat.le_of_ble_eq_true rfl, Nat.le_of_ble_eq_true rfl⟩) (v_rcvW F 3 1 rfl rfl) rfl rfl (Nat.le_of_ble_eq_true rfl) dX9_letters_5 [1, 2] [0] (by decide) rfl rfl (by decide) (by decide) ⟨Nat.zero_le _, Nat.zero_le _⟩ rfl (fun r u q3 => ?_)
  obtain ⟨nw_1, hu9⟩ : ∃ z, z = u := ⟨_, rfl⟩
  subst hu9
  obtain ⟨rfl, hN_2⟩ := q3
  refine v_ws (wz := [(x, .inr (7, [.ref pgo, .ref ppa, .ref dl, .ref se, .ref tr, .ref im, .ref la, .ref dr, .int (nI pe), .int (nI ac), .int (nI lr), .int (nI sd)])), (pgo, .inr (3, [.ref pgc, .int (nI nw_1.1)])), (pgc, aI G 32 nw_1.2)]) rfl ?_
  exact rt dX9_letters_8 nw_1 ⟨rfl, hN_2⟩ rfl
def rm_X9_blank : Room := { frames := 1, cells := 0, slots := 0, locals := 21 }
theorem in_X9_blank_X9 : ∀ w ∈ u_ws RX9 TX9 12, w ∈ wsX9_blank := fun w h => List.mem_cons_of_mem _ (List.mem_append_left _ (List.mem_append_right _ (h)))
set_option maxHeartbeats 4000000 in
set_option maxRecDepth 100000 in
theorem c_X9_blank {l : Launch} {D : va_G} {G : gT} (x pgo ppa dl se tr im la dr pe ac lr sd : Nat) (pgc pl : Nat) : CtI (σ := Unit) l yX9_blank wsX9_blank rm_X9_blank D G [.ref x] [(x, .inr (7, [.ref pgo, .ref ppa, .ref dl, .ref se, .ref tr, .ref im, .ref la, .ref dr, .int (nI pe), .int (nI ac), .int (nI lr), .int (nI sd)])), (pgo, .inr (3, [.ref pgc, .int (nI pl)]))] (fun r _ => r = nI pl) (fun _ => [(x, .inr (7, [.ref pgo, .ref ppa, .ref dl, .ref se, .ref tr, .ref im, .ref la, .ref dr, .int (nI pe), .int (nI ac), .int (nI lr), .int (nI sd)])), (pgo, .inr (3, [.ref pgc, .int (nI 0)]))]) := by
  refine openI (maxL := 1) (by decide) rfl (Nat.le_of_ble_eq_true rfl) ?_
  intro pgZ evZ sgZ mmZ agsZ blZ meZ cdZ AZ QZ F hmn rt
  refine v_lv (lz := [(0, .ref x)]) rfl ?_
  refine v_aload_n (pc' := 1) F dX9_blank_0 rfl 0 rfl rfl ?_
  refine v_get (pc' := 4) (C := RX9) (T := TX9) (N := 12) F dX9_blank_1 in_X9_blank_X9 0 rfl rfl 0 (by decide) (List.mem_of_getElem? (i := 1) rfl) rfl rfl ?_
  refine cVI (pc' := 7) (As := []) (rest := []) (wr := [(x, .inr (7, [.ref pgo, .ref ppa, .ref dl, .ref se, .ref tr, .ref im, .ref la, .ref dr, .int (nI pe), .int (nI ac), .int (nI lr), .int (nI sd)]))]) F (c_X4_clear pgo pgc pl) (cwV 0 F.2.2.2.2.1 gX9_blank_X4_clear rfl rfl rfl (by decide +kernel) ⟨Nat.le_of_ble_eq_true rfl, Nat.le_of_ble_eq_true rfl⟩) (v_rcvW F 3 1 rfl rfl) rfl rfl (Nat.le_of_ble_eq_true rfl) dX9_blank_4 [1] [0] (by decide) rfl rfl (by decide) (by decide) ⟨Nat.zero_le _, Nat.zero_le _⟩ rfl (fun r u q1 => ?_)
  obtain rfl := q1
  refine v_ws (wz := [(x, .inr (7, [.ref pgo, .ref ppa, .ref dl, .ref se, .ref tr, .ref im, .ref la, .ref dr, .int (nI pe), .int (nI ac), .int (nI lr), .int (nI sd)])), (pgo, .inr (3, [.ref pgc, .int (nI 0)]))]) rfl ?_
  exact rt dX9_blank_7 () rfl rfl
def rm_X10_letters : Room := { frames := 0, cells := 0, slots := 0, locals := 0 }
theorem in_X10_letters_X10 : ∀ w ∈ u_ws RX10 TX10 38, w ∈ wsX10_letters := fun w h => List.mem_cons_of_mem _ (List.mem_append_right _ (h))
set_option maxHeartbeats 4000000 in
set_option maxRecDepth 100000 in
theorem c_X10_letters {l : Launch} {D : va_G} {G : gT} (o : Nat) (ma : Nat → Nat) (fi : Nat → Int32) (fl : Nat → Int64) (pg : Nat → Nat) (pl x9 : Nat) (hpl : fi 15 = nI pl) (hx9 : x9 < 2 ^ 64) (h32 : pl ≤ 32) : CtI (σ := (Nat → Int32) × (Nat × (Nat → Nat))) l yX10_letters wsX10_letters rm_X10_letters D G [.ref o, .long (lN x9)] [(o, mO ma fi fl), (ma 16, aB G 32 pg)] (fun r u => r = A_letters pl x9 ∧ (u.2) = N_letters pg pl x9 ∧ (u.1) = va_up fi 15 (nI (u.2).1)) (fun u => [(o, mO ma (u.1) fl), (ma 16, aB G 32 ((u.2).2))]) := by
  refine openI (maxL := 7) (by decide) rfl (Nat.le_of_ble_eq_true rfl) ?_
  intro pgZ evZ sgZ mmZ agsZ blZ meZ cdZ AZ QZ F hmn rt
  refine v_lv (lz := [(0, .ref o), (1, .long (lN x9))]) rfl ?_
  refine v_iconst (pc' := 1) (v := nI 0) F dX10_letters_0 (by decide) rfl ?_
  refine v_istore_n (pc' := 2) (lv' := [(3, .int (nI 0)), (0, .ref o), (1, .long (lN x9))]) F dX10_letters_1 rfl (by decide) rfl rfl ?_
  refine v_iconst (pc' := 3) (v := nI 0) F dX10_letters_2 (by decide) rfl ?_
  refine v_istore (pc' := 5) (lv' := [(4, .int (nI 0)), (3, .int (nI 0)), (0, .ref o), (1, .long (lN x9))]) F dX10_letters_3 (by decide) rfl rfl ?_
  refine v_iconst (pc' := 6) (v := nI 0) F dX10_letters_5 (by decide) rfl ?_
  refine v_istore (pc' := 8) (lv' := [(5, .int (nI 0)), (4, .int (nI 0)), (3, .int (nI 0)), (0, .ref o), (1, .long (lN x9))]) F dX10_letters_6 (by decide) rfl rfl ?_
  have L8 : ∀ (fu : Nat) (j : Nat) (en : Nat) (ct : Nat), (j ≤ 8) → (ltN x9 j = some ct) → (en = if ct < j then 1 else 0) → 8 < j + fu → V pgZ l evZ rm_X10_letters sgZ mmZ agsZ blZ meZ cdZ 0 0 QZ D AZ 7 8 [(5, .int (nI j)), (4, .int (nI en)), (3, .int (nI ct)), (0, .ref o), (1, .long (lN x9))] [] [(o, mO ma fi fl), (ma 16, aB G 32 pg)] := by
    intro fu
    induction fu with
    | zero => intro j en ct hj hct hen hfu; exact absurd hfu (by omega)
    | succ fu ih8 =>
      intro j en ct hj hct hen hfu
      have h8 := ltN_le hct
      have h7 := cd_lt x9 j
      have hen1 : (en = 0 ↔ ¬ ct < j) ∧ en ≤ 1 := by rw [hen]; split <;> omega
      refine v_iload (pc' := 10) F dX10_letters_8 0 rfl rfl ?_
      refine v_bipush (pc' := 12) (v := nI 8) F dX10_letters_10 (by decide) rfl ?_
      refine v_ncmp_ge (tgt := 85) (pc' := 15) F dX10_letters_12 (by omega) (by omega) (by decide) rfl (fun c2 => ?_) (fun c2 => ?_)
      · have h88 : ltN x9 8 = some ct := by rw [show (8 : Nat) = j by omega]; exact hct
        refine v_aload_n (pc' := 86) F dX10_letters_85 rfl 3 rfl rfl ?_
        refine v_get (pc' := 89) (v := .int (nI pl)) (C := RX10) (T := TX10) (N := 38) F dX10_letters_86 in_X10_letters_X10 0 rfl rfl 15 (by decide) (List.mem_of_getElem? (i := 2) rfl) (congrArg (fun z => some (Value.int z)) hpl) rfl ?_
        refine v_iload_n (pc' := 90) F dX10_letters_89 rfl 2 rfl rfl ?_
        refine v_iadd (pc' := 91) (z := nI (pl + ct)) F dX10_letters_90 (nI_add _ _) rfl ?_
        refine v_bipush (pc' := 93) (v := nI 32) F dX10_letters_91 (by decide) rfl ?_
        refine v_ncmp_le (tgt := 99) (pc' := 96) F dX10_letters_93 (by omega) (by omega) (by decide) rfl (fun c3 => ?_) (fun c3 => ?_)
        · refine v_iconst (pc' := 100) (v := nI 0) F dX10_letters_99 (by decide) rfl ?_
          refine v_istore (pc' := 102) (lv' := [(5, .int (nI 0)), (4, .int (nI en)), (3, .int (nI ct)), (0, .ref o), (1, .long (lN x9))]) F dX10_letters_100 (by decide) rfl rfl ?_
          have L102 : ∀ (fu : Nat) (i : Nat) (f2 : Nat → Nat), (i ≤ ct) → (f2 = lay pg pl x9 i) → ct < i + fu → V pgZ l evZ rm_X10_letters sgZ mmZ agsZ blZ meZ cdZ 0 0 QZ D AZ 7 102 [(5, .int (nI i)), (4, .int (nI en)), (3, .int (nI ct)), (0, .ref o), (1, .long (lN x9))] [] [(o, mO ma fi fl), (ma 16, aB G 32 f2)] := by
            intro fu
            induction fu with
            | zero => intro i f2 hi hf hfu; exact absurd hfu (by omega)
            | succ fu ih102 =>
              intro i f2 hi hf hfu
              subst hf
              have h6 := ltN_cd hct i
              refine v_iload (pc' := 104) F dX10_letters_102 0 rfl rfl ?_
              refine v_iload_n (pc' := 105) F dX10_letters_104 rfl 2 rfl rfl ?_
              refine v_ncmp_ge (tgt := 135) (pc' := 108) F dX10_letters_105 (by omega) (by omega) (by decide) rfl (fun c5 => ?_) (fun c5 => ?_)
              · refine v_aload_n (pc' := 136) F dX10_letters_135 rfl 3 rfl rfl ?_
                refine v_dup (pc' := 137) F dX10_letters_136 rfl rfl ?_
                refine v_get (pc' := 140) (v := .int (nI pl)) (C := RX10) (T := TX10) (N := 38) F dX10_letters_137 in_X10_letters_X10 0 rfl rfl 15 (by decide) (List.mem_of_getElem? (i := 2) rfl) (congrArg (fun z => some (Value.int z)) hpl) rfl ?_
                refine v_iload_n (pc' := 141) F dX10_letters_140 rfl 2 rfl rfl ?_
                refine v_iadd (pc' := 142) (z := nI (pl + ct)) F dX10_letters_141 (nI_add _ _) rfl ?_
                refine v_put (pc' := 145) (ws' := [(o, mO ma (va_up fi 15 (nI (pl + ct))) fl), (ma 16, aB G 32 (lay pg pl x9 i))]) (C := RX10) (T := TX10) (N := 38) F dX10_letters_142 in_X10_letters_X10 tyX10_ok nmX10 0 rfl rfl 15 (by decide) (List.mem_of_getElem? (i := 2) rfl) rfl rfl rfl (Nat.le_of_ble_eq_true rfl) rfl rfl ?_
                refine v_aload_n (pc' := 146) F dX10_letters_145 rfl 3 rfl rfl ?_
                refine v_get (pc' := 149) (v := .int (nI (pl + ct))) (C := RX10) (T := TX10) (N := 38) F dX10_letters_146 in_X10_letters_X10 0 rfl rfl 15 (by decide) (List.mem_of_getElem? (i := 2) rfl) rfl rfl ?_
                exact rt dX10_letters_149 ((va_up fi 15 (nI (pl + ct))), pl + ct, lay pg pl x9 i) (have hq := let_ok (pg := pg) h88 (show ¬ 32 < pl + ct by omega); ⟨hq.1.symm, by rw [show i = ct by omega]; exact hq.2.symm, rfl⟩) rfl
              · refine v_aload_n (pc' := 109) F dX10_letters_108 rfl 3 rfl rfl ?_
                refine v_get (pc' := 112) (v := .ref (ma 16)) (C := RX10) (T := TX10) (N := 38) F dX10_letters_109 in_X10_letters_X10 0 rfl rfl 16 (by decide) (List.mem_of_getElem? (i := 3) rfl) rfl rfl ?_
                refine v_aload_n (pc' := 113) F dX10_letters_112 rfl 3 rfl rfl ?_
                refine v_get (pc' := 116) (v := .int (nI pl)) (C := RX10) (T := TX10) (N := 38) F dX10_letters_113 in_X10_letters_X10 0 rfl rfl 15 (by decide) (List.mem_of_getElem? (i := 2) rfl) (congrArg (fun z => some (Value.int z)) hpl) rfl ?_
                refine v_iload (pc' := 118) F dX10_letters_116 0 rfl rfl ?_
                refine v_iadd (pc' := 119) (z := nI (pl + i)) F dX10_letters_118 (nI_add _ _) rfl ?_
                refine v_lload_n (pc' := 120) F dX10_letters_119 rfl 4 rfl rfl ?_
                refine v_bipush (pc' := 122) (v := nI 8) F dX10_letters_120 (by decide) rfl ?_
                refine v_iload (pc' := 124) F dX10_letters_122 0 rfl rfl ?_
                refine v_imul (pc' := 125) (z := nI (8 * i)) F dX10_letters_124 (pk_mul _ _) rfl ?_
                refine v_lshr (pc' := 126) (z := (lN x9) >>> ((nI (8 * i)).toInt64 &&& 63)) F dX10_letters_125 rfl rfl ?_
                refine v_l2i (pc' := 127) (z := ((lN x9) >>> ((nI (8 * i)).toInt64 &&& 63)).toInt32) F dX10_letters_126 rfl rfl ?_
                refine v_i2b (pc' := 128) (z := (((lN x9) >>> ((nI (8 * i)).toInt64 &&& 63)).toInt32).toInt8.toInt32) F dX10_letters_127 rfl rfl ?_
                refine v_bast (pc' := 129) (ws' := [(o, mO ma fi fl), (ma 16, aB G 32 (va_up (lay pg pl x9 i) (pl + i) (cd x9 i)))]) F dX10_letters_128 1 rfl (by omega) (by first | decide | omega) (cd_byte hx9 (by omega) (by omega)) rfl rfl ?_
                refine v_iinc (pc' := 132) (v := nI (i + 1)) (lv' := [(5, .int (nI (i + 1))), (4, .int (nI en)), (3, .int (nI ct)), (0, .ref o), (1, .long (lN x9))]) F dX10_letters_129 0 rfl (nI_add _ _) (by decide) rfl rfl ?_
                refine v_goto (tgt := 102) F dX10_letters_132 (by decide) ?_
                exact ih102 (i + 1) (va_up (lay pg pl x9 i) (pl + i) (cd x9 i)) (by omega) (lay_s pg pl x9 i) (by omega)
          exact L102 (ct + 1) 0 pg (by omega) (lay_0 pg pl x9) (by omega)
        · refine v_bipush (pc' := 98) (v := (-104)) F dX10_letters_96 (by decide) rfl ?_
          refine v_ws (wz := [(o, mO ma (va_up fi 15 (nI pl)) fl), (ma 16, aB G 32 pg)]) (by rw [← hpl, up_id]) ?_
          exact rt dX10_letters_98 ((va_up fi 15 (nI pl)), pl, pg) (have hq := let_full (pg := pg) h88 (by omega); ⟨hq.1.symm, hq.2.symm, rfl⟩) rfl
      · refine v_lload_n (pc' := 16) F dX10_letters_15 rfl 4 rfl rfl ?_
        refine v_bipush (pc' := 18) (v := nI 8) F dX10_letters_16 (by decide) rfl ?_
        refine v_iload (pc' := 20) F dX10_letters_18 0 rfl rfl ?_
        refine v_imul (pc' := 21) (z := nI (8 * j)) F dX10_letters_20 (pk_mul _ _) rfl ?_
        refine v_lshr (pc' := 22) (z := (lN x9) >>> ((nI (8 * j)).toInt64 &&& 63)) F dX10_letters_21 rfl rfl ?_
        refine v_ldc2 (pc' := 25) (v := lN 255) F dX10_letters_22 (List.mem_of_getElem? (i := 1) rfl) rfl ?_
        refine v_land (pc' := 26) (z := lN (cd x9 j)) F dX10_letters_25 (cd_shr hx9 (by omega)) rfl ?_
        refine v_l2i (pc' := 27) (z := nI (cd x9 j)) F dX10_letters_26 (lN_i _) rfl ?_
        refine v_istore (pc' := 29) (lv' := [(6, .int (nI (cd x9 j))), (5, .int (nI j)), (4, .int (nI en)), (3, .int (nI ct)), (0, .ref o), (1, .long (lN x9))]) F dX10_letters_27 (by decide) rfl rfl ?_
        refine v_iload (pc' := 31) F dX10_letters_29 0 rfl rfl ?_
        refine v_bipush (pc' := 33) (v := nI 126) F dX10_letters_31 (by decide) rfl ?_
        refine v_ncmp_gt (tgt := 46) (pc' := 36) F dX10_letters_33 (by omega) (by omega) (by decide) rfl (fun c6 => ?_) (fun c6 => ?_)
        · refine v_bipush (pc' := 48) (v := (-102)) F dX10_letters_46 (by decide) rfl ?_
          refine v_ws (wz := [(o, mO ma (va_up fi 15 (nI pl)) fl), (ma 16, aB G 32 pg)]) (by rw [← hpl, up_id]) ?_
          exact rt dX10_letters_48 ((va_up fi 15 (nI pl)), pl, pg) (have hq := let_no (pg := pg) (pl := pl) (ltN_end (ltN_no hct (by omega)) (by omega)); ⟨hq.1.symm, hq.2.symm, rfl⟩) rfl
        · refine v_iload (pc' := 38) F dX10_letters_36 2 rfl rfl ?_
          refine v_nif_eq (tgt := 49) (pc' := 41) F dX10_letters_38 (by omega) (by decide) rfl (fun c7 => ?_) (fun c7 => ?_)
          · refine v_iload (pc' := 51) F dX10_letters_49 2 rfl rfl ?_
            refine v_nif_ne (tgt := 59) (pc' := 54) F dX10_letters_51 (by omega) (by decide) rfl (fun c8 => ?_) (fun c8 => ?_)
            · refine v_iconst (pc' := 60) (v := nI 1) F dX10_letters_59 (by decide) rfl ?_
              refine v_goto (tgt := 64) F dX10_letters_60 (by decide) ?_
              refine v_istore (pc' := 66) (lv' := [(4, .int (nI 1)), (6, .int (nI (cd x9 j))), (5, .int (nI j)), (3, .int (nI ct)), (0, .ref o), (1, .long (lN x9))]) F dX10_letters_64 (by decide) rfl rfl ?_
              refine v_iload_n (pc' := 67) F dX10_letters_66 rfl 3 rfl rfl ?_
              refine v_iload (pc' := 69) F dX10_letters_67 1 rfl rfl ?_
              refine v_nif_ne (tgt := 76) (pc' := 72) F dX10_letters_69 (by omega) (by decide) rfl (fun c9 => ?_) (fun c9 => ?_)
              · refine v_iconst (pc' := 77) (v := nI 1) F dX10_letters_76 (by decide) rfl ?_
                refine v_iadd (pc' := 78) (z := nI (ct + 1)) F dX10_letters_77 (nI_add _ _) rfl ?_
                refine v_istore_n (pc' := 79) (lv' := [(3, .int (nI (ct + 1))), (4, .int (nI 1)), (6, .int (nI (cd x9 j))), (5, .int (nI j)), (0, .ref o), (1, .long (lN x9))]) F dX10_letters_78 rfl (by decide) rfl rfl ?_
                refine v_iinc (pc' := 82) (v := nI (j + 1)) (lv' := [(5, .int (nI (j + 1))), (3, .int (nI (ct + 1))), (4, .int (nI 1)), (6, .int (nI (cd x9 j))), (0, .ref o), (1, .long (lN x9))]) F dX10_letters_79 3 rfl (nI_add _ _) (by decide) rfl rfl ?_
                refine v_goto (tgt := 8) F dX10_letters_82 (by decide) ?_
                refine v_lpick (lz := [(5, .int (nI (j + 1))), (4, .int (nI 1)), (3, .int (nI (ct + 1))), (0, .ref o), (1, .long (lN x9))]) [0, 2, 1, 4, 5] rfl ?_
                exact ih8 (j + 1) 1 (ct + 1) (by omega) (by first | exact ltN_0 hct (by assumption) | exact ltN_1 hct (by omega) (by omega) (by omega)) (by first | (exfalso; omega) | rw [if_pos (by omega)] | rw [if_neg (by omega)]) (by omega)
              · refine v_iconst (pc' := 73) (v := nI 0) F dX10_letters_72 (by decide) rfl ?_
                refine v_goto (tgt := 77) F dX10_letters_73 (by decide) ?_
                refine v_iadd (pc' := 78) (z := nI (ct + 0)) F dX10_letters_77 (nI_add _ _) rfl ?_
                refine v_istore_n (pc' := 79) (lv' := [(3, .int (nI (ct + 0))), (4, .int (nI 1)), (6, .int (nI (cd x9 j))), (5, .int (nI j)), (0, .ref o), (1, .long (lN x9))]) F dX10_letters_78 rfl (by decide) rfl rfl ?_
                refine v_iinc (pc' := 82) (v := nI (j + 1)) (lv' := [(5, .int (nI (j + 1))), (3, .int (nI (ct + 0))), (4, .int (nI 1)), (6, .int (nI (cd x9 j))), (0, .ref o), (1, .long (lN x9))]) F dX10_letters_79 3 rfl (nI_add _ _) (by decide) rfl rfl ?_
                refine v_goto (tgt := 8) F dX10_letters_82 (by decide) ?_
                refine v_lpick (lz := [(5, .int (nI (j + 1))), (4, .int (nI 1)), (3, .int (nI (ct + 0))), (0, .ref o), (1, .long (lN x9))]) [0, 2, 1, 4, 5] rfl ?_
                exact ih8 (j + 1) 1 (ct + 0) (by omega) (by first | exact ltN_0 hct (by assumption) | exact ltN_1 hct (by omega) (by omega) (by omega)) (by first | (exfalso; omega) | rw [if_pos (by omega)] | rw [if_neg (by omega)]) (by omega)
            · refine v_iload (pc' := 56) F dX10_letters_54 0 rfl rfl ?_
              refine v_nif_ne (tgt := 63) (pc' := 59) F dX10_letters_56 (by omega) (by decide) rfl (fun c10 => ?_) (fun c10 => ?_)
              · refine v_iconst (pc' := 64) (v := nI 0) F dX10_letters_63 (by decide) rfl ?_
                refine v_istore (pc' := 66) (lv' := [(4, .int (nI 0)), (6, .int (nI (cd x9 j))), (5, .int (nI j)), (3, .int (nI ct)), (0, .ref o), (1, .long (lN x9))]) F dX10_letters_64 (by decide) rfl rfl ?_
                refine v_iload_n (pc' := 67) F dX10_letters_66 rfl 3 rfl rfl ?_
                refine v_iload (pc' := 69) F dX10_letters_67 1 rfl rfl ?_
                refine v_nif_ne (tgt := 76) (pc' := 72) F dX10_letters_69 (by omega) (by decide) rfl (fun c11 => ?_) (fun c11 => ?_)
                · refine v_iconst (pc' := 77) (v := nI 1) F dX10_letters_76 (by decide) rfl ?_
                  refine v_iadd (pc' := 78) (z := nI (ct + 1)) F dX10_letters_77 (nI_add _ _) rfl ?_
                  refine v_istore_n (pc' := 79) (lv' := [(3, .int (nI (ct + 1))), (4, .int (nI 0)), (6, .int (nI (cd x9 j))), (5, .int (nI j)), (0, .ref o), (1, .long (lN x9))]) F dX10_letters_78 rfl (by decide) rfl rfl ?_
                  refine v_iinc (pc' := 82) (v := nI (j + 1)) (lv' := [(5, .int (nI (j + 1))), (3, .int (nI (ct + 1))), (4, .int (nI 0)), (6, .int (nI (cd x9 j))), (0, .ref o), (1, .long (lN x9))]) F dX10_letters_79 3 rfl (nI_add _ _) (by decide) rfl rfl ?_
                  refine v_goto (tgt := 8) F dX10_letters_82 (by decide) ?_
                  refine v_lpick (lz := [(5, .int (nI (j + 1))), (4, .int (nI 0)), (3, .int (nI (ct + 1))), (0, .ref o), (1, .long (lN x9))]) [0, 2, 1, 4, 5] rfl ?_
                  exact ih8 (j + 1) 0 (ct + 1) (by omega) (by first | exact ltN_0 hct (by assumption) | exact ltN_1 hct (by omega) (by omega) (by omega)) (by first | (exfalso; omega) | rw [if_pos (by omega)] | rw [if_neg (by omega)]) (by omega)
                · refine v_iconst (pc' := 73) (v := nI 0) F dX10_letters_72 (by decide) rfl ?_
                  refine v_goto (tgt := 77) F dX10_letters_73 (by decide) ?_
                  refine v_iadd (pc' := 78) (z := nI (ct + 0)) F dX10_letters_77 (nI_add _ _) rfl ?_
                  refine v_istore_n (pc' := 79) (lv' := [(3, .int (nI (ct + 0))), (4, .int (nI 0)), (6, .int (nI (cd x9 j))), (5, .int (nI j)), (0, .ref o), (1, .long (lN x9))]) F dX10_letters_78 rfl (by decide) rfl rfl ?_
                  refine v_iinc (pc' := 82) (v := nI (j + 1)) (lv' := [(5, .int (nI (j + 1))), (3, .int (nI (ct + 0))), (4, .int (nI 0)), (6, .int (nI (cd x9 j))), (0, .ref o), (1, .long (lN x9))]) F dX10_letters_79 3 rfl (nI_add _ _) (by decide) rfl rfl ?_
                  refine v_goto (tgt := 8) F dX10_letters_82 (by decide) ?_
                  refine v_lpick (lz := [(5, .int (nI (j + 1))), (4, .int (nI 0)), (3, .int (nI (ct + 0))), (0, .ref o), (1, .long (lN x9))]) [0, 2, 1, 4, 5] rfl ?_
                  exact ih8 (j + 1) 0 (ct + 0) (by omega) (by first | exact ltN_0 hct (by assumption) | exact ltN_1 hct (by omega) (by omega) (by omega)) (by first | (exfalso; omega) | rw [if_pos (by omega)] | rw [if_neg (by omega)]) (by omega)
              · refine v_iconst (pc' := 60) (v := nI 1) F dX10_letters_59 (by decide) rfl ?_
                refine v_goto (tgt := 64) F dX10_letters_60 (by decide) ?_
                refine v_istore (pc' := 66) (lv' := [(4, .int (nI 1)), (6, .int (nI (cd x9 j))), (5, .int (nI j)), (3, .int (nI ct)), (0, .ref o), (1, .long (lN x9))]) F dX10_letters_64 (by decide) rfl rfl ?_
                refine v_iload_n (pc' := 67) F dX10_letters_66 rfl 3 rfl rfl ?_
                refine v_iload (pc' := 69) F dX10_letters_67 1 rfl rfl ?_
                refine v_nif_ne (tgt := 76) (pc' := 72) F dX10_letters_69 (by omega) (by decide) rfl (fun c12 => ?_) (fun c12 => ?_)
                · refine v_iconst (pc' := 77) (v := nI 1) F dX10_letters_76 (by decide) rfl ?_
                  refine v_iadd (pc' := 78) (z := nI (ct + 1)) F dX10_letters_77 (nI_add _ _) rfl ?_
                  refine v_istore_n (pc' := 79) (lv' := [(3, .int (nI (ct + 1))), (4, .int (nI 1)), (6, .int (nI (cd x9 j))), (5, .int (nI j)), (0, .ref o), (1, .long (lN x9))]) F dX10_letters_78 rfl (by decide) rfl rfl ?_
                  refine v_iinc (pc' := 82) (v := nI (j + 1)) (lv' := [(5, .int (nI (j + 1))), (3, .int (nI (ct + 1))), (4, .int (nI 1)), (6, .int (nI (cd x9 j))), (0, .ref o), (1, .long (lN x9))]) F dX10_letters_79 3 rfl (nI_add _ _) (by decide) rfl rfl ?_
                  refine v_goto (tgt := 8) F dX10_letters_82 (by decide) ?_
                  refine v_lpick (lz := [(5, .int (nI (j + 1))), (4, .int (nI 1)), (3, .int (nI (ct + 1))), (0, .ref o), (1, .long (lN x9))]) [0, 2, 1, 4, 5] rfl ?_
                  exact ih8 (j + 1) 1 (ct + 1) (by omega) (by first | exact ltN_0 hct (by assumption) | exact ltN_1 hct (by omega) (by omega) (by omega)) (by first | (exfalso; omega) | rw [if_pos (by omega)] | rw [if_neg (by omega)]) (by omega)
                · refine v_iconst (pc' := 73) (v := nI 0) F dX10_letters_72 (by decide) rfl ?_
                  refine v_goto (tgt := 77) F dX10_letters_73 (by decide) ?_
                  refine v_iadd (pc' := 78) (z := nI (ct + 0)) F dX10_letters_77 (nI_add _ _) rfl ?_
                  refine v_istore_n (pc' := 79) (lv' := [(3, .int (nI (ct + 0))), (4, .int (nI 1)), (6, .int (nI (cd x9 j))), (5, .int (nI j)), (0, .ref o), (1, .long (lN x9))]) F dX10_letters_78 rfl (by decide) rfl rfl ?_
                  refine v_iinc (pc' := 82) (v := nI (j + 1)) (lv' := [(5, .int (nI (j + 1))), (3, .int (nI (ct + 0))), (4, .int (nI 1)), (6, .int (nI (cd x9 j))), (0, .ref o), (1, .long (lN x9))]) F dX10_letters_79 3 rfl (nI_add _ _) (by decide) rfl rfl ?_
                  refine v_goto (tgt := 8) F dX10_letters_82 (by decide) ?_
                  refine v_lpick (lz := [(5, .int (nI (j + 1))), (4, .int (nI 1)), (3, .int (nI (ct + 0))), (0, .ref o), (1, .long (lN x9))]) [0, 2, 1, 4, 5] rfl ?_
                  exact ih8 (j + 1) 1 (ct + 0) (by omega) (by first | exact ltN_0 hct (by assumption) | exact ltN_1 hct (by omega) (by omega) (by omega)) (by first | (exfalso; omega) | rw [if_pos (by omega)] | rw [if_neg (by omega)]) (by omega)
          · refine v_iload (pc' := 43) F dX10_letters_41 0 rfl rfl ?_
            refine v_nif_eq (tgt := 49) (pc' := 46) F dX10_letters_43 (by omega) (by decide) rfl (fun c13 => ?_) (fun c13 => ?_)
            · refine v_iload (pc' := 51) F dX10_letters_49 2 rfl rfl ?_
              refine v_nif_ne (tgt := 59) (pc' := 54) F dX10_letters_51 (by omega) (by decide) rfl (fun c14 => ?_) (fun c14 => ?_)
              · refine v_iconst (pc' := 60) (v := nI 1) F dX10_letters_59 (by decide) rfl ?_
                refine v_goto (tgt := 64) F dX10_letters_60 (by decide) ?_
                refine v_istore (pc' := 66) (lv' := [(4, .int (nI 1)), (6, .int (nI (cd x9 j))), (5, .int (nI j)), (3, .int (nI ct)), (0, .ref o), (1, .long (lN x9))]) F dX10_letters_64 (by decide) rfl rfl ?_
                refine v_iload_n (pc' := 67) F dX10_letters_66 rfl 3 rfl rfl ?_
                refine v_iload (pc' := 69) F dX10_letters_67 1 rfl rfl ?_
                refine v_nif_ne (tgt := 76) (pc' := 72) F dX10_letters_69 (by omega) (by decide) rfl (fun c15 => ?_) (fun c15 => ?_)
                · refine v_iconst (pc' := 77) (v := nI 1) F dX10_letters_76 (by decide) rfl ?_
                  refine v_iadd (pc' := 78) (z := nI (ct + 1)) F dX10_letters_77 (nI_add _ _) rfl ?_
                  refine v_istore_n (pc' := 79) (lv' := [(3, .int (nI (ct + 1))), (4, .int (nI 1)), (6, .int (nI (cd x9 j))), (5, .int (nI j)), (0, .ref o), (1, .long (lN x9))]) F dX10_letters_78 rfl (by decide) rfl rfl ?_
                  refine v_iinc (pc' := 82) (v := nI (j + 1)) (lv' := [(5, .int (nI (j + 1))), (3, .int (nI (ct + 1))), (4, .int (nI 1)), (6, .int (nI (cd x9 j))), (0, .ref o), (1, .long (lN x9))]) F dX10_letters_79 3 rfl (nI_add _ _) (by decide) rfl rfl ?_
                  refine v_goto (tgt := 8) F dX10_letters_82 (by decide) ?_
                  refine v_lpick (lz := [(5, .int (nI (j + 1))), (4, .int (nI 1)), (3, .int (nI (ct + 1))), (0, .ref o), (1, .long (lN x9))]) [0, 2, 1, 4, 5] rfl ?_
                  exact ih8 (j + 1) 1 (ct + 1) (by omega) (by first | exact ltN_0 hct (by assumption) | exact ltN_1 hct (by omega) (by omega) (by omega)) (by first | (exfalso; omega) | rw [if_pos (by omega)] | rw [if_neg (by omega)]) (by omega)
                · refine v_iconst (pc' := 73) (v := nI 0) F dX10_letters_72 (by decide) rfl ?_
                  refine v_goto (tgt := 77) F dX10_letters_73 (by decide) ?_
                  refine v_iadd (pc' := 78) (z := nI (ct + 0)) F dX10_letters_77 (nI_add _ _) rfl ?_
                  refine v_istore_n (pc' := 79) (lv' := [(3, .int (nI (ct + 0))), (4, .int (nI 1)), (6, .int (nI (cd x9 j))), (5, .int (nI j)), (0, .ref o), (1, .long (lN x9))]) F dX10_letters_78 rfl (by decide) rfl rfl ?_
                  refine v_iinc (pc' := 82) (v := nI (j + 1)) (lv' := [(5, .int (nI (j + 1))), (3, .int (nI (ct + 0))), (4, .int (nI 1)), (6, .int (nI (cd x9 j))), (0, .ref o), (1, .long (lN x9))]) F dX10_letters_79 3 rfl (nI_add _ _) (by decide) rfl rfl ?_
                  refine v_goto (tgt := 8) F dX10_letters_82 (by decide) ?_
                  refine v_lpick (lz := [(5, .int (nI (j + 1))), (4, .int (nI 1)), (3, .int (nI (ct + 0))), (0, .ref o), (1, .long (lN x9))]) [0, 2, 1, 4, 5] rfl ?_
                  exact ih8 (j + 1) 1 (ct + 0) (by omega) (by first | exact ltN_0 hct (by assumption) | exact ltN_1 hct (by omega) (by omega) (by omega)) (by first | (exfalso; omega) | rw [if_pos (by omega)] | rw [if_neg (by omega)]) (by omega)
              · refine v_iload (pc' := 56) F dX10_letters_54 0 rfl rfl ?_
                refine v_nif_ne (tgt := 63) (pc' := 59) F dX10_letters_56 (by omega) (by decide) rfl (fun c16 => ?_) (fun c16 => ?_)
                · refine v_iconst (pc' := 64) (v := nI 0) F dX10_letters_63 (by decide) rfl ?_
                  refine v_istore (pc' := 66) (lv' := [(4, .int (nI 0)), (6, .int (nI (cd x9 j))), (5, .int (nI j)), (3, .int (nI ct)), (0, .ref o), (1, .long (lN x9))]) F dX10_letters_64 (by decide) rfl rfl ?_
                  refine v_iload_n (pc' := 67) F dX10_letters_66 rfl 3 rfl rfl ?_
                  refine v_iload (pc' := 69) F dX10_letters_67 1 rfl rfl ?_
                  refine v_nif_ne (tgt := 76) (pc' := 72) F dX10_letters_69 (by omega) (by decide) rfl (fun c17 => ?_) (fun c17 => ?_)
                  · refine v_iconst (pc' := 77) (v := nI 1) F dX10_letters_76 (by decide) rfl ?_
                    refine v_iadd (pc' := 78) (z := nI (ct + 1)) F dX10_letters_77 (nI_add _ _) rfl ?_
                    refine v_istore_n (pc' := 79) (lv' := [(3, .int (nI (ct + 1))), (4, .int (nI 0)), (6, .int (nI (cd x9 j))), (5, .int (nI j)), (0, .ref o), (1, .long (lN x9))]) F dX10_letters_78 rfl (by decide) rfl rfl ?_
                    refine v_iinc (pc' := 82) (v := nI (j + 1)) (lv' := [(5, .int (nI (j + 1))), (3, .int (nI (ct + 1))), (4, .int (nI 0)), (6, .int (nI (cd x9 j))), (0, .ref o), (1, .long (lN x9))]) F dX10_letters_79 3 rfl (nI_add _ _) (by decide) rfl rfl ?_
                    refine v_goto (tgt := 8) F dX10_letters_82 (by decide) ?_
                    refine v_lpick (lz := [(5, .int (nI (j + 1))), (4, .int (nI 0)), (3, .int (nI (ct + 1))), (0, .ref o), (1, .long (lN x9))]) [0, 2, 1, 4, 5] rfl ?_
                    exact ih8 (j + 1) 0 (ct + 1) (by omega) (by first | exact ltN_0 hct (by assumption) | exact ltN_1 hct (by omega) (by omega) (by omega)) (by first | (exfalso; omega) | rw [if_pos (by omega)] | rw [if_neg (by omega)]) (by omega)
                  · refine v_iconst (pc' := 73) (v := nI 0) F dX10_letters_72 (by decide) rfl ?_
                    refine v_goto (tgt := 77) F dX10_letters_73 (by decide) ?_
                    refine v_iadd (pc' := 78) (z := nI (ct + 0)) F dX10_letters_77 (nI_add _ _) rfl ?_
                    refine v_istore_n (pc' := 79) (lv' := [(3, .int (nI (ct + 0))), (4, .int (nI 0)), (6, .int (nI (cd x9 j))), (5, .int (nI j)), (0, .ref o), (1, .long (lN x9))]) F dX10_letters_78 rfl (by decide) rfl rfl ?_
                    refine v_iinc (pc' := 82) (v := nI (j + 1)) (lv' := [(5, .int (nI (j + 1))), (3, .int (nI (ct + 0))), (4, .int (nI 0)), (6, .int (nI (cd x9 j))), (0, .ref o), (1, .long (lN x9))]) F dX10_letters_79 3 rfl (nI_add _ _) (by decide) rfl rfl ?_
                    refine v_goto (tgt := 8) F dX10_letters_82 (by decide) ?_
                    refine v_lpick (lz := [(5, .int (nI (j + 1))), (4, .int (nI 0)), (3, .int (nI (ct + 0))), (0, .ref o), (1, .long (lN x9))]) [0, 2, 1, 4, 5] rfl ?_
                    exact ih8 (j + 1) 0 (ct + 0) (by omega) (by first | exact ltN_0 hct (by assumption) | exact ltN_1 hct (by omega) (by omega) (by omega)) (by first | (exfalso; omega) | rw [if_pos (by omega)] | rw [if_neg (by omega)]) (by omega)
                · refine v_iconst (pc' := 60) (v := nI 1) F dX10_letters_59 (by decide) rfl ?_
                  refine v_goto (tgt := 64) F dX10_letters_60 (by decide) ?_
                  refine v_istore (pc' := 66) (lv' := [(4, .int (nI 1)), (6, .int (nI (cd x9 j))), (5, .int (nI j)), (3, .int (nI ct)), (0, .ref o), (1, .long (lN x9))]) F dX10_letters_64 (by decide) rfl rfl ?_
                  refine v_iload_n (pc' := 67) F dX10_letters_66 rfl 3 rfl rfl ?_
                  refine v_iload (pc' := 69) F dX10_letters_67 1 rfl rfl ?_
                  refine v_nif_ne (tgt := 76) (pc' := 72) F dX10_letters_69 (by omega) (by decide) rfl (fun c18 => ?_) (fun c18 => ?_)
                  · refine v_iconst (pc' := 77) (v := nI 1) F dX10_letters_76 (by decide) rfl ?_
                    refine v_iadd (pc' := 78) (z := nI (ct + 1)) F dX10_letters_77 (nI_add _ _) rfl ?_
                    refine v_istore_n (pc' := 79) (lv' := [(3, .int (nI (ct + 1))), (4, .int (nI 1)), (6, .int (nI (cd x9 j))), (5, .int (nI j)), (0, .ref o), (1, .long (lN x9))]) F dX10_letters_78 rfl (by decide) rfl rfl ?_
                    refine v_iinc (pc' := 82) (v := nI (j + 1)) (lv' := [(5, .int (nI (j + 1))), (3, .int (nI (ct + 1))), (4, .int (nI 1)), (6, .int (nI (cd x9 j))), (0, .ref o), (1, .long (lN x9))]) F dX10_letters_79 3 rfl (nI_add _ _) (by decide) rfl rfl ?_
                    refine v_goto (tgt := 8) F dX10_letters_82 (by decide) ?_
                    refine v_lpick (lz := [(5, .int (nI (j + 1))), (4, .int (nI 1)), (3, .int (nI (ct + 1))), (0, .ref o), (1, .long (lN x9))]) [0, 2, 1, 4, 5] rfl ?_
                    exact ih8 (j + 1) 1 (ct + 1) (by omega) (by first | exact ltN_0 hct (by assumption) | exact ltN_1 hct (by omega) (by omega) (by omega)) (by first | (exfalso; omega) | rw [if_pos (by omega)] | rw [if_neg (by omega)]) (by omega)
                  · refine v_iconst (pc' := 73) (v := nI 0) F dX10_letters_72 (by decide) rfl ?_
                    refine v_goto (tgt := 77) F dX10_letters_73 (by decide) ?_
                    refine v_iadd (pc' := 78) (z := nI (ct + 0)) F dX10_letters_77 (nI_add _ _) rfl ?_
                    refine v_istore_n (pc' := 79) (lv' := [(3, .int (nI (ct + 0))), (4, .int (nI 1)), (6, .int (nI (cd x9 j))), (5, .int (nI j)), (0, .ref o), (1, .long (lN x9))]) F dX10_letters_78 rfl (by decide) rfl rfl ?_
                    refine v_iinc (pc' := 82) (v := nI (j + 1)) (lv' := [(5, .int (nI (j + 1))), (3, .int (nI (ct + 0))), (4, .int (nI 1)), (6, .int (nI (cd x9 j))), (0, .ref o), (1, .long (lN x9))]) F dX10_letters_79 3 rfl (nI_add _ _) (by decide) rfl rfl ?_
                    refine v_goto (tgt := 8) F dX10_letters_82 (by decide) ?_
                    refine v_lpick (lz := [(5, .int (nI (j + 1))), (4, .int (nI 1)), (3, .int (nI (ct + 0))), (0, .ref o), (1, .long (lN x9))]) [0, 2, 1, 4, 5] rfl ?_
                    exact ih8 (j + 1) 1 (ct + 0) (by omega) (by first | exact ltN_0 hct (by assumption) | exact ltN_1 hct (by omega) (by omega) (by omega)) (by first | (exfalso; omega) | rw [if_pos (by omega)] | rw [if_neg (by omega)]) (by omega)
            · refine v_bipush (pc' := 48) (v := (-102)) F dX10_letters_46 (by decide) rfl ?_
              refine v_ws (wz := [(o, mO ma (va_up fi 15 (nI pl)) fl), (ma 16, aB G 32 pg)]) (by rw [← hpl, up_id]) ?_
              exact rt dX10_letters_48 ((va_up fi 15 (nI pl)), pl, pg) (have hq := let_no (pg := pg) (pl := pl) (ltN_end (ltN_no hct (by omega)) (by omega)); ⟨hq.1.symm, hq.2.symm, rfl⟩) rfl
  exact L8 (8 + 1) 0 0 0 (by omega) (rfl) (rfl) (by omega)
def rm_X10_blank : Room := { frames := 0, cells := 0, slots := 0, locals := 0 }
theorem in_X10_blank_X10 : ∀ w ∈ u_ws RX10 TX10 38, w ∈ wsX10_blank := fun w h => List.mem_cons_of_mem _ (List.mem_append_right _ (h))
set_option maxHeartbeats 4000000 in
set_option maxRecDepth 100000 in
theorem c_X10_blank {l : Launch} {D : va_G} {G : gT} (o : Nat) (ma : Nat → Nat) (fi : Nat → Int32) (fl : Nat → Int64) (pl : Nat) (hpl : fi 15 = nI pl) : CtI (σ := Unit) l yX10_blank wsX10_blank rm_X10_blank D G [.ref o] [(o, mO ma fi fl)] (fun r _ => r = nI pl) (fun _ => [(o, mO ma (va_up fi 15 (nI 0)) fl)]) := by
  refine openI (maxL := 2) (by decide) rfl (Nat.le_of_ble_eq_true rfl) ?_
  intro pgZ evZ sgZ mmZ agsZ blZ meZ cdZ AZ QZ F hmn rt
  refine v_lv (lz := [(0, .ref o)]) rfl ?_
  refine v_aload_n (pc' := 1) F dX10_blank_0 rfl 0 rfl rfl ?_
  refine v_get (pc' := 4) (v := .int (nI pl)) (C := RX10) (T := TX10) (N := 38) F dX10_blank_1 in_X10_blank_X10 0 rfl rfl 15 (by decide) (List.mem_of_getElem? (i := 1) rfl) (congrArg (fun z => some (Value.int z)) hpl) rfl ?_
  refine v_istore_n (pc' := 5) (lv' := [(1, .int (nI pl)), (0, .ref o)]) F dX10_blank_4 rfl (by decide) rfl rfl ?_
  refine v_aload_n (pc' := 6) F dX10_blank_5 rfl 1 rfl rfl ?_
  refine v_iconst (pc' := 7) (v := nI 0) F dX10_blank_6 (by decide) rfl ?_
  refine v_put (pc' := 10) (ws' := [(o, mO ma (va_up fi 15 (nI 0)) fl)]) (C := RX10) (T := TX10) (N := 38) F dX10_blank_7 in_X10_blank_X10 tyX10_ok nmX10 0 rfl rfl 15 (by decide) (List.mem_of_getElem? (i := 1) rfl) rfl rfl rfl (Nat.le_of_ble_eq_true rfl) rfl rfl ?_
  refine v_iload_n (pc' := 11) F dX10_blank_10 rfl 0 rfl rfl ?_
  exact rt dX10_blank_11 () rfl rfl
def rm_X3_isForeign : Room := { frames := 1, cells := 0, slots := 0, locals := 20 }
theorem in_X3_isForeign_X3 : ∀ w ∈ u_ws RX3 TX3 6, w ∈ wsX3_isForeign := fun w h => List.mem_cons_of_mem _ (List.mem_append_right _ (h))
set_option maxHeartbeats 4000000 in
set_option maxRecDepth 100000 in
theorem c_X3_isForeign {l : Launch} {D : va_G} {G : gT} (lw e0 e1 e2 e3 nt d : Nat) (ch : Nat) (hn : nt < 4) (hc : ch < 127) : CtI (σ := Unit) l yX3_isForeign wsX3_isForeign rm_X3_isForeign D G [.ref lw, .int (nI (fg ch))] [(lw, .inr (2, [.ref e0, .ref e1, .ref e2, .ref e3, .int (nI nt), .int (nI d)]))] (fun r _ => r = bI (fg ch < 4 ∧ ¬ fg ch = nt)) (fun _ => [(lw, .inr (2, [.ref e0, .ref e1, .ref e2, .ref e3, .int (nI nt), .int (nI d)]))]) := by
  refine openZ (maxL := 2) (by decide) rfl (Nat.le_of_ble_eq_true rfl) ?_
  intro pgZ evZ sgZ mmZ agsZ blZ meZ cdZ AZ QZ F hmn rt
  refine v_lv (lz := [(0, .ref lw), (1, .int (nI (fg ch)))]) rfl ?_
  refine v_iload_n (pc' := 1) F dX3_isForeign_0 rfl 1 rfl rfl ?_
  refine cSNI0 (pc' := 4) (As := [.int (nI (fg ch))]) (rest := []) F (c_X9_isCoin (nI (fg ch))) ⟨va_cnB 1 F.2.2.2.2.1 gX3_isForeign_X9_isCoin_n75 rfl rfl rfl (F.2.2.2.2.2.2.2.2.2.2.2.2.1) (F.2.2.2.2.1 _ (List.mem_of_getElem? (i := 3) rfl)) (by decide +kernel) ⟨Nat.le_of_ble_eq_true rfl, Nat.le_of_ble_eq_true rfl⟩, F.2.2.2.2.1 _ (List.mem_of_getElem? (i := 2) rfl), trivial⟩ rfl rfl (Nat.le_of_ble_eq_true rfl) dX3_isForeign_1 ⟨Nat.zero_le _, Nat.zero_le _⟩ rfl (fun r u q1 => ?_)
  obtain rfl := q1
  refine v_bif_eq (tgt := 19) (pc' := 7) F dX3_isForeign_4 (by decide) rfl (fun c2 => ?_) (fun c2 => ?_)
  · have hf : ¬ fg ch < 4 := fun q => c2 ((fg_4 ch hc).mpr q)
    refine v_iconst (pc' := 20) (v := nI 0) F dX3_isForeign_19 (by decide) rfl ?_
    exact rt rfl dX3_isForeign_20 () (nI0_b (by omega)) rfl
  · have hf : fg ch < 4 := (fg_4 ch hc).mp c2
    refine v_iload_n (pc' := 8) F dX3_isForeign_7 rfl 1 rfl rfl ?_
    refine v_aload_n (pc' := 9) F dX3_isForeign_8 rfl 0 rfl rfl ?_
    refine v_get (pc' := 12) (C := RX3) (T := TX3) (N := 6) F dX3_isForeign_9 in_X3_isForeign_X3 0 rfl rfl 4 (by decide) (List.mem_of_getElem? (i := 1) rfl) rfl rfl ?_
    refine v_ncmp_eq (tgt := 19) (pc' := 15) F dX3_isForeign_12 (by omega) (by omega) (by decide) rfl (fun c3 => ?_) (fun c3 => ?_)
    · refine v_iconst (pc' := 20) (v := nI 0) F dX3_isForeign_19 (by decide) rfl ?_
      exact rt rfl dX3_isForeign_20 () (nI0_b (by omega)) rfl
    · refine v_iconst (pc' := 16) (v := nI 1) F dX3_isForeign_15 (by decide) rfl ?_
      refine v_goto (tgt := 20) F dX3_isForeign_16 (by decide) ?_
      exact rt rfl dX3_isForeign_20 () (nI1_b (by omega)) rfl
def rm_X3_readTaken : Room := { frames := 2, cells := 0, slots := 0, locals := 41 }
theorem in_X3_readTaken_X3 : ∀ w ∈ u_ws RX3 TX3 6, w ∈ wsX3_readTaken := fun w h => List.mem_cons_of_mem _ (List.mem_append_right _ (h))
set_option maxHeartbeats 4000000 in
set_option maxRecDepth 100000 in
theorem c_X3_readTaken {l : Launch} {D : va_G} {G : gT} (lw e0 e1 e2 e3 nt d : Nat) (tk : Nat → Nat) (ch : Nat) (hn : nt < 4) (hc : ch < 127) (ht : tk nt < 16) : CtI (σ := (Nat → Nat)) l yX3_readTaken wsX3_readTaken rm_X3_readTaken D G [.ref lw, .int (nI (fg ch))] [(lw, .inr (2, [.ref e0, .ref e1, .ref e2, .ref e3, .int (nI nt), .int (nI d)])), (e0, aI G 4 tk)] (fun r u => r = bI (fg ch < 4 ∧ ¬ fg ch = nt ∧ ¬ tk nt / 2 ^ fg ch % 2 = 1) ∧ u = (if fg ch < 4 ∧ ¬ fg ch = nt ∧ ¬ tk nt / 2 ^ fg ch % 2 = 1 then va_up tk nt (tk nt ||| 1 * 2 ^ fg ch) else tk)) (fun u => [(lw, .inr (2, [.ref e0, .ref e1, .ref e2, .ref e3, .int (nI nt), .int (nI d)])), (e0, aI G 4 u)]) := by
  refine openZ (maxL := 2) (by decide) rfl (Nat.le_of_ble_eq_true rfl) ?_
  intro pgZ evZ sgZ mmZ agsZ blZ meZ cdZ AZ QZ F hmn rt
  refine v_lv (lz := [(0, .ref lw), (1, .int (nI (fg ch)))]) rfl ?_
  refine v_aload_n (pc' := 1) F dX3_readTaken_0 rfl 0 rfl rfl ?_
  refine v_iload_n (pc' := 2) F dX3_readTaken_1 rfl 1 rfl rfl ?_
  refine cVI (pc' := 5) (As := [.int (nI (fg ch))]) (rest := []) (wr := [(e0, aI G 4 tk)]) F (c_X3_isForeign lw e0 e1 e2 e3 nt d ch hn hc) (cwV 1 F.2.2.2.2.1 gX3_readTaken_X3_isForeign rfl rfl rfl (by decide +kernel) ⟨Nat.le_of_ble_eq_true rfl, Nat.le_of_ble_eq_true rfl⟩) (v_rcvW F 2 0 rfl rfl) rfl rfl (Nat.le_of_ble_eq_true rfl) dX3_readTaken_2 [0] [1] (by decide) rfl rfl (by decide) (by decide) ⟨Nat.zero_le _, Nat.zero_le _⟩ rfl (fun r u q1 => ?_)
  obtain rfl := q1
  refine v_ws (wz := [(e0, aI G 4 tk), (lw, .inr (2, [.ref e0, .ref e1, .ref e2, .ref e3, .int (nI nt), .int (nI d)]))]) rfl ?_
  refine v_bif_eq (tgt := 25) (pc' := 8) F dX3_readTaken_5 (by decide) rfl (fun c2 => ?_) (fun c2 => ?_)
  · refine v_iconst (pc' := 26) (v := nI 0) F dX3_readTaken_25 (by decide) rfl ?_
    refine v_perm (wz := [(lw, .inr (2, [.ref e0, .ref e1, .ref e2, .ref e3, .int (nI nt), .int (nI d)])), (e0, aI G 4 tk)]) [1, 0] (by decide) rfl ?_
    exact rt rfl dX3_readTaken_26 tk ⟨(nI0_b (by omega)), (by rw [if_neg (by omega)])⟩ rfl
  · have hdv := Nat.div_le_self (tk nt) (2 ^ fg ch)
    refine v_aload_n (pc' := 9) F dX3_readTaken_8 rfl 0 rfl rfl ?_
    refine v_get (pc' := 12) (C := RX3) (T := TX3) (N := 6) F dX3_readTaken_9 in_X3_readTaken_X3 1 rfl rfl 0 (by decide) (List.mem_of_getElem? (i := 1) rfl) rfl rfl ?_
    refine v_aload_n (pc' := 13) F dX3_readTaken_12 rfl 0 rfl rfl ?_
    refine v_get (pc' := 16) (C := RX3) (T := TX3) (N := 6) F dX3_readTaken_13 in_X3_readTaken_X3 1 rfl rfl 4 (by decide) (List.mem_of_getElem? (i := 2) rfl) rfl rfl ?_
    refine v_iald (pc' := 17) (z := tk nt) F dX3_readTaken_16 0 rfl (by omega) (by first | decide | omega) rfl rfl ?_
    refine v_iload_n (pc' := 18) F dX3_readTaken_17 rfl 1 rfl rfl ?_
    refine v_ishr (pc' := 19) (z := nI ((tk nt) / 2 ^ (fg ch))) F dX3_readTaken_18 (ni_shr (by omega) (by omega)) rfl ?_
    refine v_iconst (pc' := 20) (v := nI 1) F dX3_readTaken_19 (by decide) rfl ?_
    refine v_iand (pc' := 21) (z := nI (((tk nt) / 2 ^ (fg ch)) % 2)) F dX3_readTaken_20 (pk_andN (by omega) 1 (by decide)) rfl ?_
    refine v_iconst (pc' := 22) (v := nI 1) F dX3_readTaken_21 (by decide) rfl ?_
    refine v_ncmp_ne (tgt := 27) (pc' := 25) F dX3_readTaken_22 (by omega) (by omega) (by decide) rfl (fun c3 => ?_) (fun c3 => ?_)
    · refine v_aload_n (pc' := 28) F dX3_readTaken_27 rfl 0 rfl rfl ?_
      refine v_get (pc' := 31) (C := RX3) (T := TX3) (N := 6) F dX3_readTaken_28 in_X3_readTaken_X3 1 rfl rfl 0 (by decide) (List.mem_of_getElem? (i := 1) rfl) rfl rfl ?_
      refine v_aload_n (pc' := 32) F dX3_readTaken_31 rfl 0 rfl rfl ?_
      refine v_get (pc' := 35) (C := RX3) (T := TX3) (N := 6) F dX3_readTaken_32 in_X3_readTaken_X3 1 rfl rfl 4 (by decide) (List.mem_of_getElem? (i := 2) rfl) rfl rfl ?_
      refine v_dup2 (pc' := 36) F dX3_readTaken_35 rfl rfl rfl ?_
      refine v_iald (pc' := 37) (z := tk nt) F dX3_readTaken_36 0 rfl (by omega) (by first | decide | omega) rfl rfl ?_
      refine v_iconst (pc' := 38) (v := nI 1) F dX3_readTaken_37 (by decide) rfl ?_
      refine v_iload_n (pc' := 39) F dX3_readTaken_38 rfl 1 rfl rfl ?_
      refine v_ishl (pc' := 40) (z := nI (1 * 2 ^ fg ch)) F dX3_readTaken_39 (ni_shl (by omega) (by have := pw_le8 (show fg ch < 4 by omega); omega)) rfl ?_
      refine v_ior (pc' := 41) (z := nI ((tk nt) ||| (1 * 2 ^ fg ch))) F dX3_readTaken_40 (ni_or _ _) rfl ?_
      refine v_iast (pc' := 42) (ws' := [(e0, aI G 4 (va_up tk nt ((tk nt) ||| (1 * 2 ^ fg ch)))), (lw, .inr (2, [.ref e0, .ref e1, .ref e2, .ref e3, .int (nI nt), .int (nI d)]))]) F dX3_readTaken_41 0 rfl (by omega) (by first | decide | omega) rfl rfl ?_
      refine v_iconst (pc' := 43) (v := nI 1) F dX3_readTaken_42 (by decide) rfl ?_
      refine v_perm (wz := [(lw, .inr (2, [.ref e0, .ref e1, .ref e2, .ref e3, .int (nI nt), .int (nI d)])), (e0, aI G 4 (va_up tk nt ((tk nt) ||| (1 * 2 ^ fg ch))))]) [1, 0] (by decide) rfl ?_
      exact rt rfl dX3_readTaken_43 (va_up tk nt ((tk nt) ||| (1 * 2 ^ fg ch))) ⟨(nI1_b (by omega)), (by rw [if_pos (by omega)])⟩ rfl
    · refine v_iconst (pc' := 26) (v := nI 0) F dX3_readTaken_25 (by decide) rfl ?_
      refine v_perm (wz := [(lw, .inr (2, [.ref e0, .ref e1, .ref e2, .ref e3, .int (nI nt), .int (nI d)])), (e0, aI G 4 tk)]) [1, 0] (by decide) rfl ?_
      exact rt rfl dX3_readTaken_26 tk ⟨(nI0_b (by omega)), (by rw [if_neg (by omega)])⟩ rfl
def rm_X3_endTakes : Room := { frames := 0, cells := 0, slots := 0, locals := 0 }
theorem in_X3_endTakes_X3 : ∀ w ∈ u_ws RX3 TX3 6, w ∈ wsX3_endTakes := fun w h => List.mem_cons_of_mem _ (List.mem_append_right _ (h))
set_option maxHeartbeats 4000000 in
set_option maxRecDepth 100000 in
theorem c_X3_endTakes {l : Launch} {D : va_G} {G : gT} (lw e0 e1 e2 e3 nt d : Nat) (tk : Nat → Nat) (hn : nt < 4) (ht : tk nt < 16) : CtI (σ := Unit) l yX3_endTakes wsX3_endTakes rm_X3_endTakes D G [.ref lw] [(lw, .inr (2, [.ref e0, .ref e1, .ref e2, .ref e3, .int (nI nt), .int (nI d)])), (e0, aI G 4 tk)] (fun r _ => r = bI (¬ tk nt = 0)) (fun _ => [(lw, .inr (2, [.ref e0, .ref e1, .ref e2, .ref e3, .int (nI nt), .int (nI (if tk nt = 0 then d else 1))])), (e0, aI G 4 tk)]) := by
  refine openZ (maxL := 1) (by decide) rfl (Nat.le_of_ble_eq_true rfl) ?_
  intro pgZ evZ sgZ mmZ agsZ blZ meZ cdZ AZ QZ F hmn rt
  refine v_lv (lz := [(0, .ref lw)]) rfl ?_
  refine v_aload_n (pc' := 1) F dX3_endTakes_0 rfl 0 rfl rfl ?_
  refine v_get (pc' := 4) (C := RX3) (T := TX3) (N := 6) F dX3_endTakes_1 in_X3_endTakes_X3 0 rfl rfl 0 (by decide) (List.mem_of_getElem? (i := 1) rfl) rfl rfl ?_
  refine v_aload_n (pc' := 5) F dX3_endTakes_4 rfl 0 rfl rfl ?_
  refine v_get (pc' := 8) (C := RX3) (T := TX3) (N := 6) F dX3_endTakes_5 in_X3_endTakes_X3 0 rfl rfl 4 (by decide) (List.mem_of_getElem? (i := 2) rfl) rfl rfl ?_
  refine v_iald (pc' := 9) (z := tk nt) F dX3_endTakes_8 1 rfl (by omega) (by first | decide | omega) rfl rfl ?_
  refine v_nif_ne (tgt := 14) (pc' := 12) F dX3_endTakes_9 (by omega) (by decide) rfl (fun c1 => ?_) (fun c1 => ?_)
  · refine v_aload_n (pc' := 15) F dX3_endTakes_14 rfl 0 rfl rfl ?_
    refine v_iconst (pc' := 16) (v := nI 1) F dX3_endTakes_15 (by decide) rfl ?_
    refine v_put (pc' := 19) (ws' := [(lw, .inr (2, [.ref e0, .ref e1, .ref e2, .ref e3, .int (nI nt), .int (nI 1)])), (e0, aI G 4 tk)]) (C := RX3) (T := TX3) (N := 6) F dX3_endTakes_16 in_X3_endTakes_X3 tyX3_ok nmX3 0 rfl rfl 5 (by decide) (List.mem_of_getElem? (i := 3) rfl) rfl rfl rfl (Nat.le_of_ble_eq_true rfl) rfl rfl ?_
    refine v_iconst (pc' := 20) (v := nI 1) F dX3_endTakes_19 (by decide) rfl ?_
    refine v_ws (wz := [(lw, .inr (2, [.ref e0, .ref e1, .ref e2, .ref e3, .int (nI nt), .int (nI (if tk nt = 0 then d else 1))])), (e0, aI G 4 tk)]) (by rw [if_neg (by assumption)]) ?_
    exact rt rfl dX3_endTakes_20 () (nI1_b (by assumption)) rfl
  · refine v_iconst (pc' := 13) (v := nI 0) F dX3_endTakes_12 (by decide) rfl ?_
    refine v_ws (wz := [(lw, .inr (2, [.ref e0, .ref e1, .ref e2, .ref e3, .int (nI nt), .int (nI (if tk nt = 0 then d else 1))])), (e0, aI G 4 tk)]) (by rw [if_pos (by assumption)]) ?_
    exact rt rfl dX3_endTakes_13 () (nI0_b (by omega)) rfl
def rm_X3_put : Room := { frames := 0, cells := 0, slots := 0, locals := 0 }
theorem in_X3_put_X3 : ∀ w ∈ u_ws RX3 TX3 6, w ∈ wsX3_put := fun w h => List.mem_cons_of_mem _ (List.mem_append_right _ (h))
set_option maxHeartbeats 4000000 in
set_option maxRecDepth 100000 in
theorem c_X3_put {l : Launch} {D : va_G} {G : gT} (lw e0 e1 e2 e3 nt d : Nat) (ra : Nat) (f : Nat → Nat) (v : Nat) (hn : nt < 4) (hd : d < 5) : CtI (σ := Unit) l yX3_put wsX3_put rm_X3_put D G [.ref lw, .ref ra, .int (nI v)] [(lw, .inr (2, [.ref e0, .ref e1, .ref e2, .ref e3, .int (nI nt), .int (nI d)])), (ra, aI G 4 f)] (fun r _ => r = nI 1) (fun _ => [(lw, .inr (2, [.ref e0, .ref e1, .ref e2, .ref e3, .int (nI nt), .int (nI (d + 1))])), (ra, aI G 4 (va_up f nt v))]) := by
  refine openZ (maxL := 3) (by decide) rfl (Nat.le_of_ble_eq_true rfl) ?_
  intro pgZ evZ sgZ mmZ agsZ blZ meZ cdZ AZ QZ F hmn rt
  refine v_lv (lz := [(0, .ref lw), (1, .ref ra), (2, .int (nI v))]) rfl ?_
  refine v_aload_n (pc' := 1) F dX3_put_0 rfl 1 rfl rfl ?_
  refine v_aload_n (pc' := 2) F dX3_put_1 rfl 0 rfl rfl ?_
  refine v_get (pc' := 5) (C := RX3) (T := TX3) (N := 6) F dX3_put_2 in_X3_put_X3 0 rfl rfl 4 (by decide) (List.mem_of_getElem? (i := 1) rfl) rfl rfl ?_
  refine v_iload_n (pc' := 6) F dX3_put_5 rfl 2 rfl rfl ?_
  refine v_iast (pc' := 7) (ws' := [(lw, .inr (2, [.ref e0, .ref e1, .ref e2, .ref e3, .int (nI nt), .int (nI d)])), (ra, aI G 4 (va_up f nt v))]) F dX3_put_6 1 rfl (by omega) (by first | decide | omega) rfl rfl ?_
  refine v_aload_n (pc' := 8) F dX3_put_7 rfl 0 rfl rfl ?_
  refine v_dup (pc' := 9) F dX3_put_8 rfl rfl ?_
  refine v_get (pc' := 12) (C := RX3) (T := TX3) (N := 6) F dX3_put_9 in_X3_put_X3 0 rfl rfl 5 (by decide) (List.mem_of_getElem? (i := 2) rfl) rfl rfl ?_
  refine v_iconst (pc' := 13) (v := nI 1) F dX3_put_12 (by decide) rfl ?_
  refine v_iadd (pc' := 14) (z := nI (d + 1)) F dX3_put_13 (nI_add _ _) rfl ?_
  refine v_put (pc' := 17) (ws' := [(lw, .inr (2, [.ref e0, .ref e1, .ref e2, .ref e3, .int (nI nt), .int (nI (d + 1))])), (ra, aI G 4 (va_up f nt v))]) (C := RX3) (T := TX3) (N := 6) F dX3_put_14 in_X3_put_X3 tyX3_ok nmX3 0 rfl rfl 5 (by decide) (List.mem_of_getElem? (i := 2) rfl) rfl rfl rfl (Nat.le_of_ble_eq_true rfl) rfl rfl ?_
  refine v_iconst (pc' := 18) (v := nI 1) F dX3_put_17 (by decide) rfl ?_
  exact rt rfl dX3_put_18 () rfl rfl
def rm_X3_nextPart : Room := { frames := 0, cells := 0, slots := 0, locals := 0 }
theorem in_X3_nextPart_X3 : ∀ w ∈ u_ws RX3 TX3 6, w ∈ wsX3_nextPart := fun w h => List.mem_cons_of_mem _ (List.mem_append_right _ (h))
set_option maxHeartbeats 4000000 in
set_option maxRecDepth 100000 in
theorem c_X3_nextPart {l : Launch} {D : va_G} {G : gT} (lw e0 e1 e2 e3 nt d : Nat) (hn : nt < 4) : CtI (σ := Unit) l yX3_nextPart wsX3_nextPart rm_X3_nextPart D G [.ref lw] [(lw, .inr (2, [.ref e0, .ref e1, .ref e2, .ref e3, .int (nI nt), .int (nI d)]))] (fun r _ => r = bI (¬ nt = 3)) (fun _ => [(lw, .inr (2, [.ref e0, .ref e1, .ref e2, .ref e3, .int (nI (if nt = 3 then nt else nt + 1)), .int (nI (if nt = 3 then d else 0))]))]) := by
  refine openZ (maxL := 1) (by decide) rfl (Nat.le_of_ble_eq_true rfl) ?_
  intro pgZ evZ sgZ mmZ agsZ blZ meZ cdZ AZ QZ F hmn rt
  refine v_lv (lz := [(0, .ref lw)]) rfl ?_
  refine v_aload_n (pc' := 1) F dX3_nextPart_0 rfl 0 rfl rfl ?_
  refine v_get (pc' := 4) (C := RX3) (T := TX3) (N := 6) F dX3_nextPart_1 in_X3_nextPart_X3 0 rfl rfl 4 (by decide) (List.mem_of_getElem? (i := 1) rfl) rfl rfl ?_
  refine v_iconst (pc' := 5) (v := nI 3) F dX3_nextPart_4 (by decide) rfl ?_
  refine v_ncmp_lt (tgt := 10) (pc' := 8) F dX3_nextPart_5 (by omega) (by omega) (by decide) rfl (fun c1 => ?_) (fun c1 => ?_)
  · refine v_aload_n (pc' := 11) F dX3_nextPart_10 rfl 0 rfl rfl ?_
    refine v_dup (pc' := 12) F dX3_nextPart_11 rfl rfl ?_
    refine v_get (pc' := 15) (C := RX3) (T := TX3) (N := 6) F dX3_nextPart_12 in_X3_nextPart_X3 0 rfl rfl 4 (by decide) (List.mem_of_getElem? (i := 1) rfl) rfl rfl ?_
    refine v_iconst (pc' := 16) (v := nI 1) F dX3_nextPart_15 (by decide) rfl ?_
    refine v_iadd (pc' := 17) (z := nI (nt + 1)) F dX3_nextPart_16 (nI_add _ _) rfl ?_
    refine v_put (pc' := 20) (ws' := [(lw, .inr (2, [.ref e0, .ref e1, .ref e2, .ref e3, .int (nI (nt + 1)), .int (nI d)]))]) (C := RX3) (T := TX3) (N := 6) F dX3_nextPart_17 in_X3_nextPart_X3 tyX3_ok nmX3 0 rfl rfl 4 (by decide) (List.mem_of_getElem? (i := 1) rfl) rfl rfl rfl (Nat.le_of_ble_eq_true rfl) rfl rfl ?_
    refine v_aload_n (pc' := 21) F dX3_nextPart_20 rfl 0 rfl rfl ?_
    refine v_iconst (pc' := 22) (v := nI 0) F dX3_nextPart_21 (by decide) rfl ?_
    refine v_put (pc' := 25) (ws' := [(lw, .inr (2, [.ref e0, .ref e1, .ref e2, .ref e3, .int (nI (nt + 1)), .int (nI 0)]))]) (C := RX3) (T := TX3) (N := 6) F dX3_nextPart_22 in_X3_nextPart_X3 tyX3_ok nmX3 0 rfl rfl 5 (by decide) (List.mem_of_getElem? (i := 2) rfl) rfl rfl rfl (Nat.le_of_ble_eq_true rfl) rfl rfl ?_
    refine v_iconst (pc' := 26) (v := nI 1) F dX3_nextPart_25 (by decide) rfl ?_
    refine v_ws (wz := [(lw, .inr (2, [.ref e0, .ref e1, .ref e2, .ref e3, .int (nI (if nt = 3 then nt else nt + 1)), .int (nI (if nt = 3 then d else 0))]))]) (by rw [if_neg (by omega), if_neg (by omega)]) ?_
    exact rt rfl dX3_nextPart_26 () (nI1_b (by omega)) rfl
  · refine v_iconst (pc' := 9) (v := nI 0) F dX3_nextPart_8 (by decide) rfl ?_
    refine v_ws (wz := [(lw, .inr (2, [.ref e0, .ref e1, .ref e2, .ref e3, .int (nI (if nt = 3 then nt else nt + 1)), .int (nI (if nt = 3 then d else 0))]))]) (by rw [if_pos (by omega), if_pos (by omega)]) ?_
    exact rt rfl dX3_nextPart_9 () (nI0_b (by omega)) rfl
def rm_X3_readLetter : Room := { frames := 3, cells := 0, slots := 0, locals := 62 }
theorem in_X3_readLetter_X3 : ∀ w ∈ u_ws RX3 TX3 6, w ∈ wsX3_readLetter := fun w h => List.mem_cons_of_mem _ (List.mem_append_right _ (h))
set_option maxHeartbeats 4000000 in
set_option maxRecDepth 100000 in
theorem c_X3_readLetter {l : Launch} {D : va_G} {G : gT} (lw e0 e1 e2 e3 nt st : Nat) (tk gv pr py : Nat → Nat) (ch : Nat) (hn : nt < 4) (hs : st < 6) (hc : ch < 127) (ht : tk nt < 16) (hz : st = 0 → tk nt = 0) (hz1 : 1 ≤ st → ¬ tk nt = 0) : CtI (σ := rS) l yX3_readLetter wsX3_readLetter rm_X3_readLetter D G [.ref lw, .int (nI ch)] [(lw, .inr (2, [.ref e0, .ref e1, .ref e2, .ref e3, .int (nI nt), .int (nI (dueOf st))])), (e0, aI G 4 tk), (e1, aI G 4 gv), (e2, aI G 4 pr), (e3, aI G 4 py)] (fun r u => r = bI (rdB nt st tk gv pr py ch) ∧ u = rdG nt st tk gv pr py ch) (fun u => [(lw, .inr (2, [.ref e0, .ref e1, .ref e2, .ref e3, .int (nI u.1), .int (nI (dueOf u.2.1))])), (e0, aI G 4 u.2.2.1), (e1, aI G 4 u.2.2.2.1), (e2, aI G 4 u.2.2.2.2.1), (e3, aI G 4 u.2.2.2.2.2)]) := by
  refine openZ (maxL := 3) (by decide) rfl (Nat.le_of_ble_eq_true rfl) ?_
  intro pgZ evZ sgZ mmZ agsZ blZ meZ cdZ AZ QZ F hmn rt
  refine v_lv (lz := [(0, .ref lw), (1, .int (nI ch))]) rfl ?_
  have hdl := dueOf_le hs
  have hfg := fg_nI ch hc
  have hf4 := fg_4 ch hc
  have hfp := fg_p ch hc
  have hf5 := fg_5 ch hc
  have hpw := fun q : fg ch < 4 => pw_le8 q
  refine v_iload_n (pc' := 1) F dX3_readLetter_0 rfl 1 rfl rfl ?_
  refine v_bipush (pc' := 3) (v := nI 48) F dX3_readLetter_1 (by decide) rfl ?_
  refine v_isub (pc' := 4) (z := nI (fg ch)) F dX3_readLetter_3 hfg rfl ?_
  refine v_istore_n (pc' := 5) (lv' := [(2, .int (nI (fg ch))), (0, .ref lw), (1, .int (nI ch))]) F dX3_readLetter_4 rfl (by decide) rfl rfl ?_
  refine v_aload_n (pc' := 6) F dX3_readLetter_5 rfl 1 rfl rfl ?_
  refine v_get (pc' := 9) (C := RX3) (T := TX3) (N := 6) F dX3_readLetter_6 in_X3_readLetter_X3 0 rfl rfl 5 (by decide) (List.mem_of_getElem? (i := 1) rfl) rfl rfl ?_
  rcases (show (dueOf st) = 0 ∨ (dueOf st) = 1 ∨ (dueOf st) = 2 ∨ (dueOf st) = 3 ∨ 3 < (dueOf st) by omega) with h1 | h1 | h1 | h1 | h1
  · refine v_nswI (k := 0) (off := 31) (tgt := 40) F dX3_readLetter_9 h1 (by decide) (by decide) (by decide) (by decide) (by decide) ?_
    refine v_iload_n (pc' := 41) F dX3_readLetter_40 rfl 2 rfl rfl ?_
    refine v_bipush (pc' := 43) (v := nI 58) F dX3_readLetter_41 (by decide) rfl ?_
    refine v_ncmp_ne (tgt := 53) (pc' := 46) F dX3_readLetter_43 (by omega) (by omega) (by decide) rfl (fun c2 => ?_) (fun c2 => ?_)
    · refine v_aload_n (pc' := 54) F dX3_readLetter_53 rfl 1 rfl rfl ?_
      refine v_iload_n (pc' := 55) F dX3_readLetter_54 rfl 0 rfl rfl ?_
      refine cVI (pc' := 58) (As := [.int (nI (fg ch))]) (rest := []) (wr := [(e1, aI G 4 gv), (e2, aI G 4 pr), (e3, aI G 4 py)]) F (c_X3_readTaken lw e0 e1 e2 e3 nt (dueOf st) tk ch hn hc ht) (cwV 1 F.2.2.2.2.1 gX3_readLetter_X3_readTaken rfl rfl rfl (by decide +kernel) ⟨Nat.le_of_ble_eq_true rfl, Nat.le_of_ble_eq_true rfl⟩) (v_rcvW F 2 0 rfl rfl) rfl rfl (Nat.le_of_ble_eq_true rfl) dX3_readLetter_55 [0, 1] [2, 3, 4] (by decide) rfl rfl (by decide) (by decide) ⟨Nat.zero_le _, Nat.zero_le _⟩ rfl (fun r u q5 => ?_)
      obtain ⟨tk2_3, hu9⟩ : ∃ z, z = u := ⟨_, rfl⟩
      subst hu9
      obtain ⟨rfl, hN_4⟩ := q5
      refine v_ws (wz := [(e1, aI G 4 gv), (e2, aI G 4 pr), (e3, aI G 4 py), (lw, .inr (2, [.ref e0, .ref e1, .ref e2, .ref e3, .int (nI nt), .int (nI (dueOf st))])), (e0, aI G 4 tk2_3)]) rfl ?_
      by_cases hy : fg ch < 4 ∧ ¬ fg ch = nt ∧ ¬ tk nt / 2 ^ fg ch % 2 = 1
      · have hd1 := dueOf_0 (st := st) (by omega)
        have hdd : dueOf 1 = 0 := rfl
        refine v_ws (wz := [(e1, aI G 4 gv), (e2, aI G 4 pr), (e3, aI G 4 py), (lw, .inr (2, [.ref e0, .ref e1, .ref e2, .ref e3, .int (nI nt), .int (nI (dueOf 1))])), (e0, aI G 4 tk2_3)]) (by rw [show dueOf st = dueOf 1 by omega]) ?_
        refine v_perm (wz := [(lw, .inr (2, [.ref e0, .ref e1, .ref e2, .ref e3, .int (nI nt), .int (nI (dueOf 1))])), (e0, aI G 4 tk2_3), (e1, aI G 4 gv), (e2, aI G 4 pr), (e3, aI G 4 py)]) [3, 4, 0, 1, 2] (by decide) rfl ?_
        exact rt (nar_bI _) dX3_readLetter_58 (nt, 1, tk2_3, gv, pr, py) (have hq := rd_y (rdS_a (gv := gv) (pr := pr) (py := py) hd1 hy.1 hy.2.1 hy.2.2); ⟨bI_cong (iff_of_true hy hq.1), by rw [show tk2_3 = va_up tk nt (tk nt ||| 1 * 2 ^ fg ch) from hN_4.trans (if_pos hy)]; exact hq.2⟩) rfl
      · have hdd : True := trivial
        refine v_perm (wz := [(lw, .inr (2, [.ref e0, .ref e1, .ref e2, .ref e3, .int (nI nt), .int (nI (dueOf st))])), (e0, aI G 4 tk2_3), (e1, aI G 4 gv), (e2, aI G 4 pr), (e3, aI G 4 py)]) [3, 4, 0, 1, 2] (by decide) rfl ?_
        exact rt (nar_bI _) dX3_readLetter_58 (nt, st, tk2_3, gv, pr, py) (have hq := rd_n (rdS_c (gv := gv) (pr := pr) (py := py) (dueOf_0 (by omega)) hy (fun q => absurd q.2 (by assumption))); ⟨bI_cong (iff_of_false hy hq.1), by rw [show tk2_3 = tk from hN_4.trans (if_neg hy)]; exact hq.2⟩) rfl
    · refine v_aload_n (pc' := 47) F dX3_readLetter_46 rfl 1 rfl rfl ?_
      refine cVI (pc' := 50) (As := []) (rest := []) (wr := [(e1, aI G 4 gv), (e2, aI G 4 pr), (e3, aI G 4 py)]) F (c_X3_endTakes lw e0 e1 e2 e3 nt (dueOf st) tk hn ht) (cwV 0 F.2.2.2.2.1 gX3_readLetter_X3_endTakes rfl rfl rfl (by decide +kernel) ⟨Nat.le_of_ble_eq_true rfl, Nat.le_of_ble_eq_true rfl⟩) (v_rcvW F 2 0 rfl rfl) rfl rfl (Nat.le_of_ble_eq_true rfl) dX3_readLetter_47 [0, 1] [2, 3, 4] (by decide) rfl rfl (by decide) (by decide) ⟨Nat.zero_le _, Nat.zero_le _⟩ rfl (fun r u q6 => ?_)
      obtain rfl := q6
      refine v_ws (wz := [(e1, aI G 4 gv), (e2, aI G 4 pr), (e3, aI G 4 py), (lw, .inr (2, [.ref e0, .ref e1, .ref e2, .ref e3, .int (nI nt), .int (nI (if tk nt = 0 then (dueOf st) else 1))])), (e0, aI G 4 tk)]) rfl ?_
      refine v_goto (tgt := 58) F dX3_readLetter_50 (by decide) ?_
      by_cases hy : tk nt = 0
      · refine v_ws (wz := [(e1, aI G 4 gv), (e2, aI G 4 pr), (e3, aI G 4 py), (lw, .inr (2, [.ref e0, .ref e1, .ref e2, .ref e3, .int (nI nt), .int (nI (dueOf st))])), (e0, aI G 4 tk)]) (by rw [if_pos hy]) ?_
        refine v_perm (wz := [(lw, .inr (2, [.ref e0, .ref e1, .ref e2, .ref e3, .int (nI nt), .int (nI (dueOf st))])), (e0, aI G 4 tk), (e1, aI G 4 gv), (e2, aI G 4 pr), (e3, aI G 4 py)]) [3, 4, 0, 1, 2] (by decide) rfl ?_
        exact rt (nar_bI _) dX3_readLetter_58 (nt, st, tk, gv, pr, py) (have hq := rd_n (rdS_c (gv := gv) (pr := pr) (py := py) (by omega) (by rw [show ch = 58 by assumption]; intro q; exact absurd q.1 (by decide)) (fun q => absurd hy (hz1 (by omega)))); ⟨bI_cong (iff_of_false (fun q => q hy) hq.1), hq.2⟩) rfl
      · refine v_ws (wz := [(e1, aI G 4 gv), (e2, aI G 4 pr), (e3, aI G 4 py), (lw, .inr (2, [.ref e0, .ref e1, .ref e2, .ref e3, .int (nI nt), .int (nI (dueOf 2))])), (e0, aI G 4 tk)]) (by rw [if_neg hy]; rfl) ?_
        refine v_perm (wz := [(lw, .inr (2, [.ref e0, .ref e1, .ref e2, .ref e3, .int (nI nt), .int (nI (dueOf 2))])), (e0, aI G 4 tk), (e1, aI G 4 gv), (e2, aI G 4 pr), (e3, aI G 4 py)]) [3, 4, 0, 1, 2] (by decide) rfl ?_
        exact rt (nar_bI _) dX3_readLetter_58 (nt, 2, tk, gv, pr, py) (have hq := rd_y (rdS_b (nt := nt) (tk := tk) (gv := gv) (pr := pr) (py := py) (show st = 1 by have q1 := dueOf_0 (st := st) (by omega); by_cases q : st = 0; exact absurd (hz q) hy; omega) (show ch = 58 by assumption)); ⟨bI_cong (iff_of_true hy hq.1), hq.2⟩) rfl
  · refine v_nswI (k := 1) (off := 50) (tgt := 59) F dX3_readLetter_9 h1 (by decide) (by decide) (by decide) (by decide) (by decide) ?_
    refine v_aload_n (pc' := 60) F dX3_readLetter_59 rfl 1 rfl rfl ?_
    refine v_iload_n (pc' := 61) F dX3_readLetter_60 rfl 0 rfl rfl ?_
    refine cVI (pc' := 64) (As := [.int (nI (fg ch))]) (rest := []) (wr := [(e0, aI G 4 tk), (e1, aI G 4 gv), (e2, aI G 4 pr), (e3, aI G 4 py)]) F (c_X3_isForeign lw e0 e1 e2 e3 nt (dueOf st) ch hn hc) (cwV 1 F.2.2.2.2.1 gX3_readLetter_X3_isForeign rfl rfl rfl (by decide +kernel) ⟨Nat.le_of_ble_eq_true rfl, Nat.le_of_ble_eq_true rfl⟩) (v_rcvW F 2 0 rfl rfl) rfl rfl (Nat.le_of_ble_eq_true rfl) dX3_readLetter_61 [0] [1, 2, 3, 4] (by decide) rfl rfl (by decide) (by decide) ⟨Nat.zero_le _, Nat.zero_le _⟩ rfl (fun r u q7 => ?_)
    obtain rfl := q7
    refine v_ws (wz := [(e0, aI G 4 tk), (e1, aI G 4 gv), (e2, aI G 4 pr), (e3, aI G 4 py), (lw, .inr (2, [.ref e0, .ref e1, .ref e2, .ref e3, .int (nI nt), .int (nI (dueOf st))]))]) rfl ?_
    refine v_bif_eq (tgt := 83) (pc' := 67) F dX3_readLetter_64 (by decide) rfl (fun c8 => ?_) (fun c8 => ?_)
    · refine v_iconst (pc' := 84) (v := nI 0) F dX3_readLetter_83 (by decide) rfl ?_
      refine v_perm (wz := [(lw, .inr (2, [.ref e0, .ref e1, .ref e2, .ref e3, .int (nI nt), .int (nI (dueOf st))])), (e0, aI G 4 tk), (e1, aI G 4 gv), (e2, aI G 4 pr), (e3, aI G 4 py)]) [4, 0, 1, 2, 3] (by decide) rfl ?_
      exact rt rfl dX3_readLetter_84 (nt, st, tk, gv, pr, py) (have hq := rd_n (rdS_e (nt := nt) (tk := tk) (gv := gv) (pr := pr) (py := py) (dueOf_k (k := 0) (by omega)) (by omega)); ⟨nI0_b hq.1, hq.2⟩) rfl
    · refine v_aload_n (pc' := 68) F dX3_readLetter_67 rfl 1 rfl rfl ?_
      refine v_aload_n (pc' := 69) F dX3_readLetter_68 rfl 1 rfl rfl ?_
      refine v_get (pc' := 72) (C := RX3) (T := TX3) (N := 6) F dX3_readLetter_69 in_X3_readLetter_X3 4 rfl rfl 1 (by decide) (List.mem_of_getElem? (i := 2) rfl) rfl rfl ?_
      refine v_iload_n (pc' := 73) F dX3_readLetter_72 rfl 0 rfl rfl ?_
      refine cVI (pc' := 76) (As := [.ref e1, .int (nI (fg ch))]) (rest := []) (wr := [(e0, aI G 4 tk), (e2, aI G 4 pr), (e3, aI G 4 py)]) F (c_X3_put lw e0 e1 e2 e3 nt (dueOf st) e1 gv (fg ch) hn (by omega)) (cwV 2 F.2.2.2.2.1 gX3_readLetter_X3_put rfl rfl rfl (by decide +kernel) ⟨Nat.le_of_ble_eq_true rfl, Nat.le_of_ble_eq_true rfl⟩) (v_rcvW F 2 4 rfl rfl) rfl rfl (Nat.le_of_ble_eq_true rfl) dX3_readLetter_73 [4, 1] [0, 2, 3] (by decide) rfl rfl (by decide) (by decide) ⟨Nat.zero_le _, Nat.zero_le _⟩ rfl (fun r u q9 => ?_)
      obtain rfl := q9
      refine v_ws (wz := [(e0, aI G 4 tk), (e2, aI G 4 pr), (e3, aI G 4 py), (lw, .inr (2, [.ref e0, .ref e1, .ref e2, .ref e3, .int (nI nt), .int (nI ((dueOf st) + 1))])), (e1, aI G 4 (va_up gv nt (fg ch)))]) rfl ?_
      refine v_nif_eq (tgt := 83) (pc' := 79) F dX3_readLetter_76 (by omega) (by decide) rfl (fun c10 => ?_) (fun c10 => ?_)
      · exact absurd c10 (by decide)
      · refine v_iconst (pc' := 80) (v := nI 1) F dX3_readLetter_79 (by decide) rfl ?_
        refine v_goto (tgt := 84) F dX3_readLetter_80 (by decide) ?_
        have hst : st = 2 := dueOf_k (k := 0) (by omega)
        refine v_ws (wz := [(e0, aI G 4 tk), (e2, aI G 4 pr), (e3, aI G 4 py), (lw, .inr (2, [.ref e0, .ref e1, .ref e2, .ref e3, .int (nI nt), .int (nI (dueOf 3))])), (e1, aI G 4 (va_up gv nt (fg ch)))]) (by rw [show dueOf st + 1 = dueOf 3 by rw [hst]; rfl]) ?_
        refine v_perm (wz := [(lw, .inr (2, [.ref e0, .ref e1, .ref e2, .ref e3, .int (nI nt), .int (nI (dueOf 3))])), (e0, aI G 4 tk), (e1, aI G 4 (va_up gv nt (fg ch))), (e2, aI G 4 pr), (e3, aI G 4 py)]) [3, 0, 4, 1, 2] (by decide) rfl ?_
        exact rt rfl dX3_readLetter_84 (nt, 3, tk, va_up gv nt (fg ch), pr, py) (have hq := rd_y (rdS_d (nt := nt) (tk := tk) (gv := gv) (pr := pr) (py := py) hst (by omega) (by omega)); ⟨nI1_b hq.1, hq.2⟩) rfl
  · refine v_nswI (k := 2) (off := 76) (tgt := 85) F dX3_readLetter_9 h1 (by decide) (by decide) (by decide) (by decide) (by decide) ?_
    refine v_iload_n (pc' := 86) F dX3_readLetter_85 rfl 0 rfl rfl ?_
    refine cSNI0 (pc' := 89) (As := [.int (nI (fg ch))]) (rest := []) F (c_X9_isPrice (nI (fg ch))) ⟨va_cnB 1 F.2.2.2.2.1 gX3_readLetter_X9_isPrice_n69 rfl rfl rfl (F.2.2.2.2.2.2.2.2.2.2.2.2.2.1) (F.2.2.2.2.1 _ (List.mem_of_getElem? (i := 21) rfl)) (by decide +kernel) ⟨Nat.le_of_ble_eq_true rfl, Nat.le_of_ble_eq_true rfl⟩, F.2.2.2.2.1 _ (List.mem_of_getElem? (i := 27) rfl), trivial⟩ rfl rfl (Nat.le_of_ble_eq_true rfl) dX3_readLetter_86 ⟨Nat.zero_le _, Nat.zero_le _⟩ rfl (fun r u q11 => ?_)
    obtain rfl := q11
    refine v_bif_eq (tgt := 108) (pc' := 92) F dX3_readLetter_89 (by decide) rfl (fun c12 => ?_) (fun c12 => ?_)
    · refine v_iconst (pc' := 109) (v := nI 0) F dX3_readLetter_108 (by decide) rfl ?_
      exact rt rfl dX3_readLetter_109 (nt, st, tk, gv, pr, py) (have hq := rd_n (rdS_g (nt := nt) (tk := tk) (gv := gv) (pr := pr) (py := py) (dueOf_k (k := 1) (by omega)) (fun q => absurd (hfp.mpr q) (by assumption))); ⟨nI0_b hq.1, hq.2⟩) rfl
    · refine v_aload_n (pc' := 93) F dX3_readLetter_92 rfl 1 rfl rfl ?_
      refine v_aload_n (pc' := 94) F dX3_readLetter_93 rfl 1 rfl rfl ?_
      refine v_get (pc' := 97) (C := RX3) (T := TX3) (N := 6) F dX3_readLetter_94 in_X3_readLetter_X3 0 rfl rfl 2 (by decide) (List.mem_of_getElem? (i := 3) rfl) rfl rfl ?_
      refine v_iload_n (pc' := 98) F dX3_readLetter_97 rfl 0 rfl rfl ?_
      refine cVI (pc' := 101) (As := [.ref e2, .int (nI (fg ch))]) (rest := []) (wr := [(e0, aI G 4 tk), (e1, aI G 4 gv), (e3, aI G 4 py)]) F (c_X3_put lw e0 e1 e2 e3 nt (dueOf st) e2 pr (fg ch) hn (by omega)) (cwV 2 F.2.2.2.2.1 gX3_readLetter_X3_put rfl rfl rfl (by decide +kernel) ⟨Nat.le_of_ble_eq_true rfl, Nat.le_of_ble_eq_true rfl⟩) (v_rcvW F 2 0 rfl rfl) rfl rfl (Nat.le_of_ble_eq_true rfl) dX3_readLetter_98 [0, 3] [1, 2, 4] (by decide) rfl rfl (by decide) (by decide) ⟨Nat.zero_le _, Nat.zero_le _⟩ rfl (fun r u q13 => ?_)
      obtain rfl := q13
      refine v_ws (wz := [(e0, aI G 4 tk), (e1, aI G 4 gv), (e3, aI G 4 py), (lw, .inr (2, [.ref e0, .ref e1, .ref e2, .ref e3, .int (nI nt), .int (nI ((dueOf st) + 1))])), (e2, aI G 4 (va_up pr nt (fg ch)))]) rfl ?_
      refine v_nif_eq (tgt := 108) (pc' := 104) F dX3_readLetter_101 (by omega) (by decide) rfl (fun c14 => ?_) (fun c14 => ?_)
      · exact absurd c14 (by decide)
      · refine v_iconst (pc' := 105) (v := nI 1) F dX3_readLetter_104 (by decide) rfl ?_
        refine v_goto (tgt := 109) F dX3_readLetter_105 (by decide) ?_
        have hst : st = 3 := dueOf_k (k := 1) (by omega)
        refine v_ws (wz := [(e0, aI G 4 tk), (e1, aI G 4 gv), (e3, aI G 4 py), (lw, .inr (2, [.ref e0, .ref e1, .ref e2, .ref e3, .int (nI nt), .int (nI (dueOf 4))])), (e2, aI G 4 (va_up pr nt (fg ch)))]) (by rw [show dueOf st + 1 = dueOf 4 by rw [hst]; rfl]) ?_
        refine v_perm (wz := [(lw, .inr (2, [.ref e0, .ref e1, .ref e2, .ref e3, .int (nI nt), .int (nI (dueOf 4))])), (e0, aI G 4 tk), (e1, aI G 4 gv), (e2, aI G 4 (va_up pr nt (fg ch))), (e3, aI G 4 py)]) [3, 0, 1, 4, 2] (by decide) rfl ?_
        exact rt rfl dX3_readLetter_109 (nt, 4, tk, gv, va_up pr nt (fg ch), py) (have hq := rd_y (rdS_f (nt := nt) (tk := tk) (gv := gv) (pr := pr) (py := py) hst (hfp.mp (by assumption))); ⟨nI1_b hq.1, hq.2⟩) rfl
  · refine v_nswI (k := 3) (off := 101) (tgt := 110) F dX3_readLetter_9 h1 (by decide) (by decide) (by decide) (by decide) (by decide) ?_
    refine v_iload_n (pc' := 111) F dX3_readLetter_110 rfl 0 rfl rfl ?_
    refine v_if_lt (tgt := 135) (pc' := 114) F dX3_readLetter_111 (by decide) rfl (fun c15 => ?_) (fun c15 => ?_)
    · have hfl : ¬ fg ch ≤ 4 := fun q => inR_no0 c15 (hf5.mpr q)
      refine v_iconst (pc' := 136) (v := nI 0) F dX3_readLetter_135 (by decide) rfl ?_
      exact rt rfl dX3_readLetter_136 (nt, st, tk, gv, pr, py) (have hq := rd_n (rdS_i (nt := nt) (tk := tk) (gv := gv) (pr := pr) (py := py) (dueOf_k (k := 2) (by omega)) (by omega)); ⟨nI0_b hq.1, hq.2⟩) rfl
    · have hfl := fg_pos ch hc c15
      refine v_iload_n (pc' := 115) F dX3_readLetter_114 rfl 0 rfl rfl ?_
      refine v_iconst (pc' := 116) (v := nI 4) F dX3_readLetter_115 (by decide) rfl ?_
      refine v_ncmp_gt (tgt := 135) (pc' := 119) F dX3_readLetter_116 (by omega) (by omega) (by decide) rfl (fun c16 => ?_) (fun c16 => ?_)
      · refine v_iconst (pc' := 136) (v := nI 0) F dX3_readLetter_135 (by decide) rfl ?_
        exact rt rfl dX3_readLetter_136 (nt, st, tk, gv, pr, py) (have hq := rd_n (rdS_i (nt := nt) (tk := tk) (gv := gv) (pr := pr) (py := py) (dueOf_k (k := 2) (by omega)) (by omega)); ⟨nI0_b hq.1, hq.2⟩) rfl
      · refine v_aload_n (pc' := 120) F dX3_readLetter_119 rfl 1 rfl rfl ?_
        refine v_aload_n (pc' := 121) F dX3_readLetter_120 rfl 1 rfl rfl ?_
        refine v_get (pc' := 124) (C := RX3) (T := TX3) (N := 6) F dX3_readLetter_121 in_X3_readLetter_X3 0 rfl rfl 3 (by decide) (List.mem_of_getElem? (i := 4) rfl) rfl rfl ?_
        refine v_iload_n (pc' := 125) F dX3_readLetter_124 rfl 0 rfl rfl ?_
        refine cVI (pc' := 128) (As := [.ref e3, .int (nI (fg ch))]) (rest := []) (wr := [(e0, aI G 4 tk), (e1, aI G 4 gv), (e2, aI G 4 pr)]) F (c_X3_put lw e0 e1 e2 e3 nt (dueOf st) e3 py (fg ch) hn (by omega)) (cwV 2 F.2.2.2.2.1 gX3_readLetter_X3_put rfl rfl rfl (by decide +kernel) ⟨Nat.le_of_ble_eq_true rfl, Nat.le_of_ble_eq_true rfl⟩) (v_rcvW F 2 0 rfl rfl) rfl rfl (Nat.le_of_ble_eq_true rfl) dX3_readLetter_125 [0, 4] [1, 2, 3] (by decide) rfl rfl (by decide) (by decide) ⟨Nat.zero_le _, Nat.zero_le _⟩ rfl (fun r u q17 => ?_)
        obtain rfl := q17
        refine v_ws (wz := [(e0, aI G 4 tk), (e1, aI G 4 gv), (e2, aI G 4 pr), (lw, .inr (2, [.ref e0, .ref e1, .ref e2, .ref e3, .int (nI nt), .int (nI ((dueOf st) + 1))])), (e3, aI G 4 (va_up py nt (fg ch)))]) rfl ?_
        refine v_nif_eq (tgt := 135) (pc' := 131) F dX3_readLetter_128 (by omega) (by decide) rfl (fun c18 => ?_) (fun c18 => ?_)
        · exact absurd c18 (by decide)
        · refine v_iconst (pc' := 132) (v := nI 1) F dX3_readLetter_131 (by decide) rfl ?_
          refine v_goto (tgt := 136) F dX3_readLetter_132 (by decide) ?_
          have hst : st = 4 := dueOf_k (k := 2) (by omega)
          refine v_ws (wz := [(e0, aI G 4 tk), (e1, aI G 4 gv), (e2, aI G 4 pr), (lw, .inr (2, [.ref e0, .ref e1, .ref e2, .ref e3, .int (nI nt), .int (nI (dueOf 5))])), (e3, aI G 4 (va_up py nt (fg ch)))]) (by rw [show dueOf st + 1 = dueOf 5 by rw [hst]; rfl]) ?_
          refine v_perm (wz := [(lw, .inr (2, [.ref e0, .ref e1, .ref e2, .ref e3, .int (nI nt), .int (nI (dueOf 5))])), (e0, aI G 4 tk), (e1, aI G 4 gv), (e2, aI G 4 pr), (e3, aI G 4 (va_up py nt (fg ch)))]) [3, 0, 1, 2, 4] (by decide) rfl ?_
          exact rt rfl dX3_readLetter_136 (nt, 5, tk, gv, pr, va_up py nt (fg ch)) (have hq := rd_y (rdS_h (nt := nt) (tk := tk) (gv := gv) (pr := pr) (py := py) hst (by omega)); ⟨nI1_b hq.1, hq.2⟩) rfl
  · refine v_nswO (tgt := 137) F dX3_readLetter_9 (by omega) (by omega) (by decide) ?_
    have h5s : st = 5 := dueOf_k (k := 3) (by omega)
    refine v_iload_n (pc' := 138) F dX3_readLetter_137 rfl 2 rfl rfl ?_
    refine v_bipush (pc' := 140) (v := nI 47) F dX3_readLetter_138 (by decide) rfl ?_
    refine v_ncmp_ne (tgt := 154) (pc' := 143) F dX3_readLetter_140 (by omega) (by omega) (by decide) rfl (fun c19 => ?_) (fun c19 => ?_)
    · refine v_iconst (pc' := 155) (v := nI 0) F dX3_readLetter_154 (by decide) rfl ?_
      exact rt rfl dX3_readLetter_155 (nt, st, tk, gv, pr, py) (have hq := rd_n (rdS_k (nt := nt) (tk := tk) (gv := gv) (pr := pr) (py := py) h5s (by omega)); ⟨nI0_b hq.1, hq.2⟩) rfl
    · refine v_aload_n (pc' := 144) F dX3_readLetter_143 rfl 1 rfl rfl ?_
      refine cVI (pc' := 147) (As := []) (rest := []) (wr := [(e0, aI G 4 tk), (e1, aI G 4 gv), (e2, aI G 4 pr), (e3, aI G 4 py)]) F (c_X3_nextPart lw e0 e1 e2 e3 nt (dueOf st) hn) (cwV 0 F.2.2.2.2.1 gX3_readLetter_X3_nextPart rfl rfl rfl (by decide +kernel) ⟨Nat.le_of_ble_eq_true rfl, Nat.le_of_ble_eq_true rfl⟩) (v_rcvW F 2 0 rfl rfl) rfl rfl (Nat.le_of_ble_eq_true rfl) dX3_readLetter_144 [0] [1, 2, 3, 4] (by decide) rfl rfl (by decide) (by decide) ⟨Nat.zero_le _, Nat.zero_le _⟩ rfl (fun r u q20 => ?_)
      obtain rfl := q20
      refine v_ws (wz := [(e0, aI G 4 tk), (e1, aI G 4 gv), (e2, aI G 4 pr), (e3, aI G 4 py), (lw, .inr (2, [.ref e0, .ref e1, .ref e2, .ref e3, .int (nI (if nt = 3 then nt else nt + 1)), .int (nI (if nt = 3 then (dueOf st) else 0))]))]) rfl ?_
      refine v_bif_eq (tgt := 154) (pc' := 150) F dX3_readLetter_147 (by decide) rfl (fun c21 => ?_) (fun c21 => ?_)
      · have c21 := Decidable.not_not.mp c21
        refine v_iconst (pc' := 155) (v := nI 0) F dX3_readLetter_154 (by decide) rfl ?_
        refine v_ws (wz := [(e0, aI G 4 tk), (e1, aI G 4 gv), (e2, aI G 4 pr), (e3, aI G 4 py), (lw, .inr (2, [.ref e0, .ref e1, .ref e2, .ref e3, .int (nI nt), .int (nI (dueOf st))]))]) (by rw [if_pos (by omega), if_pos (by omega)]) ?_
        refine v_perm (wz := [(lw, .inr (2, [.ref e0, .ref e1, .ref e2, .ref e3, .int (nI nt), .int (nI (dueOf st))])), (e0, aI G 4 tk), (e1, aI G 4 gv), (e2, aI G 4 pr), (e3, aI G 4 py)]) [4, 0, 1, 2, 3] (by decide) rfl ?_
        exact rt rfl dX3_readLetter_155 (nt, st, tk, gv, pr, py) (have hq := rd_n (rdS_k (nt := nt) (tk := tk) (gv := gv) (pr := pr) (py := py) h5s (by omega)); ⟨nI0_b hq.1, hq.2⟩) rfl
      · refine v_iconst (pc' := 151) (v := nI 1) F dX3_readLetter_150 (by decide) rfl ?_
        refine v_goto (tgt := 155) F dX3_readLetter_151 (by decide) ?_
        refine v_ws (wz := [(e0, aI G 4 tk), (e1, aI G 4 gv), (e2, aI G 4 pr), (e3, aI G 4 py), (lw, .inr (2, [.ref e0, .ref e1, .ref e2, .ref e3, .int (nI (nt + 1)), .int (nI (dueOf 0))]))]) (by rw [if_neg (by omega), if_neg (by omega)]; rfl) ?_
        refine v_perm (wz := [(lw, .inr (2, [.ref e0, .ref e1, .ref e2, .ref e3, .int (nI (nt + 1)), .int (nI (dueOf 0))])), (e0, aI G 4 tk), (e1, aI G 4 gv), (e2, aI G 4 pr), (e3, aI G 4 py)]) [4, 0, 1, 2, 3] (by decide) rfl ?_
        exact rt rfl dX3_readLetter_155 (nt + 1, 0, tk, gv, pr, py) (have hq := rd_y (rdS_j (nt := nt) (tk := tk) (gv := gv) (pr := pr) (py := py) h5s (show ch = 47 by assumption) (by assumption)); ⟨nI1_b hq.1, hq.2⟩) rfl
def rm_X3_read : Room := { frames := 4, cells := 0, slots := 0, locals := 84 }
theorem in_X3_read_X3 : ∀ w ∈ u_ws RX3 TX3 6, w ∈ wsX3_read := fun w h => List.mem_cons_of_mem _ (List.mem_append_left _ (List.mem_append_right _ (h)))
theorem in_X3_read_X4 : ∀ w ∈ u_ws RX4 TX4 2, w ∈ wsX3_read := fun w h => List.mem_cons_of_mem _ (List.mem_append_right _ (h))
set_option maxHeartbeats 4000000 in
set_option maxRecDepth 100000 in
theorem c_X3_read {l : Launch} {D : va_G} {G : gT} (lw e0 e1 e2 e3 nt d : Nat) (tk gv pr py : Nat → Nat) (pgo pgc pl : Nat) (pg : Nat → Nat) (hpl : pl ≤ 32) (hpg : ∀ j, j < 32 → pg j < 127) : CtI (σ := rS) l yX3_read wsX3_read rm_X3_read D G [.ref lw, .ref pgo] [(lw, .inr (2, [.ref e0, .ref e1, .ref e2, .ref e3, .int (nI nt), .int (nI d)])), (e0, aI G 4 tk), (e1, aI G 4 gv), (e2, aI G 4 pr), (e3, aI G 4 py), (pgo, .inr (3, [.ref pgc, .int (nI pl)])), (pgc, aI G 32 pg)] (fun r u => r = A_fault pg pl ∧ rRel u (rdR pg pl)) (fun u => [(lw, .inr (2, [.ref e0, .ref e1, .ref e2, .ref e3, .int (nI u.1), .int (nI (dueOf u.2.1))])), (e0, aI G 4 u.2.2.1), (e1, aI G 4 u.2.2.2.1), (e2, aI G 4 u.2.2.2.2.1), (e3, aI G 4 u.2.2.2.2.2), (pgo, .inr (3, [.ref pgc, .int (nI pl)])), (pgc, aI G 32 pg)]) := by
  have hr0 : rRel (0, 0, cpy (fun _ => 0) tk 4, gv, pr, py) r0 := rRel_0 cpy_c
  refine openI (maxL := 3) (by decide) rfl (Nat.le_of_ble_eq_true rfl) ?_
  intro pgZ evZ sgZ mmZ agsZ blZ meZ cdZ AZ QZ F hmn rt
  refine v_lv (lz := [(0, .ref lw), (1, .ref pgo)]) rfl ?_
  refine v_aload_n (pc' := 1) F dX3_read_0 rfl 0 rfl rfl ?_
  refine v_get (pc' := 4) (C := RX3) (T := TX3) (N := 6) F dX3_read_1 in_X3_read_X3 0 rfl rfl 0 (by decide) (List.mem_of_getElem? (i := 1) rfl) rfl rfl ?_
  refine v_iconst (pc' := 5) (v := nI 0) F dX3_read_4 (by decide) rfl ?_
  refine cSV (pc' := 8) (As := [.ref e0, .int (nI 0)]) (rest := []) (wr := [(lw, .inr (2, [.ref e0, .ref e1, .ref e2, .ref e3, .int (nI nt), .int (nI d)])), (e1, aI G 4 gv), (e2, aI G 4 pr), (e3, aI G 4 py), (pgo, .inr (3, [.ref pgc, .int (nI pl)])), (pgc, aI G 32 pg)]) F (c_J7_fill_53178 e0 4 0 tk (by omega)) (va_cwS 2 F.2.2.2.2.1 gX3_read_J7_fill_53178 rfl rfl rfl (by decide +kernel) ⟨Nat.le_of_ble_eq_true rfl, Nat.le_of_ble_eq_true rfl⟩) rfl rfl (Nat.le_of_ble_eq_true rfl) dX3_read_5 [1] [0, 2, 3, 4, 5, 6] (by decide) rfl rfl (by decide) (by decide) ⟨Nat.zero_le _, Nat.zero_le _⟩ rfl (fun u q1 => ?_)
  refine v_ws (wz := [(lw, .inr (2, [.ref e0, .ref e1, .ref e2, .ref e3, .int (nI nt), .int (nI d)])), (e1, aI G 4 gv), (e2, aI G 4 pr), (e3, aI G 4 py), (pgo, .inr (3, [.ref pgc, .int (nI pl)])), (pgc, aI G 32 pg), (e0, aI G 4 (cpy (fun _ => 0) tk 4))]) rfl ?_
  refine v_aload_n (pc' := 9) F dX3_read_8 rfl 0 rfl rfl ?_
  refine v_iconst (pc' := 10) (v := nI 0) F dX3_read_9 (by decide) rfl ?_
  refine v_put (pc' := 13) (ws' := [(lw, .inr (2, [.ref e0, .ref e1, .ref e2, .ref e3, .int (nI 0), .int (nI d)])), (e1, aI G 4 gv), (e2, aI G 4 pr), (e3, aI G 4 py), (pgo, .inr (3, [.ref pgc, .int (nI pl)])), (pgc, aI G 32 pg), (e0, aI G 4 (cpy (fun _ => 0) tk 4))]) (C := RX3) (T := TX3) (N := 6) F dX3_read_10 in_X3_read_X3 tyX3_ok nmX3 0 rfl rfl 4 (by decide) (List.mem_of_getElem? (i := 2) rfl) rfl rfl rfl (Nat.le_of_ble_eq_true rfl) rfl rfl ?_
  refine v_aload_n (pc' := 14) F dX3_read_13 rfl 0 rfl rfl ?_
  refine v_iconst (pc' := 15) (v := nI 0) F dX3_read_14 (by decide) rfl ?_
  refine v_put (pc' := 18) (ws' := [(lw, .inr (2, [.ref e0, .ref e1, .ref e2, .ref e3, .int (nI 0), .int (nI 0)])), (e1, aI G 4 gv), (e2, aI G 4 pr), (e3, aI G 4 py), (pgo, .inr (3, [.ref pgc, .int (nI pl)])), (pgc, aI G 32 pg), (e0, aI G 4 (cpy (fun _ => 0) tk 4))]) (C := RX3) (T := TX3) (N := 6) F dX3_read_15 in_X3_read_X3 tyX3_ok nmX3 0 rfl rfl 5 (by decide) (List.mem_of_getElem? (i := 3) rfl) rfl rfl rfl (Nat.le_of_ble_eq_true rfl) rfl rfl ?_
  refine v_iconst (pc' := 19) (v := nI 0) F dX3_read_18 (by decide) rfl ?_
  refine v_istore_n (pc' := 20) (lv' := [(2, .int (nI 0)), (0, .ref lw), (1, .ref pgo)]) F dX3_read_19 rfl (by decide) rfl rfl ?_
  refine v_ws (wz := [(lw, .inr (2, [.ref e0, .ref e1, .ref e2, .ref e3, .int (nI 0), .int (nI (dueOf 0))])), (e1, aI G 4 gv), (e2, aI G 4 pr), (e3, aI G 4 py), (pgo, .inr (3, [.ref pgc, .int (nI pl)])), (pgc, aI G 32 pg), (e0, aI G 4 (cpy (fun _ => 0) tk 4))]) rfl ?_
  have L20 : ∀ (fu : Nat) (i : Nat) (nt9 : Nat) (st9 : Nat) (f1 : Nat → Nat) (f2 : Nat → Nat) (f3 : Nat → Nat) (f4 : Nat → Nat), (i ≤ pl) → (rdF (0, 0, cpy (fun _ => 0) tk 4, gv, pr, py) pg i = (i, (nt9, st9, f1, f2, f3, f4))) → pl < i + fu → V pgZ l evZ rm_X3_read sgZ mmZ agsZ blZ meZ cdZ 0 0 QZ D AZ 3 20 [(2, .int (nI i)), (0, .ref lw), (1, .ref pgo)] [] [(lw, .inr (2, [.ref e0, .ref e1, .ref e2, .ref e3, .int (nI nt9), .int (nI (dueOf st9))])), (e1, aI G 4 f2), (e2, aI G 4 f3), (e3, aI G 4 f4), (pgo, .inr (3, [.ref pgc, .int (nI pl)])), (pgc, aI G 32 pg), (e0, aI G 4 f1)] := by
    intro fu
    induction fu with
    | zero => intro i nt9 st9 f1 f2 f3 f4 hi hrd hfu; exact absurd hfu (by omega)
    | succ fu ih20 =>
      intro i nt9 st9 f1 f2 f3 f4 hi hrd hfu
      obtain ⟨q1, q2, q3, q4, q5⟩ := rd_facts hr0 hrd
      refine v_iload_n (pc' := 21) F dX3_read_20 rfl 0 rfl rfl ?_
      refine v_aload_n (pc' := 22) F dX3_read_21 rfl 2 rfl rfl ?_
      refine v_get (pc' := 25) (C := RX4) (T := TX4) (N := 2) F dX3_read_22 in_X3_read_X4 4 rfl rfl 1 (by decide) (List.mem_of_getElem? (i := 4) rfl) rfl rfl ?_
      refine v_ncmp_ge (tgt := 49) (pc' := 28) F dX3_read_25 (by omega) (by omega) (by decide) rfl (fun c3 => ?_) (fun c3 => ?_)
      · refine v_aload_n (pc' := 50) F dX3_read_49 rfl 2 rfl rfl ?_
        refine v_get (pc' := 53) (C := RX4) (T := TX4) (N := 2) F dX3_read_50 in_X3_read_X4 4 rfl rfl 1 (by decide) (List.mem_of_getElem? (i := 4) rfl) rfl rfl ?_
        refine v_perm (wz := [(lw, .inr (2, [.ref e0, .ref e1, .ref e2, .ref e3, .int (nI nt9), .int (nI (dueOf st9))])), (e0, aI G 4 f1), (e1, aI G 4 f2), (e2, aI G 4 f3), (e3, aI G 4 f4), (pgo, .inr (3, [.ref pgc, .int (nI pl)])), (pgc, aI G 32 pg)]) [0, 6, 1, 2, 3, 4, 5] (by decide) rfl ?_
        exact rt dX3_read_53 (nt9, st9, f1, f2, f3, f4) (have hq := rd_end (pl := pl) hr0 (by rw [show i = pl by omega] at hrd; exact hrd); ⟨congrArg nI hq.1, hq.2⟩) rfl
      · refine v_aload_n (pc' := 29) F dX3_read_28 rfl 1 rfl rfl ?_
        refine v_aload_n (pc' := 30) F dX3_read_29 rfl 2 rfl rfl ?_
        refine v_get (pc' := 33) (C := RX4) (T := TX4) (N := 2) F dX3_read_30 in_X3_read_X4 4 rfl rfl 0 (by decide) (List.mem_of_getElem? (i := 5) rfl) rfl rfl ?_
        refine v_iload_n (pc' := 34) F dX3_read_33 rfl 0 rfl rfl ?_
        refine v_iald (pc' := 35) (z := pg i) F dX3_read_34 5 rfl (by omega) (by first | decide | omega) rfl rfl ?_
        have hpi := hpg i (by omega)
        have q3n := q3 nt9 q1
        refine cVI (pc' := 38) (As := [.int (nI (pg i))]) (rest := []) (wr := [(pgo, .inr (3, [.ref pgc, .int (nI pl)])), (pgc, aI G 32 pg)]) F (c_X3_readLetter lw e0 e1 e2 e3 nt9 st9 f1 f2 f3 f4 (pg i) (by omega) (by omega) (by omega) (by omega) (by assumption) (by omega)) (cwV 1 F.2.2.2.2.1 gX3_read_X3_readLetter rfl rfl rfl (by decide +kernel) ⟨Nat.le_of_ble_eq_true rfl, Nat.le_of_ble_eq_true rfl⟩) (v_rcvW F 2 0 rfl rfl) rfl rfl (Nat.le_of_ble_eq_true rfl) dX3_read_35 [0, 6, 1, 2, 3] [4, 5] (by decide) rfl rfl (by decide) (by decide) ⟨Nat.zero_le _, Nat.zero_le _⟩ rfl (fun r u q6 => ?_)
        obtain ⟨nw_4, hu9⟩ : ∃ z, z = u := ⟨_, rfl⟩
        subst hu9
        obtain ⟨rfl, hN_5⟩ := q6
        refine v_ws (wz := [(pgo, .inr (3, [.ref pgc, .int (nI pl)])), (pgc, aI G 32 pg), (lw, .inr (2, [.ref e0, .ref e1, .ref e2, .ref e3, .int (nI nw_4.1), .int (nI (dueOf nw_4.2.1))])), (e0, aI G 4 nw_4.2.2.1), (e1, aI G 4 nw_4.2.2.2.1), (e2, aI G 4 nw_4.2.2.2.2.1), (e3, aI G 4 nw_4.2.2.2.2.2)]) rfl ?_
        refine v_bif_ne (tgt := 43) (pc' := 41) F dX3_read_38 (by decide) rfl (fun c7 => ?_) (fun c7 => ?_)
        · refine v_iinc (pc' := 46) (v := nI (i + 1)) (lv' := [(2, .int (nI (i + 1))), (0, .ref lw), (1, .ref pgo)]) F dX3_read_43 0 rfl (nI_add _ _) (by decide) rfl rfl ?_
          refine v_goto (tgt := 20) F dX3_read_46 (by decide) ?_
          refine v_perm (wz := [(lw, .inr (2, [.ref e0, .ref e1, .ref e2, .ref e3, .int (nI nw_4.1), .int (nI (dueOf nw_4.2.1))])), (e1, aI G 4 nw_4.2.2.2.1), (e2, aI G 4 nw_4.2.2.2.2.1), (e3, aI G 4 nw_4.2.2.2.2.2), (pgo, .inr (3, [.ref pgc, .int (nI pl)])), (pgc, aI G 32 pg), (e0, aI G 4 nw_4.2.2.1)]) [2, 4, 5, 6, 0, 1, 3] (by decide) rfl ?_
          exact ih20 (i + 1) nw_4.1 nw_4.2.1 nw_4.2.2.1 nw_4.2.2.2.1 nw_4.2.2.2.2.1 nw_4.2.2.2.2.2 (by omega) (by have hgo := rdF_go hrd (rdB_y (by assumption)); rw [← hN_5] at hgo; exact hgo) (by omega)
        · refine v_iload_n (pc' := 42) F dX3_read_41 rfl 0 rfl rfl ?_
          refine v_perm (wz := [(lw, .inr (2, [.ref e0, .ref e1, .ref e2, .ref e3, .int (nI nw_4.1), .int (nI (dueOf nw_4.2.1))])), (e0, aI G 4 nw_4.2.2.1), (e1, aI G 4 nw_4.2.2.2.1), (e2, aI G 4 nw_4.2.2.2.2.1), (e3, aI G 4 nw_4.2.2.2.2.2), (pgo, .inr (3, [.ref pgc, .int (nI pl)])), (pgc, aI G 32 pg)]) [2, 3, 4, 5, 6, 0, 1] (by decide) rfl ?_
          exact rt dX3_read_42 nw_4 (have hq := rd_end (m0 := _) (pl := pl) hr0 (rdF_end hrd (rdB_n (by assumption)) (by omega)); ⟨congrArg nI hq.1, by rw [hN_5, rdB_g (by assumption)]; exact hq.2⟩) rfl
  exact L20 (pl + 1) 0 0 0 (cpy (fun _ => 0) tk 4) gv pr py (by omega) (rfl) (by omega)
def rm_X3_isWhole : Room := { frames := 0, cells := 0, slots := 0, locals := 0 }
theorem in_X3_isWhole_X3 : ∀ w ∈ u_ws RX3 TX3 6, w ∈ wsX3_isWhole := fun w h => List.mem_cons_of_mem _ (List.mem_append_right _ (h))
set_option maxHeartbeats 4000000 in
set_option maxRecDepth 100000 in
theorem c_X3_isWhole {l : Launch} {D : va_G} {G : gT} (lw e0 e1 e2 e3 nt d : Nat) (hn : nt < 4) (hd : d < 5) : CtI (σ := Unit) l yX3_isWhole wsX3_isWhole rm_X3_isWhole D G [.ref lw] [(lw, .inr (2, [.ref e0, .ref e1, .ref e2, .ref e3, .int (nI nt), .int (nI d)]))] (fun r _ => r = bI (nt = 3 ∧ d = 4)) (fun _ => [(lw, .inr (2, [.ref e0, .ref e1, .ref e2, .ref e3, .int (nI nt), .int (nI d)]))]) := by
  refine openZ (maxL := 1) (by decide) rfl (Nat.le_of_ble_eq_true rfl) ?_
  intro pgZ evZ sgZ mmZ agsZ blZ meZ cdZ AZ QZ F hmn rt
  refine v_lv (lz := [(0, .ref lw)]) rfl ?_
  refine v_aload_n (pc' := 1) F dX3_isWhole_0 rfl 0 rfl rfl ?_
  refine v_get (pc' := 4) (C := RX3) (T := TX3) (N := 6) F dX3_isWhole_1 in_X3_isWhole_X3 0 rfl rfl 4 (by decide) (List.mem_of_getElem? (i := 1) rfl) rfl rfl ?_
  refine v_iconst (pc' := 5) (v := nI 3) F dX3_isWhole_4 (by decide) rfl ?_
  refine v_ncmp_ne (tgt := 20) (pc' := 8) F dX3_isWhole_5 (by omega) (by omega) (by decide) rfl (fun c1 => ?_) (fun c1 => ?_)
  · refine v_iconst (pc' := 21) (v := nI 0) F dX3_isWhole_20 (by decide) rfl ?_
    exact rt rfl dX3_isWhole_21 () (nI0_b (by omega)) rfl
  · refine v_aload_n (pc' := 9) F dX3_isWhole_8 rfl 0 rfl rfl ?_
    refine v_get (pc' := 12) (C := RX3) (T := TX3) (N := 6) F dX3_isWhole_9 in_X3_isWhole_X3 0 rfl rfl 5 (by decide) (List.mem_of_getElem? (i := 2) rfl) rfl rfl ?_
    refine v_iconst (pc' := 13) (v := nI 4) F dX3_isWhole_12 (by decide) rfl ?_
    refine v_ncmp_ne (tgt := 20) (pc' := 16) F dX3_isWhole_13 (by omega) (by omega) (by decide) rfl (fun c2 => ?_) (fun c2 => ?_)
    · refine v_iconst (pc' := 21) (v := nI 0) F dX3_isWhole_20 (by decide) rfl ?_
      exact rt rfl dX3_isWhole_21 () (nI0_b (by omega)) rfl
    · refine v_iconst (pc' := 17) (v := nI 1) F dX3_isWhole_16 (by decide) rfl ?_
      refine v_goto (tgt := 21) F dX3_isWhole_17 (by decide) ?_
      exact rt rfl dX3_isWhole_21 () (nI1_b (by omega)) rfl
def rm_X3_coinsTaken : Room := { frames := 1, cells := 0, slots := 0, locals := 20 }
theorem in_X3_coinsTaken_X3 : ∀ w ∈ u_ws RX3 TX3 6, w ∈ wsX3_coinsTaken := fun w h => List.mem_cons_of_mem _ (List.mem_append_right _ (h))
set_option maxHeartbeats 4000000 in
set_option maxRecDepth 100000 in
theorem c_X3_coinsTaken {l : Launch} {D : va_G} {G : gT} (lw e0 e1 e2 e3 nt d : Nat) (tk : Nat → Nat) (ht : ∀ j, j < 4 → tk j < 16) : CtI (σ := Unit) l yX3_coinsTaken wsX3_coinsTaken rm_X3_coinsTaken D G [.ref lw] [(lw, .inr (2, [.ref e0, .ref e1, .ref e2, .ref e3, .int (nI nt), .int (nI d)])), (e0, aI G 4 tk)] (fun r _ => r = nI (sumT tk 4)) (fun _ => [(lw, .inr (2, [.ref e0, .ref e1, .ref e2, .ref e3, .int (nI nt), .int (nI d)])), (e0, aI G 4 tk)]) := by
  refine openI (maxL := 3) (by decide) rfl (Nat.le_of_ble_eq_true rfl) ?_
  intro pgZ evZ sgZ mmZ agsZ blZ meZ cdZ AZ QZ F hmn rt
  refine v_lv (lz := [(0, .ref lw)]) rfl ?_
  refine v_iconst (pc' := 1) (v := nI 0) F dX3_coinsTaken_0 (by decide) rfl ?_
  refine v_istore_n (pc' := 2) (lv' := [(1, .int (nI 0)), (0, .ref lw)]) F dX3_coinsTaken_1 rfl (by decide) rfl rfl ?_
  refine v_iconst (pc' := 3) (v := nI 0) F dX3_coinsTaken_2 (by decide) rfl ?_
  refine v_istore_n (pc' := 4) (lv' := [(2, .int (nI 0)), (1, .int (nI 0)), (0, .ref lw)]) F dX3_coinsTaken_3 rfl (by decide) rfl rfl ?_
  have L4 : ∀ (fu : Nat) (j : Nat) (ct : Nat), (j ≤ 4) → (ct = sumT tk j) → 4 < j + fu → V pgZ l evZ rm_X3_coinsTaken sgZ mmZ agsZ blZ meZ cdZ 0 0 QZ D AZ 3 4 [(2, .int (nI j)), (1, .int (nI ct)), (0, .ref lw)] [] [(lw, .inr (2, [.ref e0, .ref e1, .ref e2, .ref e3, .int (nI nt), .int (nI d)])), (e0, aI G 4 tk)] := by
    intro fu
    induction fu with
    | zero => intro j ct hj hct hfu; exact absurd hfu (by omega)
    | succ fu ih4 =>
      intro j ct hj hct hfu
      have h8 := sumT_le tk j
      refine v_iload_n (pc' := 5) F dX3_coinsTaken_4 rfl 0 rfl rfl ?_
      refine v_iconst (pc' := 6) (v := nI 4) F dX3_coinsTaken_5 (by decide) rfl ?_
      refine v_ncmp_ge (tgt := 27) (pc' := 9) F dX3_coinsTaken_6 (by omega) (by omega) (by decide) rfl (fun c2 => ?_) (fun c2 => ?_)
      · refine v_iload_n (pc' := 28) F dX3_coinsTaken_27 rfl 1 rfl rfl ?_
        exact rt dX3_coinsTaken_28 () (by rw [hct, show j = 4 by omega]) rfl
      · refine v_iload_n (pc' := 10) F dX3_coinsTaken_9 rfl 1 rfl rfl ?_
        refine v_aload_n (pc' := 11) F dX3_coinsTaken_10 rfl 2 rfl rfl ?_
        refine v_get (pc' := 14) (C := RX3) (T := TX3) (N := 6) F dX3_coinsTaken_11 in_X3_coinsTaken_X3 0 rfl rfl 0 (by decide) (List.mem_of_getElem? (i := 1) rfl) rfl rfl ?_
        refine v_iload_n (pc' := 15) F dX3_coinsTaken_14 rfl 0 rfl rfl ?_
        refine v_iald (pc' := 16) (z := tk j) F dX3_coinsTaken_15 1 rfl (by omega) (by first | decide | omega) rfl rfl ?_
        have h7 := ht j (by omega)
        have h6 := oneN_le (tk j) 4
        refine cSI0 (pc' := 19) (As := [.int (nI (tk j))]) (rest := [.int (nI ct)]) F (c_J6_bitCount_0f7a4 (tk j) (by omega)) (va_cwS 1 F.2.2.2.2.1 gX3_coinsTaken_J6_bitCount_0f7a4 rfl rfl rfl (by decide +kernel) ⟨Nat.le_of_ble_eq_true rfl, Nat.le_of_ble_eq_true rfl⟩) rfl rfl (Nat.le_of_ble_eq_true rfl) dX3_coinsTaken_16 ⟨Nat.zero_le _, Nat.zero_le _⟩ rfl (fun r u q3 => ?_)
        obtain rfl := q3
        refine v_iadd (pc' := 20) (z := nI (ct + (oneN (tk j) 4))) F dX3_coinsTaken_19 (nI_add _ _) rfl ?_
        refine v_istore_n (pc' := 21) (lv' := [(1, .int (nI (ct + (oneN (tk j) 4)))), (2, .int (nI j)), (0, .ref lw)]) F dX3_coinsTaken_20 rfl (by decide) rfl rfl ?_
        refine v_iinc (pc' := 24) (v := nI (j + 1)) (lv' := [(2, .int (nI (j + 1))), (1, .int (nI (ct + (oneN (tk j) 4)))), (0, .ref lw)]) F dX3_coinsTaken_21 1 rfl (nI_add _ _) (by decide) rfl rfl ?_
        refine v_goto (tgt := 4) F dX3_coinsTaken_24 (by decide) ?_
        exact ih4 (j + 1) (ct + (oneN (tk j) 4)) (by omega) (by rw [hct]; rfl) (by omega)
  exact L4 (4 + 1) 0 0 (by omega) (rfl) (by omega)
def rm_X9_fault : Room := { frames := 5, cells := 0, slots := 0, locals := 106 }
theorem in_X9_fault_X9 : ∀ w ∈ u_ws RX9 TX9 12, w ∈ wsX9_fault := fun w h => List.mem_cons_of_mem _ (List.mem_append_left _ (List.mem_append_left _ (List.mem_append_right _ (h))))
set_option maxHeartbeats 4000000 in
set_option maxRecDepth 100000 in
theorem c_X9_fault {l : Launch} {D : va_G} {G : gT} (x pgo ppa dl se tr im la dr pe ac lr sd : Nat) (e0 e1 e2 e3 nt d : Nat) (tk2 gv2 pr2 py2 : Nat → Nat) (pgc pl : Nat) (pg : Nat → Nat) (hpl : pl ≤ 32) (hpg : ∀ j, j < 32 → pg j < 127) : CtI (σ := rS) l yX9_fault wsX9_fault rm_X9_fault D G [.ref x] [(x, .inr (7, [.ref pgo, .ref ppa, .ref dl, .ref se, .ref tr, .ref im, .ref la, .ref dr, .int (nI pe), .int (nI ac), .int (nI lr), .int (nI sd)])), (dr, .inr (2, [.ref e0, .ref e1, .ref e2, .ref e3, .int (nI nt), .int (nI d)])), (e0, aI G 4 tk2), (e1, aI G 4 gv2), (e2, aI G 4 pr2), (e3, aI G 4 py2), (pgo, .inr (3, [.ref pgc, .int (nI pl)])), (pgc, aI G 32 pg)] (fun r u => r = A_fault pg pl) (fun u => [(x, .inr (7, [.ref pgo, .ref ppa, .ref dl, .ref se, .ref tr, .ref im, .ref la, .ref dr, .int (nI pe), .int (nI ac), .int (nI lr), .int (nI sd)])), (dr, .inr (2, [.ref e0, .ref e1, .ref e2, .ref e3, .int (nI u.1), .int (nI (dueOf u.2.1))])), (e0, aI G 4 u.2.2.1), (e1, aI G 4 u.2.2.2.1), (e2, aI G 4 u.2.2.2.2.1), (e3, aI G 4 u.2.2.2.2.2), (pgo, .inr (3, [.ref pgc, .int (nI pl)])), (pgc, aI G 32 pg)]) := by
  refine openI (maxL := 1) (by decide) rfl (Nat.le_of_ble_eq_true rfl) ?_
  intro pgZ evZ sgZ mmZ agsZ blZ meZ cdZ AZ QZ F hmn rt
  refine v_lv (lz := [(0, .ref x)]) rfl ?_
  refine v_aload_n (pc' := 1) F dX9_fault_0 rfl 0 rfl rfl ?_
  refine v_get (pc' := 4) (C := RX9) (T := TX9) (N := 12) F dX9_fault_1 in_X9_fault_X9 0 rfl rfl 7 (by decide) (List.mem_of_getElem? (i := 1) rfl) rfl rfl ?_
  refine v_aload_n (pc' := 5) F dX9_fault_4 rfl 0 rfl rfl ?_
  refine v_get (pc' := 8) (C := RX9) (T := TX9) (N := 12) F dX9_fault_5 in_X9_fault_X9 0 rfl rfl 0 (by decide) (List.mem_of_getElem? (i := 2) rfl) rfl rfl ?_
  refine cVI (pc' := 11) (As := [.ref pgo]) (rest := []) (wr := [(x, .inr (7, [.ref pgo, .ref ppa, .ref dl, .ref se, .ref tr, .ref im, .ref la, .ref dr, .int (nI pe), .int (nI ac), .int (nI lr), .int (nI sd)]))]) F (c_X3_read dr e0 e1 e2 e3 nt d tk2 gv2 pr2 py2 pgo pgc pl pg hpl hpg) (cwV 1 F.2.2.2.2.1 gX9_fault_X3_read rfl rfl rfl (by decide +kernel) ⟨Nat.le_of_ble_eq_true rfl, Nat.le_of_ble_eq_true rfl⟩) (v_rcvW F 2 1 rfl rfl) rfl rfl (Nat.le_of_ble_eq_true rfl) dX9_fault_8 [1, 2, 3, 4, 5, 6, 7] [0] (by decide) rfl rfl (by decide) (by decide) ⟨Nat.zero_le _, Nat.zero_le _⟩ rfl (fun r u q3 => ?_)
  obtain ⟨nw_1, hu9⟩ : ∃ z, z = u := ⟨_, rfl⟩
  subst hu9
  obtain ⟨rfl, hN_2⟩ := q3
  refine v_ws (wz := [(x, .inr (7, [.ref pgo, .ref ppa, .ref dl, .ref se, .ref tr, .ref im, .ref la, .ref dr, .int (nI pe), .int (nI ac), .int (nI lr), .int (nI sd)])), (dr, .inr (2, [.ref e0, .ref e1, .ref e2, .ref e3, .int (nI nw_1.1), .int (nI (dueOf nw_1.2.1))])), (e0, aI G 4 nw_1.2.2.1), (e1, aI G 4 nw_1.2.2.2.1), (e2, aI G 4 nw_1.2.2.2.2.1), (e3, aI G 4 nw_1.2.2.2.2.2), (pgo, .inr (3, [.ref pgc, .int (nI pl)])), (pgc, aI G 32 pg)]) rfl ?_
  exact rt dX9_fault_11 nw_1 rfl rfl
def rm_X9_law : Room := { frames := 5, cells := 0, slots := 0, locals := 106 }
theorem in_X9_law_X1 : ∀ w ∈ u_ws RX1 TX1 5, w ∈ wsX9_law := fun w h => List.mem_cons_of_mem _ (List.mem_append_left _ (List.mem_append_right _ (h)))
theorem in_X9_law_X4 : ∀ w ∈ u_ws RX4 TX4 2, w ∈ wsX9_law := fun w h => List.mem_cons_of_mem _ (List.mem_append_left _ (List.mem_append_left _ (List.mem_append_left _ (List.mem_append_right _ (h)))))
theorem in_X9_law_X8 : ∀ w ∈ u_ws RX8 TX8 7, w ∈ wsX9_law := fun w h => List.mem_cons_of_mem _ (List.mem_append_left _ (List.mem_append_left _ (List.mem_append_right _ (h))))
theorem in_X9_law_X9 : ∀ w ∈ u_ws RX9 TX9 12, w ∈ wsX9_law := fun w h => List.mem_cons_of_mem _ (List.mem_append_left _ (List.mem_append_left _ (List.mem_append_left _ (List.mem_append_left _ (List.mem_append_right _ (h))))))
set_option maxHeartbeats 4000000 in
set_option maxRecDepth 100000 in
theorem c_X9_law {l : Launch} {D : va_G} {G : gT} (x pgo ppa dl se tr im la dr pe ac lr sd : Nat) (e0 e1 e2 e3 nt d : Nat) (tk2 gv2 pr2 py2 : Nat → Nat) (pgc pl : Nat) (pg : Nat → Nat) (tpu tro trb tg kd sf sz : Nat) (ims imp kg kp ka : Nat) (hpl : pl ≤ 32) (hpg : ∀ j, j < 32 → pg j < 127) (hlr : lr + 1 < 2 ^ 31) : CtI (σ := rS × Nat × Nat × Nat × Nat × Nat × Nat × Nat × Nat) l yX9_law wsX9_law rm_X9_law D G [.ref x] [(x, .inr (7, [.ref pgo, .ref ppa, .ref dl, .ref se, .ref tr, .ref im, .ref la, .ref dr, .int (nI pe), .int (nI ac), .int (nI lr), .int (nI sd)])), (dr, .inr (2, [.ref e0, .ref e1, .ref e2, .ref e3, .int (nI nt), .int (nI d)])), (e0, aI G 4 tk2), (e1, aI G 4 gv2), (e2, aI G 4 pr2), (e3, aI G 4 py2), (pgo, .inr (3, [.ref pgc, .int (nI pl)])), (pgc, aI G 32 pg), (tr, .inr (6, [.ref tpu, .ref tro, .ref trb, .int (nI tg), .ref (gAd G kd), .int (nI (eS sf)), .int (nI sz)])), (im, .inr (1, [.ref ims, .ref imp, .int (nI kg), .int (nI kp), .int (nI ka)]))] (fun r u => r = A_law pg pl ∧ (isWh pg pl → (u.1) = rdR pg pl) ∧ (u.2) = (if isWh pg pl then (dr, la, 0, 0, lr + 1, 0, 0, 0) else (la, dr, pe, ac, lr, pl, tg, kg))) (fun u => [(x, .inr (7, [.ref pgo, .ref ppa, .ref dl, .ref se, .ref tr, .ref im, .ref ((u.2).1), .ref ((u.2).2.1), .int (nI ((u.2).2.2.1)), .int (nI ((u.2).2.2.2.1)), .int (nI ((u.2).2.2.2.2.1)), .int (nI sd)])), (dr, .inr (2, [.ref e0, .ref e1, .ref e2, .ref e3, .int (nI ((u.1).1)), .int (nI (dueOf (u.1).2.1))])), (e0, aI G 4 ((u.1).2.2.1)), (e1, aI G 4 ((u.1).2.2.2.1)), (e2, aI G 4 ((u.1).2.2.2.2.1)), (e3, aI G 4 ((u.1).2.2.2.2.2)), (pgo, .inr (3, [.ref pgc, .int (nI ((u.2).2.2.2.2.2.1))])), (pgc, aI G 32 pg), (tr, .inr (6, [.ref tpu, .ref tro, .ref trb, .int (nI ((u.2).2.2.2.2.2.2.1)), .ref (gAd G kd), .int (nI (eS sf)), .int (nI sz)])), (im, .inr (1, [.ref ims, .ref imp, .int (nI ((u.2).2.2.2.2.2.2.2)), .int (nI kp), .int (nI ka)]))]) := by
  refine openI (maxL := 2) (by decide) rfl (Nat.le_of_ble_eq_true rfl) ?_
  intro pgZ evZ sgZ mmZ agsZ blZ meZ cdZ AZ QZ F hmn rt
  refine v_lv (lz := [(0, .ref x)]) rfl ?_
  refine v_aload_n (pc' := 1) F dX9_law_0 rfl 0 rfl rfl ?_
  refine v_get (pc' := 4) (C := RX9) (T := TX9) (N := 12) F dX9_law_1 in_X9_law_X9 0 rfl rfl 7 (by decide) (List.mem_of_getElem? (i := 1) rfl) rfl rfl ?_
  refine v_aload_n (pc' := 5) F dX9_law_4 rfl 0 rfl rfl ?_
  refine v_get (pc' := 8) (C := RX9) (T := TX9) (N := 12) F dX9_law_5 in_X9_law_X9 0 rfl rfl 0 (by decide) (List.mem_of_getElem? (i := 2) rfl) rfl rfl ?_
  refine cVI (pc' := 11) (As := [.ref pgo]) (rest := []) (wr := [(x, .inr (7, [.ref pgo, .ref ppa, .ref dl, .ref se, .ref tr, .ref im, .ref la, .ref dr, .int (nI pe), .int (nI ac), .int (nI lr), .int (nI sd)])), (tr, .inr (6, [.ref tpu, .ref tro, .ref trb, .int (nI tg), .ref (gAd G kd), .int (nI (eS sf)), .int (nI sz)])), (im, .inr (1, [.ref ims, .ref imp, .int (nI kg), .int (nI kp), .int (nI ka)]))]) F (c_X3_read dr e0 e1 e2 e3 nt d tk2 gv2 pr2 py2 pgo pgc pl pg hpl hpg) (cwV 1 F.2.2.2.2.1 gX9_law_X3_read rfl rfl rfl (by decide +kernel) ⟨Nat.le_of_ble_eq_true rfl, Nat.le_of_ble_eq_true rfl⟩) (v_rcvW F 2 1 rfl rfl) rfl rfl (Nat.le_of_ble_eq_true rfl) dX9_law_8 [1, 2, 3, 4, 5, 6, 7] [0, 8, 9] (by decide) rfl rfl (by decide) (by decide) ⟨Nat.zero_le _, Nat.zero_le _⟩ rfl (fun r u q3 => ?_)
  obtain ⟨nw_1, hu9⟩ : ∃ z, z = u := ⟨_, rfl⟩
  subst hu9
  obtain ⟨rfl, hN_2⟩ := q3
  refine v_ws (wz := [(x, .inr (7, [.ref pgo, .ref ppa, .ref dl, .ref se, .ref tr, .ref im, .ref la, .ref dr, .int (nI pe), .int (nI ac), .int (nI lr), .int (nI sd)])), (tr, .inr (6, [.ref tpu, .ref tro, .ref trb, .int (nI tg), .ref (gAd G kd), .int (nI (eS sf)), .int (nI sz)])), (im, .inr (1, [.ref ims, .ref imp, .int (nI kg), .int (nI kp), .int (nI ka)])), (dr, .inr (2, [.ref e0, .ref e1, .ref e2, .ref e3, .int (nI nw_1.1), .int (nI (dueOf nw_1.2.1))])), (e0, aI G 4 nw_1.2.2.1), (e1, aI G 4 nw_1.2.2.2.1), (e2, aI G 4 nw_1.2.2.2.2.1), (e3, aI G 4 nw_1.2.2.2.2.2), (pgo, .inr (3, [.ref pgc, .int (nI pl)])), (pgc, aI G 32 pg)]) rfl ?_
  refine v_aload_n (pc' := 12) F dX9_law_11 rfl 0 rfl rfl ?_
  refine v_get (pc' := 15) (C := RX9) (T := TX9) (N := 12) F dX9_law_12 in_X9_law_X9 0 rfl rfl 0 (by decide) (List.mem_of_getElem? (i := 2) rfl) rfl rfl ?_
  refine v_get (pc' := 18) (C := RX4) (T := TX4) (N := 2) F dX9_law_15 in_X9_law_X4 8 rfl rfl 1 (by decide) (List.mem_of_getElem? (i := 3) rfl) rfl rfl ?_
  have hle := rdF_le r0 pg pl
  have hrr := hN_2
  have hwc := wh_class hrr
  have hr3 := hrr.2.2.1
  have hr1 := hrr.1
  have hr2 := hrr.2.1
  have hr6 := hrr.2.2.2.1
  have hdl := dueOf_le (show nw_1.2.1 < 6 by rw [hr2]; exact hr6)
  refine v_st (sz := [.int (nI pl), .int (nI ((rdF r0 pg pl).1))]) rfl ?_
  refine v_ncmp_ne (tgt := 31) (pc' := 21) F dX9_law_18 (by omega) (by omega) (by decide) rfl (fun c4 => ?_) (fun c4 => ?_)
  · have hno : ¬ isWh pg pl := fun q => by first | exact absurd q.1 (by assumption) | exact absurd (hwc.mpr q.2) (by assumption)
    refine v_bipush (pc' := 33) (v := (-103)) F dX9_law_31 (by decide) rfl ?_
    refine v_perm (wz := [(x, .inr (7, [.ref pgo, .ref ppa, .ref dl, .ref se, .ref tr, .ref im, .ref la, .ref dr, .int (nI pe), .int (nI ac), .int (nI lr), .int (nI sd)])), (dr, .inr (2, [.ref e0, .ref e1, .ref e2, .ref e3, .int (nI nw_1.1), .int (nI (dueOf nw_1.2.1))])), (e0, aI G 4 nw_1.2.2.1), (e1, aI G 4 nw_1.2.2.2.1), (e2, aI G 4 nw_1.2.2.2.2.1), (e3, aI G 4 nw_1.2.2.2.2.2), (pgo, .inr (3, [.ref pgc, .int (nI pl)])), (pgc, aI G 32 pg), (tr, .inr (6, [.ref tpu, .ref tro, .ref trb, .int (nI tg), .ref (gAd G kd), .int (nI (eS sf)), .int (nI sz)])), (im, .inr (1, [.ref ims, .ref imp, .int (nI kg), .int (nI kp), .int (nI ka)]))]) [0, 3, 4, 5, 6, 7, 8, 9, 1, 2] (by decide) rfl ?_
    exact rt dX9_law_33 (nw_1, la, dr, pe, ac, lr, pl, tg, kg) ⟨(by unfold A_law; rw [if_neg hno]), fun q => absurd q hno, (by rw [if_neg hno])⟩ rfl
  · refine v_aload_n (pc' := 22) F dX9_law_21 rfl 0 rfl rfl ?_
    refine v_get (pc' := 25) (C := RX9) (T := TX9) (N := 12) F dX9_law_22 in_X9_law_X9 0 rfl rfl 7 (by decide) (List.mem_of_getElem? (i := 1) rfl) rfl rfl ?_
    refine cVI (pc' := 28) (As := []) (rest := []) (wr := [(x, .inr (7, [.ref pgo, .ref ppa, .ref dl, .ref se, .ref tr, .ref im, .ref la, .ref dr, .int (nI pe), .int (nI ac), .int (nI lr), .int (nI sd)])), (tr, .inr (6, [.ref tpu, .ref tro, .ref trb, .int (nI tg), .ref (gAd G kd), .int (nI (eS sf)), .int (nI sz)])), (im, .inr (1, [.ref ims, .ref imp, .int (nI kg), .int (nI kp), .int (nI ka)])), (e0, aI G 4 nw_1.2.2.1), (e1, aI G 4 nw_1.2.2.2.1), (e2, aI G 4 nw_1.2.2.2.2.1), (e3, aI G 4 nw_1.2.2.2.2.2), (pgo, .inr (3, [.ref pgc, .int (nI pl)])), (pgc, aI G 32 pg)]) F (c_X3_isWhole dr e0 e1 e2 e3 nw_1.1 (dueOf nw_1.2.1) (by rw [hr1]; exact hr3) (by omega)) (cwV 0 F.2.2.2.2.1 gX9_law_X3_isWhole rfl rfl rfl (by decide +kernel) ⟨Nat.le_of_ble_eq_true rfl, Nat.le_of_ble_eq_true rfl⟩) (v_rcvW F 2 3 rfl rfl) rfl rfl (Nat.le_of_ble_eq_true rfl) dX9_law_25 [3] [0, 1, 2, 4, 5, 6, 7, 8, 9] (by decide) rfl rfl (by decide) (by decide) ⟨Nat.zero_le _, Nat.zero_le _⟩ rfl (fun r u q5 => ?_)
    obtain rfl := q5
    refine v_ws (wz := [(x, .inr (7, [.ref pgo, .ref ppa, .ref dl, .ref se, .ref tr, .ref im, .ref la, .ref dr, .int (nI pe), .int (nI ac), .int (nI lr), .int (nI sd)])), (tr, .inr (6, [.ref tpu, .ref tro, .ref trb, .int (nI tg), .ref (gAd G kd), .int (nI (eS sf)), .int (nI sz)])), (im, .inr (1, [.ref ims, .ref imp, .int (nI kg), .int (nI kp), .int (nI ka)])), (e0, aI G 4 nw_1.2.2.1), (e1, aI G 4 nw_1.2.2.2.1), (e2, aI G 4 nw_1.2.2.2.2.1), (e3, aI G 4 nw_1.2.2.2.2.2), (pgo, .inr (3, [.ref pgc, .int (nI pl)])), (pgc, aI G 32 pg), (dr, .inr (2, [.ref e0, .ref e1, .ref e2, .ref e3, .int (nI nw_1.1), .int (nI (dueOf nw_1.2.1))]))]) rfl ?_
    refine v_bif_ne (tgt := 34) (pc' := 31) F dX9_law_28 (by decide) rfl (fun c6 => ?_) (fun c6 => ?_)
    · have hwh : isWh pg pl := ⟨by assumption, hwc.mp (by assumption)⟩
      obtain ⟨he1, he2, he3, he4⟩ := wh_eq hrr hwh.2.1 hwh.2.2
      have hwl := wh_WL hwh
      refine v_aI (ws' := [(x, .inr (7, [.ref pgo, .ref ppa, .ref dl, .ref se, .ref tr, .ref im, .ref la, .ref dr, .int (nI pe), .int (nI ac), .int (nI lr), .int (nI sd)])), (tr, .inr (6, [.ref tpu, .ref tro, .ref trb, .int (nI tg), .ref (gAd G kd), .int (nI (eS sf)), .int (nI sz)])), (im, .inr (1, [.ref ims, .ref imp, .int (nI kg), .int (nI kp), .int (nI ka)])), (e0, aI G 4 ((rdR pg pl).2.2.1)), (e1, aI G 4 nw_1.2.2.2.1), (e2, aI G 4 nw_1.2.2.2.2.1), (e3, aI G 4 nw_1.2.2.2.2.2), (pgo, .inr (3, [.ref pgc, .int (nI pl)])), (pgc, aI G 32 pg), (dr, .inr (2, [.ref e0, .ref e1, .ref e2, .ref e3, .int (nI nw_1.1), .int (nI (dueOf nw_1.2.1))]))]) 3 rfl he1 rfl ?_
      refine v_aI (ws' := [(x, .inr (7, [.ref pgo, .ref ppa, .ref dl, .ref se, .ref tr, .ref im, .ref la, .ref dr, .int (nI pe), .int (nI ac), .int (nI lr), .int (nI sd)])), (tr, .inr (6, [.ref tpu, .ref tro, .ref trb, .int (nI tg), .ref (gAd G kd), .int (nI (eS sf)), .int (nI sz)])), (im, .inr (1, [.ref ims, .ref imp, .int (nI kg), .int (nI kp), .int (nI ka)])), (e0, aI G 4 ((rdR pg pl).2.2.1)), (e1, aI G 4 ((rdR pg pl).2.2.2.1)), (e2, aI G 4 nw_1.2.2.2.2.1), (e3, aI G 4 nw_1.2.2.2.2.2), (pgo, .inr (3, [.ref pgc, .int (nI pl)])), (pgc, aI G 32 pg), (dr, .inr (2, [.ref e0, .ref e1, .ref e2, .ref e3, .int (nI nw_1.1), .int (nI (dueOf nw_1.2.1))]))]) 4 rfl he2 rfl ?_
      refine v_aI (ws' := [(x, .inr (7, [.ref pgo, .ref ppa, .ref dl, .ref se, .ref tr, .ref im, .ref la, .ref dr, .int (nI pe), .int (nI ac), .int (nI lr), .int (nI sd)])), (tr, .inr (6, [.ref tpu, .ref tro, .ref trb, .int (nI tg), .ref (gAd G kd), .int (nI (eS sf)), .int (nI sz)])), (im, .inr (1, [.ref ims, .ref imp, .int (nI kg), .int (nI kp), .int (nI ka)])), (e0, aI G 4 ((rdR pg pl).2.2.1)), (e1, aI G 4 ((rdR pg pl).2.2.2.1)), (e2, aI G 4 ((rdR pg pl).2.2.2.2.1)), (e3, aI G 4 nw_1.2.2.2.2.2), (pgo, .inr (3, [.ref pgc, .int (nI pl)])), (pgc, aI G 32 pg), (dr, .inr (2, [.ref e0, .ref e1, .ref e2, .ref e3, .int (nI nw_1.1), .int (nI (dueOf nw_1.2.1))]))]) 5 rfl he3 rfl ?_
      refine v_aI (ws' := [(x, .inr (7, [.ref pgo, .ref ppa, .ref dl, .ref se, .ref tr, .ref im, .ref la, .ref dr, .int (nI pe), .int (nI ac), .int (nI lr), .int (nI sd)])), (tr, .inr (6, [.ref tpu, .ref tro, .ref trb, .int (nI tg), .ref (gAd G kd), .int (nI (eS sf)), .int (nI sz)])), (im, .inr (1, [.ref ims, .ref imp, .int (nI kg), .int (nI kp), .int (nI ka)])), (e0, aI G 4 ((rdR pg pl).2.2.1)), (e1, aI G 4 ((rdR pg pl).2.2.2.1)), (e2, aI G 4 ((rdR pg pl).2.2.2.2.1)), (e3, aI G 4 ((rdR pg pl).2.2.2.2.2)), (pgo, .inr (3, [.ref pgc, .int (nI pl)])), (pgc, aI G 32 pg), (dr, .inr (2, [.ref e0, .ref e1, .ref e2, .ref e3, .int (nI nw_1.1), .int (nI (dueOf nw_1.2.1))]))]) 6 rfl he4 rfl ?_
      refine v_ws (wz := [(x, .inr (7, [.ref pgo, .ref ppa, .ref dl, .ref se, .ref tr, .ref im, .ref la, .ref dr, .int (nI pe), .int (nI ac), .int (nI lr), .int (nI sd)])), (tr, .inr (6, [.ref tpu, .ref tro, .ref trb, .int (nI tg), .ref (gAd G kd), .int (nI (eS sf)), .int (nI sz)])), (im, .inr (1, [.ref ims, .ref imp, .int (nI kg), .int (nI kp), .int (nI ka)])), (e0, aI G 4 ((rdR pg pl).2.2.1)), (e1, aI G 4 ((rdR pg pl).2.2.2.1)), (e2, aI G 4 ((rdR pg pl).2.2.2.2.1)), (e3, aI G 4 ((rdR pg pl).2.2.2.2.2)), (pgo, .inr (3, [.ref pgc, .int (nI pl)])), (pgc, aI G 32 pg), (dr, .inr (2, [.ref e0, .ref e1, .ref e2, .ref e3, .int (nI ((rdR pg pl).1)), .int (nI (dueOf (rdR pg pl).2.1))]))]) (by rw [hr1, hr2]) ?_
      refine v_aload_n (pc' := 35) F dX9_law_34 rfl 0 rfl rfl ?_
      refine v_get (pc' := 38) (C := RX9) (T := TX9) (N := 12) F dX9_law_35 in_X9_law_X9 0 rfl rfl 6 (by decide) (List.mem_of_getElem? (i := 4) rfl) rfl rfl ?_
      refine v_astore_n (pc' := 39) (lv' := [(1, .ref la), (0, .ref x)]) F dX9_law_38 rfl (by decide) rfl rfl ?_
      refine v_aload_n (pc' := 40) F dX9_law_39 rfl 1 rfl rfl ?_
      refine v_aload_n (pc' := 41) F dX9_law_40 rfl 1 rfl rfl ?_
      refine v_get (pc' := 44) (C := RX9) (T := TX9) (N := 12) F dX9_law_41 in_X9_law_X9 0 rfl rfl 7 (by decide) (List.mem_of_getElem? (i := 1) rfl) rfl rfl ?_
      refine v_put (pc' := 47) (ws' := [(x, .inr (7, [.ref pgo, .ref ppa, .ref dl, .ref se, .ref tr, .ref im, .ref dr, .ref dr, .int (nI pe), .int (nI ac), .int (nI lr), .int (nI sd)])), (tr, .inr (6, [.ref tpu, .ref tro, .ref trb, .int (nI tg), .ref (gAd G kd), .int (nI (eS sf)), .int (nI sz)])), (im, .inr (1, [.ref ims, .ref imp, .int (nI kg), .int (nI kp), .int (nI ka)])), (e0, aI G 4 ((rdR pg pl).2.2.1)), (e1, aI G 4 ((rdR pg pl).2.2.2.1)), (e2, aI G 4 ((rdR pg pl).2.2.2.2.1)), (e3, aI G 4 ((rdR pg pl).2.2.2.2.2)), (pgo, .inr (3, [.ref pgc, .int (nI pl)])), (pgc, aI G 32 pg), (dr, .inr (2, [.ref e0, .ref e1, .ref e2, .ref e3, .int (nI ((rdR pg pl).1)), .int (nI (dueOf (rdR pg pl).2.1))]))]) (C := RX9) (T := TX9) (N := 12) F dX9_law_44 in_X9_law_X9 tyX9_ok nmX9 0 rfl rfl 6 (by decide) (List.mem_of_getElem? (i := 4) rfl) rfl rfl rfl (Nat.le_of_ble_eq_true rfl) rfl rfl ?_
      refine v_aload_n (pc' := 48) F dX9_law_47 rfl 1 rfl rfl ?_
      refine v_aload_n (pc' := 49) F dX9_law_48 rfl 0 rfl rfl ?_
      refine v_put (pc' := 52) (ws' := [(x, .inr (7, [.ref pgo, .ref ppa, .ref dl, .ref se, .ref tr, .ref im, .ref dr, .ref la, .int (nI pe), .int (nI ac), .int (nI lr), .int (nI sd)])), (tr, .inr (6, [.ref tpu, .ref tro, .ref trb, .int (nI tg), .ref (gAd G kd), .int (nI (eS sf)), .int (nI sz)])), (im, .inr (1, [.ref ims, .ref imp, .int (nI kg), .int (nI kp), .int (nI ka)])), (e0, aI G 4 ((rdR pg pl).2.2.1)), (e1, aI G 4 ((rdR pg pl).2.2.2.1)), (e2, aI G 4 ((rdR pg pl).2.2.2.2.1)), (e3, aI G 4 ((rdR pg pl).2.2.2.2.2)), (pgo, .inr (3, [.ref pgc, .int (nI pl)])), (pgc, aI G 32 pg), (dr, .inr (2, [.ref e0, .ref e1, .ref e2, .ref e3, .int (nI ((rdR pg pl).1)), .int (nI (dueOf (rdR pg pl).2.1))]))]) (C := RX9) (T := TX9) (N := 12) F dX9_law_49 in_X9_law_X9 tyX9_ok nmX9 0 rfl rfl 7 (by decide) (List.mem_of_getElem? (i := 1) rfl) rfl rfl rfl (Nat.le_of_ble_eq_true rfl) rfl rfl ?_
      refine v_aload_n (pc' := 53) F dX9_law_52 rfl 1 rfl rfl ?_
      refine v_get (pc' := 56) (C := RX9) (T := TX9) (N := 12) F dX9_law_53 in_X9_law_X9 0 rfl rfl 0 (by decide) (List.mem_of_getElem? (i := 2) rfl) rfl rfl ?_
      refine cVI (pc' := 59) (As := []) (rest := []) (wr := [(x, .inr (7, [.ref pgo, .ref ppa, .ref dl, .ref se, .ref tr, .ref im, .ref dr, .ref la, .int (nI pe), .int (nI ac), .int (nI lr), .int (nI sd)])), (tr, .inr (6, [.ref tpu, .ref tro, .ref trb, .int (nI tg), .ref (gAd G kd), .int (nI (eS sf)), .int (nI sz)])), (im, .inr (1, [.ref ims, .ref imp, .int (nI kg), .int (nI kp), .int (nI ka)])), (e0, aI G 4 ((rdR pg pl).2.2.1)), (e1, aI G 4 ((rdR pg pl).2.2.2.1)), (e2, aI G 4 ((rdR pg pl).2.2.2.2.1)), (e3, aI G 4 ((rdR pg pl).2.2.2.2.2)), (pgc, aI G 32 pg), (dr, .inr (2, [.ref e0, .ref e1, .ref e2, .ref e3, .int (nI ((rdR pg pl).1)), .int (nI (dueOf (rdR pg pl).2.1))]))]) F (c_X4_clear pgo pgc pl) (cwV 0 F.2.2.2.2.1 gX9_law_X4_clear rfl rfl rfl (by decide +kernel) ⟨Nat.le_of_ble_eq_true rfl, Nat.le_of_ble_eq_true rfl⟩) (v_rcvW F 3 7 rfl rfl) rfl rfl (Nat.le_of_ble_eq_true rfl) dX9_law_56 [7] [0, 1, 2, 3, 4, 5, 6, 8, 9] (by decide) rfl rfl (by decide) (by decide) ⟨Nat.zero_le _, Nat.zero_le _⟩ rfl (fun r u q7 => ?_)
      obtain rfl := q7
      refine v_ws (wz := [(x, .inr (7, [.ref pgo, .ref ppa, .ref dl, .ref se, .ref tr, .ref im, .ref dr, .ref la, .int (nI pe), .int (nI ac), .int (nI lr), .int (nI sd)])), (tr, .inr (6, [.ref tpu, .ref tro, .ref trb, .int (nI tg), .ref (gAd G kd), .int (nI (eS sf)), .int (nI sz)])), (im, .inr (1, [.ref ims, .ref imp, .int (nI kg), .int (nI kp), .int (nI ka)])), (e0, aI G 4 ((rdR pg pl).2.2.1)), (e1, aI G 4 ((rdR pg pl).2.2.2.1)), (e2, aI G 4 ((rdR pg pl).2.2.2.2.1)), (e3, aI G 4 ((rdR pg pl).2.2.2.2.2)), (pgc, aI G 32 pg), (dr, .inr (2, [.ref e0, .ref e1, .ref e2, .ref e3, .int (nI ((rdR pg pl).1)), .int (nI (dueOf (rdR pg pl).2.1))])), (pgo, .inr (3, [.ref pgc, .int (nI 0)]))]) rfl ?_
      refine v_pop (pc' := 60) F dX9_law_59 rfl rfl ?_
      refine v_aload_n (pc' := 61) F dX9_law_60 rfl 1 rfl rfl ?_
      refine v_get (pc' := 64) (C := RX9) (T := TX9) (N := 12) F dX9_law_61 in_X9_law_X9 0 rfl rfl 4 (by decide) (List.mem_of_getElem? (i := 5) rfl) rfl rfl ?_
      refine v_iconst (pc' := 65) (v := nI 0) F dX9_law_64 (by decide) rfl ?_
      refine v_put (pc' := 68) (ws' := [(x, .inr (7, [.ref pgo, .ref ppa, .ref dl, .ref se, .ref tr, .ref im, .ref dr, .ref la, .int (nI pe), .int (nI ac), .int (nI lr), .int (nI sd)])), (tr, .inr (6, [.ref tpu, .ref tro, .ref trb, .int (nI 0), .ref (gAd G kd), .int (nI (eS sf)), .int (nI sz)])), (im, .inr (1, [.ref ims, .ref imp, .int (nI kg), .int (nI kp), .int (nI ka)])), (e0, aI G 4 ((rdR pg pl).2.2.1)), (e1, aI G 4 ((rdR pg pl).2.2.2.1)), (e2, aI G 4 ((rdR pg pl).2.2.2.2.1)), (e3, aI G 4 ((rdR pg pl).2.2.2.2.2)), (pgc, aI G 32 pg), (dr, .inr (2, [.ref e0, .ref e1, .ref e2, .ref e3, .int (nI ((rdR pg pl).1)), .int (nI (dueOf (rdR pg pl).2.1))])), (pgo, .inr (3, [.ref pgc, .int (nI 0)]))]) (C := RX8) (T := TX8) (N := 7) F dX9_law_65 in_X9_law_X8 tyX8_ok nmX8 1 rfl rfl 3 (by decide) (List.mem_of_getElem? (i := 6) rfl) rfl (by first | rfl | decide) rfl (Nat.le_of_ble_eq_true rfl) rfl rfl ?_
      refine v_aload_n (pc' := 69) F dX9_law_68 rfl 1 rfl rfl ?_
      refine v_get (pc' := 72) (C := RX9) (T := TX9) (N := 12) F dX9_law_69 in_X9_law_X9 0 rfl rfl 5 (by decide) (List.mem_of_getElem? (i := 7) rfl) rfl rfl ?_
      refine v_iconst (pc' := 73) (v := nI 0) F dX9_law_72 (by decide) rfl ?_
      refine v_put (pc' := 76) (ws' := [(x, .inr (7, [.ref pgo, .ref ppa, .ref dl, .ref se, .ref tr, .ref im, .ref dr, .ref la, .int (nI pe), .int (nI ac), .int (nI lr), .int (nI sd)])), (tr, .inr (6, [.ref tpu, .ref tro, .ref trb, .int (nI 0), .ref (gAd G kd), .int (nI (eS sf)), .int (nI sz)])), (im, .inr (1, [.ref ims, .ref imp, .int (nI 0), .int (nI kp), .int (nI ka)])), (e0, aI G 4 ((rdR pg pl).2.2.1)), (e1, aI G 4 ((rdR pg pl).2.2.2.1)), (e2, aI G 4 ((rdR pg pl).2.2.2.2.1)), (e3, aI G 4 ((rdR pg pl).2.2.2.2.2)), (pgc, aI G 32 pg), (dr, .inr (2, [.ref e0, .ref e1, .ref e2, .ref e3, .int (nI ((rdR pg pl).1)), .int (nI (dueOf (rdR pg pl).2.1))])), (pgo, .inr (3, [.ref pgc, .int (nI 0)]))]) (C := RX1) (T := TX1) (N := 5) F dX9_law_73 in_X9_law_X1 tyX1_ok nmX1 2 rfl rfl 2 (by decide) (List.mem_of_getElem? (i := 8) rfl) rfl (by first | rfl | decide) rfl (Nat.le_of_ble_eq_true rfl) rfl rfl ?_
      refine v_aload_n (pc' := 77) F dX9_law_76 rfl 1 rfl rfl ?_
      refine v_iconst (pc' := 78) (v := nI 0) F dX9_law_77 (by decide) rfl ?_
      refine v_put (pc' := 81) (ws' := [(x, .inr (7, [.ref pgo, .ref ppa, .ref dl, .ref se, .ref tr, .ref im, .ref dr, .ref la, .int (nI 0), .int (nI ac), .int (nI lr), .int (nI sd)])), (tr, .inr (6, [.ref tpu, .ref tro, .ref trb, .int (nI 0), .ref (gAd G kd), .int (nI (eS sf)), .int (nI sz)])), (im, .inr (1, [.ref ims, .ref imp, .int (nI 0), .int (nI kp), .int (nI ka)])), (e0, aI G 4 ((rdR pg pl).2.2.1)), (e1, aI G 4 ((rdR pg pl).2.2.2.1)), (e2, aI G 4 ((rdR pg pl).2.2.2.2.1)), (e3, aI G 4 ((rdR pg pl).2.2.2.2.2)), (pgc, aI G 32 pg), (dr, .inr (2, [.ref e0, .ref e1, .ref e2, .ref e3, .int (nI ((rdR pg pl).1)), .int (nI (dueOf (rdR pg pl).2.1))])), (pgo, .inr (3, [.ref pgc, .int (nI 0)]))]) (C := RX9) (T := TX9) (N := 12) F dX9_law_78 in_X9_law_X9 tyX9_ok nmX9 0 rfl rfl 8 (by decide) (List.mem_of_getElem? (i := 9) rfl) rfl rfl rfl (Nat.le_of_ble_eq_true rfl) rfl rfl ?_
      refine v_aload_n (pc' := 82) F dX9_law_81 rfl 1 rfl rfl ?_
      refine v_iconst (pc' := 83) (v := nI 0) F dX9_law_82 (by decide) rfl ?_
      refine v_put (pc' := 86) (ws' := [(x, .inr (7, [.ref pgo, .ref ppa, .ref dl, .ref se, .ref tr, .ref im, .ref dr, .ref la, .int (nI 0), .int (nI 0), .int (nI lr), .int (nI sd)])), (tr, .inr (6, [.ref tpu, .ref tro, .ref trb, .int (nI 0), .ref (gAd G kd), .int (nI (eS sf)), .int (nI sz)])), (im, .inr (1, [.ref ims, .ref imp, .int (nI 0), .int (nI kp), .int (nI ka)])), (e0, aI G 4 ((rdR pg pl).2.2.1)), (e1, aI G 4 ((rdR pg pl).2.2.2.1)), (e2, aI G 4 ((rdR pg pl).2.2.2.2.1)), (e3, aI G 4 ((rdR pg pl).2.2.2.2.2)), (pgc, aI G 32 pg), (dr, .inr (2, [.ref e0, .ref e1, .ref e2, .ref e3, .int (nI ((rdR pg pl).1)), .int (nI (dueOf (rdR pg pl).2.1))])), (pgo, .inr (3, [.ref pgc, .int (nI 0)]))]) (C := RX9) (T := TX9) (N := 12) F dX9_law_83 in_X9_law_X9 tyX9_ok nmX9 0 rfl rfl 9 (by decide) (List.mem_of_getElem? (i := 10) rfl) rfl rfl rfl (Nat.le_of_ble_eq_true rfl) rfl rfl ?_
      refine v_aload_n (pc' := 87) F dX9_law_86 rfl 1 rfl rfl ?_
      refine v_dup (pc' := 88) F dX9_law_87 rfl rfl ?_
      refine v_get (pc' := 91) (C := RX9) (T := TX9) (N := 12) F dX9_law_88 in_X9_law_X9 0 rfl rfl 10 (by decide) (List.mem_of_getElem? (i := 11) rfl) rfl rfl ?_
      refine v_iconst (pc' := 92) (v := nI 1) F dX9_law_91 (by decide) rfl ?_
      refine v_iadd (pc' := 93) (z := nI (lr + 1)) F dX9_law_92 (nI_add _ _) rfl ?_
      refine v_put (pc' := 96) (ws' := [(x, .inr (7, [.ref pgo, .ref ppa, .ref dl, .ref se, .ref tr, .ref im, .ref dr, .ref la, .int (nI 0), .int (nI 0), .int (nI (lr + 1)), .int (nI sd)])), (tr, .inr (6, [.ref tpu, .ref tro, .ref trb, .int (nI 0), .ref (gAd G kd), .int (nI (eS sf)), .int (nI sz)])), (im, .inr (1, [.ref ims, .ref imp, .int (nI 0), .int (nI kp), .int (nI ka)])), (e0, aI G 4 ((rdR pg pl).2.2.1)), (e1, aI G 4 ((rdR pg pl).2.2.2.1)), (e2, aI G 4 ((rdR pg pl).2.2.2.2.1)), (e3, aI G 4 ((rdR pg pl).2.2.2.2.2)), (pgc, aI G 32 pg), (dr, .inr (2, [.ref e0, .ref e1, .ref e2, .ref e3, .int (nI ((rdR pg pl).1)), .int (nI (dueOf (rdR pg pl).2.1))])), (pgo, .inr (3, [.ref pgc, .int (nI 0)]))]) (C := RX9) (T := TX9) (N := 12) F dX9_law_93 in_X9_law_X9 tyX9_ok nmX9 0 rfl rfl 10 (by decide) (List.mem_of_getElem? (i := 11) rfl) rfl rfl rfl (Nat.le_of_ble_eq_true rfl) rfl rfl ?_
      refine v_aload_n (pc' := 97) F dX9_law_96 rfl 1 rfl rfl ?_
      refine v_get (pc' := 100) (C := RX9) (T := TX9) (N := 12) F dX9_law_97 in_X9_law_X9 0 rfl rfl 6 (by decide) (List.mem_of_getElem? (i := 4) rfl) rfl rfl ?_
      refine cVI (pc' := 103) (As := []) (rest := []) (wr := [(x, .inr (7, [.ref pgo, .ref ppa, .ref dl, .ref se, .ref tr, .ref im, .ref dr, .ref la, .int (nI 0), .int (nI 0), .int (nI (lr + 1)), .int (nI sd)])), (tr, .inr (6, [.ref tpu, .ref tro, .ref trb, .int (nI 0), .ref (gAd G kd), .int (nI (eS sf)), .int (nI sz)])), (im, .inr (1, [.ref ims, .ref imp, .int (nI 0), .int (nI kp), .int (nI ka)])), (e1, aI G 4 ((rdR pg pl).2.2.2.1)), (e2, aI G 4 ((rdR pg pl).2.2.2.2.1)), (e3, aI G 4 ((rdR pg pl).2.2.2.2.2)), (pgc, aI G 32 pg), (pgo, .inr (3, [.ref pgc, .int (nI 0)]))]) F (c_X3_coinsTaken dr e0 e1 e2 e3 ((rdR pg pl).1) (dueOf (rdR pg pl).2.1) ((rdR pg pl).2.2.1) (fun j hj => (hwl j hj).1)) (cwV 0 F.2.2.2.2.1 gX9_law_X3_coinsTaken rfl rfl rfl (by decide +kernel) ⟨Nat.le_of_ble_eq_true rfl, Nat.le_of_ble_eq_true rfl⟩) (v_rcvW F 2 8 rfl rfl) rfl rfl (Nat.le_of_ble_eq_true rfl) dX9_law_100 [8, 3] [0, 1, 2, 4, 5, 6, 7, 9] (by decide) rfl rfl (by decide) (by decide) ⟨Nat.zero_le _, Nat.zero_le _⟩ rfl (fun r u q8 => ?_)
      obtain rfl := q8
      refine v_ws (wz := [(x, .inr (7, [.ref pgo, .ref ppa, .ref dl, .ref se, .ref tr, .ref im, .ref dr, .ref la, .int (nI 0), .int (nI 0), .int (nI (lr + 1)), .int (nI sd)])), (tr, .inr (6, [.ref tpu, .ref tro, .ref trb, .int (nI 0), .ref (gAd G kd), .int (nI (eS sf)), .int (nI sz)])), (im, .inr (1, [.ref ims, .ref imp, .int (nI 0), .int (nI kp), .int (nI ka)])), (e1, aI G 4 ((rdR pg pl).2.2.2.1)), (e2, aI G 4 ((rdR pg pl).2.2.2.2.1)), (e3, aI G 4 ((rdR pg pl).2.2.2.2.2)), (pgc, aI G 32 pg), (pgo, .inr (3, [.ref pgc, .int (nI 0)])), (dr, .inr (2, [.ref e0, .ref e1, .ref e2, .ref e3, .int (nI ((rdR pg pl).1)), .int (nI (dueOf (rdR pg pl).2.1))])), (e0, aI G 4 ((rdR pg pl).2.2.1))]) rfl ?_
      refine v_perm (wz := [(x, .inr (7, [.ref pgo, .ref ppa, .ref dl, .ref se, .ref tr, .ref im, .ref dr, .ref la, .int (nI 0), .int (nI 0), .int (nI (lr + 1)), .int (nI sd)])), (dr, .inr (2, [.ref e0, .ref e1, .ref e2, .ref e3, .int (nI ((rdR pg pl).1)), .int (nI (dueOf (rdR pg pl).2.1))])), (e0, aI G 4 ((rdR pg pl).2.2.1)), (e1, aI G 4 ((rdR pg pl).2.2.2.1)), (e2, aI G 4 ((rdR pg pl).2.2.2.2.1)), (e3, aI G 4 ((rdR pg pl).2.2.2.2.2)), (pgo, .inr (3, [.ref pgc, .int (nI 0)])), (pgc, aI G 32 pg), (tr, .inr (6, [.ref tpu, .ref tro, .ref trb, .int (nI 0), .ref (gAd G kd), .int (nI (eS sf)), .int (nI sz)])), (im, .inr (1, [.ref ims, .ref imp, .int (nI 0), .int (nI kp), .int (nI ka)]))]) [0, 8, 9, 3, 4, 5, 7, 6, 1, 2] (by decide) rfl ?_
      exact rt dX9_law_103 (rdR pg pl, dr, la, 0, 0, lr + 1, 0, 0, 0) ⟨(by unfold A_law; rw [if_pos hwh]), fun _ => rfl, (by rw [if_pos hwh])⟩ rfl
    · have hno : ¬ isWh pg pl := fun q => by first | exact absurd q.1 (by assumption) | exact absurd (hwc.mpr q.2) (by assumption)
      refine v_bipush (pc' := 33) (v := (-103)) F dX9_law_31 (by decide) rfl ?_
      refine v_perm (wz := [(x, .inr (7, [.ref pgo, .ref ppa, .ref dl, .ref se, .ref tr, .ref im, .ref la, .ref dr, .int (nI pe), .int (nI ac), .int (nI lr), .int (nI sd)])), (dr, .inr (2, [.ref e0, .ref e1, .ref e2, .ref e3, .int (nI nw_1.1), .int (nI (dueOf nw_1.2.1))])), (e0, aI G 4 nw_1.2.2.1), (e1, aI G 4 nw_1.2.2.2.1), (e2, aI G 4 nw_1.2.2.2.2.1), (e3, aI G 4 nw_1.2.2.2.2.2), (pgo, .inr (3, [.ref pgc, .int (nI pl)])), (pgc, aI G 32 pg), (tr, .inr (6, [.ref tpu, .ref tro, .ref trb, .int (nI tg), .ref (gAd G kd), .int (nI (eS sf)), .int (nI sz)])), (im, .inr (1, [.ref ims, .ref imp, .int (nI kg), .int (nI kp), .int (nI ka)]))]) [0, 9, 3, 4, 5, 6, 7, 8, 1, 2] (by decide) rfl ?_
      exact rt dX9_law_33 (nw_1, la, dr, pe, ac, lr, pl, tg, kg) ⟨(by unfold A_law; rw [if_neg hno]), fun q => absurd q hno, (by rw [if_neg hno])⟩ rfl
def rm_X10_nextState : Room := { frames := 1, cells := 0, slots := 0, locals := 22 }
theorem in_X10_nextState_X10 : ∀ w ∈ u_ws RX10 TX10 38, w ∈ wsX10_nextState := fun w h => List.mem_cons_of_mem _ (List.mem_append_right _ (h))
set_option maxHeartbeats 4000000 in
set_option maxRecDepth 100000 in
theorem c_X10_nextState {l : Launch} {D : va_G} {G : gT} (o : Nat) (ma : Nat → Nat) (fi : Nat → Int32) (fl : Nat → Int64) (nt st : Nat) (tk gv pr py : Nat → Nat) (ch : Nat) (hfn : fi 19 = nI nt) (hn : nt < 4) (hs : st < 6) (hc : ch < 127) (ht : tk nt < 16) : CtI (σ := rS) l yX10_nextState wsX10_nextState rm_X10_nextState D G [.ref o, .int (nI st), .int (nI ch)] [(o, mO ma fi fl), (ma 20, aI G 4 tk), (ma 21, aI G 4 gv), (ma 22, aI G 4 pr), (ma 23, aI G 4 py)] (fun r u => r = rdI (rdS nt st tk gv pr py ch) ∧ ∀ s, rdS nt st tk gv pr py ch = some s → u = s) (fun u => [(o, mO ma (va_up fi 19 (nI u.1)) fl), (ma 20, aI G 4 u.2.2.1), (ma 21, aI G 4 u.2.2.2.1), (ma 22, aI G 4 u.2.2.2.2.1), (ma 23, aI G 4 u.2.2.2.2.2)]) := by
  refine openI (maxL := 5) (by decide) rfl (Nat.le_of_ble_eq_true rfl) ?_
  intro pgZ evZ sgZ mmZ agsZ blZ meZ cdZ AZ QZ F hmn rt
  refine v_lv (lz := [(0, .ref o), (1, .int (nI st)), (2, .int (nI ch))]) rfl ?_
  have hfg := fg_nI ch hc
  have hf4 := fg_4 ch hc
  have hfp := fg_p ch hc
  have hf5 := fg_5 ch hc
  have hpw := fun q : fg ch < 4 => pw_le8 q
  refine v_iload_n (pc' := 1) F dX10_nextState_0 rfl 2 rfl rfl ?_
  refine v_bipush (pc' := 3) (v := nI 48) F dX10_nextState_1 (by decide) rfl ?_
  refine v_isub (pc' := 4) (z := nI (fg ch)) F dX10_nextState_3 hfg rfl ?_
  refine v_istore_n (pc' := 5) (lv' := [(3, .int (nI (fg ch))), (0, .ref o), (1, .int (nI st)), (2, .int (nI ch))]) F dX10_nextState_4 rfl (by decide) rfl rfl ?_
  have J27_1 : V pgZ l evZ rm_X10_nextState sgZ mmZ agsZ blZ meZ cdZ 0 0 QZ D AZ 5 27 [(3, .int (nI (fg ch))), (0, .ref o), (1, .int (nI st)), (2, .int (nI ch))] [.int (bI (fg ch < 4 ∧ ¬ fg ch = nt))] [(o, mO ma fi fl), (ma 20, aI G 4 tk), (ma 21, aI G 4 gv), (ma 22, aI G 4 pr), (ma 23, aI G 4 py)] := by
    refine v_istore (pc' := 29) (lv' := [(4, .int (bI (fg ch < 4 ∧ ¬ fg ch = nt))), (3, .int (nI (fg ch))), (0, .ref o), (1, .int (nI st)), (2, .int (nI ch))]) F dX10_nextState_27 (by decide) rfl rfl ?_
    refine v_iload_n (pc' := 30) F dX10_nextState_29 rfl 3 rfl rfl ?_
    refine v_iconst (pc' := 31) (v := nI 2) F dX10_nextState_30 (by decide) rfl ?_
    refine v_ncmp_ge (tgt := 89) (pc' := 34) F dX10_nextState_31 (by omega) (by omega) (by decide) rfl (fun c2 => ?_) (fun c2 => ?_)
    · refine v_iload_n (pc' := 90) F dX10_nextState_89 rfl 3 rfl rfl ?_
      refine v_iconst (pc' := 91) (v := nI 2) F dX10_nextState_90 (by decide) rfl ?_
      refine v_ncmp_ne (tgt := 115) (pc' := 94) F dX10_nextState_91 (by omega) (by omega) (by decide) rfl (fun c3 => ?_) (fun c3 => ?_)
      · refine v_iload_n (pc' := 116) F dX10_nextState_115 rfl 3 rfl rfl ?_
        refine v_iconst (pc' := 117) (v := nI 3) F dX10_nextState_116 (by decide) rfl ?_
        refine v_ncmp_ne (tgt := 145) (pc' := 120) F dX10_nextState_117 (by omega) (by omega) (by decide) rfl (fun c4 => ?_) (fun c4 => ?_)
        · refine v_iload_n (pc' := 146) F dX10_nextState_145 rfl 3 rfl rfl ?_
          refine v_iconst (pc' := 147) (v := nI 4) F dX10_nextState_146 (by decide) rfl ?_
          refine v_ncmp_ne (tgt := 175) (pc' := 150) F dX10_nextState_147 (by omega) (by omega) (by decide) rfl (fun c5 => ?_) (fun c5 => ?_)
          · refine v_iload_n (pc' := 176) F dX10_nextState_175 rfl 4 rfl rfl ?_
            refine v_bipush (pc' := 178) (v := nI 47) F dX10_nextState_176 (by decide) rfl ?_
            refine v_ncmp_ne (tgt := 189) (pc' := 181) F dX10_nextState_178 (by omega) (by omega) (by decide) rfl (fun c6 => ?_) (fun c6 => ?_)
            · refine v_iconst (pc' := 190) (v := (-1)) F dX10_nextState_189 (by decide) rfl ?_
              refine v_ws (wz := [(o, mO ma (va_up fi 19 (nI nt)) fl), (ma 20, aI G 4 tk), (ma 21, aI G 4 gv), (ma 22, aI G 4 pr), (ma 23, aI G 4 py)]) (by rw [← hfn, up_id]) ?_
              exact rt dX10_nextState_190 (nt, st, tk, gv, pr, py) (have hq := rdS_k (nt := nt) (st := st) (tk := tk) (gv := gv) (pr := pr) (py := py) (c := ch) (by omega) (by omega); ⟨(rdI_n hq).symm, fun s hs => by rw [hq] at hs; cases hs⟩) rfl
            · refine v_aload_n (pc' := 182) F dX10_nextState_181 rfl 2 rfl rfl ?_
              refine v_get (pc' := 185) (v := .int (nI nt)) (C := RX10) (T := TX10) (N := 38) F dX10_nextState_182 in_X10_nextState_X10 0 rfl rfl 19 (by decide) (List.mem_of_getElem? (i := 1) rfl) (congrArg (fun z => some (Value.int z)) hfn) rfl ?_
              refine v_iconst (pc' := 186) (v := nI 3) F dX10_nextState_185 (by decide) rfl ?_
              refine v_ncmp_ne (tgt := 191) (pc' := 189) F dX10_nextState_186 (by omega) (by omega) (by decide) rfl (fun c7 => ?_) (fun c7 => ?_)
              · refine v_aload_n (pc' := 192) F dX10_nextState_191 rfl 2 rfl rfl ?_
                refine v_dup (pc' := 193) F dX10_nextState_192 rfl rfl ?_
                refine v_get (pc' := 196) (v := .int (nI nt)) (C := RX10) (T := TX10) (N := 38) F dX10_nextState_193 in_X10_nextState_X10 0 rfl rfl 19 (by decide) (List.mem_of_getElem? (i := 1) rfl) (congrArg (fun z => some (Value.int z)) hfn) rfl ?_
                refine v_iconst (pc' := 197) (v := nI 1) F dX10_nextState_196 (by decide) rfl ?_
                refine v_iadd (pc' := 198) (z := nI (nt + 1)) F dX10_nextState_197 (nI_add _ _) rfl ?_
                refine v_put (pc' := 201) (ws' := [(o, mO ma (va_up fi 19 (nI (nt + 1))) fl), (ma 20, aI G 4 tk), (ma 21, aI G 4 gv), (ma 22, aI G 4 pr), (ma 23, aI G 4 py)]) (C := RX10) (T := TX10) (N := 38) F dX10_nextState_198 in_X10_nextState_X10 tyX10_ok nmX10 0 rfl rfl 19 (by decide) (List.mem_of_getElem? (i := 1) rfl) rfl rfl rfl (Nat.le_of_ble_eq_true rfl) rfl rfl ?_
                refine v_iconst (pc' := 202) (v := nI 0) F dX10_nextState_201 (by decide) rfl ?_
                exact rt dX10_nextState_202 (nt + 1, 0, tk, gv, pr, py) (have hq := rdS_j (nt := nt) (st := st) (tk := tk) (gv := gv) (pr := pr) (py := py) (c := ch) (by omega) (by omega) (by omega); ⟨(rdI_s hq).symm, fun s hs => Option.some.inj (hq.symm.trans hs)⟩) rfl
              · refine v_iconst (pc' := 190) (v := (-1)) F dX10_nextState_189 (by decide) rfl ?_
                refine v_ws (wz := [(o, mO ma (va_up fi 19 (nI nt)) fl), (ma 20, aI G 4 tk), (ma 21, aI G 4 gv), (ma 22, aI G 4 pr), (ma 23, aI G 4 py)]) (by rw [← hfn, up_id]) ?_
                exact rt dX10_nextState_190 (nt, st, tk, gv, pr, py) (have hq := rdS_k (nt := nt) (st := st) (tk := tk) (gv := gv) (pr := pr) (py := py) (c := ch) (by omega) (by omega); ⟨(rdI_n hq).symm, fun s hs => by rw [hq] at hs; cases hs⟩) rfl
          · refine v_aload_n (pc' := 151) F dX10_nextState_150 rfl 2 rfl rfl ?_
            refine v_get (pc' := 154) (v := .ref (ma 23)) (C := RX10) (T := TX10) (N := 38) F dX10_nextState_151 in_X10_nextState_X10 0 rfl rfl 23 (by decide) (List.mem_of_getElem? (i := 5) rfl) rfl rfl ?_
            refine v_aload_n (pc' := 155) F dX10_nextState_154 rfl 2 rfl rfl ?_
            refine v_get (pc' := 158) (v := .int (nI nt)) (C := RX10) (T := TX10) (N := 38) F dX10_nextState_155 in_X10_nextState_X10 0 rfl rfl 19 (by decide) (List.mem_of_getElem? (i := 1) rfl) (congrArg (fun z => some (Value.int z)) hfn) rfl ?_
            refine v_iload_n (pc' := 159) F dX10_nextState_158 rfl 1 rfl rfl ?_
            refine v_iast (pc' := 160) (ws' := [(o, mO ma fi fl), (ma 20, aI G 4 tk), (ma 21, aI G 4 gv), (ma 22, aI G 4 pr), (ma 23, aI G 4 (va_up py nt (fg ch)))]) F dX10_nextState_159 4 rfl (by omega) (by first | decide | omega) rfl rfl ?_
            refine v_iload_n (pc' := 161) F dX10_nextState_160 rfl 1 rfl rfl ?_
            refine v_iconst (pc' := 162) (v := nI 0) F dX10_nextState_161 (by decide) rfl ?_
            refine v_iconst (pc' := 163) (v := nI 4) F dX10_nextState_162 (by decide) rfl ?_
            refine cSI0 (pc' := 166) (As := [.int (nI (fg ch)), .int (nI 0), .int (nI 4)]) (rest := []) F (c_X10_within (nI (fg ch)) (nI 0) (nI 4)) (va_cwS 3 F.2.2.2.2.1 gX10_nextState_X10_within rfl rfl rfl (by decide +kernel) ⟨Nat.le_of_ble_eq_true rfl, Nat.le_of_ble_eq_true rfl⟩) rfl rfl (Nat.le_of_ble_eq_true rfl) dX10_nextState_163 ⟨Nat.zero_le _, Nat.zero_le _⟩ rfl (fun r u q8 => ?_)
            obtain rfl := q8
            refine v_bif_eq (tgt := 173) (pc' := 169) F dX10_nextState_166 (by decide) rfl (fun c9 => ?_) (fun c9 => ?_)
            · refine v_iconst (pc' := 174) (v := (-1)) F dX10_nextState_173 (by decide) rfl ?_
              refine v_ws (wz := [(o, mO ma (va_up fi 19 (nI nt)) fl), (ma 20, aI G 4 tk), (ma 21, aI G 4 gv), (ma 22, aI G 4 pr), (ma 23, aI G 4 (va_up py nt (fg ch)))]) (by rw [← hfn, up_id]) ?_
              exact rt dX10_nextState_174 (nt, st, tk, gv, pr, va_up py nt (fg ch)) (have hq := rdS_i (nt := nt) (st := st) (tk := tk) (gv := gv) (pr := pr) (py := py) (c := ch) (by omega) (fun q => absurd (hf5.mpr q) (by assumption)); ⟨(rdI_n hq).symm, fun s hs => by rw [hq] at hs; cases hs⟩) rfl
            · refine v_iconst (pc' := 170) (v := nI 5) F dX10_nextState_169 (by decide) rfl ?_
              refine v_goto (tgt := 174) F dX10_nextState_170 (by decide) ?_
              refine v_ws (wz := [(o, mO ma (va_up fi 19 (nI nt)) fl), (ma 20, aI G 4 tk), (ma 21, aI G 4 gv), (ma 22, aI G 4 pr), (ma 23, aI G 4 (va_up py nt (fg ch)))]) (by rw [← hfn, up_id]) ?_
              exact rt dX10_nextState_174 (nt, 5, tk, gv, pr, va_up py nt (fg ch)) (have hq := rdS_h (nt := nt) (st := st) (tk := tk) (gv := gv) (pr := pr) (py := py) (c := ch) (by omega) (hf5.mp (by assumption)); ⟨(rdI_s hq).symm, fun s hs => Option.some.inj (hq.symm.trans hs)⟩) rfl
        · refine v_aload_n (pc' := 121) F dX10_nextState_120 rfl 2 rfl rfl ?_
          refine v_get (pc' := 124) (v := .ref (ma 22)) (C := RX10) (T := TX10) (N := 38) F dX10_nextState_121 in_X10_nextState_X10 0 rfl rfl 22 (by decide) (List.mem_of_getElem? (i := 4) rfl) rfl rfl ?_
          refine v_aload_n (pc' := 125) F dX10_nextState_124 rfl 2 rfl rfl ?_
          refine v_get (pc' := 128) (v := .int (nI nt)) (C := RX10) (T := TX10) (N := 38) F dX10_nextState_125 in_X10_nextState_X10 0 rfl rfl 19 (by decide) (List.mem_of_getElem? (i := 1) rfl) (congrArg (fun z => some (Value.int z)) hfn) rfl ?_
          refine v_iload_n (pc' := 129) F dX10_nextState_128 rfl 1 rfl rfl ?_
          refine v_iast (pc' := 130) (ws' := [(o, mO ma fi fl), (ma 20, aI G 4 tk), (ma 21, aI G 4 gv), (ma 22, aI G 4 (va_up pr nt (fg ch))), (ma 23, aI G 4 py)]) F dX10_nextState_129 3 rfl (by omega) (by first | decide | omega) rfl rfl ?_
          refine v_iload_n (pc' := 131) F dX10_nextState_130 rfl 1 rfl rfl ?_
          refine v_iconst (pc' := 132) (v := nI 1) F dX10_nextState_131 (by decide) rfl ?_
          refine v_iconst (pc' := 133) (v := nI 4) F dX10_nextState_132 (by decide) rfl ?_
          refine cSI0 (pc' := 136) (As := [.int (nI (fg ch)), .int (nI 1), .int (nI 4)]) (rest := []) F (c_X10_within (nI (fg ch)) (nI 1) (nI 4)) (va_cwS 3 F.2.2.2.2.1 gX10_nextState_X10_within rfl rfl rfl (by decide +kernel) ⟨Nat.le_of_ble_eq_true rfl, Nat.le_of_ble_eq_true rfl⟩) rfl rfl (Nat.le_of_ble_eq_true rfl) dX10_nextState_133 ⟨Nat.zero_le _, Nat.zero_le _⟩ rfl (fun r u q10 => ?_)
          obtain rfl := q10
          refine v_bif_eq (tgt := 143) (pc' := 139) F dX10_nextState_136 (by decide) rfl (fun c11 => ?_) (fun c11 => ?_)
          · refine v_iconst (pc' := 144) (v := (-1)) F dX10_nextState_143 (by decide) rfl ?_
            refine v_ws (wz := [(o, mO ma (va_up fi 19 (nI nt)) fl), (ma 20, aI G 4 tk), (ma 21, aI G 4 gv), (ma 22, aI G 4 (va_up pr nt (fg ch))), (ma 23, aI G 4 py)]) (by rw [← hfn, up_id]) ?_
            exact rt dX10_nextState_144 (nt, st, tk, gv, va_up pr nt (fg ch), py) (have hq := rdS_g (nt := nt) (st := st) (tk := tk) (gv := gv) (pr := pr) (py := py) (c := ch) (by omega) (fun q => absurd (hfp.mpr q) (by assumption)); ⟨(rdI_n hq).symm, fun s hs => by rw [hq] at hs; cases hs⟩) rfl
          · refine v_iconst (pc' := 140) (v := nI 4) F dX10_nextState_139 (by decide) rfl ?_
            refine v_goto (tgt := 144) F dX10_nextState_140 (by decide) ?_
            refine v_ws (wz := [(o, mO ma (va_up fi 19 (nI nt)) fl), (ma 20, aI G 4 tk), (ma 21, aI G 4 gv), (ma 22, aI G 4 (va_up pr nt (fg ch))), (ma 23, aI G 4 py)]) (by rw [← hfn, up_id]) ?_
            exact rt dX10_nextState_144 (nt, 4, tk, gv, va_up pr nt (fg ch), py) (have hq := rdS_f (nt := nt) (st := st) (tk := tk) (gv := gv) (pr := pr) (py := py) (c := ch) (by omega) (hfp.mp (by assumption)); ⟨(rdI_s hq).symm, fun s hs => Option.some.inj (hq.symm.trans hs)⟩) rfl
      · refine v_aload_n (pc' := 95) F dX10_nextState_94 rfl 2 rfl rfl ?_
        refine v_get (pc' := 98) (v := .ref (ma 21)) (C := RX10) (T := TX10) (N := 38) F dX10_nextState_95 in_X10_nextState_X10 0 rfl rfl 21 (by decide) (List.mem_of_getElem? (i := 3) rfl) rfl rfl ?_
        refine v_aload_n (pc' := 99) F dX10_nextState_98 rfl 2 rfl rfl ?_
        refine v_get (pc' := 102) (v := .int (nI nt)) (C := RX10) (T := TX10) (N := 38) F dX10_nextState_99 in_X10_nextState_X10 0 rfl rfl 19 (by decide) (List.mem_of_getElem? (i := 1) rfl) (congrArg (fun z => some (Value.int z)) hfn) rfl ?_
        refine v_iload_n (pc' := 103) F dX10_nextState_102 rfl 1 rfl rfl ?_
        refine v_iast (pc' := 104) (ws' := [(o, mO ma fi fl), (ma 20, aI G 4 tk), (ma 21, aI G 4 (va_up gv nt (fg ch))), (ma 22, aI G 4 pr), (ma 23, aI G 4 py)]) F dX10_nextState_103 2 rfl (by omega) (by first | decide | omega) rfl rfl ?_
        refine v_iload (pc' := 106) F dX10_nextState_104 0 rfl rfl ?_
        refine v_bif_eq (tgt := 113) (pc' := 109) F dX10_nextState_106 (by decide) rfl (fun c12 => ?_) (fun c12 => ?_)
        · refine v_iconst (pc' := 114) (v := (-1)) F dX10_nextState_113 (by decide) rfl ?_
          refine v_ws (wz := [(o, mO ma (va_up fi 19 (nI nt)) fl), (ma 20, aI G 4 tk), (ma 21, aI G 4 (va_up gv nt (fg ch))), (ma 22, aI G 4 pr), (ma 23, aI G 4 py)]) (by rw [← hfn, up_id]) ?_
          exact rt dX10_nextState_114 (nt, st, tk, va_up gv nt (fg ch), pr, py) (have hq := rdS_e (nt := nt) (st := st) (tk := tk) (gv := gv) (pr := pr) (py := py) (c := ch) (by omega) (by omega); ⟨(rdI_n hq).symm, fun s hs => by rw [hq] at hs; cases hs⟩) rfl
        · refine v_iconst (pc' := 110) (v := nI 3) F dX10_nextState_109 (by decide) rfl ?_
          refine v_goto (tgt := 114) F dX10_nextState_110 (by decide) ?_
          refine v_ws (wz := [(o, mO ma (va_up fi 19 (nI nt)) fl), (ma 20, aI G 4 tk), (ma 21, aI G 4 (va_up gv nt (fg ch))), (ma 22, aI G 4 pr), (ma 23, aI G 4 py)]) (by rw [← hfn, up_id]) ?_
          exact rt dX10_nextState_114 (nt, 3, tk, va_up gv nt (fg ch), pr, py) (have hq := rdS_d (nt := nt) (st := st) (tk := tk) (gv := gv) (pr := pr) (py := py) (c := ch) (by omega) (by omega) (by omega); ⟨(rdI_s hq).symm, fun s hs => Option.some.inj (hq.symm.trans hs)⟩) rfl
    · refine v_iload (pc' := 36) F dX10_nextState_34 0 rfl rfl ?_
      refine v_bif_eq (tgt := 72) (pc' := 39) F dX10_nextState_36 (by decide) rfl (fun c13 => ?_) (fun c13 => ?_)
      · refine v_iload_n (pc' := 73) F dX10_nextState_72 rfl 3 rfl rfl ?_
        refine v_iconst (pc' := 74) (v := nI 1) F dX10_nextState_73 (by decide) rfl ?_
        refine v_ncmp_ne (tgt := 87) (pc' := 77) F dX10_nextState_74 (by omega) (by omega) (by decide) rfl (fun c14 => ?_) (fun c14 => ?_)
        · refine v_iconst (pc' := 88) (v := (-1)) F dX10_nextState_87 (by decide) rfl ?_
          refine v_ws (wz := [(o, mO ma (va_up fi 19 (nI nt)) fl), (ma 20, aI G 4 tk), (ma 21, aI G 4 gv), (ma 22, aI G 4 pr), (ma 23, aI G 4 py)]) (by rw [← hfn, up_id]) ?_
          exact rt dX10_nextState_88 (nt, st, tk, gv, pr, py) (have hq := rdS_c (nt := nt) (st := st) (tk := tk) (gv := gv) (pr := pr) (py := py) (c := ch) (by omega) (by omega) (by omega); ⟨(rdI_n hq).symm, fun s hs => by rw [hq] at hs; cases hs⟩) rfl
        · refine v_iload_n (pc' := 78) F dX10_nextState_77 rfl 4 rfl rfl ?_
          refine v_bipush (pc' := 80) (v := nI 58) F dX10_nextState_78 (by decide) rfl ?_
          refine v_ncmp_ne (tgt := 87) (pc' := 83) F dX10_nextState_80 (by omega) (by omega) (by decide) rfl (fun c15 => ?_) (fun c15 => ?_)
          · refine v_iconst (pc' := 88) (v := (-1)) F dX10_nextState_87 (by decide) rfl ?_
            refine v_ws (wz := [(o, mO ma (va_up fi 19 (nI nt)) fl), (ma 20, aI G 4 tk), (ma 21, aI G 4 gv), (ma 22, aI G 4 pr), (ma 23, aI G 4 py)]) (by rw [← hfn, up_id]) ?_
            exact rt dX10_nextState_88 (nt, st, tk, gv, pr, py) (have hq := rdS_c (nt := nt) (st := st) (tk := tk) (gv := gv) (pr := pr) (py := py) (c := ch) (by omega) (by omega) (by omega); ⟨(rdI_n hq).symm, fun s hs => by rw [hq] at hs; cases hs⟩) rfl
          · refine v_iconst (pc' := 84) (v := nI 2) F dX10_nextState_83 (by decide) rfl ?_
            refine v_goto (tgt := 88) F dX10_nextState_84 (by decide) ?_
            refine v_ws (wz := [(o, mO ma (va_up fi 19 (nI nt)) fl), (ma 20, aI G 4 tk), (ma 21, aI G 4 gv), (ma 22, aI G 4 pr), (ma 23, aI G 4 py)]) (by rw [← hfn, up_id]) ?_
            exact rt dX10_nextState_88 (nt, 2, tk, gv, pr, py) (have hq := rdS_b (nt := nt) (st := st) (tk := tk) (gv := gv) (pr := pr) (py := py) (c := ch) (by omega) (by assumption); ⟨(rdI_s hq).symm, fun s hs => Option.some.inj (hq.symm.trans hs)⟩) rfl
      · refine v_aload_n (pc' := 40) F dX10_nextState_39 rfl 2 rfl rfl ?_
        refine v_get (pc' := 43) (v := .ref (ma 20)) (C := RX10) (T := TX10) (N := 38) F dX10_nextState_40 in_X10_nextState_X10 0 rfl rfl 20 (by decide) (List.mem_of_getElem? (i := 2) rfl) rfl rfl ?_
        refine v_aload_n (pc' := 44) F dX10_nextState_43 rfl 2 rfl rfl ?_
        refine v_get (pc' := 47) (v := .int (nI nt)) (C := RX10) (T := TX10) (N := 38) F dX10_nextState_44 in_X10_nextState_X10 0 rfl rfl 19 (by decide) (List.mem_of_getElem? (i := 1) rfl) (congrArg (fun z => some (Value.int z)) hfn) rfl ?_
        refine v_iald (pc' := 48) (z := tk nt) F dX10_nextState_47 1 rfl (by omega) (by first | decide | omega) rfl rfl ?_
        refine v_iload_n (pc' := 49) F dX10_nextState_48 rfl 1 rfl rfl ?_
        refine cSI0 (pc' := 52) (As := [.int (nI (tk nt)), .int (nI (fg ch))]) (rest := []) F (c_X10_has (tk nt) (fg ch) (by omega) (by omega)) (va_cwS 2 F.2.2.2.2.1 gX10_nextState_X10_has rfl rfl rfl (by decide +kernel) ⟨Nat.le_of_ble_eq_true rfl, Nat.le_of_ble_eq_true rfl⟩) rfl rfl (Nat.le_of_ble_eq_true rfl) dX10_nextState_49 ⟨Nat.zero_le _, Nat.zero_le _⟩ rfl (fun r u q16 => ?_)
        obtain rfl := q16
        refine v_bif_ne (tgt := 72) (pc' := 55) F dX10_nextState_52 (by decide) rfl (fun c17 => ?_) (fun c17 => ?_)
        · refine v_iload_n (pc' := 73) F dX10_nextState_72 rfl 3 rfl rfl ?_
          refine v_iconst (pc' := 74) (v := nI 1) F dX10_nextState_73 (by decide) rfl ?_
          refine v_ncmp_ne (tgt := 87) (pc' := 77) F dX10_nextState_74 (by omega) (by omega) (by decide) rfl (fun c18 => ?_) (fun c18 => ?_)
          · refine v_iconst (pc' := 88) (v := (-1)) F dX10_nextState_87 (by decide) rfl ?_
            refine v_ws (wz := [(o, mO ma (va_up fi 19 (nI nt)) fl), (ma 20, aI G 4 tk), (ma 21, aI G 4 gv), (ma 22, aI G 4 pr), (ma 23, aI G 4 py)]) (by rw [← hfn, up_id]) ?_
            exact rt dX10_nextState_88 (nt, st, tk, gv, pr, py) (have hq := rdS_c (nt := nt) (st := st) (tk := tk) (gv := gv) (pr := pr) (py := py) (c := ch) (by omega) (by omega) (by omega); ⟨(rdI_n hq).symm, fun s hs => by rw [hq] at hs; cases hs⟩) rfl
          · refine v_iload_n (pc' := 78) F dX10_nextState_77 rfl 4 rfl rfl ?_
            refine v_bipush (pc' := 80) (v := nI 58) F dX10_nextState_78 (by decide) rfl ?_
            refine v_ncmp_ne (tgt := 87) (pc' := 83) F dX10_nextState_80 (by omega) (by omega) (by decide) rfl (fun c19 => ?_) (fun c19 => ?_)
            · refine v_iconst (pc' := 88) (v := (-1)) F dX10_nextState_87 (by decide) rfl ?_
              refine v_ws (wz := [(o, mO ma (va_up fi 19 (nI nt)) fl), (ma 20, aI G 4 tk), (ma 21, aI G 4 gv), (ma 22, aI G 4 pr), (ma 23, aI G 4 py)]) (by rw [← hfn, up_id]) ?_
              exact rt dX10_nextState_88 (nt, st, tk, gv, pr, py) (have hq := rdS_c (nt := nt) (st := st) (tk := tk) (gv := gv) (pr := pr) (py := py) (c := ch) (by omega) (by omega) (by omega); ⟨(rdI_n hq).symm, fun s hs => by rw [hq] at hs; cases hs⟩) rfl
            · refine v_iconst (pc' := 84) (v := nI 2) F dX10_nextState_83 (by decide) rfl ?_
              refine v_goto (tgt := 88) F dX10_nextState_84 (by decide) ?_
              refine v_ws (wz := [(o, mO ma (va_up fi 19 (nI nt)) fl), (ma 20, aI G 4 tk), (ma 21, aI G 4 gv), (ma 22, aI G 4 pr), (ma 23, aI G 4 py)]) (by rw [← hfn, up_id]) ?_
              exact rt dX10_nextState_88 (nt, 2, tk, gv, pr, py) (have hq := rdS_b (nt := nt) (st := st) (tk := tk) (gv := gv) (pr := pr) (py := py) (c := ch) (by omega) (by assumption); ⟨(rdI_s hq).symm, fun s hs => Option.some.inj (hq.symm.trans hs)⟩) rfl
        · refine v_aload_n (pc' := 56) F dX10_nextState_55 rfl 2 rfl rfl ?_
          refine v_get (pc' := 59) (v := .ref (ma 20)) (C := RX10) (T := TX10) (N := 38) F dX10_nextState_56 in_X10_nextState_X10 0 rfl rfl 20 (by decide) (List.mem_of_getElem? (i := 2) rfl) rfl rfl ?_
          refine v_aload_n (pc' := 60) F dX10_nextState_59 rfl 2 rfl rfl ?_
          refine v_get (pc' := 63) (v := .int (nI nt)) (C := RX10) (T := TX10) (N := 38) F dX10_nextState_60 in_X10_nextState_X10 0 rfl rfl 19 (by decide) (List.mem_of_getElem? (i := 1) rfl) (congrArg (fun z => some (Value.int z)) hfn) rfl ?_
          refine v_dup2 (pc' := 64) F dX10_nextState_63 rfl rfl rfl ?_
          refine v_iald (pc' := 65) (z := tk nt) F dX10_nextState_64 1 rfl (by omega) (by first | decide | omega) rfl rfl ?_
          refine v_iconst (pc' := 66) (v := nI 1) F dX10_nextState_65 (by decide) rfl ?_
          refine v_iload_n (pc' := 67) F dX10_nextState_66 rfl 1 rfl rfl ?_
          refine v_ishl (pc' := 68) (z := nI (1 * 2 ^ fg ch)) F dX10_nextState_67 (ni_shl (by omega) (by have := pw_le8 (show fg ch < 4 by omega); omega)) rfl ?_
          refine v_ior (pc' := 69) (z := nI ((tk nt) ||| (1 * 2 ^ fg ch))) F dX10_nextState_68 (ni_or _ _) rfl ?_
          refine v_iast (pc' := 70) (ws' := [(o, mO ma fi fl), (ma 20, aI G 4 (va_up tk nt ((tk nt) ||| (1 * 2 ^ fg ch)))), (ma 21, aI G 4 gv), (ma 22, aI G 4 pr), (ma 23, aI G 4 py)]) F dX10_nextState_69 1 rfl (by omega) (by first | decide | omega) rfl rfl ?_
          refine v_iconst (pc' := 71) (v := nI 1) F dX10_nextState_70 (by decide) rfl ?_
          refine v_ws (wz := [(o, mO ma (va_up fi 19 (nI nt)) fl), (ma 20, aI G 4 (va_up tk nt ((tk nt) ||| (1 * 2 ^ fg ch)))), (ma 21, aI G 4 gv), (ma 22, aI G 4 pr), (ma 23, aI G 4 py)]) (by rw [← hfn, up_id]) ?_
          exact rt dX10_nextState_71 (nt, 1, va_up tk nt ((tk nt) ||| (1 * 2 ^ fg ch)), gv, pr, py) (have hq := rdS_a (nt := nt) (st := st) (tk := tk) (gv := gv) (pr := pr) (py := py) (c := ch) (by omega) (by omega) (by omega) (by assumption); ⟨(rdI_s hq).symm, fun s hs => Option.some.inj (hq.symm.trans hs)⟩) rfl
  refine v_iload_n (pc' := 6) F dX10_nextState_5 rfl 0 rfl rfl ?_
  refine v_iconst (pc' := 7) (v := nI 0) F dX10_nextState_6 (by decide) rfl ?_
  refine v_iconst (pc' := 8) (v := nI 3) F dX10_nextState_7 (by decide) rfl ?_
  refine cSI0 (pc' := 11) (As := [.int (nI (fg ch)), .int (nI 0), .int (nI 3)]) (rest := []) F (c_X10_within (nI (fg ch)) (nI 0) (nI 3)) (va_cwS 3 F.2.2.2.2.1 gX10_nextState_X10_within rfl rfl rfl (by decide +kernel) ⟨Nat.le_of_ble_eq_true rfl, Nat.le_of_ble_eq_true rfl⟩) rfl rfl (Nat.le_of_ble_eq_true rfl) dX10_nextState_8 ⟨Nat.zero_le _, Nat.zero_le _⟩ rfl (fun r u q20 => ?_)
  obtain rfl := q20
  refine v_bif_eq (tgt := 26) (pc' := 14) F dX10_nextState_11 (by decide) rfl (fun c21 => ?_) (fun c21 => ?_)
  · have hf : ¬ fg ch < 4 := fun q => c21 (hf4.mpr q)
    refine v_iconst (pc' := 27) (v := nI 0) F dX10_nextState_26 (by decide) rfl ?_
    exact v_top (nI0_b (by first | assumption | omega)) J27_1
  · have hf := hf4.mp c21
    refine v_iload_n (pc' := 15) F dX10_nextState_14 rfl 0 rfl rfl ?_
    refine v_aload_n (pc' := 16) F dX10_nextState_15 rfl 1 rfl rfl ?_
    refine v_get (pc' := 19) (v := .int (nI nt)) (C := RX10) (T := TX10) (N := 38) F dX10_nextState_16 in_X10_nextState_X10 0 rfl rfl 19 (by decide) (List.mem_of_getElem? (i := 1) rfl) (congrArg (fun z => some (Value.int z)) hfn) rfl ?_
    refine v_ncmp_eq (tgt := 26) (pc' := 22) F dX10_nextState_19 (by omega) (by omega) (by decide) rfl (fun c22 => ?_) (fun c22 => ?_)
    · refine v_iconst (pc' := 27) (v := nI 0) F dX10_nextState_26 (by decide) rfl ?_
      exact v_top (nI0_b (by first | assumption | omega)) J27_1
    · refine v_iconst (pc' := 23) (v := nI 1) F dX10_nextState_22 (by decide) rfl ?_
      refine v_goto (tgt := 27) F dX10_nextState_23 (by decide) ?_
      exact v_top (nI1_b (by first | assumption | omega)) J27_1
def rm_X10_readLaw : Room := { frames := 2, cells := 0, slots := 0, locals := 46 }
theorem in_X10_readLaw_X10 : ∀ w ∈ u_ws RX10 TX10 38, w ∈ wsX10_readLaw := fun w h => List.mem_cons_of_mem _ (List.mem_append_right _ (h))
set_option maxHeartbeats 4000000 in
set_option maxRecDepth 100000 in
theorem c_X10_readLaw {l : Launch} {D : va_G} {G : gT} (o : Nat) (ma : Nat → Nat) (fi : Nat → Int32) (fl : Nat → Int64) (tk gv pr py : Nat → Nat) (pg : Nat → Nat) (pl : Nat) (hpl : fi 15 = nI pl) (h32 : pl ≤ 32) (hpg : ∀ j, j < 32 → pg j < 127) : CtV (σ := rS × Nat) l yX10_readLaw wsX10_readLaw rm_X10_readLaw D G [.ref o] [(o, mO ma fi fl), (ma 20, aI G 4 tk), (ma 21, aI G 4 gv), (ma 22, aI G 4 pr), (ma 23, aI G 4 py), (ma 16, aB G 32 pg)] (fun u => isWh pg pl → rRel (u.1) (rdR pg pl)) (fun u => [(o, mO ma (va_up (va_up (va_up fi 19 (nI (u.2))) 17 (nI (rdF r0 pg pl).1)) 18 (bI (isWh pg pl))) fl), (ma 20, aI G 4 ((u.1).2.2.1)), (ma 21, aI G 4 ((u.1).2.2.2.1)), (ma 22, aI G 4 ((u.1).2.2.2.2.1)), (ma 23, aI G 4 ((u.1).2.2.2.2.2)), (ma 16, aB G 32 pg)]) := by
  have hr0 : rRel (0, 0, cpy (fun _ => 0) tk 4, gv, pr, py) r0 := rRel_0 cpy_c
  refine openV (maxL := 5) (by decide) rfl (Nat.le_of_ble_eq_true rfl) ?_
  intro pgZ evZ sgZ mmZ agsZ blZ meZ cdZ AZ QZ F hmn rt
  refine v_lv (lz := [(0, .ref o)]) rfl ?_
  refine v_aload_n (pc' := 1) F dX10_readLaw_0 rfl 0 rfl rfl ?_
  refine v_iconst (pc' := 2) (v := nI 0) F dX10_readLaw_1 (by decide) rfl ?_
  refine v_put (pc' := 5) (ws' := [(o, mO ma (va_up fi 19 (nI 0)) fl), (ma 20, aI G 4 tk), (ma 21, aI G 4 gv), (ma 22, aI G 4 pr), (ma 23, aI G 4 py), (ma 16, aB G 32 pg)]) (C := RX10) (T := TX10) (N := 38) F dX10_readLaw_2 in_X10_readLaw_X10 tyX10_ok nmX10 0 rfl rfl 19 (by decide) (List.mem_of_getElem? (i := 1) rfl) rfl rfl rfl (Nat.le_of_ble_eq_true rfl) rfl rfl ?_
  refine v_iconst (pc' := 6) (v := nI 0) F dX10_readLaw_5 (by decide) rfl ?_
  refine v_istore_n (pc' := 7) (lv' := [(1, .int (nI 0)), (0, .ref o)]) F dX10_readLaw_6 rfl (by decide) rfl rfl ?_
  have L7 : ∀ (fu : Nat) (j : Nat) (f : Nat → Nat), (j ≤ 4) → (f = cpy (fun _ => 0) tk j) → 4 < j + fu → V pgZ l evZ rm_X10_readLaw sgZ mmZ agsZ blZ meZ cdZ 0 0 QZ D AZ 5 7 [(1, .int (nI j)), (0, .ref o)] [] [(o, mO ma (va_up fi 19 (nI 0)) fl), (ma 20, aI G 4 f), (ma 21, aI G 4 gv), (ma 22, aI G 4 pr), (ma 23, aI G 4 py), (ma 16, aB G 32 pg)] := by
    intro fu
    induction fu with
    | zero => intro j f hj hf hfu; exact absurd hfu (by omega)
    | succ fu ih7 =>
      intro j f hj hf hfu
      subst hf
      refine v_iload_n (pc' := 8) F dX10_readLaw_7 rfl 0 rfl rfl ?_
      refine v_iconst (pc' := 9) (v := nI 4) F dX10_readLaw_8 (by decide) rfl ?_
      refine v_ncmp_ge (tgt := 25) (pc' := 12) F dX10_readLaw_9 (by omega) (by omega) (by decide) rfl (fun c2 => ?_) (fun c2 => ?_)
      · refine v_iconst (pc' := 26) (v := nI 0) F dX10_readLaw_25 (by decide) rfl ?_
        refine v_istore_n (pc' := 27) (lv' := [(1, .int (nI 0)), (0, .ref o)]) F dX10_readLaw_26 rfl (by decide) rfl rfl ?_
        refine v_iconst (pc' := 28) (v := nI 0) F dX10_readLaw_27 (by decide) rfl ?_
        refine v_istore_n (pc' := 29) (lv' := [(2, .int (nI 0)), (1, .int (nI 0)), (0, .ref o)]) F dX10_readLaw_28 rfl (by decide) rfl rfl ?_
        refine v_iconst (pc' := 30) (v := nI 1) F dX10_readLaw_29 (by decide) rfl ?_
        refine v_istore_n (pc' := 31) (lv' := [(3, .int (nI 1)), (2, .int (nI 0)), (1, .int (nI 0)), (0, .ref o)]) F dX10_readLaw_30 rfl (by decide) rfl rfl ?_
        have L31 : ∀ (fu : Nat) (nt9 : Nat) (st9 : Nat) (kk : Nat) (g9 : Nat) (f1 : Nat → Nat) (f2 : Nat → Nat) (f3 : Nat → Nat) (f4 : Nat → Nat), (kk ≤ pl) → (g9 ≤ 1) → ((g9 = 1 ∧ rdF (0, 0, cpy (fun _ => 0) tk 4, gv, pr, py) pg kk = (kk, (nt9, st9, f1, f2, f3, f4))) ∨ (g9 = 0 ∧ kk < pl ∧ ∃ s, rdF (0, 0, cpy (fun _ => 0) tk 4, gv, pr, py) pg pl = (kk, s))) → pl + 1 < kk + 1 - g9 + fu → V pgZ l evZ rm_X10_readLaw sgZ mmZ agsZ blZ meZ cdZ 0 0 QZ D AZ 5 31 [(3, .int (nI g9)), (2, .int (nI kk)), (1, .int (nI st9)), (0, .ref o)] [] [(o, mO ma (va_up fi 19 (nI nt9)) fl), (ma 20, aI G 4 f1), (ma 21, aI G 4 f2), (ma 22, aI G 4 f3), (ma 23, aI G 4 f4), (ma 16, aB G 32 pg)] := by
          intro fu
          induction fu with
          | zero => intro nt9 st9 kk g9 f1 f2 f3 f4 hkk hg9 hinv hfu; exact absurd hfu (by omega)
          | succ fu ih31 =>
            intro nt9 st9 kk g9 f1 f2 f3 f4 hkk hg9 hinv hfu
            refine v_iload_n (pc' := 32) F dX10_readLaw_31 rfl 1 rfl rfl ?_
            refine v_aload_n (pc' := 33) F dX10_readLaw_32 rfl 3 rfl rfl ?_
            refine v_get (pc' := 36) (v := .int (nI pl)) (C := RX10) (T := TX10) (N := 38) F dX10_readLaw_33 in_X10_readLaw_X10 0 rfl rfl 15 (by decide) (List.mem_of_getElem? (i := 3) rfl) (congrArg (fun z => some (Value.int z)) hpl) rfl ?_
            refine v_ncmp_ge (tgt := 94) (pc' := 39) F dX10_readLaw_36 (by omega) (by omega) (by decide) rfl (fun c4 => ?_) (fun c4 => ?_)
            · have hfin := rl_end hr0 hkk hinv (by omega)
              have hwq := rl_wh hfin
              have hwh := hwq.1
              have hwb := hwq.2
              refine v_aload_n (pc' := 95) F dX10_readLaw_94 rfl 3 rfl rfl ?_
              refine v_iload_n (pc' := 96) F dX10_readLaw_95 rfl 1 rfl rfl ?_
              refine v_put (pc' := 99) (ws' := [(o, mO ma (va_up (va_up fi 19 (nI nt9)) 17 (nI kk)) fl), (ma 20, aI G 4 f1), (ma 21, aI G 4 f2), (ma 22, aI G 4 f3), (ma 23, aI G 4 f4), (ma 16, aB G 32 pg)]) (C := RX10) (T := TX10) (N := 38) F dX10_readLaw_96 in_X10_readLaw_X10 tyX10_ok nmX10 0 rfl rfl 17 (by decide) (List.mem_of_getElem? (i := 5) rfl) rfl rfl rfl (Nat.le_of_ble_eq_true rfl) rfl rfl ?_
              refine v_ws (wz := [(o, mO ma (va_up (va_up fi 19 (nI nt9)) 17 (nI ((rdF r0 pg pl).1))) fl), (ma 20, aI G 4 f1), (ma 21, aI G 4 f2), (ma 22, aI G 4 f3), (ma 23, aI G 4 f4), (ma 16, aB G 32 pg)]) (by rw [← hfin.1]) ?_
              refine v_aload_n (pc' := 100) F dX10_readLaw_99 rfl 3 rfl rfl ?_
              have J126_5 : V pgZ l evZ rm_X10_readLaw sgZ mmZ agsZ blZ meZ cdZ 0 0 QZ D AZ 5 126 [(3, .int (nI g9)), (2, .int (nI kk)), (1, .int (nI st9)), (0, .ref o)] [.int (bI (isWh pg pl)), .ref o] [(o, mO ma (va_up (va_up fi 19 (nI nt9)) 17 (nI ((rdF r0 pg pl).1))) fl), (ma 20, aI G 4 f1), (ma 21, aI G 4 f2), (ma 22, aI G 4 f3), (ma 23, aI G 4 f4), (ma 16, aB G 32 pg)] := by
                refine v_put (pc' := 129) (ws' := [(o, mO ma (va_up (va_up (va_up fi 19 (nI nt9)) 17 (nI ((rdF r0 pg pl).1))) 18 (bI (isWh pg pl))) fl), (ma 20, aI G 4 f1), (ma 21, aI G 4 f2), (ma 22, aI G 4 f3), (ma 23, aI G 4 f4), (ma 16, aB G 32 pg)]) (C := RX10) (T := TX10) (N := 38) F dX10_readLaw_126 in_X10_readLaw_X10 tyX10_ok nmX10 0 rfl rfl 18 (by decide) (List.mem_of_getElem? (i := 6) rfl) rfl (nar_bI _) (fits_bI _) (Nat.le_of_ble_eq_true rfl) rfl rfl ?_
                exact rt dX10_readLaw_129 ((nt9, st9, f1, f2, f3, f4), nt9) (fun q => hfin.2 (hwh.mp q).1) rfl
              refine v_iload_n (pc' := 101) F dX10_readLaw_100 rfl 1 rfl rfl ?_
              refine v_aload_n (pc' := 102) F dX10_readLaw_101 rfl 3 rfl rfl ?_
              refine v_get (pc' := 105) (v := .int (nI pl)) (C := RX10) (T := TX10) (N := 38) F dX10_readLaw_102 in_X10_readLaw_X10 0 rfl rfl 15 (by decide) (List.mem_of_getElem? (i := 3) rfl) (congrArg (fun z => some (Value.int z)) hpl) rfl ?_
              refine v_ncmp_ne (tgt := 125) (pc' := 108) F dX10_readLaw_105 (by omega) (by omega) (by decide) rfl (fun c6 => ?_) (fun c6 => ?_)
              · refine v_iconst (pc' := 126) (v := nI 0) F dX10_readLaw_125 (by decide) rfl ?_
                exact v_top (nI0_b (fun q => by have := hwh.mp q; omega)) J126_5
              · refine v_iload_n (pc' := 109) F dX10_readLaw_108 rfl 2 rfl rfl ?_
                refine v_iconst (pc' := 110) (v := nI 5) F dX10_readLaw_109 (by decide) rfl ?_
                refine v_ncmp_ne (tgt := 125) (pc' := 113) F dX10_readLaw_110 (by omega) (by omega) (by decide) rfl (fun c7 => ?_) (fun c7 => ?_)
                · refine v_iconst (pc' := 126) (v := nI 0) F dX10_readLaw_125 (by decide) rfl ?_
                  exact v_top (nI0_b (fun q => by have := hwh.mp q; omega)) J126_5
                · refine v_aload_n (pc' := 114) F dX10_readLaw_113 rfl 3 rfl rfl ?_
                  refine v_get (pc' := 117) (v := .int (nI nt9)) (C := RX10) (T := TX10) (N := 38) F dX10_readLaw_114 in_X10_readLaw_X10 0 rfl rfl 19 (by decide) (List.mem_of_getElem? (i := 1) rfl) rfl rfl ?_
                  refine v_iconst (pc' := 118) (v := nI 3) F dX10_readLaw_117 (by decide) rfl ?_
                  refine v_ncmp_ne (tgt := 125) (pc' := 121) F dX10_readLaw_118 (by omega) (by omega) (by decide) rfl (fun c8 => ?_) (fun c8 => ?_)
                  · refine v_iconst (pc' := 126) (v := nI 0) F dX10_readLaw_125 (by decide) rfl ?_
                    exact v_top (nI0_b (fun q => by have := hwh.mp q; omega)) J126_5
                  · refine v_iconst (pc' := 122) (v := nI 1) F dX10_readLaw_121 (by decide) rfl ?_
                    refine v_goto (tgt := 126) F dX10_readLaw_122 (by decide) ?_
                    exact v_top (nI1_b (hwh.mpr (by omega))) J126_5
            · refine v_iload_n (pc' := 40) F dX10_readLaw_39 rfl 0 rfl rfl ?_
              refine v_nif_eq (tgt := 94) (pc' := 43) F dX10_readLaw_40 (by omega) (by decide) rfl (fun c9 => ?_) (fun c9 => ?_)
              · have hfin := rl_end hr0 hkk hinv (by omega)
                have hwq := rl_wh hfin
                have hwh := hwq.1
                have hwb := hwq.2
                refine v_aload_n (pc' := 95) F dX10_readLaw_94 rfl 3 rfl rfl ?_
                refine v_iload_n (pc' := 96) F dX10_readLaw_95 rfl 1 rfl rfl ?_
                refine v_put (pc' := 99) (ws' := [(o, mO ma (va_up (va_up fi 19 (nI nt9)) 17 (nI kk)) fl), (ma 20, aI G 4 f1), (ma 21, aI G 4 f2), (ma 22, aI G 4 f3), (ma 23, aI G 4 f4), (ma 16, aB G 32 pg)]) (C := RX10) (T := TX10) (N := 38) F dX10_readLaw_96 in_X10_readLaw_X10 tyX10_ok nmX10 0 rfl rfl 17 (by decide) (List.mem_of_getElem? (i := 5) rfl) rfl rfl rfl (Nat.le_of_ble_eq_true rfl) rfl rfl ?_
                refine v_ws (wz := [(o, mO ma (va_up (va_up fi 19 (nI nt9)) 17 (nI ((rdF r0 pg pl).1))) fl), (ma 20, aI G 4 f1), (ma 21, aI G 4 f2), (ma 22, aI G 4 f3), (ma 23, aI G 4 f4), (ma 16, aB G 32 pg)]) (by rw [← hfin.1]) ?_
                refine v_aload_n (pc' := 100) F dX10_readLaw_99 rfl 3 rfl rfl ?_
                have J126_10 : V pgZ l evZ rm_X10_readLaw sgZ mmZ agsZ blZ meZ cdZ 0 0 QZ D AZ 5 126 [(3, .int (nI g9)), (2, .int (nI kk)), (1, .int (nI st9)), (0, .ref o)] [.int (bI (isWh pg pl)), .ref o] [(o, mO ma (va_up (va_up fi 19 (nI nt9)) 17 (nI ((rdF r0 pg pl).1))) fl), (ma 20, aI G 4 f1), (ma 21, aI G 4 f2), (ma 22, aI G 4 f3), (ma 23, aI G 4 f4), (ma 16, aB G 32 pg)] := by
                  refine v_put (pc' := 129) (ws' := [(o, mO ma (va_up (va_up (va_up fi 19 (nI nt9)) 17 (nI ((rdF r0 pg pl).1))) 18 (bI (isWh pg pl))) fl), (ma 20, aI G 4 f1), (ma 21, aI G 4 f2), (ma 22, aI G 4 f3), (ma 23, aI G 4 f4), (ma 16, aB G 32 pg)]) (C := RX10) (T := TX10) (N := 38) F dX10_readLaw_126 in_X10_readLaw_X10 tyX10_ok nmX10 0 rfl rfl 18 (by decide) (List.mem_of_getElem? (i := 6) rfl) rfl (nar_bI _) (fits_bI _) (Nat.le_of_ble_eq_true rfl) rfl rfl ?_
                  exact rt dX10_readLaw_129 ((nt9, st9, f1, f2, f3, f4), nt9) (fun q => hfin.2 (hwh.mp q).1) rfl
                refine v_iload_n (pc' := 101) F dX10_readLaw_100 rfl 1 rfl rfl ?_
                refine v_aload_n (pc' := 102) F dX10_readLaw_101 rfl 3 rfl rfl ?_
                refine v_get (pc' := 105) (v := .int (nI pl)) (C := RX10) (T := TX10) (N := 38) F dX10_readLaw_102 in_X10_readLaw_X10 0 rfl rfl 15 (by decide) (List.mem_of_getElem? (i := 3) rfl) (congrArg (fun z => some (Value.int z)) hpl) rfl ?_
                refine v_ncmp_ne (tgt := 125) (pc' := 108) F dX10_readLaw_105 (by omega) (by omega) (by decide) rfl (fun c11 => ?_) (fun c11 => ?_)
                · refine v_iconst (pc' := 126) (v := nI 0) F dX10_readLaw_125 (by decide) rfl ?_
                  exact v_top (nI0_b (fun q => by have := hwh.mp q; omega)) J126_10
                · refine v_iload_n (pc' := 109) F dX10_readLaw_108 rfl 2 rfl rfl ?_
                  refine v_iconst (pc' := 110) (v := nI 5) F dX10_readLaw_109 (by decide) rfl ?_
                  refine v_ncmp_ne (tgt := 125) (pc' := 113) F dX10_readLaw_110 (by omega) (by omega) (by decide) rfl (fun c12 => ?_) (fun c12 => ?_)
                  · refine v_iconst (pc' := 126) (v := nI 0) F dX10_readLaw_125 (by decide) rfl ?_
                    exact v_top (nI0_b (fun q => by have := hwh.mp q; omega)) J126_10
                  · refine v_aload_n (pc' := 114) F dX10_readLaw_113 rfl 3 rfl rfl ?_
                    refine v_get (pc' := 117) (v := .int (nI nt9)) (C := RX10) (T := TX10) (N := 38) F dX10_readLaw_114 in_X10_readLaw_X10 0 rfl rfl 19 (by decide) (List.mem_of_getElem? (i := 1) rfl) rfl rfl ?_
                    refine v_iconst (pc' := 118) (v := nI 3) F dX10_readLaw_117 (by decide) rfl ?_
                    refine v_ncmp_ne (tgt := 125) (pc' := 121) F dX10_readLaw_118 (by omega) (by omega) (by decide) rfl (fun c13 => ?_) (fun c13 => ?_)
                    · refine v_iconst (pc' := 126) (v := nI 0) F dX10_readLaw_125 (by decide) rfl ?_
                      exact v_top (nI0_b (fun q => by have := hwh.mp q; omega)) J126_10
                    · refine v_iconst (pc' := 122) (v := nI 1) F dX10_readLaw_121 (by decide) rfl ?_
                      refine v_goto (tgt := 126) F dX10_readLaw_122 (by decide) ?_
                      exact v_top (nI1_b (hwh.mpr (by omega))) J126_10
              · have hrd := (hinv.resolve_right (fun q => by omega)).2
                obtain ⟨q1, q2, q3, q4, q5⟩ := rd_facts hr0 hrd
                have hpi := hpg kk (by omega)
                refine v_aload_n (pc' := 44) F dX10_readLaw_43 rfl 3 rfl rfl ?_
                refine v_iload_n (pc' := 45) F dX10_readLaw_44 rfl 2 rfl rfl ?_
                refine v_aload_n (pc' := 46) F dX10_readLaw_45 rfl 3 rfl rfl ?_
                refine v_get (pc' := 49) (v := .ref (ma 16)) (C := RX10) (T := TX10) (N := 38) F dX10_readLaw_46 in_X10_readLaw_X10 0 rfl rfl 16 (by decide) (List.mem_of_getElem? (i := 4) rfl) rfl rfl ?_
                refine v_iload_n (pc' := 50) F dX10_readLaw_49 rfl 1 rfl rfl ?_
                refine v_bald (pc' := 51) (z := pg kk) F dX10_readLaw_50 5 rfl (by omega) (by first | decide | omega) rfl rfl ?_
                refine cVI (pc' := 54) (As := [.int (nI st9), .int (nI (pg kk))]) (rest := []) (wr := [(ma 16, aB G 32 pg)]) F (c_X10_nextState o ma (va_up fi 19 (nI nt9)) fl nt9 st9 f1 f2 f3 f4 (pg kk) (up_at _ _ _) q1 q2 (by omega) (q3 nt9 q1)) (cwV 2 F.2.2.2.2.1 gX10_readLaw_X10_nextState rfl rfl rfl (by decide +kernel) ⟨Nat.le_of_ble_eq_true rfl, Nat.le_of_ble_eq_true rfl⟩) (v_rcvW F 8 0 rfl rfl) rfl rfl (Nat.le_of_ble_eq_true rfl) dX10_readLaw_51 [0, 1, 2, 3, 4] [5] (by decide) rfl rfl (by decide) (by decide) ⟨Nat.zero_le _, Nat.zero_le _⟩ rfl (fun r u q16 => ?_)
                obtain ⟨nw_14, hu9⟩ : ∃ z, z = u := ⟨_, rfl⟩
                subst hu9
                obtain ⟨rfl, hN_15⟩ := q16
                refine v_ws (wz := [(ma 16, aB G 32 pg), (o, mO ma (va_up (va_up fi 19 (nI nt9)) 19 (nI nw_14.1)) fl), (ma 20, aI G 4 nw_14.2.2.1), (ma 21, aI G 4 nw_14.2.2.2.1), (ma 22, aI G 4 nw_14.2.2.2.2.1), (ma 23, aI G 4 nw_14.2.2.2.2.2)]) rfl ?_
                refine v_ws (wz := [(ma 16, aB G 32 pg), (o, mO ma (va_up fi 19 (nI nw_14.1)) fl), (ma 20, aI G 4 nw_14.2.2.1), (ma 21, aI G 4 nw_14.2.2.2.1), (ma 22, aI G 4 nw_14.2.2.2.2.1), (ma 23, aI G 4 nw_14.2.2.2.2.2)]) (by rw [up_up]) ?_
                cases hb17 : rdS nt9 st9 f1 f2 f3 f4 (pg kk) with
                | none =>
                  refine v_top (rdI_n rfl) ?_
                  have hend := rdF_end hrd hb17 (show kk < pl by assumption)
                  refine v_istore (pc' := 56) (lv' := [(4, .int (-1)), (3, .int (nI g9)), (2, .int (nI kk)), (1, .int (nI st9)), (0, .ref o)]) F dX10_readLaw_54 (by decide) rfl rfl ?_
                  refine v_iload (pc' := 58) F dX10_readLaw_56 0 rfl rfl ?_
                  refine v_iconst (pc' := 59) (v := (-1)) F dX10_readLaw_58 (by decide) rfl ?_
                  refine v_icmp_eq (tgt := 66) (pc' := 62) F dX10_readLaw_59 (by decide) rfl (fun c19 => ?_) (fun c19 => ?_)
                  · refine v_iconst (pc' := 67) (v := nI 0) F dX10_readLaw_66 (by decide) rfl ?_
                    refine v_istore_n (pc' := 68) (lv' := [(3, .int (nI 0)), (4, .int (-1)), (2, .int (nI kk)), (1, .int (nI st9)), (0, .ref o)]) F dX10_readLaw_67 rfl (by decide) rfl rfl ?_
                    refine v_iload_n (pc' := 69) F dX10_readLaw_68 rfl 0 rfl rfl ?_
                    refine v_nif_eq (tgt := 77) (pc' := 72) F dX10_readLaw_69 (by omega) (by decide) rfl (fun c20 => ?_) (fun c20 => ?_)
                    · refine v_iload_n (pc' := 78) F dX10_readLaw_77 rfl 3 rfl rfl ?_
                      refine v_istore_n (pc' := 79) (lv' := [(1, .int (nI st9)), (3, .int (nI 0)), (4, .int (-1)), (2, .int (nI kk)), (0, .ref o)]) F dX10_readLaw_78 rfl (by decide) rfl rfl ?_
                      refine v_iload_n (pc' := 80) F dX10_readLaw_79 rfl 3 rfl rfl ?_
                      refine v_iload_n (pc' := 81) F dX10_readLaw_80 rfl 1 rfl rfl ?_
                      refine v_nif_eq (tgt := 88) (pc' := 84) F dX10_readLaw_81 (by omega) (by decide) rfl (fun c21 => ?_) (fun c21 => ?_)
                      · refine v_iconst (pc' := 89) (v := nI 0) F dX10_readLaw_88 (by decide) rfl ?_
                        refine v_iadd (pc' := 90) (z := nI (kk + 0)) F dX10_readLaw_89 (nI_add _ _) rfl ?_
                        refine v_istore_n (pc' := 91) (lv' := [(2, .int (nI (kk + 0))), (1, .int (nI st9)), (3, .int (nI 0)), (4, .int (-1)), (0, .ref o)]) F dX10_readLaw_90 rfl (by decide) rfl rfl ?_
                        refine v_goto (tgt := 31) F dX10_readLaw_91 (by decide) ?_
                        refine v_perm (wz := [(o, mO ma (va_up fi 19 (nI nw_14.1)) fl), (ma 20, aI G 4 nw_14.2.2.1), (ma 21, aI G 4 nw_14.2.2.2.1), (ma 22, aI G 4 nw_14.2.2.2.2.1), (ma 23, aI G 4 nw_14.2.2.2.2.2), (ma 16, aB G 32 pg)]) [1, 2, 3, 4, 5, 0] (by decide) rfl ?_
                        refine v_lpick (lz := [(3, .int (nI 0)), (2, .int (nI (kk + 0))), (1, .int (nI st9)), (0, .ref o)]) [2, 0, 1, 4] rfl ?_
                        exact ih31 nw_14.1 st9 (kk + 0) 0 nw_14.2.2.1 nw_14.2.2.2.1 nw_14.2.2.2.2.1 nw_14.2.2.2.2.2 (by omega) (by omega) (Or.inr ⟨rfl, by omega, _, hend⟩) (by omega)
                      · exact absurd c21 (by decide)
                    · exact absurd c20 (by decide)
                  · exact absurd rfl c19
                | some s18 =>
                  have he9 : nw_14 = s18 := hN_15 s18 hb17
                  subst he9
                  refine v_top (rdI_s rfl) ?_
                  have hgo := rdF_go hrd hb17
                  obtain ⟨z1, z2, z3, z4, z5⟩ := rd_facts (nt := nw_14.1) (st := nw_14.2.1) (tk := nw_14.2.2.1) (gv := nw_14.2.2.2.1) (pr := nw_14.2.2.2.2.1) (py := nw_14.2.2.2.2.2) hr0 hgo
                  refine v_istore (pc' := 56) (lv' := [(4, .int (nI nw_14.2.1)), (3, .int (nI g9)), (2, .int (nI kk)), (1, .int (nI st9)), (0, .ref o)]) F dX10_readLaw_54 (by decide) rfl rfl ?_
                  refine v_iload (pc' := 58) F dX10_readLaw_56 0 rfl rfl ?_
                  refine v_iconst (pc' := 59) (v := (-1)) F dX10_readLaw_58 (by decide) rfl ?_
                  refine v_icmp_eq (tgt := 66) (pc' := 62) F dX10_readLaw_59 (by decide) rfl (fun c22 => ?_) (fun c22 => ?_)
                  · exact absurd c22 (ni_m1 (by omega))
                  · refine v_iconst (pc' := 63) (v := nI 1) F dX10_readLaw_62 (by decide) rfl ?_
                    refine v_goto (tgt := 67) F dX10_readLaw_63 (by decide) ?_
                    refine v_istore_n (pc' := 68) (lv' := [(3, .int (nI 1)), (4, .int (nI nw_14.2.1)), (2, .int (nI kk)), (1, .int (nI st9)), (0, .ref o)]) F dX10_readLaw_67 rfl (by decide) rfl rfl ?_
                    refine v_iload_n (pc' := 69) F dX10_readLaw_68 rfl 0 rfl rfl ?_
                    refine v_nif_eq (tgt := 77) (pc' := 72) F dX10_readLaw_69 (by omega) (by decide) rfl (fun c23 => ?_) (fun c23 => ?_)
                    · exact absurd c23 (by decide)
                    · refine v_iload (pc' := 74) F dX10_readLaw_72 1 rfl rfl ?_
                      refine v_goto (tgt := 78) F dX10_readLaw_74 (by decide) ?_
                      refine v_istore_n (pc' := 79) (lv' := [(1, .int (nI nw_14.2.1)), (3, .int (nI 1)), (4, .int (nI nw_14.2.1)), (2, .int (nI kk)), (0, .ref o)]) F dX10_readLaw_78 rfl (by decide) rfl rfl ?_
                      refine v_iload_n (pc' := 80) F dX10_readLaw_79 rfl 3 rfl rfl ?_
                      refine v_iload_n (pc' := 81) F dX10_readLaw_80 rfl 1 rfl rfl ?_
                      refine v_nif_eq (tgt := 88) (pc' := 84) F dX10_readLaw_81 (by omega) (by decide) rfl (fun c24 => ?_) (fun c24 => ?_)
                      · exact absurd c24 (by decide)
                      · refine v_iconst (pc' := 85) (v := nI 1) F dX10_readLaw_84 (by decide) rfl ?_
                        refine v_goto (tgt := 89) F dX10_readLaw_85 (by decide) ?_
                        refine v_iadd (pc' := 90) (z := nI (kk + 1)) F dX10_readLaw_89 (nI_add _ _) rfl ?_
                        refine v_istore_n (pc' := 91) (lv' := [(2, .int (nI (kk + 1))), (1, .int (nI nw_14.2.1)), (3, .int (nI 1)), (4, .int (nI nw_14.2.1)), (0, .ref o)]) F dX10_readLaw_90 rfl (by decide) rfl rfl ?_
                        refine v_goto (tgt := 31) F dX10_readLaw_91 (by decide) ?_
                        refine v_perm (wz := [(o, mO ma (va_up fi 19 (nI nw_14.1)) fl), (ma 20, aI G 4 nw_14.2.2.1), (ma 21, aI G 4 nw_14.2.2.2.1), (ma 22, aI G 4 nw_14.2.2.2.2.1), (ma 23, aI G 4 nw_14.2.2.2.2.2), (ma 16, aB G 32 pg)]) [1, 2, 3, 4, 5, 0] (by decide) rfl ?_
                        refine v_lpick (lz := [(3, .int (nI 1)), (2, .int (nI (kk + 1))), (1, .int (nI nw_14.2.1)), (0, .ref o)]) [2, 0, 1, 4] rfl ?_
                        exact ih31 nw_14.1 nw_14.2.1 (kk + 1) 1 nw_14.2.2.1 nw_14.2.2.2.1 nw_14.2.2.2.2.1 nw_14.2.2.2.2.2 (by omega) (by omega) (Or.inl ⟨rfl, hgo⟩) (by omega)
        exact L31 (pl + 1 + 1) 0 0 0 1 (cpy (fun _ => 0) tk j) gv pr py (by omega) (by omega) (Or.inl ⟨rfl, by rw [show j = 4 by omega]; rfl⟩) (by omega)
      · refine v_aload_n (pc' := 13) F dX10_readLaw_12 rfl 1 rfl rfl ?_
        refine v_get (pc' := 16) (v := .ref (ma 20)) (C := RX10) (T := TX10) (N := 38) F dX10_readLaw_13 in_X10_readLaw_X10 0 rfl rfl 20 (by decide) (List.mem_of_getElem? (i := 2) rfl) rfl rfl ?_
        refine v_iload_n (pc' := 17) F dX10_readLaw_16 rfl 0 rfl rfl ?_
        refine v_iconst (pc' := 18) (v := nI 0) F dX10_readLaw_17 (by decide) rfl ?_
        refine v_iast (pc' := 19) (ws' := [(o, mO ma (va_up fi 19 (nI 0)) fl), (ma 20, aI G 4 (va_up (cpy (fun _ => 0) tk j) j 0)), (ma 21, aI G 4 gv), (ma 22, aI G 4 pr), (ma 23, aI G 4 py), (ma 16, aB G 32 pg)]) F dX10_readLaw_18 1 rfl (by omega) (by first | decide | omega) rfl rfl ?_
        refine v_iinc (pc' := 22) (v := nI (j + 1)) (lv' := [(1, .int (nI (j + 1))), (0, .ref o)]) F dX10_readLaw_19 0 rfl (nI_add _ _) (by decide) rfl rfl ?_
        refine v_goto (tgt := 7) F dX10_readLaw_22 (by decide) ?_
        exact ih7 (j + 1) (va_up (cpy (fun _ => 0) tk j) j 0) (by omega) (cpy_s (fun _ => 0) tk j) (by omega)
  exact L7 (4 + 1) 0 tk (by omega) (cpy_0 (fun _ => 0) tk) (by omega)
def rm_X10_fault : Room := { frames := 3, cells := 0, slots := 0, locals := 70 }
theorem in_X10_fault_X10 : ∀ w ∈ u_ws RX10 TX10 38, w ∈ wsX10_fault := fun w h => List.mem_cons_of_mem _ (List.mem_append_right _ (h))
set_option maxHeartbeats 4000000 in
set_option maxRecDepth 100000 in
theorem c_X10_fault {l : Launch} {D : va_G} {G : gT} (o : Nat) (ma : Nat → Nat) (fi : Nat → Int32) (fl : Nat → Int64) (tk gv pr py : Nat → Nat) (pg : Nat → Nat) (pl : Nat) (hpl : fi 15 = nI pl) (h32 : pl ≤ 32) (hpg : ∀ j, j < 32 → pg j < 127) : CtI (σ := rS × Nat) l yX10_fault wsX10_fault rm_X10_fault D G [.ref o] [(o, mO ma fi fl), (ma 20, aI G 4 tk), (ma 21, aI G 4 gv), (ma 22, aI G 4 pr), (ma 23, aI G 4 py), (ma 16, aB G 32 pg)] (fun r u => r = A_fault pg pl) (fun u => [(o, mO ma (va_up (va_up (va_up fi 19 (nI (u.2))) 17 (nI (rdF r0 pg pl).1)) 18 (bI (isWh pg pl))) fl), (ma 20, aI G 4 ((u.1).2.2.1)), (ma 21, aI G 4 ((u.1).2.2.2.1)), (ma 22, aI G 4 ((u.1).2.2.2.2.1)), (ma 23, aI G 4 ((u.1).2.2.2.2.2)), (ma 16, aB G 32 pg)]) := by
  refine openI (maxL := 1) (by decide) rfl (Nat.le_of_ble_eq_true rfl) ?_
  intro pgZ evZ sgZ mmZ agsZ blZ meZ cdZ AZ QZ F hmn rt
  refine v_lv (lz := [(0, .ref o)]) rfl ?_
  refine v_aload_n (pc' := 1) F dX10_fault_0 rfl 0 rfl rfl ?_
  refine cVV (pc' := 4) (As := []) (rest := []) (wr := []) F (c_X10_readLaw o ma fi fl tk gv pr py pg pl hpl h32 hpg) (cwV 0 F.2.2.2.2.1 gX10_fault_X10_readLaw rfl rfl rfl (by decide +kernel) ⟨Nat.le_of_ble_eq_true rfl, Nat.le_of_ble_eq_true rfl⟩) (v_rcvW F 8 0 rfl rfl) rfl rfl (Nat.le_of_ble_eq_true rfl) dX10_fault_1 [0, 1, 2, 3, 4, 5] [] (by decide) rfl rfl (by decide) (by decide) ⟨Nat.zero_le _, Nat.zero_le _⟩ rfl (fun u q4 => ?_)
  obtain ⟨nw_1, x19_2⟩ := u
  have hN_3 := q4
  refine v_ws (wz := [(o, mO ma (va_up (va_up (va_up fi 19 (nI x19_2)) 17 (nI (rdF r0 pg pl).1)) 18 (bI (isWh pg pl))) fl), (ma 20, aI G 4 nw_1.2.2.1), (ma 21, aI G 4 nw_1.2.2.2.1), (ma 22, aI G 4 nw_1.2.2.2.2.1), (ma 23, aI G 4 nw_1.2.2.2.2.2), (ma 16, aB G 32 pg)]) rfl ?_
  have hle := rdF_le r0 pg pl
  refine v_aload_n (pc' := 5) F dX10_fault_4 rfl 0 rfl rfl ?_
  refine v_get (pc' := 8) (v := .int (nI ((rdF r0 pg pl).1))) (C := RX10) (T := TX10) (N := 38) F dX10_fault_5 in_X10_fault_X10 0 rfl rfl 17 (by decide) (List.mem_of_getElem? (i := 1) rfl) (congrArg (fun z => some (Value.int z)) rfl) rfl ?_
  exact rt dX10_fault_8 (nw_1, x19_2) rfl rfl
def rm_X10_law : Room := { frames := 3, cells := 0, slots := 0, locals := 70 }
theorem in_X10_law_X10 : ∀ w ∈ u_ws RX10 TX10 38, w ∈ wsX10_law := fun w h => List.mem_cons_of_mem _ (List.mem_append_right _ (h))
set_option maxHeartbeats 4000000 in
set_option maxRecDepth 100000 in
theorem c_X10_law {l : Launch} {D : va_G} {G : gT} (o : Nat) (ma : Nat → Nat) (fi : Nat → Int32) (fl : Nat → Int64) (tk0 gv0 pr0 py0 tk gv pr py : Nat → Nat) (pg : Nat → Nat) (pl lr : Nat) (hlw : fi 1 = nI lr) (hlr : lr + 1 < 2 ^ 31) (hpl : fi 15 = nI pl) (h32 : pl ≤ 32) (hpg : ∀ j, j < 32 → pg j < 127) : CtI (σ := rS × (Nat → Int32) × ((Nat → Nat) × (Nat → Nat) × (Nat → Nat) × (Nat → Nat))) l yX10_law wsX10_law rm_X10_law D G [.ref o] [(o, mO ma fi fl), (ma 2, aI G 4 tk0), (ma 3, aI G 4 gv0), (ma 4, aI G 4 pr0), (ma 5, aI G 4 py0), (ma 20, aI G 4 tk), (ma 21, aI G 4 gv), (ma 22, aI G 4 pr), (ma 23, aI G 4 py), (ma 16, aB G 32 pg)] (fun r u => r = A_law pg pl ∧ (u.2.2) = (if isWh pg pl then (rdR pg pl).2.2 else (tk0, gv0, pr0, py0)) ∧ ∀ k, ¬ k = 17 → ¬ k = 18 → ¬ k = 19 → (u.2.1) k = (if isWh pg pl then lawFi fi lr k else fi k)) (fun u => [(o, mO ma (u.2.1) fl), (ma 2, aI G 4 ((u.2.2).1)), (ma 3, aI G 4 ((u.2.2).2.1)), (ma 4, aI G 4 ((u.2.2).2.2.1)), (ma 5, aI G 4 ((u.2.2).2.2.2)), (ma 20, aI G 4 ((u.1).2.2.1)), (ma 21, aI G 4 ((u.1).2.2.2.1)), (ma 22, aI G 4 ((u.1).2.2.2.2.1)), (ma 23, aI G 4 ((u.1).2.2.2.2.2)), (ma 16, aB G 32 pg)]) := by
  refine openI (maxL := 3) (by decide) rfl (Nat.le_of_ble_eq_true rfl) ?_
  intro pgZ evZ sgZ mmZ agsZ blZ meZ cdZ AZ QZ F hmn rt
  refine v_lv (lz := [(0, .ref o)]) rfl ?_
  refine v_aload_n (pc' := 1) F dX10_law_0 rfl 0 rfl rfl ?_
  refine cVV (pc' := 4) (As := []) (rest := []) (wr := [(ma 2, aI G 4 tk0), (ma 3, aI G 4 gv0), (ma 4, aI G 4 pr0), (ma 5, aI G 4 py0)]) F (c_X10_readLaw o ma fi fl tk gv pr py pg pl hpl h32 hpg) (cwV 0 F.2.2.2.2.1 gX10_law_X10_readLaw rfl rfl rfl (by decide +kernel) ⟨Nat.le_of_ble_eq_true rfl, Nat.le_of_ble_eq_true rfl⟩) (v_rcvW F 8 0 rfl rfl) rfl rfl (Nat.le_of_ble_eq_true rfl) dX10_law_1 [0, 5, 6, 7, 8, 9] [1, 2, 3, 4] (by decide) rfl rfl (by decide) (by decide) ⟨Nat.zero_le _, Nat.zero_le _⟩ rfl (fun u q4 => ?_)
  obtain ⟨nw_1, x19_2⟩ := u
  have hN_3 := q4
  refine v_ws (wz := [(ma 2, aI G 4 tk0), (ma 3, aI G 4 gv0), (ma 4, aI G 4 pr0), (ma 5, aI G 4 py0), (o, mO ma (va_up (va_up (va_up fi 19 (nI x19_2)) 17 (nI (rdF r0 pg pl).1)) 18 (bI (isWh pg pl))) fl), (ma 20, aI G 4 nw_1.2.2.1), (ma 21, aI G 4 nw_1.2.2.2.1), (ma 22, aI G 4 nw_1.2.2.2.2.1), (ma 23, aI G 4 nw_1.2.2.2.2.2), (ma 16, aB G 32 pg)]) rfl ?_
  refine v_aload_n (pc' := 5) F dX10_law_4 rfl 0 rfl rfl ?_
  refine v_get (pc' := 8) (v := .int (bI (isWh pg pl))) (C := RX10) (T := TX10) (N := 38) F dX10_law_5 in_X10_law_X10 4 rfl rfl 18 (by decide) (List.mem_of_getElem? (i := 1) rfl) (congrArg (fun z => some (Value.int z)) rfl) rfl ?_
  refine v_bif_ne (tgt := 14) (pc' := 11) F dX10_law_8 (by decide) rfl (fun c5 => ?_) (fun c5 => ?_)
  · have hwh : isWh pg pl := by assumption
    obtain ⟨he1, he2, he3, he4⟩ := wh_eq (hN_3 hwh) hwh.2.1 hwh.2.2
    have hwl := wh_WL hwh
    refine v_aI (ws' := [(ma 2, aI G 4 tk0), (ma 3, aI G 4 gv0), (ma 4, aI G 4 pr0), (ma 5, aI G 4 py0), (o, mO ma (va_up (va_up (va_up fi 19 (nI x19_2)) 17 (nI (rdF r0 pg pl).1)) 18 (bI (isWh pg pl))) fl), (ma 20, aI G 4 ((rdR pg pl).2.2.1)), (ma 21, aI G 4 nw_1.2.2.2.1), (ma 22, aI G 4 nw_1.2.2.2.2.1), (ma 23, aI G 4 nw_1.2.2.2.2.2), (ma 16, aB G 32 pg)]) 5 rfl he1 rfl ?_
    refine v_aI (ws' := [(ma 2, aI G 4 tk0), (ma 3, aI G 4 gv0), (ma 4, aI G 4 pr0), (ma 5, aI G 4 py0), (o, mO ma (va_up (va_up (va_up fi 19 (nI x19_2)) 17 (nI (rdF r0 pg pl).1)) 18 (bI (isWh pg pl))) fl), (ma 20, aI G 4 ((rdR pg pl).2.2.1)), (ma 21, aI G 4 ((rdR pg pl).2.2.2.1)), (ma 22, aI G 4 nw_1.2.2.2.2.1), (ma 23, aI G 4 nw_1.2.2.2.2.2), (ma 16, aB G 32 pg)]) 6 rfl he2 rfl ?_
    refine v_aI (ws' := [(ma 2, aI G 4 tk0), (ma 3, aI G 4 gv0), (ma 4, aI G 4 pr0), (ma 5, aI G 4 py0), (o, mO ma (va_up (va_up (va_up fi 19 (nI x19_2)) 17 (nI (rdF r0 pg pl).1)) 18 (bI (isWh pg pl))) fl), (ma 20, aI G 4 ((rdR pg pl).2.2.1)), (ma 21, aI G 4 ((rdR pg pl).2.2.2.1)), (ma 22, aI G 4 ((rdR pg pl).2.2.2.2.1)), (ma 23, aI G 4 nw_1.2.2.2.2.2), (ma 16, aB G 32 pg)]) 7 rfl he3 rfl ?_
    refine v_aI (ws' := [(ma 2, aI G 4 tk0), (ma 3, aI G 4 gv0), (ma 4, aI G 4 pr0), (ma 5, aI G 4 py0), (o, mO ma (va_up (va_up (va_up fi 19 (nI x19_2)) 17 (nI (rdF r0 pg pl).1)) 18 (bI (isWh pg pl))) fl), (ma 20, aI G 4 ((rdR pg pl).2.2.1)), (ma 21, aI G 4 ((rdR pg pl).2.2.2.1)), (ma 22, aI G 4 ((rdR pg pl).2.2.2.2.1)), (ma 23, aI G 4 ((rdR pg pl).2.2.2.2.2)), (ma 16, aB G 32 pg)]) 8 rfl he4 rfl ?_
    refine v_iconst (pc' := 15) (v := nI 0) F dX10_law_14 (by decide) rfl ?_
    refine v_istore_n (pc' := 16) (lv' := [(1, .int (nI 0)), (0, .ref o)]) F dX10_law_15 rfl (by decide) rfl rfl ?_
    refine v_iconst (pc' := 17) (v := nI 0) F dX10_law_16 (by decide) rfl ?_
    refine v_istore_n (pc' := 18) (lv' := [(2, .int (nI 0)), (1, .int (nI 0)), (0, .ref o)]) F dX10_law_17 rfl (by decide) rfl rfl ?_
    have L18 : ∀ (fu : Nat) (i : Nat) (ct : Nat) (f1 : Nat → Nat) (f2 : Nat → Nat) (f3 : Nat → Nat) (f4 : Nat → Nat), (i ≤ 4) → (ct = sumT ((rdR pg pl).2.2.1) i) → (f1 = cpy ((rdR pg pl).2.2.1) tk0 i) → (f2 = cpy ((rdR pg pl).2.2.2.1) gv0 i) → (f3 = cpy ((rdR pg pl).2.2.2.2.1) pr0 i) → (f4 = cpy ((rdR pg pl).2.2.2.2.2) py0 i) → 4 < i + fu → V pgZ l evZ rm_X10_law sgZ mmZ agsZ blZ meZ cdZ 0 0 QZ D AZ 3 18 [(2, .int (nI i)), (1, .int (nI ct)), (0, .ref o)] [] [(ma 2, aI G 4 f1), (ma 3, aI G 4 f2), (ma 4, aI G 4 f3), (ma 5, aI G 4 f4), (o, mO ma (va_up (va_up (va_up fi 19 (nI x19_2)) 17 (nI (rdF r0 pg pl).1)) 18 (bI (isWh pg pl))) fl), (ma 20, aI G 4 ((rdR pg pl).2.2.1)), (ma 21, aI G 4 ((rdR pg pl).2.2.2.1)), (ma 22, aI G 4 ((rdR pg pl).2.2.2.2.1)), (ma 23, aI G 4 ((rdR pg pl).2.2.2.2.2)), (ma 16, aB G 32 pg)] := by
      intro fu
      induction fu with
      | zero => intro i ct f1 f2 f3 f4 hi hct hf1 hf2 hf3 hf4 hfu; exact absurd hfu (by omega)
      | succ fu ih18 =>
        intro i ct f1 f2 f3 f4 hi hct hf1 hf2 hf3 hf4 hfu
        subst hf1
        subst hf2
        subst hf3
        subst hf4
        have h8 := sumT_le ((rdR pg pl).2.2.1) i
        refine v_iload_n (pc' := 19) F dX10_law_18 rfl 0 rfl rfl ?_
        refine v_iconst (pc' := 20) (v := nI 4) F dX10_law_19 (by decide) rfl ?_
        refine v_ncmp_ge (tgt := 89) (pc' := 23) F dX10_law_20 (by omega) (by omega) (by decide) rfl (fun c7 => ?_) (fun c7 => ?_)
        · have hi4 : i = 4 := by omega
          refine v_aI (ws' := [(ma 2, aI G 4 ((rdR pg pl).2.2.1)), (ma 3, aI G 4 (cpy ((rdR pg pl).2.2.2.1) gv0 i)), (ma 4, aI G 4 (cpy ((rdR pg pl).2.2.2.2.1) pr0 i)), (ma 5, aI G 4 (cpy ((rdR pg pl).2.2.2.2.2) py0 i)), (o, mO ma (va_up (va_up (va_up fi 19 (nI x19_2)) 17 (nI (rdF r0 pg pl).1)) 18 (bI (isWh pg pl))) fl), (ma 20, aI G 4 ((rdR pg pl).2.2.1)), (ma 21, aI G 4 ((rdR pg pl).2.2.2.1)), (ma 22, aI G 4 ((rdR pg pl).2.2.2.2.1)), (ma 23, aI G 4 ((rdR pg pl).2.2.2.2.2)), (ma 16, aB G 32 pg)]) 0 rfl (fun j hj => cpy_eq (f := (rdR pg pl).2.2.1) (fun _ _ => rfl) j (by omega)) rfl ?_
          refine v_aI (ws' := [(ma 2, aI G 4 ((rdR pg pl).2.2.1)), (ma 3, aI G 4 ((rdR pg pl).2.2.2.1)), (ma 4, aI G 4 (cpy ((rdR pg pl).2.2.2.2.1) pr0 i)), (ma 5, aI G 4 (cpy ((rdR pg pl).2.2.2.2.2) py0 i)), (o, mO ma (va_up (va_up (va_up fi 19 (nI x19_2)) 17 (nI (rdF r0 pg pl).1)) 18 (bI (isWh pg pl))) fl), (ma 20, aI G 4 ((rdR pg pl).2.2.1)), (ma 21, aI G 4 ((rdR pg pl).2.2.2.1)), (ma 22, aI G 4 ((rdR pg pl).2.2.2.2.1)), (ma 23, aI G 4 ((rdR pg pl).2.2.2.2.2)), (ma 16, aB G 32 pg)]) 1 rfl (fun j hj => cpy_eq (f := (rdR pg pl).2.2.2.1) (fun _ _ => rfl) j (by omega)) rfl ?_
          refine v_aI (ws' := [(ma 2, aI G 4 ((rdR pg pl).2.2.1)), (ma 3, aI G 4 ((rdR pg pl).2.2.2.1)), (ma 4, aI G 4 ((rdR pg pl).2.2.2.2.1)), (ma 5, aI G 4 (cpy ((rdR pg pl).2.2.2.2.2) py0 i)), (o, mO ma (va_up (va_up (va_up fi 19 (nI x19_2)) 17 (nI (rdF r0 pg pl).1)) 18 (bI (isWh pg pl))) fl), (ma 20, aI G 4 ((rdR pg pl).2.2.1)), (ma 21, aI G 4 ((rdR pg pl).2.2.2.1)), (ma 22, aI G 4 ((rdR pg pl).2.2.2.2.1)), (ma 23, aI G 4 ((rdR pg pl).2.2.2.2.2)), (ma 16, aB G 32 pg)]) 2 rfl (fun j hj => cpy_eq (f := (rdR pg pl).2.2.2.2.1) (fun _ _ => rfl) j (by omega)) rfl ?_
          refine v_aI (ws' := [(ma 2, aI G 4 ((rdR pg pl).2.2.1)), (ma 3, aI G 4 ((rdR pg pl).2.2.2.1)), (ma 4, aI G 4 ((rdR pg pl).2.2.2.2.1)), (ma 5, aI G 4 ((rdR pg pl).2.2.2.2.2)), (o, mO ma (va_up (va_up (va_up fi 19 (nI x19_2)) 17 (nI (rdF r0 pg pl).1)) 18 (bI (isWh pg pl))) fl), (ma 20, aI G 4 ((rdR pg pl).2.2.1)), (ma 21, aI G 4 ((rdR pg pl).2.2.2.1)), (ma 22, aI G 4 ((rdR pg pl).2.2.2.2.1)), (ma 23, aI G 4 ((rdR pg pl).2.2.2.2.2)), (ma 16, aB G 32 pg)]) 3 rfl (fun j hj => cpy_eq (f := (rdR pg pl).2.2.2.2.2) (fun _ _ => rfl) j (by omega)) rfl ?_
          refine v_aload_n (pc' := 90) F dX10_law_89 rfl 2 rfl rfl ?_
          refine v_iconst (pc' := 91) (v := nI 1) F dX10_law_90 (by decide) rfl ?_
          refine v_put (pc' := 94) (ws' := [(ma 2, aI G 4 ((rdR pg pl).2.2.1)), (ma 3, aI G 4 ((rdR pg pl).2.2.2.1)), (ma 4, aI G 4 ((rdR pg pl).2.2.2.2.1)), (ma 5, aI G 4 ((rdR pg pl).2.2.2.2.2)), (o, mO ma (va_up (va_up (va_up (va_up fi 19 (nI x19_2)) 17 (nI (rdF r0 pg pl).1)) 18 (bI (isWh pg pl))) 0 (nI 1)) fl), (ma 20, aI G 4 ((rdR pg pl).2.2.1)), (ma 21, aI G 4 ((rdR pg pl).2.2.2.1)), (ma 22, aI G 4 ((rdR pg pl).2.2.2.2.1)), (ma 23, aI G 4 ((rdR pg pl).2.2.2.2.2)), (ma 16, aB G 32 pg)]) (C := RX10) (T := TX10) (N := 38) F dX10_law_91 in_X10_law_X10 tyX10_ok nmX10 4 rfl rfl 0 (by decide) (List.mem_of_getElem? (i := 10) rfl) rfl (by first | rfl | decide) rfl (Nat.le_of_ble_eq_true rfl) rfl rfl ?_
          refine v_aload_n (pc' := 95) F dX10_law_94 rfl 2 rfl rfl ?_
          refine v_dup (pc' := 96) F dX10_law_95 rfl rfl ?_
          refine v_get (pc' := 99) (v := .int (nI lr)) (C := RX10) (T := TX10) (N := 38) F dX10_law_96 in_X10_law_X10 4 rfl rfl 1 (by decide) (List.mem_of_getElem? (i := 11) rfl) (congrArg (fun z => some (Value.int z)) hlw) rfl ?_
          refine v_iconst (pc' := 100) (v := nI 1) F dX10_law_99 (by decide) rfl ?_
          refine v_iadd (pc' := 101) (z := nI (lr + 1)) F dX10_law_100 (nI_add _ _) rfl ?_
          refine v_put (pc' := 104) (ws' := [(ma 2, aI G 4 ((rdR pg pl).2.2.1)), (ma 3, aI G 4 ((rdR pg pl).2.2.2.1)), (ma 4, aI G 4 ((rdR pg pl).2.2.2.2.1)), (ma 5, aI G 4 ((rdR pg pl).2.2.2.2.2)), (o, mO ma (va_up (va_up (va_up (va_up (va_up fi 19 (nI x19_2)) 17 (nI (rdF r0 pg pl).1)) 18 (bI (isWh pg pl))) 0 (nI 1)) 1 (nI (lr + 1))) fl), (ma 20, aI G 4 ((rdR pg pl).2.2.1)), (ma 21, aI G 4 ((rdR pg pl).2.2.2.1)), (ma 22, aI G 4 ((rdR pg pl).2.2.2.2.1)), (ma 23, aI G 4 ((rdR pg pl).2.2.2.2.2)), (ma 16, aB G 32 pg)]) (C := RX10) (T := TX10) (N := 38) F dX10_law_101 in_X10_law_X10 tyX10_ok nmX10 4 rfl rfl 1 (by decide) (List.mem_of_getElem? (i := 11) rfl) rfl rfl rfl (Nat.le_of_ble_eq_true rfl) rfl rfl ?_
          refine v_aload_n (pc' := 105) F dX10_law_104 rfl 2 rfl rfl ?_
          refine v_iconst (pc' := 106) (v := nI 0) F dX10_law_105 (by decide) rfl ?_
          refine v_put (pc' := 109) (ws' := [(ma 2, aI G 4 ((rdR pg pl).2.2.1)), (ma 3, aI G 4 ((rdR pg pl).2.2.2.1)), (ma 4, aI G 4 ((rdR pg pl).2.2.2.2.1)), (ma 5, aI G 4 ((rdR pg pl).2.2.2.2.2)), (o, mO ma (va_up (va_up (va_up (va_up (va_up (va_up fi 19 (nI x19_2)) 17 (nI (rdF r0 pg pl).1)) 18 (bI (isWh pg pl))) 0 (nI 1)) 1 (nI (lr + 1))) 6 (nI 0)) fl), (ma 20, aI G 4 ((rdR pg pl).2.2.1)), (ma 21, aI G 4 ((rdR pg pl).2.2.2.1)), (ma 22, aI G 4 ((rdR pg pl).2.2.2.2.1)), (ma 23, aI G 4 ((rdR pg pl).2.2.2.2.2)), (ma 16, aB G 32 pg)]) (C := RX10) (T := TX10) (N := 38) F dX10_law_106 in_X10_law_X10 tyX10_ok nmX10 4 rfl rfl 6 (by decide) (List.mem_of_getElem? (i := 12) rfl) rfl rfl rfl (Nat.le_of_ble_eq_true rfl) rfl rfl ?_
          refine v_aload_n (pc' := 110) F dX10_law_109 rfl 2 rfl rfl ?_
          refine v_iconst (pc' := 111) (v := nI 0) F dX10_law_110 (by decide) rfl ?_
          refine v_put (pc' := 114) (ws' := [(ma 2, aI G 4 ((rdR pg pl).2.2.1)), (ma 3, aI G 4 ((rdR pg pl).2.2.2.1)), (ma 4, aI G 4 ((rdR pg pl).2.2.2.2.1)), (ma 5, aI G 4 ((rdR pg pl).2.2.2.2.2)), (o, mO ma (va_up (va_up (va_up (va_up (va_up (va_up (va_up fi 19 (nI x19_2)) 17 (nI (rdF r0 pg pl).1)) 18 (bI (isWh pg pl))) 0 (nI 1)) 1 (nI (lr + 1))) 6 (nI 0)) 9 (nI 0)) fl), (ma 20, aI G 4 ((rdR pg pl).2.2.1)), (ma 21, aI G 4 ((rdR pg pl).2.2.2.1)), (ma 22, aI G 4 ((rdR pg pl).2.2.2.2.1)), (ma 23, aI G 4 ((rdR pg pl).2.2.2.2.2)), (ma 16, aB G 32 pg)]) (C := RX10) (T := TX10) (N := 38) F dX10_law_111 in_X10_law_X10 tyX10_ok nmX10 4 rfl rfl 9 (by decide) (List.mem_of_getElem? (i := 13) rfl) rfl rfl rfl (Nat.le_of_ble_eq_true rfl) rfl rfl ?_
          refine v_aload_n (pc' := 115) F dX10_law_114 rfl 2 rfl rfl ?_
          refine v_iconst (pc' := 116) (v := (-1)) F dX10_law_115 (by decide) rfl ?_
          refine v_put (pc' := 119) (ws' := [(ma 2, aI G 4 ((rdR pg pl).2.2.1)), (ma 3, aI G 4 ((rdR pg pl).2.2.2.1)), (ma 4, aI G 4 ((rdR pg pl).2.2.2.2.1)), (ma 5, aI G 4 ((rdR pg pl).2.2.2.2.2)), (o, mO ma (va_up (va_up (va_up (va_up (va_up (va_up (va_up (va_up fi 19 (nI x19_2)) 17 (nI (rdF r0 pg pl).1)) 18 (bI (isWh pg pl))) 0 (nI 1)) 1 (nI (lr + 1))) 6 (nI 0)) 9 (nI 0)) 11 (-1)) fl), (ma 20, aI G 4 ((rdR pg pl).2.2.1)), (ma 21, aI G 4 ((rdR pg pl).2.2.2.1)), (ma 22, aI G 4 ((rdR pg pl).2.2.2.2.1)), (ma 23, aI G 4 ((rdR pg pl).2.2.2.2.2)), (ma 16, aB G 32 pg)]) (C := RX10) (T := TX10) (N := 38) F dX10_law_116 in_X10_law_X10 tyX10_ok nmX10 4 rfl rfl 11 (by decide) (List.mem_of_getElem? (i := 14) rfl) rfl rfl rfl (Nat.le_of_ble_eq_true rfl) rfl rfl ?_
          refine v_aload_n (pc' := 120) F dX10_law_119 rfl 2 rfl rfl ?_
          refine v_iconst (pc' := 121) (v := nI 0) F dX10_law_120 (by decide) rfl ?_
          refine v_put (pc' := 124) (ws' := [(ma 2, aI G 4 ((rdR pg pl).2.2.1)), (ma 3, aI G 4 ((rdR pg pl).2.2.2.1)), (ma 4, aI G 4 ((rdR pg pl).2.2.2.2.1)), (ma 5, aI G 4 ((rdR pg pl).2.2.2.2.2)), (o, mO ma (va_up (va_up (va_up (va_up (va_up (va_up (va_up (va_up (va_up fi 19 (nI x19_2)) 17 (nI (rdF r0 pg pl).1)) 18 (bI (isWh pg pl))) 0 (nI 1)) 1 (nI (lr + 1))) 6 (nI 0)) 9 (nI 0)) 11 (-1)) 13 (nI 0)) fl), (ma 20, aI G 4 ((rdR pg pl).2.2.1)), (ma 21, aI G 4 ((rdR pg pl).2.2.2.1)), (ma 22, aI G 4 ((rdR pg pl).2.2.2.2.1)), (ma 23, aI G 4 ((rdR pg pl).2.2.2.2.2)), (ma 16, aB G 32 pg)]) (C := RX10) (T := TX10) (N := 38) F dX10_law_121 in_X10_law_X10 tyX10_ok nmX10 4 rfl rfl 13 (by decide) (List.mem_of_getElem? (i := 15) rfl) rfl rfl rfl (Nat.le_of_ble_eq_true rfl) rfl rfl ?_
          refine v_aload_n (pc' := 125) F dX10_law_124 rfl 2 rfl rfl ?_
          refine v_iconst (pc' := 126) (v := nI 0) F dX10_law_125 (by decide) rfl ?_
          refine v_put (pc' := 129) (ws' := [(ma 2, aI G 4 ((rdR pg pl).2.2.1)), (ma 3, aI G 4 ((rdR pg pl).2.2.2.1)), (ma 4, aI G 4 ((rdR pg pl).2.2.2.2.1)), (ma 5, aI G 4 ((rdR pg pl).2.2.2.2.2)), (o, mO ma (va_up (va_up (va_up (va_up (va_up (va_up (va_up (va_up (va_up (va_up fi 19 (nI x19_2)) 17 (nI (rdF r0 pg pl).1)) 18 (bI (isWh pg pl))) 0 (nI 1)) 1 (nI (lr + 1))) 6 (nI 0)) 9 (nI 0)) 11 (-1)) 13 (nI 0)) 15 (nI 0)) fl), (ma 20, aI G 4 ((rdR pg pl).2.2.1)), (ma 21, aI G 4 ((rdR pg pl).2.2.2.1)), (ma 22, aI G 4 ((rdR pg pl).2.2.2.2.1)), (ma 23, aI G 4 ((rdR pg pl).2.2.2.2.2)), (ma 16, aB G 32 pg)]) (C := RX10) (T := TX10) (N := 38) F dX10_law_126 in_X10_law_X10 tyX10_ok nmX10 4 rfl rfl 15 (by decide) (List.mem_of_getElem? (i := 16) rfl) rfl rfl rfl (Nat.le_of_ble_eq_true rfl) rfl rfl ?_
          refine v_iload_n (pc' := 130) F dX10_law_129 rfl 1 rfl rfl ?_
          refine v_perm (wz := [(o, mO ma (va_up (va_up (va_up (va_up (va_up (va_up (va_up (va_up (va_up (va_up fi 19 (nI x19_2)) 17 (nI (rdF r0 pg pl).1)) 18 (bI (isWh pg pl))) 0 (nI 1)) 1 (nI (lr + 1))) 6 (nI 0)) 9 (nI 0)) 11 (-1)) 13 (nI 0)) 15 (nI 0)) fl), (ma 2, aI G 4 ((rdR pg pl).2.2.1)), (ma 3, aI G 4 ((rdR pg pl).2.2.2.1)), (ma 4, aI G 4 ((rdR pg pl).2.2.2.2.1)), (ma 5, aI G 4 ((rdR pg pl).2.2.2.2.2)), (ma 20, aI G 4 ((rdR pg pl).2.2.1)), (ma 21, aI G 4 ((rdR pg pl).2.2.2.1)), (ma 22, aI G 4 ((rdR pg pl).2.2.2.2.1)), (ma 23, aI G 4 ((rdR pg pl).2.2.2.2.2)), (ma 16, aB G 32 pg)]) [4, 0, 1, 2, 3, 5, 6, 7, 8, 9] (by decide) rfl ?_
          exact rt dX10_law_130 (rdR pg pl, (va_up (va_up (va_up (va_up (va_up (va_up (va_up (va_up (va_up (va_up fi 19 (nI x19_2)) 17 (nI (rdF r0 pg pl).1)) 18 (bI (isWh pg pl))) 0 (nI 1)) 1 (nI (lr + 1))) 6 (nI 0)) 9 (nI 0)) 11 (-1)) 13 (nI 0)) 15 (nI 0)), (rdR pg pl).2.2) ⟨(by unfold A_law; rw [if_pos hwh, hct, hi4]), (by rw [if_pos hwh]), fun k h17 h18 h19 => by rw [if_pos hwh]; simp only [lawFi, va_up, if_neg h17, if_neg h18, if_neg h19]⟩ rfl
        · have h7 := (hwl i (by omega)).1
          have h6 := oneN_le ((rdR pg pl).2.2.1 i) 4
          refine v_aload_n (pc' := 24) F dX10_law_23 rfl 2 rfl rfl ?_
          refine v_get (pc' := 27) (v := .ref (ma 2)) (C := RX10) (T := TX10) (N := 38) F dX10_law_24 in_X10_law_X10 4 rfl rfl 2 (by decide) (List.mem_of_getElem? (i := 2) rfl) rfl rfl ?_
          refine v_iload_n (pc' := 28) F dX10_law_27 rfl 0 rfl rfl ?_
          refine v_aload_n (pc' := 29) F dX10_law_28 rfl 2 rfl rfl ?_
          refine v_get (pc' := 32) (v := .ref (ma 20)) (C := RX10) (T := TX10) (N := 38) F dX10_law_29 in_X10_law_X10 4 rfl rfl 20 (by decide) (List.mem_of_getElem? (i := 3) rfl) rfl rfl ?_
          refine v_iload_n (pc' := 33) F dX10_law_32 rfl 0 rfl rfl ?_
          refine v_iald (pc' := 34) (z := ((rdR pg pl).2.2.1) i) F dX10_law_33 5 rfl (by omega) (by first | decide | omega) rfl rfl ?_
          refine v_iast (pc' := 35) (ws' := [(ma 2, aI G 4 (va_up (cpy ((rdR pg pl).2.2.1) tk0 i) i (((rdR pg pl).2.2.1) i))), (ma 3, aI G 4 (cpy ((rdR pg pl).2.2.2.1) gv0 i)), (ma 4, aI G 4 (cpy ((rdR pg pl).2.2.2.2.1) pr0 i)), (ma 5, aI G 4 (cpy ((rdR pg pl).2.2.2.2.2) py0 i)), (o, mO ma (va_up (va_up (va_up fi 19 (nI x19_2)) 17 (nI (rdF r0 pg pl).1)) 18 (bI (isWh pg pl))) fl), (ma 20, aI G 4 ((rdR pg pl).2.2.1)), (ma 21, aI G 4 ((rdR pg pl).2.2.2.1)), (ma 22, aI G 4 ((rdR pg pl).2.2.2.2.1)), (ma 23, aI G 4 ((rdR pg pl).2.2.2.2.2)), (ma 16, aB G 32 pg)]) F dX10_law_34 0 rfl (by omega) (by first | decide | omega) rfl rfl ?_
          refine v_aload_n (pc' := 36) F dX10_law_35 rfl 2 rfl rfl ?_
          refine v_get (pc' := 39) (v := .ref (ma 3)) (C := RX10) (T := TX10) (N := 38) F dX10_law_36 in_X10_law_X10 4 rfl rfl 3 (by decide) (List.mem_of_getElem? (i := 4) rfl) rfl rfl ?_
          refine v_iload_n (pc' := 40) F dX10_law_39 rfl 0 rfl rfl ?_
          refine v_aload_n (pc' := 41) F dX10_law_40 rfl 2 rfl rfl ?_
          refine v_get (pc' := 44) (v := .ref (ma 21)) (C := RX10) (T := TX10) (N := 38) F dX10_law_41 in_X10_law_X10 4 rfl rfl 21 (by decide) (List.mem_of_getElem? (i := 5) rfl) rfl rfl ?_
          refine v_iload_n (pc' := 45) F dX10_law_44 rfl 0 rfl rfl ?_
          refine v_iald (pc' := 46) (z := ((rdR pg pl).2.2.2.1) i) F dX10_law_45 6 rfl (by omega) (by first | decide | omega) rfl rfl ?_
          refine v_iast (pc' := 47) (ws' := [(ma 2, aI G 4 (va_up (cpy ((rdR pg pl).2.2.1) tk0 i) i (((rdR pg pl).2.2.1) i))), (ma 3, aI G 4 (va_up (cpy ((rdR pg pl).2.2.2.1) gv0 i) i (((rdR pg pl).2.2.2.1) i))), (ma 4, aI G 4 (cpy ((rdR pg pl).2.2.2.2.1) pr0 i)), (ma 5, aI G 4 (cpy ((rdR pg pl).2.2.2.2.2) py0 i)), (o, mO ma (va_up (va_up (va_up fi 19 (nI x19_2)) 17 (nI (rdF r0 pg pl).1)) 18 (bI (isWh pg pl))) fl), (ma 20, aI G 4 ((rdR pg pl).2.2.1)), (ma 21, aI G 4 ((rdR pg pl).2.2.2.1)), (ma 22, aI G 4 ((rdR pg pl).2.2.2.2.1)), (ma 23, aI G 4 ((rdR pg pl).2.2.2.2.2)), (ma 16, aB G 32 pg)]) F dX10_law_46 1 rfl (by omega) (by first | decide | omega) rfl rfl ?_
          refine v_aload_n (pc' := 48) F dX10_law_47 rfl 2 rfl rfl ?_
          refine v_get (pc' := 51) (v := .ref (ma 4)) (C := RX10) (T := TX10) (N := 38) F dX10_law_48 in_X10_law_X10 4 rfl rfl 4 (by decide) (List.mem_of_getElem? (i := 6) rfl) rfl rfl ?_
          refine v_iload_n (pc' := 52) F dX10_law_51 rfl 0 rfl rfl ?_
          refine v_aload_n (pc' := 53) F dX10_law_52 rfl 2 rfl rfl ?_
          refine v_get (pc' := 56) (v := .ref (ma 22)) (C := RX10) (T := TX10) (N := 38) F dX10_law_53 in_X10_law_X10 4 rfl rfl 22 (by decide) (List.mem_of_getElem? (i := 7) rfl) rfl rfl ?_
          refine v_iload_n (pc' := 57) F dX10_law_56 rfl 0 rfl rfl ?_
          refine v_iald (pc' := 58) (z := ((rdR pg pl).2.2.2.2.1) i) F dX10_law_57 7 rfl (by omega) (by first | decide | omega) rfl rfl ?_
          refine v_iast (pc' := 59) (ws' := [(ma 2, aI G 4 (va_up (cpy ((rdR pg pl).2.2.1) tk0 i) i (((rdR pg pl).2.2.1) i))), (ma 3, aI G 4 (va_up (cpy ((rdR pg pl).2.2.2.1) gv0 i) i (((rdR pg pl).2.2.2.1) i))), (ma 4, aI G 4 (va_up (cpy ((rdR pg pl).2.2.2.2.1) pr0 i) i (((rdR pg pl).2.2.2.2.1) i))), (ma 5, aI G 4 (cpy ((rdR pg pl).2.2.2.2.2) py0 i)), (o, mO ma (va_up (va_up (va_up fi 19 (nI x19_2)) 17 (nI (rdF r0 pg pl).1)) 18 (bI (isWh pg pl))) fl), (ma 20, aI G 4 ((rdR pg pl).2.2.1)), (ma 21, aI G 4 ((rdR pg pl).2.2.2.1)), (ma 22, aI G 4 ((rdR pg pl).2.2.2.2.1)), (ma 23, aI G 4 ((rdR pg pl).2.2.2.2.2)), (ma 16, aB G 32 pg)]) F dX10_law_58 2 rfl (by omega) (by first | decide | omega) rfl rfl ?_
          refine v_aload_n (pc' := 60) F dX10_law_59 rfl 2 rfl rfl ?_
          refine v_get (pc' := 63) (v := .ref (ma 5)) (C := RX10) (T := TX10) (N := 38) F dX10_law_60 in_X10_law_X10 4 rfl rfl 5 (by decide) (List.mem_of_getElem? (i := 8) rfl) rfl rfl ?_
          refine v_iload_n (pc' := 64) F dX10_law_63 rfl 0 rfl rfl ?_
          refine v_aload_n (pc' := 65) F dX10_law_64 rfl 2 rfl rfl ?_
          refine v_get (pc' := 68) (v := .ref (ma 23)) (C := RX10) (T := TX10) (N := 38) F dX10_law_65 in_X10_law_X10 4 rfl rfl 23 (by decide) (List.mem_of_getElem? (i := 9) rfl) rfl rfl ?_
          refine v_iload_n (pc' := 69) F dX10_law_68 rfl 0 rfl rfl ?_
          refine v_iald (pc' := 70) (z := ((rdR pg pl).2.2.2.2.2) i) F dX10_law_69 8 rfl (by omega) (by first | decide | omega) rfl rfl ?_
          refine v_iast (pc' := 71) (ws' := [(ma 2, aI G 4 (va_up (cpy ((rdR pg pl).2.2.1) tk0 i) i (((rdR pg pl).2.2.1) i))), (ma 3, aI G 4 (va_up (cpy ((rdR pg pl).2.2.2.1) gv0 i) i (((rdR pg pl).2.2.2.1) i))), (ma 4, aI G 4 (va_up (cpy ((rdR pg pl).2.2.2.2.1) pr0 i) i (((rdR pg pl).2.2.2.2.1) i))), (ma 5, aI G 4 (va_up (cpy ((rdR pg pl).2.2.2.2.2) py0 i) i (((rdR pg pl).2.2.2.2.2) i))), (o, mO ma (va_up (va_up (va_up fi 19 (nI x19_2)) 17 (nI (rdF r0 pg pl).1)) 18 (bI (isWh pg pl))) fl), (ma 20, aI G 4 ((rdR pg pl).2.2.1)), (ma 21, aI G 4 ((rdR pg pl).2.2.2.1)), (ma 22, aI G 4 ((rdR pg pl).2.2.2.2.1)), (ma 23, aI G 4 ((rdR pg pl).2.2.2.2.2)), (ma 16, aB G 32 pg)]) F dX10_law_70 3 rfl (by omega) (by first | decide | omega) rfl rfl ?_
          refine v_iload_n (pc' := 72) F dX10_law_71 rfl 1 rfl rfl ?_
          refine v_aload_n (pc' := 73) F dX10_law_72 rfl 2 rfl rfl ?_
          refine v_get (pc' := 76) (v := .ref (ma 20)) (C := RX10) (T := TX10) (N := 38) F dX10_law_73 in_X10_law_X10 4 rfl rfl 20 (by decide) (List.mem_of_getElem? (i := 3) rfl) rfl rfl ?_
          refine v_iload_n (pc' := 77) F dX10_law_76 rfl 0 rfl rfl ?_
          refine v_iald (pc' := 78) (z := ((rdR pg pl).2.2.1) i) F dX10_law_77 5 rfl (by omega) (by first | decide | omega) rfl rfl ?_
          refine cSI0 (pc' := 81) (As := [.int (nI (((rdR pg pl).2.2.1) i))]) (rest := [.int (nI ct)]) F (c_X10_size (((rdR pg pl).2.2.1) i) (by omega)) (va_cwS 1 F.2.2.2.2.1 gX10_law_X10_size rfl rfl rfl (by decide +kernel) ⟨Nat.le_of_ble_eq_true rfl, Nat.le_of_ble_eq_true rfl⟩) rfl rfl (Nat.le_of_ble_eq_true rfl) dX10_law_78 ⟨Nat.zero_le _, Nat.zero_le _⟩ rfl (fun r u q8 => ?_)
          obtain rfl := q8
          refine v_iadd (pc' := 82) (z := nI (ct + (oneN (((rdR pg pl).2.2.1) i) 4))) F dX10_law_81 (nI_add _ _) rfl ?_
          refine v_istore_n (pc' := 83) (lv' := [(1, .int (nI (ct + (oneN (((rdR pg pl).2.2.1) i) 4)))), (2, .int (nI i)), (0, .ref o)]) F dX10_law_82 rfl (by decide) rfl rfl ?_
          refine v_iinc (pc' := 86) (v := nI (i + 1)) (lv' := [(2, .int (nI (i + 1))), (1, .int (nI (ct + (oneN (((rdR pg pl).2.2.1) i) 4)))), (0, .ref o)]) F dX10_law_83 1 rfl (nI_add _ _) (by decide) rfl rfl ?_
          refine v_goto (tgt := 18) F dX10_law_86 (by decide) ?_
          exact ih18 (i + 1) (ct + (oneN (((rdR pg pl).2.2.1) i) 4)) (va_up (cpy ((rdR pg pl).2.2.1) tk0 i) i (((rdR pg pl).2.2.1) i)) (va_up (cpy ((rdR pg pl).2.2.2.1) gv0 i) i (((rdR pg pl).2.2.2.1) i)) (va_up (cpy ((rdR pg pl).2.2.2.2.1) pr0 i) i (((rdR pg pl).2.2.2.2.1) i)) (va_up (cpy ((rdR pg pl).2.2.2.2.2) py0 i) i (((rdR pg pl).2.2.2.2.2) i)) (by omega) (by rw [hct]; rfl) (cpy_s ((rdR pg pl).2.2.1) tk0 i) (cpy_s ((rdR pg pl).2.2.2.1) gv0 i) (cpy_s ((rdR pg pl).2.2.2.2.1) pr0 i) (cpy_s ((rdR pg pl).2.2.2.2.2) py0 i) (by omega)
    exact L18 (4 + 1) 0 0 tk0 gv0 pr0 py0 (by omega) (rfl) (cpy_0 ((rdR pg pl).2.2.1) tk0) (cpy_0 ((rdR pg pl).2.2.2.1) gv0) (cpy_0 ((rdR pg pl).2.2.2.2.1) pr0) (cpy_0 ((rdR pg pl).2.2.2.2.2) py0) (by omega)
  · refine v_bipush (pc' := 13) (v := (-103)) F dX10_law_11 (by decide) rfl ?_
    refine v_perm (wz := [(o, mO ma (va_up (va_up (va_up fi 19 (nI x19_2)) 17 (nI (rdF r0 pg pl).1)) 18 (bI (isWh pg pl))) fl), (ma 2, aI G 4 tk0), (ma 3, aI G 4 gv0), (ma 4, aI G 4 pr0), (ma 5, aI G 4 py0), (ma 20, aI G 4 nw_1.2.2.1), (ma 21, aI G 4 nw_1.2.2.2.1), (ma 22, aI G 4 nw_1.2.2.2.2.1), (ma 23, aI G 4 nw_1.2.2.2.2.2), (ma 16, aB G 32 pg)]) [4, 0, 1, 2, 3, 5, 6, 7, 8, 9] (by decide) rfl ?_
    exact rt dX10_law_13 (nw_1, va_up (va_up (va_up fi 19 (nI x19_2)) 17 (nI (rdF r0 pg pl).1)) 18 (bI (isWh pg pl)), tk0, gv0, pr0, py0) ⟨(by unfold A_law; rw [if_neg (by assumption)]), (by rw [if_neg (by assumption)]), fun k h17 h18 h19 => by rw [if_neg (show ¬ isWh pg pl by assumption)]; simp only [va_up, if_neg h17, if_neg h18, if_neg h19]⟩ rfl
