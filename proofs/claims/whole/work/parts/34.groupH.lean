def rm_X10_goTrail : Room := { frames := 3, cells := 0, slots := 0, locals := 70 }
theorem in_X10_goTrail_X10 : ∀ w ∈ u_ws RX10 TX10 38, w ∈ wsX10_goTrail := fun w h => List.mem_cons_of_mem _ (List.mem_append_right _ (h))
set_option maxHeartbeats 4000000 in
set_option maxRecDepth 100000 in
theorem c_X10_goTrail {l : Launch} {D : va_G} {G : gT} (o : Nat) (ma : Nat → Nat) (fi : Nat → Int32) (fl : Nat → Int64) (tk gv pr py ks w w0 : Nat → Nat) (tp q9 t9 : Nat) (htp : fi 11 = nI tp) (hw : WL tk gv pr py) (htp5 : tp < 5) (hks : ks tp < 5) (hq : q9 < 625) (ht : t9 < 625) (hwb : ∀ j, j < 64 → w j < 2 ^ 31) : CtV (σ := Unit) l yX10_goTrail wsX10_goTrail rm_X10_goTrail D G [.ref o, .int (nI q9), .int (nI t9)] [(o, mO ma fi fl), (ma 2, aI G 4 tk), (ma 3, aI G 4 gv), (ma 4, aI G 4 pr), (ma 5, aI G 4 py), (ma 7, aI G 5 ks), (ma 28, aI G 64 w), (ma 29, aI G 64 w0)] (fun _ => True) (fun _ => [(o, mO ma fi fl), (ma 2, aI G 4 tk), (ma 3, aI G 4 gv), (ma 4, aI G 4 pr), (ma 5, aI G 4 py), (ma 7, aI G 5 ks), (ma 28, aI G 64 (wyS (mB (ks tp) tk gv pr py) q9 t9 w 64)), (ma 29, aI G 64 (wyS (mB (ks tp) tk gv pr py) q9 t9 w 64))]) := by
  refine openV (maxL := 7) (by decide) rfl (Nat.le_of_ble_eq_true rfl) ?_
  intro pgZ evZ sgZ mmZ agsZ blZ meZ cdZ AZ QZ F hmn rt
  refine v_lv (lz := [(0, .ref o), (1, .int (nI q9)), (2, .int (nI t9))]) rfl ?_
  refine v_iconst (pc' := 1) (v := nI 0) F dX10_goTrail_0 (by decide) rfl ?_
  refine v_istore_n (pc' := 2) (lv' := [(3, .int (nI 0)), (0, .ref o), (1, .int (nI q9)), (2, .int (nI t9))]) F dX10_goTrail_1 rfl (by decide) rfl rfl ?_
  have L2 : ∀ (fu : Nat) (k0 : Nat) (f0 : Nat → Nat), (k0 ≤ 64) → (f0 = cpy (fun _ => 0) w0 k0) → 64 < k0 + fu → V pgZ l evZ rm_X10_goTrail sgZ mmZ agsZ blZ meZ cdZ 0 0 QZ D AZ 7 2 [(3, .int (nI k0)), (0, .ref o), (1, .int (nI q9)), (2, .int (nI t9))] [] [(o, mO ma fi fl), (ma 2, aI G 4 tk), (ma 3, aI G 4 gv), (ma 4, aI G 4 pr), (ma 5, aI G 4 py), (ma 7, aI G 5 ks), (ma 28, aI G 64 w), (ma 29, aI G 64 f0)] := by
    intro fu
    induction fu with
    | zero => intro k0 f0 hk0 hf0 hfu; exact absurd hfu (by omega)
    | succ fu ih2 =>
      intro k0 f0 hk0 hf0 hfu
      subst hf0
      refine v_iload_n (pc' := 3) F dX10_goTrail_2 rfl 0 rfl rfl ?_
      refine v_bipush (pc' := 5) (v := nI 64) F dX10_goTrail_3 (by decide) rfl ?_
      refine v_ncmp_ge (tgt := 21) (pc' := 8) F dX10_goTrail_5 (by omega) (by omega) (by decide) rfl (fun c2 => ?_) (fun c2 => ?_)
      · refine v_aI (ws' := [(o, mO ma fi fl), (ma 2, aI G 4 tk), (ma 3, aI G 4 gv), (ma 4, aI G 4 pr), (ma 5, aI G 4 py), (ma 7, aI G 5 ks), (ma 28, aI G 64 w), (ma 29, aI G 64 zN)]) 7 rfl (fun j9 h9 => cpy_z j9 (by omega)) rfl ?_
        refine v_iconst (pc' := 22) (v := nI 0) F dX10_goTrail_21 (by decide) rfl ?_
        refine v_istore_n (pc' := 23) (lv' := [(3, .int (nI 0)), (0, .ref o), (1, .int (nI q9)), (2, .int (nI t9))]) F dX10_goTrail_22 rfl (by decide) rfl rfl ?_
        have L23 : ∀ (fu : Nat) (k : Nat) (f : Nat → Nat), (k ≤ 64) → (f = wyS (mB (ks tp) tk gv pr py) q9 t9 w k) → 64 < k + fu → V pgZ l evZ rm_X10_goTrail sgZ mmZ agsZ blZ meZ cdZ 0 0 QZ D AZ 7 23 [(3, .int (nI k)), (0, .ref o), (1, .int (nI q9)), (2, .int (nI t9))] [] [(o, mO ma fi fl), (ma 2, aI G 4 tk), (ma 3, aI G 4 gv), (ma 4, aI G 4 pr), (ma 5, aI G 4 py), (ma 7, aI G 5 ks), (ma 28, aI G 64 w), (ma 29, aI G 64 f)] := by
          intro fu
          induction fu with
          | zero => intro k f hk hf hfu; exact absurd hfu (by omega)
          | succ fu ih23 =>
            intro k f hk hf hfu
            have hkb := hwb k
            refine v_iload_n (pc' := 24) F dX10_goTrail_23 rfl 0 rfl rfl ?_
            refine v_bipush (pc' := 26) (v := nI 64) F dX10_goTrail_24 (by decide) rfl ?_
            refine v_ncmp_ge (tgt := 150) (pc' := 29) F dX10_goTrail_26 (by omega) (by omega) (by decide) rfl (fun c4 => ?_) (fun c4 => ?_)
            · refine v_ws (wz := [(o, mO ma fi fl), (ma 2, aI G 4 tk), (ma 3, aI G 4 gv), (ma 4, aI G 4 pr), (ma 5, aI G 4 py), (ma 7, aI G 5 ks), (ma 28, aI G 64 w), (ma 29, aI G 64 (wyS (mB (ks tp) tk gv pr py) q9 t9 w 64))]) (by rw [hf, show k = 64 by omega]) ?_
              refine v_iconst (pc' := 151) (v := nI 0) F dX10_goTrail_150 (by decide) rfl ?_
              refine v_istore_n (pc' := 152) (lv' := [(3, .int (nI 0)), (0, .ref o), (1, .int (nI q9)), (2, .int (nI t9))]) F dX10_goTrail_151 rfl (by decide) rfl rfl ?_
              have L152 : ∀ (fu : Nat) (i : Nat) (f3 : Nat → Nat), (i ≤ 64) → (f3 = cpy (wyS (mB (ks tp) tk gv pr py) q9 t9 w 64) w i) → 64 < i + fu → V pgZ l evZ rm_X10_goTrail sgZ mmZ agsZ blZ meZ cdZ 0 0 QZ D AZ 7 152 [(3, .int (nI i)), (0, .ref o), (1, .int (nI q9)), (2, .int (nI t9))] [] [(o, mO ma fi fl), (ma 2, aI G 4 tk), (ma 3, aI G 4 gv), (ma 4, aI G 4 pr), (ma 5, aI G 4 py), (ma 7, aI G 5 ks), (ma 28, aI G 64 f3), (ma 29, aI G 64 (wyS (mB (ks tp) tk gv pr py) q9 t9 w 64))] := by
                intro fu
                induction fu with
                | zero => intro i f3 hi hf3 hfu; exact absurd hfu (by omega)
                | succ fu ih152 =>
                  intro i f3 hi hf3 hfu
                  subst hf3
                  refine v_iload_n (pc' := 153) F dX10_goTrail_152 rfl 0 rfl rfl ?_
                  refine v_bipush (pc' := 155) (v := nI 64) F dX10_goTrail_153 (by decide) rfl ?_
                  refine v_ncmp_ge (tgt := 176) (pc' := 158) F dX10_goTrail_155 (by omega) (by omega) (by decide) rfl (fun c6 => ?_) (fun c6 => ?_)
                  · refine v_aI (ws' := [(o, mO ma fi fl), (ma 2, aI G 4 tk), (ma 3, aI G 4 gv), (ma 4, aI G 4 pr), (ma 5, aI G 4 py), (ma 7, aI G 5 ks), (ma 28, aI G 64 (wyS (mB (ks tp) tk gv pr py) q9 t9 w 64)), (ma 29, aI G 64 (wyS (mB (ks tp) tk gv pr py) q9 t9 w 64))]) 6 rfl (fun j9 h9 => cpy_f j9 (by omega)) rfl ?_
                    exact rt dX10_goTrail_176 () (by trivial) rfl
                  · refine v_aload_n (pc' := 159) F dX10_goTrail_158 rfl 1 rfl rfl ?_
                    refine v_get (pc' := 162) (v := .ref (ma 28)) (C := RX10) (T := TX10) (N := 38) F dX10_goTrail_159 in_X10_goTrail_X10 0 rfl rfl 28 (by decide) (List.mem_of_getElem? (i := 2) rfl) rfl rfl ?_
                    refine v_iload_n (pc' := 163) F dX10_goTrail_162 rfl 0 rfl rfl ?_
                    refine v_aload_n (pc' := 164) F dX10_goTrail_163 rfl 1 rfl rfl ?_
                    refine v_get (pc' := 167) (v := .ref (ma 29)) (C := RX10) (T := TX10) (N := 38) F dX10_goTrail_164 in_X10_goTrail_X10 0 rfl rfl 29 (by decide) (List.mem_of_getElem? (i := 1) rfl) rfl rfl ?_
                    refine v_iload_n (pc' := 168) F dX10_goTrail_167 rfl 0 rfl rfl ?_
                    refine v_iald (pc' := 169) (z := (wyS (mB (ks tp) tk gv pr py) q9 t9 w 64) i) F dX10_goTrail_168 7 rfl (by omega) (by first | decide | omega) rfl rfl ?_
                    refine v_iast (pc' := 170) (ws' := [(o, mO ma fi fl), (ma 2, aI G 4 tk), (ma 3, aI G 4 gv), (ma 4, aI G 4 pr), (ma 5, aI G 4 py), (ma 7, aI G 5 ks), (ma 28, aI G 64 (va_up (cpy (wyS (mB (ks tp) tk gv pr py) q9 t9 w 64) w i) i ((wyS (mB (ks tp) tk gv pr py) q9 t9 w 64) i))), (ma 29, aI G 64 (wyS (mB (ks tp) tk gv pr py) q9 t9 w 64))]) F dX10_goTrail_169 6 rfl (by omega) (by first | decide | omega) rfl rfl ?_
                    refine v_iinc (pc' := 173) (v := nI (i + 1)) (lv' := [(3, .int (nI (i + 1))), (0, .ref o), (1, .int (nI q9)), (2, .int (nI t9))]) F dX10_goTrail_170 0 rfl (nI_add _ _) (by decide) rfl rfl ?_
                    refine v_goto (tgt := 152) F dX10_goTrail_173 (by decide) ?_
                    exact ih152 (i + 1) (va_up (cpy (wyS (mB (ks tp) tk gv pr py) q9 t9 w 64) w i) i ((wyS (mB (ks tp) tk gv pr py) q9 t9 w 64) i)) (by omega) (cpy_s (wyS (mB (ks tp) tk gv pr py) q9 t9 w 64) w i) (by omega)
              exact L152 (64 + 1) 0 w (by omega) (cpy_0 (wyS (mB (ks tp) tk gv pr py) q9 t9 w 64) w) (by omega)
            · refine v_iload_n (pc' := 30) F dX10_goTrail_29 rfl 0 rfl rfl ?_
              refine v_iconst (pc' := 31) (v := nI 4) F dX10_goTrail_30 (by decide) rfl ?_
              refine v_irem (pc' := 32) (z := nI (k % 4)) F dX10_goTrail_31 (nI_ne0 (by omega) (by omega)) (pk_rem (by omega) (by omega) (by omega)) rfl ?_
              refine v_iconst (pc' := 33) (v := nI 4) F dX10_goTrail_32 (by decide) rfl ?_
              refine v_iload_n (pc' := 34) F dX10_goTrail_33 rfl 2 rfl rfl ?_
              refine v_imul (pc' := 35) (z := nI (4 * q9)) F dX10_goTrail_34 (pk_mul _ _) rfl ?_
              refine v_iadd (pc' := 36) (z := nI ((k % 4) + (4 * q9))) F dX10_goTrail_35 (nI_add _ _) rfl ?_
              refine v_sipush (pc' := 39) (v := nI 2500) F dX10_goTrail_36 (by decide) rfl ?_
              refine v_iload_n (pc' := 40) F dX10_goTrail_39 rfl 0 rfl rfl ?_
              refine v_iconst (pc' := 41) (v := nI 4) F dX10_goTrail_40 (by decide) rfl ?_
              refine v_idiv (pc' := 42) (z := nI (k / 4)) F dX10_goTrail_41 (nI_ne0 (by omega) (by omega)) (pk_div (by omega) (by omega) (by omega)) rfl ?_
              refine v_imul (pc' := 43) (z := nI (2500 * (k / 4))) F dX10_goTrail_42 (pk_mul _ _) rfl ?_
              refine v_iadd (pc' := 44) (z := nI (((k % 4) + (4 * q9)) + (2500 * (k / 4)))) F dX10_goTrail_43 (nI_add _ _) rfl ?_
              refine v_top (y := nI (stN q9 k)) rfl ?_
              refine v_istore (pc' := 46) (lv' := [(4, .int (nI (stN q9 k))), (3, .int (nI k)), (0, .ref o), (1, .int (nI q9)), (2, .int (nI t9))]) F dX10_goTrail_44 (by decide) rfl rfl ?_
              have hst := stN_lt hq (show k < 64 by omega)
              have hkb9 := hkb (by omega)
              refine v_iconst (pc' := 47) (v := nI 0) F dX10_goTrail_46 (by decide) rfl ?_
              refine v_istore (pc' := 49) (lv' := [(5, .int (nI 0)), (4, .int (nI (stN q9 k))), (3, .int (nI k)), (0, .ref o), (1, .int (nI q9)), (2, .int (nI t9))]) F dX10_goTrail_47 (by decide) rfl rfl ?_
              have L49 : ∀ (fu : Nat) (j : Nat) (f2 : Nat → Nat), (j ≤ 24) → (f2 = addL t9 (w k) (opM (mB (ks tp) tk gv pr py (stN q9 k)) j) (wyS (mB (ks tp) tk gv pr py) q9 t9 w k)) → 24 < j + fu → V pgZ l evZ rm_X10_goTrail sgZ mmZ agsZ blZ meZ cdZ 0 0 QZ D AZ 7 49 [(5, .int (nI j)), (4, .int (nI (stN q9 k))), (3, .int (nI k)), (0, .ref o), (1, .int (nI q9)), (2, .int (nI t9))] [] [(o, mO ma fi fl), (ma 2, aI G 4 tk), (ma 3, aI G 4 gv), (ma 4, aI G 4 pr), (ma 5, aI G 4 py), (ma 7, aI G 5 ks), (ma 28, aI G 64 w), (ma 29, aI G 64 f2)] := by
                intro fu
                induction fu with
                | zero => intro j f2 hj hf2 hfu; exact absurd hfu (by omega)
                | succ fu ih49 =>
                  intro j f2 hj hf2 hfu
                  refine v_iload (pc' := 51) F dX10_goTrail_49 0 rfl rfl ?_
                  refine v_bipush (pc' := 53) (v := nI 24) F dX10_goTrail_51 (by decide) rfl ?_
                  refine v_ncmp_ge (tgt := 144) (pc' := 56) F dX10_goTrail_53 (by omega) (by omega) (by decide) rfl (fun c8 => ?_) (fun c8 => ?_)
                  · refine v_iinc (pc' := 147) (v := nI (k + 1)) (lv' := [(3, .int (nI (k + 1))), (5, .int (nI j)), (4, .int (nI (stN q9 k))), (0, .ref o), (1, .int (nI q9)), (2, .int (nI t9))]) F dX10_goTrail_144 2 rfl (nI_add _ _) (by decide) rfl rfl ?_
                    refine v_goto (tgt := 23) F dX10_goTrail_147 (by decide) ?_
                    refine v_lpick (lz := [(3, .int (nI (k + 1))), (0, .ref o), (1, .int (nI q9)), (2, .int (nI t9))]) [0, 3, 4, 5] rfl ?_
                    exact ih23 (k + 1) f2 (by omega) (by first | (rw [hf2, show j = 24 by omega, opM_24]; rfl) | (rw [hf2]; exact addL_zz (by omega))) (by omega)
                  · refine v_aload_n (pc' := 57) F dX10_goTrail_56 rfl 3 rfl rfl ?_
                    refine v_get (pc' := 60) (v := .ref (ma 28)) (C := RX10) (T := TX10) (N := 38) F dX10_goTrail_57 in_X10_goTrail_X10 0 rfl rfl 28 (by decide) (List.mem_of_getElem? (i := 2) rfl) rfl rfl ?_
                    refine v_iload_n (pc' := 61) F dX10_goTrail_60 rfl 2 rfl rfl ?_
                    refine v_iald (pc' := 62) (z := w k) F dX10_goTrail_61 6 rfl (by omega) (by first | decide | omega) rfl rfl ?_
                    refine v_nif_le (tgt := 144) (pc' := 65) F dX10_goTrail_62 (by omega) (by decide) rfl (fun c9 => ?_) (fun c9 => ?_)
                    · refine v_iinc (pc' := 147) (v := nI (k + 1)) (lv' := [(3, .int (nI (k + 1))), (5, .int (nI j)), (4, .int (nI (stN q9 k))), (0, .ref o), (1, .int (nI q9)), (2, .int (nI t9))]) F dX10_goTrail_144 2 rfl (nI_add _ _) (by decide) rfl rfl ?_
                      refine v_goto (tgt := 23) F dX10_goTrail_147 (by decide) ?_
                      refine v_lpick (lz := [(3, .int (nI (k + 1))), (0, .ref o), (1, .int (nI q9)), (2, .int (nI t9))]) [0, 3, 4, 5] rfl ?_
                      exact ih23 (k + 1) f2 (by omega) (by first | (rw [hf2, show j = 24 by omega, opM_24]; rfl) | (rw [hf2]; exact addL_zz (by omega))) (by omega)
                    · refine v_iload (pc' := 67) F dX10_goTrail_65 0 rfl rfl ?_
                      refine cSI0 (pc' := 70) (As := [.int (nI j)]) (rest := []) F (c_X10_isAct (nI j)) (va_cwS 1 F.2.2.2.2.1 gX10_goTrail_X10_isAct rfl rfl rfl (by decide +kernel) ⟨Nat.le_of_ble_eq_true rfl, Nat.le_of_ble_eq_true rfl⟩) rfl rfl (Nat.le_of_ble_eq_true rfl) dX10_goTrail_67 ⟨Nat.zero_le _, Nat.zero_le _⟩ rfl (fun r u q10 => ?_)
                      obtain rfl := q10
                      refine v_bif_eq (tgt := 93) (pc' := 73) F dX10_goTrail_70 (by decide) rfl (fun c11 => ?_) (fun c11 => ?_)
                      · have hna := aOkI_nj hj c11
                        refine v_iconst (pc' := 94) (v := (-1)) F dX10_goTrail_93 (by decide) rfl ?_
                        refine v_istore (pc' := 96) (lv' := [(6, .int (-1)), (5, .int (nI j)), (4, .int (nI (stN q9 k))), (3, .int (nI k)), (0, .ref o), (1, .int (nI q9)), (2, .int (nI t9))]) F dX10_goTrail_94 (by decide) rfl rfl ?_
                        refine v_iload (pc' := 98) F dX10_goTrail_96 0 rfl rfl ?_
                        refine v_iconst (pc' := 99) (v := (-1)) F dX10_goTrail_98 (by decide) rfl ?_
                        refine v_icmp_eq (tgt := 138) (pc' := 102) F dX10_goTrail_99 (by decide) rfl (fun c12 => ?_) (fun c12 => ?_)
                        · refine v_iinc (pc' := 141) (v := nI (j + 1)) (lv' := [(5, .int (nI (j + 1))), (6, .int (-1)), (4, .int (nI (stN q9 k))), (3, .int (nI k)), (0, .ref o), (1, .int (nI q9)), (2, .int (nI t9))]) F dX10_goTrail_138 1 rfl (nI_add _ _) (by decide) rfl rfl ?_
                          refine v_goto (tgt := 49) F dX10_goTrail_141 (by decide) ?_
                          refine v_lpick (lz := [(5, .int (nI (j + 1))), (4, .int (nI (stN q9 k))), (3, .int (nI k)), (0, .ref o), (1, .int (nI q9)), (2, .int (nI t9))]) [0, 2, 3, 4, 5, 6] rfl ?_
                          exact ih49 (j + 1) f2 (by omega) (opM_skip hf2 (opM_no hna)) (by omega)
                        · exact absurd rfl c12
                      · have haj := aOkI_j hj c11
                        refine v_aload_n (pc' := 74) F dX10_goTrail_73 rfl 3 rfl rfl ?_
                        refine v_aload_n (pc' := 75) F dX10_goTrail_74 rfl 3 rfl rfl ?_
                        refine v_get (pc' := 78) (v := .ref (ma 7)) (C := RX10) (T := TX10) (N := 38) F dX10_goTrail_75 in_X10_goTrail_X10 0 rfl rfl 7 (by decide) (List.mem_of_getElem? (i := 3) rfl) rfl rfl ?_
                        refine v_aload_n (pc' := 79) F dX10_goTrail_78 rfl 3 rfl rfl ?_
                        refine v_get (pc' := 82) (v := .int (nI tp)) (C := RX10) (T := TX10) (N := 38) F dX10_goTrail_79 in_X10_goTrail_X10 0 rfl rfl 11 (by decide) (List.mem_of_getElem? (i := 4) rfl) (congrArg (fun z => some (Value.int z)) htp) rfl ?_
                        refine v_iald (pc' := 83) (z := ks tp) F dX10_goTrail_82 5 rfl (by omega) (by first | decide | omega) rfl rfl ?_
                        refine v_iload (pc' := 85) F dX10_goTrail_83 1 rfl rfl ?_
                        refine v_iload (pc' := 87) F dX10_goTrail_85 0 rfl rfl ?_
                        refine cVI (pc' := 90) (As := [.int (nI (ks tp)), .int (nI (stN q9 k)), .int (nI j)]) (rest := []) (wr := [(ma 7, aI G 5 ks), (ma 28, aI G 64 w), (ma 29, aI G 64 f2)]) F (c_X10_behind o ma fi fl tk gv pr py (ks tp) (stN q9 k) j hw hks hst haj) (cwV 3 F.2.2.2.2.1 gX10_goTrail_X10_behind rfl rfl rfl (by decide +kernel) ⟨Nat.le_of_ble_eq_true rfl, Nat.le_of_ble_eq_true rfl⟩) (v_rcvW F 8 0 rfl rfl) rfl rfl (Nat.le_of_ble_eq_true rfl) dX10_goTrail_87 [0, 1, 2, 3, 4] [5, 6, 7] (by decide) rfl rfl (by decide) (by decide) ⟨Nat.zero_le _, Nat.zero_le _⟩ rfl (fun r u q13 => ?_)
                        obtain rfl := q13
                        refine v_ws (wz := [(ma 7, aI G 5 ks), (ma 28, aI G 64 w), (ma 29, aI G 64 f2), (o, mO ma fi fl), (ma 2, aI G 4 tk), (ma 3, aI G 4 gv), (ma 4, aI G 4 pr), (ma 5, aI G 4 py)]) rfl ?_
                        cases hb15 : mB (ks tp) tk gv pr py (stN q9 k) j with
                        | none =>
                          refine v_top (oM_none rfl) ?_
                          refine v_goto (tgt := 94) F dX10_goTrail_90 (by decide) ?_
                          refine v_istore (pc' := 96) (lv' := [(6, .int (-1)), (5, .int (nI j)), (4, .int (nI (stN q9 k))), (3, .int (nI k)), (0, .ref o), (1, .int (nI q9)), (2, .int (nI t9))]) F dX10_goTrail_94 (by decide) rfl rfl ?_
                          refine v_iload (pc' := 98) F dX10_goTrail_96 0 rfl rfl ?_
                          refine v_iconst (pc' := 99) (v := (-1)) F dX10_goTrail_98 (by decide) rfl ?_
                          refine v_icmp_eq (tgt := 138) (pc' := 102) F dX10_goTrail_99 (by decide) rfl (fun c16 => ?_) (fun c16 => ?_)
                          · refine v_iinc (pc' := 141) (v := nI (j + 1)) (lv' := [(5, .int (nI (j + 1))), (6, .int (-1)), (4, .int (nI (stN q9 k))), (3, .int (nI k)), (0, .ref o), (1, .int (nI q9)), (2, .int (nI t9))]) F dX10_goTrail_138 1 rfl (nI_add _ _) (by decide) rfl rfl ?_
                            refine v_goto (tgt := 49) F dX10_goTrail_141 (by decide) ?_
                            refine v_perm (wz := [(o, mO ma fi fl), (ma 2, aI G 4 tk), (ma 3, aI G 4 gv), (ma 4, aI G 4 pr), (ma 5, aI G 4 py), (ma 7, aI G 5 ks), (ma 28, aI G 64 w), (ma 29, aI G 64 f2)]) [3, 4, 5, 6, 7, 0, 1, 2] (by decide) rfl ?_
                            refine v_lpick (lz := [(5, .int (nI (j + 1))), (4, .int (nI (stN q9 k))), (3, .int (nI k)), (0, .ref o), (1, .int (nI q9)), (2, .int (nI t9))]) [0, 2, 3, 4, 5, 6] rfl ?_
                            exact ih49 (j + 1) f2 (by omega) (opM_skip hf2 (opM_none hb15)) (by omega)
                          · exact absurd rfl c16
                        | some k14 =>
                          refine v_top (oM_some rfl) ?_
                          have hk9 := bh_lt (WL_WD (ks tp) hw) hst haj hb15
                          have hpl : k14 % 4 + 4 * (k14 / 2500) < 64 := pl_lt hk9
                          refine v_goto (tgt := 94) F dX10_goTrail_90 (by decide) ?_
                          refine v_istore (pc' := 96) (lv' := [(6, .int (nI k14)), (5, .int (nI j)), (4, .int (nI (stN q9 k))), (3, .int (nI k)), (0, .ref o), (1, .int (nI q9)), (2, .int (nI t9))]) F dX10_goTrail_94 (by decide) rfl rfl ?_
                          refine v_iload (pc' := 98) F dX10_goTrail_96 0 rfl rfl ?_
                          refine v_iconst (pc' := 99) (v := (-1)) F dX10_goTrail_98 (by decide) rfl ?_
                          refine v_icmp_eq (tgt := 138) (pc' := 102) F dX10_goTrail_99 (by decide) rfl (fun c17 => ?_) (fun c17 => ?_)
                          · exact absurd c17 (ni_m1 (by omega))
                          · refine v_iload (pc' := 104) F dX10_goTrail_102 0 rfl rfl ?_
                            refine cSI0 (pc' := 107) (As := [.int (nI k14)]) (rest := []) F (c_X10_purseIn k14 (by omega)) (va_cwS 1 F.2.2.2.2.1 gX10_goTrail_X10_purseIn rfl rfl rfl (by decide +kernel) ⟨Nat.le_of_ble_eq_true rfl, Nat.le_of_ble_eq_true rfl⟩) rfl rfl (Nat.le_of_ble_eq_true rfl) dX10_goTrail_104 ⟨Nat.zero_le _, Nat.zero_le _⟩ rfl (fun r u q18 => ?_)
                            obtain rfl := q18
                            refine v_iload_n (pc' := 108) F dX10_goTrail_107 rfl 6 rfl rfl ?_
                            refine v_ncmp_ne (tgt := 138) (pc' := 111) F dX10_goTrail_108 (by omega) (by omega) (by decide) rfl (fun c19 => ?_) (fun c19 => ?_)
                            · refine v_iinc (pc' := 141) (v := nI (j + 1)) (lv' := [(5, .int (nI (j + 1))), (6, .int (nI k14)), (4, .int (nI (stN q9 k))), (3, .int (nI k)), (0, .ref o), (1, .int (nI q9)), (2, .int (nI t9))]) F dX10_goTrail_138 1 rfl (nI_add _ _) (by decide) rfl rfl ?_
                              refine v_goto (tgt := 49) F dX10_goTrail_141 (by decide) ?_
                              refine v_perm (wz := [(o, mO ma fi fl), (ma 2, aI G 4 tk), (ma 3, aI G 4 gv), (ma 4, aI G 4 pr), (ma 5, aI G 4 py), (ma 7, aI G 5 ks), (ma 28, aI G 64 w), (ma 29, aI G 64 f2)]) [3, 4, 5, 6, 7, 0, 1, 2] (by decide) rfl ?_
                              refine v_lpick (lz := [(5, .int (nI (j + 1))), (4, .int (nI (stN q9 k))), (3, .int (nI k)), (0, .ref o), (1, .int (nI q9)), (2, .int (nI t9))]) [0, 2, 3, 4, 5, 6] rfl ?_
                              exact ih49 (j + 1) f2 (by omega) (opM_not hf2 haj hb15 (by assumption)) (by omega)
                            · refine v_aload_n (pc' := 112) F dX10_goTrail_111 rfl 4 rfl rfl ?_
                              refine v_get (pc' := 115) (v := .ref (ma 29)) (C := RX10) (T := TX10) (N := 38) F dX10_goTrail_112 in_X10_goTrail_X10 3 rfl rfl 29 (by decide) (List.mem_of_getElem? (i := 1) rfl) rfl rfl ?_
                              refine v_iload (pc' := 117) F dX10_goTrail_115 0 rfl rfl ?_
                              refine cSI0 (pc' := 120) (As := [.int (nI k14)]) (rest := [.ref (ma 29)]) F (c_X10_townIn k14 (by omega)) (va_cwS 1 F.2.2.2.2.1 gX10_goTrail_X10_townIn rfl rfl rfl (by decide +kernel) ⟨Nat.le_of_ble_eq_true rfl, Nat.le_of_ble_eq_true rfl⟩) rfl rfl (Nat.le_of_ble_eq_true rfl) dX10_goTrail_117 ⟨Nat.zero_le _, Nat.zero_le _⟩ rfl (fun r u q20 => ?_)
                              obtain rfl := q20
                              refine v_iconst (pc' := 121) (v := nI 4) F dX10_goTrail_120 (by decide) rfl ?_
                              refine v_iload (pc' := 123) F dX10_goTrail_121 0 rfl rfl ?_
                              refine cSI0 (pc' := 126) (As := [.int (nI k14)]) (rest := [.int (nI 4), .int (nI (k14 % 4)), .ref (ma 29)]) F (c_X10_goodsIn k14 (by omega)) (va_cwS 1 F.2.2.2.2.1 gX10_goTrail_X10_goodsIn rfl rfl rfl (by decide +kernel) ⟨Nat.le_of_ble_eq_true rfl, Nat.le_of_ble_eq_true rfl⟩) rfl rfl (Nat.le_of_ble_eq_true rfl) dX10_goTrail_123 ⟨Nat.zero_le _, Nat.zero_le _⟩ rfl (fun r u q21 => ?_)
                              obtain rfl := q21
                              refine v_imul (pc' := 127) (z := nI (4 * (k14 / 2500))) F dX10_goTrail_126 (pk_mul _ _) rfl ?_
                              refine v_iadd (pc' := 128) (z := nI ((k14 % 4) + (4 * (k14 / 2500)))) F dX10_goTrail_127 (nI_add _ _) rfl ?_
                              refine v_dup2 (pc' := 129) F dX10_goTrail_128 rfl rfl rfl ?_
                              refine v_iald (pc' := 130) (z := f2 ((k14 % 4) + (4 * (k14 / 2500)))) F dX10_goTrail_129 2 rfl (by omega) (by first | decide | omega) rfl rfl ?_
                              refine v_aload_n (pc' := 131) F dX10_goTrail_130 rfl 4 rfl rfl ?_
                              refine v_get (pc' := 134) (v := .ref (ma 28)) (C := RX10) (T := TX10) (N := 38) F dX10_goTrail_131 in_X10_goTrail_X10 3 rfl rfl 28 (by decide) (List.mem_of_getElem? (i := 2) rfl) rfl rfl ?_
                              refine v_iload_n (pc' := 135) F dX10_goTrail_134 rfl 3 rfl rfl ?_
                              refine v_iald (pc' := 136) (z := w k) F dX10_goTrail_135 1 rfl (by omega) (by first | decide | omega) rfl rfl ?_
                              refine v_iadd (pc' := 137) (z := nI ((f2 ((k14 % 4) + (4 * (k14 / 2500)))) + (w k))) F dX10_goTrail_136 (nI_add _ _) rfl ?_
                              refine v_iast (pc' := 138) (ws' := [(ma 7, aI G 5 ks), (ma 28, aI G 64 w), (ma 29, aI G 64 (va_up f2 ((k14 % 4) + (4 * (k14 / 2500))) ((f2 ((k14 % 4) + (4 * (k14 / 2500)))) + (w k)))), (o, mO ma fi fl), (ma 2, aI G 4 tk), (ma 3, aI G 4 gv), (ma 4, aI G 4 pr), (ma 5, aI G 4 py)]) F dX10_goTrail_137 2 rfl (by omega) (by first | decide | omega) rfl rfl ?_
                              refine v_iinc (pc' := 141) (v := nI (j + 1)) (lv' := [(5, .int (nI (j + 1))), (6, .int (nI k14)), (4, .int (nI (stN q9 k))), (3, .int (nI k)), (0, .ref o), (1, .int (nI q9)), (2, .int (nI t9))]) F dX10_goTrail_138 1 rfl (nI_add _ _) (by decide) rfl rfl ?_
                              refine v_goto (tgt := 49) F dX10_goTrail_141 (by decide) ?_
                              refine v_perm (wz := [(o, mO ma fi fl), (ma 2, aI G 4 tk), (ma 3, aI G 4 gv), (ma 4, aI G 4 pr), (ma 5, aI G 4 py), (ma 7, aI G 5 ks), (ma 28, aI G 64 w), (ma 29, aI G 64 (va_up f2 ((k14 % 4) + (4 * (k14 / 2500))) ((f2 ((k14 % 4) + (4 * (k14 / 2500)))) + (w k))))]) [3, 4, 5, 6, 7, 0, 1, 2] (by decide) rfl ?_
                              refine v_lpick (lz := [(5, .int (nI (j + 1))), (4, .int (nI (stN q9 k))), (3, .int (nI k)), (0, .ref o), (1, .int (nI q9)), (2, .int (nI t9))]) [0, 2, 3, 4, 5, 6] rfl ?_
                              exact ih49 (j + 1) (va_up f2 ((k14 % 4) + (4 * (k14 / 2500))) ((f2 ((k14 % 4) + (4 * (k14 / 2500)))) + (w k))) (by omega) (opM_add hf2 haj hb15 (by assumption)) (by omega)
              exact L49 (24 + 1) 0 f (by omega) (by rw [hf]; rfl) (by omega)
        exact L23 (64 + 1) 0 zN (by omega) (rfl) (by omega)
      · refine v_aload_n (pc' := 9) F dX10_goTrail_8 rfl 1 rfl rfl ?_
        refine v_get (pc' := 12) (v := .ref (ma 29)) (C := RX10) (T := TX10) (N := 38) F dX10_goTrail_9 in_X10_goTrail_X10 0 rfl rfl 29 (by decide) (List.mem_of_getElem? (i := 1) rfl) rfl rfl ?_
        refine v_iload_n (pc' := 13) F dX10_goTrail_12 rfl 0 rfl rfl ?_
        refine v_iconst (pc' := 14) (v := nI 0) F dX10_goTrail_13 (by decide) rfl ?_
        refine v_iast (pc' := 15) (ws' := [(o, mO ma fi fl), (ma 2, aI G 4 tk), (ma 3, aI G 4 gv), (ma 4, aI G 4 pr), (ma 5, aI G 4 py), (ma 7, aI G 5 ks), (ma 28, aI G 64 w), (ma 29, aI G 64 (va_up (cpy (fun _ => 0) w0 k0) k0 0))]) F dX10_goTrail_14 7 rfl (by omega) (by first | decide | omega) rfl rfl ?_
        refine v_iinc (pc' := 18) (v := nI (k0 + 1)) (lv' := [(3, .int (nI (k0 + 1))), (0, .ref o), (1, .int (nI q9)), (2, .int (nI t9))]) F dX10_goTrail_15 0 rfl (nI_add _ _) (by decide) rfl rfl ?_
        refine v_goto (tgt := 2) F dX10_goTrail_18 (by decide) ?_
        exact ih2 (k0 + 1) (va_up (cpy (fun _ => 0) w0 k0) k0 0) (by omega) (cpy_s (fun _ => 0) w0 k0) (by omega)
  exact L2 (64 + 1) 0 w0 (by omega) (cpy_0 (fun _ => 0) w0) (by omega)
def rm_X10_layTrail : Room := { frames := 4, cells := 0, slots := 0, locals := 96 }
theorem in_X10_layTrail_X10 : ∀ w ∈ u_ws RX10 TX10 38, w ∈ wsX10_layTrail := fun w h => List.mem_cons_of_mem _ (List.mem_append_right _ (h))
set_option maxHeartbeats 4000000 in
set_option maxRecDepth 100000 in
theorem c_X10_layTrail {l : Launch} {D : va_G} {G : gT} (o : Nat) (ma : Nat → Nat) (fi : Nat → Int32) (fl : Nat → Int64) (tk gv pr py ks tw w w0 : Nat → Nat) (tp sf tm : Nat) (htp : fi 11 = nI tp) (hsf : fi 12 = nI sf) (htm : fi 13 = nI tm) (hw : WL tk gv pr py) (htp5 : tp < 5) (hks : ks tp < 5) (hs4 : sf < 40000) (hm5 : tm ≤ 5) (htw : ∀ j, j < 5 → tw j < 625) : CtV (σ := (Nat → Nat)) l yX10_layTrail wsX10_layTrail rm_X10_layTrail D G [.ref o] [(o, mO ma fi fl), (ma 2, aI G 4 tk), (ma 3, aI G 4 gv), (ma 4, aI G 4 pr), (ma 5, aI G 4 py), (ma 7, aI G 5 ks), (ma 14, aI G 5 tw), (ma 28, aI G 64 w), (ma 29, aI G 64 w0)] (fun u => True) (fun u => [(o, mO ma fi fl), (ma 2, aI G 4 tk), (ma 3, aI G 4 gv), (ma 4, aI G 4 pr), (ma 5, aI G 4 py), (ma 7, aI G 5 ks), (ma 14, aI G 5 tw), (ma 28, aI G 64 (wyT (mB (ks tp) tk gv pr py) sf tw tm)), (ma 29, aI G 64 u)]) := by
  refine openV (maxL := 2) (by decide) rfl (Nat.le_of_ble_eq_true rfl) ?_
  intro pgZ evZ sgZ mmZ agsZ blZ meZ cdZ AZ QZ F hmn rt
  refine v_lv (lz := [(0, .ref o)]) rfl ?_
  refine v_iconst (pc' := 1) (v := nI 0) F dX10_layTrail_0 (by decide) rfl ?_
  refine v_istore_n (pc' := 2) (lv' := [(1, .int (nI 0)), (0, .ref o)]) F dX10_layTrail_1 rfl (by decide) rfl rfl ?_
  have L2 : ∀ (fu : Nat) (k : Nat) (f0 : Nat → Nat), (k ≤ 64) → (f0 = cpy (onE (pl sf)) w k) → 64 < k + fu → V pgZ l evZ rm_X10_layTrail sgZ mmZ agsZ blZ meZ cdZ 0 0 QZ D AZ 2 2 [(1, .int (nI k)), (0, .ref o)] [] [(o, mO ma fi fl), (ma 2, aI G 4 tk), (ma 3, aI G 4 gv), (ma 4, aI G 4 pr), (ma 5, aI G 4 py), (ma 7, aI G 5 ks), (ma 14, aI G 5 tw), (ma 28, aI G 64 f0), (ma 29, aI G 64 w0)] := by
    intro fu
    induction fu with
    | zero => intro k f0 hk hf0 hfu; exact absurd hfu (by omega)
    | succ fu ih2 =>
      intro k f0 hk hf0 hfu
      subst hf0
      have hpl : sf % 4 + 4 * (sf / 2500) < 64 := pl_lt hs4
      refine v_iload_n (pc' := 3) F dX10_layTrail_2 rfl 0 rfl rfl ?_
      refine v_bipush (pc' := 5) (v := nI 64) F dX10_layTrail_3 (by decide) rfl ?_
      refine v_ncmp_ge (tgt := 46) (pc' := 8) F dX10_layTrail_5 (by omega) (by omega) (by decide) rfl (fun c2 => ?_) (fun c2 => ?_)
      · refine v_aI (ws' := [(o, mO ma fi fl), (ma 2, aI G 4 tk), (ma 3, aI G 4 gv), (ma 4, aI G 4 pr), (ma 5, aI G 4 py), (ma 7, aI G 5 ks), (ma 14, aI G 5 tw), (ma 28, aI G 64 (wyT (mB (ks tp) tk gv pr py) sf tw 0)), (ma 29, aI G 64 w0)]) 7 rfl (fun j9 h9 => (cpy_f j9 (by omega)).trans (congrFun (onE_up (pl sf)) j9).symm) rfl ?_
        refine v_iconst (pc' := 47) (v := nI 0) F dX10_layTrail_46 (by decide) rfl ?_
        refine v_istore_n (pc' := 48) (lv' := [(1, .int (nI 0)), (0, .ref o)]) F dX10_layTrail_47 rfl (by decide) rfl rfl ?_
        have L48 : ∀ (fu : Nat) (i : Nat) (f1 : Nat → Nat) (f2 : Nat → Nat), (i ≤ tm) → (f1 = wyT (mB (ks tp) tk gv pr py) sf tw i) → tm < i + fu → V pgZ l evZ rm_X10_layTrail sgZ mmZ agsZ blZ meZ cdZ 0 0 QZ D AZ 2 48 [(1, .int (nI i)), (0, .ref o)] [] [(o, mO ma fi fl), (ma 2, aI G 4 tk), (ma 3, aI G 4 gv), (ma 4, aI G 4 pr), (ma 5, aI G 4 py), (ma 7, aI G 5 ks), (ma 14, aI G 5 tw), (ma 28, aI G 64 f1), (ma 29, aI G 64 f2)] := by
          intro fu
          induction fu with
          | zero => intro i f1 f2 hi hf1 hfu; exact absurd hfu (by omega)
          | succ fu ih48 =>
            intro i f1 f2 hi hf1 hfu
            subst hf1
            refine v_iload_n (pc' := 49) F dX10_layTrail_48 rfl 0 rfl rfl ?_
            refine v_aload_n (pc' := 50) F dX10_layTrail_49 rfl 1 rfl rfl ?_
            refine v_get (pc' := 53) (v := .int (nI tm)) (C := RX10) (T := TX10) (N := 38) F dX10_layTrail_50 in_X10_layTrail_X10 0 rfl rfl 13 (by decide) (List.mem_of_getElem? (i := 3) rfl) (congrArg (fun z => some (Value.int z)) htm) rfl ?_
            refine v_ncmp_ge (tgt := 94) (pc' := 56) F dX10_layTrail_53 (by omega) (by omega) (by decide) rfl (fun c4 => ?_) (fun c4 => ?_)
            · refine v_ws (wz := [(o, mO ma fi fl), (ma 2, aI G 4 tk), (ma 3, aI G 4 gv), (ma 4, aI G 4 pr), (ma 5, aI G 4 py), (ma 7, aI G 5 ks), (ma 14, aI G 5 tw), (ma 28, aI G 64 (wyT (mB (ks tp) tk gv pr py) sf tw tm)), (ma 29, aI G 64 f2)]) (by rw [show i = tm by omega]) ?_
              exact rt dX10_layTrail_94 f2 (by trivial) rfl
            · refine v_aload_n (pc' := 57) F dX10_layTrail_56 rfl 1 rfl rfl ?_
              refine v_iload_n (pc' := 58) F dX10_layTrail_57 rfl 0 rfl rfl ?_
              refine v_nif_ne (tgt := 71) (pc' := 61) F dX10_layTrail_58 (by omega) (by decide) rfl (fun c5 => ?_) (fun c5 => ?_)
              · refine v_aload_n (pc' := 72) F dX10_layTrail_71 rfl 1 rfl rfl ?_
                refine v_get (pc' := 75) (v := .ref (ma 14)) (C := RX10) (T := TX10) (N := 38) F dX10_layTrail_72 in_X10_layTrail_X10 0 rfl rfl 14 (by decide) (List.mem_of_getElem? (i := 4) rfl) rfl rfl ?_
                refine v_iload_n (pc' := 76) F dX10_layTrail_75 rfl 0 rfl rfl ?_
                refine v_iconst (pc' := 77) (v := nI 1) F dX10_layTrail_76 (by decide) rfl ?_
                refine v_isub (pc' := 78) (z := nI (i - 1)) F dX10_layTrail_77 (pk_sub (by omega)) rfl ?_
                refine v_iald (pc' := 79) (z := tw (i - 1)) F dX10_layTrail_78 6 rfl (by omega) (by first | decide | omega) rfl rfl ?_
                refine v_top (y := nI (pqN sf tw i)) (by unfold pqN; first | rw [if_pos (by assumption)] | rw [if_neg (by assumption)]) ?_
                have hqq := pqN_lt (n0 := sf) (d := i) htw (by omega)
                have htt := htw i (by omega)
                refine v_aload_n (pc' := 80) F dX10_layTrail_79 rfl 1 rfl rfl ?_
                refine v_get (pc' := 83) (v := .ref (ma 14)) (C := RX10) (T := TX10) (N := 38) F dX10_layTrail_80 in_X10_layTrail_X10 0 rfl rfl 14 (by decide) (List.mem_of_getElem? (i := 4) rfl) rfl rfl ?_
                refine v_iload_n (pc' := 84) F dX10_layTrail_83 rfl 0 rfl rfl ?_
                refine v_iald (pc' := 85) (z := tw i) F dX10_layTrail_84 6 rfl (by omega) (by first | decide | omega) rfl rfl ?_
                refine cVV (pc' := 88) (As := [.int (nI (pqN sf tw i)), .int (nI (tw i))]) (rest := []) (wr := [(ma 14, aI G 5 tw)]) F (c_X10_goTrail o ma fi fl tk gv pr py ks (wyT (mB (ks tp) tk gv pr py) sf tw i) f2 tp (pqN sf tw i) (tw i) htp hw htp5 hks hqq htt (wyT_lt hw hs4 htw (by omega))) (cwV 2 F.2.2.2.2.1 gX10_layTrail_X10_goTrail rfl rfl rfl (by decide +kernel) ⟨Nat.le_of_ble_eq_true rfl, Nat.le_of_ble_eq_true rfl⟩) (v_rcvW F 8 0 rfl rfl) rfl rfl (Nat.le_of_ble_eq_true rfl) dX10_layTrail_85 [0, 1, 2, 3, 4, 5, 7, 8] [6] (by decide) rfl rfl (by decide) (by decide) ⟨Nat.zero_le _, Nat.zero_le _⟩ rfl (fun u q6 => ?_)
                refine v_ws (wz := [(ma 14, aI G 5 tw), (o, mO ma fi fl), (ma 2, aI G 4 tk), (ma 3, aI G 4 gv), (ma 4, aI G 4 pr), (ma 5, aI G 4 py), (ma 7, aI G 5 ks), (ma 28, aI G 64 (wyS (mB (ks tp) tk gv pr py) (pqN sf tw i) (tw i) (wyT (mB (ks tp) tk gv pr py) sf tw i) 64)), (ma 29, aI G 64 (wyS (mB (ks tp) tk gv pr py) (pqN sf tw i) (tw i) (wyT (mB (ks tp) tk gv pr py) sf tw i) 64))]) rfl ?_
                refine v_iinc (pc' := 91) (v := nI (i + 1)) (lv' := [(1, .int (nI (i + 1))), (0, .ref o)]) F dX10_layTrail_88 0 rfl (nI_add _ _) (by decide) rfl rfl ?_
                refine v_goto (tgt := 48) F dX10_layTrail_91 (by decide) ?_
                refine v_perm (wz := [(o, mO ma fi fl), (ma 2, aI G 4 tk), (ma 3, aI G 4 gv), (ma 4, aI G 4 pr), (ma 5, aI G 4 py), (ma 7, aI G 5 ks), (ma 14, aI G 5 tw), (ma 28, aI G 64 (wyS (mB (ks tp) tk gv pr py) (pqN sf tw i) (tw i) (wyT (mB (ks tp) tk gv pr py) sf tw i) 64)), (ma 29, aI G 64 (wyS (mB (ks tp) tk gv pr py) (pqN sf tw i) (tw i) (wyT (mB (ks tp) tk gv pr py) sf tw i) 64))]) [1, 2, 3, 4, 5, 6, 0, 7, 8] (by decide) rfl ?_
                exact ih48 (i + 1) (wyS (mB (ks tp) tk gv pr py) (pqN sf tw i) (tw i) (wyT (mB (ks tp) tk gv pr py) sf tw i) 64) (wyS (mB (ks tp) tk gv pr py) (pqN sf tw i) (tw i) (wyT (mB (ks tp) tk gv pr py) sf tw i) 64) (by omega) (rfl) (by omega)
              · refine v_aload_n (pc' := 62) F dX10_layTrail_61 rfl 1 rfl rfl ?_
                refine v_get (pc' := 65) (v := .int (nI sf)) (C := RX10) (T := TX10) (N := 38) F dX10_layTrail_62 in_X10_layTrail_X10 0 rfl rfl 12 (by decide) (List.mem_of_getElem? (i := 2) rfl) (congrArg (fun z => some (Value.int z)) hsf) rfl ?_
                refine cSI0 (pc' := 68) (As := [.int (nI sf)]) (rest := [.ref o]) F (c_X10_purseIn sf (by omega)) (va_cwS 1 F.2.2.2.2.1 gX10_layTrail_X10_purseIn rfl rfl rfl (by decide +kernel) ⟨Nat.le_of_ble_eq_true rfl, Nat.le_of_ble_eq_true rfl⟩) rfl rfl (Nat.le_of_ble_eq_true rfl) dX10_layTrail_65 ⟨Nat.zero_le _, Nat.zero_le _⟩ rfl (fun r u q7 => ?_)
                obtain rfl := q7
                refine v_goto (tgt := 79) F dX10_layTrail_68 (by decide) ?_
                refine v_top (y := nI (pqN sf tw i)) (by unfold pqN; first | rw [if_pos (by assumption)] | rw [if_neg (by assumption)]) ?_
                have hqq := pqN_lt (n0 := sf) (d := i) htw (by omega)
                have htt := htw i (by omega)
                refine v_aload_n (pc' := 80) F dX10_layTrail_79 rfl 1 rfl rfl ?_
                refine v_get (pc' := 83) (v := .ref (ma 14)) (C := RX10) (T := TX10) (N := 38) F dX10_layTrail_80 in_X10_layTrail_X10 0 rfl rfl 14 (by decide) (List.mem_of_getElem? (i := 4) rfl) rfl rfl ?_
                refine v_iload_n (pc' := 84) F dX10_layTrail_83 rfl 0 rfl rfl ?_
                refine v_iald (pc' := 85) (z := tw i) F dX10_layTrail_84 6 rfl (by omega) (by first | decide | omega) rfl rfl ?_
                refine cVV (pc' := 88) (As := [.int (nI (pqN sf tw i)), .int (nI (tw i))]) (rest := []) (wr := [(ma 14, aI G 5 tw)]) F (c_X10_goTrail o ma fi fl tk gv pr py ks (wyT (mB (ks tp) tk gv pr py) sf tw i) f2 tp (pqN sf tw i) (tw i) htp hw htp5 hks hqq htt (wyT_lt hw hs4 htw (by omega))) (cwV 2 F.2.2.2.2.1 gX10_layTrail_X10_goTrail rfl rfl rfl (by decide +kernel) ⟨Nat.le_of_ble_eq_true rfl, Nat.le_of_ble_eq_true rfl⟩) (v_rcvW F 8 0 rfl rfl) rfl rfl (Nat.le_of_ble_eq_true rfl) dX10_layTrail_85 [0, 1, 2, 3, 4, 5, 7, 8] [6] (by decide) rfl rfl (by decide) (by decide) ⟨Nat.zero_le _, Nat.zero_le _⟩ rfl (fun u q8 => ?_)
                refine v_ws (wz := [(ma 14, aI G 5 tw), (o, mO ma fi fl), (ma 2, aI G 4 tk), (ma 3, aI G 4 gv), (ma 4, aI G 4 pr), (ma 5, aI G 4 py), (ma 7, aI G 5 ks), (ma 28, aI G 64 (wyS (mB (ks tp) tk gv pr py) (pqN sf tw i) (tw i) (wyT (mB (ks tp) tk gv pr py) sf tw i) 64)), (ma 29, aI G 64 (wyS (mB (ks tp) tk gv pr py) (pqN sf tw i) (tw i) (wyT (mB (ks tp) tk gv pr py) sf tw i) 64))]) rfl ?_
                refine v_iinc (pc' := 91) (v := nI (i + 1)) (lv' := [(1, .int (nI (i + 1))), (0, .ref o)]) F dX10_layTrail_88 0 rfl (nI_add _ _) (by decide) rfl rfl ?_
                refine v_goto (tgt := 48) F dX10_layTrail_91 (by decide) ?_
                refine v_perm (wz := [(o, mO ma fi fl), (ma 2, aI G 4 tk), (ma 3, aI G 4 gv), (ma 4, aI G 4 pr), (ma 5, aI G 4 py), (ma 7, aI G 5 ks), (ma 14, aI G 5 tw), (ma 28, aI G 64 (wyS (mB (ks tp) tk gv pr py) (pqN sf tw i) (tw i) (wyT (mB (ks tp) tk gv pr py) sf tw i) 64)), (ma 29, aI G 64 (wyS (mB (ks tp) tk gv pr py) (pqN sf tw i) (tw i) (wyT (mB (ks tp) tk gv pr py) sf tw i) 64))]) [1, 2, 3, 4, 5, 6, 0, 7, 8] (by decide) rfl ?_
                exact ih48 (i + 1) (wyS (mB (ks tp) tk gv pr py) (pqN sf tw i) (tw i) (wyT (mB (ks tp) tk gv pr py) sf tw i) 64) (wyS (mB (ks tp) tk gv pr py) (pqN sf tw i) (tw i) (wyT (mB (ks tp) tk gv pr py) sf tw i) 64) (by omega) (rfl) (by omega)
        exact L48 (tm + 1) 0 (wyT (mB (ks tp) tk gv pr py) sf tw 0) w0 (by omega) (rfl) (by omega)
      · refine v_aload_n (pc' := 9) F dX10_layTrail_8 rfl 1 rfl rfl ?_
        refine v_get (pc' := 12) (v := .ref (ma 28)) (C := RX10) (T := TX10) (N := 38) F dX10_layTrail_9 in_X10_layTrail_X10 0 rfl rfl 28 (by decide) (List.mem_of_getElem? (i := 1) rfl) rfl rfl ?_
        refine v_iload_n (pc' := 13) F dX10_layTrail_12 rfl 0 rfl rfl ?_
        refine v_iload_n (pc' := 14) F dX10_layTrail_13 rfl 0 rfl rfl ?_
        refine v_aload_n (pc' := 15) F dX10_layTrail_14 rfl 1 rfl rfl ?_
        refine v_get (pc' := 18) (v := .int (nI sf)) (C := RX10) (T := TX10) (N := 38) F dX10_layTrail_15 in_X10_layTrail_X10 0 rfl rfl 12 (by decide) (List.mem_of_getElem? (i := 2) rfl) (congrArg (fun z => some (Value.int z)) hsf) rfl ?_
        refine cSI0 (pc' := 21) (As := [.int (nI sf)]) (rest := [.int (nI k), .int (nI k), .ref (ma 28)]) F (c_X10_townIn sf (by omega)) (va_cwS 1 F.2.2.2.2.1 gX10_layTrail_X10_townIn rfl rfl rfl (by decide +kernel) ⟨Nat.le_of_ble_eq_true rfl, Nat.le_of_ble_eq_true rfl⟩) rfl rfl (Nat.le_of_ble_eq_true rfl) dX10_layTrail_18 ⟨Nat.zero_le _, Nat.zero_le _⟩ rfl (fun r u q9 => ?_)
        obtain rfl := q9
        refine v_iconst (pc' := 22) (v := nI 4) F dX10_layTrail_21 (by decide) rfl ?_
        refine v_aload_n (pc' := 23) F dX10_layTrail_22 rfl 1 rfl rfl ?_
        refine v_get (pc' := 26) (v := .int (nI sf)) (C := RX10) (T := TX10) (N := 38) F dX10_layTrail_23 in_X10_layTrail_X10 0 rfl rfl 12 (by decide) (List.mem_of_getElem? (i := 2) rfl) (congrArg (fun z => some (Value.int z)) hsf) rfl ?_
        refine cSI0 (pc' := 29) (As := [.int (nI sf)]) (rest := [.int (nI 4), .int (nI (sf % 4)), .int (nI k), .int (nI k), .ref (ma 28)]) F (c_X10_goodsIn sf (by omega)) (va_cwS 1 F.2.2.2.2.1 gX10_layTrail_X10_goodsIn rfl rfl rfl (by decide +kernel) ⟨Nat.le_of_ble_eq_true rfl, Nat.le_of_ble_eq_true rfl⟩) rfl rfl (Nat.le_of_ble_eq_true rfl) dX10_layTrail_26 ⟨Nat.zero_le _, Nat.zero_le _⟩ rfl (fun r u q10 => ?_)
        obtain rfl := q10
        refine v_imul (pc' := 30) (z := nI (4 * (sf / 2500))) F dX10_layTrail_29 (pk_mul _ _) rfl ?_
        refine v_iadd (pc' := 31) (z := nI ((sf % 4) + (4 * (sf / 2500)))) F dX10_layTrail_30 (nI_add _ _) rfl ?_
        refine v_ncmp_ne (tgt := 38) (pc' := 34) F dX10_layTrail_31 (by omega) (by omega) (by decide) rfl (fun c11 => ?_) (fun c11 => ?_)
        · refine v_iconst (pc' := 39) (v := nI 0) F dX10_layTrail_38 (by decide) rfl ?_
          refine v_iast (pc' := 40) (ws' := [(o, mO ma fi fl), (ma 2, aI G 4 tk), (ma 3, aI G 4 gv), (ma 4, aI G 4 pr), (ma 5, aI G 4 py), (ma 7, aI G 5 ks), (ma 14, aI G 5 tw), (ma 28, aI G 64 (va_up (cpy (onE (pl sf)) w k) k 0)), (ma 29, aI G 64 w0)]) F dX10_layTrail_39 7 rfl (by omega) (by first | decide | omega) rfl rfl ?_
          refine v_iinc (pc' := 43) (v := nI (k + 1)) (lv' := [(1, .int (nI (k + 1))), (0, .ref o)]) F dX10_layTrail_40 0 rfl (nI_add _ _) (by decide) rfl rfl ?_
          refine v_goto (tgt := 2) F dX10_layTrail_43 (by decide) ?_
          exact ih2 (k + 1) (va_up (cpy (onE (pl sf)) w k) k 0) (by omega) (cpy_v (by first | exact onE_y (by assumption) | exact onE_n (by assumption))) (by omega)
        · refine v_iconst (pc' := 35) (v := nI 1) F dX10_layTrail_34 (by decide) rfl ?_
          refine v_goto (tgt := 39) F dX10_layTrail_35 (by decide) ?_
          refine v_iast (pc' := 40) (ws' := [(o, mO ma fi fl), (ma 2, aI G 4 tk), (ma 3, aI G 4 gv), (ma 4, aI G 4 pr), (ma 5, aI G 4 py), (ma 7, aI G 5 ks), (ma 14, aI G 5 tw), (ma 28, aI G 64 (va_up (cpy (onE (pl sf)) w k) k 1)), (ma 29, aI G 64 w0)]) F dX10_layTrail_39 7 rfl (by omega) (by first | decide | omega) rfl rfl ?_
          refine v_iinc (pc' := 43) (v := nI (k + 1)) (lv' := [(1, .int (nI (k + 1))), (0, .ref o)]) F dX10_layTrail_40 0 rfl (nI_add _ _) (by decide) rfl rfl ?_
          refine v_goto (tgt := 2) F dX10_layTrail_43 (by decide) ?_
          exact ih2 (k + 1) (va_up (cpy (onE (pl sf)) w k) k 1) (by omega) (cpy_v (by first | exact onE_y (by assumption) | exact onE_n (by assumption))) (by omega)
  exact L2 (64 + 1) 0 w (by omega) (cpy_0 (onE (pl sf)) w) (by omega)
def rm_X10_waysNow : Room := { frames := 5, cells := 0, slots := 0, locals := 117 }
theorem in_X10_waysNow_X10 : ∀ w ∈ u_ws RX10 TX10 38, w ∈ wsX10_waysNow := fun w h => List.mem_cons_of_mem _ (List.mem_append_right _ (h))
set_option maxHeartbeats 4000000 in
set_option maxRecDepth 100000 in
theorem c_X10_waysNow {l : Launch} {D : va_G} {G : gT} (o : Nat) (ma : Nat → Nat) (fi : Nat → Int32) (fl : Nat → Int64) (tk gv pr py ks tw w w0 : Nat → Nat) (tp sf tm : Nat) (htp : fi 11 = nI tp) (hsf : fi 12 = nI sf) (htm : fi 13 = nI tm) (hw : WL tk gv pr py) (htp5 : tp < 5) (hks : ks tp < 5) (hs4 : sf < 40000) (hm5 : tm ≤ 5) (htw : ∀ j, j < 5 → tw j < 625) : CtI (σ := (Nat → Nat)) l yX10_waysNow wsX10_waysNow rm_X10_waysNow D G [.ref o] [(o, mO ma fi fl), (ma 2, aI G 4 tk), (ma 3, aI G 4 gv), (ma 4, aI G 4 pr), (ma 5, aI G 4 py), (ma 7, aI G 5 ks), (ma 14, aI G 5 tw), (ma 28, aI G 64 w), (ma 29, aI G 64 w0)] (fun r u => r = nI (tot (wyT (mB (ks tp) tk gv pr py) sf tw tm) 64)) (fun u => [(o, mO ma fi fl), (ma 2, aI G 4 tk), (ma 3, aI G 4 gv), (ma 4, aI G 4 pr), (ma 5, aI G 4 py), (ma 7, aI G 5 ks), (ma 14, aI G 5 tw), (ma 28, aI G 64 (wyT (mB (ks tp) tk gv pr py) sf tw tm)), (ma 29, aI G 64 u)]) := by
  refine openI (maxL := 3) (by decide) rfl (Nat.le_of_ble_eq_true rfl) ?_
  intro pgZ evZ sgZ mmZ agsZ blZ meZ cdZ AZ QZ F hmn rt
  refine v_lv (lz := [(0, .ref o)]) rfl ?_
  refine v_aload_n (pc' := 1) F dX10_waysNow_0 rfl 0 rfl rfl ?_
  refine cVV (pc' := 4) (As := []) (rest := []) (wr := []) F (c_X10_layTrail o ma fi fl tk gv pr py ks tw w w0 tp sf tm htp hsf htm hw htp5 hks hs4 hm5 htw) (cwV 0 F.2.2.2.2.1 gX10_waysNow_X10_layTrail rfl rfl rfl (by decide +kernel) ⟨Nat.le_of_ble_eq_true rfl, Nat.le_of_ble_eq_true rfl⟩) (v_rcvW F 8 0 rfl rfl) rfl rfl (Nat.le_of_ble_eq_true rfl) dX10_waysNow_1 [0, 1, 2, 3, 4, 5, 6, 7, 8] [] (by decide) rfl rfl (by decide) (by decide) ⟨Nat.zero_le _, Nat.zero_le _⟩ rfl (fun u q2 => ?_)
  obtain ⟨w2_1, hu9⟩ : ∃ z, z = u := ⟨_, rfl⟩
  subst hu9
  refine v_ws (wz := [(o, mO ma fi fl), (ma 2, aI G 4 tk), (ma 3, aI G 4 gv), (ma 4, aI G 4 pr), (ma 5, aI G 4 py), (ma 7, aI G 5 ks), (ma 14, aI G 5 tw), (ma 28, aI G 64 (wyT (mB (ks tp) tk gv pr py) sf tw tm)), (ma 29, aI G 64 w2_1)]) rfl ?_
  refine v_iconst (pc' := 5) (v := nI 0) F dX10_waysNow_4 (by decide) rfl ?_
  refine v_istore_n (pc' := 6) (lv' := [(1, .int (nI 0)), (0, .ref o)]) F dX10_waysNow_5 rfl (by decide) rfl rfl ?_
  refine v_iconst (pc' := 7) (v := nI 0) F dX10_waysNow_6 (by decide) rfl ?_
  refine v_istore_n (pc' := 8) (lv' := [(2, .int (nI 0)), (1, .int (nI 0)), (0, .ref o)]) F dX10_waysNow_7 rfl (by decide) rfl rfl ?_
  have L8 : ∀ (fu : Nat) (j : Nat) (ct : Nat), (j ≤ 64) → (ct = tot (wyT (mB (ks tp) tk gv pr py) sf tw tm) j) → 64 < j + fu → V pgZ l evZ rm_X10_waysNow sgZ mmZ agsZ blZ meZ cdZ 0 0 QZ D AZ 3 8 [(2, .int (nI j)), (1, .int (nI ct)), (0, .ref o)] [] [(o, mO ma fi fl), (ma 2, aI G 4 tk), (ma 3, aI G 4 gv), (ma 4, aI G 4 pr), (ma 5, aI G 4 py), (ma 7, aI G 5 ks), (ma 14, aI G 5 tw), (ma 28, aI G 64 (wyT (mB (ks tp) tk gv pr py) sf tw tm)), (ma 29, aI G 64 w2_1)] := by
    intro fu
    induction fu with
    | zero => intro j ct hj hct hfu; exact absurd hfu (by omega)
    | succ fu ih8 =>
      intro j ct hj hct hfu
      refine v_iload_n (pc' := 9) F dX10_waysNow_8 rfl 0 rfl rfl ?_
      refine v_bipush (pc' := 11) (v := nI 64) F dX10_waysNow_9 (by decide) rfl ?_
      refine v_ncmp_ge (tgt := 29) (pc' := 14) F dX10_waysNow_11 (by omega) (by omega) (by decide) rfl (fun c4 => ?_) (fun c4 => ?_)
      · refine v_iload_n (pc' := 30) F dX10_waysNow_29 rfl 1 rfl rfl ?_
        exact rt dX10_waysNow_30 w2_1 (by rw [hct, show j = 64 by omega]) rfl
      · refine v_iload_n (pc' := 15) F dX10_waysNow_14 rfl 1 rfl rfl ?_
        refine v_aload_n (pc' := 16) F dX10_waysNow_15 rfl 2 rfl rfl ?_
        refine v_get (pc' := 19) (v := .ref (ma 28)) (C := RX10) (T := TX10) (N := 38) F dX10_waysNow_16 in_X10_waysNow_X10 0 rfl rfl 28 (by decide) (List.mem_of_getElem? (i := 1) rfl) rfl rfl ?_
        refine v_iload_n (pc' := 20) F dX10_waysNow_19 rfl 0 rfl rfl ?_
        refine v_iald (pc' := 21) (z := (wyT (mB (ks tp) tk gv pr py) sf tw tm) j) F dX10_waysNow_20 7 rfl (by omega) (by first | decide | omega) rfl rfl ?_
        refine v_iadd (pc' := 22) (z := nI (ct + ((wyT (mB (ks tp) tk gv pr py) sf tw tm) j))) F dX10_waysNow_21 (nI_add _ _) rfl ?_
        refine v_istore_n (pc' := 23) (lv' := [(1, .int (nI (ct + ((wyT (mB (ks tp) tk gv pr py) sf tw tm) j)))), (2, .int (nI j)), (0, .ref o)]) F dX10_waysNow_22 rfl (by decide) rfl rfl ?_
        refine v_iinc (pc' := 26) (v := nI (j + 1)) (lv' := [(2, .int (nI (j + 1))), (1, .int (nI (ct + ((wyT (mB (ks tp) tk gv pr py) sf tw tm) j)))), (0, .ref o)]) F dX10_waysNow_23 1 rfl (nI_add _ _) (by decide) rfl rfl ?_
        refine v_goto (tgt := 8) F dX10_waysNow_26 (by decide) ?_
        exact ih8 (j + 1) (ct + ((wyT (mB (ks tp) tk gv pr py) sf tw tm) j)) (by omega) (by rw [hct]; rfl) (by omega)
  exact L8 (64 + 1) 0 0 (by omega) (rfl) (by omega)
def rm_X10_endsNow : Room := { frames := 5, cells := 0, slots := 0, locals := 117 }
theorem in_X10_endsNow_X10 : ∀ w ∈ u_ws RX10 TX10 38, w ∈ wsX10_endsNow := fun w h => List.mem_cons_of_mem _ (List.mem_append_right _ (h))
set_option maxHeartbeats 4000000 in
set_option maxRecDepth 100000 in
theorem c_X10_endsNow {l : Launch} {D : va_G} {G : gT} (o : Nat) (ma : Nat → Nat) (fi : Nat → Int32) (fl : Nat → Int64) (tk gv pr py ks tw w w0 : Nat → Nat) (tp sf tm : Nat) (htp : fi 11 = nI tp) (hsf : fi 12 = nI sf) (htm : fi 13 = nI tm) (hw : WL tk gv pr py) (htp5 : tp < 5) (hks : ks tp < 5) (hs4 : sf < 40000) (hm5 : tm ≤ 5) (htw : ∀ j, j < 5 → tw j < 625) : CtI (σ := (Nat → Nat)) l yX10_endsNow wsX10_endsNow rm_X10_endsNow D G [.ref o] [(o, mO ma fi fl), (ma 2, aI G 4 tk), (ma 3, aI G 4 gv), (ma 4, aI G 4 pr), (ma 5, aI G 4 py), (ma 7, aI G 5 ks), (ma 14, aI G 5 tw), (ma 28, aI G 64 w), (ma 29, aI G 64 w0)] (fun r u => r = nI (twB (wyT (mB (ks tp) tk gv pr py) sf tw tm) 64)) (fun u => [(o, mO ma fi fl), (ma 2, aI G 4 tk), (ma 3, aI G 4 gv), (ma 4, aI G 4 pr), (ma 5, aI G 4 py), (ma 7, aI G 5 ks), (ma 14, aI G 5 tw), (ma 28, aI G 64 (wyT (mB (ks tp) tk gv pr py) sf tw tm)), (ma 29, aI G 64 u)]) := by
  refine openI (maxL := 3) (by decide) rfl (Nat.le_of_ble_eq_true rfl) ?_
  intro pgZ evZ sgZ mmZ agsZ blZ meZ cdZ AZ QZ F hmn rt
  refine v_lv (lz := [(0, .ref o)]) rfl ?_
  refine v_aload_n (pc' := 1) F dX10_endsNow_0 rfl 0 rfl rfl ?_
  refine cVV (pc' := 4) (As := []) (rest := []) (wr := []) F (c_X10_layTrail o ma fi fl tk gv pr py ks tw w w0 tp sf tm htp hsf htm hw htp5 hks hs4 hm5 htw) (cwV 0 F.2.2.2.2.1 gX10_endsNow_X10_layTrail rfl rfl rfl (by decide +kernel) ⟨Nat.le_of_ble_eq_true rfl, Nat.le_of_ble_eq_true rfl⟩) (v_rcvW F 8 0 rfl rfl) rfl rfl (Nat.le_of_ble_eq_true rfl) dX10_endsNow_1 [0, 1, 2, 3, 4, 5, 6, 7, 8] [] (by decide) rfl rfl (by decide) (by decide) ⟨Nat.zero_le _, Nat.zero_le _⟩ rfl (fun u q2 => ?_)
  obtain ⟨w2_1, hu9⟩ : ∃ z, z = u := ⟨_, rfl⟩
  subst hu9
  refine v_ws (wz := [(o, mO ma fi fl), (ma 2, aI G 4 tk), (ma 3, aI G 4 gv), (ma 4, aI G 4 pr), (ma 5, aI G 4 py), (ma 7, aI G 5 ks), (ma 14, aI G 5 tw), (ma 28, aI G 64 (wyT (mB (ks tp) tk gv pr py) sf tw tm)), (ma 29, aI G 64 w2_1)]) rfl ?_
  refine v_iconst (pc' := 5) (v := nI 0) F dX10_endsNow_4 (by decide) rfl ?_
  refine v_istore_n (pc' := 6) (lv' := [(1, .int (nI 0)), (0, .ref o)]) F dX10_endsNow_5 rfl (by decide) rfl rfl ?_
  refine v_iconst (pc' := 7) (v := nI 0) F dX10_endsNow_6 (by decide) rfl ?_
  refine v_istore_n (pc' := 8) (lv' := [(2, .int (nI 0)), (1, .int (nI 0)), (0, .ref o)]) F dX10_endsNow_7 rfl (by decide) rfl rfl ?_
  have L8 : ∀ (fu : Nat) (j : Nat) (ct : Nat), (j ≤ 64) → (ct = twB (wyT (mB (ks tp) tk gv pr py) sf tw tm) j) → 64 < j + fu → V pgZ l evZ rm_X10_endsNow sgZ mmZ agsZ blZ meZ cdZ 0 0 QZ D AZ 3 8 [(2, .int (nI j)), (1, .int (nI ct)), (0, .ref o)] [] [(o, mO ma fi fl), (ma 2, aI G 4 tk), (ma 3, aI G 4 gv), (ma 4, aI G 4 pr), (ma 5, aI G 4 py), (ma 7, aI G 5 ks), (ma 14, aI G 5 tw), (ma 28, aI G 64 (wyT (mB (ks tp) tk gv pr py) sf tw tm)), (ma 29, aI G 64 w2_1)] := by
    intro fu
    induction fu with
    | zero => intro j ct hj hct hfu; exact absurd hfu (by omega)
    | succ fu ih8 =>
      intro j ct hj hct hfu
      have h7 := wyT_lt (k := ks tp) hw hs4 htw hm5 j
      have h6 := pw_le8 (show j % 4 < 4 from Nat.mod_lt _ (by decide))
      refine v_iload_n (pc' := 9) F dX10_endsNow_8 rfl 0 rfl rfl ?_
      refine v_bipush (pc' := 11) (v := nI 64) F dX10_endsNow_9 (by decide) rfl ?_
      refine v_ncmp_ge (tgt := 41) (pc' := 14) F dX10_endsNow_11 (by omega) (by omega) (by decide) rfl (fun c4 => ?_) (fun c4 => ?_)
      · refine v_iload_n (pc' := 42) F dX10_endsNow_41 rfl 1 rfl rfl ?_
        exact rt dX10_endsNow_42 w2_1 (by rw [hct, show j = 64 by omega]) rfl
      · have h5 := h7 (by omega)
        refine v_iload_n (pc' := 15) F dX10_endsNow_14 rfl 1 rfl rfl ?_
        refine v_aload_n (pc' := 16) F dX10_endsNow_15 rfl 2 rfl rfl ?_
        refine v_get (pc' := 19) (v := .ref (ma 28)) (C := RX10) (T := TX10) (N := 38) F dX10_endsNow_16 in_X10_endsNow_X10 0 rfl rfl 28 (by decide) (List.mem_of_getElem? (i := 1) rfl) rfl rfl ?_
        refine v_iload_n (pc' := 20) F dX10_endsNow_19 rfl 0 rfl rfl ?_
        refine v_iald (pc' := 21) (z := (wyT (mB (ks tp) tk gv pr py) sf tw tm) j) F dX10_endsNow_20 7 rfl (by omega) (by first | decide | omega) rfl rfl ?_
        refine v_nif_le (tgt := 32) (pc' := 24) F dX10_endsNow_21 (by omega) (by decide) rfl (fun c5 => ?_) (fun c5 => ?_)
        · refine v_iconst (pc' := 33) (v := nI 0) F dX10_endsNow_32 (by decide) rfl ?_
          refine v_ior (pc' := 34) (z := nI (ct ||| 0)) F dX10_endsNow_33 (ni_or _ _) rfl ?_
          refine v_istore_n (pc' := 35) (lv' := [(1, .int (nI (ct ||| 0))), (2, .int (nI j)), (0, .ref o)]) F dX10_endsNow_34 rfl (by decide) rfl rfl ?_
          refine v_iinc (pc' := 38) (v := nI (j + 1)) (lv' := [(2, .int (nI (j + 1))), (1, .int (nI (ct ||| 0))), (0, .ref o)]) F dX10_endsNow_35 1 rfl (nI_add _ _) (by decide) rfl rfl ?_
          refine v_goto (tgt := 8) F dX10_endsNow_38 (by decide) ?_
          exact ih8 (j + 1) (ct ||| 0) (by omega) (by first | (rw [hct, Nat.or_zero]; exact (twB_0 (by omega)).symm) | (rw [hct]; exact (twB_1 (by omega)).symm)) (by omega)
        · refine v_iconst (pc' := 25) (v := nI 1) F dX10_endsNow_24 (by decide) rfl ?_
          refine v_iload_n (pc' := 26) F dX10_endsNow_25 rfl 0 rfl rfl ?_
          refine v_iconst (pc' := 27) (v := nI 4) F dX10_endsNow_26 (by decide) rfl ?_
          refine v_irem (pc' := 28) (z := nI (j % 4)) F dX10_endsNow_27 (nI_ne0 (by omega) (by omega)) (pk_rem (by omega) (by omega) (by omega)) rfl ?_
          refine v_ishl (pc' := 29) (z := nI (1 * 2 ^ (j % 4))) F dX10_endsNow_28 (ni_shl (by omega) (by omega)) rfl ?_
          refine v_goto (tgt := 33) F dX10_endsNow_29 (by decide) ?_
          refine v_ior (pc' := 34) (z := nI (ct ||| (1 * 2 ^ (j % 4)))) F dX10_endsNow_33 (ni_or _ _) rfl ?_
          refine v_istore_n (pc' := 35) (lv' := [(1, .int (nI (ct ||| (1 * 2 ^ (j % 4))))), (2, .int (nI j)), (0, .ref o)]) F dX10_endsNow_34 rfl (by decide) rfl rfl ?_
          refine v_iinc (pc' := 38) (v := nI (j + 1)) (lv' := [(2, .int (nI (j + 1))), (1, .int (nI (ct ||| (1 * 2 ^ (j % 4))))), (0, .ref o)]) F dX10_endsNow_35 1 rfl (nI_add _ _) (by decide) rfl rfl ?_
          refine v_goto (tgt := 8) F dX10_endsNow_38 (by decide) ?_
          exact ih8 (j + 1) (ct ||| (1 * 2 ^ (j % 4))) (by omega) (by first | (rw [hct, Nat.or_zero]; exact (twB_0 (by omega)).symm) | (rw [hct]; exact (twB_1 (by omega)).symm)) (by omega)
  exact L8 (64 + 1) 0 0 (by omega) (rfl) (by omega)
def rm_X10_ways : Room := { frames := 6, cells := 0, slots := 0, locals := 139 }
theorem in_X10_ways_X10 : ∀ w ∈ u_ws RX10 TX10 38, w ∈ wsX10_ways := fun w h => List.mem_cons_of_mem _ (List.mem_append_right _ (h))
set_option maxHeartbeats 4000000 in
set_option maxRecDepth 100000 in
theorem c_X10_ways {l : Launch} {D : va_G} {G : gT} (o : Nat) (ma : Nat → Nat) (fi : Nat → Int32) (fl : Nat → Int64) (tk gv pr py ks tw w w0 : Nat → Nat) (tp sf tm : Nat) (tg : Nat) (htr : fi 11 = trI tg tp) (hsf : fi 12 = nI sf) (htm : fi 13 = nI tm) (htp5 : tp < 5) (hks : ∀ j, j < 5 → ks j < 5) (hl : ¬ tg = 0 → WL tk gv pr py) (hs4 : sf < 40000) (hm5 : tm ≤ 5) (htw : ∀ j, j < 5 → tw j < 625) : CtI (σ := (Nat → Nat) × (Nat → Nat)) l yX10_ways wsX10_ways rm_X10_ways D G [.ref o] [(o, mO ma fi fl), (ma 2, aI G 4 tk), (ma 3, aI G 4 gv), (ma 4, aI G 4 pr), (ma 5, aI G 4 py), (ma 7, aI G 5 ks), (ma 14, aI G 5 tw), (ma 28, aI G 64 w), (ma 29, aI G 64 w0)] (fun r u => r = A_ways tg (wyT (mB (ks tp) tk gv pr py) sf tw tm)) (fun u => [(o, mO ma fi fl), (ma 2, aI G 4 tk), (ma 3, aI G 4 gv), (ma 4, aI G 4 pr), (ma 5, aI G 4 py), (ma 7, aI G 5 ks), (ma 14, aI G 5 tw), (ma 28, aI G 64 (u.1)), (ma 29, aI G 64 (u.2))]) := by
  refine openI (maxL := 1) (by decide) rfl (Nat.le_of_ble_eq_true rfl) ?_
  intro pgZ evZ sgZ mmZ agsZ blZ meZ cdZ AZ QZ F hmn rt
  refine v_lv (lz := [(0, .ref o)]) rfl ?_
  refine v_aload_n (pc' := 1) F dX10_ways_0 rfl 0 rfl rfl ?_
  refine v_get (pc' := 4) (v := .int (trI tg tp)) (C := RX10) (T := TX10) (N := 38) F dX10_ways_1 in_X10_ways_X10 0 rfl rfl 11 (by decide) (List.mem_of_getElem? (i := 1) rfl) (congrArg (fun z => some (Value.int z)) htr) rfl ?_
  refine v_iconst (pc' := 5) (v := (-1)) F dX10_ways_4 (by decide) rfl ?_
  refine v_icmp_ne (tgt := 13) (pc' := 8) F dX10_ways_5 (by decide) rfl (fun c1 => ?_) (fun c1 => ?_)
  · have htg1 := trI_yes c1
    have hl9 := hl htg1
    have hk9 := hks tp htp5
    have htp9 : fi 11 = nI tp := by rw [htr]; exact if_neg htg1
    refine v_aload_n (pc' := 14) F dX10_ways_13 rfl 0 rfl rfl ?_
    refine cVI (pc' := 17) (As := []) (rest := []) (wr := []) F (c_X10_waysNow o ma fi fl tk gv pr py ks tw w w0 tp sf tm htp9 hsf htm hl9 htp5 hk9 hs4 hm5 htw) (cwV 0 F.2.2.2.2.1 gX10_ways_X10_waysNow rfl rfl rfl (by decide +kernel) ⟨Nat.le_of_ble_eq_true rfl, Nat.le_of_ble_eq_true rfl⟩) (v_rcvW F 8 0 rfl rfl) rfl rfl (Nat.le_of_ble_eq_true rfl) dX10_ways_14 [0, 1, 2, 3, 4, 5, 6, 7, 8] [] (by decide) rfl rfl (by decide) (by decide) ⟨Nat.zero_le _, Nat.zero_le _⟩ rfl (fun r u q3 => ?_)
    obtain ⟨w2_2, hu9⟩ : ∃ z, z = u := ⟨_, rfl⟩
    subst hu9
    obtain rfl := q3
    refine v_ws (wz := [(o, mO ma fi fl), (ma 2, aI G 4 tk), (ma 3, aI G 4 gv), (ma 4, aI G 4 pr), (ma 5, aI G 4 py), (ma 7, aI G 5 ks), (ma 14, aI G 5 tw), (ma 28, aI G 64 (wyT (mB (ks tp) tk gv pr py) sf tw tm)), (ma 29, aI G 64 w2_2)]) rfl ?_
    exact rt dX10_ways_17 (wyT (mB (ks tp) tk gv pr py) sf tw tm, w2_2) (by unfold A_ways; rw [if_neg htg1]) rfl
  · have htg0 := trI_no c1 htp5
    refine v_bipush (pc' := 10) (v := (-103)) F dX10_ways_8 (by decide) rfl ?_
    refine v_goto (tgt := 17) F dX10_ways_10 (by decide) ?_
    exact rt dX10_ways_17 (w, w0) (by unfold A_ways; rw [if_pos htg0]) rfl
def rm_X10_ends : Room := { frames := 6, cells := 0, slots := 0, locals := 139 }
theorem in_X10_ends_X10 : ∀ w ∈ u_ws RX10 TX10 38, w ∈ wsX10_ends := fun w h => List.mem_cons_of_mem _ (List.mem_append_right _ (h))
set_option maxHeartbeats 4000000 in
set_option maxRecDepth 100000 in
theorem c_X10_ends {l : Launch} {D : va_G} {G : gT} (o : Nat) (ma : Nat → Nat) (fi : Nat → Int32) (fl : Nat → Int64) (tk gv pr py ks tw w w0 : Nat → Nat) (tp sf tm : Nat) (tg : Nat) (htr : fi 11 = trI tg tp) (hsf : fi 12 = nI sf) (htm : fi 13 = nI tm) (htp5 : tp < 5) (hks : ∀ j, j < 5 → ks j < 5) (hl : ¬ tg = 0 → WL tk gv pr py) (hs4 : sf < 40000) (hm5 : tm ≤ 5) (htw : ∀ j, j < 5 → tw j < 625) : CtI (σ := (Nat → Nat) × (Nat → Nat)) l yX10_ends wsX10_ends rm_X10_ends D G [.ref o] [(o, mO ma fi fl), (ma 2, aI G 4 tk), (ma 3, aI G 4 gv), (ma 4, aI G 4 pr), (ma 5, aI G 4 py), (ma 7, aI G 5 ks), (ma 14, aI G 5 tw), (ma 28, aI G 64 w), (ma 29, aI G 64 w0)] (fun r u => r = A_ends tg (wyT (mB (ks tp) tk gv pr py) sf tw tm)) (fun u => [(o, mO ma fi fl), (ma 2, aI G 4 tk), (ma 3, aI G 4 gv), (ma 4, aI G 4 pr), (ma 5, aI G 4 py), (ma 7, aI G 5 ks), (ma 14, aI G 5 tw), (ma 28, aI G 64 (u.1)), (ma 29, aI G 64 (u.2))]) := by
  refine openI (maxL := 1) (by decide) rfl (Nat.le_of_ble_eq_true rfl) ?_
  intro pgZ evZ sgZ mmZ agsZ blZ meZ cdZ AZ QZ F hmn rt
  refine v_lv (lz := [(0, .ref o)]) rfl ?_
  refine v_aload_n (pc' := 1) F dX10_ends_0 rfl 0 rfl rfl ?_
  refine v_get (pc' := 4) (v := .int (trI tg tp)) (C := RX10) (T := TX10) (N := 38) F dX10_ends_1 in_X10_ends_X10 0 rfl rfl 11 (by decide) (List.mem_of_getElem? (i := 1) rfl) (congrArg (fun z => some (Value.int z)) htr) rfl ?_
  refine v_iconst (pc' := 5) (v := (-1)) F dX10_ends_4 (by decide) rfl ?_
  refine v_icmp_ne (tgt := 13) (pc' := 8) F dX10_ends_5 (by decide) rfl (fun c1 => ?_) (fun c1 => ?_)
  · have htg1 := trI_yes c1
    have hl9 := hl htg1
    have hk9 := hks tp htp5
    have htp9 : fi 11 = nI tp := by rw [htr]; exact if_neg htg1
    refine v_aload_n (pc' := 14) F dX10_ends_13 rfl 0 rfl rfl ?_
    refine cVI (pc' := 17) (As := []) (rest := []) (wr := []) F (c_X10_endsNow o ma fi fl tk gv pr py ks tw w w0 tp sf tm htp9 hsf htm hl9 htp5 hk9 hs4 hm5 htw) (cwV 0 F.2.2.2.2.1 gX10_ends_X10_endsNow rfl rfl rfl (by decide +kernel) ⟨Nat.le_of_ble_eq_true rfl, Nat.le_of_ble_eq_true rfl⟩) (v_rcvW F 8 0 rfl rfl) rfl rfl (Nat.le_of_ble_eq_true rfl) dX10_ends_14 [0, 1, 2, 3, 4, 5, 6, 7, 8] [] (by decide) rfl rfl (by decide) (by decide) ⟨Nat.zero_le _, Nat.zero_le _⟩ rfl (fun r u q3 => ?_)
    obtain ⟨w2_2, hu9⟩ : ∃ z, z = u := ⟨_, rfl⟩
    subst hu9
    obtain rfl := q3
    refine v_ws (wz := [(o, mO ma fi fl), (ma 2, aI G 4 tk), (ma 3, aI G 4 gv), (ma 4, aI G 4 pr), (ma 5, aI G 4 py), (ma 7, aI G 5 ks), (ma 14, aI G 5 tw), (ma 28, aI G 64 (wyT (mB (ks tp) tk gv pr py) sf tw tm)), (ma 29, aI G 64 w2_2)]) rfl ?_
    exact rt dX10_ends_17 (wyT (mB (ks tp) tk gv pr py) sf tw tm, w2_2) (by unfold A_ends; rw [if_neg htg1]) rfl
  · have htg0 := trI_no c1 htp5
    refine v_bipush (pc' := 10) (v := (-103)) F dX10_ends_8 (by decide) rfl ?_
    refine v_goto (tgt := 17) F dX10_ends_10 (by decide) ?_
    exact rt dX10_ends_17 (w, w0) (by unfold A_ends; rw [if_pos htg0]) rfl
