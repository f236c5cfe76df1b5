def rm_X10_mix : Room := { frames := 0, cells := 0, slots := 0, locals := 0 }
theorem in_X10_mix_X10 : ∀ w ∈ u_ws RX10 TX10 38, w ∈ wsX10_mix := fun w h => List.mem_cons_of_mem _ (List.mem_append_right _ (h))
set_option maxHeartbeats 4000000 in
set_option maxRecDepth 100000 in
theorem c_X10_mix {l : Launch} {D : va_G} {G : gT} (o : Nat) (ma : Nat → Nat) (fi : Nat → Int32) (fl : Nat → Int64) (h v : Int64) (hh : fl 37 = h) : CtV (σ := Unit) l yX10_mix wsX10_mix rm_X10_mix D G [.ref o, .long v] [(o, mO ma fi fl)] (fun _ => True) (fun _ => [(o, mO ma fi (va_up fl 37 (mx h v)))]) := by
  refine openV (maxL := 3) (by decide) rfl (Nat.le_of_ble_eq_true rfl) ?_
  intro pgZ evZ sgZ mmZ agsZ blZ meZ cdZ AZ QZ F hmn rt
  refine v_lv (lz := [(0, .ref o), (1, .long v)]) rfl ?_
  refine v_aload_n (pc' := 1) F dX10_mix_0 rfl 0 rfl rfl ?_
  refine v_ldc2 (pc' := 4) (v := lN 31) F dX10_mix_1 (List.mem_of_getElem? (i := 1) rfl) rfl ?_
  refine v_aload_n (pc' := 5) F dX10_mix_4 rfl 0 rfl rfl ?_
  refine v_get (pc' := 8) (v := .long h) (C := RX10) (T := TX10) (N := 38) F dX10_mix_5 in_X10_mix_X10 0 rfl rfl 37 (by decide) (List.mem_of_getElem? (i := 2) rfl) (congrArg (fun z => some (Value.long z)) hh) rfl ?_
  refine v_lmul (pc' := 9) (z := lN 31 * h) F dX10_mix_8 rfl rfl ?_
  refine v_lload_n (pc' := 10) F dX10_mix_9 rfl 1 rfl rfl ?_
  refine v_ladd (pc' := 11) (z := mx h v) F dX10_mix_10 rfl rfl ?_
  refine v_put (pc' := 14) (ws' := [(o, mO ma fi (va_up fl 37 (mx h v)))]) (C := RX10) (T := TX10) (N := 38) F dX10_mix_11 in_X10_mix_X10 tyX10_ok nmX10 0 rfl rfl 37 (by decide) (List.mem_of_getElem? (i := 2) rfl) rfl rfl rfl (Nat.le_of_ble_eq_true rfl) rfl rfl ?_
  exact rt dX10_mix_14 () (by trivial) rfl
def rm_X10_mixPerson : Room := { frames := 4, cells := 0, slots := 0, locals := 94 }
theorem in_X10_mixPerson_X10 : ∀ w ∈ u_ws RX10 TX10 38, w ∈ wsX10_mixPerson := fun w h => List.mem_cons_of_mem _ (List.mem_append_right _ (h))
set_option maxHeartbeats 4000000 in
set_option maxRecDepth 100000 in
theorem c_X10_mixPerson {l : Launch} {D : va_G} {G : gT} (o : Nat) (ma : Nat → Nat) (fi : Nat → Int32) (fl : Nat → Int64) (tk gv pr py ks sx : Nat → Nat) (h : Int64) (t : Nat) (hh : fl 37 = h) (ht : t < 5) (hwp : WPe ks sx) (hl9 : WL tk gv pr py) : CtV (σ := Unit) l yX10_mixPerson wsX10_mixPerson rm_X10_mixPerson D G [.ref o, .int (nI t)] [(o, mO ma fi fl), (ma 2, aI G 4 tk), (ma 3, aI G 4 gv), (ma 4, aI G 4 pr), (ma 5, aI G 4 py), (ma 7, aI G 5 ks), (ma 8, aI G 5 sx)] (fun _ => True) (fun _ => [(o, mO ma fi (va_up fl 37 (dgP tk gv pr py ks sx t h))), (ma 2, aI G 4 tk), (ma 3, aI G 4 gv), (ma 4, aI G 4 pr), (ma 5, aI G 4 py), (ma 7, aI G 5 ks), (ma 8, aI G 5 sx)]) := by
  have hw9 := hwp t ht
  have hl8 : ∀ j, j < 4 → 1 ≤ pr j ∧ pr j ≤ 4 ∧ py j ≤ 4 := fun j hj => (hl9 j hj).2.2
  have hl7 : ∀ j, j < 4 → tk j < 16 := fun j hj => (hl9 j hj).1
  refine openV (maxL := 3) (by decide) rfl (Nat.le_of_ble_eq_true rfl) ?_
  intro pgZ evZ sgZ mmZ agsZ blZ meZ cdZ AZ QZ F hmn rt
  refine v_lv (lz := [(0, .ref o), (1, .int (nI t))]) rfl ?_
  refine v_iconst (pc' := 1) (v := nI 0) F dX10_mixPerson_0 (by decide) rfl ?_
  refine v_istore_n (pc' := 2) (lv' := [(2, .int (nI 0)), (0, .ref o), (1, .int (nI t))]) F dX10_mixPerson_1 rfl (by decide) rfl rfl ?_
  refine v_ws (wz := [(o, mO ma fi (va_up fl 37 h)), (ma 2, aI G 4 tk), (ma 3, aI G 4 gv), (ma 4, aI G 4 pr), (ma 5, aI G 4 py), (ma 7, aI G 5 ks), (ma 8, aI G 5 sx)]) (by rw [up_same (f := fl) (k := 37) hh]) ?_
  have L2 : ∀ (fu : Nat) (w : Nat) (h1 : Int64), (w ≤ 10) → (h1 = dgW (abI ks sx pr py t) w h) → 10 < w + fu → V pgZ l evZ rm_X10_mixPerson sgZ mmZ agsZ blZ meZ cdZ 0 0 QZ D AZ 3 2 [(2, .int (nI w)), (0, .ref o), (1, .int (nI t))] [] [(o, mO ma fi (va_up fl 37 h1)), (ma 2, aI G 4 tk), (ma 3, aI G 4 gv), (ma 4, aI G 4 pr), (ma 5, aI G 4 py), (ma 7, aI G 5 ks), (ma 8, aI G 5 sx)] := by
    intro fu
    induction fu with
    | zero => intro w h1 hw hh1 hfu; exact absurd hfu (by omega)
    | succ fu ih2 =>
      intro w h1 hw hh1 hfu
      refine v_iload_n (pc' := 3) F dX10_mixPerson_2 rfl 0 rfl rfl ?_
      refine v_bipush (pc' := 5) (v := nI 10) F dX10_mixPerson_3 (by decide) rfl ?_
      refine v_ncmp_ge (tgt := 37) (pc' := 8) F dX10_mixPerson_5 (by omega) (by omega) (by decide) rfl (fun c2 => ?_) (fun c2 => ?_)
      · refine v_aload_n (pc' := 38) F dX10_mixPerson_37 rfl 1 rfl rfl ?_
        refine v_aload_n (pc' := 39) F dX10_mixPerson_38 rfl 1 rfl rfl ?_
        refine v_iload_n (pc' := 40) F dX10_mixPerson_39 rfl 2 rfl rfl ?_
        refine cVI (pc' := 43) (As := [.int (nI t)]) (rest := [.ref o]) (wr := [(ma 3, aI G 4 gv), (ma 4, aI G 4 pr), (ma 5, aI G 4 py)]) F (c_X10_deadNow o ma fi (va_up fl 37 h1) ks sx tk t ht hw9.1 hw9.2 hl7) (cwV 1 F.2.2.2.2.1 gX10_mixPerson_X10_deadNow rfl rfl rfl (by decide +kernel) ⟨Nat.le_of_ble_eq_true rfl, Nat.le_of_ble_eq_true rfl⟩) (v_rcvW F 8 0 rfl rfl) rfl rfl (Nat.le_of_ble_eq_true rfl) dX10_mixPerson_40 [0, 1, 5, 6] [2, 3, 4] (by decide) rfl rfl (by decide) (by decide) ⟨Nat.zero_le _, Nat.zero_le _⟩ rfl (fun r u q3 => ?_)
        obtain rfl := q3
        refine v_ws (wz := [(ma 3, aI G 4 gv), (ma 4, aI G 4 pr), (ma 5, aI G 4 py), (o, mO ma fi (va_up fl 37 h1)), (ma 2, aI G 4 tk), (ma 7, aI G 5 ks), (ma 8, aI G 5 sx)]) rfl ?_
        refine v_i2l (pc' := 44) (z := vN (deadN (ks t) tk (sx t) 4)) F dX10_mixPerson_43 rfl rfl ?_
        refine cVV (pc' := 47) (As := [.long (vN (deadN (ks t) tk (sx t) 4))]) (rest := []) (wr := [(ma 3, aI G 4 gv), (ma 4, aI G 4 pr), (ma 5, aI G 4 py), (ma 2, aI G 4 tk), (ma 7, aI G 5 ks), (ma 8, aI G 5 sx)]) F (c_X10_mix o ma fi (va_up fl 37 h1) h1 (vN (deadN (ks t) tk (sx t) 4)) (up_at _ _ _)) (cwV 1 F.2.2.2.2.1 gX10_mixPerson_X10_mix rfl rfl rfl (by decide +kernel) ⟨Nat.le_of_ble_eq_true rfl, Nat.le_of_ble_eq_true rfl⟩) (v_rcvW F 8 3 rfl rfl) rfl rfl (Nat.le_of_ble_eq_true rfl) dX10_mixPerson_44 [3] [0, 1, 2, 4, 5, 6] (by decide) rfl rfl (by decide) (by decide) ⟨Nat.zero_le _, Nat.zero_le _⟩ rfl (fun u q4 => ?_)
        refine v_ws (wz := [(ma 3, aI G 4 gv), (ma 4, aI G 4 pr), (ma 5, aI G 4 py), (ma 2, aI G 4 tk), (ma 7, aI G 5 ks), (ma 8, aI G 5 sx), (o, mO ma fi (va_up (va_up fl 37 h1) 37 (mx h1 (vN (deadN (ks t) tk (sx t) 4)))))]) rfl ?_
        refine v_ws (wz := [(ma 3, aI G 4 gv), (ma 4, aI G 4 pr), (ma 5, aI G 4 py), (ma 2, aI G 4 tk), (ma 7, aI G 5 ks), (ma 8, aI G 5 sx), (o, mO ma fi (va_up fl 37 (mx h1 (vN (deadN (ks t) tk (sx t) 4)))))]) (by rw [up_up]) ?_
        refine v_aload_n (pc' := 48) F dX10_mixPerson_47 rfl 1 rfl rfl ?_
        refine v_aload_n (pc' := 49) F dX10_mixPerson_48 rfl 1 rfl rfl ?_
        refine v_aload_n (pc' := 50) F dX10_mixPerson_49 rfl 1 rfl rfl ?_
        refine v_get (pc' := 53) (v := .ref (ma 7)) (C := RX10) (T := TX10) (N := 38) F dX10_mixPerson_50 in_X10_mixPerson_X10 6 rfl rfl 7 (by decide) (List.mem_of_getElem? (i := 1) rfl) rfl rfl ?_
        refine v_iload_n (pc' := 54) F dX10_mixPerson_53 rfl 2 rfl rfl ?_
        refine v_iald (pc' := 55) (z := ks t) F dX10_mixPerson_54 4 rfl (by omega) (by first | decide | omega) rfl rfl ?_
        refine v_aload_n (pc' := 56) F dX10_mixPerson_55 rfl 1 rfl rfl ?_
        refine v_get (pc' := 59) (v := .ref (ma 8)) (C := RX10) (T := TX10) (N := 38) F dX10_mixPerson_56 in_X10_mixPerson_X10 6 rfl rfl 8 (by decide) (List.mem_of_getElem? (i := 2) rfl) rfl rfl ?_
        refine v_iload_n (pc' := 60) F dX10_mixPerson_59 rfl 2 rfl rfl ?_
        refine v_iald (pc' := 61) (z := sx t) F dX10_mixPerson_60 5 rfl (by omega) (by first | decide | omega) rfl rfl ?_
        refine cVI (pc' := 64) (As := [.int (nI (ks t)), .int (nI (sx t))]) (rest := [.ref o]) (wr := [(ma 7, aI G 5 ks), (ma 8, aI G 5 sx)]) F (c_X10_mayMany o ma fi (va_up fl 37 (mx h1 (vN (deadN (ks t) tk (sx t) 4)))) tk gv pr py (ks t) (sx t) hl9 hw9.1 hw9.2) (cwV 2 F.2.2.2.2.1 gX10_mixPerson_X10_mayMany rfl rfl rfl (by decide +kernel) ⟨Nat.le_of_ble_eq_true rfl, Nat.le_of_ble_eq_true rfl⟩) (v_rcvW F 8 6 rfl rfl) rfl rfl (Nat.le_of_ble_eq_true rfl) dX10_mixPerson_61 [6, 3, 0, 1, 2] [4, 5] (by decide) rfl rfl (by decide) (by decide) ⟨Nat.zero_le _, Nat.zero_le _⟩ rfl (fun r u q5 => ?_)
        obtain rfl := q5
        refine v_ws (wz := [(ma 7, aI G 5 ks), (ma 8, aI G 5 sx), (o, mO ma fi (va_up fl 37 (mx h1 (vN (deadN (ks t) tk (sx t) 4))))), (ma 2, aI G 4 tk), (ma 3, aI G 4 gv), (ma 4, aI G 4 pr), (ma 5, aI G 4 py)]) rfl ?_
        refine v_i2l (pc' := 65) (z := vN ((opL (mB (ks t) tk gv pr py (sx t))).length)) F dX10_mixPerson_64 rfl rfl ?_
        refine cVV (pc' := 68) (As := [.long (vN ((opL (mB (ks t) tk gv pr py (sx t))).length))]) (rest := []) (wr := [(ma 7, aI G 5 ks), (ma 8, aI G 5 sx), (ma 2, aI G 4 tk), (ma 3, aI G 4 gv), (ma 4, aI G 4 pr), (ma 5, aI G 4 py)]) F (c_X10_mix o ma fi (va_up fl 37 (mx h1 (vN (deadN (ks t) tk (sx t) 4)))) (mx h1 (vN (deadN (ks t) tk (sx t) 4))) (vN ((opL (mB (ks t) tk gv pr py (sx t))).length)) (up_at _ _ _)) (cwV 1 F.2.2.2.2.1 gX10_mixPerson_X10_mix rfl rfl rfl (by decide +kernel) ⟨Nat.le_of_ble_eq_true rfl, Nat.le_of_ble_eq_true rfl⟩) (v_rcvW F 8 2 rfl rfl) rfl rfl (Nat.le_of_ble_eq_true rfl) dX10_mixPerson_65 [2] [0, 1, 3, 4, 5, 6] (by decide) rfl rfl (by decide) (by decide) ⟨Nat.zero_le _, Nat.zero_le _⟩ rfl (fun u q6 => ?_)
        refine v_ws (wz := [(ma 7, aI G 5 ks), (ma 8, aI G 5 sx), (ma 2, aI G 4 tk), (ma 3, aI G 4 gv), (ma 4, aI G 4 pr), (ma 5, aI G 4 py), (o, mO ma fi (va_up (va_up fl 37 (mx h1 (vN (deadN (ks t) tk (sx t) 4)))) 37 (mx (mx h1 (vN (deadN (ks t) tk (sx t) 4))) (vN ((opL (mB (ks t) tk gv pr py (sx t))).length)))))]) rfl ?_
        refine v_ws (wz := [(ma 7, aI G 5 ks), (ma 8, aI G 5 sx), (ma 2, aI G 4 tk), (ma 3, aI G 4 gv), (ma 4, aI G 4 pr), (ma 5, aI G 4 py), (o, mO ma fi (va_up fl 37 (dgP tk gv pr py ks sx t h)))]) (by rw [up_up, hh1, show w = 10 by omega]; rfl) ?_
        refine v_perm (wz := [(o, mO ma fi (va_up fl 37 (dgP tk gv pr py ks sx t h))), (ma 2, aI G 4 tk), (ma 3, aI G 4 gv), (ma 4, aI G 4 pr), (ma 5, aI G 4 py), (ma 7, aI G 5 ks), (ma 8, aI G 5 sx)]) [6, 2, 3, 4, 5, 0, 1] (by decide) rfl ?_
        exact rt dX10_mixPerson_68 () (by trivial) rfl
      · refine v_aload_n (pc' := 9) F dX10_mixPerson_8 rfl 1 rfl rfl ?_
        refine v_aload_n (pc' := 10) F dX10_mixPerson_9 rfl 1 rfl rfl ?_
        refine v_iload_n (pc' := 11) F dX10_mixPerson_10 rfl 2 rfl rfl ?_
        refine v_iload_n (pc' := 12) F dX10_mixPerson_11 rfl 0 rfl rfl ?_
        refine v_bipush (pc' := 14) (v := nI 6) F dX10_mixPerson_12 (by decide) rfl ?_
        refine v_ncmp_ge (tgt := 21) (pc' := 17) F dX10_mixPerson_14 (by omega) (by omega) (by decide) rfl (fun c7 => ?_) (fun c7 => ?_)
        · refine v_iload_n (pc' := 22) F dX10_mixPerson_21 rfl 0 rfl rfl ?_
          refine v_iconst (pc' := 23) (v := nI 4) F dX10_mixPerson_22 (by decide) rfl ?_
          refine v_iadd (pc' := 24) (z := nI (w + 4)) F dX10_mixPerson_23 (nI_add _ _) rfl ?_
          refine cVI (pc' := 27) (As := [.int (nI t), .int (nI (w + 4))]) (rest := [.ref o]) (wr := [(ma 2, aI G 4 tk), (ma 3, aI G 4 gv)]) F (c_X10_personNow o ma fi (va_up fl 37 h1) ks sx pr py t (w + 4) ht (by omega) hw9.1 hw9.2 hl8) (cwV 2 F.2.2.2.2.1 gX10_mixPerson_X10_personNow rfl rfl rfl (by decide +kernel) ⟨Nat.le_of_ble_eq_true rfl, Nat.le_of_ble_eq_true rfl⟩) (v_rcvW F 8 0 rfl rfl) rfl rfl (Nat.le_of_ble_eq_true rfl) dX10_mixPerson_24 [0, 3, 4, 5, 6] [1, 2] (by decide) rfl rfl (by decide) (by decide) ⟨Nat.zero_le _, Nat.zero_le _⟩ rfl (fun r u q8 => ?_)
          obtain rfl := q8
          refine v_ws (wz := [(ma 2, aI G 4 tk), (ma 3, aI G 4 gv), (o, mO ma fi (va_up fl 37 h1)), (ma 4, aI G 4 pr), (ma 5, aI G 4 py), (ma 7, aI G 5 ks), (ma 8, aI G 5 sx)]) rfl ?_
          refine v_i2l (pc' := 28) (z := vN (abI ks sx pr py t w)) F dX10_mixPerson_27 (congrArg (fun z => (nI z).toInt64) (ab_3 (show 6 ≤ w by omega))) rfl ?_
          refine cVV (pc' := 31) (As := [.long (vN (abI ks sx pr py t w))]) (rest := []) (wr := [(ma 2, aI G 4 tk), (ma 3, aI G 4 gv), (ma 4, aI G 4 pr), (ma 5, aI G 4 py), (ma 7, aI G 5 ks), (ma 8, aI G 5 sx)]) F (c_X10_mix o ma fi (va_up fl 37 h1) h1 (vN (abI ks sx pr py t w)) (up_at _ _ _)) (cwV 1 F.2.2.2.2.1 gX10_mixPerson_X10_mix rfl rfl rfl (by decide +kernel) ⟨Nat.le_of_ble_eq_true rfl, Nat.le_of_ble_eq_true rfl⟩) (v_rcvW F 8 2 rfl rfl) rfl rfl (Nat.le_of_ble_eq_true rfl) dX10_mixPerson_28 [2] [0, 1, 3, 4, 5, 6] (by decide) rfl rfl (by decide) (by decide) ⟨Nat.zero_le _, Nat.zero_le _⟩ rfl (fun u q9 => ?_)
          refine v_ws (wz := [(ma 2, aI G 4 tk), (ma 3, aI G 4 gv), (ma 4, aI G 4 pr), (ma 5, aI G 4 py), (ma 7, aI G 5 ks), (ma 8, aI G 5 sx), (o, mO ma fi (va_up (va_up fl 37 h1) 37 (mx h1 (vN (abI ks sx pr py t w)))))]) rfl ?_
          refine v_ws (wz := [(ma 2, aI G 4 tk), (ma 3, aI G 4 gv), (ma 4, aI G 4 pr), (ma 5, aI G 4 py), (ma 7, aI G 5 ks), (ma 8, aI G 5 sx), (o, mO ma fi (va_up fl 37 (mx h1 (vN (abI ks sx pr py t w)))))]) (by rw [up_up]) ?_
          refine v_iinc (pc' := 34) (v := nI (w + 1)) (lv' := [(2, .int (nI (w + 1))), (0, .ref o), (1, .int (nI t))]) F dX10_mixPerson_31 0 rfl (nI_add _ _) (by decide) rfl rfl ?_
          refine v_goto (tgt := 2) F dX10_mixPerson_34 (by decide) ?_
          refine v_perm (wz := [(o, mO ma fi (va_up fl 37 (mx h1 (vN (abI ks sx pr py t w))))), (ma 2, aI G 4 tk), (ma 3, aI G 4 gv), (ma 4, aI G 4 pr), (ma 5, aI G 4 py), (ma 7, aI G 5 ks), (ma 8, aI G 5 sx)]) [6, 0, 1, 2, 3, 4, 5] (by decide) rfl ?_
          exact ih2 (w + 1) (mx h1 (vN (abI ks sx pr py t w))) (by omega) (by rw [hh1]; rfl) (by omega)
        · refine v_iload_n (pc' := 18) F dX10_mixPerson_17 rfl 0 rfl rfl ?_
          refine v_goto (tgt := 24) F dX10_mixPerson_18 (by decide) ?_
          refine cVI (pc' := 27) (As := [.int (nI t), .int (nI w)]) (rest := [.ref o]) (wr := [(ma 2, aI G 4 tk), (ma 3, aI G 4 gv)]) F (c_X10_personNow o ma fi (va_up fl 37 h1) ks sx pr py t w ht (by omega) hw9.1 hw9.2 hl8) (cwV 2 F.2.2.2.2.1 gX10_mixPerson_X10_personNow rfl rfl rfl (by decide +kernel) ⟨Nat.le_of_ble_eq_true rfl, Nat.le_of_ble_eq_true rfl⟩) (v_rcvW F 8 0 rfl rfl) rfl rfl (Nat.le_of_ble_eq_true rfl) dX10_mixPerson_24 [0, 3, 4, 5, 6] [1, 2] (by decide) rfl rfl (by decide) (by decide) ⟨Nat.zero_le _, Nat.zero_le _⟩ rfl (fun r u q10 => ?_)
          obtain rfl := q10
          refine v_ws (wz := [(ma 2, aI G 4 tk), (ma 3, aI G 4 gv), (o, mO ma fi (va_up fl 37 h1)), (ma 4, aI G 4 pr), (ma 5, aI G 4 py), (ma 7, aI G 5 ks), (ma 8, aI G 5 sx)]) rfl ?_
          refine v_i2l (pc' := 28) (z := vN (abI ks sx pr py t w)) F dX10_mixPerson_27 (congrArg (fun z => (nI z).toInt64) (ab_1 (show w < 6 by omega))) rfl ?_
          refine cVV (pc' := 31) (As := [.long (vN (abI ks sx pr py t w))]) (rest := []) (wr := [(ma 2, aI G 4 tk), (ma 3, aI G 4 gv), (ma 4, aI G 4 pr), (ma 5, aI G 4 py), (ma 7, aI G 5 ks), (ma 8, aI G 5 sx)]) F (c_X10_mix o ma fi (va_up fl 37 h1) h1 (vN (abI ks sx pr py t w)) (up_at _ _ _)) (cwV 1 F.2.2.2.2.1 gX10_mixPerson_X10_mix rfl rfl rfl (by decide +kernel) ⟨Nat.le_of_ble_eq_true rfl, Nat.le_of_ble_eq_true rfl⟩) (v_rcvW F 8 2 rfl rfl) rfl rfl (Nat.le_of_ble_eq_true rfl) dX10_mixPerson_28 [2] [0, 1, 3, 4, 5, 6] (by decide) rfl rfl (by decide) (by decide) ⟨Nat.zero_le _, Nat.zero_le _⟩ rfl (fun u q11 => ?_)
          refine v_ws (wz := [(ma 2, aI G 4 tk), (ma 3, aI G 4 gv), (ma 4, aI G 4 pr), (ma 5, aI G 4 py), (ma 7, aI G 5 ks), (ma 8, aI G 5 sx), (o, mO ma fi (va_up (va_up fl 37 h1) 37 (mx h1 (vN (abI ks sx pr py t w)))))]) rfl ?_
          refine v_ws (wz := [(ma 2, aI G 4 tk), (ma 3, aI G 4 gv), (ma 4, aI G 4 pr), (ma 5, aI G 4 py), (ma 7, aI G 5 ks), (ma 8, aI G 5 sx), (o, mO ma fi (va_up fl 37 (mx h1 (vN (abI ks sx pr py t w)))))]) (by rw [up_up]) ?_
          refine v_iinc (pc' := 34) (v := nI (w + 1)) (lv' := [(2, .int (nI (w + 1))), (0, .ref o), (1, .int (nI t))]) F dX10_mixPerson_31 0 rfl (nI_add _ _) (by decide) rfl rfl ?_
          refine v_goto (tgt := 2) F dX10_mixPerson_34 (by decide) ?_
          refine v_perm (wz := [(o, mO ma fi (va_up fl 37 (mx h1 (vN (abI ks sx pr py t w))))), (ma 2, aI G 4 tk), (ma 3, aI G 4 gv), (ma 4, aI G 4 pr), (ma 5, aI G 4 py), (ma 7, aI G 5 ks), (ma 8, aI G 5 sx)]) [6, 0, 1, 2, 3, 4, 5] (by decide) rfl ?_
          exact ih2 (w + 1) (mx h1 (vN (abI ks sx pr py t w))) (by omega) (by rw [hh1]; rfl) (by omega)
  exact L2 (10 + 1) 0 h (by omega) (rfl) (by omega)
def rm_X10_digest : Room := { frames := 6, cells := 0, slots := 0, locals := 139 }
theorem in_X10_digest_X10 : ∀ w ∈ u_ws RX10 TX10 38, w ∈ wsX10_digest := fun w h => List.mem_cons_of_mem _ (List.mem_append_right _ (h))
set_option maxHeartbeats 4000000 in
set_option maxRecDepth 100000 in
theorem c_X10_digest {l : Launch} {D : va_G} {G : gT} (o : Nat) (ma : Nat → Nat) (fi : Nat → Int32) (fl : Nat → Int64) (tk gv pr py ks sx tw pg w w0 : Nat → Nat) (lr pe ac sd tg tp sf tm pl : Nat) (hil : fi 0 = bI (¬ lr = 0)) (hlw : fi 1 = nI lr) (hpe : fi 6 = nI pe) (h5 : pe ≤ 5) (hac : fi 9 = nI ac) (hsd : fi 10 = nI sd) (htr : fi 11 = trI tg tp) (hsf : fi 12 = nI sf) (htm : fi 13 = nI tm) (hpl : fi 15 = nI pl) (hwp : WPe ks sx) (hl : 0 < pe → WL tk gv pr py) (hll : ¬ lr = 0 → WL tk gv pr py) (h32 : pl ≤ 32) (hs4 : sf < 40000) (hm5 : tm ≤ 5) (htp5 : tp < 5) (htw : ∀ j, j < 5 → tw j < 625) (hpg : ∀ j, j < 32 → pg j < 127) (hlt : ¬ tg = 0 → WL tk gv pr py) : CtL (σ := (Nat → Int64) × (Nat → Nat) × (Nat → Nat)) l yX10_digest wsX10_digest rm_X10_digest D G [.ref o] [(o, mO ma fi fl), (ma 2, aI G 4 tk), (ma 3, aI G 4 gv), (ma 4, aI G 4 pr), (ma 5, aI G 4 py), (ma 7, aI G 5 ks), (ma 8, aI G 5 sx), (ma 14, aI G 5 tw), (ma 16, aB G 32 pg), (ma 28, aI G 64 w), (ma 29, aI G 64 w0)] (fun r u => r = A_digest lr tk gv pr py pe ks sx tg (wyT (mB (ks tp) tk gv pr py) sf tw tm) pg pl ac tm sd) (fun u => [(o, mO ma fi (u.1)), (ma 2, aI G 4 tk), (ma 3, aI G 4 gv), (ma 4, aI G 4 pr), (ma 5, aI G 4 py), (ma 7, aI G 5 ks), (ma 8, aI G 5 sx), (ma 14, aI G 5 tw), (ma 16, aB G 32 pg), (ma 28, aI G 64 (u.2.1)), (ma 29, aI G 64 (u.2.2))]) := by
  have hs5 : ∀ j, j < 5 → sx j < 40000 := fun j hj => (hwp j hj).2
  refine openL (maxL := 3) (by decide) rfl (Nat.le_of_ble_eq_true rfl) ?_
  intro pgZ evZ sgZ mmZ agsZ blZ meZ cdZ AZ QZ F hmn rt
  refine v_lv (lz := [(0, .ref o)]) rfl ?_
  refine v_aload_n (pc' := 1) F dX10_digest_0 rfl 0 rfl rfl ?_
  refine v_ldc2 (pc' := 4) (v := lN 677) F dX10_digest_1 (List.mem_of_getElem? (i := 1) rfl) rfl ?_
  refine v_put (pc' := 7) (ws' := [(o, mO ma fi (va_up fl 37 (lN 677))), (ma 2, aI G 4 tk), (ma 3, aI G 4 gv), (ma 4, aI G 4 pr), (ma 5, aI G 4 py), (ma 7, aI G 5 ks), (ma 8, aI G 5 sx), (ma 14, aI G 5 tw), (ma 16, aB G 32 pg), (ma 28, aI G 64 w), (ma 29, aI G 64 w0)]) (C := RX10) (T := TX10) (N := 38) F dX10_digest_4 in_X10_digest_X10 tyX10_ok nmX10 0 rfl rfl 37 (by decide) (List.mem_of_getElem? (i := 2) rfl) rfl rfl rfl (Nat.le_of_ble_eq_true rfl) rfl rfl ?_
  refine v_iconst (pc' := 8) (v := nI 0) F dX10_digest_7 (by decide) rfl ?_
  refine v_istore_n (pc' := 9) (lv' := [(1, .int (nI 0)), (0, .ref o)]) F dX10_digest_8 rfl (by decide) rfl rfl ?_
  have L9 : ∀ (fu : Nat) (t : Nat) (ha : Int64), (t ≤ 4) → (lr = 0 → t = 0) → (ha = dgT tk gv pr py pe sx t (lN 677)) → 4 < t + fu → V pgZ l evZ rm_X10_digest sgZ mmZ agsZ blZ meZ cdZ 0 0 QZ D AZ 3 9 [(1, .int (nI t)), (0, .ref o)] [] [(o, mO ma fi (va_up fl 37 ha)), (ma 2, aI G 4 tk), (ma 3, aI G 4 gv), (ma 4, aI G 4 pr), (ma 5, aI G 4 py), (ma 7, aI G 5 ks), (ma 8, aI G 5 sx), (ma 14, aI G 5 tw), (ma 16, aB G 32 pg), (ma 28, aI G 64 w), (ma 29, aI G 64 w0)] := by
    intro fu
    induction fu with
    | zero => intro t ha ht htl hha hfu; exact absurd hfu (by omega)
    | succ fu ih9 =>
      intro t ha ht htl hha hfu
      refine v_iload_n (pc' := 10) F dX10_digest_9 rfl 0 rfl rfl ?_
      refine v_iconst (pc' := 11) (v := nI 4) F dX10_digest_10 (by decide) rfl ?_
      refine v_ncmp_ge (tgt := 51) (pc' := 14) F dX10_digest_11 (by omega) (by omega) (by decide) rfl (fun c2 => ?_) (fun c2 => ?_)
      · have hlr1 : ¬ lr = 0 := fun q => by have := htl q; omega
        have hh9 : ha = dz1 lr tk gv pr py pe sx := by rw [hha, show t = 4 by omega]; exact dz1_n hlr1
        refine v_iconst (pc' := 52) (v := nI 0) F dX10_digest_51 (by decide) rfl ?_
        refine v_istore_n (pc' := 53) (lv' := [(1, .int (nI 0)), (0, .ref o)]) F dX10_digest_52 rfl (by decide) rfl rfl ?_
        have L53 : ∀ (fu : Nat) (p : Nat) (hc : Int64), (p ≤ pe) → (hc = dgPP tk gv pr py ks sx p (dz1 lr tk gv pr py pe sx)) → pe < p + fu → V pgZ l evZ rm_X10_digest sgZ mmZ agsZ blZ meZ cdZ 0 0 QZ D AZ 3 53 [(1, .int (nI p)), (0, .ref o)] [] [(o, mO ma fi (va_up fl 37 hc)), (ma 2, aI G 4 tk), (ma 3, aI G 4 gv), (ma 4, aI G 4 pr), (ma 5, aI G 4 py), (ma 7, aI G 5 ks), (ma 8, aI G 5 sx), (ma 14, aI G 5 tw), (ma 16, aB G 32 pg), (ma 28, aI G 64 w), (ma 29, aI G 64 w0)] := by
          intro fu
          induction fu with
          | zero => intro p hc hp hhc hfu; exact absurd hfu (by omega)
          | succ fu ih53 =>
            intro p hc hp hhc hfu
            refine v_iload_n (pc' := 54) F dX10_digest_53 rfl 0 rfl rfl ?_
            refine v_aload_n (pc' := 55) F dX10_digest_54 rfl 1 rfl rfl ?_
            refine v_get (pc' := 58) (v := .int (nI pe)) (C := RX10) (T := TX10) (N := 38) F dX10_digest_55 in_X10_digest_X10 0 rfl rfl 6 (by decide) (List.mem_of_getElem? (i := 4) rfl) (congrArg (fun z => some (Value.int z)) hpe) rfl ?_
            refine v_ncmp_ge (tgt := 72) (pc' := 61) F dX10_digest_58 (by omega) (by omega) (by decide) rfl (fun c4 => ?_) (fun c4 => ?_)
            · refine v_aload_n (pc' := 73) F dX10_digest_72 rfl 1 rfl rfl ?_
              refine v_get (pc' := 76) (v := .int (trI tg tp)) (C := RX10) (T := TX10) (N := 38) F dX10_digest_73 in_X10_digest_X10 0 rfl rfl 11 (by decide) (List.mem_of_getElem? (i := 5) rfl) (congrArg (fun z => some (Value.int z)) htr) rfl ?_
              refine v_iconst (pc' := 77) (v := (-1)) F dX10_digest_76 (by decide) rfl ?_
              refine v_icmp_eq (tgt := 98) (pc' := 80) F dX10_digest_77 (by decide) rfl (fun c5 => ?_) (fun c5 => ?_)
              · have htg0 := trI_no c5 htp5
                refine v_iconst (pc' := 99) (v := nI 0) F dX10_digest_98 (by decide) rfl ?_
                refine v_istore_n (pc' := 100) (lv' := [(1, .int (nI 0)), (0, .ref o)]) F dX10_digest_99 rfl (by decide) rfl rfl ?_
                have L100 : ∀ (fu : Nat) (i : Nat) (hd : Int64), (i ≤ pl) → (hd = dgW pg i (dz3 lr tk gv pr py pe ks sx tg (wyT (mB (ks tp) tk gv pr py) sf tw tm))) → pl < i + fu → V pgZ l evZ rm_X10_digest sgZ mmZ agsZ blZ meZ cdZ 0 0 QZ D AZ 3 100 [(1, .int (nI i)), (0, .ref o)] [] [(o, mO ma fi (va_up fl 37 hd)), (ma 2, aI G 4 tk), (ma 3, aI G 4 gv), (ma 4, aI G 4 pr), (ma 5, aI G 4 py), (ma 7, aI G 5 ks), (ma 8, aI G 5 sx), (ma 14, aI G 5 tw), (ma 16, aB G 32 pg), (ma 28, aI G 64 w), (ma 29, aI G 64 w0)] := by
                  intro fu
                  induction fu with
                  | zero => intro i hd hi hhd hfu; exact absurd hfu (by omega)
                  | succ fu ih100 =>
                    intro i hd hi hhd hfu
                    refine v_iload_n (pc' := 101) F dX10_digest_100 rfl 0 rfl rfl ?_
                    refine v_aload_n (pc' := 102) F dX10_digest_101 rfl 1 rfl rfl ?_
                    refine v_get (pc' := 105) (v := .int (nI pl)) (C := RX10) (T := TX10) (N := 38) F dX10_digest_102 in_X10_digest_X10 0 rfl rfl 15 (by decide) (List.mem_of_getElem? (i := 6) rfl) (congrArg (fun z => some (Value.int z)) hpl) rfl ?_
                    refine v_ncmp_ge (tgt := 125) (pc' := 108) F dX10_digest_105 (by omega) (by omega) (by decide) rfl (fun c7 => ?_) (fun c7 => ?_)
                    · refine v_iconst (pc' := 126) (v := nI 0) F dX10_digest_125 (by decide) rfl ?_
                      refine v_istore_n (pc' := 127) (lv' := [(1, .int (nI 0)), (0, .ref o)]) F dX10_digest_126 rfl (by decide) rfl rfl ?_
                      have L127 : ∀ (fu : Nat) (v9 : Nat) (he : Int64), (v9 ≤ 8) → (he = dgW (countV pe sx ac tm pl lr sd) v9 (dz4 lr tk gv pr py pe ks sx tg (wyT (mB (ks tp) tk gv pr py) sf tw tm) pg pl)) → 8 < v9 + fu → V pgZ l evZ rm_X10_digest sgZ mmZ agsZ blZ meZ cdZ 0 0 QZ D AZ 3 127 [(1, .int (nI v9)), (0, .ref o)] [] [(o, mO ma fi (va_up fl 37 he)), (ma 2, aI G 4 tk), (ma 3, aI G 4 gv), (ma 4, aI G 4 pr), (ma 5, aI G 4 py), (ma 7, aI G 5 ks), (ma 8, aI G 5 sx), (ma 14, aI G 5 tw), (ma 16, aB G 32 pg), (ma 28, aI G 64 w), (ma 29, aI G 64 w0)] := by
                        intro fu
                        induction fu with
                        | zero => intro v9 he hv9 hhe hfu; exact absurd hfu (by omega)
                        | succ fu ih127 =>
                          intro v9 he hv9 hhe hfu
                          refine v_iload_n (pc' := 128) F dX10_digest_127 rfl 0 rfl rfl ?_
                          refine v_bipush (pc' := 130) (v := nI 8) F dX10_digest_128 (by decide) rfl ?_
                          refine v_ncmp_ge (tgt := 149) (pc' := 133) F dX10_digest_130 (by omega) (by omega) (by decide) rfl (fun c9 => ?_) (fun c9 => ?_)
                          · refine v_aload_n (pc' := 150) F dX10_digest_149 rfl 1 rfl rfl ?_
                            refine v_get (pc' := 153) (v := .long he) (C := RX10) (T := TX10) (N := 38) F dX10_digest_150 in_X10_digest_X10 0 rfl rfl 37 (by decide) (List.mem_of_getElem? (i := 2) rfl) rfl rfl ?_
                            exact rt dX10_digest_153 ((va_up fl 37 he), w, w0) (by rw [hhe, show v9 = 8 by omega]; rfl) rfl
                          · refine v_aload_n (pc' := 134) F dX10_digest_133 rfl 1 rfl rfl ?_
                            refine v_aload_n (pc' := 135) F dX10_digest_134 rfl 1 rfl rfl ?_
                            refine v_iload_n (pc' := 136) F dX10_digest_135 rfl 0 rfl rfl ?_
                            refine cVI (pc' := 139) (As := [.int (nI v9)]) (rest := [.ref o]) (wr := [(ma 2, aI G 4 tk), (ma 3, aI G 4 gv), (ma 4, aI G 4 pr), (ma 5, aI G 4 py), (ma 7, aI G 5 ks), (ma 14, aI G 5 tw), (ma 16, aB G 32 pg), (ma 28, aI G 64 w), (ma 29, aI G 64 w0)]) F (c_X10_howMany o ma fi (va_up fl 37 he) sx lr pe ac sd tm pl (nI v9) hlw hpe hac hsd htm (by assumption) h5 hs5) (cwV 1 F.2.2.2.2.1 gX10_digest_X10_howMany rfl rfl rfl (by decide +kernel) ⟨Nat.le_of_ble_eq_true rfl, Nat.le_of_ble_eq_true rfl⟩) (v_rcvW F 8 0 rfl rfl) rfl rfl (Nat.le_of_ble_eq_true rfl) dX10_digest_136 [0, 6] [1, 2, 3, 4, 5, 7, 8, 9, 10] (by decide) rfl rfl (by decide) (by decide) ⟨Nat.zero_le _, Nat.zero_le _⟩ rfl (fun r u q10 => ?_)
                            obtain rfl := q10
                            refine v_ws (wz := [(ma 2, aI G 4 tk), (ma 3, aI G 4 gv), (ma 4, aI G 4 pr), (ma 5, aI G 4 py), (ma 7, aI G 5 ks), (ma 14, aI G 5 tw), (ma 16, aB G 32 pg), (ma 28, aI G 64 w), (ma 29, aI G 64 w0), (o, mO ma fi (va_up fl 37 he)), (ma 8, aI G 5 sx)]) rfl ?_
                            refine v_i2l (pc' := 140) (z := vN (countV pe sx ac tm pl lr sd v9)) F dX10_digest_139 (congrArg Int32.toInt64 (count_v (show v9 < 8 by omega))) rfl ?_
                            refine cVV (pc' := 143) (As := [.long (vN (countV pe sx ac tm pl lr sd v9))]) (rest := []) (wr := [(ma 2, aI G 4 tk), (ma 3, aI G 4 gv), (ma 4, aI G 4 pr), (ma 5, aI G 4 py), (ma 7, aI G 5 ks), (ma 14, aI G 5 tw), (ma 16, aB G 32 pg), (ma 28, aI G 64 w), (ma 29, aI G 64 w0), (ma 8, aI G 5 sx)]) F (c_X10_mix o ma fi (va_up fl 37 he) he (vN (countV pe sx ac tm pl lr sd v9)) (up_at _ _ _)) (cwV 1 F.2.2.2.2.1 gX10_digest_X10_mix rfl rfl rfl (by decide +kernel) ⟨Nat.le_of_ble_eq_true rfl, Nat.le_of_ble_eq_true rfl⟩) (v_rcvW F 8 9 rfl rfl) rfl rfl (Nat.le_of_ble_eq_true rfl) dX10_digest_140 [9] [0, 1, 2, 3, 4, 5, 6, 7, 8, 10] (by decide) rfl rfl (by decide) (by decide) ⟨Nat.zero_le _, Nat.zero_le _⟩ rfl (fun u q11 => ?_)
                            refine v_ws (wz := [(ma 2, aI G 4 tk), (ma 3, aI G 4 gv), (ma 4, aI G 4 pr), (ma 5, aI G 4 py), (ma 7, aI G 5 ks), (ma 14, aI G 5 tw), (ma 16, aB G 32 pg), (ma 28, aI G 64 w), (ma 29, aI G 64 w0), (ma 8, aI G 5 sx), (o, mO ma fi (va_up (va_up fl 37 he) 37 (mx he (vN (countV pe sx ac tm pl lr sd v9)))))]) rfl ?_
                            refine v_ws (wz := [(ma 2, aI G 4 tk), (ma 3, aI G 4 gv), (ma 4, aI G 4 pr), (ma 5, aI G 4 py), (ma 7, aI G 5 ks), (ma 14, aI G 5 tw), (ma 16, aB G 32 pg), (ma 28, aI G 64 w), (ma 29, aI G 64 w0), (ma 8, aI G 5 sx), (o, mO ma fi (va_up fl 37 (mx he (vN (countV pe sx ac tm pl lr sd v9)))))]) (by rw [up_up]) ?_
                            refine v_iinc (pc' := 146) (v := nI (v9 + 1)) (lv' := [(1, .int (nI (v9 + 1))), (0, .ref o)]) F dX10_digest_143 0 rfl (nI_add _ _) (by decide) rfl rfl ?_
                            refine v_goto (tgt := 127) F dX10_digest_146 (by decide) ?_
                            refine v_perm (wz := [(o, mO ma fi (va_up fl 37 (mx he (vN (countV pe sx ac tm pl lr sd v9))))), (ma 2, aI G 4 tk), (ma 3, aI G 4 gv), (ma 4, aI G 4 pr), (ma 5, aI G 4 py), (ma 7, aI G 5 ks), (ma 8, aI G 5 sx), (ma 14, aI G 5 tw), (ma 16, aB G 32 pg), (ma 28, aI G 64 w), (ma 29, aI G 64 w0)]) [10, 0, 1, 2, 3, 4, 9, 5, 6, 7, 8] (by decide) rfl ?_
                            exact ih127 (v9 + 1) (mx he (vN (countV pe sx ac tm pl lr sd v9))) (by omega) (by rw [hhe]; rfl) (by omega)
                      exact L127 (8 + 1) 0 hd (by omega) (by rw [hhd, show i = pl by omega]; rfl) (by omega)
                    · refine v_aload_n (pc' := 109) F dX10_digest_108 rfl 1 rfl rfl ?_
                      refine v_aload_n (pc' := 110) F dX10_digest_109 rfl 1 rfl rfl ?_
                      refine v_get (pc' := 113) (v := .ref (ma 16)) (C := RX10) (T := TX10) (N := 38) F dX10_digest_110 in_X10_digest_X10 0 rfl rfl 16 (by decide) (List.mem_of_getElem? (i := 7) rfl) rfl rfl ?_
                      refine v_iload_n (pc' := 114) F dX10_digest_113 rfl 0 rfl rfl ?_
                      refine v_bald (pc' := 115) (z := pg i) F dX10_digest_114 8 rfl (by omega) (by first | decide | omega) rfl rfl ?_
                      refine v_i2l (pc' := 116) (z := vN (pg i)) F dX10_digest_115 rfl rfl ?_
                      refine cVV (pc' := 119) (As := [.long (vN (pg i))]) (rest := []) (wr := [(ma 2, aI G 4 tk), (ma 3, aI G 4 gv), (ma 4, aI G 4 pr), (ma 5, aI G 4 py), (ma 7, aI G 5 ks), (ma 8, aI G 5 sx), (ma 14, aI G 5 tw), (ma 16, aB G 32 pg), (ma 28, aI G 64 w), (ma 29, aI G 64 w0)]) F (c_X10_mix o ma fi (va_up fl 37 hd) hd (vN (pg i)) (up_at _ _ _)) (cwV 1 F.2.2.2.2.1 gX10_digest_X10_mix rfl rfl rfl (by decide +kernel) ⟨Nat.le_of_ble_eq_true rfl, Nat.le_of_ble_eq_true rfl⟩) (v_rcvW F 8 0 rfl rfl) rfl rfl (Nat.le_of_ble_eq_true rfl) dX10_digest_116 [0] [1, 2, 3, 4, 5, 6, 7, 8, 9, 10] (by decide) rfl rfl (by decide) (by decide) ⟨Nat.zero_le _, Nat.zero_le _⟩ rfl (fun u q12 => ?_)
                      refine v_ws (wz := [(ma 2, aI G 4 tk), (ma 3, aI G 4 gv), (ma 4, aI G 4 pr), (ma 5, aI G 4 py), (ma 7, aI G 5 ks), (ma 8, aI G 5 sx), (ma 14, aI G 5 tw), (ma 16, aB G 32 pg), (ma 28, aI G 64 w), (ma 29, aI G 64 w0), (o, mO ma fi (va_up (va_up fl 37 hd) 37 (mx hd (vN (pg i)))))]) rfl ?_
                      refine v_ws (wz := [(ma 2, aI G 4 tk), (ma 3, aI G 4 gv), (ma 4, aI G 4 pr), (ma 5, aI G 4 py), (ma 7, aI G 5 ks), (ma 8, aI G 5 sx), (ma 14, aI G 5 tw), (ma 16, aB G 32 pg), (ma 28, aI G 64 w), (ma 29, aI G 64 w0), (o, mO ma fi (va_up fl 37 (mx hd (vN (pg i)))))]) (by rw [up_up]) ?_
                      refine v_iinc (pc' := 122) (v := nI (i + 1)) (lv' := [(1, .int (nI (i + 1))), (0, .ref o)]) F dX10_digest_119 0 rfl (nI_add _ _) (by decide) rfl rfl ?_
                      refine v_goto (tgt := 100) F dX10_digest_122 (by decide) ?_
                      refine v_perm (wz := [(o, mO ma fi (va_up fl 37 (mx hd (vN (pg i))))), (ma 2, aI G 4 tk), (ma 3, aI G 4 gv), (ma 4, aI G 4 pr), (ma 5, aI G 4 py), (ma 7, aI G 5 ks), (ma 8, aI G 5 sx), (ma 14, aI G 5 tw), (ma 16, aB G 32 pg), (ma 28, aI G 64 w), (ma 29, aI G 64 w0)]) [10, 0, 1, 2, 3, 4, 5, 6, 7, 8, 9] (by decide) rfl ?_
                      exact ih100 (i + 1) (mx hd (vN (pg i))) (by omega) (by rw [hhd]; rfl) (by omega)
                exact L100 (pl + 1) 0 hc (by omega) (by rw [hhc, show p = pe by omega]; exact dgR_n htg0) (by omega)
              · have htg1 := trI_yes c5
                have hl9 := hlt htg1
                have hk9 := (hwp tp htp5).1
                have htp9 : fi 11 = nI tp := by rw [htr]; exact if_neg htg1
                refine v_aload_n (pc' := 81) F dX10_digest_80 rfl 1 rfl rfl ?_
                refine v_aload_n (pc' := 82) F dX10_digest_81 rfl 1 rfl rfl ?_
                refine cVI (pc' := 85) (As := []) (rest := [.ref o]) (wr := [(ma 8, aI G 5 sx), (ma 16, aB G 32 pg)]) F (c_X10_waysNow o ma fi (va_up fl 37 hc) tk gv pr py ks tw w w0 tp sf tm htp9 hsf htm hl9 htp5 hk9 hs4 hm5 htw) (cwV 0 F.2.2.2.2.1 gX10_digest_X10_waysNow rfl rfl rfl (by decide +kernel) ⟨Nat.le_of_ble_eq_true rfl, Nat.le_of_ble_eq_true rfl⟩) (v_rcvW F 8 0 rfl rfl) rfl rfl (Nat.le_of_ble_eq_true rfl) dX10_digest_82 [0, 1, 2, 3, 4, 5, 7, 9, 10] [6, 8] (by decide) rfl rfl (by decide) (by decide) ⟨Nat.zero_le _, Nat.zero_le _⟩ rfl (fun r u q14 => ?_)
                obtain ⟨w2_13, hu9⟩ : ∃ z, z = u := ⟨_, rfl⟩
                subst hu9
                obtain rfl := q14
                refine v_ws (wz := [(ma 8, aI G 5 sx), (ma 16, aB G 32 pg), (o, mO ma fi (va_up fl 37 hc)), (ma 2, aI G 4 tk), (ma 3, aI G 4 gv), (ma 4, aI G 4 pr), (ma 5, aI G 4 py), (ma 7, aI G 5 ks), (ma 14, aI G 5 tw), (ma 28, aI G 64 (wyT (mB (ks tp) tk gv pr py) sf tw tm)), (ma 29, aI G 64 w2_13)]) rfl ?_
                refine v_i2l (pc' := 86) (z := vN (tot (wyT (mB (ks tp) tk gv pr py) sf tw tm) 64)) F dX10_digest_85 rfl rfl ?_
                refine cVV (pc' := 89) (As := [.long (vN (tot (wyT (mB (ks tp) tk gv pr py) sf tw tm) 64))]) (rest := []) (wr := [(ma 8, aI G 5 sx), (ma 16, aB G 32 pg), (ma 2, aI G 4 tk), (ma 3, aI G 4 gv), (ma 4, aI G 4 pr), (ma 5, aI G 4 py), (ma 7, aI G 5 ks), (ma 14, aI G 5 tw), (ma 28, aI G 64 (wyT (mB (ks tp) tk gv pr py) sf tw tm)), (ma 29, aI G 64 w2_13)]) F (c_X10_mix o ma fi (va_up fl 37 hc) hc (vN (tot (wyT (mB (ks tp) tk gv pr py) sf tw tm) 64)) (up_at _ _ _)) (cwV 1 F.2.2.2.2.1 gX10_digest_X10_mix rfl rfl rfl (by decide +kernel) ⟨Nat.le_of_ble_eq_true rfl, Nat.le_of_ble_eq_true rfl⟩) (v_rcvW F 8 2 rfl rfl) rfl rfl (Nat.le_of_ble_eq_true rfl) dX10_digest_86 [2] [0, 1, 3, 4, 5, 6, 7, 8, 9, 10] (by decide) rfl rfl (by decide) (by decide) ⟨Nat.zero_le _, Nat.zero_le _⟩ rfl (fun u q15 => ?_)
                refine v_ws (wz := [(ma 8, aI G 5 sx), (ma 16, aB G 32 pg), (ma 2, aI G 4 tk), (ma 3, aI G 4 gv), (ma 4, aI G 4 pr), (ma 5, aI G 4 py), (ma 7, aI G 5 ks), (ma 14, aI G 5 tw), (ma 28, aI G 64 (wyT (mB (ks tp) tk gv pr py) sf tw tm)), (ma 29, aI G 64 w2_13), (o, mO ma fi (va_up (va_up fl 37 hc) 37 (mx hc (vN (tot (wyT (mB (ks tp) tk gv pr py) sf tw tm) 64)))))]) rfl ?_
                refine v_ws (wz := [(ma 8, aI G 5 sx), (ma 16, aB G 32 pg), (ma 2, aI G 4 tk), (ma 3, aI G 4 gv), (ma 4, aI G 4 pr), (ma 5, aI G 4 py), (ma 7, aI G 5 ks), (ma 14, aI G 5 tw), (ma 28, aI G 64 (wyT (mB (ks tp) tk gv pr py) sf tw tm)), (ma 29, aI G 64 w2_13), (o, mO ma fi (va_up fl 37 (mx hc (vN (tot (wyT (mB (ks tp) tk gv pr py) sf tw tm) 64)))))]) (by rw [up_up]) ?_
                refine v_aload_n (pc' := 90) F dX10_digest_89 rfl 1 rfl rfl ?_
                refine v_aload_n (pc' := 91) F dX10_digest_90 rfl 1 rfl rfl ?_
                refine cVI (pc' := 94) (As := []) (rest := [.ref o]) (wr := [(ma 8, aI G 5 sx), (ma 16, aB G 32 pg)]) F (c_X10_endsNow o ma fi (va_up fl 37 (mx hc (vN (tot (wyT (mB (ks tp) tk gv pr py) sf tw tm) 64)))) tk gv pr py ks tw (wyT (mB (ks tp) tk gv pr py) sf tw tm) w2_13 tp sf tm htp9 hsf htm hl9 htp5 hk9 hs4 hm5 htw) (cwV 0 F.2.2.2.2.1 gX10_digest_X10_endsNow rfl rfl rfl (by decide +kernel) ⟨Nat.le_of_ble_eq_true rfl, Nat.le_of_ble_eq_true rfl⟩) (v_rcvW F 8 10 rfl rfl) rfl rfl (Nat.le_of_ble_eq_true rfl) dX10_digest_91 [10, 2, 3, 4, 5, 6, 7, 8, 9] [0, 1] (by decide) rfl rfl (by decide) (by decide) ⟨Nat.zero_le _, Nat.zero_le _⟩ rfl (fun r u q17 => ?_)
                obtain ⟨w2_16, hu9⟩ : ∃ z, z = u := ⟨_, rfl⟩
                subst hu9
                obtain rfl := q17
                refine v_ws (wz := [(ma 8, aI G 5 sx), (ma 16, aB G 32 pg), (o, mO ma fi (va_up fl 37 (mx hc (vN (tot (wyT (mB (ks tp) tk gv pr py) sf tw tm) 64))))), (ma 2, aI G 4 tk), (ma 3, aI G 4 gv), (ma 4, aI G 4 pr), (ma 5, aI G 4 py), (ma 7, aI G 5 ks), (ma 14, aI G 5 tw), (ma 28, aI G 64 (wyT (mB (ks tp) tk gv pr py) sf tw tm)), (ma 29, aI G 64 w2_16)]) rfl ?_
                refine v_i2l (pc' := 95) (z := vN (twB (wyT (mB (ks tp) tk gv pr py) sf tw tm) 64)) F dX10_digest_94 rfl rfl ?_
                refine cVV (pc' := 98) (As := [.long (vN (twB (wyT (mB (ks tp) tk gv pr py) sf tw tm) 64))]) (rest := []) (wr := [(ma 8, aI G 5 sx), (ma 16, aB G 32 pg), (ma 2, aI G 4 tk), (ma 3, aI G 4 gv), (ma 4, aI G 4 pr), (ma 5, aI G 4 py), (ma 7, aI G 5 ks), (ma 14, aI G 5 tw), (ma 28, aI G 64 (wyT (mB (ks tp) tk gv pr py) sf tw tm)), (ma 29, aI G 64 w2_16)]) F (c_X10_mix o ma fi (va_up fl 37 (mx hc (vN (tot (wyT (mB (ks tp) tk gv pr py) sf tw tm) 64)))) (mx hc (vN (tot (wyT (mB (ks tp) tk gv pr py) sf tw tm) 64))) (vN (twB (wyT (mB (ks tp) tk gv pr py) sf tw tm) 64)) (up_at _ _ _)) (cwV 1 F.2.2.2.2.1 gX10_digest_X10_mix rfl rfl rfl (by decide +kernel) ⟨Nat.le_of_ble_eq_true rfl, Nat.le_of_ble_eq_true rfl⟩) (v_rcvW F 8 2 rfl rfl) rfl rfl (Nat.le_of_ble_eq_true rfl) dX10_digest_95 [2] [0, 1, 3, 4, 5, 6, 7, 8, 9, 10] (by decide) rfl rfl (by decide) (by decide) ⟨Nat.zero_le _, Nat.zero_le _⟩ rfl (fun u q18 => ?_)
                refine v_ws (wz := [(ma 8, aI G 5 sx), (ma 16, aB G 32 pg), (ma 2, aI G 4 tk), (ma 3, aI G 4 gv), (ma 4, aI G 4 pr), (ma 5, aI G 4 py), (ma 7, aI G 5 ks), (ma 14, aI G 5 tw), (ma 28, aI G 64 (wyT (mB (ks tp) tk gv pr py) sf tw tm)), (ma 29, aI G 64 w2_16), (o, mO ma fi (va_up (va_up fl 37 (mx hc (vN (tot (wyT (mB (ks tp) tk gv pr py) sf tw tm) 64)))) 37 (mx (mx hc (vN (tot (wyT (mB (ks tp) tk gv pr py) sf tw tm) 64))) (vN (twB (wyT (mB (ks tp) tk gv pr py) sf tw tm) 64)))))]) rfl ?_
                refine v_ws (wz := [(ma 8, aI G 5 sx), (ma 16, aB G 32 pg), (ma 2, aI G 4 tk), (ma 3, aI G 4 gv), (ma 4, aI G 4 pr), (ma 5, aI G 4 py), (ma 7, aI G 5 ks), (ma 14, aI G 5 tw), (ma 28, aI G 64 (wyT (mB (ks tp) tk gv pr py) sf tw tm)), (ma 29, aI G 64 w2_16), (o, mO ma fi (va_up fl 37 (mx (mx hc (vN (tot (wyT (mB (ks tp) tk gv pr py) sf tw tm) 64))) (vN (twB (wyT (mB (ks tp) tk gv pr py) sf tw tm) 64)))))]) (by rw [up_up]) ?_
                refine v_iconst (pc' := 99) (v := nI 0) F dX10_digest_98 (by decide) rfl ?_
                refine v_istore_n (pc' := 100) (lv' := [(1, .int (nI 0)), (0, .ref o)]) F dX10_digest_99 rfl (by decide) rfl rfl ?_
                have L100 : ∀ (fu : Nat) (i : Nat) (hd : Int64), (i ≤ pl) → (hd = dgW pg i (dz3 lr tk gv pr py pe ks sx tg (wyT (mB (ks tp) tk gv pr py) sf tw tm))) → pl < i + fu → V pgZ l evZ rm_X10_digest sgZ mmZ agsZ blZ meZ cdZ 0 0 QZ D AZ 3 100 [(1, .int (nI i)), (0, .ref o)] [] [(ma 8, aI G 5 sx), (ma 16, aB G 32 pg), (ma 2, aI G 4 tk), (ma 3, aI G 4 gv), (ma 4, aI G 4 pr), (ma 5, aI G 4 py), (ma 7, aI G 5 ks), (ma 14, aI G 5 tw), (ma 28, aI G 64 (wyT (mB (ks tp) tk gv pr py) sf tw tm)), (ma 29, aI G 64 w2_16), (o, mO ma fi (va_up fl 37 hd))] := by
                  intro fu
                  induction fu with
                  | zero => intro i hd hi hhd hfu; exact absurd hfu (by omega)
                  | succ fu ih100 =>
                    intro i hd hi hhd hfu
                    refine v_iload_n (pc' := 101) F dX10_digest_100 rfl 0 rfl rfl ?_
                    refine v_aload_n (pc' := 102) F dX10_digest_101 rfl 1 rfl rfl ?_
                    refine v_get (pc' := 105) (v := .int (nI pl)) (C := RX10) (T := TX10) (N := 38) F dX10_digest_102 in_X10_digest_X10 10 rfl rfl 15 (by decide) (List.mem_of_getElem? (i := 6) rfl) (congrArg (fun z => some (Value.int z)) hpl) rfl ?_
                    refine v_ncmp_ge (tgt := 125) (pc' := 108) F dX10_digest_105 (by omega) (by omega) (by decide) rfl (fun c20 => ?_) (fun c20 => ?_)
                    · refine v_iconst (pc' := 126) (v := nI 0) F dX10_digest_125 (by decide) rfl ?_
                      refine v_istore_n (pc' := 127) (lv' := [(1, .int (nI 0)), (0, .ref o)]) F dX10_digest_126 rfl (by decide) rfl rfl ?_
                      have L127 : ∀ (fu : Nat) (v9 : Nat) (he : Int64), (v9 ≤ 8) → (he = dgW (countV pe sx ac tm pl lr sd) v9 (dz4 lr tk gv pr py pe ks sx tg (wyT (mB (ks tp) tk gv pr py) sf tw tm) pg pl)) → 8 < v9 + fu → V pgZ l evZ rm_X10_digest sgZ mmZ agsZ blZ meZ cdZ 0 0 QZ D AZ 3 127 [(1, .int (nI v9)), (0, .ref o)] [] [(ma 8, aI G 5 sx), (ma 16, aB G 32 pg), (ma 2, aI G 4 tk), (ma 3, aI G 4 gv), (ma 4, aI G 4 pr), (ma 5, aI G 4 py), (ma 7, aI G 5 ks), (ma 14, aI G 5 tw), (ma 28, aI G 64 (wyT (mB (ks tp) tk gv pr py) sf tw tm)), (ma 29, aI G 64 w2_16), (o, mO ma fi (va_up fl 37 he))] := by
                        intro fu
                        induction fu with
                        | zero => intro v9 he hv9 hhe hfu; exact absurd hfu (by omega)
                        | succ fu ih127 =>
                          intro v9 he hv9 hhe hfu
                          refine v_iload_n (pc' := 128) F dX10_digest_127 rfl 0 rfl rfl ?_
                          refine v_bipush (pc' := 130) (v := nI 8) F dX10_digest_128 (by decide) rfl ?_
                          refine v_ncmp_ge (tgt := 149) (pc' := 133) F dX10_digest_130 (by omega) (by omega) (by decide) rfl (fun c22 => ?_) (fun c22 => ?_)
                          · refine v_aload_n (pc' := 150) F dX10_digest_149 rfl 1 rfl rfl ?_
                            refine v_get (pc' := 153) (v := .long he) (C := RX10) (T := TX10) (N := 38) F dX10_digest_150 in_X10_digest_X10 10 rfl rfl 37 (by decide) (List.mem_of_getElem? (i := 2) rfl) rfl rfl ?_
                            refine v_perm (wz := [(o, mO ma fi (va_up fl 37 he)), (ma 2, aI G 4 tk), (ma 3, aI G 4 gv), (ma 4, aI G 4 pr), (ma 5, aI G 4 py), (ma 7, aI G 5 ks), (ma 8, aI G 5 sx), (ma 14, aI G 5 tw), (ma 16, aB G 32 pg), (ma 28, aI G 64 (wyT (mB (ks tp) tk gv pr py) sf tw tm)), (ma 29, aI G 64 w2_16)]) [10, 2, 3, 4, 5, 6, 0, 7, 1, 8, 9] (by decide) rfl ?_
                            exact rt dX10_digest_153 ((va_up fl 37 he), wyT (mB (ks tp) tk gv pr py) sf tw tm, w2_16) (by rw [hhe, show v9 = 8 by omega]; rfl) rfl
                          · refine v_aload_n (pc' := 134) F dX10_digest_133 rfl 1 rfl rfl ?_
                            refine v_aload_n (pc' := 135) F dX10_digest_134 rfl 1 rfl rfl ?_
                            refine v_iload_n (pc' := 136) F dX10_digest_135 rfl 0 rfl rfl ?_
                            refine cVI (pc' := 139) (As := [.int (nI v9)]) (rest := [.ref o]) (wr := [(ma 16, aB G 32 pg), (ma 2, aI G 4 tk), (ma 3, aI G 4 gv), (ma 4, aI G 4 pr), (ma 5, aI G 4 py), (ma 7, aI G 5 ks), (ma 14, aI G 5 tw), (ma 28, aI G 64 (wyT (mB (ks tp) tk gv pr py) sf tw tm)), (ma 29, aI G 64 w2_16)]) F (c_X10_howMany o ma fi (va_up fl 37 he) sx lr pe ac sd tm pl (nI v9) hlw hpe hac hsd htm (by assumption) h5 hs5) (cwV 1 F.2.2.2.2.1 gX10_digest_X10_howMany rfl rfl rfl (by decide +kernel) ⟨Nat.le_of_ble_eq_true rfl, Nat.le_of_ble_eq_true rfl⟩) (v_rcvW F 8 10 rfl rfl) rfl rfl (Nat.le_of_ble_eq_true rfl) dX10_digest_136 [10, 0] [1, 2, 3, 4, 5, 6, 7, 8, 9] (by decide) rfl rfl (by decide) (by decide) ⟨Nat.zero_le _, Nat.zero_le _⟩ rfl (fun r u q23 => ?_)
                            obtain rfl := q23
                            refine v_ws (wz := [(ma 16, aB G 32 pg), (ma 2, aI G 4 tk), (ma 3, aI G 4 gv), (ma 4, aI G 4 pr), (ma 5, aI G 4 py), (ma 7, aI G 5 ks), (ma 14, aI G 5 tw), (ma 28, aI G 64 (wyT (mB (ks tp) tk gv pr py) sf tw tm)), (ma 29, aI G 64 w2_16), (o, mO ma fi (va_up fl 37 he)), (ma 8, aI G 5 sx)]) rfl ?_
                            refine v_i2l (pc' := 140) (z := vN (countV pe sx ac tm pl lr sd v9)) F dX10_digest_139 (congrArg Int32.toInt64 (count_v (show v9 < 8 by omega))) rfl ?_
                            refine cVV (pc' := 143) (As := [.long (vN (countV pe sx ac tm pl lr sd v9))]) (rest := []) (wr := [(ma 16, aB G 32 pg), (ma 2, aI G 4 tk), (ma 3, aI G 4 gv), (ma 4, aI G 4 pr), (ma 5, aI G 4 py), (ma 7, aI G 5 ks), (ma 14, aI G 5 tw), (ma 28, aI G 64 (wyT (mB (ks tp) tk gv pr py) sf tw tm)), (ma 29, aI G 64 w2_16), (ma 8, aI G 5 sx)]) F (c_X10_mix o ma fi (va_up fl 37 he) he (vN (countV pe sx ac tm pl lr sd v9)) (up_at _ _ _)) (cwV 1 F.2.2.2.2.1 gX10_digest_X10_mix rfl rfl rfl (by decide +kernel) ⟨Nat.le_of_ble_eq_true rfl, Nat.le_of_ble_eq_true rfl⟩) (v_rcvW F 8 9 rfl rfl) rfl rfl (Nat.le_of_ble_eq_true rfl) dX10_digest_140 [9] [0, 1, 2, 3, 4, 5, 6, 7, 8, 10] (by decide) rfl rfl (by decide) (by decide) ⟨Nat.zero_le _, Nat.zero_le _⟩ rfl (fun u q24 => ?_)
                            refine v_ws (wz := [(ma 16, aB G 32 pg), (ma 2, aI G 4 tk), (ma 3, aI G 4 gv), (ma 4, aI G 4 pr), (ma 5, aI G 4 py), (ma 7, aI G 5 ks), (ma 14, aI G 5 tw), (ma 28, aI G 64 (wyT (mB (ks tp) tk gv pr py) sf tw tm)), (ma 29, aI G 64 w2_16), (ma 8, aI G 5 sx), (o, mO ma fi (va_up (va_up fl 37 he) 37 (mx he (vN (countV pe sx ac tm pl lr sd v9)))))]) rfl ?_
                            refine v_ws (wz := [(ma 16, aB G 32 pg), (ma 2, aI G 4 tk), (ma 3, aI G 4 gv), (ma 4, aI G 4 pr), (ma 5, aI G 4 py), (ma 7, aI G 5 ks), (ma 14, aI G 5 tw), (ma 28, aI G 64 (wyT (mB (ks tp) tk gv pr py) sf tw tm)), (ma 29, aI G 64 w2_16), (ma 8, aI G 5 sx), (o, mO ma fi (va_up fl 37 (mx he (vN (countV pe sx ac tm pl lr sd v9)))))]) (by rw [up_up]) ?_
                            refine v_iinc (pc' := 146) (v := nI (v9 + 1)) (lv' := [(1, .int (nI (v9 + 1))), (0, .ref o)]) F dX10_digest_143 0 rfl (nI_add _ _) (by decide) rfl rfl ?_
                            refine v_goto (tgt := 127) F dX10_digest_146 (by decide) ?_
                            refine v_perm (wz := [(ma 8, aI G 5 sx), (ma 16, aB G 32 pg), (ma 2, aI G 4 tk), (ma 3, aI G 4 gv), (ma 4, aI G 4 pr), (ma 5, aI G 4 py), (ma 7, aI G 5 ks), (ma 14, aI G 5 tw), (ma 28, aI G 64 (wyT (mB (ks tp) tk gv pr py) sf tw tm)), (ma 29, aI G 64 w2_16), (o, mO ma fi (va_up fl 37 (mx he (vN (countV pe sx ac tm pl lr sd v9)))))]) [9, 0, 1, 2, 3, 4, 5, 6, 7, 8, 10] (by decide) rfl ?_
                            exact ih127 (v9 + 1) (mx he (vN (countV pe sx ac tm pl lr sd v9))) (by omega) (by rw [hhe]; rfl) (by omega)
                      exact L127 (8 + 1) 0 hd (by omega) (by rw [hhd, show i = pl by omega]; rfl) (by omega)
                    · refine v_aload_n (pc' := 109) F dX10_digest_108 rfl 1 rfl rfl ?_
                      refine v_aload_n (pc' := 110) F dX10_digest_109 rfl 1 rfl rfl ?_
                      refine v_get (pc' := 113) (v := .ref (ma 16)) (C := RX10) (T := TX10) (N := 38) F dX10_digest_110 in_X10_digest_X10 10 rfl rfl 16 (by decide) (List.mem_of_getElem? (i := 7) rfl) rfl rfl ?_
                      refine v_iload_n (pc' := 114) F dX10_digest_113 rfl 0 rfl rfl ?_
                      refine v_bald (pc' := 115) (z := pg i) F dX10_digest_114 1 rfl (by omega) (by first | decide | omega) rfl rfl ?_
                      refine v_i2l (pc' := 116) (z := vN (pg i)) F dX10_digest_115 rfl rfl ?_
                      refine cVV (pc' := 119) (As := [.long (vN (pg i))]) (rest := []) (wr := [(ma 8, aI G 5 sx), (ma 16, aB G 32 pg), (ma 2, aI G 4 tk), (ma 3, aI G 4 gv), (ma 4, aI G 4 pr), (ma 5, aI G 4 py), (ma 7, aI G 5 ks), (ma 14, aI G 5 tw), (ma 28, aI G 64 (wyT (mB (ks tp) tk gv pr py) sf tw tm)), (ma 29, aI G 64 w2_16)]) F (c_X10_mix o ma fi (va_up fl 37 hd) hd (vN (pg i)) (up_at _ _ _)) (cwV 1 F.2.2.2.2.1 gX10_digest_X10_mix rfl rfl rfl (by decide +kernel) ⟨Nat.le_of_ble_eq_true rfl, Nat.le_of_ble_eq_true rfl⟩) (v_rcvW F 8 10 rfl rfl) rfl rfl (Nat.le_of_ble_eq_true rfl) dX10_digest_116 [10] [0, 1, 2, 3, 4, 5, 6, 7, 8, 9] (by decide) rfl rfl (by decide) (by decide) ⟨Nat.zero_le _, Nat.zero_le _⟩ rfl (fun u q25 => ?_)
                      refine v_ws (wz := [(ma 8, aI G 5 sx), (ma 16, aB G 32 pg), (ma 2, aI G 4 tk), (ma 3, aI G 4 gv), (ma 4, aI G 4 pr), (ma 5, aI G 4 py), (ma 7, aI G 5 ks), (ma 14, aI G 5 tw), (ma 28, aI G 64 (wyT (mB (ks tp) tk gv pr py) sf tw tm)), (ma 29, aI G 64 w2_16), (o, mO ma fi (va_up (va_up fl 37 hd) 37 (mx hd (vN (pg i)))))]) rfl ?_
                      refine v_ws (wz := [(ma 8, aI G 5 sx), (ma 16, aB G 32 pg), (ma 2, aI G 4 tk), (ma 3, aI G 4 gv), (ma 4, aI G 4 pr), (ma 5, aI G 4 py), (ma 7, aI G 5 ks), (ma 14, aI G 5 tw), (ma 28, aI G 64 (wyT (mB (ks tp) tk gv pr py) sf tw tm)), (ma 29, aI G 64 w2_16), (o, mO ma fi (va_up fl 37 (mx hd (vN (pg i)))))]) (by rw [up_up]) ?_
                      refine v_iinc (pc' := 122) (v := nI (i + 1)) (lv' := [(1, .int (nI (i + 1))), (0, .ref o)]) F dX10_digest_119 0 rfl (nI_add _ _) (by decide) rfl rfl ?_
                      refine v_goto (tgt := 100) F dX10_digest_122 (by decide) ?_
                      exact ih100 (i + 1) (mx hd (vN (pg i))) (by omega) (by rw [hhd]; rfl) (by omega)
                exact L100 (pl + 1) 0 (mx (mx hc (vN (tot (wyT (mB (ks tp) tk gv pr py) sf tw tm) 64))) (vN (twB (wyT (mB (ks tp) tk gv pr py) sf tw tm) 64))) (by omega) (by rw [hhc, show p = pe by omega]; exact dgR_y htg1) (by omega)
            · refine v_aload_n (pc' := 62) F dX10_digest_61 rfl 1 rfl rfl ?_
              refine v_iload_n (pc' := 63) F dX10_digest_62 rfl 0 rfl rfl ?_
              refine cVV (pc' := 66) (As := [.int (nI p)]) (rest := []) (wr := [(ma 14, aI G 5 tw), (ma 16, aB G 32 pg), (ma 28, aI G 64 w), (ma 29, aI G 64 w0)]) F (c_X10_mixPerson o ma fi (va_up fl 37 hc) tk gv pr py ks sx hc p (up_at _ _ _) (by omega) hwp (hl (by omega))) (cwV 1 F.2.2.2.2.1 gX10_digest_X10_mixPerson rfl rfl rfl (by decide +kernel) ⟨Nat.le_of_ble_eq_true rfl, Nat.le_of_ble_eq_true rfl⟩) (v_rcvW F 8 0 rfl rfl) rfl rfl (Nat.le_of_ble_eq_true rfl) dX10_digest_63 [0, 1, 2, 3, 4, 5, 6] [7, 8, 9, 10] (by decide) rfl rfl (by decide) (by decide) ⟨Nat.zero_le _, Nat.zero_le _⟩ rfl (fun u q26 => ?_)
              refine v_ws (wz := [(ma 14, aI G 5 tw), (ma 16, aB G 32 pg), (ma 28, aI G 64 w), (ma 29, aI G 64 w0), (o, mO ma fi (va_up (va_up fl 37 hc) 37 (dgP tk gv pr py ks sx p hc))), (ma 2, aI G 4 tk), (ma 3, aI G 4 gv), (ma 4, aI G 4 pr), (ma 5, aI G 4 py), (ma 7, aI G 5 ks), (ma 8, aI G 5 sx)]) rfl ?_
              refine v_ws (wz := [(ma 14, aI G 5 tw), (ma 16, aB G 32 pg), (ma 28, aI G 64 w), (ma 29, aI G 64 w0), (o, mO ma fi (va_up fl 37 (dgP tk gv pr py ks sx p hc))), (ma 2, aI G 4 tk), (ma 3, aI G 4 gv), (ma 4, aI G 4 pr), (ma 5, aI G 4 py), (ma 7, aI G 5 ks), (ma 8, aI G 5 sx)]) (by rw [up_up]) ?_
              refine v_iinc (pc' := 69) (v := nI (p + 1)) (lv' := [(1, .int (nI (p + 1))), (0, .ref o)]) F dX10_digest_66 0 rfl (nI_add _ _) (by decide) rfl rfl ?_
              refine v_goto (tgt := 53) F dX10_digest_69 (by decide) ?_
              refine v_perm (wz := [(o, mO ma fi (va_up fl 37 (dgP tk gv pr py ks sx p hc))), (ma 2, aI G 4 tk), (ma 3, aI G 4 gv), (ma 4, aI G 4 pr), (ma 5, aI G 4 py), (ma 7, aI G 5 ks), (ma 8, aI G 5 sx), (ma 14, aI G 5 tw), (ma 16, aB G 32 pg), (ma 28, aI G 64 w), (ma 29, aI G 64 w0)]) [4, 5, 6, 7, 8, 9, 10, 0, 1, 2, 3] (by decide) rfl ?_
              exact ih53 (p + 1) (dgP tk gv pr py ks sx p hc) (by omega) (by rw [hhc]; rfl) (by omega)
        exact L53 (pe + 1) 0 ha (by omega) (hh9) (by omega)
      · refine v_aload_n (pc' := 15) F dX10_digest_14 rfl 1 rfl rfl ?_
        refine v_get (pc' := 18) (v := .int (bI (¬ lr = 0))) (C := RX10) (T := TX10) (N := 38) F dX10_digest_15 in_X10_digest_X10 0 rfl rfl 0 (by decide) (List.mem_of_getElem? (i := 3) rfl) (congrArg (fun z => some (Value.int z)) hil) rfl ?_
        refine v_bif_eq (tgt := 51) (pc' := 21) F dX10_digest_18 (by decide) rfl (fun c27 => ?_) (fun c27 => ?_)
        · have c27 := Decidable.not_not.mp c27
          have hlr0 : lr = 0 := Decidable.not_not.mp (by assumption)
          have hh9 : ha = dz1 lr tk gv pr py pe sx := by rw [hha, htl hlr0]; exact dz1_y hlr0
          refine v_iconst (pc' := 52) (v := nI 0) F dX10_digest_51 (by decide) rfl ?_
          refine v_istore_n (pc' := 53) (lv' := [(1, .int (nI 0)), (0, .ref o)]) F dX10_digest_52 rfl (by decide) rfl rfl ?_
          have L53 : ∀ (fu : Nat) (p : Nat) (hc : Int64), (p ≤ pe) → (hc = dgPP tk gv pr py ks sx p (dz1 lr tk gv pr py pe sx)) → pe < p + fu → V pgZ l evZ rm_X10_digest sgZ mmZ agsZ blZ meZ cdZ 0 0 QZ D AZ 3 53 [(1, .int (nI p)), (0, .ref o)] [] [(o, mO ma fi (va_up fl 37 hc)), (ma 2, aI G 4 tk), (ma 3, aI G 4 gv), (ma 4, aI G 4 pr), (ma 5, aI G 4 py), (ma 7, aI G 5 ks), (ma 8, aI G 5 sx), (ma 14, aI G 5 tw), (ma 16, aB G 32 pg), (ma 28, aI G 64 w), (ma 29, aI G 64 w0)] := by
            intro fu
            induction fu with
            | zero => intro p hc hp hhc hfu; exact absurd hfu (by omega)
            | succ fu ih53 =>
              intro p hc hp hhc hfu
              refine v_iload_n (pc' := 54) F dX10_digest_53 rfl 0 rfl rfl ?_
              refine v_aload_n (pc' := 55) F dX10_digest_54 rfl 1 rfl rfl ?_
              refine v_get (pc' := 58) (v := .int (nI pe)) (C := RX10) (T := TX10) (N := 38) F dX10_digest_55 in_X10_digest_X10 0 rfl rfl 6 (by decide) (List.mem_of_getElem? (i := 4) rfl) (congrArg (fun z => some (Value.int z)) hpe) rfl ?_
              refine v_ncmp_ge (tgt := 72) (pc' := 61) F dX10_digest_58 (by omega) (by omega) (by decide) rfl (fun c29 => ?_) (fun c29 => ?_)
              · refine v_aload_n (pc' := 73) F dX10_digest_72 rfl 1 rfl rfl ?_
                refine v_get (pc' := 76) (v := .int (trI tg tp)) (C := RX10) (T := TX10) (N := 38) F dX10_digest_73 in_X10_digest_X10 0 rfl rfl 11 (by decide) (List.mem_of_getElem? (i := 5) rfl) (congrArg (fun z => some (Value.int z)) htr) rfl ?_
                refine v_iconst (pc' := 77) (v := (-1)) F dX10_digest_76 (by decide) rfl ?_
                refine v_icmp_eq (tgt := 98) (pc' := 80) F dX10_digest_77 (by decide) rfl (fun c30 => ?_) (fun c30 => ?_)
                · have htg0 := trI_no c30 htp5
                  refine v_iconst (pc' := 99) (v := nI 0) F dX10_digest_98 (by decide) rfl ?_
                  refine v_istore_n (pc' := 100) (lv' := [(1, .int (nI 0)), (0, .ref o)]) F dX10_digest_99 rfl (by decide) rfl rfl ?_
                  have L100 : ∀ (fu : Nat) (i : Nat) (hd : Int64), (i ≤ pl) → (hd = dgW pg i (dz3 lr tk gv pr py pe ks sx tg (wyT (mB (ks tp) tk gv pr py) sf tw tm))) → pl < i + fu → V pgZ l evZ rm_X10_digest sgZ mmZ agsZ blZ meZ cdZ 0 0 QZ D AZ 3 100 [(1, .int (nI i)), (0, .ref o)] [] [(o, mO ma fi (va_up fl 37 hd)), (ma 2, aI G 4 tk), (ma 3, aI G 4 gv), (ma 4, aI G 4 pr), (ma 5, aI G 4 py), (ma 7, aI G 5 ks), (ma 8, aI G 5 sx), (ma 14, aI G 5 tw), (ma 16, aB G 32 pg), (ma 28, aI G 64 w), (ma 29, aI G 64 w0)] := by
                    intro fu
                    induction fu with
                    | zero => intro i hd hi hhd hfu; exact absurd hfu (by omega)
                    | succ fu ih100 =>
                      intro i hd hi hhd hfu
                      refine v_iload_n (pc' := 101) F dX10_digest_100 rfl 0 rfl rfl ?_
                      refine v_aload_n (pc' := 102) F dX10_digest_101 rfl 1 rfl rfl ?_
                      refine v_get (pc' := 105) (v := .int (nI pl)) (C := RX10) (T := TX10) (N := 38) F dX10_digest_102 in_X10_digest_X10 0 rfl rfl 15 (by decide) (List.mem_of_getElem? (i := 6) rfl) (congrArg (fun z => some (Value.int z)) hpl) rfl ?_
                      refine v_ncmp_ge (tgt := 125) (pc' := 108) F dX10_digest_105 (by omega) (by omega) (by decide) rfl (fun c32 => ?_) (fun c32 => ?_)
                      · refine v_iconst (pc' := 126) (v := nI 0) F dX10_digest_125 (by decide) rfl ?_
                        refine v_istore_n (pc' := 127) (lv' := [(1, .int (nI 0)), (0, .ref o)]) F dX10_digest_126 rfl (by decide) rfl rfl ?_
                        have L127 : ∀ (fu : Nat) (v9 : Nat) (he : Int64), (v9 ≤ 8) → (he = dgW (countV pe sx ac tm pl lr sd) v9 (dz4 lr tk gv pr py pe ks sx tg (wyT (mB (ks tp) tk gv pr py) sf tw tm) pg pl)) → 8 < v9 + fu → V pgZ l evZ rm_X10_digest sgZ mmZ agsZ blZ meZ cdZ 0 0 QZ D AZ 3 127 [(1, .int (nI v9)), (0, .ref o)] [] [(o, mO ma fi (va_up fl 37 he)), (ma 2, aI G 4 tk), (ma 3, aI G 4 gv), (ma 4, aI G 4 pr), (ma 5, aI G 4 py), (ma 7, aI G 5 ks), (ma 8, aI G 5 sx), (ma 14, aI G 5 tw), (ma 16, aB G 32 pg), (ma 28, aI G 64 w), (ma 29, aI G 64 w0)] := by
                          intro fu
                          induction fu with
                          | zero => intro v9 he hv9 hhe hfu; exact absurd hfu (by omega)
                          | succ fu ih127 =>
                            intro v9 he hv9 hhe hfu
                            refine v_iload_n (pc' := 128) F dX10_digest_127 rfl 0 rfl rfl ?_
                            refine v_bipush (pc' := 130) (v := nI 8) F dX10_digest_128 (by decide) rfl ?_
                            refine v_ncmp_ge (tgt := 149) (pc' := 133) F dX10_digest_130 (by omega) (by omega) (by decide) rfl (fun c34 => ?_) (fun c34 => ?_)
                            · refine v_aload_n (pc' := 150) F dX10_digest_149 rfl 1 rfl rfl ?_
                              refine v_get (pc' := 153) (v := .long he) (C := RX10) (T := TX10) (N := 38) F dX10_digest_150 in_X10_digest_X10 0 rfl rfl 37 (by decide) (List.mem_of_getElem? (i := 2) rfl) rfl rfl ?_
                              exact rt dX10_digest_153 ((va_up fl 37 he), w, w0) (by rw [hhe, show v9 = 8 by omega]; rfl) rfl
                            · refine v_aload_n (pc' := 134) F dX10_digest_133 rfl 1 rfl rfl ?_
                              refine v_aload_n (pc' := 135) F dX10_digest_134 rfl 1 rfl rfl ?_
                              refine v_iload_n (pc' := 136) F dX10_digest_135 rfl 0 rfl rfl ?_
                              refine cVI (pc' := 139) (As := [.int (nI v9)]) (rest := [.ref o]) (wr := [(ma 2, aI G 4 tk), (ma 3, aI G 4 gv), (ma 4, aI G 4 pr), (ma 5, aI G 4 py), (ma 7, aI G 5 ks), (ma 14, aI G 5 tw), (ma 16, aB G 32 pg), (ma 28, aI G 64 w), (ma 29, aI G 64 w0)]) F (c_X10_howMany o ma fi (va_up fl 37 he) sx lr pe ac sd tm pl (nI v9) hlw hpe hac hsd htm (by assumption) h5 hs5) (cwV 1 F.2.2.2.2.1 gX10_digest_X10_howMany rfl rfl rfl (by decide +kernel) ⟨Nat.le_of_ble_eq_true rfl, Nat.le_of_ble_eq_true rfl⟩) (v_rcvW F 8 0 rfl rfl) rfl rfl (Nat.le_of_ble_eq_true rfl) dX10_digest_136 [0, 6] [1, 2, 3, 4, 5, 7, 8, 9, 10] (by decide) rfl rfl (by decide) (by decide) ⟨Nat.zero_le _, Nat.zero_le _⟩ rfl (fun r u q35 => ?_)
                              obtain rfl := q35
                              refine v_ws (wz := [(ma 2, aI G 4 tk), (ma 3, aI G 4 gv), (ma 4, aI G 4 pr), (ma 5, aI G 4 py), (ma 7, aI G 5 ks), (ma 14, aI G 5 tw), (ma 16, aB G 32 pg), (ma 28, aI G 64 w), (ma 29, aI G 64 w0), (o, mO ma fi (va_up fl 37 he)), (ma 8, aI G 5 sx)]) rfl ?_
                              refine v_i2l (pc' := 140) (z := vN (countV pe sx ac tm pl lr sd v9)) F dX10_digest_139 (congrArg Int32.toInt64 (count_v (show v9 < 8 by omega))) rfl ?_
                              refine cVV (pc' := 143) (As := [.long (vN (countV pe sx ac tm pl lr sd v9))]) (rest := []) (wr := [(ma 2, aI G 4 tk), (ma 3, aI G 4 gv), (ma 4, aI G 4 pr), (ma 5, aI G 4 py), (ma 7, aI G 5 ks), (ma 14, aI G 5 tw), (ma 16, aB G 32 pg), (ma 28, aI G 64 w), (ma 29, aI G 64 w0), (ma 8, aI G 5 sx)]) F (c_X10_mix o ma fi (va_up fl 37 he) he (vN (countV pe sx ac tm pl lr sd v9)) (up_at _ _ _)) (cwV 1 F.2.2.2.2.1 gX10_digest_X10_mix rfl rfl rfl (by decide +kernel) ⟨Nat.le_of_ble_eq_true rfl, Nat.le_of_ble_eq_true rfl⟩) (v_rcvW F 8 9 rfl rfl) rfl rfl (Nat.le_of_ble_eq_true rfl) dX10_digest_140 [9] [0, 1, 2, 3, 4, 5, 6, 7, 8, 10] (by decide) rfl rfl (by decide) (by decide) ⟨Nat.zero_le _, Nat.zero_le _⟩ rfl (fun u q36 => ?_)
                              refine v_ws (wz := [(ma 2, aI G 4 tk), (ma 3, aI G 4 gv), (ma 4, aI G 4 pr), (ma 5, aI G 4 py), (ma 7, aI G 5 ks), (ma 14, aI G 5 tw), (ma 16, aB G 32 pg), (ma 28, aI G 64 w), (ma 29, aI G 64 w0), (ma 8, aI G 5 sx), (o, mO ma fi (va_up (va_up fl 37 he) 37 (mx he (vN (countV pe sx ac tm pl lr sd v9)))))]) rfl ?_
                              refine v_ws (wz := [(ma 2, aI G 4 tk), (ma 3, aI G 4 gv), (ma 4, aI G 4 pr), (ma 5, aI G 4 py), (ma 7, aI G 5 ks), (ma 14, aI G 5 tw), (ma 16, aB G 32 pg), (ma 28, aI G 64 w), (ma 29, aI G 64 w0), (ma 8, aI G 5 sx), (o, mO ma fi (va_up fl 37 (mx he (vN (countV pe sx ac tm pl lr sd v9)))))]) (by rw [up_up]) ?_
                              refine v_iinc (pc' := 146) (v := nI (v9 + 1)) (lv' := [(1, .int (nI (v9 + 1))), (0, .ref o)]) F dX10_digest_143 0 rfl (nI_add _ _) (by decide) rfl rfl ?_
                              refine v_goto (tgt := 127) F dX10_digest_146 (by decide) ?_
                              refine v_perm (wz := [(o, mO ma fi (va_up fl 37 (mx he (vN (countV pe sx ac tm pl lr sd v9))))), (ma 2, aI G 4 tk), (ma 3, aI G 4 gv), (ma 4, aI G 4 pr), (ma 5, aI G 4 py), (ma 7, aI G 5 ks), (ma 8, aI G 5 sx), (ma 14, aI G 5 tw), (ma 16, aB G 32 pg), (ma 28, aI G 64 w), (ma 29, aI G 64 w0)]) [10, 0, 1, 2, 3, 4, 9, 5, 6, 7, 8] (by decide) rfl ?_
                              exact ih127 (v9 + 1) (mx he (vN (countV pe sx ac tm pl lr sd v9))) (by omega) (by rw [hhe]; rfl) (by omega)
                        exact L127 (8 + 1) 0 hd (by omega) (by rw [hhd, show i = pl by omega]; rfl) (by omega)
                      · refine v_aload_n (pc' := 109) F dX10_digest_108 rfl 1 rfl rfl ?_
                        refine v_aload_n (pc' := 110) F dX10_digest_109 rfl 1 rfl rfl ?_
                        refine v_get (pc' := 113) (v := .ref (ma 16)) (C := RX10) (T := TX10) (N := 38) F dX10_digest_110 in_X10_digest_X10 0 rfl rfl 16 (by decide) (List.mem_of_getElem? (i := 7) rfl) rfl rfl ?_
                        refine v_iload_n (pc' := 114) F dX10_digest_113 rfl 0 rfl rfl ?_
                        refine v_bald (pc' := 115) (z := pg i) F dX10_digest_114 8 rfl (by omega) (by first | decide | omega) rfl rfl ?_
                        refine v_i2l (pc' := 116) (z := vN (pg i)) F dX10_digest_115 rfl rfl ?_
                        refine cVV (pc' := 119) (As := [.long (vN (pg i))]) (rest := []) (wr := [(ma 2, aI G 4 tk), (ma 3, aI G 4 gv), (ma 4, aI G 4 pr), (ma 5, aI G 4 py), (ma 7, aI G 5 ks), (ma 8, aI G 5 sx), (ma 14, aI G 5 tw), (ma 16, aB G 32 pg), (ma 28, aI G 64 w), (ma 29, aI G 64 w0)]) F (c_X10_mix o ma fi (va_up fl 37 hd) hd (vN (pg i)) (up_at _ _ _)) (cwV 1 F.2.2.2.2.1 gX10_digest_X10_mix rfl rfl rfl (by decide +kernel) ⟨Nat.le_of_ble_eq_true rfl, Nat.le_of_ble_eq_true rfl⟩) (v_rcvW F 8 0 rfl rfl) rfl rfl (Nat.le_of_ble_eq_true rfl) dX10_digest_116 [0] [1, 2, 3, 4, 5, 6, 7, 8, 9, 10] (by decide) rfl rfl (by decide) (by decide) ⟨Nat.zero_le _, Nat.zero_le _⟩ rfl (fun u q37 => ?_)
                        refine v_ws (wz := [(ma 2, aI G 4 tk), (ma 3, aI G 4 gv), (ma 4, aI G 4 pr), (ma 5, aI G 4 py), (ma 7, aI G 5 ks), (ma 8, aI G 5 sx), (ma 14, aI G 5 tw), (ma 16, aB G 32 pg), (ma 28, aI G 64 w), (ma 29, aI G 64 w0), (o, mO ma fi (va_up (va_up fl 37 hd) 37 (mx hd (vN (pg i)))))]) rfl ?_
                        refine v_ws (wz := [(ma 2, aI G 4 tk), (ma 3, aI G 4 gv), (ma 4, aI G 4 pr), (ma 5, aI G 4 py), (ma 7, aI G 5 ks), (ma 8, aI G 5 sx), (ma 14, aI G 5 tw), (ma 16, aB G 32 pg), (ma 28, aI G 64 w), (ma 29, aI G 64 w0), (o, mO ma fi (va_up fl 37 (mx hd (vN (pg i)))))]) (by rw [up_up]) ?_
                        refine v_iinc (pc' := 122) (v := nI (i + 1)) (lv' := [(1, .int (nI (i + 1))), (0, .ref o)]) F dX10_digest_119 0 rfl (nI_add _ _) (by decide) rfl rfl ?_
                        refine v_goto (tgt := 100) F dX10_digest_122 (by decide) ?_
                        refine v_perm (wz := [(o, mO ma fi (va_up fl 37 (mx hd (vN (pg i))))), (ma 2, aI G 4 tk), (ma 3, aI G 4 gv), (ma 4, aI G 4 pr), (ma 5, aI G 4 py), (ma 7, aI G 5 ks), (ma 8, aI G 5 sx), (ma 14, aI G 5 tw), (ma 16, aB G 32 pg), (ma 28, aI G 64 w), (ma 29, aI G 64 w0)]) [10, 0, 1, 2, 3, 4, 5, 6, 7, 8, 9] (by decide) rfl ?_
                        exact ih100 (i + 1) (mx hd (vN (pg i))) (by omega) (by rw [hhd]; rfl) (by omega)
                  exact L100 (pl + 1) 0 hc (by omega) (by rw [hhc, show p = pe by omega]; exact dgR_n htg0) (by omega)
                · have htg1 := trI_yes c30
                  have hl9 := hlt htg1
                  have hk9 := (hwp tp htp5).1
                  have htp9 : fi 11 = nI tp := by rw [htr]; exact if_neg htg1
                  refine v_aload_n (pc' := 81) F dX10_digest_80 rfl 1 rfl rfl ?_
                  refine v_aload_n (pc' := 82) F dX10_digest_81 rfl 1 rfl rfl ?_
                  refine cVI (pc' := 85) (As := []) (rest := [.ref o]) (wr := [(ma 8, aI G 5 sx), (ma 16, aB G 32 pg)]) F (c_X10_waysNow o ma fi (va_up fl 37 hc) tk gv pr py ks tw w w0 tp sf tm htp9 hsf htm hl9 htp5 hk9 hs4 hm5 htw) (cwV 0 F.2.2.2.2.1 gX10_digest_X10_waysNow rfl rfl rfl (by decide +kernel) ⟨Nat.le_of_ble_eq_true rfl, Nat.le_of_ble_eq_true rfl⟩) (v_rcvW F 8 0 rfl rfl) rfl rfl (Nat.le_of_ble_eq_true rfl) dX10_digest_82 [0, 1, 2, 3, 4, 5, 7, 9, 10] [6, 8] (by decide) rfl rfl (by decide) (by decide) ⟨Nat.zero_le _, Nat.zero_le _⟩ rfl (fun r u q39 => ?_)
                  obtain ⟨w2_38, hu9⟩ : ∃ z, z = u := ⟨_, rfl⟩
                  subst hu9
                  obtain rfl := q39
                  refine v_ws (wz := [(ma 8, aI G 5 sx), (ma 16, aB G 32 pg), (o, mO ma fi (va_up fl 37 hc)), (ma 2, aI G 4 tk), (ma 3, aI G 4 gv), (ma 4, aI G 4 pr), (ma 5, aI G 4 py), (ma 7, aI G 5 ks), (ma 14, aI G 5 tw), (ma 28, aI G 64 (wyT (mB (ks tp) tk gv pr py) sf tw tm)), (ma 29, aI G 64 w2_38)]) rfl ?_
                  refine v_i2l (pc' := 86) (z := vN (tot (wyT (mB (ks tp) tk gv pr py) sf tw tm) 64)) F dX10_digest_85 rfl rfl ?_
                  refine cVV (pc' := 89) (As := [.long (vN (tot (wyT (mB (ks tp) tk gv pr py) sf tw tm) 64))]) (rest := []) (wr := [(ma 8, aI G 5 sx), (ma 16, aB G 32 pg), (ma 2, aI G 4 tk), (ma 3, aI G 4 gv), (ma 4, aI G 4 pr), (ma 5, aI G 4 py), (ma 7, aI G 5 ks), (ma 14, aI G 5 tw), (ma 28, aI G 64 (wyT (mB (ks tp) tk gv pr py) sf tw tm)), (ma 29, aI G 64 w2_38)]) F (c_X10_mix o ma fi (va_up fl 37 hc) hc (vN (tot (wyT (mB (ks tp) tk gv pr py) sf tw tm) 64)) (up_at _ _ _)) (cwV 1 F.2.2.2.2.1 gX10_digest_X10_mix rfl rfl rfl (by decide +kernel) ⟨Nat.le_of_ble_eq_true rfl, Nat.le_of_ble_eq_true rfl⟩) (v_rcvW F 8 2 rfl rfl) rfl rfl (Nat.le_of_ble_eq_true rfl) dX10_digest_86 [2] [0, 1, 3, 4, 5, 6, 7, 8, 9, 10] (by decide) rfl rfl (by decide) (by decide) ⟨Nat.zero_le _, Nat.zero_le _⟩ rfl (fun u q40 => ?_)
                  refine v_ws (wz := [(ma 8, aI G 5 sx), (ma 16, aB G 32 pg), (ma 2, aI G 4 tk), (ma 3, aI G 4 gv), (ma 4, aI G 4 pr), (ma 5, aI G 4 py), (ma 7, aI G 5 ks), (ma 14, aI G 5 tw), (ma 28, aI G 64 (wyT (mB (ks tp) tk gv pr py) sf tw tm)), (ma 29, aI G 64 w2_38), (o, mO ma fi (va_up (va_up fl 37 hc) 37 (mx hc (vN (tot (wyT (mB (ks tp) tk gv pr py) sf tw tm) 64)))))]) rfl ?_
                  refine v_ws (wz := [(ma 8, aI G 5 sx), (ma 16, aB G 32 pg), (ma 2, aI G 4 tk), (ma 3, aI G 4 gv), (ma 4, aI G 4 pr), (ma 5, aI G 4 py), (ma 7, aI G 5 ks), (ma 14, aI G 5 tw), (ma 28, aI G 64 (wyT (mB (ks tp) tk gv pr py) sf tw tm)), (ma 29, aI G 64 w2_38), (o, mO ma fi (va_up fl 37 (mx hc (vN (tot (wyT (mB (ks tp) tk gv pr py) sf tw tm) 64)))))]) (by rw [up_up]) ?_
                  refine v_aload_n (pc' := 90) F dX10_digest_89 rfl 1 rfl rfl ?_
                  refine v_aload_n (pc' := 91) F dX10_digest_90 rfl 1 rfl rfl ?_
                  refine cVI (pc' := 94) (As := []) (rest := [.ref o]) (wr := [(ma 8, aI G 5 sx), (ma 16, aB G 32 pg)]) F (c_X10_endsNow o ma fi (va_up fl 37 (mx hc (vN (tot (wyT (mB (ks tp) tk gv pr py) sf tw tm) 64)))) tk gv pr py ks tw (wyT (mB (ks tp) tk gv pr py) sf tw tm) w2_38 tp sf tm htp9 hsf htm hl9 htp5 hk9 hs4 hm5 htw) (cwV 0 F.2.2.2.2.1 gX10_digest_X10_endsNow rfl rfl rfl (by decide +kernel) ⟨Nat.le_of_ble_eq_true rfl, Nat.le_of_ble_eq_true rfl⟩) (v_rcvW F 8 10 rfl rfl) rfl rfl (Nat.le_of_ble_eq_true rfl) dX10_digest_91 [10, 2, 3, 4, 5, 6, 7, 8, 9] [0, 1] (by decide) rfl rfl (by decide) (by decide) ⟨Nat.zero_le _, Nat.zero_le _⟩ rfl (fun r u q42 => ?_)
                  obtain ⟨w2_41, hu9⟩ : ∃ z, z = u := ⟨_, rfl⟩
                  subst hu9
                  obtain rfl := q42
                  refine v_ws (wz := [(ma 8, aI G 5 sx), (ma 16, aB G 32 pg), (o, mO ma fi (va_up fl 37 (mx hc (vN (tot (wyT (mB (ks tp) tk gv pr py) sf tw tm) 64))))), (ma 2, aI G 4 tk), (ma 3, aI G 4 gv), (ma 4, aI G 4 pr), (ma 5, aI G 4 py), (ma 7, aI G 5 ks), (ma 14, aI G 5 tw), (ma 28, aI G 64 (wyT (mB (ks tp) tk gv pr py) sf tw tm)), (ma 29, aI G 64 w2_41)]) rfl ?_
                  refine v_i2l (pc' := 95) (z := vN (twB (wyT (mB (ks tp) tk gv pr py) sf tw tm) 64)) F dX10_digest_94 rfl rfl ?_
                  refine cVV (pc' := 98) (As := [.long (vN (twB (wyT (mB (ks tp) tk gv pr py) sf tw tm) 64))]) (rest := []) (wr := [(ma 8, aI G 5 sx), (ma 16, aB G 32 pg), (ma 2, aI G 4 tk), (ma 3, aI G 4 gv), (ma 4, aI G 4 pr), (ma 5, aI G 4 py), (ma 7, aI G 5 ks), (ma 14, aI G 5 tw), (ma 28, aI G 64 (wyT (mB (ks tp) tk gv pr py) sf tw tm)), (ma 29, aI G 64 w2_41)]) F (c_X10_mix o ma fi (va_up fl 37 (mx hc (vN (tot (wyT (mB (ks tp) tk gv pr py) sf tw tm) 64)))) (mx hc (vN (tot (wyT (mB (ks tp) tk gv pr py) sf tw tm) 64))) (vN (twB (wyT (mB (ks tp) tk gv pr py) sf tw tm) 64)) (up_at _ _ _)) (cwV 1 F.2.2.2.2.1 gX10_digest_X10_mix rfl rfl rfl (by decide +kernel) ⟨Nat.le_of_ble_eq_true rfl, Nat.le_of_ble_eq_true rfl⟩) (v_rcvW F 8 2 rfl rfl) rfl rfl (Nat.le_of_ble_eq_true rfl) dX10_digest_95 [2] [0, 1, 3, 4, 5, 6, 7, 8, 9, 10] (by decide) rfl rfl (by decide) (by decide) ⟨Nat.zero_le _, Nat.zero_le _⟩ rfl (fun u q43 => ?_)
                  refine v_ws (wz := [(ma 8, aI G 5 sx), (ma 16, aB G 32 pg), (ma 2, aI G 4 tk), (ma 3, aI G 4 gv), (ma 4, aI G 4 pr), (ma 5, aI G 4 py), (ma 7, aI G 5 ks), (ma 14, aI G 5 tw), (ma 28, aI G 64 (wyT (mB (ks tp) tk gv pr py) sf tw tm)), (ma 29, aI G 64 w2_41), (o, mO ma fi (va_up (va_up fl 37 (mx hc (vN (tot (wyT (mB (ks tp) tk gv pr py) sf tw tm) 64)))) 37 (mx (mx hc (vN (tot (wyT (mB (ks tp) tk gv pr py) sf tw tm) 64))) (vN (twB (wyT (mB (ks tp) tk gv pr py) sf tw tm) 64)))))]) rfl ?_
                  refine v_ws (wz := [(ma 8, aI G 5 sx), (ma 16, aB G 32 pg), (ma 2, aI G 4 tk), (ma 3, aI G 4 gv), (ma 4, aI G 4 pr), (ma 5, aI G 4 py), (ma 7, aI G 5 ks), (ma 14, aI G 5 tw), (ma 28, aI G 64 (wyT (mB (ks tp) tk gv pr py) sf tw tm)), (ma 29, aI G 64 w2_41), (o, mO ma fi (va_up fl 37 (mx (mx hc (vN (tot (wyT (mB (ks tp) tk gv pr py) sf tw tm) 64))) (vN (twB (wyT (mB (ks tp) tk gv pr py) sf tw tm) 64)))))]) (by rw [up_up]) ?_
                  refine v_iconst (pc' := 99) (v := nI 0) F dX10_digest_98 (by decide) rfl ?_
                  refine v_istore_n (pc' := 100) (lv' := [(1, .int (nI 0)), (0, .ref o)]) F dX10_digest_99 rfl (by decide) rfl rfl ?_
                  have L100 : ∀ (fu : Nat) (i : Nat) (hd : Int64), (i ≤ pl) → (hd = dgW pg i (dz3 lr tk gv pr py pe ks sx tg (wyT (mB (ks tp) tk gv pr py) sf tw tm))) → pl < i + fu → V pgZ l evZ rm_X10_digest sgZ mmZ agsZ blZ meZ cdZ 0 0 QZ D AZ 3 100 [(1, .int (nI i)), (0, .ref o)] [] [(ma 8, aI G 5 sx), (ma 16, aB G 32 pg), (ma 2, aI G 4 tk), (ma 3, aI G 4 gv), (ma 4, aI G 4 pr), (ma 5, aI G 4 py), (ma 7, aI G 5 ks), (ma 14, aI G 5 tw), (ma 28, aI G 64 (wyT (mB (ks tp) tk gv pr py) sf tw tm)), (ma 29, aI G 64 w2_41), (o, mO ma fi (va_up fl 37 hd))] := by
                    intro fu
                    induction fu with
                    | zero => intro i hd hi hhd hfu; exact absurd hfu (by omega)
                    | succ fu ih100 =>
                      intro i hd hi hhd hfu
                      refine v_iload_n (pc' := 101) F dX10_digest_100 rfl 0 rfl rfl ?_
                      refine v_aload_n (pc' := 102) F dX10_digest_101 rfl 1 rfl rfl ?_
                      refine v_get (pc' := 105) (v := .int (nI pl)) (C := RX10) (T := TX10) (N := 38) F dX10_digest_102 in_X10_digest_X10 10 rfl rfl 15 (by decide) (List.mem_of_getElem? (i := 6) rfl) (congrArg (fun z => some (Value.int z)) hpl) rfl ?_
                      refine v_ncmp_ge (tgt := 125) (pc' := 108) F dX10_digest_105 (by omega) (by omega) (by decide) rfl (fun c45 => ?_) (fun c45 => ?_)
                      · refine v_iconst (pc' := 126) (v := nI 0) F dX10_digest_125 (by decide) rfl ?_
                        refine v_istore_n (pc' := 127) (lv' := [(1, .int (nI 0)), (0, .ref o)]) F dX10_digest_126 rfl (by decide) rfl rfl ?_
                        have L127 : ∀ (fu : Nat) (v9 : Nat) (he : Int64), (v9 ≤ 8) → (he = dgW (countV pe sx ac tm pl lr sd) v9 (dz4 lr tk gv pr py pe ks sx tg (wyT (mB (ks tp) tk gv pr py) sf tw tm) pg pl)) → 8 < v9 + fu → V pgZ l evZ rm_X10_digest sgZ mmZ agsZ blZ meZ cdZ 0 0 QZ D AZ 3 127 [(1, .int (nI v9)), (0, .ref o)] [] [(ma 8, aI G 5 sx), (ma 16, aB G 32 pg), (ma 2, aI G 4 tk), (ma 3, aI G 4 gv), (ma 4, aI G 4 pr), (ma 5, aI G 4 py), (ma 7, aI G 5 ks), (ma 14, aI G 5 tw), (ma 28, aI G 64 (wyT (mB (ks tp) tk gv pr py) sf tw tm)), (ma 29, aI G 64 w2_41), (o, mO ma fi (va_up fl 37 he))] := by
                          intro fu
                          induction fu with
                          | zero => intro v9 he hv9 hhe hfu; exact absurd hfu (by omega)
                          | succ fu ih127 =>
                            intro v9 he hv9 hhe hfu
                            refine v_iload_n (pc' := 128) F dX10_digest_127 rfl 0 rfl rfl ?_
                            refine v_bipush (pc' := 130) (v := nI 8) F dX10_digest_128 (by decide) rfl ?_
                            refine v_ncmp_ge (tgt := 149) (pc' := 133) F dX10_digest_130 (by omega) (by omega) (by decide) rfl (fun c47 => ?_) (fun c47 => ?_)
                            · refine v_aload_n (pc' := 150) F dX10_digest_149 rfl 1 rfl rfl ?_
                              refine v_get (pc' := 153) (v := .long he) (C := RX10) (T := TX10) (N := 38) F dX10_digest_150 in_X10_digest_X10 10 rfl rfl 37 (by decide) (List.mem_of_getElem? (i := 2) rfl) rfl rfl ?_
                              refine v_perm (wz := [(o, mO ma fi (va_up fl 37 he)), (ma 2, aI G 4 tk), (ma 3, aI G 4 gv), (ma 4, aI G 4 pr), (ma 5, aI G 4 py), (ma 7, aI G 5 ks), (ma 8, aI G 5 sx), (ma 14, aI G 5 tw), (ma 16, aB G 32 pg), (ma 28, aI G 64 (wyT (mB (ks tp) tk gv pr py) sf tw tm)), (ma 29, aI G 64 w2_41)]) [10, 2, 3, 4, 5, 6, 0, 7, 1, 8, 9] (by decide) rfl ?_
                              exact rt dX10_digest_153 ((va_up fl 37 he), wyT (mB (ks tp) tk gv pr py) sf tw tm, w2_41) (by rw [hhe, show v9 = 8 by omega]; rfl) rfl
                            · refine v_aload_n (pc' := 134) F dX10_digest_133 rfl 1 rfl rfl ?_
                              refine v_aload_n (pc' := 135) F dX10_digest_134 rfl 1 rfl rfl ?_
                              refine v_iload_n (pc' := 136) F dX10_digest_135 rfl 0 rfl rfl ?_
                              refine cVI (pc' := 139) (As := [.int (nI v9)]) (rest := [.ref o]) (wr := [(ma 16, aB G 32 pg), (ma 2, aI G 4 tk), (ma 3, aI G 4 gv), (ma 4, aI G 4 pr), (ma 5, aI G 4 py), (ma 7, aI G 5 ks), (ma 14, aI G 5 tw), (ma 28, aI G 64 (wyT (mB (ks tp) tk gv pr py) sf tw tm)), (ma 29, aI G 64 w2_41)]) F (c_X10_howMany o ma fi (va_up fl 37 he) sx lr pe ac sd tm pl (nI v9) hlw hpe hac hsd htm (by assumption) h5 hs5) (cwV 1 F.2.2.2.2.1 gX10_digest_X10_howMany rfl rfl rfl (by decide +kernel) ⟨Nat.le_of_ble_eq_true rfl, Nat.le_of_ble_eq_true rfl⟩) (v_rcvW F 8 10 rfl rfl) rfl rfl (Nat.le_of_ble_eq_true rfl) dX10_digest_136 [10, 0] [1, 2, 3, 4, 5, 6, 7, 8, 9] (by decide) rfl rfl (by decide) (by decide) ⟨Nat.zero_le _, Nat.zero_le _⟩ rfl (fun r u q48 => ?_)
                              obtain rfl := q48
                              refine v_ws (wz := [(ma 16, aB G 32 pg), (ma 2, aI G 4 tk), (ma 3, aI G 4 gv), (ma 4, aI G 4 pr), (ma 5, aI G 4 py), (ma 7, aI G 5 ks), (ma 14, aI G 5 tw), (ma 28, aI G 64 (wyT (mB (ks tp) tk gv pr py) sf tw tm)), (ma 29, aI G 64 w2_41), (o, mO ma fi (va_up fl 37 he)), (ma 8, aI G 5 sx)]) rfl ?_
                              refine v_i2l (pc' := 140) (z := vN (countV pe sx ac tm pl lr sd v9)) F dX10_digest_139 (congrArg Int32.toInt64 (count_v (show v9 < 8 by omega))) rfl ?_
                              refine cVV (pc' := 143) (As := [.long (vN (countV pe sx ac tm pl lr sd v9))]) (rest := []) (wr := [(ma 16, aB G 32 pg), (ma 2, aI G 4 tk), (ma 3, aI G 4 gv), (ma 4, aI G 4 pr), (ma 5, aI G 4 py), (ma 7, aI G 5 ks), (ma 14, aI G 5 tw), (ma 28, aI G 64 (wyT (mB (ks tp) tk gv pr py) sf tw tm)), (ma 29, aI G 64 w2_41), (ma 8, aI G 5 sx)]) F (c_X10_mix o ma fi (va_up fl 37 he) he (vN (countV pe sx ac tm pl lr sd v9)) (up_at _ _ _)) (cwV 1 F.2.2.2.2.1 gX10_digest_X10_mix rfl rfl rfl (by decide +kernel) ⟨Nat.le_of_ble_eq_true rfl, Nat.le_of_ble_eq_true rfl⟩) (v_rcvW F 8 9 rfl rfl) rfl rfl (Nat.le_of_ble_eq_true rfl) dX10_digest_140 [9] [0, 1, 2, 3, 4, 5, 6, 7, 8, 10] (by decide) rfl rfl (by decide) (by decide) ⟨Nat.zero_le _, Nat.zero_le _⟩ rfl (fun u q49 => ?_)
                              refine v_ws (wz := [(ma 16, aB G 32 pg), (ma 2, aI G 4 tk), (ma 3, aI G 4 gv), (ma 4, aI G 4 pr), (ma 5, aI G 4 py), (ma 7, aI G 5 ks), (ma 14, aI G 5 tw), (ma 28, aI G 64 (wyT (mB (ks tp) tk gv pr py) sf tw tm)), (ma 29, aI G 64 w2_41), (ma 8, aI G 5 sx), (o, mO ma fi (va_up (va_up fl 37 he) 37 (mx he (vN (countV pe sx ac tm pl lr sd v9)))))]) rfl ?_
                              refine v_ws (wz := [(ma 16, aB G 32 pg), (ma 2, aI G 4 tk), (ma 3, aI G 4 gv), (ma 4, aI G 4 pr), (ma 5, aI G 4 py), (ma 7, aI G 5 ks), (ma 14, aI G 5 tw), (ma 28, aI G 64 (wyT (mB (ks tp) tk gv pr py) sf tw tm)), (ma 29, aI G 64 w2_41), (ma 8, aI G 5 sx), (o, mO ma fi (va_up fl 37 (mx he (vN (countV pe sx ac tm pl lr sd v9)))))]) (by rw [up_up]) ?_
                              refine v_iinc (pc' := 146) (v := nI (v9 + 1)) (lv' := [(1, .int (nI (v9 + 1))), (0, .ref o)]) F dX10_digest_143 0 rfl (nI_add _ _) (by decide) rfl rfl ?_
                              refine v_goto (tgt := 127) F dX10_digest_146 (by decide) ?_
                              refine v_perm (wz := [(ma 8, aI G 5 sx), (ma 16, aB G 32 pg), (ma 2, aI G 4 tk), (ma 3, aI G 4 gv), (ma 4, aI G 4 pr), (ma 5, aI G 4 py), (ma 7, aI G 5 ks), (ma 14, aI G 5 tw), (ma 28, aI G 64 (wyT (mB (ks tp) tk gv pr py) sf tw tm)), (ma 29, aI G 64 w2_41), (o, mO ma fi (va_up fl 37 (mx he (vN (countV pe sx ac tm pl lr sd v9)))))]) [9, 0, 1, 2, 3, 4, 5, 6, 7, 8, 10] (by decide) rfl ?_
                              exact ih127 (v9 + 1) (mx he (vN (countV pe sx ac tm pl lr sd v9))) (by omega) (by rw [hhe]; rfl) (by omega)
                        exact L127 (8 + 1) 0 hd (by omega) (by rw [hhd, show i = pl by omega]; rfl) (by omega)
                      · refine v_aload_n (pc' := 109) F dX10_digest_108 rfl 1 rfl rfl ?_
                        refine v_aload_n (pc' := 110) F dX10_digest_109 rfl 1 rfl rfl ?_
                        refine v_get (pc' := 113) (v := .ref (ma 16)) (C := RX10) (T := TX10) (N := 38) F dX10_digest_110 in_X10_digest_X10 10 rfl rfl 16 (by decide) (List.mem_of_getElem? (i := 7) rfl) rfl rfl ?_
                        refine v_iload_n (pc' := 114) F dX10_digest_113 rfl 0 rfl rfl ?_
                        refine v_bald (pc' := 115) (z := pg i) F dX10_digest_114 1 rfl (by omega) (by first | decide | omega) rfl rfl ?_
                        refine v_i2l (pc' := 116) (z := vN (pg i)) F dX10_digest_115 rfl rfl ?_
                        refine cVV (pc' := 119) (As := [.long (vN (pg i))]) (rest := []) (wr := [(ma 8, aI G 5 sx), (ma 16, aB G 32 pg), (ma 2, aI G 4 tk), (ma 3, aI G 4 gv), (ma 4, aI G 4 pr), (ma 5, aI G 4 py), (ma 7, aI G 5 ks), (ma 14, aI G 5 tw), (ma 28, aI G 64 (wyT (mB (ks tp) tk gv pr py) sf tw tm)), (ma 29, aI G 64 w2_41)]) F (c_X10_mix o ma fi (va_up fl 37 hd) hd (vN (pg i)) (up_at _ _ _)) (cwV 1 F.2.2.2.2.1 gX10_digest_X10_mix rfl rfl rfl (by decide +kernel) ⟨Nat.le_of_ble_eq_true rfl, Nat.le_of_ble_eq_true rfl⟩) (v_rcvW F 8 10 rfl rfl) rfl rfl (Nat.le_of_ble_eq_true rfl) dX10_digest_116 [10] [0, 1, 2, 3, 4, 5, 6, 7, 8, 9] (by decide) rfl rfl (by decide) (by decide) ⟨Nat.zero_le _, Nat.zero_le _⟩ rfl (fun u q50 => ?_)
                        refine v_ws (wz := [(ma 8, aI G 5 sx), (ma 16, aB G 32 pg), (ma 2, aI G 4 tk), (ma 3, aI G 4 gv), (ma 4, aI G 4 pr), (ma 5, aI G 4 py), (ma 7, aI G 5 ks), (ma 14, aI G 5 tw), (ma 28, aI G 64 (wyT (mB (ks tp) tk gv pr py) sf tw tm)), (ma 29, aI G 64 w2_41), (o, mO ma fi (va_up (va_up fl 37 hd) 37 (mx hd (vN (pg i)))))]) rfl ?_
                        refine v_ws (wz := [(ma 8, aI G 5 sx), (ma 16, aB G 32 pg), (ma 2, aI G 4 tk), (ma 3, aI G 4 gv), (ma 4, aI G 4 pr), (ma 5, aI G 4 py), (ma 7, aI G 5 ks), (ma 14, aI G 5 tw), (ma 28, aI G 64 (wyT (mB (ks tp) tk gv pr py) sf tw tm)), (ma 29, aI G 64 w2_41), (o, mO ma fi (va_up fl 37 (mx hd (vN (pg i)))))]) (by rw [up_up]) ?_
                        refine v_iinc (pc' := 122) (v := nI (i + 1)) (lv' := [(1, .int (nI (i + 1))), (0, .ref o)]) F dX10_digest_119 0 rfl (nI_add _ _) (by decide) rfl rfl ?_
                        refine v_goto (tgt := 100) F dX10_digest_122 (by decide) ?_
                        exact ih100 (i + 1) (mx hd (vN (pg i))) (by omega) (by rw [hhd]; rfl) (by omega)
                  exact L100 (pl + 1) 0 (mx (mx hc (vN (tot (wyT (mB (ks tp) tk gv pr py) sf tw tm) 64))) (vN (twB (wyT (mB (ks tp) tk gv pr py) sf tw tm) 64))) (by omega) (by rw [hhc, show p = pe by omega]; exact dgR_y htg1) (by omega)
              · refine v_aload_n (pc' := 62) F dX10_digest_61 rfl 1 rfl rfl ?_
                refine v_iload_n (pc' := 63) F dX10_digest_62 rfl 0 rfl rfl ?_
                refine cVV (pc' := 66) (As := [.int (nI p)]) (rest := []) (wr := [(ma 14, aI G 5 tw), (ma 16, aB G 32 pg), (ma 28, aI G 64 w), (ma 29, aI G 64 w0)]) F (c_X10_mixPerson o ma fi (va_up fl 37 hc) tk gv pr py ks sx hc p (up_at _ _ _) (by omega) hwp (hl (by omega))) (cwV 1 F.2.2.2.2.1 gX10_digest_X10_mixPerson rfl rfl rfl (by decide +kernel) ⟨Nat.le_of_ble_eq_true rfl, Nat.le_of_ble_eq_true rfl⟩) (v_rcvW F 8 0 rfl rfl) rfl rfl (Nat.le_of_ble_eq_true rfl) dX10_digest_63 [0, 1, 2, 3, 4, 5, 6] [7, 8, 9, 10] (by decide) rfl rfl (by decide) (by decide) ⟨Nat.zero_le _, Nat.zero_le _⟩ rfl (fun u q51 => ?_)
                refine v_ws (wz := [(ma 14, aI G 5 tw), (ma 16, aB G 32 pg), (ma 28, aI G 64 w), (ma 29, aI G 64 w0), (o, mO ma fi (va_up (va_up fl 37 hc) 37 (dgP tk gv pr py ks sx p hc))), (ma 2, aI G 4 tk), (ma 3, aI G 4 gv), (ma 4, aI G 4 pr), (ma 5, aI G 4 py), (ma 7, aI G 5 ks), (ma 8, aI G 5 sx)]) rfl ?_
                refine v_ws (wz := [(ma 14, aI G 5 tw), (ma 16, aB G 32 pg), (ma 28, aI G 64 w), (ma 29, aI G 64 w0), (o, mO ma fi (va_up fl 37 (dgP tk gv pr py ks sx p hc))), (ma 2, aI G 4 tk), (ma 3, aI G 4 gv), (ma 4, aI G 4 pr), (ma 5, aI G 4 py), (ma 7, aI G 5 ks), (ma 8, aI G 5 sx)]) (by rw [up_up]) ?_
                refine v_iinc (pc' := 69) (v := nI (p + 1)) (lv' := [(1, .int (nI (p + 1))), (0, .ref o)]) F dX10_digest_66 0 rfl (nI_add _ _) (by decide) rfl rfl ?_
                refine v_goto (tgt := 53) F dX10_digest_69 (by decide) ?_
                refine v_perm (wz := [(o, mO ma fi (va_up fl 37 (dgP tk gv pr py ks sx p hc))), (ma 2, aI G 4 tk), (ma 3, aI G 4 gv), (ma 4, aI G 4 pr), (ma 5, aI G 4 py), (ma 7, aI G 5 ks), (ma 8, aI G 5 sx), (ma 14, aI G 5 tw), (ma 16, aB G 32 pg), (ma 28, aI G 64 w), (ma 29, aI G 64 w0)]) [4, 5, 6, 7, 8, 9, 10, 0, 1, 2, 3] (by decide) rfl ?_
                exact ih53 (p + 1) (dgP tk gv pr py ks sx p hc) (by omega) (by rw [hhc]; rfl) (by omega)
          exact L53 (pe + 1) 0 ha (by omega) (hh9) (by omega)
        · have hlr1 : ¬ lr = 0 := by assumption
          refine v_iconst (pc' := 22) (v := nI 0) F dX10_digest_21 (by decide) rfl ?_
          refine v_istore_n (pc' := 23) (lv' := [(2, .int (nI 0)), (1, .int (nI t)), (0, .ref o)]) F dX10_digest_22 rfl (by decide) rfl rfl ?_
          have L23 : ∀ (fu : Nat) (w9 : Nat) (hb : Int64), (w9 ≤ 5) → (hb = dgW (townV tk gv pr py pe sx t) w9 (dgT tk gv pr py pe sx t (lN 677))) → 5 < w9 + fu → V pgZ l evZ rm_X10_digest sgZ mmZ agsZ blZ meZ cdZ 0 0 QZ D AZ 3 23 [(2, .int (nI w9)), (1, .int (nI t)), (0, .ref o)] [] [(o, mO ma fi (va_up fl 37 hb)), (ma 2, aI G 4 tk), (ma 3, aI G 4 gv), (ma 4, aI G 4 pr), (ma 5, aI G 4 py), (ma 7, aI G 5 ks), (ma 8, aI G 5 sx), (ma 14, aI G 5 tw), (ma 16, aB G 32 pg), (ma 28, aI G 64 w), (ma 29, aI G 64 w0)] := by
            intro fu
            induction fu with
            | zero => intro w9 hb hw9 hhb hfu; exact absurd hfu (by omega)
            | succ fu ih23 =>
              intro w9 hb hw9 hhb hfu
              refine v_iload_n (pc' := 24) F dX10_digest_23 rfl 0 rfl rfl ?_
              refine v_iconst (pc' := 25) (v := nI 5) F dX10_digest_24 (by decide) rfl ?_
              refine v_ncmp_ge (tgt := 45) (pc' := 28) F dX10_digest_25 (by omega) (by omega) (by decide) rfl (fun c53 => ?_) (fun c53 => ?_)
              · refine v_iinc (pc' := 48) (v := nI (t + 1)) (lv' := [(1, .int (nI (t + 1))), (2, .int (nI w9)), (0, .ref o)]) F dX10_digest_45 1 rfl (nI_add _ _) (by decide) rfl rfl ?_
                refine v_goto (tgt := 9) F dX10_digest_48 (by decide) ?_
                refine v_lpick (lz := [(1, .int (nI (t + 1))), (0, .ref o)]) [0, 2] rfl ?_
                exact ih9 (t + 1) hb (by omega) (fun q => absurd q hlr1) (by rw [hhb, show w9 = 5 by omega]; rfl) (by omega)
              · refine v_aload_n (pc' := 29) F dX10_digest_28 rfl 2 rfl rfl ?_
                refine v_aload_n (pc' := 30) F dX10_digest_29 rfl 2 rfl rfl ?_
                refine v_iload_n (pc' := 31) F dX10_digest_30 rfl 1 rfl rfl ?_
                refine v_iload_n (pc' := 32) F dX10_digest_31 rfl 0 rfl rfl ?_
                refine cVI (pc' := 35) (As := [.int (nI t), .int (nI w9)]) (rest := [.ref o]) (wr := [(ma 7, aI G 5 ks), (ma 14, aI G 5 tw), (ma 16, aB G 32 pg), (ma 28, aI G 64 w), (ma 29, aI G 64 w0)]) F (c_X10_townNow o ma fi (va_up fl 37 hb) tk gv pr py sx pe t w9 hpe h5 (by omega) (by omega) hs5) (cwV 2 F.2.2.2.2.1 gX10_digest_X10_townNow rfl rfl rfl (by decide +kernel) ⟨Nat.le_of_ble_eq_true rfl, Nat.le_of_ble_eq_true rfl⟩) (v_rcvW F 8 0 rfl rfl) rfl rfl (Nat.le_of_ble_eq_true rfl) dX10_digest_32 [0, 1, 2, 3, 4, 6] [5, 7, 8, 9, 10] (by decide) rfl rfl (by decide) (by decide) ⟨Nat.zero_le _, Nat.zero_le _⟩ rfl (fun r u q54 => ?_)
                obtain rfl := q54
                refine v_ws (wz := [(ma 7, aI G 5 ks), (ma 14, aI G 5 tw), (ma 16, aB G 32 pg), (ma 28, aI G 64 w), (ma 29, aI G 64 w0), (o, mO ma fi (va_up fl 37 hb)), (ma 2, aI G 4 tk), (ma 3, aI G 4 gv), (ma 4, aI G 4 pr), (ma 5, aI G 4 py), (ma 8, aI G 5 sx)]) rfl ?_
                refine v_i2l (pc' := 36) (z := vN (townV tk gv pr py pe sx t w9)) F dX10_digest_35 rfl rfl ?_
                refine cVV (pc' := 39) (As := [.long (vN (townV tk gv pr py pe sx t w9))]) (rest := []) (wr := [(ma 7, aI G 5 ks), (ma 14, aI G 5 tw), (ma 16, aB G 32 pg), (ma 28, aI G 64 w), (ma 29, aI G 64 w0), (ma 2, aI G 4 tk), (ma 3, aI G 4 gv), (ma 4, aI G 4 pr), (ma 5, aI G 4 py), (ma 8, aI G 5 sx)]) F (c_X10_mix o ma fi (va_up fl 37 hb) hb (vN (townV tk gv pr py pe sx t w9)) (up_at _ _ _)) (cwV 1 F.2.2.2.2.1 gX10_digest_X10_mix rfl rfl rfl (by decide +kernel) ⟨Nat.le_of_ble_eq_true rfl, Nat.le_of_ble_eq_true rfl⟩) (v_rcvW F 8 5 rfl rfl) rfl rfl (Nat.le_of_ble_eq_true rfl) dX10_digest_36 [5] [0, 1, 2, 3, 4, 6, 7, 8, 9, 10] (by decide) rfl rfl (by decide) (by decide) ⟨Nat.zero_le _, Nat.zero_le _⟩ rfl (fun u q55 => ?_)
                refine v_ws (wz := [(ma 7, aI G 5 ks), (ma 14, aI G 5 tw), (ma 16, aB G 32 pg), (ma 28, aI G 64 w), (ma 29, aI G 64 w0), (ma 2, aI G 4 tk), (ma 3, aI G 4 gv), (ma 4, aI G 4 pr), (ma 5, aI G 4 py), (ma 8, aI G 5 sx), (o, mO ma fi (va_up (va_up fl 37 hb) 37 (mx hb (vN (townV tk gv pr py pe sx t w9)))))]) rfl ?_
                refine v_ws (wz := [(ma 7, aI G 5 ks), (ma 14, aI G 5 tw), (ma 16, aB G 32 pg), (ma 28, aI G 64 w), (ma 29, aI G 64 w0), (ma 2, aI G 4 tk), (ma 3, aI G 4 gv), (ma 4, aI G 4 pr), (ma 5, aI G 4 py), (ma 8, aI G 5 sx), (o, mO ma fi (va_up fl 37 (mx hb (vN (townV tk gv pr py pe sx t w9)))))]) (by rw [up_up]) ?_
                refine v_iinc (pc' := 42) (v := nI (w9 + 1)) (lv' := [(2, .int (nI (w9 + 1))), (1, .int (nI t)), (0, .ref o)]) F dX10_digest_39 0 rfl (nI_add _ _) (by decide) rfl rfl ?_
                refine v_goto (tgt := 23) F dX10_digest_42 (by decide) ?_
                refine v_perm (wz := [(o, mO ma fi (va_up fl 37 (mx hb (vN (townV tk gv pr py pe sx t w9))))), (ma 2, aI G 4 tk), (ma 3, aI G 4 gv), (ma 4, aI G 4 pr), (ma 5, aI G 4 py), (ma 7, aI G 5 ks), (ma 8, aI G 5 sx), (ma 14, aI G 5 tw), (ma 16, aB G 32 pg), (ma 28, aI G 64 w), (ma 29, aI G 64 w0)]) [10, 5, 6, 7, 8, 0, 9, 1, 2, 3, 4] (by decide) rfl ?_
                exact ih23 (w9 + 1) (mx hb (vN (townV tk gv pr py pe sx t w9))) (by omega) (by rw [hhb]; rfl) (by omega)
          exact L23 (5 + 1) 0 ha (by omega) (hha) (by omega)
  exact L9 (4 + 1) 0 (lN 677) (by omega) (fun _ => rfl) (rfl) (by omega)
