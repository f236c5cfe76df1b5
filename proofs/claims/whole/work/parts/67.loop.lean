set_option maxHeartbeats 4000000 in
set_option maxRecDepth 100000 in
theorem law_loop {p : Program} {l : Launch} {e : Env} {s : State} {m : MethodId} {below : List Frame} {meth : Method} {c : Code} {D : va_G} {A : Nat → Prop} {G : gT} {b L : Nat} {xs : Nat → Int32} (F : Fx p s m #[Value.ref b] meth c code 4 wsL_law RL D A G) (X : va_X b L xs s s.heap) (hbl : b < s.heap.size) (hbA : ¬ A b) (hr : meth.sig.returnType = ret) (hAq : ∀ q, A q → s.heap.size ≤ q) (hL : L ≤ 320) : ∀ (fu i : Nat), i ≤ L → L < i + fu → Lh p l e s m below meth c D A G b i
  | 0, i, q1, q2 => absurd q2 (by omega)
  | fu + 1, i, q1, q2 => by
    have ih := law_loop (l := l) (e := e) (below := below) F X hbl hbA hr hAq hL fu
    intro x pgo ppa dl se tr im la dr pgc a0 a1 a2 a3 sea sef tpu tro trb ims imp b0 b1 b2 b3 e0 e1 e2 e3 o pe ac lr sd pl fc ls le dp tg kd sf sz kg kp ka lp ld nt d tp tm ik kl qe pq ma pg co ge gi pa sn fd tw w w0 kst kpr tk gv pr py tk2 gv2 pr2 py2 ks sx tk3 gv3 pr3 py3 fo qu wa wb fi fl hinv
    refine v_iload_n (pc' := 19) F dL_law_18 rfl 3 rfl rfl ?_
    refine v_aload_n (pc' := 20) F dL_law_19 rfl 0 rfl rfl ?_
    refine v_slen (pc' := 21) F X hbl hbA dL_law_20 rfl ?_
    refine v_iconst (pc' := 22) (v := nI 5) F dL_law_21 (by decide) rfl ?_
    refine v_isub (pc' := 23) (z := (nI L - nI 5)) F dL_law_22 rfl rfl ?_
    refine v_icmp_gt (tgt := 897) (pc' := 26) F dL_law_23 (by decide) rfl (fun c1 => ?_) (fun c1 => ?_)
    · refine v_iconst (pc' := 898) (v := nI 1) F dL_law_897 (by decide) rfl ?_
      exact law_fin F hr hAq (Nat.le_of_ble_eq_true rfl) (Nat.le_of_ble_eq_true rfl) dL_law_898
    · have hi5 : i + 5 ≤ L := by
        rw [law_end (by omega) hL] at c1
        omega
      refine v_aload_n (pc' := 27) F dL_law_26 rfl 0 rfl rfl ?_
      refine v_iload_n (pc' := 28) F dL_law_27 rfl 3 rfl rfl ?_
      refine v_sld (pc' := 29) F X hbl hbA (by omega) hL dL_law_28 rfl ?_
      refine v_bipush (pc' := 31) (v := nI 31) F dL_law_29 (by decide) rfl ?_
      refine v_iand (pc' := 32) (z := (xs i) &&& (nI 31)) F dL_law_31 rfl rfl ?_
      obtain ⟨k9, hk9, e9⟩ := sw31 (xs i)
      refine v_top (y := nI k9) e9 ?_
      rcases (show k9 = 0 ∨ k9 = 1 ∨ k9 = 2 ∨ k9 = 3 ∨ k9 = 4 ∨ k9 = 5 ∨ k9 = 6 ∨ k9 = 7 ∨ k9 = 8 ∨ k9 = 9 ∨ k9 = 10 ∨ k9 = 11 ∨ k9 = 12 ∨ k9 = 13 ∨ k9 = 14 ∨ k9 = 15 ∨ k9 = 16 ∨ k9 = 17 ∨ k9 = 18 ∨ k9 = 19 ∨ k9 = 20 ∨ k9 = 21 ∨ k9 = 22 ∨ k9 = 23 ∨ k9 = 24 ∨ k9 = 25 ∨ 25 < k9 by omega) with h2 | h2 | h2 | h2 | h2 | h2 | h2 | h2 | h2 | h2 | h2 | h2 | h2 | h2 | h2 | h2 | h2 | h2 | h2 | h2 | h2 | h2 | h2 | h2 | h2 | h2 | h2
      · refine v_nswI (k := 0) (off := 120) (tgt := 152) F dL_law_32 h2 (by decide) (by decide) (by decide) (by decide) (by decide) ?_
        exact lw_c0 F X hbl hbA i hi5 hL (ih (i + 5) (by omega) (by omega)) x pgo ppa dl se tr im la dr pgc a0 a1 a2 a3 sea sef tpu tro trb ims imp b0 b1 b2 b3 e0 e1 e2 e3 o pe ac lr sd pl fc ls le dp tg kd sf sz kg kp ka lp ld nt d tp tm ik kl qe pq ma pg co ge gi pa sn fd tw w w0 kst kpr tk gv pr py tk2 gv2 pr2 py2 ks sx tk3 gv3 pr3 py3 fo qu wa wb fi fl hinv
      · refine v_nswI (k := 1) (off := 173) (tgt := 205) F dL_law_32 h2 (by decide) (by decide) (by decide) (by decide) (by decide) ?_
        exact lw_c1 F X hbl hbA i hi5 hL (ih (i + 5) (by omega) (by omega)) x pgo ppa dl se tr im la dr pgc a0 a1 a2 a3 sea sef tpu tro trb ims imp b0 b1 b2 b3 e0 e1 e2 e3 o pe ac lr sd pl fc ls le dp tg kd sf sz kg kp ka lp ld nt d tp tm ik kl qe pq ma pg co ge gi pa sn fd tw w w0 kst kpr tk gv pr py tk2 gv2 pr2 py2 ks sx tk3 gv3 pr3 py3 fo qu wa wb fi fl hinv
      · refine v_nswI (k := 2) (off := 186) (tgt := 218) F dL_law_32 h2 (by decide) (by decide) (by decide) (by decide) (by decide) ?_
        exact lw_c2 F X hbl hbA i hi5 hL (ih (i + 5) (by omega) (by omega)) x pgo ppa dl se tr im la dr pgc a0 a1 a2 a3 sea sef tpu tro trb ims imp b0 b1 b2 b3 e0 e1 e2 e3 o pe ac lr sd pl fc ls le dp tg kd sf sz kg kp ka lp ld nt d tp tm ik kl qe pq ma pg co ge gi pa sn fd tw w w0 kst kpr tk gv pr py tk2 gv2 pr2 py2 ks sx tk3 gv3 pr3 py3 fo qu wa wb fi fl hinv
      · refine v_nswI (k := 3) (off := 199) (tgt := 231) F dL_law_32 h2 (by decide) (by decide) (by decide) (by decide) (by decide) ?_
        exact lw_c3 F X hbl hbA i hi5 hL (ih (i + 5) (by omega) (by omega)) x pgo ppa dl se tr im la dr pgc a0 a1 a2 a3 sea sef tpu tro trb ims imp b0 b1 b2 b3 e0 e1 e2 e3 o pe ac lr sd pl fc ls le dp tg kd sf sz kg kp ka lp ld nt d tp tm ik kl qe pq ma pg co ge gi pa sn fd tw w w0 kst kpr tk gv pr py tk2 gv2 pr2 py2 ks sx tk3 gv3 pr3 py3 fo qu wa wb fi fl hinv
      · refine v_nswI (k := 4) (off := 212) (tgt := 244) F dL_law_32 h2 (by decide) (by decide) (by decide) (by decide) (by decide) ?_
        exact lw_c4 F X hbl hbA i hi5 hL (ih (i + 5) (by omega) (by omega)) x pgo ppa dl se tr im la dr pgc a0 a1 a2 a3 sea sef tpu tro trb ims imp b0 b1 b2 b3 e0 e1 e2 e3 o pe ac lr sd pl fc ls le dp tg kd sf sz kg kp ka lp ld nt d tp tm ik kl qe pq ma pg co ge gi pa sn fd tw w w0 kst kpr tk gv pr py tk2 gv2 pr2 py2 ks sx tk3 gv3 pr3 py3 fo qu wa wb fi fl hinv
      · refine v_nswI (k := 5) (off := 245) (tgt := 277) F dL_law_32 h2 (by decide) (by decide) (by decide) (by decide) (by decide) ?_
        exact lw_c5 F X hbl hbA i hi5 hL (ih (i + 5) (by omega) (by omega)) x pgo ppa dl se tr im la dr pgc a0 a1 a2 a3 sea sef tpu tro trb ims imp b0 b1 b2 b3 e0 e1 e2 e3 o pe ac lr sd pl fc ls le dp tg kd sf sz kg kp ka lp ld nt d tp tm ik kl qe pq ma pg co ge gi pa sn fd tw w w0 kst kpr tk gv pr py tk2 gv2 pr2 py2 ks sx tk3 gv3 pr3 py3 fo qu wa wb fi fl hinv
      · refine v_nswI (k := 6) (off := 278) (tgt := 310) F dL_law_32 h2 (by decide) (by decide) (by decide) (by decide) (by decide) ?_
        exact lw_c6 F X hbl hbA i hi5 hL (ih (i + 5) (by omega) (by omega)) x pgo ppa dl se tr im la dr pgc a0 a1 a2 a3 sea sef tpu tro trb ims imp b0 b1 b2 b3 e0 e1 e2 e3 o pe ac lr sd pl fc ls le dp tg kd sf sz kg kp ka lp ld nt d tp tm ik kl qe pq ma pg co ge gi pa sn fd tw w w0 kst kpr tk gv pr py tk2 gv2 pr2 py2 ks sx tk3 gv3 pr3 py3 fo qu wa wb fi fl hinv
      · refine v_nswI (k := 7) (off := 311) (tgt := 343) F dL_law_32 h2 (by decide) (by decide) (by decide) (by decide) (by decide) ?_
        exact lw_c7 F X hbl hbA i hi5 hL (ih (i + 5) (by omega) (by omega)) x pgo ppa dl se tr im la dr pgc a0 a1 a2 a3 sea sef tpu tro trb ims imp b0 b1 b2 b3 e0 e1 e2 e3 o pe ac lr sd pl fc ls le dp tg kd sf sz kg kp ka lp ld nt d tp tm ik kl qe pq ma pg co ge gi pa sn fd tw w w0 kst kpr tk gv pr py tk2 gv2 pr2 py2 ks sx tk3 gv3 pr3 py3 fo qu wa wb fi fl hinv
      · refine v_nswI (k := 8) (off := 344) (tgt := 376) F dL_law_32 h2 (by decide) (by decide) (by decide) (by decide) (by decide) ?_
        exact lw_c8 F X hbl hbA i hi5 hL (ih (i + 5) (by omega) (by omega)) x pgo ppa dl se tr im la dr pgc a0 a1 a2 a3 sea sef tpu tro trb ims imp b0 b1 b2 b3 e0 e1 e2 e3 o pe ac lr sd pl fc ls le dp tg kd sf sz kg kp ka lp ld nt d tp tm ik kl qe pq ma pg co ge gi pa sn fd tw w w0 kst kpr tk gv pr py tk2 gv2 pr2 py2 ks sx tk3 gv3 pr3 py3 fo qu wa wb fi fl hinv
      · refine v_nswI (k := 9) (off := 377) (tgt := 409) F dL_law_32 h2 (by decide) (by decide) (by decide) (by decide) (by decide) ?_
        exact lw_c9 F X hbl hbA i hi5 hL (ih (i + 5) (by omega) (by omega)) x pgo ppa dl se tr im la dr pgc a0 a1 a2 a3 sea sef tpu tro trb ims imp b0 b1 b2 b3 e0 e1 e2 e3 o pe ac lr sd pl fc ls le dp tg kd sf sz kg kp ka lp ld nt d tp tm ik kl qe pq ma pg co ge gi pa sn fd tw w w0 kst kpr tk gv pr py tk2 gv2 pr2 py2 ks sx tk3 gv3 pr3 py3 fo qu wa wb fi fl hinv
      · refine v_nswI (k := 10) (off := 420) (tgt := 452) F dL_law_32 h2 (by decide) (by decide) (by decide) (by decide) (by decide) ?_
        exact lw_c10 F X hbl hbA i hi5 hL (ih (i + 5) (by omega) (by omega)) x pgo ppa dl se tr im la dr pgc a0 a1 a2 a3 sea sef tpu tro trb ims imp b0 b1 b2 b3 e0 e1 e2 e3 o pe ac lr sd pl fc ls le dp tg kd sf sz kg kp ka lp ld nt d tp tm ik kl qe pq ma pg co ge gi pa sn fd tw w w0 kst kpr tk gv pr py tk2 gv2 pr2 py2 ks sx tk3 gv3 pr3 py3 fo qu wa wb fi fl hinv
      · refine v_nswI (k := 11) (off := 453) (tgt := 485) F dL_law_32 h2 (by decide) (by decide) (by decide) (by decide) (by decide) ?_
        exact lw_c11 F X hbl hbA i hi5 hL (ih (i + 5) (by omega) (by omega)) x pgo ppa dl se tr im la dr pgc a0 a1 a2 a3 sea sef tpu tro trb ims imp b0 b1 b2 b3 e0 e1 e2 e3 o pe ac lr sd pl fc ls le dp tg kd sf sz kg kp ka lp ld nt d tp tm ik kl qe pq ma pg co ge gi pa sn fd tw w w0 kst kpr tk gv pr py tk2 gv2 pr2 py2 ks sx tk3 gv3 pr3 py3 fo qu wa wb fi fl hinv
      · refine v_nswI (k := 12) (off := 486) (tgt := 518) F dL_law_32 h2 (by decide) (by decide) (by decide) (by decide) (by decide) ?_
        exact lw_c12 F X hbl hbA i hi5 hL (ih (i + 5) (by omega) (by omega)) x pgo ppa dl se tr im la dr pgc a0 a1 a2 a3 sea sef tpu tro trb ims imp b0 b1 b2 b3 e0 e1 e2 e3 o pe ac lr sd pl fc ls le dp tg kd sf sz kg kp ka lp ld nt d tp tm ik kl qe pq ma pg co ge gi pa sn fd tw w w0 kst kpr tk gv pr py tk2 gv2 pr2 py2 ks sx tk3 gv3 pr3 py3 fo qu wa wb fi fl hinv
      · refine v_nswI (k := 13) (off := 539) (tgt := 571) F dL_law_32 h2 (by decide) (by decide) (by decide) (by decide) (by decide) ?_
        exact lw_c13 F X hbl hbA i hi5 hL (ih (i + 5) (by omega) (by omega)) x pgo ppa dl se tr im la dr pgc a0 a1 a2 a3 sea sef tpu tro trb ims imp b0 b1 b2 b3 e0 e1 e2 e3 o pe ac lr sd pl fc ls le dp tg kd sf sz kg kp ka lp ld nt d tp tm ik kl qe pq ma pg co ge gi pa sn fd tw w w0 kst kpr tk gv pr py tk2 gv2 pr2 py2 ks sx tk3 gv3 pr3 py3 fo qu wa wb fi fl hinv
      · refine v_nswI (k := 14) (off := 582) (tgt := 614) F dL_law_32 h2 (by decide) (by decide) (by decide) (by decide) (by decide) ?_
        exact lw_c14 F X hbl hbA i hi5 hL (ih (i + 5) (by omega) (by omega)) x pgo ppa dl se tr im la dr pgc a0 a1 a2 a3 sea sef tpu tro trb ims imp b0 b1 b2 b3 e0 e1 e2 e3 o pe ac lr sd pl fc ls le dp tg kd sf sz kg kp ka lp ld nt d tp tm ik kl qe pq ma pg co ge gi pa sn fd tw w w0 kst kpr tk gv pr py tk2 gv2 pr2 py2 ks sx tk3 gv3 pr3 py3 fo qu wa wb fi fl hinv
      · refine v_nswI (k := 15) (off := 615) (tgt := 647) F dL_law_32 h2 (by decide) (by decide) (by decide) (by decide) (by decide) ?_
        exact lw_c15 F X hbl hbA i hi5 hL (ih (i + 5) (by omega) (by omega)) x pgo ppa dl se tr im la dr pgc a0 a1 a2 a3 sea sef tpu tro trb ims imp b0 b1 b2 b3 e0 e1 e2 e3 o pe ac lr sd pl fc ls le dp tg kd sf sz kg kp ka lp ld nt d tp tm ik kl qe pq ma pg co ge gi pa sn fd tw w w0 kst kpr tk gv pr py tk2 gv2 pr2 py2 ks sx tk3 gv3 pr3 py3 fo qu wa wb fi fl hinv
      · refine v_nswI (k := 16) (off := 638) (tgt := 670) F dL_law_32 h2 (by decide) (by decide) (by decide) (by decide) (by decide) ?_
        exact lw_c16 F X hbl hbA i hi5 hL (ih (i + 5) (by omega) (by omega)) x pgo ppa dl se tr im la dr pgc a0 a1 a2 a3 sea sef tpu tro trb ims imp b0 b1 b2 b3 e0 e1 e2 e3 o pe ac lr sd pl fc ls le dp tg kd sf sz kg kp ka lp ld nt d tp tm ik kl qe pq ma pg co ge gi pa sn fd tw w w0 kst kpr tk gv pr py tk2 gv2 pr2 py2 ks sx tk3 gv3 pr3 py3 fo qu wa wb fi fl hinv
      · refine v_nswI (k := 17) (off := 671) (tgt := 703) F dL_law_32 h2 (by decide) (by decide) (by decide) (by decide) (by decide) ?_
        exact lw_c17 F X hbl hbA i hi5 hL (ih (i + 5) (by omega) (by omega)) x pgo ppa dl se tr im la dr pgc a0 a1 a2 a3 sea sef tpu tro trb ims imp b0 b1 b2 b3 e0 e1 e2 e3 o pe ac lr sd pl fc ls le dp tg kd sf sz kg kp ka lp ld nt d tp tm ik kl qe pq ma pg co ge gi pa sn fd tw w w0 kst kpr tk gv pr py tk2 gv2 pr2 py2 ks sx tk3 gv3 pr3 py3 fo qu wa wb fi fl hinv
      · refine v_nswI (k := 18) (off := 694) (tgt := 726) F dL_law_32 h2 (by decide) (by decide) (by decide) (by decide) (by decide) ?_
        exact lw_c18 F X hbl hbA i hi5 hL (ih (i + 5) (by omega) (by omega)) x pgo ppa dl se tr im la dr pgc a0 a1 a2 a3 sea sef tpu tro trb ims imp b0 b1 b2 b3 e0 e1 e2 e3 o pe ac lr sd pl fc ls le dp tg kd sf sz kg kp ka lp ld nt d tp tm ik kl qe pq ma pg co ge gi pa sn fd tw w w0 kst kpr tk gv pr py tk2 gv2 pr2 py2 ks sx tk3 gv3 pr3 py3 fo qu wa wb fi fl hinv
      · refine v_nswI (k := 19) (off := 717) (tgt := 749) F dL_law_32 h2 (by decide) (by decide) (by decide) (by decide) (by decide) ?_
        exact lw_c19 F X hbl hbA i hi5 hL (ih (i + 5) (by omega) (by omega)) x pgo ppa dl se tr im la dr pgc a0 a1 a2 a3 sea sef tpu tro trb ims imp b0 b1 b2 b3 e0 e1 e2 e3 o pe ac lr sd pl fc ls le dp tg kd sf sz kg kp ka lp ld nt d tp tm ik kl qe pq ma pg co ge gi pa sn fd tw w w0 kst kpr tk gv pr py tk2 gv2 pr2 py2 ks sx tk3 gv3 pr3 py3 fo qu wa wb fi fl hinv
      · refine v_nswI (k := 20) (off := 730) (tgt := 762) F dL_law_32 h2 (by decide) (by decide) (by decide) (by decide) (by decide) ?_
        exact lw_c20 F X hbl hbA i hi5 hL (ih (i + 5) (by omega) (by omega)) x pgo ppa dl se tr im la dr pgc a0 a1 a2 a3 sea sef tpu tro trb ims imp b0 b1 b2 b3 e0 e1 e2 e3 o pe ac lr sd pl fc ls le dp tg kd sf sz kg kp ka lp ld nt d tp tm ik kl qe pq ma pg co ge gi pa sn fd tw w w0 kst kpr tk gv pr py tk2 gv2 pr2 py2 ks sx tk3 gv3 pr3 py3 fo qu wa wb fi fl hinv
      · refine v_nswI (k := 21) (off := 743) (tgt := 775) F dL_law_32 h2 (by decide) (by decide) (by decide) (by decide) (by decide) ?_
        exact lw_c21 F X hbl hbA i hi5 hL (ih (i + 5) (by omega) (by omega)) x pgo ppa dl se tr im la dr pgc a0 a1 a2 a3 sea sef tpu tro trb ims imp b0 b1 b2 b3 e0 e1 e2 e3 o pe ac lr sd pl fc ls le dp tg kd sf sz kg kp ka lp ld nt d tp tm ik kl qe pq ma pg co ge gi pa sn fd tw w w0 kst kpr tk gv pr py tk2 gv2 pr2 py2 ks sx tk3 gv3 pr3 py3 fo qu wa wb fi fl hinv
      · refine v_nswI (k := 22) (off := 796) (tgt := 828) F dL_law_32 h2 (by decide) (by decide) (by decide) (by decide) (by decide) ?_
        exact lw_c22 F X hbl hbA i hi5 hL (ih (i + 5) (by omega) (by omega)) x pgo ppa dl se tr im la dr pgc a0 a1 a2 a3 sea sef tpu tro trb ims imp b0 b1 b2 b3 e0 e1 e2 e3 o pe ac lr sd pl fc ls le dp tg kd sf sz kg kp ka lp ld nt d tp tm ik kl qe pq ma pg co ge gi pa sn fd tw w w0 kst kpr tk gv pr py tk2 gv2 pr2 py2 ks sx tk3 gv3 pr3 py3 fo qu wa wb fi fl hinv
      · refine v_nswI (k := 23) (off := 809) (tgt := 841) F dL_law_32 h2 (by decide) (by decide) (by decide) (by decide) (by decide) ?_
        exact lw_c23 F X hbl hbA i hi5 hL (ih (i + 5) (by omega) (by omega)) x pgo ppa dl se tr im la dr pgc a0 a1 a2 a3 sea sef tpu tro trb ims imp b0 b1 b2 b3 e0 e1 e2 e3 o pe ac lr sd pl fc ls le dp tg kd sf sz kg kp ka lp ld nt d tp tm ik kl qe pq ma pg co ge gi pa sn fd tw w w0 kst kpr tk gv pr py tk2 gv2 pr2 py2 ks sx tk3 gv3 pr3 py3 fo qu wa wb fi fl hinv
      · refine v_nswI (k := 24) (off := 822) (tgt := 854) F dL_law_32 h2 (by decide) (by decide) (by decide) (by decide) (by decide) ?_
        exact lw_c24 F X hbl hbA i hi5 hL (ih (i + 5) (by omega) (by omega)) x pgo ppa dl se tr im la dr pgc a0 a1 a2 a3 sea sef tpu tro trb ims imp b0 b1 b2 b3 e0 e1 e2 e3 o pe ac lr sd pl fc ls le dp tg kd sf sz kg kp ka lp ld nt d tp tm ik kl qe pq ma pg co ge gi pa sn fd tw w w0 kst kpr tk gv pr py tk2 gv2 pr2 py2 ks sx tk3 gv3 pr3 py3 fo qu wa wb fi fl hinv
      · refine v_nswI (k := 25) (off := 845) (tgt := 877) F dL_law_32 h2 (by decide) (by decide) (by decide) (by decide) (by decide) ?_
        exact lw_c25 F X hbl hbA i hi5 hL (ih (i + 5) (by omega) (by omega)) x pgo ppa dl se tr im la dr pgc a0 a1 a2 a3 sea sef tpu tro trb ims imp b0 b1 b2 b3 e0 e1 e2 e3 o pe ac lr sd pl fc ls le dp tg kd sf sz kg kp ka lp ld nt d tp tm ik kl qe pq ma pg co ge gi pa sn fd tw w w0 kst kpr tk gv pr py tk2 gv2 pr2 py2 ks sx tk3 gv3 pr3 py3 fo qu wa wb fi fl hinv
      · refine v_nswO (tgt := 891) F dL_law_32 (by omega) (by omega) (by decide) ?_
        refine v_iinc (pc' := 894) (v := nI (i + 5)) (lv' := [(3, .int (nI (i + 5))), (0, .ref b), (1, .ref x), (2, .ref o)]) F dL_law_891 3 rfl (nI_add _ _) (by decide) rfl rfl ?_
        refine v_goto (tgt := 18) F dL_law_894 (by decide) ?_
        refine v_lpick (lz := [(0, .ref b), (1, .ref x), (2, .ref o), (3, .int (nI (i + 5)))]) [1, 2, 3, 0] rfl ?_
        exact ih (i + 5) (by omega) (by omega) x pgo ppa dl se tr im la dr pgc a0 a1 a2 a3 sea sef tpu tro trb ims imp b0 b1 b2 b3 e0 e1 e2 e3 o pe ac lr sd pl fc ls le dp tg kd sf sz kg kp ka lp ld nt d tp tm ik kl qe pq ma pg co ge gi pa sn fd tw w w0 kst kpr tk gv pr py tk2 gv2 pr2 py2 ks sx tk3 gv3 pr3 py3 fo qu wa wb fi fl (LI_same hinv)
