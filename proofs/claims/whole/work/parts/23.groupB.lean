def rm_X9_isTown : Room := { frames := 0, cells := 0, slots := 0, locals := 0 }
set_option maxHeartbeats 4000000 in
set_option maxRecDepth 100000 in
theorem c_X9_isTown {l : Launch} {D : va_G} {G : gT} (y : Int32) : CtI (σ := Unit) l yX9_isTown wsX9_isTown rm_X9_isTown D G [.int y] [] (fun r _ => r = bI (inR (nI 0) y (nI 3))) (fun _ => []) := by
  refine openZ (maxL := 1) (by decide) rfl (Nat.le_of_ble_eq_true rfl) ?_
  intro pg ev sg mm ags bl me cd A Q F hmn rt
  refine v_lv (lz := [(0, .int y)]) rfl ?_
  refine v_iload_n (pc' := 1) F dX9_isTown_0 rfl 0 rfl rfl ?_
  refine v_if_lt (tgt := 13) (pc' := 4) F dX9_isTown_1 (by decide) rfl (fun c1 => ?_) (fun c1 => ?_)
  · refine v_iconst (pc' := 14) (v := nI 0) F dX9_isTown_13 (by decide) rfl ?_
    exact rt rfl dX9_isTown_14 () (nI0_b (by first | exact inR_no0 (by assumption) | exact inR_noL (k := 3) (by decide) (by assumption))) rfl
  · refine v_iload_n (pc' := 5) F dX9_isTown_4 rfl 0 rfl rfl ?_
    refine v_iconst (pc' := 6) (v := nI 4) F dX9_isTown_5 (by decide) rfl ?_
    refine v_icmp_ge (tgt := 13) (pc' := 9) F dX9_isTown_6 (by decide) rfl (fun c2 => ?_) (fun c2 => ?_)
    · refine v_iconst (pc' := 14) (v := nI 0) F dX9_isTown_13 (by decide) rfl ?_
      exact rt rfl dX9_isTown_14 () (nI0_b (by first | exact inR_no0 (by assumption) | exact inR_noL (k := 3) (by decide) (by assumption))) rfl
    · refine v_iconst (pc' := 10) (v := nI 1) F dX9_isTown_9 (by decide) rfl ?_
      refine v_goto (tgt := 14) F dX9_isTown_10 (by decide) ?_
      exact rt rfl dX9_isTown_14 () (nI1_b (inR_mkL (k := 3) (by decide) (by assumption) (by assumption))) rfl
def rm_X9_isCoin : Room := { frames := 0, cells := 0, slots := 0, locals := 0 }
set_option maxHeartbeats 4000000 in
set_option maxRecDepth 100000 in
theorem c_X9_isCoin {l : Launch} {D : va_G} {G : gT} (y : Int32) : CtI (σ := Unit) l yX9_isCoin wsX9_isCoin rm_X9_isCoin D G [.int y] [] (fun r _ => r = bI (inR (nI 0) y (nI 3))) (fun _ => []) := by
  refine openZ (maxL := 1) (by decide) rfl (Nat.le_of_ble_eq_true rfl) ?_
  intro pg ev sg mm ags bl me cd A Q F hmn rt
  refine v_lv (lz := [(0, .int y)]) rfl ?_
  refine v_iload_n (pc' := 1) F dX9_isCoin_0 rfl 0 rfl rfl ?_
  refine v_if_lt (tgt := 13) (pc' := 4) F dX9_isCoin_1 (by decide) rfl (fun c1 => ?_) (fun c1 => ?_)
  · refine v_iconst (pc' := 14) (v := nI 0) F dX9_isCoin_13 (by decide) rfl ?_
    exact rt rfl dX9_isCoin_14 () (nI0_b (by first | exact inR_no0 (by assumption) | exact inR_noL (k := 3) (by decide) (by assumption))) rfl
  · refine v_iload_n (pc' := 5) F dX9_isCoin_4 rfl 0 rfl rfl ?_
    refine v_iconst (pc' := 6) (v := nI 4) F dX9_isCoin_5 (by decide) rfl ?_
    refine v_icmp_ge (tgt := 13) (pc' := 9) F dX9_isCoin_6 (by decide) rfl (fun c2 => ?_) (fun c2 => ?_)
    · refine v_iconst (pc' := 14) (v := nI 0) F dX9_isCoin_13 (by decide) rfl ?_
      exact rt rfl dX9_isCoin_14 () (nI0_b (by first | exact inR_no0 (by assumption) | exact inR_noL (k := 3) (by decide) (by assumption))) rfl
    · refine v_iconst (pc' := 10) (v := nI 1) F dX9_isCoin_9 (by decide) rfl ?_
      refine v_goto (tgt := 14) F dX9_isCoin_10 (by decide) ?_
      exact rt rfl dX9_isCoin_14 () (nI1_b (inR_mkL (k := 3) (by decide) (by assumption) (by assumption))) rfl
def rm_X9_isKind : Room := { frames := 0, cells := 0, slots := 0, locals := 0 }
set_option maxHeartbeats 4000000 in
set_option maxRecDepth 100000 in
theorem c_X9_isKind {l : Launch} {D : va_G} {G : gT} (y : Int32) : CtI (σ := Unit) l yX9_isKind wsX9_isKind rm_X9_isKind D G [.int y] [] (fun r _ => r = bI (inR (nI 0) y (nI 4))) (fun _ => []) := by
  refine openZ (maxL := 1) (by decide) rfl (Nat.le_of_ble_eq_true rfl) ?_
  intro pg ev sg mm ags bl me cd A Q F hmn rt
  refine v_lv (lz := [(0, .int y)]) rfl ?_
  refine v_iload_n (pc' := 1) F dX9_isKind_0 rfl 0 rfl rfl ?_
  refine v_if_lt (tgt := 16) (pc' := 4) F dX9_isKind_1 (by decide) rfl (fun c1 => ?_) (fun c1 => ?_)
  · refine v_iconst (pc' := 17) (v := nI 0) F dX9_isKind_16 (by decide) rfl ?_
    exact rt rfl dX9_isKind_17 () (nI0_b (by first | exact inR_no0 (by assumption) | exact inR_noL (k := 4) (by decide) (by assumption))) rfl
  · refine v_iload_n (pc' := 5) F dX9_isKind_4 rfl 0 rfl rfl ?_
    refine v_getsKs (pc' := 8) F dX9_isKind_5 (List.mem_of_getElem? (i := 1) rfl) rfl ?_
    refine v_tlenK (pc' := 9) F dX9_isKind_8 rfl ?_
    refine v_icmp_ge (tgt := 16) (pc' := 12) F dX9_isKind_9 (by decide) rfl (fun c2 => ?_) (fun c2 => ?_)
    · refine v_iconst (pc' := 17) (v := nI 0) F dX9_isKind_16 (by decide) rfl ?_
      exact rt rfl dX9_isKind_17 () (nI0_b (by first | exact inR_no0 (by assumption) | exact inR_noL (k := 4) (by decide) (by assumption))) rfl
    · refine v_iconst (pc' := 13) (v := nI 1) F dX9_isKind_12 (by decide) rfl ?_
      refine v_goto (tgt := 17) F dX9_isKind_13 (by decide) ?_
      exact rt rfl dX9_isKind_17 () (nI1_b (inR_mkL (k := 4) (by decide) (by assumption) (by assumption))) rfl
def rm_X9_isPrice : Room := { frames := 0, cells := 0, slots := 0, locals := 0 }
set_option maxHeartbeats 4000000 in
set_option maxRecDepth 100000 in
theorem c_X9_isPrice {l : Launch} {D : va_G} {G : gT} (y : Int32) : CtI (σ := Unit) l yX9_isPrice wsX9_isPrice rm_X9_isPrice D G [.int y] [] (fun r _ => r = bI (inR (nI 1) y (nI 4))) (fun _ => []) := by
  refine openZ (maxL := 1) (by decide) rfl (Nat.le_of_ble_eq_true rfl) ?_
  intro pg ev sg mm ags bl me cd A Q F hmn rt
  refine v_lv (lz := [(0, .int y)]) rfl ?_
  refine v_iload_n (pc' := 1) F dX9_isPrice_0 rfl 0 rfl rfl ?_
  refine v_iconst (pc' := 2) (v := nI 1) F dX9_isPrice_1 (by decide) rfl ?_
  refine v_icmp_lt (tgt := 14) (pc' := 5) F dX9_isPrice_2 (by decide) rfl (fun c1 => ?_) (fun c1 => ?_)
  · refine v_iconst (pc' := 15) (v := nI 0) F dX9_isPrice_14 (by decide) rfl ?_
    exact rt rfl dX9_isPrice_15 () (nI0_b (by first | exact inR_no1 (by assumption) | exact inR_no2 (by assumption))) rfl
  · refine v_iload_n (pc' := 6) F dX9_isPrice_5 rfl 0 rfl rfl ?_
    refine v_iconst (pc' := 7) (v := nI 4) F dX9_isPrice_6 (by decide) rfl ?_
    refine v_icmp_gt (tgt := 14) (pc' := 10) F dX9_isPrice_7 (by decide) rfl (fun c2 => ?_) (fun c2 => ?_)
    · refine v_iconst (pc' := 15) (v := nI 0) F dX9_isPrice_14 (by decide) rfl ?_
      exact rt rfl dX9_isPrice_15 () (nI0_b (by first | exact inR_no1 (by assumption) | exact inR_no2 (by assumption))) rfl
    · refine v_iconst (pc' := 11) (v := nI 1) F dX9_isPrice_10 (by decide) rfl ?_
      refine v_goto (tgt := 15) F dX9_isPrice_11 (by decide) ?_
      exact rt rfl dX9_isPrice_15 () (nI1_b ⟨nlt_le (by assumption), nlt_le (by assumption)⟩) rfl
def rm_X9_isAct : Room := { frames := 0, cells := 0, slots := 0, locals := 0 }
set_option maxHeartbeats 4000000 in
set_option maxRecDepth 100000 in
theorem c_X9_isAct {l : Launch} {D : va_G} {G : gT} (y : Int32) : CtI (σ := Unit) l yX9_isAct wsX9_isAct rm_X9_isAct D G [.int y] [] (fun r _ => r = bI (aOkI y)) (fun _ => []) := by
  refine openZ (maxL := 5) (by decide) rfl (Nat.le_of_ble_eq_true rfl) ?_
  intro pg ev sg mm ags bl me cd A Q F hmn rt
  refine v_lv (lz := [(0, .int y)]) rfl ?_
  refine v_getsA (pc' := 3) F dX9_isAct_0 (List.mem_of_getElem? (i := 1) rfl) rfl ?_
  refine v_astore_n (pc' := 4) (lv' := [(1, .ref (gA G)), (0, .int y)]) F dX9_isAct_3 rfl (by decide) rfl rfl ?_
  refine v_aload_n (pc' := 5) F dX9_isAct_4 rfl 0 rfl rfl ?_
  refine v_tlenA (pc' := 6) F dX9_isAct_5 rfl ?_
  refine v_istore_n (pc' := 7) (lv' := [(2, .int (nI 12)), (1, .ref (gA G)), (0, .int y)]) F dX9_isAct_6 rfl (by decide) rfl rfl ?_
  refine v_iconst (pc' := 8) (v := nI 0) F dX9_isAct_7 (by decide) rfl ?_
  refine v_istore_n (pc' := 9) (lv' := [(3, .int (nI 0)), (2, .int (nI 12)), (1, .ref (gA G)), (0, .int y)]) F dX9_isAct_8 rfl (by decide) rfl rfl ?_
  have L9 : ∀ (fu : Nat) (j : Nat), (j ≤ 12) → (∀ q, q < j → ¬ nI (actN q) = y) → 12 < j + fu → V pg l ev rm_X9_isAct sg mm ags bl me cd 0 0 Q D A 5 9 [(3, .int (nI j)), (2, .int (nI 12)), (1, .ref (gA G)), (0, .int y)] [] [] := by
    intro fu
    induction fu with
    | zero => intro j hj hno hfu; exact absurd hfu (by omega)
    | succ fu ih9 =>
      intro j hj hno hfu
      refine v_iload_n (pc' := 10) F dX9_isAct_9 rfl 0 rfl rfl ?_
      refine v_iload_n (pc' := 11) F dX9_isAct_10 rfl 1 rfl rfl ?_
      refine v_ncmp_ge (tgt := 33) (pc' := 14) F dX9_isAct_11 (by omega) (by omega) (by decide) rfl (fun c2 => ?_) (fun c2 => ?_)
      · refine v_iconst (pc' := 34) (v := nI 0) F dX9_isAct_33 (by decide) rfl ?_
        exact rt rfl dX9_isAct_34 () (nI0_b (aOkI_no (by rw [show (12 : Nat) = j by omega]; exact hno))) rfl
      · refine v_aload_n (pc' := 15) F dX9_isAct_14 rfl 2 rfl rfl ?_
        refine v_iload_n (pc' := 16) F dX9_isAct_15 rfl 0 rfl rfl ?_
        refine v_tiA (pc' := 17) F dX9_isAct_16 (by omega) rfl ?_
        refine v_istore (pc' := 19) (lv' := [(4, .int (nI (actN j))), (3, .int (nI j)), (2, .int (nI 12)), (1, .ref (gA G)), (0, .int y)]) F dX9_isAct_17 (by decide) rfl rfl ?_
        refine v_iload (pc' := 21) F dX9_isAct_19 0 rfl rfl ?_
        refine v_iload_n (pc' := 22) F dX9_isAct_21 rfl 4 rfl rfl ?_
        refine v_icmp_ne (tgt := 27) (pc' := 25) F dX9_isAct_22 (by decide) rfl (fun c3 => ?_) (fun c3 => ?_)
        · refine v_iinc (pc' := 30) (v := nI (j + 1)) (lv' := [(3, .int (nI (j + 1))), (4, .int (nI (actN j))), (2, .int (nI 12)), (1, .ref (gA G)), (0, .int y)]) F dX9_isAct_27 1 rfl (nI_add _ _) (by decide) rfl rfl ?_
          refine v_goto (tgt := 9) F dX9_isAct_30 (by decide) ?_
          refine v_lpick (lz := [(3, .int (nI (j + 1))), (2, .int (nI 12)), (1, .ref (gA G)), (0, .int y)]) [0, 2, 3, 4] rfl ?_
          exact ih9 (j + 1) (by omega) (no_step hno (by assumption)) (by omega)
        · refine v_iconst (pc' := 26) (v := nI 1) F dX9_isAct_25 (by decide) rfl ?_
          exact rt rfl dX9_isAct_26 () (nI1_b (by rw [← (show nI (actN j) = y by assumption)]; exact (aOkI_nI (by have := (actN_ok j (by omega)).2; omega)).mpr (actN_ok j (by omega)).1)) rfl
  exact L9 (12 + 1) 0 (by omega) (fun q hq => absurd hq (Nat.not_lt_zero q)) (by omega)
def rm_X9_isPerson : Room := { frames := 0, cells := 0, slots := 0, locals := 0 }
theorem in_X9_isPerson_X9 : ∀ w ∈ u_ws RX9 TX9 12, w ∈ wsX9_isPerson := fun w h => List.mem_cons_of_mem _ (List.mem_append_right _ (h))
set_option maxHeartbeats 4000000 in
set_option maxRecDepth 100000 in
theorem c_X9_isPerson {l : Launch} {D : va_G} {G : gT} (x pgo ppa dl se tr im la dr pe ac lr sd : Nat) (y : Int32) : CtI (σ := Unit) l yX9_isPerson wsX9_isPerson rm_X9_isPerson D G [.ref x, .int y] [(x, .inr (7, [.ref pgo, .ref ppa, .ref dl, .ref se, .ref tr, .ref im, .ref la, .ref dr, .int (nI pe), .int (nI ac), .int (nI lr), .int (nI sd)]))] (fun r _ => r = bI (isP pe y)) (fun _ => [(x, .inr (7, [.ref pgo, .ref ppa, .ref dl, .ref se, .ref tr, .ref im, .ref la, .ref dr, .int (nI pe), .int (nI ac), .int (nI lr), .int (nI sd)]))]) := by
  refine openZ (maxL := 2) (by decide) rfl (Nat.le_of_ble_eq_true rfl) ?_
  intro pg ev sg mm ags bl me cd A Q F hmn rt
  refine v_lv (lz := [(0, .ref x), (1, .int y)]) rfl ?_
  refine v_iload_n (pc' := 1) F dX9_isPerson_0 rfl 1 rfl rfl ?_
  refine v_if_lt (tgt := 16) (pc' := 4) F dX9_isPerson_1 (by decide) rfl (fun c1 => ?_) (fun c1 => ?_)
  · refine v_iconst (pc' := 17) (v := nI 0) F dX9_isPerson_16 (by decide) rfl ?_
    exact rt rfl dX9_isPerson_17 () (nI0_b (fun z => by first | exact absurd z.1 (nle_of_lt (by assumption)) | exact absurd z.2 (nlt9r (by assumption)))) rfl
  · refine v_iload_n (pc' := 5) F dX9_isPerson_4 rfl 1 rfl rfl ?_
    refine v_aload_n (pc' := 6) F dX9_isPerson_5 rfl 0 rfl rfl ?_
    refine v_get (pc' := 9) (C := RX9) (T := TX9) (N := 12) F dX9_isPerson_6 in_X9_isPerson_X9 0 rfl rfl 8 (by decide) (List.mem_of_getElem? (i := 1) rfl) rfl rfl ?_
    refine v_icmp_ge (tgt := 16) (pc' := 12) F dX9_isPerson_9 (by decide) rfl (fun c2 => ?_) (fun c2 => ?_)
    · refine v_iconst (pc' := 17) (v := nI 0) F dX9_isPerson_16 (by decide) rfl ?_
      exact rt rfl dX9_isPerson_17 () (nI0_b (fun z => by first | exact absurd z.1 (nle_of_lt (by assumption)) | exact absurd z.2 (nlt9r (by assumption)))) rfl
    · refine v_iconst (pc' := 13) (v := nI 1) F dX9_isPerson_12 (by decide) rfl ?_
      refine v_goto (tgt := 17) F dX9_isPerson_13 (by decide) ?_
      exact rt rfl dX9_isPerson_17 () (nI1_b ⟨nlt_le (by assumption), nlt9 (by assumption)⟩) rfl
def rm_X9_isLawless : Room := { frames := 0, cells := 0, slots := 0, locals := 0 }
theorem in_X9_isLawless_X9 : ∀ w ∈ u_ws RX9 TX9 12, w ∈ wsX9_isLawless := fun w h => List.mem_cons_of_mem _ (List.mem_append_right _ (h))
set_option maxHeartbeats 4000000 in
set_option maxRecDepth 100000 in
theorem c_X9_isLawless {l : Launch} {D : va_G} {G : gT} (x pgo ppa dl se tr im la dr pe ac lr sd : Nat) (hlr : lr < 2 ^ 31) : CtI (σ := Unit) l yX9_isLawless wsX9_isLawless rm_X9_isLawless D G [.ref x] [(x, .inr (7, [.ref pgo, .ref ppa, .ref dl, .ref se, .ref tr, .ref im, .ref la, .ref dr, .int (nI pe), .int (nI ac), .int (nI lr), .int (nI sd)]))] (fun r _ => r = bI (lr = 0)) (fun _ => [(x, .inr (7, [.ref pgo, .ref ppa, .ref dl, .ref se, .ref tr, .ref im, .ref la, .ref dr, .int (nI pe), .int (nI ac), .int (nI lr), .int (nI sd)]))]) := by
  refine openZ (maxL := 1) (by decide) rfl (Nat.le_of_ble_eq_true rfl) ?_
  intro pg ev sg mm ags bl me cd A Q F hmn rt
  refine v_lv (lz := [(0, .ref x)]) rfl ?_
  refine v_aload_n (pc' := 1) F dX9_isLawless_0 rfl 0 rfl rfl ?_
  refine v_get (pc' := 4) (C := RX9) (T := TX9) (N := 12) F dX9_isLawless_1 in_X9_isLawless_X9 0 rfl rfl 10 (by decide) (List.mem_of_getElem? (i := 1) rfl) rfl rfl ?_
  refine v_nif_ne (tgt := 11) (pc' := 7) F dX9_isLawless_4 (by omega) (by decide) rfl (fun c1 => ?_) (fun c1 => ?_)
  · refine v_iconst (pc' := 12) (v := nI 0) F dX9_isLawless_11 (by decide) rfl ?_
    exact rt rfl dX9_isLawless_12 () (nI0_b (by assumption)) rfl
  · refine v_iconst (pc' := 8) (v := nI 1) F dX9_isLawless_7 (by decide) rfl ?_
    refine v_goto (tgt := 12) F dX9_isLawless_8 (by decide) ?_
    exact rt rfl dX9_isLawless_12 () (nI1_b (by assumption)) rfl
def rm_X9_peopleIn : Room := { frames := 1, cells := 0, slots := 0, locals := 20 }
theorem in_X9_peopleIn_X5 : ∀ w ∈ u_ws RX5 TX5 2, w ∈ wsX9_peopleIn := fun w h => List.mem_cons_of_mem _ (List.mem_append_right _ (h))
theorem in_X9_peopleIn_X9 : ∀ w ∈ u_ws RX9 TX9 12, w ∈ wsX9_peopleIn := fun w h => List.mem_cons_of_mem _ (List.mem_append_left _ (List.mem_append_right _ (h)))
set_option maxHeartbeats 4000000 in
set_option maxRecDepth 100000 in
theorem c_X9_peopleIn {l : Launch} {D : va_G} {G : gT} (x pgo ppa dl se tr im la dr pe ac lr sd : Nat) (pq ks sx : Nat → Nat) (t : Nat) (h5 : pe ≤ 5) (hs5 : ∀ j, j < 5 → sx j < 40000) (ht : t < 4) : CtI (σ := Unit) l yX9_peopleIn wsX9_peopleIn rm_X9_peopleIn D G [.ref x, .int (nI t)] ((x, .inr (7, [.ref pgo, .ref ppa, .ref dl, .ref se, .ref tr, .ref im, .ref la, .ref dr, .int (nI pe), .int (nI ac), .int (nI lr), .int (nI sd)])) :: (ppa, aP G 5 pq) :: pX G pq ks sx) (fun r _ => r = nI (pIn sx t pe)) (fun _ => ((x, .inr (7, [.ref pgo, .ref ppa, .ref dl, .ref se, .ref tr, .ref im, .ref la, .ref dr, .int (nI pe), .int (nI ac), .int (nI lr), .int (nI sd)])) :: (ppa, aP G 5 pq) :: pX G pq ks sx)) := by
  refine openI (maxL := 4) (by decide) rfl (Nat.le_of_ble_eq_true rfl) ?_
  intro pg ev sg mm ags bl me cd A Q F hmn rt
  refine v_lv (lz := [(0, .ref x), (1, .int (nI t))]) rfl ?_
  refine v_iconst (pc' := 1) (v := nI 0) F dX9_peopleIn_0 (by decide) rfl ?_
  refine v_istore_n (pc' := 2) (lv' := [(2, .int (nI 0)), (0, .ref x), (1, .int (nI t))]) F dX9_peopleIn_1 rfl (by decide) rfl rfl ?_
  refine v_iconst (pc' := 3) (v := nI 0) F dX9_peopleIn_2 (by decide) rfl ?_
  refine v_istore_n (pc' := 4) (lv' := [(3, .int (nI 0)), (2, .int (nI 0)), (0, .ref x), (1, .int (nI t))]) F dX9_peopleIn_3 rfl (by decide) rfl rfl ?_
  have L4 : ∀ (fu : Nat) (j : Nat) (ct : Nat), (j ≤ pe) → (ct = pIn sx t j) → pe < j + fu → V pg l ev rm_X9_peopleIn sg mm ags bl me cd 0 0 Q D A 4 4 [(3, .int (nI j)), (2, .int (nI ct)), (0, .ref x), (1, .int (nI t))] [] ((x, .inr (7, [.ref pgo, .ref ppa, .ref dl, .ref se, .ref tr, .ref im, .ref la, .ref dr, .int (nI pe), .int (nI ac), .int (nI lr), .int (nI sd)])) :: (ppa, aP G 5 pq) :: pX G pq ks sx) := by
    intro fu
    induction fu with
    | zero => intro j ct hj hct hfu; exact absurd hfu (by omega)
    | succ fu ih4 =>
      intro j ct hj hct hfu
      have h8 := pIn_le sx t j
      refine v_iload_n (pc' := 5) F dX9_peopleIn_4 rfl 0 rfl rfl ?_
      refine v_aload_n (pc' := 6) F dX9_peopleIn_5 rfl 2 rfl rfl ?_
      refine v_get (pc' := 9) (C := RX9) (T := TX9) (N := 12) F dX9_peopleIn_6 in_X9_peopleIn_X9 0 rfl rfl 8 (by decide) (List.mem_of_getElem? (i := 1) rfl) rfl rfl ?_
      refine v_ncmp_ge (tgt := 37) (pc' := 12) F dX9_peopleIn_9 (by omega) (by omega) (by decide) rfl (fun c2 => ?_) (fun c2 => ?_)
      · refine v_iload_n (pc' := 38) F dX9_peopleIn_37 rfl 1 rfl rfl ?_
        exact rt dX9_peopleIn_38 () (by rw [hct, show j = pe by omega]) rfl
      · refine v_aload_n (pc' := 13) F dX9_peopleIn_12 rfl 2 rfl rfl ?_
        refine v_get (pc' := 16) (C := RX9) (T := TX9) (N := 12) F dX9_peopleIn_13 in_X9_peopleIn_X9 0 rfl rfl 1 (by decide) (List.mem_of_getElem? (i := 2) rfl) rfl rfl ?_
        refine v_iload_n (pc' := 17) F dX9_peopleIn_16 rfl 0 rfl rfl ?_
        refine v_pald (pc' := 18) (z := pq j) F dX9_peopleIn_17 1 rfl (by omega) (by decide) rfl rfl ?_
        refine v_get (pc' := 21) (C := RX5) (T := TX5) (N := 2) F dX9_peopleIn_18 in_X9_peopleIn_X5 (j + 2) (pX_at (by omega)) rfl 1 (by decide) (List.mem_of_getElem? (i := 3) rfl) rfl rfl ?_
        have h7 := hs5 j (by omega)
        refine cSI0 (pc' := 24) (As := [.int (nI (eS (sx j)))]) (rest := []) F (c_X7_townOf (sx j) (by omega)) (va_cwS 1 F.2.2.2.2.1 gX9_peopleIn_X7_townOf rfl rfl rfl (by decide +kernel) ⟨Nat.le_of_ble_eq_true rfl, Nat.le_of_ble_eq_true rfl⟩) rfl rfl (Nat.le_of_ble_eq_true rfl) dX9_peopleIn_21 ⟨Nat.zero_le _, Nat.zero_le _⟩ rfl (fun r u q3 => ?_)
        obtain rfl := q3
        refine v_iload_n (pc' := 25) F dX9_peopleIn_24 rfl 3 rfl rfl ?_
        refine v_ncmp_ne (tgt := 31) (pc' := 28) F dX9_peopleIn_25 (by omega) (by omega) (by decide) rfl (fun c4 => ?_) (fun c4 => ?_)
        · refine v_iinc (pc' := 34) (v := nI (j + 1)) (lv' := [(3, .int (nI (j + 1))), (2, .int (nI ct)), (0, .ref x), (1, .int (nI t))]) F dX9_peopleIn_31 0 rfl (nI_add _ _) (by decide) rfl rfl ?_
          refine v_goto (tgt := 4) F dX9_peopleIn_34 (by decide) ?_
          exact ih4 (j + 1) ct (by omega) (by rw [hct, pIn_n (by assumption)]) (by omega)
        · refine v_iinc (pc' := 31) (v := nI (ct + 1)) (lv' := [(2, .int (nI (ct + 1))), (3, .int (nI j)), (0, .ref x), (1, .int (nI t))]) F dX9_peopleIn_28 1 rfl (nI_add _ _) (by decide) rfl rfl ?_
          refine v_iinc (pc' := 34) (v := nI (j + 1)) (lv' := [(3, .int (nI (j + 1))), (2, .int (nI (ct + 1))), (0, .ref x), (1, .int (nI t))]) F dX9_peopleIn_31 1 rfl (nI_add _ _) (by decide) rfl rfl ?_
          refine v_goto (tgt := 4) F dX9_peopleIn_34 (by decide) ?_
          exact ih4 (j + 1) (ct + 1) (by omega) (by rw [hct, pIn_y (by assumption)]) (by omega)
  exact L4 (pe + 1) 0 0 (by omega) (rfl) (by omega)
def rm_X0_set : Room := { frames := 2, cells := 0, slots := 0, locals := 34 }
theorem in_X0_set_X0 : ∀ w ∈ u_ws RX0 TX0 4, w ∈ wsX0_set := fun w h => List.mem_cons_of_mem _ (List.mem_append_left _ (List.mem_append_right _ (h)))
theorem in_X0_set_X3 : ∀ w ∈ u_ws RX3 TX3 6, w ∈ wsX0_set := fun w h => List.mem_cons_of_mem _ (List.mem_append_right _ (h))
set_option maxHeartbeats 4000000 in
set_option maxRecDepth 100000 in
theorem c_X0_set {l : Launch} {D : va_G} {G : gT} (dl a0 a1 a2 a3 la b0 b1 b2 b3 lp ld : Nat) (co ge gi pa tk gv pr py : Nat → Nat) (k : Nat) (hk : k < 5) (hl : WL tk gv pr py) : CtR (σ := (Nat → Nat) × (Nat → Nat) × (Nat → Nat) × (Nat → Nat)) l yX0_set wsX0_set rm_X0_set D G [.ref dl, .ref la, .ref (gAd G k)] [(dl, .inr (0, [.ref a0, .ref a1, .ref a2, .ref a3])), (a0, aI G 4 co), (a1, aI G 4 ge), (a2, aI G 4 gi), (a3, aI G 4 pa), (la, .inr (2, [.ref b0, .ref b1, .ref b2, .ref b3, .int (nI lp), .int (nI ld)])), (b0, aI G 4 tk), (b1, aI G 4 gv), (b2, aI G 4 pr), (b3, aI G 4 py)] dl (fun u => DLo k tk gv pr py (u.1) (u.2.1) (u.2.2.1) (u.2.2.2) 4) (fun u => [(dl, .inr (0, [.ref a0, .ref a1, .ref a2, .ref a3])), (a0, aI G 4 (u.1)), (a1, aI G 4 (u.2.1)), (a2, aI G 4 (u.2.2.1)), (a3, aI G 4 (u.2.2.2)), (la, .inr (2, [.ref b0, .ref b1, .ref b2, .ref b3, .int (nI lp), .int (nI ld)])), (b0, aI G 4 tk), (b1, aI G 4 gv), (b2, aI G 4 pr), (b3, aI G 4 py)]) := by
  refine openR (maxL := 4) (by decide) rfl (Nat.le_of_ble_eq_true rfl) ?_
  intro pg ev sg mm ags bl me cd A Q F hmn rt
  refine v_lv (lz := [(0, .ref dl), (1, .ref la), (2, .ref (gAd G k))]) rfl ?_
  refine v_iconst (pc' := 1) (v := nI 0) F dX0_set_0 (by decide) rfl ?_
  refine v_istore_n (pc' := 2) (lv' := [(3, .int (nI 0)), (0, .ref dl), (1, .ref la), (2, .ref (gAd G k))]) F dX0_set_1 rfl (by decide) rfl rfl ?_
  have L2 : ∀ (fu : Nat) (i : Nat) (f1 : Nat → Nat) (f2 : Nat → Nat) (f3 : Nat → Nat) (f4 : Nat → Nat), (i ≤ 4) → (DLo k tk gv pr py f1 f2 f3 f4 i) → 4 < i + fu → V pg l ev rm_X0_set sg mm ags bl me cd 0 0 Q D A 4 2 [(3, .int (nI i)), (0, .ref dl), (1, .ref la), (2, .ref (gAd G k))] [] [(dl, .inr (0, [.ref a0, .ref a1, .ref a2, .ref a3])), (a0, aI G 4 f1), (a1, aI G 4 f2), (a2, aI G 4 f3), (a3, aI G 4 f4), (la, .inr (2, [.ref b0, .ref b1, .ref b2, .ref b3, .int (nI lp), .int (nI ld)])), (b0, aI G 4 tk), (b1, aI G 4 gv), (b2, aI G 4 pr), (b3, aI G 4 py)] := by
    intro fu
    induction fu with
    | zero => intro i f1 f2 f3 f4 hi hd hfu; exact absurd hfu (by omega)
    | succ fu ih2 =>
      intro i f1 f2 f3 f4 hi hd hfu
      refine v_iload_n (pc' := 3) F dX0_set_2 rfl 0 rfl rfl ?_
      refine v_iconst (pc' := 4) (v := nI 4) F dX0_set_3 (by decide) rfl ?_
      refine v_ncmp_ge (tgt := 81) (pc' := 7) F dX0_set_4 (by omega) (by omega) (by decide) rfl (fun c2 => ?_) (fun c2 => ?_)
      · refine v_aload_n (pc' := 82) F dX0_set_81 rfl 1 rfl rfl ?_
        exact rt dX0_set_82 (f1, f2, f3, f4) (by rw [← (show i = 4 by omega)]; exact hd) rfl
      · have h9 := hl i (by omega)
        have hka := kA_le k
        refine v_aload_n (pc' := 8) F dX0_set_7 rfl 1 rfl rfl ?_
        refine v_get (pc' := 11) (C := RX0) (T := TX0) (N := 4) F dX0_set_8 in_X0_set_X0 0 rfl rfl 0 (by decide) (List.mem_of_getElem? (i := 1) rfl) rfl rfl ?_
        refine v_iload_n (pc' := 12) F dX0_set_11 rfl 0 rfl rfl ?_
        refine v_aload_n (pc' := 13) F dX0_set_12 rfl 3 rfl rfl ?_
        refine v_aload_n (pc' := 14) F dX0_set_13 rfl 2 rfl rfl ?_
        refine v_get (pc' := 17) (C := RX3) (T := TX3) (N := 6) F dX0_set_14 in_X0_set_X3 5 rfl rfl 2 (by decide) (List.mem_of_getElem? (i := 2) rfl) rfl rfl ?_
        refine v_iload_n (pc' := 18) F dX0_set_17 rfl 0 rfl rfl ?_
        refine v_iald (pc' := 19) (z := pr i) F dX0_set_18 8 rfl (by omega) (by decide) rfl rfl ?_
        refine cVI0 (pc' := 22) (As := [.int (nI (pr i))]) (rest := [.int (nI i), .ref a0]) F (c_X2_cost k (pr i) (by omega) h9.2.2.1 h9.2.2.2.1) (cwV 1 F.2.2.2.2.1 gX0_set_X2_cost rfl rfl rfl (by decide +kernel) ⟨Nat.le_of_ble_eq_true rfl, Nat.le_of_ble_eq_true rfl⟩) (v_rcvE F (i := k) (by omega)) rfl rfl (Nat.le_of_ble_eq_true rfl) dX0_set_19 ⟨Nat.zero_le _, Nat.zero_le _⟩ rfl (fun r u q3 => ?_)
        obtain rfl := q3
        refine v_iast (pc' := 23) (ws' := [(dl, .inr (0, [.ref a0, .ref a1, .ref a2, .ref a3])), (a0, aI G 4 (va_up f1 i (kCost k (pr i)))), (a1, aI G 4 f2), (a2, aI G 4 f3), (a3, aI G 4 f4), (la, .inr (2, [.ref b0, .ref b1, .ref b2, .ref b3, .int (nI lp), .int (nI ld)])), (b0, aI G 4 tk), (b1, aI G 4 gv), (b2, aI G 4 pr), (b3, aI G 4 py)]) F dX0_set_22 1 rfl (by omega) (by decide) rfl rfl ?_
        refine v_aload_n (pc' := 24) F dX0_set_23 rfl 1 rfl rfl ?_
        refine v_get (pc' := 27) (C := RX0) (T := TX0) (N := 4) F dX0_set_24 in_X0_set_X0 0 rfl rfl 1 (by decide) (List.mem_of_getElem? (i := 3) rfl) rfl rfl ?_
        refine v_iload_n (pc' := 28) F dX0_set_27 rfl 0 rfl rfl ?_
        refine v_aload_n (pc' := 29) F dX0_set_28 rfl 3 rfl rfl ?_
        refine v_aload_n (pc' := 30) F dX0_set_29 rfl 2 rfl rfl ?_
        refine v_get (pc' := 33) (C := RX3) (T := TX3) (N := 6) F dX0_set_30 in_X0_set_X3 5 rfl rfl 3 (by decide) (List.mem_of_getElem? (i := 4) rfl) rfl rfl ?_
        refine v_iload_n (pc' := 34) F dX0_set_33 rfl 0 rfl rfl ?_
        refine v_iald (pc' := 35) (z := py i) F dX0_set_34 9 rfl (by omega) (by decide) rfl rfl ?_
        refine cVI0 (pc' := 38) (As := [.int (nI (py i))]) (rest := [.int (nI i), .ref a1]) F (c_X2_gain k (py i) (by omega) h9.2.2.2.2) (cwV 1 F.2.2.2.2.1 gX0_set_X2_gain rfl rfl rfl (by decide +kernel) ⟨Nat.le_of_ble_eq_true rfl, Nat.le_of_ble_eq_true rfl⟩) (v_rcvE F (i := k) (by omega)) rfl rfl (Nat.le_of_ble_eq_true rfl) dX0_set_35 ⟨Nat.zero_le _, Nat.zero_le _⟩ rfl (fun r u q4 => ?_)
        obtain rfl := q4
        refine v_iast (pc' := 39) (ws' := [(dl, .inr (0, [.ref a0, .ref a1, .ref a2, .ref a3])), (a0, aI G 4 (va_up f1 i (kCost k (pr i)))), (a1, aI G 4 (va_up f2 i ((py i) + kM k))), (a2, aI G 4 f3), (a3, aI G 4 f4), (la, .inr (2, [.ref b0, .ref b1, .ref b2, .ref b3, .int (nI lp), .int (nI ld)])), (b0, aI G 4 tk), (b1, aI G 4 gv), (b2, aI G 4 pr), (b3, aI G 4 py)]) F dX0_set_38 2 rfl (by omega) (by decide) rfl rfl ?_
        refine v_aload_n (pc' := 40) F dX0_set_39 rfl 1 rfl rfl ?_
        refine v_get (pc' := 43) (C := RX0) (T := TX0) (N := 4) F dX0_set_40 in_X0_set_X0 0 rfl rfl 2 (by decide) (List.mem_of_getElem? (i := 5) rfl) rfl rfl ?_
        refine v_iload_n (pc' := 44) F dX0_set_43 rfl 0 rfl rfl ?_
        refine v_aload_n (pc' := 45) F dX0_set_44 rfl 2 rfl rfl ?_
        refine v_get (pc' := 48) (C := RX3) (T := TX3) (N := 6) F dX0_set_45 in_X0_set_X3 5 rfl rfl 1 (by decide) (List.mem_of_getElem? (i := 6) rfl) rfl rfl ?_
        refine v_iload_n (pc' := 49) F dX0_set_48 rfl 0 rfl rfl ?_
        refine v_iald (pc' := 50) (z := gv i) F dX0_set_49 7 rfl (by omega) (by decide) rfl rfl ?_
        refine v_iast (pc' := 51) (ws' := [(dl, .inr (0, [.ref a0, .ref a1, .ref a2, .ref a3])), (a0, aI G 4 (va_up f1 i (kCost k (pr i)))), (a1, aI G 4 (va_up f2 i ((py i) + kM k))), (a2, aI G 4 (va_up f3 i (gv i))), (a3, aI G 4 f4), (la, .inr (2, [.ref b0, .ref b1, .ref b2, .ref b3, .int (nI lp), .int (nI ld)])), (b0, aI G 4 tk), (b1, aI G 4 gv), (b2, aI G 4 pr), (b3, aI G 4 py)]) F dX0_set_50 3 rfl (by omega) (by decide) rfl rfl ?_
        refine v_aload_n (pc' := 52) F dX0_set_51 rfl 1 rfl rfl ?_
        refine v_get (pc' := 55) (C := RX0) (T := TX0) (N := 4) F dX0_set_52 in_X0_set_X0 0 rfl rfl 3 (by decide) (List.mem_of_getElem? (i := 7) rfl) rfl rfl ?_
        refine v_iload_n (pc' := 56) F dX0_set_55 rfl 0 rfl rfl ?_
        refine v_aload_n (pc' := 57) F dX0_set_56 rfl 3 rfl rfl ?_
        refine v_getE (pc' := 60) (z := nI (kA k)) F dX0_set_57 (i := k) (by omega) 3 rfl (List.mem_of_getElem? (i := 8) rfl) (kA_of (by omega)) rfl ?_
        refine v_nif_eq (tgt := 68) (pc' := 63) F dX0_set_60 (by omega) (by decide) rfl (fun c5 => ?_) (fun c5 => ?_)
        · refine v_aload_n (pc' := 69) F dX0_set_68 rfl 2 rfl rfl ?_
          refine v_get (pc' := 72) (C := RX3) (T := TX3) (N := 6) F dX0_set_69 in_X0_set_X3 5 rfl rfl 0 (by decide) (List.mem_of_getElem? (i := 9) rfl) rfl rfl ?_
          refine v_iload_n (pc' := 73) F dX0_set_72 rfl 0 rfl rfl ?_
          refine v_iald (pc' := 74) (z := tk i) F dX0_set_73 6 rfl (by omega) (by decide) rfl rfl ?_
          refine v_iast (pc' := 75) (ws' := [(dl, .inr (0, [.ref a0, .ref a1, .ref a2, .ref a3])), (a0, aI G 4 (va_up f1 i (kCost k (pr i)))), (a1, aI G 4 (va_up f2 i ((py i) + kM k))), (a2, aI G 4 (va_up f3 i (gv i))), (a3, aI G 4 (va_up f4 i (tk i))), (la, .inr (2, [.ref b0, .ref b1, .ref b2, .ref b3, .int (nI lp), .int (nI ld)])), (b0, aI G 4 tk), (b1, aI G 4 gv), (b2, aI G 4 pr), (b3, aI G 4 py)]) F dX0_set_74 4 rfl (by omega) (by decide) rfl rfl ?_
          refine v_iinc (pc' := 78) (v := nI (i + 1)) (lv' := [(3, .int (nI (i + 1))), (0, .ref dl), (1, .ref la), (2, .ref (gAd G k))]) F dX0_set_75 0 rfl (nI_add _ _) (by decide) rfl rfl ?_
          refine v_goto (tgt := 2) F dX0_set_78 (by decide) ?_
          exact ih2 (i + 1) (va_up f1 i (kCost k (pr i))) (va_up f2 i ((py i) + kM k)) (va_up f3 i (gv i)) (va_up f4 i (tk i)) (by omega) (DLo_step hd rfl rfl rfl (by first | exact (kPay_t (by assumption)).symm | exact (kPay_f (by assumption)).symm)) (by omega)
        · refine v_bipush (pc' := 65) (v := nI 15) F dX0_set_63 (by decide) rfl ?_
          refine v_goto (tgt := 74) F dX0_set_65 (by decide) ?_
          refine v_iast (pc' := 75) (ws' := [(dl, .inr (0, [.ref a0, .ref a1, .ref a2, .ref a3])), (a0, aI G 4 (va_up f1 i (kCost k (pr i)))), (a1, aI G 4 (va_up f2 i ((py i) + kM k))), (a2, aI G 4 (va_up f3 i (gv i))), (a3, aI G 4 (va_up f4 i 15)), (la, .inr (2, [.ref b0, .ref b1, .ref b2, .ref b3, .int (nI lp), .int (nI ld)])), (b0, aI G 4 tk), (b1, aI G 4 gv), (b2, aI G 4 pr), (b3, aI G 4 py)]) F dX0_set_74 4 rfl (by omega) (by decide) rfl rfl ?_
          refine v_iinc (pc' := 78) (v := nI (i + 1)) (lv' := [(3, .int (nI (i + 1))), (0, .ref dl), (1, .ref la), (2, .ref (gAd G k))]) F dX0_set_75 0 rfl (nI_add _ _) (by decide) rfl rfl ?_
          refine v_goto (tgt := 2) F dX0_set_78 (by decide) ?_
          exact ih2 (i + 1) (va_up f1 i (kCost k (pr i))) (va_up f2 i ((py i) + kM k)) (va_up f3 i (gv i)) (va_up f4 i 15) (by omega) (DLo_step hd rfl rfl rfl (by first | exact (kPay_t (by assumption)).symm | exact (kPay_f (by assumption)).symm)) (by omega)
  exact L2 (4 + 1) 0 co ge gi pa (by omega) (fun j hj => absurd hj (Nat.not_lt_zero j)) (by omega)
def rm_X9_dealFor : Room := { frames := 3, cells := 0, slots := 0, locals := 57 }
theorem in_X9_dealFor_X5 : ∀ w ∈ u_ws RX5 TX5 2, w ∈ wsX9_dealFor := fun w h => List.mem_cons_of_mem _ (List.mem_append_left _ (List.mem_append_left _ (List.mem_append_right _ (h))))
theorem in_X9_dealFor_X9 : ∀ w ∈ u_ws RX9 TX9 12, w ∈ wsX9_dealFor := fun w h => List.mem_cons_of_mem _ (List.mem_append_left _ (List.mem_append_left _ (List.mem_append_left _ (List.mem_append_right _ (h)))))
set_option maxHeartbeats 4000000 in
set_option maxRecDepth 100000 in
theorem c_X9_dealFor {l : Launch} {D : va_G} {G : gT} (x pgo ppa dl se tr im la dr pe ac lr sd : Nat) (a0 a1 a2 a3 : Nat) (co ge gi pa : Nat → Nat) (b0 b1 b2 b3 lp ld : Nat) (tk gv pr py : Nat → Nat) (pq ks sx : Nat → Nat) (t : Nat) (ht : t < 5) (hk : ks t < 5) (hl : WL tk gv pr py) : CtR (σ := (Nat → Nat) × (Nat → Nat) × (Nat → Nat) × (Nat → Nat)) l yX9_dealFor wsX9_dealFor rm_X9_dealFor D G [.ref x, .int (nI t)] ((x, .inr (7, [.ref pgo, .ref ppa, .ref dl, .ref se, .ref tr, .ref im, .ref la, .ref dr, .int (nI pe), .int (nI ac), .int (nI lr), .int (nI sd)])) :: (dl, .inr (0, [.ref a0, .ref a1, .ref a2, .ref a3])) :: (a0, aI G 4 co) :: (a1, aI G 4 ge) :: (a2, aI G 4 gi) :: (a3, aI G 4 pa) :: (la, .inr (2, [.ref b0, .ref b1, .ref b2, .ref b3, .int (nI lp), .int (nI ld)])) :: (b0, aI G 4 tk) :: (b1, aI G 4 gv) :: (b2, aI G 4 pr) :: (b3, aI G 4 py) :: (ppa, aP G 5 pq) :: pX G pq ks sx) dl (fun u => DLo (ks t) tk gv pr py (u.1) (u.2.1) (u.2.2.1) (u.2.2.2) 4) (fun u => ((x, .inr (7, [.ref pgo, .ref ppa, .ref dl, .ref se, .ref tr, .ref im, .ref la, .ref dr, .int (nI pe), .int (nI ac), .int (nI lr), .int (nI sd)])) :: (dl, .inr (0, [.ref a0, .ref a1, .ref a2, .ref a3])) :: (a0, aI G 4 (u.1)) :: (a1, aI G 4 (u.2.1)) :: (a2, aI G 4 (u.2.2.1)) :: (a3, aI G 4 (u.2.2.2)) :: (la, .inr (2, [.ref b0, .ref b1, .ref b2, .ref b3, .int (nI lp), .int (nI ld)])) :: (b0, aI G 4 tk) :: (b1, aI G 4 gv) :: (b2, aI G 4 pr) :: (b3, aI G 4 py) :: (ppa, aP G 5 pq) :: pX G pq ks sx)) := by
  refine openR (maxL := 2) (by decide) rfl (Nat.le_of_ble_eq_true rfl) ?_
  intro pg ev sg mm ags bl me cd A Q F hmn rt
  refine v_lv (lz := [(0, .ref x), (1, .int (nI t))]) rfl ?_
  refine v_aload_n (pc' := 1) F dX9_dealFor_0 rfl 0 rfl rfl ?_
  refine v_get (pc' := 4) (C := RX9) (T := TX9) (N := 12) F dX9_dealFor_1 in_X9_dealFor_X9 0 rfl rfl 2 (by decide) (List.mem_of_getElem? (i := 1) rfl) rfl rfl ?_
  refine v_aload_n (pc' := 5) F dX9_dealFor_4 rfl 0 rfl rfl ?_
  refine v_get (pc' := 8) (C := RX9) (T := TX9) (N := 12) F dX9_dealFor_5 in_X9_dealFor_X9 0 rfl rfl 6 (by decide) (List.mem_of_getElem? (i := 2) rfl) rfl rfl ?_
  refine v_aload_n (pc' := 9) F dX9_dealFor_8 rfl 0 rfl rfl ?_
  refine v_get (pc' := 12) (C := RX9) (T := TX9) (N := 12) F dX9_dealFor_9 in_X9_dealFor_X9 0 rfl rfl 1 (by decide) (List.mem_of_getElem? (i := 3) rfl) rfl rfl ?_
  refine v_iload_n (pc' := 13) F dX9_dealFor_12 rfl 1 rfl rfl ?_
  refine v_pald (pc' := 14) (z := pq t) F dX9_dealFor_13 11 rfl (by omega) (by decide) rfl rfl ?_
  refine v_get (pc' := 17) (C := RX5) (T := TX5) (N := 2) F dX9_dealFor_14 in_X9_dealFor_X5 (t + 12) (pX_at (by omega)) rfl 0 (by decide) (List.mem_of_getElem? (i := 4) rfl) rfl rfl ?_
  refine cVR (pc' := 20) (As := [.ref la, .ref (gAd G (ks t))]) (rest := []) (wr := ((x, .inr (7, [.ref pgo, .ref ppa, .ref dl, .ref se, .ref tr, .ref im, .ref la, .ref dr, .int (nI pe), .int (nI ac), .int (nI lr), .int (nI sd)])) :: (ppa, aP G 5 pq) :: pX G pq ks sx)) F (c_X0_set dl a0 a1 a2 a3 la b0 b1 b2 b3 lp ld co ge gi pa tk gv pr py (ks t) (by omega) hl) (cwV 2 F.2.2.2.2.1 gX9_dealFor_X0_set rfl rfl rfl (by decide +kernel) ⟨Nat.le_of_ble_eq_true rfl, Nat.le_of_ble_eq_true rfl⟩) (v_rcvW F 0 1 rfl rfl) rfl rfl (Nat.le_of_ble_eq_true rfl) dX9_dealFor_17 [1, 2, 3, 4, 5, 6, 7, 8, 9, 10] [0, 11, 12, 13, 14, 15, 16] (by decide) rfl rfl (by decide) (by decide) ⟨Nat.zero_le _, Nat.zero_le _⟩ rfl (fun u q6 => ?_)
  obtain ⟨co2_1, ge2_2, gi2_3, pa2_4⟩ := u
  have hD_5 := q6
  refine v_perm (wz := ((x, .inr (7, [.ref pgo, .ref ppa, .ref dl, .ref se, .ref tr, .ref im, .ref la, .ref dr, .int (nI pe), .int (nI ac), .int (nI lr), .int (nI sd)])) :: (ppa, aP G 5 pq) :: (dl, .inr (0, [.ref a0, .ref a1, .ref a2, .ref a3])) :: (a0, aI G 4 co2_1) :: (a1, aI G 4 ge2_2) :: (a2, aI G 4 gi2_3) :: (a3, aI G 4 pa2_4) :: (la, .inr (2, [.ref b0, .ref b1, .ref b2, .ref b3, .int (nI lp), .int (nI ld)])) :: (b0, aI G 4 tk) :: (b1, aI G 4 gv) :: (b2, aI G 4 pr) :: (b3, aI G 4 py) :: pX G pq ks sx)) [0, 1, 7, 8, 9, 10, 11, 12, 13, 14, 15, 16, 2, 3, 4, 5, 6] (by decide) rfl ?_
  refine v_perm (wz := ((x, .inr (7, [.ref pgo, .ref ppa, .ref dl, .ref se, .ref tr, .ref im, .ref la, .ref dr, .int (nI pe), .int (nI ac), .int (nI lr), .int (nI sd)])) :: (dl, .inr (0, [.ref a0, .ref a1, .ref a2, .ref a3])) :: (a0, aI G 4 co2_1) :: (a1, aI G 4 ge2_2) :: (a2, aI G 4 gi2_3) :: (a3, aI G 4 pa2_4) :: (la, .inr (2, [.ref b0, .ref b1, .ref b2, .ref b3, .int (nI lp), .int (nI ld)])) :: (b0, aI G 4 tk) :: (b1, aI G 4 gv) :: (b2, aI G 4 pr) :: (b3, aI G 4 py) :: (ppa, aP G 5 pq) :: pX G pq ks sx)) [0, 2, 3, 4, 5, 6, 7, 8, 9, 10, 11, 1, 12, 13, 14, 15, 16] (by decide) rfl ?_
  exact rt dX9_dealFor_20 (co2_1, ge2_2, gi2_3, pa2_4) (hD_5) rfl
