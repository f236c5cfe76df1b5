/-! what holds of both sides between two calls -/
def LInv (i pe ac lr sd pl tg tp kd sf sz tm kg ik kl kp ka qe : Nat) (pg tk gv pr py ks sx tw kst kpr fo qu : Nat → Nat) (fi : Nat → Int32) : Prop :=
  (lr ≤ i ∧ sd ≤ 40 ∧ pe ≤ 5 ∧ pl ≤ 32 ∧ tg < 2 ∧ tp < 5 ∧ kd < 5 ∧ sf < 40000 ∧ sz ≤ 5 ∧ tm = (if tg = 0 then 0 else sz) ∧ ik < 2 ∧ kl ≤ lr ∧ kp ≤ 5 ∧ kg = (if ik = 0 then 0 else if kl = lr then 1 else 0)) ∧
  ((∀ j, j < 32 → pg j < 127) ∧ (¬ lr = 0 → WL tk gv pr py) ∧ (0 < pe → ¬ lr = 0) ∧ (¬ tg = 0 → kd = ks tp ∧ tp < pe) ∧ (¬ kg = 0 → ¬ lr = 0 ∧ ∀ j, j < 4 → 1 ≤ kpr j ∧ kpr j ≤ 4) ∧ WPe ks sx ∧ (∀ j, j < 5 → tw j < 625) ∧ (∀ j, j < 5 → kst j < 40000) ∧ (∀ j, j < 4 → pr j < 2 ^ 31) ∧ CQ fo qu qe) ∧
  (fi 0 = bI (¬ lr = 0) ∧ fi 1 = nI lr ∧ fi 6 = nI pe ∧ fi 9 = nI ac ∧ fi 10 = nI sd ∧ fi 11 = trI tg tp ∧ fi 12 = nI sf ∧ fi 13 = nI tm ∧ fi 15 = nI pl ∧ fi 26 = nI qe ∧ fi 31 = nI ik ∧ fi 32 = nI kl ∧ fi 33 = nI kp ∧ fi 34 = nI ka)
theorem LI_same {i pe ac lr sd pl tg tp kd sf sz tm kg ik kl kp ka qe : Nat} {pg tk gv pr py ks sx tw kst kpr fo qu : Nat → Nat} {fi : Nat → Int32}  (h : LInv i pe ac lr sd pl tg tp kd sf sz tm kg ik kl kp ka qe pg tk gv pr py ks sx tw kst kpr fo qu fi) : LInv (i + 5) pe ac lr sd pl tg tp kd sf sz tm kg ik kl kp ka qe pg tk gv pr py ks sx tw kst kpr fo qu fi := by
  obtain ⟨⟨a1, a2, a3, a4, a5, a6, a7, a8, a9, a10, a11, a12, a13, a14⟩, ⟨b1, b2, b3, b4, b5, b6, b7, b8, b9, b10⟩, ⟨c1, c2, c3, c4, c5, c6, c7, c8, c9, c10, c11, c12, c13, c14⟩⟩ := h
  exact ⟨⟨(by omega), a2, a3, a4, a5, a6, a7, a8, a9, a10, a11, a12, a13, a14⟩, ⟨b1, b2, b3, b4, b5, b6, b7, b8, b9, b10⟩, ⟨c1, c2, c3, c4, c5, c6, c7, c8, c9, c10, c11, c12, c13, c14⟩⟩
theorem LI_fault {i pe ac lr sd pl tg tp kd sf sz tm kg ik kl kp ka qe : Nat} {pg tk gv pr py ks sx tw kst kpr fo qu : Nat → Nat} {fi : Nat → Int32} {x19 : Nat} {x17 x18 : Int32} (h : LInv i pe ac lr sd pl tg tp kd sf sz tm kg ik kl kp ka qe pg tk gv pr py ks sx tw kst kpr fo qu fi) : LInv (i + 5) pe ac lr sd pl tg tp kd sf sz tm kg ik kl kp ka qe pg tk gv pr py ks sx tw kst kpr fo qu (va_up (va_up (va_up fi 19 (nI x19)) 17 x17) 18 x18) := by
  obtain ⟨⟨a1, a2, a3, a4, a5, a6, a7, a8, a9, a10, a11, a12, a13, a14⟩, ⟨b1, b2, b3, b4, b5, b6, b7, b8, b9, b10⟩, ⟨c1, c2, c3, c4, c5, c6, c7, c8, c9, c10, c11, c12, c13, c14⟩⟩ := h
  exact ⟨⟨(by omega), a2, a3, a4, a5, a6, a7, a8, a9, a10, a11, a12, a13, a14⟩, ⟨b1, b2, b3, b4, b5, b6, b7, b8, b9, b10⟩, ⟨c1, c2, c3, c4, c5, c6, c7, c8, c9, c10, c11, c12, c13, c14⟩⟩
theorem LI_search {i pe ac lr sd pl tg tp kd sf sz tm kg ik kl kp ka qe : Nat} {pg tk gv pr py ks sx tw kst kpr fo qu : Nat → Nat} {fi : Nat → Int32} {f27 : Int32} {qe2 : Nat} {fo2 qu2 : Nat → Nat} (hq : CQ fo2 qu2 qe2) (h : LInv i pe ac lr sd pl tg tp kd sf sz tm kg ik kl kp ka qe pg tk gv pr py ks sx tw kst kpr fo qu fi) : LInv (i + 5) pe ac lr sd pl tg tp kd sf sz tm kg ik kl kp ka qe2 pg tk gv pr py ks sx tw kst kpr fo2 qu2 (va_up (va_up fi 27 f27) 26 (nI qe2)) := by
  obtain ⟨⟨a1, a2, a3, a4, a5, a6, a7, a8, a9, a10, a11, a12, a13, a14⟩, ⟨b1, b2, b3, b4, b5, b6, b7, b8, b9, b10⟩, ⟨c1, c2, c3, c4, c5, c6, c7, c8, c9, c10, c11, c12, c13, c14⟩⟩ := h
  exact ⟨⟨(by omega), a2, a3, a4, a5, a6, a7, a8, a9, a10, a11, a12, a13, a14⟩, ⟨b1, b2, b3, b4, b5, b6, b7, b8, b9, hq⟩, ⟨c1, c2, c3, c4, c5, c6, c7, c8, c9, (up_at _ _ _), c11, c12, c13, c14⟩⟩
theorem LI_fewest {i pe ac lr sd pl tg tp kd sf sz tm kg ik kl kp ka qe : Nat} {pg tk gv pr py ks sx tw kst kpr fo qu : Nat → Nat} {fi : Nat → Int32} {f27 : Int32} {qe2 sd2 : Nat} {fo2 qu2 : Nat → Nat} (hq : CQ fo2 qu2 qe2) (hs : sd2 ≤ 40) (h : LInv i pe ac lr sd pl tg tp kd sf sz tm kg ik kl kp ka qe pg tk gv pr py ks sx tw kst kpr fo qu fi) : LInv (i + 5) pe ac lr sd2 pl tg tp kd sf sz tm kg ik kl kp ka qe2 pg tk gv pr py ks sx tw kst kpr fo2 qu2 (va_up (va_up (va_up fi 10 (nI sd2)) 27 f27) 26 (nI qe2)) := by
  obtain ⟨⟨a1, a2, a3, a4, a5, a6, a7, a8, a9, a10, a11, a12, a13, a14⟩, ⟨b1, b2, b3, b4, b5, b6, b7, b8, b9, b10⟩, ⟨c1, c2, c3, c4, c5, c6, c7, c8, c9, c10, c11, c12, c13, c14⟩⟩ := h
  exact ⟨⟨(by omega), hs, a3, a4, a5, a6, a7, a8, a9, a10, a11, a12, a13, a14⟩, ⟨b1, b2, b3, b4, b5, b6, b7, b8, b9, hq⟩, ⟨c1, c2, c3, c4, (up_at fi 10 (nI sd2)), c6, c7, c8, c9, (up_at _ _ _), c11, c12, c13, c14⟩⟩
theorem LI_richest {i pe ac lr sd pl tg tp kd sf sz tm kg ik kl kp ka qe : Nat} {pg tk gv pr py ks sx tw kst kpr fo qu : Nat → Nat} {fi : Nat → Int32} {qe2 sd2 : Nat} {fo2 qu2 : Nat → Nat} (hq : CQ fo2 qu2 qe2) (hs : sd2 ≤ 40) (h : LInv i pe ac lr sd pl tg tp kd sf sz tm kg ik kl kp ka qe pg tk gv pr py ks sx tw kst kpr fo qu fi) : LInv (i + 5) pe ac lr sd2 pl tg tp kd sf sz tm kg ik kl kp ka qe2 pg tk gv pr py ks sx tw kst kpr fo2 qu2 (va_up (va_up fi 10 (nI sd2)) 26 (nI qe2)) := by
  obtain ⟨⟨a1, a2, a3, a4, a5, a6, a7, a8, a9, a10, a11, a12, a13, a14⟩, ⟨b1, b2, b3, b4, b5, b6, b7, b8, b9, b10⟩, ⟨c1, c2, c3, c4, c5, c6, c7, c8, c9, c10, c11, c12, c13, c14⟩⟩ := h
  exact ⟨⟨(by omega), hs, a3, a4, a5, a6, a7, a8, a9, a10, a11, a12, a13, a14⟩, ⟨b1, b2, b3, b4, b5, b6, b7, b8, b9, hq⟩, ⟨c1, c2, c3, c4, (up_at fi 10 (nI sd2)), c6, c7, c8, c9, (up_at _ _ _), c11, c12, c13, c14⟩⟩
theorem N_fw_le {pe sd : Nat} {x y z : Int32} (h : sd ≤ 40) : N_fewest pe sd x y z ≤ 40 := by
  unfold N_fewest
  repeat' split
  all_goals omega
theorem N_rc_le {pe sd : Nat} {x y : Int32} (h : sd ≤ 40) : N_richest pe sd x y ≤ 40 := by
  unfold N_richest
  repeat' split
  all_goals omega
theorem N_let_ok {pg : Nat → Nat} {pl x : Nat} (h1 : pl ≤ 32) (h2 : ∀ j, j < 32 → pg j < 127) : (N_letters pg pl x).1 ≤ 32 ∧ ∀ j, j < 32 → (N_letters pg pl x).2 j < 127 := by
  unfold N_letters
  cases hx : ltN x 8 with
  | none => exact ⟨h1, h2⟩
  | some k =>
    have hk := ltN_le hx
    show (if 32 < pl + k then (pl, pg) else (pl + k, lay pg pl x k)).1 ≤ 32 ∧ ∀ j, j < 32 → (if 32 < pl + k then (pl, pg) else (pl + k, lay pg pl x k)).2 j < 127
    split
    · exact ⟨h1, h2⟩
    · refine ⟨by show pl + k ≤ 32; omega, fun j hj => ?_⟩
      show lay pg pl x k j < 127
      unfold lay
      split
      · have := ltN_cd hx (j - pl) (by omega)
        omega
      · exact h2 j hj
theorem LI_letters {i pe ac lr sd pl tg tp kd sf sz tm kg ik kl kp ka qe : Nat} {pg tk gv pr py ks sx tw kst kpr fo qu : Nat → Nat} {fi : Nat → Int32} {x9 : Nat} (h : LInv i pe ac lr sd pl tg tp kd sf sz tm kg ik kl kp ka qe pg tk gv pr py ks sx tw kst kpr fo qu fi) : LInv (i + 5) pe ac lr sd ((N_letters pg pl x9).1) tg tp kd sf sz tm kg ik kl kp ka qe ((N_letters pg pl x9).2) tk gv pr py ks sx tw kst kpr fo qu (va_up fi 15 (nI (N_letters pg pl x9).1)) := by
  obtain ⟨⟨a1, a2, a3, a4, a5, a6, a7, a8, a9, a10, a11, a12, a13, a14⟩, ⟨b1, b2, b3, b4, b5, b6, b7, b8, b9, b10⟩, ⟨c1, c2, c3, c4, c5, c6, c7, c8, c9, c10, c11, c12, c13, c14⟩⟩ := h
  have hn := N_let_ok (x := x9) a4 b1
  exact ⟨⟨(by omega), a2, a3, hn.1, a5, a6, a7, a8, a9, a10, a11, a12, a13, a14⟩, ⟨hn.2, b2, b3, b4, b5, b6, b7, b8, b9, b10⟩, ⟨c1, c2, c3, c4, c5, c6, c7, c8, (up_at _ _ _), c10, c11, c12, c13, c14⟩⟩
theorem LI_blank {i pe ac lr sd pl tg tp kd sf sz tm kg ik kl kp ka qe : Nat} {pg tk gv pr py ks sx tw kst kpr fo qu : Nat → Nat} {fi : Nat → Int32}  (h : LInv i pe ac lr sd pl tg tp kd sf sz tm kg ik kl kp ka qe pg tk gv pr py ks sx tw kst kpr fo qu fi) : LInv (i + 5) pe ac lr sd (0) tg tp kd sf sz tm kg ik kl kp ka qe pg tk gv pr py ks sx tw kst kpr fo qu (va_up fi 15 (nI 0)) := by
  obtain ⟨⟨a1, a2, a3, a4, a5, a6, a7, a8, a9, a10, a11, a12, a13, a14⟩, ⟨b1, b2, b3, b4, b5, b6, b7, b8, b9, b10⟩, ⟨c1, c2, c3, c4, c5, c6, c7, c8, c9, c10, c11, c12, c13, c14⟩⟩ := h
  exact ⟨⟨(by omega), a2, a3, (Nat.zero_le _), a5, a6, a7, a8, a9, a10, a11, a12, a13, a14⟩, ⟨b1, b2, b3, b4, b5, b6, b7, b8, b9, b10⟩, ⟨c1, c2, c3, c4, c5, c6, c7, c8, (up_at _ _ _), c10, c11, c12, c13, c14⟩⟩
theorem N_pr_ok {lr : Nat} {tk gv pr py : Nat → Nat} {x y : Int32} (h1 : ¬ lr = 0 → WL tk gv pr py) (h2 : ∀ j, j < 4 → pr j < 2 ^ 31) : (¬ lr = 0 → WL tk gv (N_price lr pr x y) py) ∧ ∀ j, j < 4 → N_price lr pr x y j < 2 ^ 31 := by
  unfold N_price
  split
  · split
    · split
      · exact ⟨h1, h2⟩
      · rename_i hx hy hl
        obtain ⟨t, ht, rfl⟩ := inR_of2 (by decide) (by decide) hy
        rw [tN_nI (t := t) (by omega)]
        refine ⟨fun q => WL_up (h1 q) ht.1 ht.2, fun j hj => ?_⟩
        by_cases q : j = tN x
        · subst q; rw [up_at]; omega
        · rw [up_ne _ _ q]; exact h2 j hj
    · exact ⟨h1, h2⟩
  · exact ⟨h1, h2⟩
theorem N_pe_ok {lr pe : Nat} {ks sx : Nat → Nat} {x y : Int32} (h5 : pe ≤ 5) (h0 : 0 < pe → ¬ lr = 0) (hw : WPe ks sx) : (N_person lr pe x y ks sx).1 ≤ 5 ∧ (0 < (N_person lr pe x y ks sx).1 → ¬ lr = 0) ∧ WPe (N_person lr pe x y ks sx).2.1 (N_person lr pe x y ks sx).2.2 ∧ (∀ tp, tp < pe → (N_person lr pe x y ks sx).2.1 tp = ks tp) ∧ pe ≤ (N_person lr pe x y ks sx).1 := by
  unfold N_person
  split
  · split
    · split
      · exact ⟨h5, h0, hw, fun _ _ => rfl, Nat.le_refl _⟩
      · split
        · exact ⟨h5, h0, hw, fun _ _ => rfl, Nat.le_refl _⟩
        · rename_i hy hx hl hp
          obtain ⟨t, ht, rfl⟩ := inR_of (by decide) hy
          obtain ⟨u, hu, rfl⟩ := inR_of (by decide) hx
          rw [tN_nI (t := t) (by omega), tN_nI (t := u) (by omega)]
          refine ⟨by show pe + 1 ≤ 5; omega, fun _ => hl, fun j hj => ?_, fun tp htp => ?_, Nat.le_succ _⟩
          · show va_up ks pe u j < 5 ∧ va_up sx pe t j < 40000
            by_cases q : j = pe
            · subst q; rw [up_at, up_at]; omega
            · rw [up_ne _ _ q, up_ne _ _ q]; exact hw j hj
          · show va_up ks pe u tp = ks tp
            rw [up_ne _ _ (by omega)]
    · exact ⟨h5, h0, hw, fun _ _ => rfl, Nat.le_refl _⟩
  · exact ⟨h5, h0, hw, fun _ _ => rfl, Nat.le_refl _⟩
theorem N_pu_ok {pe : Nat} {ks sx : Nat → Nat} {x y z : Int32} (h5 : pe ≤ 5) (hw : WPe ks sx) : WPe ks (N_purse pe sx x y z) := by
  unfold N_purse
  split
  · split
    · split
      · rename_i hx hy hz
        obtain ⟨t, ht, rfl⟩ := isP_of (by omega) hx
        obtain ⟨u, hu, rfl⟩ := inR_of (by decide) hy
        obtain ⟨v, hv, rfl⟩ := inR_of (by decide) hz
        rw [tN_nI (t := t) (by omega), tN_nI (t := u) (by omega), tN_nI (t := v) (by omega)]
        intro j hj
        refine ⟨(hw j hj).1, ?_⟩
        by_cases q : j = t
        · subst q
          rw [up_at]
          have hd := dg_lt (sx j) u
          exact (wC_ok (hw j hj).2 (by omega) (by omega) (by omega)).1
        · rw [up_ne _ _ q]; exact (hw j hj).2
      · exact hw
    · exact hw
  · exact hw
theorem N_ac_ok {pe ac : Nat} {tk gv pr py ks sx : Nat → Nat} {x y : Int32} (h5 : pe ≤ 5) (hw : WPe ks sx) (hl : 0 < pe → WL tk gv pr py) : WPe ks (N_act pe tk gv pr py ks sx ac x y).1 := by
  unfold N_act
  split
  · split
    · rename_i hx hy
      obtain ⟨t, ht, rfl⟩ := isP_of (by omega) hx
      obtain ⟨a, ha, rfl⟩ := aOkI_of hy
      rw [tN_nI (t := t) (by omega), tN_nI (t := a) (by have := aOk_lt ha; omega)]
      cases hb : pB1 tk gv pr py ks sx t a with
      | none => exact hw
      | some k =>
        intro j hj
        refine ⟨(hw j hj).1, ?_⟩
        show va_up sx t k j < 40000
        by_cases q : j = t
        · subst q
          rw [up_at]
          exact bh_lt (WL_WD (ks j) (hl (by omega))) (hw j hj).2 ha hb
        · rw [up_ne _ _ q]; exact (hw j hj).2
    · exact hw
  · exact hw
theorem N_ch_ok {pe : Nat} {ks sx : Nat → Nat} {x y z v : Int32} (h5 : pe ≤ 5) (hw : WPe ks sx) : WPe ks (N_change pe sx x y z v) := by
  unfold N_change
  split
  · split
    · split
      · exact hw
      · split
        · split
          · split
            · rename_i hx hz hxz hy hv hc
              obtain ⟨t, ht, rfl⟩ := isP_of (by omega) hx
              obtain ⟨u, hu, rfl⟩ := isP_of (by omega) hz
              obtain ⟨c, hc1, rfl⟩ := inR_of (by decide) hy
              obtain ⟨d, hd1, rfl⟩ := inR_of (by decide) hv
              rw [tN_nI (t := t) (by omega), tN_nI (t := u) (by omega), tN_nI (t := c) (by omega), tN_nI (t := d) (by omega)] at hc ⊢
              exact fun j hj => ⟨(hw j hj).1, chN_lt (fun j hj => (hw j hj).2) (by omega) (by omega) (by omega) (by omega) hc j hj⟩
            · exact hw
          · exact hw
        · exact hw
    · exact hw
  · exact hw
theorem N_nx_ok {tg sz : Nat} {tw : Nat → Nat} {x : Int32} (h1 : sz ≤ 5) (h2 : ∀ j, j < 5 → tw j < 625) : (N_next tg sz tw x).1 ≤ 5 ∧ (∀ j, j < 5 → (N_next tg sz tw x).2 j < 625) ∧ (tg = 0 → (N_next tg sz tw x).1 = sz ∧ (N_next tg 0 tw x).1 = 0 ∧ (N_next tg 0 tw x).2 = (N_next tg sz tw x).2) := by
  by_cases h0 : tg = 0
  · have e : ∀ s, N_next tg s tw x = (s, tw) := fun s => if_pos h0
    rw [e, e]
    exact ⟨h1, h2, fun _ => ⟨rfl, rfl, rfl⟩⟩
  · refine ⟨?_, ?_, fun q => absurd q h0⟩
    · unfold N_next
      rw [if_neg h0]
      split
      · split
        · exact h1
        · show sz + 1 ≤ 5; omega
      · exact h1
    · intro j hj
      unfold N_next
      rw [if_neg h0]
      split
      · rename_i hx
        split
        · exact h2 j hj
        · obtain ⟨t, ht, rfl⟩ := inR_of (by decide) hx
          rw [tN_nI (t := t) (by omega)]
          show va_up tw sz t j < 625
          by_cases q : j = sz
          · subst q; rw [up_at]; omega
          · rw [up_ne _ _ q]; exact h2 j hj
      · exact h2 j hj
theorem nx_tm {tg sz tm : Nat} (h : tm = if tg = 0 then 0 else sz) (tw : Nat → Nat) (x : Int32) : A_next tg tm x = A_next tg sz x ∧ (N_next tg tm tw x).2 = (N_next tg sz tw x).2 ∧ (N_next tg tm tw x).1 = if tg = 0 then 0 else (N_next tg sz tw x).1 := by
  by_cases h0 : tg = 0
  · rw [if_pos h0] at h ⊢
    have e : ∀ s, N_next tg s tw x = (s, tw) := fun s => if_pos h0
    have e2 : ∀ s, A_next tg s x = -103 := fun s => if_pos h0
    rw [e, e, e2, e2]
    exact ⟨rfl, rfl, h⟩
  · rw [if_neg h0] at h ⊢
    subst h
    exact ⟨rfl, rfl, rfl⟩
theorem LI_price {i pe ac lr sd pl tg tp kd sf sz tm kg ik kl kp ka qe : Nat} {pg tk gv pr py ks sx tw kst kpr fo qu : Nat → Nat} {fi : Nat → Int32} {x y : Int32} (h : LInv i pe ac lr sd pl tg tp kd sf sz tm kg ik kl kp ka qe pg tk gv pr py ks sx tw kst kpr fo qu fi) : LInv (i + 5) pe ac lr sd pl tg tp kd sf sz tm kg ik kl kp ka qe pg tk gv (N_price lr pr x y) py ks sx tw kst kpr fo qu fi := by
  obtain ⟨⟨a1, a2, a3, a4, a5, a6, a7, a8, a9, a10, a11, a12, a13, a14⟩, ⟨b1, b2, b3, b4, b5, b6, b7, b8, b9, b10⟩, ⟨c1, c2, c3, c4, c5, c6, c7, c8, c9, c10, c11, c12, c13, c14⟩⟩ := h
  have hn := N_pr_ok (x := x) (y := y) b2 b9
  exact ⟨⟨(by omega), a2, a3, a4, a5, a6, a7, a8, a9, a10, a11, a12, a13, a14⟩, ⟨b1, hn.1, b3, b4, b5, b6, b7, b8, hn.2, b10⟩, ⟨c1, c2, c3, c4, c5, c6, c7, c8, c9, c10, c11, c12, c13, c14⟩⟩
theorem LI_person {i pe ac lr sd pl tg tp kd sf sz tm kg ik kl kp ka qe : Nat} {pg tk gv pr py ks sx tw kst kpr fo qu : Nat → Nat} {fi : Nat → Int32} {x y : Int32} (h : LInv i pe ac lr sd pl tg tp kd sf sz tm kg ik kl kp ka qe pg tk gv pr py ks sx tw kst kpr fo qu fi) : LInv (i + 5) ((N_person lr pe x y ks sx).1) ac lr sd pl tg tp kd sf sz tm kg ik kl kp ka qe pg tk gv pr py ((N_person lr pe x y ks sx).2.1) ((N_person lr pe x y ks sx).2.2) tw kst kpr fo qu (va_up fi 6 (nI (N_person lr pe x y ks sx).1)) := by
  obtain ⟨⟨a1, a2, a3, a4, a5, a6, a7, a8, a9, a10, a11, a12, a13, a14⟩, ⟨b1, b2, b3, b4, b5, b6, b7, b8, b9, b10⟩, ⟨c1, c2, c3, c4, c5, c6, c7, c8, c9, c10, c11, c12, c13, c14⟩⟩ := h
  have hn := N_pe_ok (x := x) (y := y) a3 b3 b6
  exact ⟨⟨(by omega), a2, hn.1, a4, a5, a6, a7, a8, a9, a10, a11, a12, a13, a14⟩, ⟨b1, b2, hn.2.1, (fun q => ⟨(b4 q).1.trans (hn.2.2.2.1 tp (b4 q).2).symm, Nat.lt_of_lt_of_le (b4 q).2 hn.2.2.2.2⟩), b5, hn.2.2.1, b7, b8, b9, b10⟩, ⟨c1, c2, (up_at _ _ _), c4, c5, c6, c7, c8, c9, c10, c11, c12, c13, c14⟩⟩
theorem LI_purse {i pe ac lr sd pl tg tp kd sf sz tm kg ik kl kp ka qe : Nat} {pg tk gv pr py ks sx tw kst kpr fo qu : Nat → Nat} {fi : Nat → Int32} {x y z : Int32} (h : LInv i pe ac lr sd pl tg tp kd sf sz tm kg ik kl kp ka qe pg tk gv pr py ks sx tw kst kpr fo qu fi) : LInv (i + 5) pe ac lr sd pl tg tp kd sf sz tm kg ik kl kp ka qe pg tk gv pr py ks (N_purse pe sx x y z) tw kst kpr fo qu fi := by
  obtain ⟨⟨a1, a2, a3, a4, a5, a6, a7, a8, a9, a10, a11, a12, a13, a14⟩, ⟨b1, b2, b3, b4, b5, b6, b7, b8, b9, b10⟩, ⟨c1, c2, c3, c4, c5, c6, c7, c8, c9, c10, c11, c12, c13, c14⟩⟩ := h
  have hn := N_pu_ok (x := x) (y := y) (z := z) a3 b6
  exact ⟨⟨(by omega), a2, a3, a4, a5, a6, a7, a8, a9, a10, a11, a12, a13, a14⟩, ⟨b1, b2, b3, b4, b5, hn, b7, b8, b9, b10⟩, ⟨c1, c2, c3, c4, c5, c6, c7, c8, c9, c10, c11, c12, c13, c14⟩⟩
theorem LI_act {i pe ac lr sd pl tg tp kd sf sz tm kg ik kl kp ka qe : Nat} {pg tk gv pr py ks sx tw kst kpr fo qu : Nat → Nat} {fi : Nat → Int32} {x y : Int32} (h : LInv i pe ac lr sd pl tg tp kd sf sz tm kg ik kl kp ka qe pg tk gv pr py ks sx tw kst kpr fo qu fi) : LInv (i + 5) pe ((N_act pe tk gv pr py ks sx ac x y).2) lr sd pl tg tp kd sf sz tm kg ik kl kp ka qe pg tk gv pr py ks ((N_act pe tk gv pr py ks sx ac x y).1) tw kst kpr fo qu (va_up fi 9 (nI (N_act pe tk gv pr py ks sx ac x y).2)) := by
  obtain ⟨⟨a1, a2, a3, a4, a5, a6, a7, a8, a9, a10, a11, a12, a13, a14⟩, ⟨b1, b2, b3, b4, b5, b6, b7, b8, b9, b10⟩, ⟨c1, c2, c3, c4, c5, c6, c7, c8, c9, c10, c11, c12, c13, c14⟩⟩ := h
  have hn := N_ac_ok (ac := ac) (x := x) (y := y) a3 b6 (fun q => b2 (b3 q))
  exact ⟨⟨(by omega), a2, a3, a4, a5, a6, a7, a8, a9, a10, a11, a12, a13, a14⟩, ⟨b1, b2, b3, b4, b5, hn, b7, b8, b9, b10⟩, ⟨c1, c2, c3, (up_at _ _ _), c5, c6, c7, c8, c9, c10, c11, c12, c13, c14⟩⟩
theorem LI_change {i pe ac lr sd pl tg tp kd sf sz tm kg ik kl kp ka qe : Nat} {pg tk gv pr py ks sx tw kst kpr fo qu : Nat → Nat} {fi : Nat → Int32} {x y z v : Int32} (h : LInv i pe ac lr sd pl tg tp kd sf sz tm kg ik kl kp ka qe pg tk gv pr py ks sx tw kst kpr fo qu fi) : LInv (i + 5) pe ac lr sd pl tg tp kd sf sz tm kg ik kl kp ka qe pg tk gv pr py ks (N_change pe sx x y z v) tw kst kpr fo qu fi := by
  obtain ⟨⟨a1, a2, a3, a4, a5, a6, a7, a8, a9, a10, a11, a12, a13, a14⟩, ⟨b1, b2, b3, b4, b5, b6, b7, b8, b9, b10⟩, ⟨c1, c2, c3, c4, c5, c6, c7, c8, c9, c10, c11, c12, c13, c14⟩⟩ := h
  have hn := N_ch_ok (x := x) (y := y) (z := z) (v := v) a3 b6
  exact ⟨⟨(by omega), a2, a3, a4, a5, a6, a7, a8, a9, a10, a11, a12, a13, a14⟩, ⟨b1, b2, b3, b4, b5, hn, b7, b8, b9, b10⟩, ⟨c1, c2, c3, c4, c5, c6, c7, c8, c9, c10, c11, c12, c13, c14⟩⟩
theorem LI_next {i pe ac lr sd pl tg tp kd sf sz tm kg ik kl kp ka qe : Nat} {pg tk gv pr py ks sx tw kst kpr fo qu : Nat → Nat} {fi : Nat → Int32} {x : Int32} (h : LInv i pe ac lr sd pl tg tp kd sf sz tm kg ik kl kp ka qe pg tk gv pr py ks sx tw kst kpr fo qu fi) : LInv (i + 5) pe ac lr sd pl tg tp kd sf ((N_next tg sz tw x).1) ((N_next tg tm tw x).1) kg ik kl kp ka qe pg tk gv pr py ks sx ((N_next tg sz tw x).2) kst kpr fo qu (va_up fi 13 (nI (N_next tg tm tw x).1)) := by
  obtain ⟨⟨a1, a2, a3, a4, a5, a6, a7, a8, a9, a10, a11, a12, a13, a14⟩, ⟨b1, b2, b3, b4, b5, b6, b7, b8, b9, b10⟩, ⟨c1, c2, c3, c4, c5, c6, c7, c8, c9, c10, c11, c12, c13, c14⟩⟩ := h
  have hn := N_nx_ok (tg := tg) (x := x) a9 b7
  have hm := nx_tm a10 tw x
  exact ⟨⟨(by omega), a2, a3, a4, a5, a6, a7, a8, hn.1, hm.2.2, a11, a12, a13, a14⟩, ⟨b1, b2, b3, b4, b5, b6, hn.2.1, b8, b9, b10⟩, ⟨c1, c2, c3, c4, c5, c6, c7, (up_at _ _ _), c9, c10, c11, c12, c13, c14⟩⟩
theorem LI_trail {i pe ac lr sd pl tg tp kd sf sz tm kg ik kl kp ka qe : Nat} {pg tk gv pr py ks sx tw kst kpr fo qu : Nat → Nat} {fi : Nat → Int32} {x : Int32} (hx : isP pe x) (h : LInv i pe ac lr sd pl tg tp kd sf sz tm kg ik kl kp ka qe pg tk gv pr py ks sx tw kst kpr fo qu fi) : LInv (i + 5) pe ac lr sd pl (1) (tN x) (ks (tN x)) (sx (tN x)) (0) (0) kg ik kl kp ka qe pg tk gv pr py ks sx tw kst kpr fo qu (va_up (va_up (va_up fi 11 (nI (tN x))) 12 (nI (sx (tN x)))) 13 (nI 0)) := by
  obtain ⟨⟨a1, a2, a3, a4, a5, a6, a7, a8, a9, a10, a11, a12, a13, a14⟩, ⟨b1, b2, b3, b4, b5, b6, b7, b8, b9, b10⟩, ⟨c1, c2, c3, c4, c5, c6, c7, c8, c9, c10, c11, c12, c13, c14⟩⟩ := h
  obtain ⟨t, ht, rfl⟩ := isP_of (by omega) hx
  rw [tN_nI (t := t) (by omega)]
  have hw := b6 t (by omega)
  exact ⟨⟨(by omega), a2, a3, a4, (by decide), (by omega), hw.1, hw.2, (Nat.zero_le _), rfl, a11, a12, a13, a14⟩, ⟨b1, b2, b3, (fun _ => ⟨rfl, ht⟩), b5, b6, b7, b8, b9, b10⟩, ⟨c1, c2, c3, c4, c5, (trI_1 t).symm, (up_at (va_up fi 11 (nI t)) 12 (nI (sx t))), (up_at _ _ _), c9, c10, c11, c12, c13, c14⟩⟩
theorem LI_image {i pe ac lr sd pl tg tp kd sf sz tm kg ik kl kp ka qe : Nat} {pg tk gv pr py ks sx tw kst kpr fo qu : Nat → Nat} {fi : Nat → Int32} (hl : ¬ lr = 0) (h : LInv i pe ac lr sd pl tg tp kd sf sz tm kg ik kl kp ka qe pg tk gv pr py ks sx tw kst kpr fo qu fi) : LInv (i + 5) pe ac lr sd pl tg tp kd sf sz tm (1) (1) lr pe ac qe pg tk gv pr py ks sx tw (cpy sx kst 5) (cpy pr kpr 4) fo qu (va_up (va_up (va_up (va_up fi 31 (nI 1)) 32 (nI lr)) 33 (nI pe)) 34 (nI ac)) := by
  obtain ⟨⟨a1, a2, a3, a4, a5, a6, a7, a8, a9, a10, a11, a12, a13, a14⟩, ⟨b1, b2, b3, b4, b5, b6, b7, b8, b9, b10⟩, ⟨c1, c2, c3, c4, c5, c6, c7, c8, c9, c10, c11, c12, c13, c14⟩⟩ := h
  have e1 : ∀ j, j < 5 → cpy sx kst 5 j < 40000 := fun j hj => by unfold cpy; rw [if_pos hj]; exact (b6 j hj).2
  have e2 : ∀ j, j < 4 → 1 ≤ cpy pr kpr 4 j ∧ cpy pr kpr 4 j ≤ 4 := fun j hj => by unfold cpy; rw [if_pos hj]; exact ⟨(b2 hl j hj).2.2.1, (b2 hl j hj).2.2.2.1⟩
  exact ⟨⟨(by omega), a2, a3, a4, a5, a6, a7, a8, a9, a10, (by decide), (Nat.le_refl _), a3, (by rw [if_neg (by decide), if_pos rfl])⟩, ⟨b1, b2, b3, b4, (fun _ => ⟨hl, e2⟩), b6, b7, e1, b9, b10⟩, ⟨c1, c2, c3, c4, c5, c6, c7, c8, c9, c10, (up_at fi 31 (nI 1)), (up_at (va_up fi 31 (nI 1)) 32 (nI lr)), (up_at (va_up (va_up fi 31 (nI 1)) 32 (nI lr)) 33 (nI pe)), (up_at _ _ _)⟩⟩
theorem LI_restore {i pe ac lr sd pl tg tp kd sf sz tm kg ik kl kp ka qe : Nat} {pg tk gv pr py ks sx tw kst kpr fo qu : Nat → Nat} {fi : Nat → Int32} (hk : ¬ kg = 0) (h : LInv i pe ac lr sd pl tg tp kd sf sz tm kg ik kl kp ka qe pg tk gv pr py ks sx tw kst kpr fo qu fi) : LInv (i + 5) kp ka lr sd pl (0) tp kd sf sz (0) kg ik kl kp ka qe pg tk gv (cpy kpr pr 4) py ks (cpy kst sx 5) tw kst kpr fo qu (va_up (va_up (va_up (va_up fi 6 (nI kp)) 9 (nI ka)) 11 (-1)) 13 (nI 0)) := by
  obtain ⟨⟨a1, a2, a3, a4, a5, a6, a7, a8, a9, a10, a11, a12, a13, a14⟩, ⟨b1, b2, b3, b4, b5, b6, b7, b8, b9, b10⟩, ⟨c1, c2, c3, c4, c5, c6, c7, c8, c9, c10, c11, c12, c13, c14⟩⟩ := h
  have hl := (b5 hk).1
  have e1 : WPe ks (cpy kst sx 5) := fun j hj => ⟨(b6 j hj).1, by unfold cpy; rw [if_pos hj]; exact b8 j hj⟩
  have e2 : ∀ j, j < 4 → cpy kpr pr 4 j = kpr j := fun j hj => by unfold cpy; rw [if_pos hj]
  have e3 : WL tk gv (cpy kpr pr 4) py := fun t ht => by rw [e2 t ht]; exact ⟨(b2 hl t ht).1, (b2 hl t ht).2.1, ((b5 hk).2 t ht).1, ((b5 hk).2 t ht).2, (b2 hl t ht).2.2.2.2⟩
  have e4 : ∀ j, j < 4 → cpy kpr pr 4 j < 2 ^ 31 := fun j hj => by rw [e2 j hj]; have := ((b5 hk).2 j hj).2; omega
  exact ⟨⟨(by omega), a2, a13, a4, (by decide), a6, a7, a8, a9, (if_pos rfl).symm, a11, a12, a13, a14⟩, ⟨b1, (fun _ => e3), (fun _ => hl), (fun q => absurd rfl q), b5, e1, b7, b8, e4, b10⟩, ⟨c1, c2, (up_at fi 6 (nI kp)), (up_at (va_up fi 6 (nI kp)) 9 (nI ka)), c5, (show (-1 : Int32) = trI 0 tp from (if_pos rfl).symm), c7, (up_at _ _ _), c9, c10, c11, c12, c13, c14⟩⟩
theorem lF {fi fi2 : Nat → Int32} {lr : Nat} {P : Prop} [Decidable P] (hp : P) (h : ∀ k, ¬ k = 17 → ¬ k = 18 → ¬ k = 19 → fi2 k = (if P then lawFi fi lr k else fi k)) : ∀ k, ¬ k = 17 → ¬ k = 18 → ¬ k = 19 → fi2 k = lawFi fi lr k := fun k h1 h2 h3 => by rw [h k h1 h2 h3, if_pos hp]
theorem lFn {fi fi2 : Nat → Int32} {lr : Nat} {P : Prop} [Decidable P] (hp : ¬ P) (h : ∀ k, ¬ k = 17 → ¬ k = 18 → ¬ k = 19 → fi2 k = (if P then lawFi fi lr k else fi k)) : ∀ k, ¬ k = 17 → ¬ k = 18 → ¬ k = 19 → fi2 k = fi k := fun k h1 h2 h3 => by rw [h k h1 h2 h3, if_neg hp]
theorem LI_law0 {i pe ac lr sd pl tg tp kd sf sz tm kg ik kl kp ka qe : Nat} {pg tk gv pr py ks sx tw kst kpr fo qu : Nat → Nat} {fi : Nat → Int32} {fi2 : Nat → Int32} (hf : ∀ k, ¬ k = 17 → ¬ k = 18 → ¬ k = 19 → fi2 k = fi k) (h : LInv i pe ac lr sd pl tg tp kd sf sz tm kg ik kl kp ka qe pg tk gv pr py ks sx tw kst kpr fo qu fi) : LInv (i + 5) pe ac lr sd pl tg tp kd sf sz tm kg ik kl kp ka qe pg tk gv pr py ks sx tw kst kpr fo qu fi2 := by
  obtain ⟨⟨a1, a2, a3, a4, a5, a6, a7, a8, a9, a10, a11, a12, a13, a14⟩, ⟨b1, b2, b3, b4, b5, b6, b7, b8, b9, b10⟩, ⟨c1, c2, c3, c4, c5, c6, c7, c8, c9, c10, c11, c12, c13, c14⟩⟩ := h
  exact ⟨⟨(by omega), a2, a3, a4, a5, a6, a7, a8, a9, a10, a11, a12, a13, a14⟩, ⟨b1, b2, b3, b4, b5, b6, b7, b8, b9, b10⟩, ⟨((hf 0 (by decide) (by decide) (by decide)).trans c1), ((hf 1 (by decide) (by decide) (by decide)).trans c2), ((hf 6 (by decide) (by decide) (by decide)).trans c3), ((hf 9 (by decide) (by decide) (by decide)).trans c4), ((hf 10 (by decide) (by decide) (by decide)).trans c5), ((hf 11 (by decide) (by decide) (by decide)).trans c6), ((hf 12 (by decide) (by decide) (by decide)).trans c7), ((hf 13 (by decide) (by decide) (by decide)).trans c8), ((hf 15 (by decide) (by decide) (by decide)).trans c9), ((hf 26 (by decide) (by decide) (by decide)).trans c10), ((hf 31 (by decide) (by decide) (by decide)).trans c11), ((hf 32 (by decide) (by decide) (by decide)).trans c12), ((hf 33 (by decide) (by decide) (by decide)).trans c13), ((hf 34 (by decide) (by decide) (by decide)).trans c14)⟩⟩
theorem LI_law1 {i pe ac lr sd pl tg tp kd sf sz tm kg ik kl kp ka qe : Nat} {pg tk gv pr py ks sx tw kst kpr fo qu : Nat → Nat} {fi : Nat → Int32} {fi2 : Nat → Int32} (hw : isWh pg pl) (hf : ∀ k, ¬ k = 17 → ¬ k = 18 → ¬ k = 19 → fi2 k = lawFi fi lr k) (h : LInv i pe ac lr sd pl tg tp kd sf sz tm kg ik kl kp ka qe pg tk gv pr py ks sx tw kst kpr fo qu fi) : LInv (i + 5) (0) (0) (lr + 1) sd (0) (0) tp kd sf sz (0) (0) ik kl kp ka qe pg ((rdR pg pl).2.2.1) ((rdR pg pl).2.2.2.1) ((rdR pg pl).2.2.2.2.1) ((rdR pg pl).2.2.2.2.2) ks sx tw kst kpr fo qu fi2 := by
  obtain ⟨⟨a1, a2, a3, a4, a5, a6, a7, a8, a9, a10, a11, a12, a13, a14⟩, ⟨b1, b2, b3, b4, b5, b6, b7, b8, b9, b10⟩, ⟨c1, c2, c3, c4, c5, c6, c7, c8, c9, c10, c11, c12, c13, c14⟩⟩ := h
  have hl := wh_WL hw
  exact ⟨⟨(by omega), a2, (Nat.zero_le _), (Nat.zero_le _), (by decide), a6, a7, a8, a9, (if_pos rfl).symm, a11, (by omega), a13, (by rw [if_neg (show ¬ kl = lr + 1 by omega)]; split <;> rfl)⟩, ⟨b1, (fun _ => hl), (fun q => absurd q (by omega)), (fun q => absurd rfl q), (fun q => absurd rfl q), b6, b7, b8, (fun j hj => by have := (hl j hj).2.2.2.1; omega), b10⟩, ⟨((hf 0 (by decide) (by decide) (by decide)).trans (show nI 1 = bI (¬ lr + 1 = 0) from nI1_b (Nat.succ_ne_zero lr))), ((hf 1 (by decide) (by decide) (by decide)).trans rfl), ((hf 6 (by decide) (by decide) (by decide)).trans rfl), ((hf 9 (by decide) (by decide) (by decide)).trans rfl), ((hf 10 (by decide) (by decide) (by decide)).trans c5), ((hf 11 (by decide) (by decide) (by decide)).trans (show (-1 : Int32) = trI 0 tp from (if_pos rfl).symm)), ((hf 12 (by decide) (by decide) (by decide)).trans c7), ((hf 13 (by decide) (by decide) (by decide)).trans rfl), ((hf 15 (by decide) (by decide) (by decide)).trans rfl), ((hf 26 (by decide) (by decide) (by decide)).trans c10), ((hf 31 (by decide) (by decide) (by decide)).trans c11), ((hf 32 (by decide) (by decide) (by decide)).trans c12), ((hf 33 (by decide) (by decide) (by decide)).trans c13), ((hf 34 (by decide) (by decide) (by decide)).trans c14)⟩⟩
