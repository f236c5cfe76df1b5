/-! the searches compared: by who first can buy, or by who first has the good -/
theorem bits_p : ∀ q, q < 16 → ∀ t, t < 4 → ¬ q / 2 ^ t % 2 = 1 → ∀ u, u < 4 → ((q + 2 ^ t) / 2 ^ u % 2 = 1 ↔ (u = t ∨ q / 2 ^ u % 2 = 1)) := by decide +kernel
theorem bits_m : ∀ q, q < 16 → ∀ t, t < 4 → q / 2 ^ t % 2 = 1 → ∀ u, u < 4 → (q - 2 ^ t) / 2 ^ u % 2 = 1 → q / 2 ^ u % 2 = 1 := by decide +kernel
theorem gd_buy {co pa : Nat → Nat} {n c k g : Nat} (hn : n < 40000) (hc : c < 4) (hg : g < 4) (h : bBuy co pa n c = some k) : gd k g ↔ (g = n % 4 ∨ gd n g) := by
  unfold bBuy at h
  split at h
  · rename_i q
    cases h
    have h1 := wC_buy (p := co (n % 4)) hn hc q.2.2
    have ht : n % 4 < 4 := Nat.mod_lt _ (by decide)
    have hb : ¬ gd (wC n c 0 (co (n % 4))) (n % 4) := by show ¬ wC n c 0 (co (n % 4)) / 2500 / 2 ^ (n % 4) % 2 = 1; rw [h1.2.2]; exact q.1
    have h2 := (wG_ok (g := n % 4) h1.1 ht).2.2.2.1
    rw [if_neg hb, h1.2.2] at h2
    show wG (wC n c 0 (co (n % 4))) (n % 4) / 2500 / 2 ^ g % 2 = 1 ↔ _
    rw [h2]
    exact bits_p _ (g_lt hn) _ ht q.1 g hg
  · cases h
theorem gd_sell {ge gi : Nat → Nat} {n x k g : Nat} (hgi : gi (n % 4) < 4) (hn : n < 40000) (hx : x < 4) (hg : g < 4) (h : bSell ge gi n x = some k) (h2 : gd k g) : gd n g := by
  unfold bSell at h
  split at h
  · rename_i q
    cases h
    have h1 := wC_sell (p := ge (n % 4)) hn hgi q.2.2
    have hb : gd (wC n (gi (n % 4)) (ge (n % 4)) 0) x := by show wC n (gi (n % 4)) (ge (n % 4)) 0 / 2500 / 2 ^ x % 2 = 1; rw [h1.2.2]; exact q.1
    have h3 := (wG_ok (g := x) h1.1 hx).2.2.2.1
    rw [if_pos hb, h1.2.2] at h3
    have h2 : wG (wC n (gi (n % 4)) (ge (n % 4)) 0) x / 2500 / 2 ^ g % 2 = 1 := h2
    rw [h3] at h2
    exact bits_m _ (g_lt hn) _ hx q.1 g hg h2
  · cases h
theorem gd_go {n t k g : Nat} (hn : n < 40000) (ht : t < 4) (h : bGo n t = some k) (h2 : gd k g) : gd n g := by
  unfold bGo at h
  split at h
  · cases h
    have h3 := (wT_ok hn ht).2.2.1
    have h2 : wT n t / 2500 / 2 ^ g % 2 = 1 := h2
    rw [h3] at h2; exact h2
  · cases h
section SEM
variable {co ge gi pa : Nat → Nat} {g : Nat}
theorem bG_1 (hw : WD co ge gi pa) (hg : g < 4) {n a k : Nat} (hn : n < 40000) (ha : aOk a) (h : bh co ge gi pa n a = some k) (h1 : ¬ gd n g) (h2 : gd k g) : ∃ c, c < 4 ∧ a = 10 + c ∧ cbP (co g) (pa g) g n c := by
  unfold bh at h
  split at h
  · exact absurd (gd_go hn (by unfold aOk at ha; omega) h h2) h1
  · split at h
    · have hc : a - 10 < 4 := by unfold aOk at ha; omega
      have e := (gd_buy hn hc hg h).mp h2
      have e := e.resolve_right h1
      refine ⟨a - 10, hc, by omega, ?_⟩
      unfold bBuy at h
      split at h
      · rename_i q
        rw [← e] at q
        exact ⟨e.symm, q.2.1, q.2.2⟩
      · cases h
    · exact absurd (gd_sell ((hw _ (Nat.mod_lt _ (by decide))).2.2.1) hn (by unfold aOk at ha; omega) hg h h2) h1
theorem bG_2 (hg : g < 4) {n c : Nat} (hn : n < 40000) (hc : c < 4) (h : cbP (co g) (pa g) g n c) (h1 : ¬ gd n g) : ∃ k, bh co ge gi pa n (10 + c) = some k ∧ gd k g := by
  have e : bh co ge gi pa n (10 + c) = bBuy co pa n c := by unfold bh; rw [if_neg (by omega), if_pos (by omega), Nat.add_sub_cancel_left]
  have h2 : bBuy co pa n c = some (wG (wC n c 0 (co (n % 4))) (n % 4)) := if_pos (by rw [h.1]; exact ⟨h1, h.2.1, h.2.2⟩)
  exact ⟨_, e.trans h2, (gd_buy hn hc hg h2).mpr (Or.inl h.1.symm)⟩
def NGQ (g : Nat) (Q : qT) : Prop := ∀ (j n f : Nat), Q[j]? = some (n, f) → ¬ gd n g
def FG (g : Nat) (Q : qT) (L x : Nat) : Prop := ∃ (j n : Nat), Q[j]? = some (n, x) ∧ gd n g ∧ L ≤ j ∧ ∀ j', j' < j → ∀ (n' f' : Nat), Q[j']? = some (n', f') → ¬ gd n' g
theorem NGQ_in {Q : qT} {k : Nat} (h : NGQ g Q) (hk : gd k g) : ¬ inQ Q k := fun ⟨f, hf⟩ => by
  obtain ⟨j, hj⟩ := List.mem_iff_getElem?.mp hf
  exact h j k f hj hk
theorem app_at {Q : qT} {j k f n f' : Nat} (h : (Q ++ [(k, f)])[j]? = some (n, f')) : Q[j]? = some (n, f') ∨ (j = Q.length ∧ n = k ∧ f' = f) := by
  rcases Nat.lt_or_ge j Q.length with z | z
  · rw [List.getElem?_append_left z] at h; exact Or.inl h
  · rw [List.getElem?_append_right z] at h
    have h1 := (List.getElem?_eq_some_iff.mp h).1
    have h4 : j = Q.length := by simp at h1; omega
    subst h4
    simp at h
    exact Or.inr ⟨rfl, h.1.symm, h.2.symm⟩
theorem NGQ_ins {Q : qT} {k f : Nat} (h : NGQ g Q) (hk : ¬ gd k g) : NGQ g (ins Q k f) := by
  by_cases q : inQ Q k
  · rw [ins_old q]; exact h
  · rw [ins_new q]
    intro j n f' hj
    rcases app_at hj with z | ⟨-, z, -⟩
    · exact h j n f' z
    · rw [z]; exact hk
theorem FG_app {Q r : qT} {L x : Nat} (h : FG g Q L x) : FG g (Q ++ r) L x := by
  obtain ⟨j, n, h1, h2, h3, h4⟩ := h
  have hl := (List.getElem?_eq_some_iff.mp h1).1
  refine ⟨j, n, by rw [List.getElem?_append_left hl]; exact h1, h2, h3, fun j' hj n' f' hq => ?_⟩
  rw [List.getElem?_append_left (by omega)] at hq
  exact h4 j' hj n' f' hq
theorem FG_hit {Q : qT} {k f L : Nat} (h : NGQ g Q) (hk : gd k g) (hL : L ≤ Q.length) : FG g (ins Q k f) L f := by
  rw [ins_new (NGQ_in h hk)]
  refine ⟨Q.length, k, by simp, hk, hL, fun j hj n' f' hq => ?_⟩
  rw [List.getElem?_append_left hj] at hq
  exact h j n' f' hq
theorem exL_len {i f : Nat} {Q P : qT} : Q.length ≤ (exL i f Q P).length := by
  obtain ⟨r, hr⟩ := exL_pre i f P Q
  rw [hr, List.length_append]; omega
theorem ex_step (hw : WD co ge gi pa) (hg : g < 4) {m f n L : Nat} {Q : qT} (hQ : NGQ g Q) (hL : L ≤ Q.length) (hn : n < 40000) (hng : ¬ gd n g) : ∀ j, j ≤ 12 → (bc (co g) (pa g) g n (min 4 (j - 4)) = none → NGQ g (exL m f Q (oCP (bh co ge gi pa n) j))) ∧ (∀ c, bc (co g) (pa g) g n (min 4 (j - 4)) = some c → FG g (exL m f Q (oCP (bh co ge gi pa n) j)) L (if m = 0 then 10 + c else f))
  | 0, _ => ⟨fun _ => hQ, fun c hc => by cases hc⟩
  | j + 1, hj => by
    obtain ⟨ih1, ih2⟩ := ex_step hw hg (m := m) (f := f) hQ hL hn hng j (by omega)
    have hLj : L ≤ (exL m f Q (oCP (bh co ge gi pa n) j)).length := Nat.le_trans hL exL_len
    have hok := (actN_ok j (by omega)).1
    have hN : actN j = if j < 4 then j else if j < 8 then j + 6 else j + 12 := rfl
    -- what the first coins tell, step by step
    have hr1 : ∀ c, bc (co g) (pa g) g n (min 4 (j - 4)) = some c → bc (co g) (pa g) g n (min 4 (j + 1 - 4)) = some c := fun c hc => bc_stay hc (by omega)
    have hr2 : (∀ c, c < 4 → actN j = 10 + c → ¬ cbP (co g) (pa g) g n c) → bc (co g) (pa g) g n (min 4 (j - 4)) = none → bc (co g) (pa g) g n (min 4 (j + 1 - 4)) = none := fun hno h => by
      by_cases q : 4 ≤ j ∧ j < 8
      · rw [show min 4 (j + 1 - 4) = (j - 4) + 1 by omega]
        rw [show min 4 (j - 4) = j - 4 by omega] at h
        refine bc_n h (hno (j - 4) (by omega) ?_)
        rw [hN, if_neg (by omega), if_pos (by omega)]; omega
      · rw [show min 4 (j + 1 - 4) = min 4 (j - 4) by omega]; exact h
    have hr3 : ∀ c, c < 4 → actN j = 10 + c → cbP (co g) (pa g) g n c → bc (co g) (pa g) g n (min 4 (j - 4)) = none → bc (co g) (pa g) g n (min 4 (j + 1 - 4)) = some c := fun c hc ha hcb h => by
      have e : 4 ≤ j ∧ j < 8 ∧ c = j - 4 := by
        rw [hN] at ha
        split at ha
        · omega
        · split at ha <;> omega
      rw [show min 4 (j + 1 - 4) = (j - 4) + 1 by omega]
      rw [show min 4 (j - 4) = j - 4 by omega] at h
      rw [e.2.2] at hcb ⊢
      exact bc_y h hcb
    cases hb : bh co ge gi pa n (actN j) with
    | none =>
      rw [oCP_none hb]
      have hno : ∀ c, c < 4 → actN j = 10 + c → ¬ cbP (co g) (pa g) g n c := fun c hc ha hcb => by
        obtain ⟨k, hk, -⟩ := bG_2 (ge := ge) (gi := gi) hg hn hc hcb hng
        rw [← ha, hb] at hk; cases hk
      cases hc : bc (co g) (pa g) g n (min 4 (j - 4)) with
      | none => rw [hr2 hno hc]; exact ⟨fun _ => ih1 hc, fun c h => by cases h⟩
      | some c => rw [hr1 c hc]; exact ⟨fun h => by (cases h), fun c' h => by cases h; exact ih2 c hc⟩
    | some k =>
      rw [oCP_some hb, exL_s]
      cases hc : bc (co g) (pa g) g n (min 4 (j - 4)) with
      | some c =>
        rw [hr1 c hc]
        refine ⟨fun h => by (cases h), fun c' h => ?_⟩
        cases h
        obtain ⟨r, hr⟩ := ins_pre (exL m f Q (oCP (bh co ge gi pa n) j)) k (if m = 0 then actN j else f)
        rw [hr]
        exact FG_app (ih2 c hc)
      | none =>
        by_cases hk : gd k g
        · obtain ⟨c, h1, h2, h3⟩ := bG_1 hw hg hn hok hb hng hk
          rw [hr3 c h1 h2 h3 hc]
          refine ⟨fun h => by (cases h), fun c' h => ?_⟩
          cases h
          rw [h2]
          exact FG_hit (ih1 hc) hk hLj
        · have hno : ∀ c, c < 4 → actN j = 10 + c → ¬ cbP (co g) (pa g) g n c := fun c hc ha hcb => by
            obtain ⟨k', hk', hg'⟩ := bG_2 (ge := ge) (gi := gi) hg hn hc hcb hng
            rw [← ha, hb] at hk'
            cases hk'
            exact hk hg'
          rw [hr2 hno hc]
          exact ⟨fun _ => NGQ_ins (ih1 hc) hk, fun c h => by cases h⟩
theorem lvl (hw : WD co ge gi pa) (hg : g < 4) {s d : Nat} (hs : s < 40000) (hN : NGQ g (qS (bh co ge gi pa) s (bS (bh co ge gi pa) s d))) : ∀ i, bS (bh co ge gi pa) s d + i ≤ bS (bh co ge gi pa) s (d + 1) → (fl (co g) (pa g) g (qS (bh co ge gi pa) s (bS (bh co ge gi pa) s d)) (bS (bh co ge gi pa) s d) i = none → NGQ g (qS (bh co ge gi pa) s (bS (bh co ge gi pa) s d + i))) ∧ (∀ x, fl (co g) (pa g) g (qS (bh co ge gi pa) s (bS (bh co ge gi pa) s d)) (bS (bh co ge gi pa) s d) i = some x → FG g (qS (bh co ge gi pa) s (bS (bh co ge gi pa) s d + i)) (bS (bh co ge gi pa) s (d + 1)) x)
  | 0, _ => ⟨fun _ => hN, fun x hx => by cases hx⟩
  | i + 1, hi => by
    obtain ⟨ih1, ih2⟩ := lvl hw hg hs hN i (by omega)
    obtain ⟨n, f, hat⟩ := at_lt (Q := qS (bh co ge gi pa) s (bS (bh co ge gi pa) s d)) (j := bS (bh co ge gi pa) s d + i) (by show bS (bh co ge gi pa) s d + i < bS (bh co ge gi pa) s (d + 1); omega)
    have hat2 := qS_at (m' := bS (bh co ge gi pa) s d + i) (by omega) hat
    have hqi := qS_QI (GB_d hw) hs (bS (bh co ge gi pa) s d + i)
    obtain ⟨hn, hf⟩ := QI_at hqi hat2
    have hL : bS (bh co ge gi pa) s (d + 1) ≤ (qS (bh co ge gi pa) s (bS (bh co ge gi pa) s d + i)).length := qS_len (by omega)
    rw [show bS (bh co ge gi pa) s d + (i + 1) = bS (bh co ge gi pa) s d + i + 1 by omega, qS_s hat2]
    cases q : fl (co g) (pa g) g (qS (bh co ge gi pa) s (bS (bh co ge gi pa) s d)) (bS (bh co ge gi pa) s d) i with
    | some x =>
      rw [fl_stay q (Nat.le_succ i)]
      refine ⟨fun h => by (cases h), fun x' h => ?_⟩
      cases h
      obtain ⟨r, hr⟩ := exL_pre (bS (bh co ge gi pa) s d + i) f (opP (bh co ge gi pa n)) (qS (bh co ge gi pa) s (bS (bh co ge gi pa) s d + i))
      rw [hr]
      exact FG_app (ih2 x q)
    | none =>
      have h1 := ih1 q
      have hst := ex_step hw hg (m := bS (bh co ge gi pa) s d + i) (f := f) h1 hL hn (h1 _ n f hat2) 12 (Nat.le_refl _)
      rw [oCP_12, show min 4 (12 - 4) = 4 from rfl] at hst
      cases hc : bc (co g) (pa g) g n 4 with
      | none =>
        rw [fl_n q hat hc]
        exact ⟨fun _ => hst.1 hc, fun x h => by cases h⟩
      | some c =>
        rw [fl_y q hat hc]
        refine ⟨fun h => by (cases h), fun x h => ?_⟩
        cases h
        exact hst.2 c hc
theorem lvl_n (hw : WD co ge gi pa) (hg : g < 4) {s d : Nat} (hs : s < 40000) (hN : NGQ g (qS (bh co ge gi pa) s (bS (bh co ge gi pa) s d))) (h : fD (bh co ge gi pa) (co g) (pa g) g s d = none) : NGQ g (qS (bh co ge gi pa) s (bS (bh co ge gi pa) s (d + 1))) := by
  have hb := bS_le (B := bh co ge gi pa) (s := s) d
  have h1 := (lvl hw hg hs hN (bS (bh co ge gi pa) s (d + 1) - bS (bh co ge gi pa) s d) (by omega)).1 h
  rwa [show bS (bh co ge gi pa) s d + (bS (bh co ge gi pa) s (d + 1) - bS (bh co ge gi pa) s d) = bS (bh co ge gi pa) s (d + 1) by omega] at h1
theorem lvl_y (hw : WD co ge gi pa) (hg : g < 4) {s d x : Nat} (hs : s < 40000) (hN : NGQ g (qS (bh co ge gi pa) s (bS (bh co ge gi pa) s d))) (h : fD (bh co ge gi pa) (co g) (pa g) g s d = some x) : FG g (qS (bh co ge gi pa) s (bS (bh co ge gi pa) s (d + 1))) (bS (bh co ge gi pa) s (d + 1)) x := by
  have hb := bS_le (B := bh co ge gi pa) (s := s) d
  have h1 := (lvl hw hg hs hN (bS (bh co ge gi pa) s (d + 1) - bS (bh co ge gi pa) s d) (by omega)).2 x h
  rwa [show bS (bh co ge gi pa) s d + (bS (bh co ge gi pa) s (d + 1) - bS (bh co ge gi pa) s d) = bS (bh co ge gi pa) s (d + 1) by omega] at h1
end SEM
/-- what is asked: fewest, richest, gains -/
def fwA (o : Option (Nat × Nat)) (w : Nat) : Int32 := match o with
  | none => -1
  | some x => if w = 0 then nI x.1 else nI x.2
abbrev fwM (k : Nat) (tk gv pr py : Nat → Nat) (g s : Nat) : Option (Nat × Nat) := fwS (mB k tk gv pr py) (mCo k pr g) (mPa k tk g) g s
abbrev fnM (k : Nat) (tk gv pr py : Nat → Nat) (g s : Nat) : Option Nat := fwn (mB k tk gv pr py) (mCo k pr g) (mPa k tk g) g s
def A_fewest (pe sd : Nat) (tk gv pr py ks sx : Nat → Nat) (x y z : Int32) : Int32 := if isP pe x then (if inR (nI 0) y (nI 3) then (if inR (nI 0) z (nI 1) then (if sd = 40 then -103 else if gd (sx (tN x)) (tN y) then (if tN z = 0 then nI 0 else -1) else fwA (fwM (ks (tN x)) tk gv pr py (tN y) (sx (tN x))) (tN z)) else -102) else -101) else -101
def N_fewest (pe sd : Nat) (x y z : Int32) : Nat := if isP pe x then (if inR (nI 0) y (nI 3) then (if inR (nI 0) z (nI 1) then (if sd = 40 then sd else sd + 1) else sd) else sd) else sd
abbrev rcV (B : Nat → Nat → Option Nat) (s a : Nat) : Nat := mxD (qS B s (bS B s a)) (bS B s (a + 1))
def A_richest (pe sd : Nat) (tk gv pr py ks sx : Nat → Nat) (x y : Int32) : Int32 := if isP pe x then (if inR (nI 0) y (nI 8) then (if sd = 40 then -103 else nI (rcV (mB (ks (tN x)) tk gv pr py) (sx (tN x)) (tN y))) else -102) else -101
def N_richest (pe sd : Nat) (x y : Int32) : Nat := if isP pe x then (if inR (nI 0) y (nI 8) then (if sd = 40 then sd else sd + 1) else sd) else sd
def gnP (tk gv pr py ks sx : Nat → Nat) (t v p : Nat) : Nat := gnB (fnM (ks p) tk gv pr py t (sx p)) (fnM (ks p) tk gv (va_up pr t v) py t (sx p))
def gnN (tk gv pr py ks sx : Nat → Nat) (t v : Nat) : Nat → Nat
  | 0 => 0
  | p + 1 => if gnP tk gv pr py ks sx t v p = 1 then gnN tk gv pr py ks sx t v p ||| 1 * 2 ^ p else gnN tk gv pr py ks sx t v p
theorem gnN_y {tk gv pr py ks sx : Nat → Nat} {t v p : Nat} (h : gnP tk gv pr py ks sx t v p = 1) : gnN tk gv pr py ks sx t v (p + 1) = gnN tk gv pr py ks sx t v p ||| 1 * 2 ^ p := if_pos h
theorem gnN_n {tk gv pr py ks sx : Nat → Nat} {t v p : Nat} (h : ¬ gnP tk gv pr py ks sx t v p = 1) : gnN tk gv pr py ks sx t v (p + 1) = gnN tk gv pr py ks sx t v p := if_neg h
def A_gains (lr pe : Nat) (tk gv pr py ks sx : Nat → Nat) (x y : Int32) : Int32 := if inR (nI 0) x (nI 3) then (if inR (nI 1) y (nI 4) then (if lr = 0 then -103 else nI (gnN tk gv pr py ks sx (tN x) (tN y) pe)) else -102) else -101
theorem fwA_n {o : Option (Nat × Nat)} {w : Nat} (h : o = none) : fwA o w = -1 := by rw [h]; rfl
theorem fwA_0 {o : Option (Nat × Nat)} {w : Nat} {x : Nat × Nat} (h : o = some x) (hw : w = 0) : fwA o w = nI x.1 := by rw [h]; exact if_pos hw
theorem fwA_1 {o : Option (Nat × Nat)} {w : Nat} {x : Nat × Nat} (h : o = some x) (hw : ¬ w = 0) : fwA o w = nI x.2 := by rw [h]; exact if_neg hw
theorem pw_le16 {p : Nat} (h : p < 5) : 1 * 2 ^ p ≤ 16 := by
  have : ∀ p, p < 5 → 1 * 2 ^ p ≤ 16 := by decide
  exact this p h
theorem gnN_lt {tk gv pr py ks sx : Nat → Nat} {t v : Nat} : ∀ {p}, p ≤ 5 → gnN tk gv pr py ks sx t v p < 32
  | 0, _ => by show (0 : Nat) < 32; decide
  | p + 1, h => by
    have h1 := gnN_lt (tk := tk) (gv := gv) (pr := pr) (py := py) (ks := ks) (sx := sx) (t := t) (v := v) (p := p) (by omega)
    unfold gnN
    split
    · exact Nat.or_lt_two_pow (n := 5) h1 (by have := pw_le16 (show p < 5 by omega); omega)
    · exact h1
