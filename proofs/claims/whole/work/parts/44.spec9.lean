/-! what is asked of the reference: fewest, richest, gains -/
theorem fn_le {k : Nat} {tk gv pr py : Nat → Nat} {g s z : Nat} (hw : WL tk gv pr py) (hs : s < 40000) (h : fnM k tk gv pr py g s = some z) : z ≤ 40000 := by
  have h : fwn (mB k tk gv pr py) (mCo k pr g) (mPa k tk g) g s = some z := h
  unfold fwn at h
  split at h
  · cases h; exact Nat.zero_le _
  · obtain ⟨x, hx, e⟩ := Option.map_eq_some_iff.mp h
    have hx : fwR (mB k tk gv pr py) (mCo k pr g) (mPa k tk g) g s 40000 0 = some x := hx
    have := (fwR_lt (GB_m hw) hs hx).2.2
    omega
theorem gb_0 {had thn : Option Nat} (h : thn = none) : ¬ gnB had thn = 1 := by
  rw [h]
  show ¬ (0 : Nat) = 1
  decide
theorem gb_1 {had thn : Option Nat} {b' : Nat} (h : thn = some b') (h2 : had = none) : gnB had thn = 1 := by rw [h, h2]; rfl
theorem gb_2 {had thn : Option Nat} {a b' : Nat} (h : thn = some b') (h2 : had = some a) (h3 : b' < a) : gnB had thn = 1 := by
  rw [h, h2]; exact if_pos h3
theorem gb_3 {had thn : Option Nat} {a b' : Nat} (h : thn = some b') (h2 : had = some a) (h3 : a ≤ b') : ¬ gnB had thn = 1 := by
  rw [h, h2]
  show ¬ (if b' < a then 1 else 0) = 1
  rw [if_neg (by omega)]; decide
theorem fa_has {k : Nat} {tk gv pr py : Nat → Nat} {g s w : Nat} (h : gd s g) (hw : w = 0) : oM (fnM k tk gv pr py g s) = nI 0 := by
  rw [show fnM k tk gv pr py g s = some 0 from fn_has h]; rfl
theorem fa_no {k : Nat} {tk gv pr py : Nat → Nat} {g s : Nat} (h : ¬ gd s g) : oM (fnM k tk gv pr py g s) = fwA (fwM k tk gv pr py g s) 0 := by
  rw [show fnM k tk gv pr py g s = (fwM k tk gv pr py g s).map Prod.fst from fn_no h]
  cases fwM k tk gv pr py g s with
  | none => rfl
  | some x => rfl
theorem fa_0 {k : Nat} {tk gv pr py : Nat → Nat} {g s w : Nat} (hw : w = 0) : oM (fnM k tk gv pr py g s) = if gd s g then (if w = 0 then nI 0 else -1) else fwA (fwM k tk gv pr py g s) w := by
  subst hw
  by_cases h : gd s g
  · rw [if_pos h, if_pos rfl]; exact fa_has (w := 0) h rfl
  · rw [if_neg h]; exact fa_no h
theorem fa_1 {k : Nat} {tk gv pr py : Nat → Nat} {g s w : Nat} (hw : ¬ w = 0) : f1A k tk gv pr py g s = if gd s g then (if w = 0 then nI 0 else -1) else fwA (fwM k tk gv pr py g s) w := by
  by_cases h : gd s g
  · rw [if_pos h, if_neg hw]; exact f1_has h
  · rw [if_neg h, f1_no h]
    cases q : fwM k tk gv pr py g s with
    | none => rfl
    | some x => rw [fwA_1 rfl (by decide), fwA_1 rfl hw]
theorem up_u2 {α : Type} (f : Nat → α) (a b' : Nat) (x y z v : α) (h : ¬ a = b') : va_up (va_up (va_up (va_up f a x) b' y) a z) b' v = va_up (va_up f a z) b' v := by rw [up_sw _ _ _ _ _ _ h, up_up]
