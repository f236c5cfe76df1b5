/-! what each call answers, and what it leaves behind: lr laws read, tk gv pr py the law, pe people of kinds ks standing sx, ac acts done -/
def tN (x : Int32) : Nat := x.toNatClampNeg
theorem tN_nI {t : Nat} (h : t < 2 ^ 31) : tN (nI t) = t := nI_clamp h
abbrev isP (pe : Nat) (x : Int32) : Prop := (0 : Int32) ≤ x ∧ x < nI pe
theorem isP_of {pe : Nat} {x : Int32} (hb : pe < 2 ^ 31) (h : isP pe x) : ∃ t, t < pe ∧ x = nI t := by
  obtain ⟨h1, h2⟩ := h
  obtain ⟨t, ht, rfl⟩ := nI_of (x := x) (Int32.not_lt.mpr h1)
  exact ⟨t, (nI_ltI ht hb).mp h2, rfl⟩
theorem isP_m {pe : Nat} {x : Int32} (h : pe ≤ 5) : inR (nI 0) x (nI pe - nI 1) ↔ isP pe x := by
  have e : ∀ pe, pe ≤ 5 → (nI pe - nI 1).toInt = (pe : Int) - 1 ∧ (nI pe).toInt = (pe : Int) := by decide
  have e0 : (nI 0).toInt = 0 := by decide
  have e1 : (0 : Int32).toInt = 0 := by decide
  obtain ⟨e2, e3⟩ := e pe h
  unfold inR isP
  rw [Int32.le_iff_toInt_le, Int32.le_iff_toInt_le, Int32.le_iff_toInt_le, Int32.lt_iff_toInt_lt, e0, e1, e2, e3]
  omega
theorem inR_mk {k : Nat} {x : Int32} (h1 : ¬ x < 0) (h2 : ¬ nI k < x) : inR (nI 0) x (nI k) := ⟨nlt_le h1, nlt_le h2⟩
theorem inR_mkL {k : Nat} {x : Int32} (hk : k + 1 < 2 ^ 31) (h1 : ¬ x < 0) (h2 : ¬ nI (k + 1) ≤ x) : inR (nI 0) x (nI k) := by
  obtain ⟨t, ht, rfl⟩ := nI_of h1
  exact inR_nI (Nat.zero_le _) (by
    rcases Nat.lt_or_ge t (k + 1) with q | q
    · omega
    · exact absurd ((nI_leI hk ht).mpr q) h2) (by omega)
theorem inR_no1 {lo hi x : Int32} (h : x < lo) : ¬ inR lo x hi := fun z => absurd z.1 (nle_of_lt h)
theorem inR_no0 {hi x : Int32} (h : x < 0) : ¬ inR (nI 0) x hi := inR_no1 h
theorem inR_no2 {lo hi x : Int32} (h : hi < x) : ¬ inR lo x hi := fun z => absurd z.2 (nle_of_lt h)
theorem inR_noL {k : Nat} {x : Int32} (hk : k + 1 < 2 ^ 31) (h : nI (k + 1) ≤ x) : ¬ inR (nI 0) x (nI k) := fun z => by
  obtain ⟨t, ht, rfl⟩ := inR_of (by omega) z
  have := (nI_leI hk (by omega)).mp h
  omega
theorem inR_split {lo mid x : Int32} {P : Prop} (h : inR lo x mid → P) (h2 : ¬ inR lo x mid → P) : P := by
  by_cases q : inR lo x mid
  · exact h q
  · exact h2 q
def pIn (sx : Nat → Nat) (t : Nat) : Nat → Nat
  | 0 => 0
  | k + 1 => pIn sx t k + (if sx k % 4 = t then 1 else 0)
theorem pIn_le (sx : Nat → Nat) (t : Nat) : ∀ k, pIn sx t k ≤ k
  | 0 => Nat.le_refl 0
  | k + 1 => by
    have h := pIn_le sx t k
    unfold pIn; split <;> omega
def townV (tk gv pr py : Nat → Nat) (pe : Nat) (sx : Nat → Nat) (t w : Nat) : Nat := if w = 0 then tk t else if w = 1 then gv t else if w = 2 then pr t else if w = 3 then py t else pIn sx t pe
def A_town (lr : Nat) (tk gv pr py : Nat → Nat) (pe : Nat) (sx : Nat → Nat) (x y : Int32) : Int32 := if inR (nI 0) x (nI 3) then (if inR (nI 0) y (nI 4) then (if lr = 0 then -103 else nI (townV tk gv pr py pe sx (tN x) (tN y))) else -102) else -101
def A_price (lr : Nat) (pr : Nat → Nat) (x y : Int32) : Int32 := if inR (nI 0) x (nI 3) then (if inR (nI 1) y (nI 4) then (if lr = 0 then -103 else nI (pr (tN x))) else -102) else -101
def N_price (lr : Nat) (pr : Nat → Nat) (x y : Int32) : Nat → Nat := if inR (nI 0) x (nI 3) then (if inR (nI 1) y (nI 4) then (if lr = 0 then pr else va_up pr (tN x) (tN y)) else pr) else pr
def A_person (lr pe : Nat) (x y : Int32) : Int32 := if inR (nI 0) y (nI 3) then (if inR (nI 0) x (nI 4) then (if lr = 0 then -103 else if pe = 5 then -104 else nI pe) else -102) else -101
def N_person (lr pe : Nat) (x y : Int32) (ks sx : Nat → Nat) : Nat × (Nat → Nat) × (Nat → Nat) := if inR (nI 0) y (nI 3) then (if inR (nI 0) x (nI 4) then (if lr = 0 then (pe, ks, sx) else if pe = 5 then (pe, ks, sx) else (pe + 1, va_up ks pe (tN x), va_up sx pe (tN y))) else (pe, ks, sx)) else (pe, ks, sx)
def aboutV (ks sx pr py : Nat → Nat) (p w : Nat) : Nat := if w = 0 then ks p else if w = 1 then sx p % 4 else if w = 2 then sx p / 2500 else if w = 3 then dT (sx p) else if w = 4 then kCost (ks p) (pr (sx p % 4)) else if w = 5 then py (sx p % 4) + kM (ks p) else dg (sx p) (w - 10)
def A_about (pe : Nat) (ks sx pr py : Nat → Nat) (x y : Int32) : Int32 := if isP pe x then (if inR (nI 0) y (nI 5) then nI (aboutV ks sx pr py (tN x) (tN y)) else if inR (nI 10) y (nI 13) then nI (aboutV ks sx pr py (tN x) (tN y)) else -102) else -101
def A_as (pe : Nat) (ks : Nat → Nat) (x y : Int32) : Int32 := if isP pe x then (if inR (nI 0) y (nI 4) then (if tN y = ks (tN x) ∨ tN y = 0 ∨ (ks (tN x) = 4 ∧ tN y = 3) then x else -1) else -102) else -101
def A_purse (pe : Nat) (sx : Nat → Nat) (x y z : Int32) : Int32 := if isP pe x then (if inR (nI 0) y (nI 3) then (if inR (nI 0) z (nI 4) then nI (dg (sx (tN x)) (tN y)) else -102) else -101) else -101
def N_purse (pe : Nat) (sx : Nat → Nat) (x y z : Int32) : Nat → Nat := if isP pe x then (if inR (nI 0) y (nI 3) then (if inR (nI 0) z (nI 4) then va_up sx (tN x) (wC (sx (tN x)) (tN y) (tN z) (dg (sx (tN x)) (tN y))) else sx) else sx) else sx
/-- what a person comes to by an act -/
abbrev pB1 (tk gv pr py ks sx : Nat → Nat) (p a : Nat) : Option Nat := mB (ks p) tk gv pr py (sx p) a
def A_may (pe : Nat) (tk gv pr py ks sx : Nat → Nat) (x y : Int32) : Int32 := if isP pe x then (if aOkI y then nI (if pB1 tk gv pr py ks sx (tN x) (tN y) = none then 0 else 1) else -101) else -101
def A_act (pe : Nat) (tk gv pr py ks sx : Nat → Nat) (x y : Int32) : Int32 := if isP pe x then (if aOkI y then (match pB1 tk gv pr py ks sx (tN x) (tN y) with | none => -103 | some k => nI (dT k)) else -101) else -101
def N_act (pe : Nat) (tk gv pr py ks sx : Nat → Nat) (ac : Nat) (x y : Int32) : (Nat → Nat) × Nat := if isP pe x then (if aOkI y then (match pB1 tk gv pr py ks sx (tN x) (tN y) with | none => (sx, ac) | some k => (va_up sx (tN x) k, ac + 1)) else (sx, ac)) else (sx, ac)
/-- two can change coin c of a for coin d of b -/
abbrev chOk (sx : Nat → Nat) (a c b d : Nat) : Prop := 0 < dg (sx a) c ∧ 0 < dg (sx b) d ∧ sx a % 4 = sx b % 4 ∧ (c = d ∨ (dg (sx a) d < 4 ∧ dg (sx b) c < 4))
def chN (sx : Nat → Nat) (a c b d : Nat) : Nat → Nat := if c = d then sx else va_up (va_up sx a (wC (wC (sx a) c 0 1) d 1 0)) b (wC (wC (sx b) d 0 1) c 1 0)
def A_change (pe : Nat) (sx : Nat → Nat) (x y z v : Int32) : Int32 := if isP pe x then (if isP pe z then (if x = z then -101 else if inR (nI 0) y (nI 3) then (if inR (nI 0) v (nI 3) then (if chOk sx (tN x) (tN y) (tN z) (tN v) then nI (dg (chN sx (tN x) (tN y) (tN z) (tN v) (tN x)) (tN y)) else -103) else -101) else -101) else -101) else -101
def N_change (pe : Nat) (sx : Nat → Nat) (x y z v : Int32) : Nat → Nat := if isP pe x then (if isP pe z then (if x = z then sx else if inR (nI 0) y (nI 3) then (if inR (nI 0) v (nI 3) then (if chOk sx (tN x) (tN y) (tN z) (tN v) then chN sx (tN x) (tN y) (tN z) (tN v) else sx) else sx) else sx) else sx) else sx
/-- people that are such: kinds below 5, standings below 40000 -/
def WPe (ks sx : Nat → Nat) : Prop := ∀ j, j < 5 → ks j < 5 ∧ sx j < 40000
/-- the five persons, by what they stand for -/
def pX (G : gT) (pa ks sx : Nat → Nat) : va_W := pB G pa ks (fun j => eS (sx j))
theorem pX_at {G : gT} {pa ks sx : Nat → Nat} {i : Nat} (h : i < 5) : (pX G pa ks sx)[i]? = some (pa i, .inr (4, [.ref (gAd G (ks i)), .int (nI (eS (sx i)))])) := pB_at h
theorem up_eS (sx : Nat → Nat) (i w : Nat) : va_up (fun j => eS (sx j)) i (eS w) = fun j => eS (va_up sx i w j) := by
  funext j
  by_cases h : j = i <;> simp [va_up, h]
theorem pX_set1 {G : gT} {pa ks sx : Nat → Nat} {i w : Nat} (h : i < 5) : (pX G pa ks sx).set i (pa i, .inr (4, [.ref (gAd G (ks i)), .int (nI (eS w))])) = pX G pa ks (va_up sx i w) := by
  unfold pX
  rw [pB_set1 h, up_eS]
theorem pX_set0 {G : gT} {pa ks sx : Nat → Nat} {i k : Nat} (h : i < 5) : (pX G pa ks sx).set i (pa i, .inr (4, [.ref (gAd G k), .int (nI (eS (sx i)))])) = pX G pa (va_up ks i k) sx := pB_set0 (ss := fun j => eS (sx j)) h
theorem eS_t {t : Nat} (h : t < 4) : eS t = t := by
  have : ∀ t, t < 4 → eS t = t := by decide
  exact this t h
theorem agIn {P : Prop} [Decidable P] {a b' c : Int32} (h : P) (e : c = a) : c = (if P then a else b') := by rw [if_pos h]; exact e
theorem pIn_y {sx : Nat → Nat} {t j : Nat} (h : sx j % 4 = t) : pIn sx t (j + 1) = pIn sx t j + 1 := by show pIn sx t j + _ = _; rw [if_pos h]
theorem pIn_n {sx : Nat → Nat} {t j : Nat} (h : ¬ sx j % 4 = t) : pIn sx t (j + 1) = pIn sx t j := by show pIn sx t j + _ = _; rw [if_neg h]; rfl
theorem inR_of2 {lo hi : Nat} {x : Int32} (hl : lo < 2 ^ 31) (hh : hi < 2 ^ 31) (h : inR (nI lo) x (nI hi)) : ∃ t, (lo ≤ t ∧ t ≤ hi) ∧ x = nI t := by
  obtain ⟨t, ht, rfl⟩ := inR_nat (nI_pos' hl) h
  exact ⟨t, (inR_iff ht hl hh).mp h, rfl⟩
theorem aOk_lt {a : Nat} (h : aOk a) : a < 24 := by unfold aOk at h; omega
theorem up_id {α : Type} (f : Nat → α) (k : Nat) : va_up f k (f k) = f := by
  funext j
  by_cases h : j = k <;> simp [va_up, h]
