/-! ways and ends: rows of acts along the purses told, by places (town and goods) -/
def stN (q k : Nat) : Nat := k % 4 + 4 * q + 2500 * (k / 4)
theorem stN_lt {q k : Nat} (hq : q < 625) (hk : k < 64) : stN q k < 40000 := by unfold stN; omega
theorem eS_st {q k : Nat} (hq : q < 625) (hk : k < 64) : eS (stN q k) = k + 64 * (q % 5 + 8 * (q / 5 % 5) + 64 * (q / 25 % 5) + 512 * (q / 125 % 5)) := by
  have hp := q_parts q hq
  have hn : stN q k = k % 4 + 4 * (q % 5 + 5 * (q / 5 % 5) + 25 * (q / 25 % 5) + 125 * (q / 125 % 5)) + 2500 * (k / 4) := by rw [hp]; unfold stN; omega
  rw [eS_of (Nat.mod_lt _ (by decide)) (Nat.mod_lt _ (by decide)) (Nat.mod_lt _ (by decide)) (Nat.mod_lt _ (by decide)) (Nat.mod_lt _ (by decide)) hn]
  unfold eP; omega
theorem eS_4 {q : Nat} (hq : q < 625) : eS (4 * q) = 64 * (q % 5 + 8 * (q / 5 % 5) + 64 * (q / 25 % 5) + 512 * (q / 125 % 5)) := by
  have h := eS_st (k := 0) hq (by decide)
  rw [show stN q 0 = 4 * q by unfold stN; omega] at h
  rw [h]; omega
theorem eS_or {q k : Nat} (hq : q < 625) (hk : k < 64) : nI (eS (4 * q)) ||| nI k = nI (eS (stN q k)) := by
  rw [ni_or]
  congr 1
  rw [eS_4 hq, eS_st hq hk, Nat.add_comm k]
  have h := Nat.two_pow_add_eq_or_of_lt (i := 6) (b := k) (by simpa using hk) (q % 5 + 8 * (q / 5 % 5) + 64 * (q / 25 % 5) + 512 * (q / 125 % 5))
  exact h.symm
theorem eS_k {k : Nat} (hk : k < 64) : eS (stN 0 k) = k := by rw [eS_st (by decide) hk]; omega
theorem pl_lt {n : Nat} (h : n < 40000) : pl n < 64 := by unfold pl; omega
theorem eSP_iff {n t : Nat} (hn : n < 40000) (ht : t < 625) : eS (wP n) = eS (4 * t) ↔ n / 4 % 625 = t := by
  unfold wP
  refine ⟨fun h => ?_, fun h => by rw [h]⟩
  have := eS_inj (by omega) (by omega) h
  omega
def addL (t c : Nat) (L : List Nat) (f : Nat → Nat) : Nat → Nat := L.foldl (fun f n => if n / 4 % 625 = t then va_up f (pl n) (f (pl n) + c) else f) f
theorem addL_nil (t c : Nat) (f : Nat → Nat) : addL t c [] f = f := rfl
theorem addL_y {t c n : Nat} {L : List Nat} {f : Nat → Nat} (h : n / 4 % 625 = t) : addL t c (L ++ [n]) f = va_up (addL t c L f) (pl n) (addL t c L f (pl n) + c) := by
  unfold addL; rw [List.foldl_append]; show (if n / 4 % 625 = t then _ else _) = _; rw [if_pos h]
theorem addL_n {t c n : Nat} {L : List Nat} {f : Nat → Nat} (h : ¬ n / 4 % 625 = t) : addL t c (L ++ [n]) f = addL t c L f := by
  unfold addL; rw [List.foldl_append]; show (if n / 4 % 625 = t then _ else _) = _; rw [if_neg h]
theorem addL_0 (t : Nat) : ∀ (L : List Nat) (f : Nat → Nat), addL t 0 L f = f
  | [], f => rfl
  | n :: L, f => by
    have h : addL t 0 (n :: L) f = addL t 0 L (if n / 4 % 625 = t then va_up f (pl n) (f (pl n) + 0) else f) := rfl
    rw [h, addL_0 t L]
    split
    · rw [Nat.add_zero, up_id]
    · rfl
def wyS (B : Nat → Nat → Option Nat) (q t : Nat) (w : Nat → Nat) : Nat → (Nat → Nat)
  | 0 => zN
  | k + 1 => addL t (w k) (opL (B (stN q k))) (wyS B q t w k)
/-- the purse before the d-th step -/
def pqN (n0 : Nat) (tw : Nat → Nat) (d : Nat) : Nat := if d = 0 then n0 / 4 % 625 else tw (d - 1)
def wyT (B : Nat → Nat → Option Nat) (n0 : Nat) (tw : Nat → Nat) : Nat → (Nat → Nat)
  | 0 => va_up zN (pl n0) 1
  | d + 1 => wyS B (pqN n0 tw d) (tw d) (wyT B n0 tw d) 64
def tot (f : Nat → Nat) : Nat → Nat
  | 0 => 0
  | k + 1 => tot f k + f k
theorem tot_up {f : Nat → Nat} {i x : Nat} : ∀ k, (i < k → tot (va_up f i x) k + f i = tot f k + x) ∧ (k ≤ i → tot (va_up f i x) k = tot f k)
  | 0 => ⟨fun h => absurd h (Nat.not_lt_zero i), fun _ => rfl⟩
  | k + 1 => by
    obtain ⟨h1, h2⟩ := tot_up (f := f) (i := i) (x := x) k
    refine ⟨fun h => ?_, fun h => ?_⟩
    · show tot (va_up f i x) k + va_up f i x k + f i = tot f k + f k + x
      by_cases e : k = i
      · subst e; rw [up_at, h2 (Nat.le_refl k)]; omega
      · rw [up_ne _ _ e]; have := h1 (by omega); omega
    · show tot (va_up f i x) k + va_up f i x k = tot f k + f k
      rw [up_ne _ _ (by omega), h2 (by omega)]
theorem tot_at {f : Nat → Nat} {i : Nat} : ∀ {k}, i < k → f i ≤ tot f k
  | 0, h => absurd h (Nat.not_lt_zero i)
  | k + 1, h => by
    show f i ≤ tot f k + f k
    by_cases e : i = k
    · subst e; omega
    · have := tot_at (f := f) (i := i) (k := k) (by omega); omega
theorem tot_z : ∀ k, tot zN k = 0
  | 0 => rfl
  | k + 1 => by show tot zN k + 0 = 0; rw [tot_z k]
theorem addL_tot {t c : Nat} : ∀ {L : List Nat} {f : Nat → Nat}, (∀ n ∈ L, n < 40000) → tot (addL t c L f) 64 ≤ tot f 64 + c * L.length
  | [], f, _ => by show tot f 64 ≤ tot f 64 + c * 0; omega
  | n :: L, f, h => by
    have hn := pl_lt (h n List.mem_cons_self)
    have e : addL t c (n :: L) f = addL t c L (if n / 4 % 625 = t then va_up f (pl n) (f (pl n) + c) else f) := rfl
    rw [e]
    have h2 := addL_tot (t := t) (c := c) (f := if n / 4 % 625 = t then va_up f (pl n) (f (pl n) + c) else f) (fun x hx => h x (List.mem_cons_of_mem _ hx))
    have h3 : tot (if n / 4 % 625 = t then va_up f (pl n) (f (pl n) + c) else f) 64 ≤ tot f 64 + c := by
      split
      · have := (tot_up (f := f) (i := pl n) (x := f (pl n) + c) 64).1 hn; omega
      · omega
    rw [List.length_cons, Nat.mul_add]
    omega
theorem opL_all {k : Nat} {tk gv pr py : Nat → Nat} {n : Nat} (hw : WL tk gv pr py) (hn : n < 40000) : ∀ z ∈ opL (mB k tk gv pr py n), z < 40000 := fun z hz => by
  obtain ⟨a, ha, hz⟩ := opL_mem hz
  exact bh_lt (WL_WD k hw) hn ha hz
theorem wyS_tot {k : Nat} {tk gv pr py : Nat → Nat} {q t : Nat} {w : Nat → Nat} (hw : WL tk gv pr py) (hq : q < 625) : ∀ {j}, j ≤ 64 → tot (wyS (mB k tk gv pr py) q t w j) 64 ≤ 12 * tot w j
  | 0, _ => by show tot zN 64 ≤ 0; rw [tot_z]; exact Nat.le_refl 0
  | j + 1, h => by
    have h1 := wyS_tot (k := k) (t := t) (w := w) hw hq (j := j) (by omega)
    have h2 := addL_tot (t := t) (c := w j) (f := wyS (mB k tk gv pr py) q t w j) (opL_all (k := k) hw (stN_lt hq (show j < 64 by omega)))
    have h3 : w j * (opL (mB k tk gv pr py (stN q j))).length ≤ w j * 12 := Nat.mul_le_mul_left _ (opL_len _)
    show tot (addL t (w j) (opL (mB k tk gv pr py (stN q j))) (wyS (mB k tk gv pr py) q t w j)) 64 ≤ 12 * (tot w j + w j)
    omega
theorem pqN_lt {n0 : Nat} {tw : Nat → Nat} {d : Nat} (ht : ∀ j, j < 5 → tw j < 625) (hd : d < 5) : pqN n0 tw d < 625 := by
  unfold pqN; split
  · exact Nat.mod_lt _ (by decide)
  · exact ht _ (by omega)
theorem wyT_tot {k : Nat} {tk gv pr py : Nat → Nat} {n0 : Nat} {tw : Nat → Nat} (hw : WL tk gv pr py) (hn : n0 < 40000) (ht : ∀ j, j < 5 → tw j < 625) : ∀ {d}, d ≤ 5 → tot (wyT (mB k tk gv pr py) n0 tw d) 64 ≤ 12 ^ d
  | 0, _ => by
    have h := (tot_up (f := zN) (i := pl n0) (x := 1) 64).1 (pl_lt hn)
    rw [tot_z] at h
    have h2 : zN (pl n0) = 0 := rfl
    show tot (va_up zN (pl n0) 1) 64 ≤ 1
    omega
  | d + 1, h => by
    have h1 := wyT_tot (k := k) hw hn ht (d := d) (by omega)
    have h2 := wyS_tot (k := k) (t := tw d) (w := wyT (mB k tk gv pr py) n0 tw d) hw (pqN_lt (n0 := n0) ht (show d < 5 by omega)) (j := 64) (Nat.le_refl _)
    show tot (wyS (mB k tk gv pr py) (pqN n0 tw d) (tw d) (wyT (mB k tk gv pr py) n0 tw d) 64) 64 ≤ 12 ^ (d + 1)
    rw [Nat.pow_succ]
    omega
theorem wyT_lt {k : Nat} {tk gv pr py : Nat → Nat} {n0 : Nat} {tw : Nat → Nat} (hw : WL tk gv pr py) (hn : n0 < 40000) (ht : ∀ j, j < 5 → tw j < 625) {d : Nat} (hd : d ≤ 5) : ∀ j, j < 64 → wyT (mB k tk gv pr py) n0 tw d j < 2 ^ 31 := fun j hj => by
  have h1 := wyT_tot (k := k) hw hn ht hd
  have h2 := tot_at (f := wyT (mB k tk gv pr py) n0 tw d) hj
  have h3 : 12 ^ d ≤ 12 ^ 5 := Nat.pow_le_pow_right (by decide) hd
  have h4 : 12 ^ 5 < 2 ^ 31 := by decide
  omega
def twB (w : Nat → Nat) : Nat → Nat
  | 0 => 0
  | k + 1 => if w k = 0 then twB w k else twB w k ||| 1 * 2 ^ (k % 4)
theorem twB_lt (w : Nat → Nat) : ∀ k, twB w k < 16
  | 0 => by show (0 : Nat) < 16; decide
  | k + 1 => by
    unfold twB; split
    · exact twB_lt w k
    · exact or_lt16 (twB_lt w k) (Nat.mod_lt _ (by decide))
theorem twB_0 {w : Nat → Nat} {k : Nat} (h : w k = 0) : twB w (k + 1) = twB w k := by show (if w k = 0 then _ else _) = _; rw [if_pos h]
theorem twB_1 {w : Nat → Nat} {k : Nat} (h : ¬ w k = 0) : twB w (k + 1) = twB w k ||| 1 * 2 ^ (k % 4) := by show (if w k = 0 then _ else _) = _; rw [if_neg h]
def A_ways (tg : Nat) (w : Nat → Nat) : Int32 := if tg = 0 then -103 else nI (tot w 64)
def A_ends (tg : Nat) (w : Nat → Nat) : Int32 := if tg = 0 then -103 else nI (twB w 64)
theorem opC_skip {t c j : Nat} {f : Nat → Option Nat} {h g : Nat → Nat} (e : g = addL t c (opC f j) h) (h2 : opC f (j + 1) = opC f j) : g = addL t c (opC f (j + 1)) h := by rw [h2]; exact e
theorem opC_add {t c j n : Nat} {f : Nat → Option Nat} {h g : Nat → Nat} (e : g = addL t c (opC f j) h) (hn : f (actN j) = some n) (h2 : n / 4 % 625 = t) : va_up g (pl n) (g (pl n) + c) = addL t c (opC f (j + 1)) h := by rw [opC_some hn, addL_y h2, e]
theorem opC_not {t c j n : Nat} {f : Nat → Option Nat} {h g : Nat → Nat} (e : g = addL t c (opC f j) h) (hn : f (actN j) = some n) (h2 : ¬ n / 4 % 625 = t) : g = addL t c (opC f (j + 1)) h := by rw [opC_some hn, addL_n h2, e]
theorem opC_zero {t c j : Nat} {f : Nat → Option Nat} {h g : Nat → Nat} (e : g = addL t c (opC f j) h) (hc : c = 0) : g = addL t c (opC f (j + 1)) h := by subst hc; rw [addL_0] at e ⊢; exact e
theorem opM_skip {t c j : Nat} {f : Nat → Option Nat} {h g : Nat → Nat} (e : g = addL t c (opM f j) h) (h2 : opM f (j + 1) = opM f j) : g = addL t c (opM f (j + 1)) h := by rw [h2]; exact e
theorem opM_add {t c j n : Nat} {f : Nat → Option Nat} {h g : Nat → Nat} (e : g = addL t c (opM f j) h) (ha : aOk j) (hn : f j = some n) (h2 : n / 4 % 625 = t) : va_up g (pl n) (g (pl n) + c) = addL t c (opM f (j + 1)) h := by rw [opM_some ha hn, addL_y h2, e]
theorem opM_not {t c j n : Nat} {f : Nat → Option Nat} {h g : Nat → Nat} (e : g = addL t c (opM f j) h) (ha : aOk j) (hn : f j = some n) (h2 : ¬ n / 4 % 625 = t) : g = addL t c (opM f (j + 1)) h := by rw [opM_some ha hn, addL_n h2, e]
theorem cpy_z {f : Nat → Nat} {n : Nat} : ∀ j, j < n → cpy (fun _ => 0) f n j = zN j := fun j hj => by unfold cpy zN; rw [if_pos hj]
theorem cpy_f {f g : Nat → Nat} {n : Nat} : ∀ j, j < n → cpy f g n j = f j := fun j hj => by unfold cpy; rw [if_pos hj]
theorem pqN_s (n0 : Nat) (tw : Nat → Nat) (d : Nat) : tw d = pqN n0 tw (d + 1) := by unfold pqN; rw [if_neg (by omega), Nat.add_sub_cancel]
def onE (p : Nat) : Nat → Nat := fun k => if k = p then 1 else 0
theorem onE_up (p : Nat) : va_up zN p 1 = onE p := by funext k; rfl
theorem addL_zz {t c : Nat} {L L' : List Nat} {f : Nat → Nat} (h : c = 0) : addL t c L f = addL t c L' f := by subst h; rw [addL_0, addL_0]
theorem cpy_v {f g : Nat → Nat} {k v : Nat} (h : f k = v) : va_up (cpy f g k) k v = cpy f g (k + 1) := by rw [← h, cpy_s]
theorem onE_y {p k : Nat} (h : k = p) : onE p k = 1 := if_pos h
theorem onE_n {p k : Nat} (h : ¬ k = p) : onE p k = 0 := if_neg h
