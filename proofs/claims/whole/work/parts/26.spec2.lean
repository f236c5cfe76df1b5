/-! what change, dead, trail, next, image, restore answer and leave behind -/
theorem nI_neq {a b' : Nat} (ha : a < 2 ^ 31) (hb' : b' < 2 ^ 31) (h : ¬ a = b') : ¬ nI a = nI b' := fun q => h ((nI_eq ha hb').mp q)
theorem up_at {α : Type} (f : Nat → α) (i : Nat) (x : α) : va_up f i x i = x := by simp [va_up]
theorem up_ne {α : Type} (f : Nat → α) {i j : Nat} (x : α) (h : ¬ j = i) : va_up f i x j = f j := by simp [va_up, h]
theorem wC_self {n c : Nat} (hc : c < 4) (h : 0 < dg n c) : wC (wC n c 0 1) c 1 0 = n := by
  have h1 := wt_le (n := n) hc
  have h2 : 4 * 5 ^ c * 1 ≤ 4 * 5 ^ c * dg n c := Nat.mul_le_mul_left _ h
  unfold wC
  omega
theorem dg_less {n c : Nat} (hn : n < 40000) (hc : c < 4) (h : 0 < dg n c) : wC n c 0 1 < 40000 ∧ dg (wC n c 0 1) c = dg n c - 1 ∧ ∀ j, j < 4 → j ≠ c → dg (wC n c 0 1) j = dg n j := by
  have := dg_lt n c
  obtain ⟨h1, -, -, h4, h5, -⟩ := wC_ok (a := 0) (b := 1) hn hc (by omega) (by omega)
  exact ⟨h1, by omega, h5⟩
theorem dg_room {n c d : Nat} (hn : n < 40000) (hc : c < 4) (hd : d < 4) (h : 0 < dg n c) (h2 : c = d ∨ dg n d < 4) : dg (wC n c 0 1) d + 1 ≤ 4 := by
  obtain ⟨-, h4, h5⟩ := dg_less hn hc h
  have := dg_lt n c
  by_cases q : d = c
  · subst q; omega
  · rw [h5 d hd q]; omega
theorem dg_swap {n c d : Nat} (hn : n < 40000) (hc : c < 4) (hd : d < 4) (h : 0 < dg n c) (h2 : c = d ∨ dg n d < 4) : wC (wC n c 0 1) d 1 0 < 40000 := by
  have h3 := dg_room hn hc hd h h2
  exact (wC_ok (a := 1) (b := 0) (dg_less hn hc h).1 hd (by omega) (by omega)).1
theorem chN_lt {sx : Nat → Nat} {a c b' d : Nat} (hs : ∀ j, j < 5 → sx j < 40000) (ha : a < 5) (hb' : b' < 5) (hc : c < 4) (hd : d < 4) (h : chOk sx a c b' d) : ∀ j, j < 5 → chN sx a c b' d j < 40000 := fun j hj => by
  obtain ⟨h1, h2, -, h4⟩ := h
  unfold chN
  split
  · exact hs j hj
  · by_cases q : j = b'
    · subst q; rw [up_at]; exact dg_swap (hs j hj) hd hc h2 (by omega)
    · rw [up_ne _ _ q]
      by_cases q2 : j = a
      · subst q2; rw [up_at]; exact dg_swap (hs j hj) hc hd h1 (by omega)
      · rw [up_ne _ _ q2]; exact hs j hj
/-- both have changed, also if the coins are the same -/
theorem chN_sys {sx : Nat → Nat} {a c b' d : Nat} (hc : c < 4) (hd : d < 4) (hab : ¬ a = b') (h : chOk sx a c b' d) : va_up (va_up sx a (wC (wC (sx a) c 0 1) d 1 0)) b' (wC (wC (sx b') d 0 1) c 1 0) = chN sx a c b' d := by
  obtain ⟨h1, h2, -, -⟩ := h
  unfold chN
  split
  · rename_i q
    subst q
    rw [wC_self hc h1, wC_self hc h2]
    rw [up_id sx a, up_id sx b']
  · rfl
/-- a coin can be paid with somewhere -/
def anyN (k : Nat) (tk : Nat → Nat) (c : Nat) : Nat → Nat
  | 0 => 0
  | t + 1 => if anyN k tk c t = 1 then 1 else kPay k (tk t) / 2 ^ c % 2
abbrev anyP (k : Nat) (tk : Nat → Nat) (c t : Nat) : Prop := anyN k tk c t = 1
theorem anyP_s {k : Nat} {tk : Nat → Nat} {c t : Nat} : anyP k tk c (t + 1) ↔ (anyP k tk c t ∨ kPay k (tk t) / 2 ^ c % 2 = 1) := by
  show (if anyN k tk c t = 1 then 1 else kPay k (tk t) / 2 ^ c % 2) = 1 ↔ _
  by_cases h : anyN k tk c t = 1
  · rw [if_pos h]; exact ⟨fun _ => Or.inl h, fun _ => rfl⟩
  · rw [if_neg h]; exact ⟨Or.inr, fun q => q.resolve_left h⟩
theorem anyP_0 {k : Nat} {tk : Nat → Nat} {c : Nat} : ¬ anyP k tk c 0 := by show ¬ (0 = 1); decide
def deadN (k : Nat) (tk : Nat → Nat) (n : Nat) : Nat → Nat
  | 0 => 0
  | c + 1 => deadN k tk n c + (if anyP k tk c 4 then 0 else dg n c)
theorem deadN_le (k : Nat) (tk : Nat → Nat) (n : Nat) : ∀ c, deadN k tk n c ≤ 4 * c
  | 0 => Nat.le_refl 0
  | c + 1 => by
    have h := deadN_le k tk n c
    have h2 := dg_lt n c
    unfold deadN; split <;> omega
theorem deadN_y {k : Nat} {tk : Nat → Nat} {n c : Nat} (h : anyP k tk c 4) : deadN k tk n (c + 1) = deadN k tk n c := by show deadN k tk n c + _ = _; rw [if_pos h]; rfl
theorem deadN_n {k : Nat} {tk : Nat → Nat} {n c : Nat} (h : ¬ anyP k tk c 4) : deadN k tk n (c + 1) = deadN k tk n c + dg n c := by show deadN k tk n c + _ = _; rw [if_neg h]
theorem or_bit (a b' k : Nat) : (a ||| b') / 2 ^ k % 2 = 1 ↔ (a / 2 ^ k % 2 = 1 ∨ b' / 2 ^ k % 2 = 1) := by
  have h : ∀ x : Nat, x / 2 ^ k % 2 = 1 ↔ x.testBit k = true := fun x => by rw [Nat.testBit_eq_decide_div_mod_eq, decide_eq_true_iff]
  rw [h, h, h, Nat.testBit_or, Bool.or_eq_true]
theorem anyP_or {k : Nat} {tk gv pr py co ge gi pa : Nat → Nat} {c : Nat} (h : DLo k tk gv pr py co ge gi pa 4) : ((pa 0 ||| pa 1 ||| pa 2 ||| pa 3) / 2 ^ c % 2 = 1) ↔ anyP k tk c 4 := by
  rw [or_bit, or_bit, or_bit, (h 0 (by decide)).2.2.2, (h 1 (by decide)).2.2.2, (h 2 (by decide)).2.2.2, (h 3 (by decide)).2.2.2]
  rw [anyP_s, anyP_s, anyP_s, anyP_s]
  simp only [anyP_0, false_or, mPa]
def A_dead (pe : Nat) (tk ks sx : Nat → Nat) (x : Int32) : Int32 := if isP pe x then nI (deadN (ks (tN x)) tk (sx (tN x)) 4) else -101
/-- the trail: tg 1 if one has begun, of person tp from standing tf, tm purses told, tw them -/
def trI (tg tp : Nat) : Int32 := if tg = 0 then -1 else nI tp
theorem trI_no {tg tp : Nat} (h : trI tg tp = -1) (hp : tp < 5) : tg = 0 := by
  unfold trI at h
  split at h
  · assumption
  · exact absurd h (ni_m1 (by omega))
theorem trI_yes {tg tp : Nat} (h : ¬ trI tg tp = -1) : ¬ tg = 0 := fun q => h (by unfold trI; rw [if_pos q])
theorem trI_1 (tp : Nat) : trI 1 tp = nI tp := by unfold trI; rw [if_neg (by decide)]
def A_trail (pe tm : Nat) (x : Int32) : Int32 := if isP pe x then nI tm else -101
def N_trail (pe : Nat) (sx : Nat → Nat) (tg tp tf tm : Nat) (x : Int32) : Nat × Nat × Nat × Nat := if isP pe x then (1, tN x, sx (tN x), 0) else (tg, tp, tf, tm)
def A_next (tg tm : Nat) (x : Int32) : Int32 := if tg = 0 then -103 else if inR (nI 0) x (nI 624) then (if tm = 5 then -104 else nI (tm + 1)) else -102
def N_next (tg tm : Nat) (tw : Nat → Nat) (x : Int32) : Nat × (Nat → Nat) := if tg = 0 then (tm, tw) else if inR (nI 0) x (nI 624) then (if tm = 5 then (tm, tw) else (tm + 1, va_up tw tm (tN x))) else (tm, tw)
theorem up_pu (tw : Nat → Nat) (i x : Nat) : va_up (fun j => eS (4 * tw j)) i (eS (4 * x)) = fun j => eS (4 * va_up tw i x j) := by
  funext j
  by_cases h : j = i <;> simp [va_up, h]
/-- the first k of f, behind them g -/
def cpy (f g : Nat → Nat) (k : Nat) : Nat → Nat := fun q => if q < k then f q else g q
theorem cpy_0 (f g : Nat → Nat) : g = cpy f g 0 := by funext q; unfold cpy; rw [if_neg (by omega)]
theorem cpy_s (f g : Nat → Nat) (k : Nat) : va_up (cpy f g k) k (f k) = cpy f g (k + 1) := by
  funext q
  unfold cpy va_up
  by_cases h : q = k
  · subst h; simp
  · by_cases h2 : q < k
    · simp [h, h2, show q < k + 1 by omega]
    · simp [h, h2, show ¬ q < k + 1 by omega]
theorem cpy_e0 (f g : Nat → Nat) : (fun q => eS (g q)) = fun q => eS (cpy f g 0 q) := by rw [← cpy_0]
theorem cpy_es (f g : Nat → Nat) (k : Nat) : va_up (fun q => eS (cpy f g k q)) k (eS (f k)) = fun q => eS (cpy f g (k + 1) q) := by rw [up_eS, cpy_s]
/-- the image: people kp, acts ka, standings kst, prices kpr -/
def A_image (lr pe : Nat) : Int32 := if lr = 0 then -103 else nI pe
def N_image (lr pe ac : Nat) (sx pr : Nat → Nat) (kg kp ka : Nat) (kst kpr : Nat → Nat) : Nat × Nat × Nat × (Nat → Nat) × (Nat → Nat) := if lr = 0 then (kg, kp, ka, kst, kpr) else (1, pe, ac, cpy sx kst 5, cpy pr kpr 4)
def A_restore (kg kp : Nat) : Int32 := if kg = 0 then -103 else nI kp
def N_restore (kg kp ka : Nat) (kst kpr : Nat → Nat) (pe ac : Nat) (sx pr : Nat → Nat) : Nat × Nat × (Nat → Nat) × (Nat → Nat) := if kg = 0 then (pe, ac, sx, pr) else (kp, ka, cpy kst sx 5, cpy kpr pr 4)
theorem nb_t {x : Nat} {P : Prop} [Decidable P] (h : nI x = bI P) (h1 : ¬ x = 0) (h2 : x ≤ 1 := by omega) : P := by
  have hx : x = 1 := by omega
  subst hx
  by_cases q : P
  · exact q
  · rw [bI_f q] at h; exact absurd h (by decide)
theorem nb_f {x : Nat} {P : Prop} [Decidable P] (h : nI x = bI P) (h1 : x = 0) : ¬ P := fun q => by
  subst h1
  rw [bI_t q] at h; exact absurd h (by decide)
