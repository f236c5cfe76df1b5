/-! what an act does: costs co, gets ge, gives gi, payable pa, by towns -/
def hb (x k : Nat) : Prop := x / 2 ^ k % 2 = 1
def bGo (n t : Nat) : Option Nat := if (n % 4 + t) % 2 = 1 then some (wT n t) else none
def bBuy (co pa : Nat → Nat) (n c : Nat) : Option Nat := if ¬ gd n (n % 4) ∧ pa (n % 4) / 2 ^ c % 2 = 1 ∧ co (n % 4) ≤ dg n c then some (wG (wC n c 0 (co (n % 4))) (n % 4)) else none
def bSell (ge gi : Nat → Nat) (n g : Nat) : Option Nat := if gd n g ∧ ¬ g = n % 4 ∧ dg n (gi (n % 4)) + ge (n % 4) ≤ 4 then some (wG (wC n (gi (n % 4)) (ge (n % 4)) 0) g) else none
def bh (co ge gi pa : Nat → Nat) (n a : Nat) : Option Nat := if a < 10 then bGo n a else if a < 20 then bBuy co pa n (a - 10) else bSell ge gi n (a - 20)
/-- an act's number -/
abbrev aOk (a : Nat) : Prop := a < 4 ∨ (10 ≤ a ∧ a < 14) ∨ (20 ≤ a ∧ a < 24)
def WD (co ge gi pa : Nat → Nat) : Prop := ∀ t, t < 4 → co t ≤ 4 ∧ ge t ≤ 6 ∧ gi t < 4 ∧ pa t < 16
def oC (o : Option Nat) : Int32 := match o with
  | none => -1
  | some k => nI (eS k)
def oM (o : Option Nat) : Int32 := match o with
  | none => -1
  | some k => nI k
theorem ni_m1 {k : Nat} (h : k < 2 ^ 31) : ¬ nI k = (-1 : Int32) := fun q => by
  have h1 : (nI k).toInt = ((-1 : Int32)).toInt := by rw [q]
  rw [nI_toInt h] at h1
  have h2 : ((-1 : Int32)).toInt = -1 := by decide
  omega
theorem bGo_lt {n t k : Nat} (hn : n < 40000) (ht : t < 4) (h : bGo n t = some k) : k < 40000 := by
  unfold bGo at h
  split at h
  · cases h; exact (wT_ok hn ht).1
  · cases h
theorem wC_buy {n c p : Nat} (hn : n < 40000) (hc : c < 4) (hp : p ≤ dg n c) : wC n c 0 p < 40000 ∧ wC n c 0 p % 4 = n % 4 ∧ wC n c 0 p / 2500 = n / 2500 := by
  have := dg_lt n c
  obtain ⟨h1, h2, h3, -⟩ := wC_ok (a := 0) (b := p) hn hc (by omega) (by omega)
  exact ⟨h1, h2, h3⟩
theorem wC_sell {n c p : Nat} (hn : n < 40000) (hc : c < 4) (hp : dg n c + p ≤ 4) : wC n c p 0 < 40000 ∧ wC n c p 0 % 4 = n % 4 ∧ wC n c p 0 / 2500 = n / 2500 := by
  obtain ⟨h1, h2, h3, -⟩ := wC_ok (a := p) (b := 0) hn hc (by omega) (by omega)
  exact ⟨h1, h2, h3⟩
theorem bBuy_lt {co pa : Nat → Nat} {n c k : Nat} (hn : n < 40000) (hc : c < 4) (h : bBuy co pa n c = some k) : k < 40000 := by
  unfold bBuy at h
  split at h
  · rename_i q
    cases h
    exact (wG_ok (wC_buy hn hc q.2.2).1 (Nat.mod_lt _ (by decide))).1
  · cases h
theorem bSell_lt {ge gi : Nat → Nat} {n g k : Nat} (hgi : gi (n % 4) < 4) (hn : n < 40000) (hg : g < 4) (h : bSell ge gi n g = some k) : k < 40000 := by
  unfold bSell at h
  split at h
  · rename_i q
    cases h
    exact (wG_ok (wC_sell hn hgi q.2.2).1 hg).1
  · cases h
theorem bh_lt {co ge gi pa : Nat → Nat} {n a k : Nat} (hw : WD co ge gi pa) (hn : n < 40000) (ha : aOk a) (h : bh co ge gi pa n a = some k) : k < 40000 := by
  unfold bh at h
  unfold aOk at ha
  split at h
  · exact bGo_lt hn (by omega) h
  · split at h
    · exact bBuy_lt hn (by omega) h
    · exact bSell_lt (hw _ (Nat.mod_lt _ (by decide))).2.2.1 hn (by omega) h
theorem bh_eq {co ge gi pa co' ge' gi' pa' : Nat → Nat} (h : ∀ t, t < 4 → co t = co' t ∧ ge t = ge' t ∧ gi t = gi' t ∧ pa t = pa' t) (n a : Nat) : bh co ge gi pa n a = bh co' ge' gi' pa' n a := by
  obtain ⟨h1, h2, h3, h4⟩ := h (n % 4) (Nat.mod_lt _ (by decide))
  unfold bh bBuy bSell
  rw [h1, h2, h3, h4]
theorem oC_some {o : Option Nat} {k : Nat} (h : o = some k) : oC o = nI (eS k) := by rw [h]; rfl
theorem oC_none {o : Option Nat} (h : o = none) : oC o = -1 := by rw [h]; rfl
theorem bGo_t {n t : Nat} (h : (n % 4 + t) % 2 = 1) : oC (bGo n t) = nI (eS (wT n t)) := oC_some (if_pos h)
theorem bGo_f {n t : Nat} (h : ¬ (n % 4 + t) % 2 = 1) : oC (bGo n t) = -1 := oC_none (if_neg h)
/-- the acts, by number; all that one can be behind one act, in their order -/
def acL : List Nat := [0, 1, 2, 3, 10, 11, 12, 13, 20, 21, 22, 23]
def opL (f : Nat → Option Nat) : List Nat := acL.filterMap f
def opC (f : Nat → Option Nat) (j : Nat) : List Nat := (List.range j).filterMap (fun i => f (actN i))
theorem opC_0 (f : Nat → Option Nat) : opC f 0 = [] := rfl
theorem opC_none {f : Nat → Option Nat} {j : Nat} (h : f (actN j) = none) : opC f (j + 1) = opC f j := by
  unfold opC; rw [List.range_succ, List.filterMap_append]; simp [h]
theorem opC_some {f : Nat → Option Nat} {j k : Nat} (h : f (actN j) = some k) : opC f (j + 1) = opC f j ++ [k] := by
  unfold opC; rw [List.range_succ, List.filterMap_append]; simp [h]
theorem opC_12 (f : Nat → Option Nat) : opC f 12 = opL f := by
  unfold opC opL
  rw [show acL = (List.range 12).map actN by decide, List.filterMap_map]
  rfl
theorem actN_ok : ∀ j, j < 12 → aOk (actN j) ∧ actN j < 24 := by unfold aOk; decide
theorem opC_le (f : Nat → Option Nat) : ∀ j, (opC f j).length ≤ j
  | 0 => Nat.le_refl 0
  | j + 1 => by
    have h := opC_le f j
    cases q : f (actN j) with
    | none => rw [opC_none q]; omega
    | some k => rw [opC_some q, List.length_append]; simp; omega
theorem opC_pre (f : Nat → Option Nat) (j : Nat) : ∀ m, ∃ r, opC f (j + m) = opC f j ++ r
  | 0 => ⟨[], by simp⟩
  | m + 1 => by
    obtain ⟨r, hr⟩ := opC_pre f j m
    cases q : f (actN (j + m)) with
    | none => exact ⟨r, by rw [← Nat.add_assoc, opC_none q, hr]⟩
    | some k => exact ⟨r ++ [k], by rw [← Nat.add_assoc, opC_some q, hr, List.append_assoc]⟩
theorem opL_at {f : Nat → Option Nat} {j k : Nat} (hj : j < 12) (h : f (actN j) = some k) : (opL f)[(opC f j).length]? = some k := by
  obtain ⟨r, hr⟩ := opC_pre f (j + 1) (12 - (j + 1))
  rw [← opC_12, show (12 : Nat) = j + 1 + (12 - (j + 1)) by omega, hr, opC_some h]
  simp
theorem opL_mem {f : Nat → Option Nat} {k : Nat} (h : k ∈ opL f) : ∃ a, aOk a ∧ f a = some k := by
  unfold opL at h
  obtain ⟨a, ha, hk⟩ := List.mem_filterMap.mp h
  refine ⟨a, ?_, hk⟩
  have : ∀ a ∈ acL, aOk a := by unfold aOk; decide
  exact this a ha
theorem opL_len (f : Nat → Option Nat) : (opL f).length ≤ 12 := by rw [← opC_12]; exact opC_le f 12
theorem fm_congr {α β : Type} {f g : α → Option β} : ∀ {l : List α}, (∀ x ∈ l, f x = g x) → l.filterMap f = l.filterMap g
  | [], _ => rfl
  | a :: l, h => by
    rw [List.filterMap_cons, List.filterMap_cons, h a List.mem_cons_self, fm_congr (fun x hx => h x (List.mem_cons_of_mem _ hx))]
/-- one can always go somewhere -/
theorem opL_two (co ge gi pa : Nat → Nat) (n : Nat) : 2 ≤ (opL (bh co ge gi pa n)).length := by
  have h : opC (bh co ge gi pa n) 4 = (List.range 4).filterMap (bGo n) := by
    unfold opC
    apply fm_congr
    intro x hx
    have hx4 : x < 4 := List.mem_range.mp hx
    have : actN x = x := by unfold actN; rw [if_pos hx4]
    rw [this]; unfold bh; rw [if_pos (by omega)]
  obtain ⟨r, hr⟩ := opC_pre (bh co ge gi pa n) 4 8
  rw [← opC_12, show (12 : Nat) = 4 + 8 from rfl, hr, h, List.length_append]
  have h2 : ((List.range 4).filterMap (bGo n)).length = 2 := by
    have : n % 4 = 0 ∨ n % 4 = 1 ∨ n % 4 = 2 ∨ n % 4 = 3 := by omega
    rcases this with q | q | q | q <;> simp [List.range, List.range.loop, bGo, q]
  omega
theorem ni_max {a b : Nat} (ha : a < 2 ^ 31) (hb' : b < 2 ^ 31) : (if nI a < nI b then nI b else nI a) = nI (max a b) := by
  by_cases h : a < b
  · rw [if_pos ((nI_ltI ha hb').mpr h), Nat.max_eq_right (by omega)]
  · rw [if_neg (fun z => h ((nI_ltI ha hb').mp z)), Nat.max_eq_left (by omega)]
/-- the prices of a kind -/
def kCost (k pr : Nat) : Nat := max 1 (pr - kC k)
def kPay (k tk : Nat) : Nat := if kA k = 0 then tk else 15
theorem kC_le (k : Nat) : kC k ≤ 1 := by unfold kC; split <;> omega
theorem kM_le (k : Nat) : kM k ≤ 2 := by unfold kM; split; omega; split <;> omega
theorem kA_le (k : Nat) : kA k ≤ 1 := by unfold kA; split; omega; split <;> omega
theorem or16 {a b : Nat} (ha : a < 16) (hb' : b < 16) : a ||| b < 16 := Nat.or_lt_two_pow (n := 4) ha hb'
