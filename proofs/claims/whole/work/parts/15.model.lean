/-! the reference's object: ma its arrays, fi its ints, fl its longs, by the places of the fields -/
def mO (ma : Nat → Nat) (fi : Nat → Int32) (fl : Nat → Int64) : va_E := .inr (8, [.int (fi 0), .int (fi 1), .ref (ma 2), .ref (ma 3), .ref (ma 4), .ref (ma 5), .int (fi 6), .ref (ma 7), .ref (ma 8), .int (fi 9), .int (fi 10), .int (fi 11), .int (fi 12), .int (fi 13), .ref (ma 14), .int (fi 15), .ref (ma 16), .int (fi 17), .int (fi 18), .int (fi 19), .ref (ma 20), .ref (ma 21), .ref (ma 22), .ref (ma 23), .ref (ma 24), .ref (ma 25), .int (fi 26), .int (fi 27), .ref (ma 28), .ref (ma 29), .long (fl 30), .int (fi 31), .int (fi 32), .int (fi 33), .int (fi 34), .ref (ma 35), .ref (ma 36), .long (fl 37)])
/-- an int between two others -/
abbrev inR (lo x hi : Int32) : Prop := lo ≤ x ∧ x ≤ hi
theorem inR_of {x : Int32} {k : Nat} (hk : k < 2 ^ 31) (h : inR (nI 0) x (nI k)) : ∃ t, t ≤ k ∧ x = nI t := by
  obtain ⟨h1, h2⟩ := h
  obtain ⟨t, ht, rfl⟩ := nI_of (x := x) (fun q => by
    have h3 : (0 : Int32) ≤ x := h1
    rw [Int32.le_iff_toInt_le] at h3
    rw [Int32.lt_iff_toInt_lt] at q
    omega)
  exact ⟨t, (nI_leI ht hk).mp h2, rfl⟩
theorem inR_nI {t lo hi : Nat} (h1 : lo ≤ t) (h2 : t ≤ hi) (hb : hi < 2 ^ 31) : inR (nI lo) (nI t) (nI hi) := ⟨nI_le h1 (by omega), nI_le h2 hb⟩
theorem inR_iff {t lo hi : Nat} (ht : t < 2 ^ 31) (h1 : lo < 2 ^ 31) (h2 : hi < 2 ^ 31) : inR (nI lo) (nI t) (nI hi) ↔ lo ≤ t ∧ t ≤ hi := ⟨fun h => ⟨(nI_leI h1 ht).mp h.1, (nI_leI ht h2).mp h.2⟩, fun h => inR_nI h.1 h.2 h2⟩
abbrev aOkI (x : Int32) : Prop := inR (nI 0) x (nI 3) ∨ inR (nI 10) x (nI 13) ∨ inR (nI 20) x (nI 23)
theorem aOkI_nI {a : Nat} (h : a < 2 ^ 31) : aOkI (nI a) ↔ aOk a := by
  unfold aOkI aOk
  rw [inR_iff h (by decide) (by decide), inR_iff h (by decide) (by decide), inR_iff h (by decide) (by decide)]
  omega
theorem inR_nat {lo x hi : Int32} (h0 : (0 : Int32) ≤ lo) (h : inR lo x hi) : ∃ t, t < 2 ^ 31 ∧ x = nI t := by
  have h3 : ¬ x < 0 := fun q => by
    have h1 := h.1
    rw [Int32.le_iff_toInt_le] at h1 h0
    rw [Int32.lt_iff_toInt_lt] at q
    omega
  exact nI_of h3
theorem aOkI_of {x : Int32} (h : aOkI x) : ∃ a, aOk a ∧ x = nI a := by
  have : ∃ t, t < 2 ^ 31 ∧ x = nI t := by
    rcases h with h | h | h
    · exact inR_nat (by decide) h
    · exact inR_nat (by decide) h
    · exact inR_nat (by decide) h
  obtain ⟨t, ht, rfl⟩ := this
  exact ⟨t, (aOkI_nI ht).mp h, rfl⟩
/-- the ones of the lowest k bits -/
def oneN (x : Nat) : Nat → Nat
  | 0 => 0
  | k + 1 => oneN x k + x / 2 ^ k % 2
theorem oneN_le (x : Nat) : ∀ k, oneN x k ≤ k
  | 0 => Nat.le_refl 0
  | k + 1 => by
    have h := oneN_le x k
    have h2 : x / 2 ^ k % 2 < 2 := Nat.mod_lt _ (by decide)
    unfold oneN; omega
theorem wt_le {n c : Nat} (hc : c < 4) : 4 * 5 ^ c * dg n c ≤ n := by
  have p := n_parts n
  refine four (P := fun c => 4 * 5 ^ c * dg n c ≤ n) ?_ ?_ ?_ ?_ hc <;> (simp only [Nat.reducePow]; omega)
theorem wC_rawM {n c a b : Nat} (hc : c < 4) (h1 : b ≤ dg n c + a) : nI n + nI (4 * 5 ^ c) * (nI a - nI b) = nI (wC n c a b) := by
  have h := wt_le (n := n) hc
  have h2 : 4 * 5 ^ c * b ≤ n + 4 * 5 ^ c * a := by
    have h3 : 4 * 5 ^ c * b ≤ 4 * 5 ^ c * (dg n c + a) := Nat.mul_le_mul_left _ h1
    rw [Nat.mul_add] at h3
    omega
  unfold wC
  rw [← pk_sub h2, ← nI_add, ← pk_mul (4 * 5 ^ c) a, ← pk_mul (4 * 5 ^ c) b, Int32.mul_sub, Int32.sub_eq_add_neg, Int32.sub_eq_add_neg, ← Int32.add_assoc]
theorem kCost_m1 {k pr : Nat} (hk : k = 1) (h : 1 < pr) : kCost k pr = pr - 1 := by subst hk; unfold kCost kC; simp; omega
theorem kCost_m2 {k pr : Nat} (h1 : 1 ≤ pr) (h : ¬ k = 1 ∨ pr ≤ 1) : kCost k pr = pr := by
  unfold kCost kC
  split <;> omega
theorem kCost_le {k pr : Nat} (h1 : 1 ≤ pr) : kCost k pr ≤ pr := by unfold kCost; omega
theorem kPay_any {k tk c : Nat} (hk : k = 2 ∨ k = 4) (hc : c < 4) : kPay k tk / 2 ^ c % 2 = 1 := by
  have : kPay k tk = 15 := by rcases hk with rfl | rfl <;> rfl
  rw [this]
  exact four (P := fun c => 15 / 2 ^ c % 2 = 1) (by decide) (by decide) (by decide) (by decide) hc
theorem kPay_no {k tk : Nat} (h2 : ¬ k = 2) (h4 : ¬ k = 4) : kPay k tk = tk := by unfold kPay kA; simp [h2, h4]
theorem kPay_lt {k tk : Nat} (h : tk < 16) : kPay k tk < 16 := by unfold kPay; split <;> omega
abbrev mCo (k : Nat) (pr : Nat → Nat) : Nat → Nat := fun t => kCost k (pr t)
abbrev mGe (k : Nat) (py : Nat → Nat) : Nat → Nat := fun t => py t + kM k
abbrev mPa (k : Nat) (tk : Nat → Nat) : Nat → Nat := fun t => kPay k (tk t)
/-- the deal of kind k by a law -/
abbrev mB (k : Nat) (tk gv pr py : Nat → Nat) (n a : Nat) : Option Nat := bh (mCo k pr) (mGe k py) gv (mPa k tk) n a
/-- a law that is one -/
def WL (tk gv pr py : Nat → Nat) : Prop := ∀ t, t < 4 → tk t < 16 ∧ gv t < 4 ∧ 1 ≤ pr t ∧ pr t ≤ 4 ∧ py t ≤ 4
theorem WL_WD {tk gv pr py : Nat → Nat} (k : Nat) (h : WL tk gv pr py) : WD (mCo k pr) (mGe k py) gv (mPa k tk) := fun t ht => by
  obtain ⟨h1, h2, h3, h4, h5⟩ := h t ht
  have e1 := kCost_le (k := k) h3
  have e2 := kM_le k
  have e3 := kPay_lt (k := k) h1
  refine ⟨?_, ?_, h2, e3⟩
  · show kCost k (pr t) ≤ 4; omega
  · show py t + kM k ≤ 6; omega
theorem oM_some {o : Option Nat} {k : Nat} (h : o = some k) : oM o = nI k := by rw [h]; rfl
theorem oM_none {o : Option Nat} (h : o = none) : oM o = -1 := by rw [h]; rfl
theorem bM_buy {co pa : Nat → Nat} {n c : Nat} (hn : n < 40000) (hc : c < 4) (h1 : ¬ gd n (n % 4)) (h2 : pa (n % 4) / 2 ^ c % 2 = 1) (h3 : co (n % 4) ≤ dg n c) : nI (wC n c 0 (co (n % 4)) + 2500 * (1 * 2 ^ (n % 4))) = oM (bBuy co pa n c) := by
  have e : bBuy co pa n c = some (wG (wC n c 0 (co (n % 4))) (n % 4)) := if_pos ⟨h1, h2, h3⟩
  rw [oM_some e]
  have h := wC_buy (p := co (n % 4)) hn hc h3
  unfold wG
  rw [h.2.2, if_neg h1, Nat.one_mul]
theorem sell_le {n g w : Nat} (hg : g < 4) (h : gd n g) (hw : w / 2500 = n / 2500) : 2500 * (1 * 2 ^ g) ≤ w := by
  have h1 : 2 ^ g ≤ n / 2500 := by
    revert h
    refine four (P := fun g => gd n g → 2 ^ g ≤ n / 2500) ?_ ?_ ?_ ?_ hg <;> (simp only [gd, Nat.reducePow]; omega)
  rw [← hw] at h1
  have h2 := Nat.div_mul_le_self w 2500
  have h3 : 2500 * 2 ^ g ≤ 2500 * (w / 2500) := Nat.mul_le_mul_left _ h1
  omega
theorem bM_sell {ge gi : Nat → Nat} {n g : Nat} (hn : n < 40000) (hgi : gi (n % 4) < 4) (h1 : gd n g) (h2 : ¬ g = n % 4) (h3 : dg n (gi (n % 4)) + ge (n % 4) ≤ 4) : nI (wC n (gi (n % 4)) (ge (n % 4)) 0 - 2500 * (1 * 2 ^ g)) = oM (bSell ge gi n g) := by
  have e : bSell ge gi n g = some (wG (wC n (gi (n % 4)) (ge (n % 4)) 0) g) := if_pos ⟨h1, h2, h3⟩
  rw [oM_some e]
  have h := wC_sell (p := ge (n % 4)) hn hgi h3
  unfold wG
  rw [h.2.2, if_pos h1, Nat.one_mul]
theorem nlt_le {a b' : Int32} (h : ¬ a < b') : b' ≤ a := Int32.not_lt.mp h
theorem nle_of_lt {a b' : Int32} (h : a < b') : ¬ b' ≤ a := Int32.not_le.mpr h
theorem five_le {c : Nat} (hc : c < 4) : 5 ^ c ≤ 125 := four (P := fun c => 5 ^ c ≤ 125) (by decide) (by decide) (by decide) (by decide) hc
theorem pw_le8 {c : Nat} (hc : c < 4) : 1 * 2 ^ c ≤ 8 := four (P := fun c => 1 * 2 ^ c ≤ 8) (by decide) (by decide) (by decide) (by decide) hc
