theorem no_step {y : Int32} {j : Nat} (h : ∀ q, q < j → ¬ nI (actN q) = y) (h2 : ¬ nI (actN j) = y) : ∀ q, q < j + 1 → ¬ nI (actN q) = y := fun q hq => by
  rcases Nat.lt_or_ge q j with z | z
  · exact h q z
  · rw [show q = j by omega]; exact h2
theorem aOk_ex {a : Nat} (h : aOk a) : ∃ q, q < 12 ∧ actN q = a := by
  have h1 : ∀ a, a < 24 → (a < 4 ∨ (10 ≤ a ∧ a < 14) ∨ (20 ≤ a ∧ a < 24)) → (List.range 12).any (fun q => decide (actN q = a)) = true := by decide
  obtain ⟨q, hq, hz⟩ := List.any_eq_true.mp (h1 a (aOk_lt h) h)
  exact ⟨q, List.mem_range.mp hq, of_decide_eq_true hz⟩
theorem aOkI_no {y : Int32} (h : ∀ q, q < 12 → ¬ nI (actN q) = y) : ¬ aOkI y := fun z => by
  obtain ⟨a, ha, rfl⟩ := aOkI_of z
  obtain ⟨q, hq, rfl⟩ := aOk_ex ha
  exact h q hq rfl
theorem nlt9 {k : Nat} {y : Int32} (h : ¬ nI k ≤ y) : y < nI k := Int32.not_le.mp h
theorem nlt9r {k : Nat} {y : Int32} (h : nI k ≤ y) : ¬ y < nI k := Int32.not_lt.mpr h
/-- the deal's rows hold the deal of kind k, up to town i -/
def DLo (k : Nat) (tk gv pr py co ge gi pa : Nat → Nat) (i : Nat) : Prop := ∀ j, j < i → co j = mCo k pr j ∧ ge j = mGe k py j ∧ gi j = gv j ∧ pa j = mPa k tk j
theorem DLo_step {k : Nat} {tk gv pr py co ge gi pa : Nat → Nat} {i a b' c d : Nat} (h : DLo k tk gv pr py co ge gi pa i) (ha : a = mCo k pr i) (hb' : b' = mGe k py i) (hc : c = gv i) (hd : d = mPa k tk i) : DLo k tk gv pr py (va_up co i a) (va_up ge i b') (va_up gi i c) (va_up pa i d) (i + 1) := fun j hj => by
  rcases Nat.lt_or_ge j i with q | q
  · have hne : ¬ j = i := by omega
    simp only [va_up, if_neg hne]
    exact h j q
  · have he : j = i := by omega
    subst he
    simp only [va_up, if_pos]
    exact ⟨ha, hb', hc, hd⟩
theorem kPay_t {k tk : Nat} (h : kA k = 0) : kPay k tk = tk := if_pos h
theorem kPay_f {k tk : Nat} (h : ¬ kA k = 0) : kPay k tk = 15 := if_neg h
theorem DLo_WD {k : Nat} {tk gv pr py co ge gi pa : Nat → Nat} (hl : WL tk gv pr py) (h : DLo k tk gv pr py co ge gi pa 4) : WD co ge gi pa := fun t ht => by
  obtain ⟨h1, h2, h3, h4⟩ := h t ht
  rw [h1, h2, h3, h4]
  exact WL_WD k hl t ht
theorem DLo_bh {k : Nat} {tk gv pr py co ge gi pa : Nat → Nat} (h : DLo k tk gv pr py co ge gi pa 4) : ∀ n a, bh co ge gi pa n a = mB k tk gv pr py n a := fun n a => bh_eq h n a
