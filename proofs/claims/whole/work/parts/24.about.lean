theorem ab_yes {z : Int32} (h : inR (nI 0) (z - nI 10) (nI 3)) : ∃ q, q ≤ 3 ∧ z = nI (q + 10) := by
  obtain ⟨q, hq, e⟩ := inR_of (by decide) h
  refine ⟨q, hq, ?_⟩
  rw [← nI_add, ← e, Int32.sub_add_cancel]
theorem ab_no {z : Int32} (h : ¬ inR (nI 0) (z - nI 10) (nI 3)) : ¬ inR (nI 10) z (nI 13) := fun q => by
  obtain ⟨t, ht, rfl⟩ := inR_of2 (by decide) (by decide) q
  refine h ?_
  rw [pk_sub ht.1]
  exact inR_nI (Nat.zero_le _) (by omega) (by decide)
theorem nle9 {a b' : Int32} (h : ¬ a ≤ b') : b' < a := Int32.not_le.mp h
theorem inR_mk2 {k : Nat} {x : Int32} (h1 : ¬ x < 0) (h2 : x ≤ nI k) : inR (nI 0) x (nI k) := ⟨nlt_le h1, h2⟩
