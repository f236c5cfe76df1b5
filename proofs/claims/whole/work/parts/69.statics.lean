/-! what stands before the law begins: the constants, their rows -/
set_option maxRecDepth 100000 in
set_option maxHeartbeats 4000000 in
theorem st_kinds {args : Array Value} {s : State} {A : Nat → Prop} (hts : ∀ w ∈ lw_tbl, w.before args s = true) (hs : ∀ c ∈ flatC (Jvm.Cond.and given_1 narrow_1), c.before args s = true) (hA : ∀ a : Nat, a < s.heap.size → ¬ A a) : ∃ ad : Nat → Nat, va_En "OtherCoins$Kind" "LOtherCoins$Kind;" nmK FK ad A s s.heap ∧ ∀ i, i < nmK.length → (Term.static "OtherCoins$Kind" (nmK.getD i "") "LOtherCoins$Kind;").eval args s none [] s = some (.ref (ad i)) := by
  refine va_Enof2 ?_ (hts _ (List.mem_of_getElem? (i := 55) (by decide +kernel))) ?_ ?_ ?_ hA
  · intro i hi
    have hi : i < 5 := hi
    rcases (show i = 0 ∨ i = 1 ∨ i = 2 ∨ i = 3 ∨ i = 4 by omega) with rfl | rfl | rfl | rfl | rfl
    · exact hts (.laysStatic "OtherCoins$Kind" "PERSON" "LOtherCoins$Kind;") (List.mem_of_getElem? (i := 146) (by decide +kernel))
    · exact hts (.laysStatic "OtherCoins$Kind" "BEGGAR" "LOtherCoins$Kind;") (List.mem_of_getElem? (i := 1080) (by decide +kernel))
    · exact hts (.laysStatic "OtherCoins$Kind" "THIEF" "LOtherCoins$Kind;") (List.mem_of_getElem? (i := 1081) (by decide +kernel))
    · exact hts (.laysStatic "OtherCoins$Kind" "MERCHANT" "LOtherCoins$Kind;") (List.mem_of_getElem? (i := 438) (by decide +kernel))
    · exact hts (.laysStatic "OtherCoins$Kind" "SMUGGLER" "LOtherCoins$Kind;") (List.mem_of_getElem? (i := 436) (by decide +kernel))
  · intro i hi
    have hi : i < 5 := hi
    rcases (show i = 0 ∨ i = 1 ∨ i = 2 ∨ i = 3 ∨ i = 4 by omega) with rfl | rfl | rfl | rfl | rfl
    · exact hs (.exactly (.static "OtherCoins$Kind" "PERSON" "LOtherCoins$Kind;") "OtherCoins$Kind") (by decide +kernel)
    · exact hs (.exactly (.static "OtherCoins$Kind" "BEGGAR" "LOtherCoins$Kind;") "OtherCoins$Kind") (by decide +kernel)
    · exact hs (.exactly (.static "OtherCoins$Kind" "THIEF" "LOtherCoins$Kind;") "OtherCoins$Kind") (by decide +kernel)
    · exact hs (.exactly (.static "OtherCoins$Kind" "MERCHANT" "LOtherCoins$Kind;") "OtherCoins$Kind") (by decide +kernel)
    · exact hs (.exactly (.static "OtherCoins$Kind" "SMUGGLER" "LOtherCoins$Kind;") "OtherCoins$Kind") (by decide +kernel)
  · intro q hq i hi
    have hi : i < 5 := hi
    have hq : q ∈ [("OtherCoins$Kind", "number", "I", ([0, 1, 2, 3, 4] : List Int32)), ("OtherCoins$Kind", "costsLess", "I", [0, 1, 0, 0, 0]), ("OtherCoins$Kind", "getsMore", "I", [0, 0, 0, 1, 2]), ("OtherCoins$Kind", "paysWithAny", "Z", [0, 0, 1, 0, 1])] := hq
    rcases List.mem_cons.mp hq with rfl | hq
    · rcases (show i = 0 ∨ i = 1 ∨ i = 2 ∨ i = 3 ∨ i = 4 by omega) with rfl | rfl | rfl | rfl | rfl
      · exact hs (.eq (.field (.static "OtherCoins$Kind" "PERSON" "LOtherCoins$Kind;") "OtherCoins$Kind" "number" "I") (.int 0)) (by decide +kernel)
      · exact hs (.eq (.field (.static "OtherCoins$Kind" "BEGGAR" "LOtherCoins$Kind;") "OtherCoins$Kind" "number" "I") (.int 1)) (by decide +kernel)
      · exact hs (.eq (.field (.static "OtherCoins$Kind" "THIEF" "LOtherCoins$Kind;") "OtherCoins$Kind" "number" "I") (.int 2)) (by decide +kernel)
      · exact hs (.eq (.field (.static "OtherCoins$Kind" "MERCHANT" "LOtherCoins$Kind;") "OtherCoins$Kind" "number" "I") (.int 3)) (by decide +kernel)
      · exact hs (.eq (.field (.static "OtherCoins$Kind" "SMUGGLER" "LOtherCoins$Kind;") "OtherCoins$Kind" "number" "I") (.int 4)) (by decide +kernel)
    rcases List.mem_cons.mp hq with rfl | hq
    · rcases (show i = 0 ∨ i = 1 ∨ i = 2 ∨ i = 3 ∨ i = 4 by omega) with rfl | rfl | rfl | rfl | rfl
      · exact hs (.eq (.field (.static "OtherCoins$Kind" "PERSON" "LOtherCoins$Kind;") "OtherCoins$Kind" "costsLess" "I") (.int 0)) (by decide +kernel)
      · exact hs (.eq (.field (.static "OtherCoins$Kind" "BEGGAR" "LOtherCoins$Kind;") "OtherCoins$Kind" "costsLess" "I") (.int 1)) (by decide +kernel)
      · exact hs (.eq (.field (.static "OtherCoins$Kind" "THIEF" "LOtherCoins$Kind;") "OtherCoins$Kind" "costsLess" "I") (.int 0)) (by decide +kernel)
      · exact hs (.eq (.field (.static "OtherCoins$Kind" "MERCHANT" "LOtherCoins$Kind;") "OtherCoins$Kind" "costsLess" "I") (.int 0)) (by decide +kernel)
      · exact hs (.eq (.field (.static "OtherCoins$Kind" "SMUGGLER" "LOtherCoins$Kind;") "OtherCoins$Kind" "costsLess" "I") (.int 0)) (by decide +kernel)
    rcases List.mem_cons.mp hq with rfl | hq
    · rcases (show i = 0 ∨ i = 1 ∨ i = 2 ∨ i = 3 ∨ i = 4 by omega) with rfl | rfl | rfl | rfl | rfl
      · exact hs (.eq (.field (.static "OtherCoins$Kind" "PERSON" "LOtherCoins$Kind;") "OtherCoins$Kind" "getsMore" "I") (.int 0)) (by decide +kernel)
      · exact hs (.eq (.field (.static "OtherCoins$Kind" "BEGGAR" "LOtherCoins$Kind;") "OtherCoins$Kind" "getsMore" "I") (.int 0)) (by decide +kernel)
      · exact hs (.eq (.field (.static "OtherCoins$Kind" "THIEF" "LOtherCoins$Kind;") "OtherCoins$Kind" "getsMore" "I") (.int 0)) (by decide +kernel)
      · exact hs (.eq (.field (.static "OtherCoins$Kind" "MERCHANT" "LOtherCoins$Kind;") "OtherCoins$Kind" "getsMore" "I") (.int 1)) (by decide +kernel)
      · exact hs (.eq (.field (.static "OtherCoins$Kind" "SMUGGLER" "LOtherCoins$Kind;") "OtherCoins$Kind" "getsMore" "I") (.int 2)) (by decide +kernel)
    rcases List.mem_cons.mp hq with rfl | hq
    · rcases (show i = 0 ∨ i = 1 ∨ i = 2 ∨ i = 3 ∨ i = 4 by omega) with rfl | rfl | rfl | rfl | rfl
      · exact hs (.eq (.field (.static "OtherCoins$Kind" "PERSON" "LOtherCoins$Kind;") "OtherCoins$Kind" "paysWithAny" "Z") (.int 0)) (by decide +kernel)
      · exact hs (.eq (.field (.static "OtherCoins$Kind" "BEGGAR" "LOtherCoins$Kind;") "OtherCoins$Kind" "paysWithAny" "Z") (.int 0)) (by decide +kernel)
      · exact hs (.eq (.field (.static "OtherCoins$Kind" "THIEF" "LOtherCoins$Kind;") "OtherCoins$Kind" "paysWithAny" "Z") (.int 1)) (by decide +kernel)
      · exact hs (.eq (.field (.static "OtherCoins$Kind" "MERCHANT" "LOtherCoins$Kind;") "OtherCoins$Kind" "paysWithAny" "Z") (.int 0)) (by decide +kernel)
      · exact hs (.eq (.field (.static "OtherCoins$Kind" "SMUGGLER" "LOtherCoins$Kind;") "OtherCoins$Kind" "paysWithAny" "Z") (.int 1)) (by decide +kernel)
    exact absurd hq List.not_mem_nil
  · intro i j hi hj hij
    have hi : i < 5 := hi
    have hj : j < 5 := hj
    rcases (show i = 0 ∨ i = 1 ∨ i = 2 ∨ i = 3 ∨ i = 4 by omega) with rfl | rfl | rfl | rfl | rfl
    · rcases (show j = 0 ∨ j = 1 ∨ j = 2 ∨ j = 3 ∨ j = 4 by omega) with rfl | rfl | rfl | rfl | rfl
      · exact absurd rfl hij
      · exact Or.inl (hs (.not (.eq (.static "OtherCoins$Kind" "PERSON" "LOtherCoins$Kind;") (.static "OtherCoins$Kind" "BEGGAR" "LOtherCoins$Kind;"))) (by decide +kernel))
      · exact Or.inl (hs (.not (.eq (.static "OtherCoins$Kind" "PERSON" "LOtherCoins$Kind;") (.static "OtherCoins$Kind" "THIEF" "LOtherCoins$Kind;"))) (by decide +kernel))
      · exact Or.inl (hs (.not (.eq (.static "OtherCoins$Kind" "PERSON" "LOtherCoins$Kind;") (.static "OtherCoins$Kind" "MERCHANT" "LOtherCoins$Kind;"))) (by decide +kernel))
      · exact Or.inl (hs (.not (.eq (.static "OtherCoins$Kind" "PERSON" "LOtherCoins$Kind;") (.static "OtherCoins$Kind" "SMUGGLER" "LOtherCoins$Kind;"))) (by decide +kernel))
    · rcases (show j = 0 ∨ j = 1 ∨ j = 2 ∨ j = 3 ∨ j = 4 by omega) with rfl | rfl | rfl | rfl | rfl
      · exact Or.inr (hs (.not (.eq (.static "OtherCoins$Kind" "PERSON" "LOtherCoins$Kind;") (.static "OtherCoins$Kind" "BEGGAR" "LOtherCoins$Kind;"))) (by decide +kernel))
      · exact absurd rfl hij
      · exact Or.inl (hs (.not (.eq (.static "OtherCoins$Kind" "BEGGAR" "LOtherCoins$Kind;") (.static "OtherCoins$Kind" "THIEF" "LOtherCoins$Kind;"))) (by decide +kernel))
      · exact Or.inr (hs (.not (.eq (.static "OtherCoins$Kind" "MERCHANT" "LOtherCoins$Kind;") (.static "OtherCoins$Kind" "BEGGAR" "LOtherCoins$Kind;"))) (by decide +kernel))
      · exact Or.inr (hs (.not (.eq (.static "OtherCoins$Kind" "SMUGGLER" "LOtherCoins$Kind;") (.static "OtherCoins$Kind" "BEGGAR" "LOtherCoins$Kind;"))) (by decide +kernel))
    · rcases (show j = 0 ∨ j = 1 ∨ j = 2 ∨ j = 3 ∨ j = 4 by omega) with rfl | rfl | rfl | rfl | rfl
      · exact Or.inr (hs (.not (.eq (.static "OtherCoins$Kind" "PERSON" "LOtherCoins$Kind;") (.static "OtherCoins$Kind" "THIEF" "LOtherCoins$Kind;"))) (by decide +kernel))
      · exact Or.inr (hs (.not (.eq (.static "OtherCoins$Kind" "BEGGAR" "LOtherCoins$Kind;") (.static "OtherCoins$Kind" "THIEF" "LOtherCoins$Kind;"))) (by decide +kernel))
      · exact absurd rfl hij
      · exact Or.inr (hs (.not (.eq (.static "OtherCoins$Kind" "MERCHANT" "LOtherCoins$Kind;") (.static "OtherCoins$Kind" "THIEF" "LOtherCoins$Kind;"))) (by decide +kernel))
      · exact Or.inr (hs (.not (.eq (.static "OtherCoins$Kind" "SMUGGLER" "LOtherCoins$Kind;") (.static "OtherCoins$Kind" "THIEF" "LOtherCoins$Kind;"))) (by decide +kernel))
    · rcases (show j = 0 ∨ j = 1 ∨ j = 2 ∨ j = 3 ∨ j = 4 by omega) with rfl | rfl | rfl | rfl | rfl
      · exact Or.inr (hs (.not (.eq (.static "OtherCoins$Kind" "PERSON" "LOtherCoins$Kind;") (.static "OtherCoins$Kind" "MERCHANT" "LOtherCoins$Kind;"))) (by decide +kernel))
      · exact Or.inl (hs (.not (.eq (.static "OtherCoins$Kind" "MERCHANT" "LOtherCoins$Kind;") (.static "OtherCoins$Kind" "BEGGAR" "LOtherCoins$Kind;"))) (by decide +kernel))
      · exact Or.inl (hs (.not (.eq (.static "OtherCoins$Kind" "MERCHANT" "LOtherCoins$Kind;") (.static "OtherCoins$Kind" "THIEF" "LOtherCoins$Kind;"))) (by decide +kernel))
      · exact absurd rfl hij
      · exact Or.inr (hs (.not (.eq (.static "OtherCoins$Kind" "SMUGGLER" "LOtherCoins$Kind;") (.static "OtherCoins$Kind" "MERCHANT" "LOtherCoins$Kind;"))) (by decide +kernel))
    · rcases (show j = 0 ∨ j = 1 ∨ j = 2 ∨ j = 3 ∨ j = 4 by omega) with rfl | rfl | rfl | rfl | rfl
      · exact Or.inr (hs (.not (.eq (.static "OtherCoins$Kind" "PERSON" "LOtherCoins$Kind;") (.static "OtherCoins$Kind" "SMUGGLER" "LOtherCoins$Kind;"))) (by decide +kernel))
      · exact Or.inl (hs (.not (.eq (.static "OtherCoins$Kind" "SMUGGLER" "LOtherCoins$Kind;") (.static "OtherCoins$Kind" "BEGGAR" "LOtherCoins$Kind;"))) (by decide +kernel))
      · exact Or.inl (hs (.not (.eq (.static "OtherCoins$Kind" "SMUGGLER" "LOtherCoins$Kind;") (.static "OtherCoins$Kind" "THIEF" "LOtherCoins$Kind;"))) (by decide +kernel))
      · exact Or.inl (hs (.not (.eq (.static "OtherCoins$Kind" "SMUGGLER" "LOtherCoins$Kind;") (.static "OtherCoins$Kind" "MERCHANT" "LOtherCoins$Kind;"))) (by decide +kernel))
      · exact absurd rfl hij
set_option maxRecDepth 100000 in
set_option maxHeartbeats 4000000 in
theorem st_acts {args : Array Value} {s : State} {A : Nat → Prop} (hts : ∀ w ∈ lw_tbl, w.before args s = true) (hs : ∀ c ∈ flatC (Jvm.Cond.and given_1 narrow_1), c.before args s = true) (hA : ∀ a : Nat, a < s.heap.size → ¬ A a) : ∃ t : Nat, va_Z "OtherCoins" "ACTS" "[I" (.ref t) A s s.heap ∧ va_T .int t 12 (fun j => .int (nI (actN j))) A s s.heap := by
  have hel : ∀ j : Nat, j < 12 → (Term.elem (.static "OtherCoins" "ACTS" "[I") (.int (Int32.ofNat j))).eval args s none [] s = some ((fun j => .int (nI (actN j))) j) := by
    intro j hj
    rcases (show j = 0 ∨ j = 1 ∨ j = 2 ∨ j = 3 ∨ j = 4 ∨ j = 5 ∨ j = 6 ∨ j = 7 ∨ j = 8 ∨ j = 9 ∨ j = 10 ∨ j = 11 by omega) with rfl | rfl | rfl | rfl | rfl | rfl | rfl | rfl | rfl | rfl | rfl | rfl
    · exact va_eqt (hs (.eq (.elem (.static "OtherCoins" "ACTS" "[I") (.int 0)) (.int 0)) (by decide +kernel))
    · exact va_eqt (hs (.eq (.elem (.static "OtherCoins" "ACTS" "[I") (.int 1)) (.int 1)) (by decide +kernel))
    · exact va_eqt (hs (.eq (.elem (.static "OtherCoins" "ACTS" "[I") (.int 2)) (.int 2)) (by decide +kernel))
    · exact va_eqt (hs (.eq (.elem (.static "OtherCoins" "ACTS" "[I") (.int 3)) (.int 3)) (by decide +kernel))
    · exact va_eqt (hs (.eq (.elem (.static "OtherCoins" "ACTS" "[I") (.int 4)) (.int 10)) (by decide +kernel))
    · exact va_eqt (hs (.eq (.elem (.static "OtherCoins" "ACTS" "[I") (.int 5)) (.int 11)) (by decide +kernel))
    · exact va_eqt (hs (.eq (.elem (.static "OtherCoins" "ACTS" "[I") (.int 6)) (.int 12)) (by decide +kernel))
    · exact va_eqt (hs (.eq (.elem (.static "OtherCoins" "ACTS" "[I") (.int 7)) (.int 13)) (by decide +kernel))
    · exact va_eqt (hs (.eq (.elem (.static "OtherCoins" "ACTS" "[I") (.int 8)) (.int 20)) (by decide +kernel))
    · exact va_eqt (hs (.eq (.elem (.static "OtherCoins" "ACTS" "[I") (.int 9)) (.int 21)) (by decide +kernel))
    · exact va_eqt (hs (.eq (.elem (.static "OtherCoins" "ACTS" "[I") (.int 10)) (.int 22)) (by decide +kernel))
    · exact va_eqt (hs (.eq (.elem (.static "OtherCoins" "ACTS" "[I") (.int 11)) (.int 23)) (by decide +kernel))
  obtain ⟨t, h1, h2⟩ := va_Tof (tm := (.static "OtherCoins" "ACTS" "[I")) (ty := .int) (N := 12) (f := fun j => .int (nI (actN j))) (A := A) (by decide) (hs (.arrayOf (.static "OtherCoins" "ACTS" "[I") .int) (by decide +kernel)) (va_eqt (hs (.eq (.length (.static "OtherCoins" "ACTS" "[I")) (.int 12)) (by decide +kernel))) hel hA
  exact ⟨t, va_Zref (hts (.laysStatic "OtherCoins" "ACTS" "[I") (List.mem_of_getElem? (i := 454) (by decide +kernel))) (hts (.initialized "OtherCoins") (List.mem_of_getElem? (i := 49) (by decide +kernel))) h1 hA, h2⟩
set_option maxRecDepth 100000 in
set_option maxHeartbeats 4000000 in
theorem st_rows {args : Array Value} {s : State} {A : Nat → Prop} (hts : ∀ w ∈ lw_tbl, w.before args s = true) (hs : ∀ c ∈ flatC (Jvm.Cond.and given_1 narrow_1), c.before args s = true) (hA : ∀ a : Nat, a < s.heap.size → ¬ A a) (ad : Nat → Nat) (hAd : ∀ i, i < nmK.length → (Term.static "OtherCoins$Kind" (nmK.getD i "") "LOtherCoins$Kind;").eval args s none [] s = some (.ref (ad i))) : ∃ t : Nat, va_Z "OtherCoins" "KINDS" "[LOtherCoins$Kind;" (.ref t) A s s.heap ∧ va_T (.object "OtherCoins$Kind") t 5 (fun j => .ref (ad j)) A s s.heap := by
  have hel : ∀ j : Nat, j < 5 → (Term.elem (.static "OtherCoins" "KINDS" "[LOtherCoins$Kind;") (.int (Int32.ofNat j))).eval args s none [] s = some ((fun j => .ref (ad j)) j) := by
    intro j hj
    rcases (show j = 0 ∨ j = 1 ∨ j = 2 ∨ j = 3 ∨ j = 4 by omega) with rfl | rfl | rfl | rfl | rfl
    · exact va_eqv (hs (.eq (.elem (.static "OtherCoins" "KINDS" "[LOtherCoins$Kind;") (.int 0)) (.static "OtherCoins$Kind" "PERSON" "LOtherCoins$Kind;")) (by decide +kernel)) (hAd 0 (by decide))
    · exact va_eqv (hs (.eq (.elem (.static "OtherCoins" "KINDS" "[LOtherCoins$Kind;") (.int 1)) (.static "OtherCoins$Kind" "BEGGAR" "LOtherCoins$Kind;")) (by decide +kernel)) (hAd 1 (by decide))
    · exact va_eqv (hs (.eq (.elem (.static "OtherCoins" "KINDS" "[LOtherCoins$Kind;") (.int 2)) (.static "OtherCoins$Kind" "THIEF" "LOtherCoins$Kind;")) (by decide +kernel)) (hAd 2 (by decide))
    · exact va_eqv (hs (.eq (.elem (.static "OtherCoins" "KINDS" "[LOtherCoins$Kind;") (.int 3)) (.static "OtherCoins$Kind" "MERCHANT" "LOtherCoins$Kind;")) (by decide +kernel)) (hAd 3 (by decide))
    · exact va_eqv (hs (.eq (.elem (.static "OtherCoins" "KINDS" "[LOtherCoins$Kind;") (.int 4)) (.static "OtherCoins$Kind" "SMUGGLER" "LOtherCoins$Kind;")) (by decide +kernel)) (hAd 4 (by decide))
  obtain ⟨t, h1, h2⟩ := va_Tof (tm := (.static "OtherCoins" "KINDS" "[LOtherCoins$Kind;")) (ty := .object "OtherCoins$Kind") (N := 5) (f := fun j => .ref (ad j)) (A := A) (by decide) (hs (.arrayOf (.static "OtherCoins" "KINDS" "[LOtherCoins$Kind;") (.object "OtherCoins$Kind")) (by decide +kernel)) (va_eqt (hs (.eq (.length (.static "OtherCoins" "KINDS" "[LOtherCoins$Kind;")) (.int 5)) (by decide +kernel))) hel hA
  exact ⟨t, va_Zref (hts (.laysStatic "OtherCoins" "KINDS" "[LOtherCoins$Kind;") (List.mem_of_getElem? (i := 395) (by decide +kernel))) (hts (.initialized "OtherCoins") (List.mem_of_getElem? (i := 49) (by decide +kernel))) h1 hA, h2⟩
