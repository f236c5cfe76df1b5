/-! letters: the codes in a long, how many, the page -/
def cd (x i : Nat) : Nat := x / 2 ^ (8 * i) % 256
theorem cd_lt (x i : Nat) : cd x i < 256 := Nat.mod_lt _ (by decide)
theorem sh_amt : ∀ k, k < 8 → ((nI (8 * k)).toInt64 &&& 63) = lN (8 * k) := by decide +kernel
theorem sh_sm : ∀ k, k < 8 → ((lN (8 * k)).toBitVec.smod 64).toNat = 8 * k := by decide +kernel
theorem cd_ushr {x k : Nat} (hx : x < 2 ^ 64) (hk : k < 8) : ((lN x).toUInt64 >>> ((nI (8 * k)).toInt64.toUInt64 &&& Int64.toUInt64 63)).toInt64 &&& lN 255 = lN (cd x k) := by
  rw [wb_shr hx (by omega)]
  exact wb_mask (k := 8) (Nat.lt_of_le_of_lt (Nat.div_le_self _ _) hx) (by decide)
theorem cd_bits {x k : Nat} (hx : x < 2 ^ 64) (hk : k < 8) : (lN x >>> ((nI (8 * k)).toInt64 &&& 63)).toBitVec &&& 255#64 = BitVec.ofNat 64 (cd x k) := by
  rw [sh_amt k hk, Int64.toBitVec_shiftRight]
  have e : (lN (8 * k)).toBitVec.smod 64 = BitVec.ofNat 64 (8 * k) := by
    apply BitVec.eq_of_toNat_eq
    rw [sh_sm k hk, BitVec.toNat_ofNat, Nat.mod_eq_of_lt (by omega)]
  rw [e]
  apply BitVec.eq_of_getLsbD_eq
  intro i hi
  rw [BitVec.getLsbD_and]
  have h255 : (255#64).getLsbD i = decide (i < 8) := by
    have : ∀ i, i < 64 → (255#64).getLsbD i = decide (i < 8) := by decide
    exact this i hi
  have hr : (BitVec.ofNat 64 (cd x k)).getLsbD i = (cd x k).testBit i := by
    rw [BitVec.getLsbD_ofNat]; simp [hi]
  rw [h255, hr]
  unfold cd
  rw [show (256 : Nat) = 2 ^ 8 from rfl, Nat.testBit_mod_two_pow, Nat.testBit_div_two_pow]
  by_cases h8 : i < 8
  · have hs : 8 * k + i < 64 := by omega
    have ht : (BitVec.ofNat 64 (8 * k)).toNat = 8 * k := by rw [BitVec.toNat_ofNat, Nat.mod_eq_of_lt (by omega)]
    simp only [h8, decide_true, Bool.and_true, Bool.true_and]
    rw [BitVec.sshiftRight_eq', ht, BitVec.getLsbD_sshiftRight]
    have h1 : ¬ 64 ≤ i := by omega
    simp only [hs, if_true, h1, decide_false, Bool.not_false, Bool.true_and]
    rw [wb_tb, BitVec.getLsbD_ofNat]
    simp [Nat.add_comm]
    exact fun _ => by omega
  · simp [h8]
theorem cd_shr {x k : Nat} (hx : x < 2 ^ 64) (hk : k < 8) : (lN x >>> ((nI (8 * k)).toInt64 &&& 63)) &&& lN 255 = lN (cd x k) := by
  apply wb_inj
  rw [Int64.toBitVec_and]
  exact cd_bits hx hk
theorem low8 (v : BitVec 64) : ((v.signExtend 32).signExtend 8) = (((v &&& 255#64).signExtend 32).signExtend 8) := by
  apply BitVec.eq_of_getLsbD_eq
  intro i hi
  have h255 : ∀ i, i < 8 → (255#64).getLsbD i = true := by decide
  rw [BitVec.getLsbD_signExtend, BitVec.getLsbD_signExtend, BitVec.getLsbD_signExtend, BitVec.getLsbD_signExtend, BitVec.getLsbD_and, h255 i hi, Bool.and_true]
  simp only [hi, show i < 32 by omega, show i < 64 by omega, decide_true, if_true, Bool.true_and]
theorem cd_byte {x k : Nat} (hx : x < 2 ^ 64) (hk : k < 8) (h : cd x k < 128) : vp_nar .byte (((lN x >>> ((nI (8 * k)).toInt64 &&& 63)).toInt32).toInt8.toInt32) = nI (cd x k) := by
  have h0 : ((lN x >>> ((nI (8 * k)).toInt64 &&& 63)).toInt32).toInt8 = (nI (cd x k)).toInt8 := by
    apply Int8.toBitVec_inj.mp
    rw [Int32.toBitVec_toInt8, Int64.toBitVec_toInt32, low8, cd_bits hx hk]
    have : ∀ c, c < 128 → ((BitVec.ofNat 64 c).signExtend 32).signExtend 8 = (nI c).toInt8.toBitVec := by decide +kernel
    exact this _ h
  rw [h0]
  have : ∀ c, c < 128 → vp_nar .byte ((nI c).toInt8.toInt32) = nI c := by decide +kernel
  exact this _ h
def ltN (x : Nat) : Nat → Option Nat
  | 0 => some 0
  | i + 1 => match ltN x i with
    | none => none
    | some k => if 126 < cd x i ∨ (¬ cd x i = 0 ∧ k < i) then none else some (if cd x i = 0 then k else k + 1)
theorem ltN_le {x : Nat} : ∀ {i k : Nat}, ltN x i = some k → k ≤ i
  | 0, k, h => by cases h; exact Nat.le_refl 0
  | i + 1, k, h => by
    unfold ltN at h
    cases q : ltN x i with
    | none => rw [q] at h; cases h
    | some j =>
      rw [q] at h
      have := ltN_le q
      simp only at h
      split at h
      · cases h
      · cases h; split <;> omega
theorem ltN_no {x i k : Nat} (h : ltN x i = some k) (h2 : 126 < cd x i ∨ (¬ cd x i = 0 ∧ k < i)) : ltN x (i + 1) = none := by
  unfold ltN; rw [h]; simp only; rw [if_pos h2]
theorem ltN_0 {x i k : Nat} (h : ltN x i = some k) (h2 : cd x i = 0) : ltN x (i + 1) = some k := by
  unfold ltN; rw [h]; simp only; rw [if_neg (by omega), if_pos h2]
theorem ltN_1 {x i k : Nat} (h : ltN x i = some k) (h1 : cd x i ≤ 126) (h2 : ¬ cd x i = 0) (h3 : ¬ k < i) : ltN x (i + 1) = some (k + 1) := by
  unfold ltN; rw [h]; simp only; rw [if_neg (by omega), if_neg h2]
theorem ltN_stay {x i : Nat} (h : ltN x i = none) : ∀ j, ltN x (i + j) = none
  | 0 => h
  | j + 1 => by
    have := ltN_stay h j
    rw [← Nat.add_assoc]; unfold ltN; rw [this]
theorem ltN_end {x i : Nat} (h : ltN x i = none) (hi : i ≤ 8) : ltN x 8 = none := by
  have := ltN_stay h (8 - i)
  rwa [show i + (8 - i) = 8 by omega] at this
theorem ltN_cd {x : Nat} : ∀ {i k : Nat}, ltN x i = some k → ∀ j, j < i → cd x j ≤ 126
  | 0, _, _, j, hj => absurd hj (Nat.not_lt_zero j)
  | i + 1, k, h, j, hj => by
    unfold ltN at h
    cases q : ltN x i with
    | none => rw [q] at h; cases h
    | some r =>
      rw [q] at h
      simp only at h
      split at h
      · cases h
      · rename_i hn
        by_cases e : j = i
        · subst e; omega
        · exact ltN_cd q j (by omega)
def lay (pg : Nat → Nat) (pl x k : Nat) : Nat → Nat := fun j => if pl ≤ j ∧ j < pl + k then cd x (j - pl) else pg j
theorem lay_0 (pg : Nat → Nat) (pl x : Nat) : pg = lay pg pl x 0 := by funext j; unfold lay; rw [if_neg (by omega)]
theorem lay_s (pg : Nat → Nat) (pl x k : Nat) : va_up (lay pg pl x k) (pl + k) (cd x k) = lay pg pl x (k + 1) := by
  funext j
  unfold lay va_up
  by_cases h : j = pl + k
  · subst h; rw [if_pos rfl, if_pos (by omega), Nat.add_sub_cancel_left]
  · rw [if_neg h]
    show (if pl ≤ j ∧ j < pl + k then cd x (j - pl) else pg j) = _
    by_cases h2 : pl ≤ j ∧ j < pl + k
    · rw [if_pos h2, if_pos (by omega)]
    · rw [if_neg h2, if_neg (by omega)]
def A_letters (pl x : Nat) : Int32 := match ltN x 8 with
  | none => -102
  | some k => if 32 < pl + k then -104 else nI (pl + k)
def N_letters (pg : Nat → Nat) (pl x : Nat) : Nat × (Nat → Nat) := match ltN x 8 with
  | none => (pl, pg)
  | some k => if 32 < pl + k then (pl, pg) else (pl + k, lay pg pl x k)
def ltI (o : Option Nat) : Int32 := match o with
  | none => -102
  | some k => nI k
theorem ltI_none {o : Option Nat} (h : o = none) : ltI o = -102 := by rw [h]; rfl
theorem ltI_some {o : Option Nat} {k : Nat} (h : o = some k) : ltI o = nI k := by rw [h]; rfl
theorem let_no {pg : Nat → Nat} {pl x : Nat} (h : ltN x 8 = none) : A_letters pl x = -102 ∧ N_letters pg pl x = (pl, pg) := by unfold A_letters N_letters; rw [h]; exact ⟨rfl, rfl⟩
theorem let_full {pg : Nat → Nat} {pl x k : Nat} (h : ltN x 8 = some k) (h2 : 32 < pl + k) : A_letters pl x = -104 ∧ N_letters pg pl x = (pl, pg) := by
  unfold A_letters N_letters; rw [h]; simp only; rw [if_pos h2, if_pos h2]; exact ⟨rfl, rfl⟩
theorem let_ok {pg : Nat → Nat} {pl x k : Nat} (h : ltN x 8 = some k) (h2 : ¬ 32 < pl + k) : A_letters pl x = nI (pl + k) ∧ N_letters pg pl x = (pl + k, lay pg pl x k) := by
  unfold A_letters N_letters; rw [h]; simp only; rw [if_neg h2, if_neg h2]; exact ⟨rfl, rfl⟩
theorem ni_m102 {k : Nat} (h : k < 2 ^ 31) : ¬ nI k = (-102 : Int32) := fun q => by
  have h1 : (nI k).toInt = ((-102 : Int32)).toInt := by rw [q]
  rw [nI_toInt h] at h1
  have h2 : ((-102 : Int32)).toInt = -102 := by decide
  omega
/-! the law, read letter by letter: town, state (0 takes, none yet; 1 takes; 2 gives; 3 price; 4 pay; 5 behind a part), takes, gives, price, pay -/
abbrev rS : Type := Nat × Nat × (Nat → Nat) × (Nat → Nat) × (Nat → Nat) × (Nat → Nat)
/-- the figure of a code, as an int of 32 bits -/
def fg (c : Nat) : Nat := if 48 ≤ c then c - 48 else c + 4294967248
theorem fg_nI : ∀ c, c < 127 → nI c - nI 48 = nI (fg c) := by decide +kernel
theorem fg_4 : ∀ c, c < 127 → (inR (nI 0) (nI (fg c)) (nI 3) ↔ fg c < 4) := by decide +kernel
theorem fg_p : ∀ c, c < 127 → (inR (nI 1) (nI (fg c)) (nI 4) ↔ (1 ≤ fg c ∧ fg c ≤ 4)) := by decide +kernel
theorem fg_5 : ∀ c, c < 127 → (inR (nI 0) (nI (fg c)) (nI 4) ↔ fg c ≤ 4) := by decide +kernel
theorem fg_pos : ∀ c, c < 127 → ¬ nI (fg c) < 0 → fg c < 80 := by decide +kernel
theorem fg_58 : fg 58 = 10 := by decide
def rdS (nt st : Nat) (tk gv pr py : Nat → Nat) (c : Nat) : Option rS :=
  if st < 2 then (if fg c < 4 ∧ ¬ fg c = nt ∧ ¬ tk nt / 2 ^ fg c % 2 = 1 then some (nt, 1, va_up tk nt (tk nt ||| 1 * 2 ^ fg c), gv, pr, py) else if st = 1 ∧ c = 58 then some (nt, 2, tk, gv, pr, py) else none)
  else if st = 2 then (if fg c < 4 ∧ ¬ fg c = nt then some (nt, 3, tk, va_up gv nt (fg c), pr, py) else none)
  else if st = 3 then (if 1 ≤ fg c ∧ fg c ≤ 4 then some (nt, 4, tk, gv, va_up pr nt (fg c), py) else none)
  else if st = 4 then (if fg c ≤ 4 then some (nt, 5, tk, gv, pr, va_up py nt (fg c)) else none)
  else if c = 47 ∧ ¬ nt = 3 then some (nt + 1, 0, tk, gv, pr, py) else none
def rdT (s : rS) (c : Nat) : Option rS := rdS s.1 s.2.1 s.2.2.1 s.2.2.2.1 s.2.2.2.2.1 s.2.2.2.2.2 c
def rdF (s0 : rS) (pg : Nat → Nat) : Nat → Nat × rS
  | 0 => (0, s0)
  | k + 1 => if (rdF s0 pg k).1 = k then (match rdT (rdF s0 pg k).2 (pg k) with
      | none => rdF s0 pg k
      | some s => (k + 1, s)) else rdF s0 pg k
theorem rdF_go {s0 : rS} {pg : Nat → Nat} {k : Nat} {s s' : rS} (h : rdF s0 pg k = (k, s)) (h2 : rdT s (pg k) = some s') : rdF s0 pg (k + 1) = (k + 1, s') := by
  show (if (rdF s0 pg k).1 = k then _ else _) = _
  rw [h, if_pos rfl, h2]
theorem rdF_no {s0 : rS} {pg : Nat → Nat} {k : Nat} {s : rS} (h : rdF s0 pg k = (k, s)) (h2 : rdT s (pg k) = none) : ∀ j, rdF s0 pg (k + 1 + j) = (k, s)
  | 0 => by
    show (if (rdF s0 pg k).1 = k then _ else _) = _
    rw [h, if_pos rfl, h2]
  | j + 1 => by
    show (if (rdF s0 pg (k + 1 + j)).1 = k + 1 + j then _ else _) = _
    rw [if_neg (by rw [rdF_no h h2 j]; show ¬ k = k + 1 + j; omega)]
    exact rdF_no h h2 j
theorem rdF_end {s0 : rS} {pg : Nat → Nat} {k n : Nat} {s : rS} (h : rdF s0 pg k = (k, s)) (h2 : rdT s (pg k) = none) (hk : k < n) : rdF s0 pg n = (k, s) := by
  have := rdF_no h h2 (n - (k + 1))
  rwa [show k + 1 + (n - (k + 1)) = n by omega] at this
def zN : Nat → Nat := fun _ => 0
def r0 : rS := (0, 0, zN, zN, zN, zN)
/-- what stands in memory, m, against what has been read, s -/
def rRel (m s : rS) : Prop := m.1 = s.1 ∧ m.2.1 = s.2.1 ∧ s.1 < 4 ∧ s.2.1 < 6 ∧ (∀ j, j < 4 → m.2.2.1 j = s.2.2.1 j) ∧ (∀ j, (j < s.1 ∨ (j = s.1 ∧ 3 ≤ s.2.1)) → m.2.2.2.1 j = s.2.2.2.1 j) ∧ (∀ j, (j < s.1 ∨ (j = s.1 ∧ 4 ≤ s.2.1)) → m.2.2.2.2.1 j = s.2.2.2.2.1 j) ∧ (∀ j, (j < s.1 ∨ (j = s.1 ∧ 5 ≤ s.2.1)) → m.2.2.2.2.2 j = s.2.2.2.2.2 j)
/-- what has been read is good so far -/
def rInv (s : rS) : Prop := s.1 < 4 ∧ s.2.1 < 6 ∧ (∀ j, j < 4 → s.2.2.1 j < 16) ∧ (∀ j, s.1 < j → j < 4 → s.2.2.1 j = 0) ∧ (s.2.1 = 0 → s.2.2.1 s.1 = 0) ∧ (1 ≤ s.2.1 → ¬ s.2.2.1 s.1 = 0) ∧ (∀ j, (j < s.1 ∨ (j = s.1 ∧ 3 ≤ s.2.1)) → s.2.2.2.1 j < 4) ∧ (∀ j, (j < s.1 ∨ (j = s.1 ∧ 4 ≤ s.2.1)) → 1 ≤ s.2.2.2.2.1 j ∧ s.2.2.2.2.1 j ≤ 4) ∧ (∀ j, (j < s.1 ∨ (j = s.1 ∧ 5 ≤ s.2.1)) → s.2.2.2.2.2 j ≤ 4)
theorem up_if {f : Nat → Nat} {i x j : Nat} : va_up f i x j = if j = i then x else f j := rfl
theorem or_lt16 {a f : Nat} (h : a < 16) (hf : f < 4) : a ||| 1 * 2 ^ f < 16 := Nat.or_lt_two_pow (n := 4) h (by have := pw_le8 hf; omega)
theorem or_ne0 {a f : Nat} : ¬ a ||| 1 * 2 ^ f = 0 := fun h => by
  have h1 : 1 * 2 ^ f ≤ a ||| 1 * 2 ^ f := Nat.right_le_or
  have h2 : 0 < 2 ^ f := Nat.pow_pos (by decide)
  omega
theorem rRel_s {m s : rS} {c : Nat} (h : rRel m s) : (rdT m c = none ∧ rdT s c = none) ∨ ∃ m' s', rdT m c = some m' ∧ rdT s c = some s' ∧ rRel m' s' := by
  obtain ⟨nt, st, tk, gv, pr, py⟩ := m
  obtain ⟨nt', st', tk', gv', pr', py'⟩ := s
  obtain ⟨h1, h2, h3, h4, h5, h6, h7, h8⟩ := h
  simp only at h1 h2 h3 h4 h5 h6 h7 h8
  subst h1
  subst h2
  show (rdS nt st tk gv pr py c = none ∧ rdS nt st tk' gv' pr' py' c = none) ∨ ∃ m' s', rdS nt st tk gv pr py c = some m' ∧ rdS nt st tk' gv' pr' py' c = some s' ∧ rRel m' s'
  unfold rdS
  rw [h5 nt h3]
  split
  · split
    · refine Or.inr ⟨_, _, rfl, rfl, rfl, rfl, h3, Nat.le_of_ble_eq_true rfl, ?_, ?_, ?_, ?_⟩
      · intro j hj; show va_up tk nt _ j = va_up tk' nt _ j; rw [up_if, up_if, h5 j hj]
      · intro j hj; exact h6 j (by simp only at hj; omega)
      · intro j hj; exact h7 j (by simp only at hj; omega)
      · intro j hj; exact h8 j (by simp only at hj; omega)
    · split
      · refine Or.inr ⟨_, _, rfl, rfl, rfl, rfl, h3, Nat.le_of_ble_eq_true rfl, h5, ?_, ?_, ?_⟩
        · intro j hj; exact h6 j (by simp only at hj; omega)
        · intro j hj; exact h7 j (by simp only at hj; omega)
        · intro j hj; exact h8 j (by simp only at hj; omega)
      · exact Or.inl ⟨rfl, rfl⟩
  · split
    · split
      · refine Or.inr ⟨_, _, rfl, rfl, rfl, rfl, h3, Nat.le_of_ble_eq_true rfl, h5, ?_, ?_, ?_⟩
        · intro j hj; show va_up gv nt _ j = va_up gv' nt _ j; rw [up_if, up_if]; split
          · rfl
          · exact h6 j (by simp only at hj; omega)
        · intro j hj; exact h7 j (by simp only at hj; omega)
        · intro j hj; exact h8 j (by simp only at hj; omega)
      · exact Or.inl ⟨rfl, rfl⟩
    · split
      · split
        · refine Or.inr ⟨_, _, rfl, rfl, rfl, rfl, h3, Nat.le_of_ble_eq_true rfl, h5, ?_, ?_, ?_⟩
          · intro j hj; exact h6 j (by simp only at hj; omega)
          · intro j hj; show va_up pr nt _ j = va_up pr' nt _ j; rw [up_if, up_if]; split
            · rfl
            · exact h7 j (by simp only at hj; omega)
          · intro j hj; exact h8 j (by simp only at hj; omega)
        · exact Or.inl ⟨rfl, rfl⟩
      · split
        · split
          · refine Or.inr ⟨_, _, rfl, rfl, rfl, rfl, h3, Nat.le_of_ble_eq_true rfl, h5, ?_, ?_, ?_⟩
            · intro j hj; exact h6 j (by simp only at hj; omega)
            · intro j hj; exact h7 j (by simp only at hj; omega)
            · intro j hj; show va_up py nt _ j = va_up py' nt _ j; rw [up_if, up_if]; split
              · rfl
              · exact h8 j (by simp only at hj; omega)
          · exact Or.inl ⟨rfl, rfl⟩
        · split
          · refine Or.inr ⟨_, _, rfl, rfl, rfl, rfl, by show nt + 1 < 4; omega, Nat.le_of_ble_eq_true rfl, h5, ?_, ?_, ?_⟩
            · intro j hj; exact h6 j (by simp only at hj; omega)
            · intro j hj; exact h7 j (by simp only at hj; omega)
            · intro j hj; exact h8 j (by simp only at hj; omega)
          · exact Or.inl ⟨rfl, rfl⟩
theorem rInv_s {s s' : rS} {c : Nat} (h : rInv s) (h2 : rdT s c = some s') : rInv s' := by
  obtain ⟨nt, st, tk, gv, pr, py⟩ := s
  obtain ⟨h3, h4, i1, i2, i3, i4, i5, i6, i7⟩ := h
  simp only at h3 h4 i1 i2 i3 i4 i5 i6 i7
  have h2 : rdS nt st tk gv pr py c = some s' := h2
  unfold rdS at h2
  split at h2
  · split at h2
    · rename_i q
      cases h2
      refine ⟨h3, Nat.le_of_ble_eq_true rfl, ?_, ?_, fun z => by simp at z, ?_, ?_, ?_, ?_⟩
      · intro j hj; show va_up tk nt _ j < 16; rw [up_if]; split
        · exact or_lt16 (i1 nt h3) q.1
        · exact i1 j hj
      · intro j hj h4; show va_up tk nt _ j = 0; simp only at hj; rw [up_if, if_neg (by omega)]; exact i2 j hj h4
      · intro _; show ¬ va_up tk nt _ nt = 0; rw [up_if, if_pos rfl]; exact or_ne0
      · intro j hj; exact i5 j (by simp only at hj; omega)
      · intro j hj; exact i6 j (by simp only at hj; omega)
      · intro j hj; exact i7 j (by simp only at hj; omega)
    · split at h2
      · rename_i q
        cases h2
        refine ⟨h3, Nat.le_of_ble_eq_true rfl, i1, i2, fun z => by simp at z, fun _ => i4 (by omega), ?_, ?_, ?_⟩
        · intro j hj; exact i5 j (by simp only at hj; omega)
        · intro j hj; exact i6 j (by simp only at hj; omega)
        · intro j hj; exact i7 j (by simp only at hj; omega)
      · cases h2
  · split at h2
    · split at h2
      · rename_i q
        cases h2
        refine ⟨h3, Nat.le_of_ble_eq_true rfl, i1, i2, fun z => by simp at z, fun _ => i4 (by omega), ?_, ?_, ?_⟩
        · intro j hj; show va_up gv nt _ j < 4; rw [up_if]; split
          · exact q.1
          · exact i5 j (by simp only at hj; omega)
        · intro j hj; exact i6 j (by simp only at hj; omega)
        · intro j hj; exact i7 j (by simp only at hj; omega)
      · cases h2
    · split at h2
      · split at h2
        · rename_i q
          cases h2
          refine ⟨h3, Nat.le_of_ble_eq_true rfl, i1, i2, fun z => by simp at z, fun _ => i4 (by omega), ?_, ?_, ?_⟩
          · intro j hj; exact i5 j (by simp only at hj; omega)
          · intro j hj; show 1 ≤ va_up pr nt _ j ∧ va_up pr nt _ j ≤ 4; rw [up_if]; split
            · exact q
            · exact i6 j (by simp only at hj; omega)
          · intro j hj; exact i7 j (by simp only at hj; omega)
        · cases h2
      · split at h2
        · split at h2
          · rename_i q
            cases h2
            refine ⟨h3, Nat.le_of_ble_eq_true rfl, i1, i2, fun z => by simp at z, fun _ => i4 (by omega), ?_, ?_, ?_⟩
            · intro j hj; exact i5 j (by simp only at hj; omega)
            · intro j hj; exact i6 j (by simp only at hj; omega)
            · intro j hj; show va_up py nt _ j ≤ 4; rw [up_if]; split
              · exact q
              · exact i7 j (by simp only at hj; omega)
          · cases h2
        · split at h2
          · rename_i q
            cases h2
            refine ⟨by show nt + 1 < 4; omega, Nat.le_of_ble_eq_true rfl, i1, ?_, ?_, fun z => by simp at z, ?_, ?_, ?_⟩
            · intro j hj; exact i2 j (by simp only at hj; omega)
            · intro _; exact i2 (nt + 1) (by omega) (by omega)
            · intro j hj; exact i5 j (by simp only at hj; omega)
            · intro j hj; exact i6 j (by simp only at hj; omega)
            · intro j hj; exact i7 j (by simp only at hj; omega)
          · cases h2
theorem rdF_rel {m0 : rS} {pg : Nat → Nat} (h : rRel m0 r0) : ∀ k, (rdF m0 pg k).1 = (rdF r0 pg k).1 ∧ rRel (rdF m0 pg k).2 (rdF r0 pg k).2
  | 0 => ⟨rfl, h⟩
  | k + 1 => by
    obtain ⟨h1, h2⟩ := rdF_rel h k
    show (if (rdF m0 pg k).1 = k then _ else _ : Nat × rS).1 = (if (rdF r0 pg k).1 = k then _ else _ : Nat × rS).1 ∧ rRel (if (rdF m0 pg k).1 = k then _ else _ : Nat × rS).2 (if (rdF r0 pg k).1 = k then _ else _ : Nat × rS).2
    rw [h1]
    by_cases q : (rdF r0 pg k).1 = k
    · rw [if_pos q, if_pos q]
      rcases rRel_s (c := pg k) h2 with ⟨e1, e2⟩ | ⟨m', s', e1, e2, e3⟩
      · rw [e1, e2]; exact ⟨h1, h2⟩
      · rw [e1, e2]; exact ⟨rfl, e3⟩
    · rw [if_neg q, if_neg q]; exact ⟨h1, h2⟩
theorem rInv_0 : rInv r0 := ⟨by decide, by decide, fun _ _ => (show (0 : Nat) < 16 by decide), fun _ _ _ => rfl, fun _ => rfl, fun z => absurd z (by show ¬ 1 ≤ 0; decide), fun j hj => absurd hj (by show ¬ (j < 0 ∨ (j = 0 ∧ 3 ≤ 0)); omega), fun j hj => absurd hj (by show ¬ (j < 0 ∨ (j = 0 ∧ 4 ≤ 0)); omega), fun j hj => absurd hj (by show ¬ (j < 0 ∨ (j = 0 ∧ 5 ≤ 0)); omega)⟩
theorem rdF_inv (pg : Nat → Nat) : ∀ k, rInv (rdF r0 pg k).2
  | 0 => rInv_0
  | k + 1 => by
    have h2 := rdF_inv pg k
    show rInv (if (rdF r0 pg k).1 = k then _ else _ : Nat × rS).2
    by_cases q : (rdF r0 pg k).1 = k
    · rw [if_pos q]
      cases e : rdT (rdF r0 pg k).2 (pg k) with
      | none => exact h2
      | some s => exact rInv_s h2 e
    · rw [if_neg q]; exact h2
theorem rdF_le (s0 : rS) (pg : Nat → Nat) : ∀ k, (rdF s0 pg k).1 ≤ k
  | 0 => Nat.le_refl 0
  | k + 1 => by
    have h := rdF_le s0 pg k
    show (if (rdF s0 pg k).1 = k then _ else _ : Nat × rS).1 ≤ k + 1
    by_cases q : (rdF s0 pg k).1 = k
    · rw [if_pos q]
      cases rdT (rdF s0 pg k).2 (pg k) with
      | none => show (rdF s0 pg k).1 ≤ k + 1; omega
      | some s => exact Nat.le_refl _
    · rw [if_neg q]; omega
/-- a start in memory: takes empty, all else as it was -/
theorem rRel_0 {tk gv pr py : Nat → Nat} (h : ∀ j, j < 4 → tk j = 0) : rRel (0, 0, tk, gv, pr, py) r0 := ⟨rfl, rfl, by decide, by decide, fun j hj => h j hj, fun j hj => absurd hj (by show ¬ (j < 0 ∨ (j = 0 ∧ 3 ≤ 0)); omega), fun j hj => absurd hj (by show ¬ (j < 0 ∨ (j = 0 ∧ 4 ≤ 0)); omega), fun j hj => absurd hj (by show ¬ (j < 0 ∨ (j = 0 ∧ 5 ≤ 0)); omega)⟩
/-- the law that the page holds -/
abbrev rdR (pg : Nat → Nat) (pl : Nat) : rS := (rdF r0 pg pl).2
abbrev isWh (pg : Nat → Nat) (pl : Nat) : Prop := (rdF r0 pg pl).1 = pl ∧ (rdR pg pl).1 = 3 ∧ (rdR pg pl).2.1 = 5
theorem aI_cong {cA : ClassId} {n : Nat} {g g' : Nat → Nat} (h : ∀ j, j < n → g j = g' j) : vp_cell cA (n, .inl (fun j => nI (g j))) = vp_cell cA (n, .inl (fun j => nI (g' j))) := by
  show arrV cA n (fun j => .int (nI (g j))) = arrV cA n (fun j => .int (nI (g' j)))
  unfold arrV
  have e : (Array.ofFn fun i : Fin n => Value.int (nI (g i))) = Array.ofFn fun i : Fin n => Value.int (nI (g' i)) := by
    congr 1
    funext i
    rw [h i i.isLt]
  first | rw [e] | (congr 1) | simp [e]
section ROWS4
variable {p : Program} {l : Launch} {e : Env} {R : Room} {s : State} {m : MethodId} {args : Array Value} {below : List Frame} {meth : Method} {c : Code} {cells slots : Nat} {Q : State → Prop} {D : va_G} {A : Nat → Prop} {nL : Nat} {cc : ByteArray} {Ts : List Cond} {own : String} {G : gT}
variable {pc pc' : Nat} {lv lv' : List (Nat × Value)} {st : List Value} {ws ws' : va_W}
theorem aI_set {H : Heap} {n : Nat} {g g' : Nat → Nat} (q0 : Nat) {a : Nat} (he : ws[q0]? = some (a, aI G n g)) (hg : ∀ j, j < n → g j = g' j) (hP : va_P D vwCl ws H) : va_P D vwCl (ws.set q0 (a, aI G n g')) H := by
  intro k q hq
  rw [List.getElem?_set] at hq
  split at hq
  · split at hq
    · cases hq
      have h := hP q0 _ he
      show H[a]? = some (vp_cell (gI G) (n, .inl (fun j => nI (g' j))))
      rw [← aI_cong hg]
      exact h
    · cases hq
  · exact hP k q hq
theorem aI_setD {A : Nat → Prop} {n : Nat} {g g' : Nat → Nat} (q0 : Nat) {a : Nat} (he : ws[q0]? = some (a, aI G n g)) (hD : va_D A ws) : va_D A (ws.set q0 (a, aI G n g')) := by
  have key : ∀ (k : Nat) (q : Nat × va_E), (ws.set q0 (a, aI G n g'))[k]? = some q → ∃ q', ws[k]? = some q' ∧ q'.1 = q.1 := by
    intro k q hq
    rw [List.getElem?_set] at hq
    split at hq
    · rename_i hk
      split at hq
      · cases hq; subst hk; exact ⟨_, he, rfl⟩
      · cases hq
    · exact ⟨q, hq, rfl⟩
  refine ⟨fun i j x y hx hy hxy => ?_, fun k q hq => ?_⟩
  · obtain ⟨x', hx', ex⟩ := key i x hx
    obtain ⟨y', hy', ey⟩ := key j y hy
    exact hD.1 i j x' y' hx' hy' (by rw [ex, ey, hxy])
  · obtain ⟨q', hq', eq⟩ := key k q hq
    rw [← eq]
    exact hD.2 k q' hq'
theorem v_aI {n : Nat} {g g' : Nat → Nat} (q0 : Nat) {a : Nat} (he : ws[q0]? = some (a, aI G n g)) (hg : ∀ j, j < n → g j = g' j) (hw : ws.set q0 (a, aI G n g') = ws') (k : V p l e R s m args below meth c cells slots Q D A nL pc lv st ws') : V p l e R s m args below meth c cells slots Q D A nL pc lv st ws := by
  subst hw
  exact fun H locs ls hP hD hS hl => k H locs ls (aI_set q0 he hg hP) (aI_setD q0 he hD) hS hl
end ROWS4
def sumT (tk : Nat → Nat) : Nat → Nat
  | 0 => 0
  | k + 1 => sumT tk k + oneN (tk k) 4
theorem sumT_le (tk : Nat → Nat) : ∀ k, sumT tk k ≤ 4 * k
  | 0 => Nat.le_refl 0
  | k + 1 => by
    have h := sumT_le tk k
    have h2 := oneN_le (tk k) 4
    unfold sumT; omega
def A_fault (pg : Nat → Nat) (pl : Nat) : Int32 := nI (rdF r0 pg pl).1
def A_law (pg : Nat → Nat) (pl : Nat) : Int32 := if isWh pg pl then nI (sumT (rdR pg pl).2.2.1 4) else -103
def dueOf (st : Nat) : Nat := if st < 2 then 0 else st - 1
theorem dueOf_0 {st : Nat} (h : dueOf st = 0) : st < 2 := by unfold dueOf at h; split at h; assumption; omega
theorem dueOf_k {st : Nat} {k : Nat} (h : dueOf st = k + 1) : st = k + 2 := by unfold dueOf at h; split at h <;> omega
theorem dueOf_le {st : Nat} (h : st < 6) : dueOf st ≤ 4 := by unfold dueOf; split <;> omega
section RDS
variable {nt st c : Nat} {tk gv pr py : Nat → Nat}
theorem rdS_a (h : st < 2) (h1 : fg c < 4) (h2 : ¬ fg c = nt) (h3 : ¬ tk nt / 2 ^ fg c % 2 = 1) : rdS nt st tk gv pr py c = some (nt, 1, va_up tk nt (tk nt ||| 1 * 2 ^ fg c), gv, pr, py) := by unfold rdS; rw [if_pos h, if_pos ⟨h1, h2, h3⟩]
theorem rdS_b (h : st = 1) (h1 : c = 58) : rdS nt st tk gv pr py c = some (nt, 2, tk, gv, pr, py) := by
  unfold rdS
  have h2 := fg_58
  rw [if_pos (show st < 2 by omega), if_neg (fun q => by rw [h1] at q; omega), if_pos ⟨h, h1⟩]
theorem rdS_c (h : st < 2) (h1 : ¬ (fg c < 4 ∧ ¬ fg c = nt ∧ ¬ tk nt / 2 ^ fg c % 2 = 1)) (h2 : ¬ (st = 1 ∧ c = 58)) : rdS nt st tk gv pr py c = none := by unfold rdS; rw [if_pos h, if_neg h1, if_neg h2]
theorem rdS_d (h : st = 2) (h1 : fg c < 4) (h2 : ¬ fg c = nt) : rdS nt st tk gv pr py c = some (nt, 3, tk, va_up gv nt (fg c), pr, py) := by unfold rdS; rw [if_neg (by omega), if_pos h, if_pos ⟨h1, h2⟩]
theorem rdS_e (h : st = 2) (h1 : ¬ (fg c < 4 ∧ ¬ fg c = nt)) : rdS nt st tk gv pr py c = none := by unfold rdS; rw [if_neg (by omega), if_pos h, if_neg h1]
theorem rdS_f (h : st = 3) (h1 : 1 ≤ fg c ∧ fg c ≤ 4) : rdS nt st tk gv pr py c = some (nt, 4, tk, gv, va_up pr nt (fg c), py) := by unfold rdS; rw [if_neg (by omega), if_neg (by omega), if_pos h, if_pos h1]
theorem rdS_g (h : st = 3) (h1 : ¬ (1 ≤ fg c ∧ fg c ≤ 4)) : rdS nt st tk gv pr py c = none := by unfold rdS; rw [if_neg (by omega), if_neg (by omega), if_pos h, if_neg h1]
theorem rdS_h (h : st = 4) (h1 : fg c ≤ 4) : rdS nt st tk gv pr py c = some (nt, 5, tk, gv, pr, va_up py nt (fg c)) := by unfold rdS; rw [if_neg (by omega), if_neg (by omega), if_neg (by omega), if_pos h, if_pos h1]
theorem rdS_i (h : st = 4) (h1 : ¬ fg c ≤ 4) : rdS nt st tk gv pr py c = none := by unfold rdS; rw [if_neg (by omega), if_neg (by omega), if_neg (by omega), if_pos h, if_neg h1]
theorem rdS_j (h : st = 5) (h1 : c = 47) (h2 : ¬ nt = 3) : rdS nt st tk gv pr py c = some (nt + 1, 0, tk, gv, pr, py) := by unfold rdS; rw [if_neg (by omega), if_neg (by omega), if_neg (by omega), if_neg (by omega), if_pos ⟨h1, h2⟩]
theorem rdS_k (h : st = 5) (h1 : ¬ (c = 47 ∧ ¬ nt = 3)) : rdS nt st tk gv pr py c = none := by unfold rdS; rw [if_neg (by omega), if_neg (by omega), if_neg (by omega), if_neg (by omega), if_neg h1]
end RDS
def rdI (o : Option rS) : Int32 := match o with
  | none => -1
  | some s => nI s.2.1
theorem rdI_s {o : Option rS} {s : rS} (h : o = some s) : rdI o = nI s.2.1 := by rw [h]; rfl
theorem rdI_n {o : Option rS} (h : o = none) : rdI o = -1 := by rw [h]; rfl
abbrev rdB (nt st : Nat) (tk gv pr py : Nat → Nat) (c : Nat) : Prop := (rdS nt st tk gv pr py c).isSome = true
def rdG (nt st : Nat) (tk gv pr py : Nat → Nat) (c : Nat) : rS := (rdS nt st tk gv pr py c).getD (nt, st, tk, gv, pr, py)
theorem rd_y {nt st c : Nat} {tk gv pr py : Nat → Nat} {s : rS} (h : rdS nt st tk gv pr py c = some s) : rdB nt st tk gv pr py c ∧ s = rdG nt st tk gv pr py c := by unfold rdB rdG; rw [h]; exact ⟨rfl, rfl⟩
theorem rd_n {nt st c : Nat} {tk gv pr py : Nat → Nat} (h : rdS nt st tk gv pr py c = none) : ¬ rdB nt st tk gv pr py c ∧ (nt, st, tk, gv, pr, py) = rdG nt st tk gv pr py c := by unfold rdB rdG; rw [h]; exact ⟨by simp, rfl⟩
theorem rdB_y {nt st c : Nat} {tk gv pr py : Nat → Nat} (h : rdB nt st tk gv pr py c) : rdS nt st tk gv pr py c = some (rdG nt st tk gv pr py c) := by
  unfold rdB at h
  unfold rdG
  cases q : rdS nt st tk gv pr py c with
  | none => rw [q] at h; cases h
  | some s => rfl
theorem rdB_n {nt st c : Nat} {tk gv pr py : Nat → Nat} (h : ¬ rdB nt st tk gv pr py c) : rdS nt st tk gv pr py c = none := by
  unfold rdB at h
  cases q : rdS nt st tk gv pr py c with
  | none => rfl
  | some s => rw [q] at h; exact absurd rfl h
theorem rdB_g {nt st c : Nat} {tk gv pr py : Nat → Nat} (h : ¬ rdB nt st tk gv pr py c) : rdG nt st tk gv pr py c = (nt, st, tk, gv, pr, py) := by unfold rdG; rw [rdB_n h]; rfl
/-- what a run from memory tells of its place -/
theorem rd_facts {m0 : rS} {pg : Nat → Nat} {k nt st : Nat} {tk gv pr py : Nat → Nat} (h0 : rRel m0 r0) (h : rdF m0 pg k = (k, (nt, st, tk, gv, pr, py))) : nt < 4 ∧ st < 6 ∧ (∀ j, j < 4 → tk j < 16) ∧ (st = 0 → tk nt = 0) ∧ (1 ≤ st → ¬ tk nt = 0) := by
  obtain ⟨h1, h2⟩ := rdF_rel (pg := pg) h0 k
  have h3 := rdF_inv pg k
  rw [h] at h1 h2
  obtain ⟨a1, a2, a3, a4, a5, -⟩ := h2
  obtain ⟨b1, b2, b3, b4, b5, b6, -⟩ := h3
  simp only at a1 a2 a5
  refine ⟨by omega, by omega, fun j hj => by rw [a5 j hj]; exact b3 j hj, fun q => ?_, fun q => ?_⟩
  · rw [a5 nt (by omega), a1]; exact b5 (by omega)
  · rw [a5 nt (by omega), a1]; exact b6 (by omega)
theorem rd_end {m0 nw : rS} {pg : Nat → Nat} {k pl : Nat} (h0 : rRel m0 r0) (h : rdF m0 pg pl = (k, nw)) : k = (rdF r0 pg pl).1 ∧ rRel nw (rdR pg pl) := by
  obtain ⟨h1, h2⟩ := rdF_rel (pg := pg) h0 pl
  rw [h] at h1 h2
  exact ⟨h1, h2⟩
theorem cpy_c {v : Nat} {f : Nat → Nat} {n : Nat} : ∀ j, j < n → cpy (fun _ => v) f n j = v := fun j hj => by unfold cpy; rw [if_pos hj]
/-- a whole law: what memory holds is what has been read -/
theorem wh_eq {nw s : rS} (h : rRel nw s) (h1 : s.1 = 3) (h2 : s.2.1 = 5) : (∀ j, j < 4 → nw.2.2.1 j = s.2.2.1 j) ∧ (∀ j, j < 4 → nw.2.2.2.1 j = s.2.2.2.1 j) ∧ (∀ j, j < 4 → nw.2.2.2.2.1 j = s.2.2.2.2.1 j) ∧ (∀ j, j < 4 → nw.2.2.2.2.2 j = s.2.2.2.2.2 j) := by
  obtain ⟨-, -, -, -, a, b, c, d⟩ := h
  exact ⟨a, fun j hj => b j (by omega), fun j hj => c j (by omega), fun j hj => d j (by omega)⟩
theorem wh_WL {pg : Nat → Nat} {pl : Nat} (h : isWh pg pl) : WL (rdR pg pl).2.2.1 (rdR pg pl).2.2.2.1 (rdR pg pl).2.2.2.2.1 (rdR pg pl).2.2.2.2.2 := fun t ht => by
  obtain ⟨-, h1, h2⟩ := h
  have h1 : (rdF r0 pg pl).2.1 = 3 := h1
  have h2 : (rdF r0 pg pl).2.2.1 = 5 := h2
  obtain ⟨-, -, b3, -, -, -, b7, b8, b9⟩ := rdF_inv pg pl
  have e1 := b8 t (by omega)
  exact ⟨b3 t ht, b7 t (by omega), e1.1, e1.2, b9 t (by omega)⟩
theorem wh_class {nw s : rS} (h : rRel nw s) : (nw.1 = 3 ∧ dueOf nw.2.1 = 4) ↔ (s.1 = 3 ∧ s.2.1 = 5) := by
  obtain ⟨h1, h2, -, -, -⟩ := h
  rw [h1, h2]
  refine ⟨fun q => ⟨q.1, dueOf_k (k := 3) q.2⟩, fun q => ⟨q.1, ?_⟩⟩
  rw [q.2]; rfl
/-- the reference's ints after a law -/
def lawFi (fi : Nat → Int32) (lr : Nat) : Nat → Int32 := va_up (va_up (va_up (va_up (va_up (va_up (va_up fi 0 (nI 1)) 1 (nI (lr + 1))) 6 (nI 0)) 9 (nI 0)) 11 (-1)) 13 (nI 0)) 15 (nI 0)
theorem rl_end {m0 : rS} {pg : Nat → Nat} {pl kk g9 : Nat} {mem : rS} (h0 : rRel m0 r0) (hk : kk ≤ pl) (hinv : (g9 = 1 ∧ rdF m0 pg kk = (kk, mem)) ∨ (g9 = 0 ∧ kk < pl ∧ ∃ s, rdF m0 pg pl = (kk, s))) (hx : pl ≤ kk ∨ g9 = 0) : kk = (rdF r0 pg pl).1 ∧ (kk = pl → rRel mem (rdR pg pl)) := by
  rcases hinv with ⟨h1, h2⟩ | ⟨h1, h2, s, hs⟩
  · have e : kk = pl := by omega
    subst e
    obtain ⟨a, b⟩ := rd_end h0 h2
    exact ⟨a, fun _ => b⟩
  · obtain ⟨a, b⟩ := rd_end h0 hs
    exact ⟨a, fun q => by omega⟩
theorem rl_wh {pg : Nat → Nat} {pl kk nt st : Nat} {tk gv pr py : Nat → Nat} (h : kk = (rdF r0 pg pl).1 ∧ (kk = pl → rRel (nt, st, tk, gv, pr, py) (rdR pg pl))) : (isWh pg pl ↔ kk = pl ∧ st = 5 ∧ nt = 3) ∧ (kk = pl → st < 6 ∧ nt < 4) := by
  obtain ⟨h1, h2⟩ := h
  refine ⟨⟨fun q => ?_, fun q => ?_⟩, fun q => ?_⟩
  · have e : kk = pl := h1.trans q.1
    obtain ⟨a, b, -⟩ := h2 e
    exact ⟨e, b.trans q.2.2, a.trans q.2.1⟩
  · obtain ⟨a, b, -⟩ := h2 q.1
    exact ⟨h1.symm.trans q.1, a.symm.trans q.2.2, b.symm.trans q.2.1⟩
  · obtain ⟨a, b, c, d, -⟩ := h2 q
    simp only at a b
    omega
theorem cpy_eq {f g h : Nat → Nat} {k : Nat} (e : ∀ j, j < k → f j = h j) : ∀ j, j < k → cpy f g k j = h j := fun j hj => by
  unfold cpy; rw [if_pos hj]; exact e j hj
theorem fits_bI (P : Prop) [Decidable P] : fits .boolean (.int (bI P)) = true := by
  by_cases h : P
  · rw [bI_t h]; rfl
  · rw [bI_f h]; rfl
