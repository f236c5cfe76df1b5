/-! the reference's searches: its memory cleared, its queue gone through -/
theorem i2b_n {x : Nat} (h : x < 128) : (nI x).toInt8.toInt32 = nI x := by
  have : ∀ x, x < 128 → (nI x).toInt8.toInt32 = nI x := by decide +kernel
  exact this x h
theorem MM_le {fo qu : Nat → Nat} {Q : qT} {k : Nat} (h : MM fo qu Q) (hQ : QI Q) (hk : k < 40000) : fo k ≤ 99 := by
  by_cases q : inQ Q k
  · obtain ⟨f, hf⟩ := q
    obtain ⟨j, hj⟩ := List.mem_iff_getElem?.mp hf
    have h1 := (h.1 j k f hj).2
    have h2 := (QI_at hQ hj).2
    rw [h1]; split <;> omega
  · rw [h.2 k hk q]; omega
theorem MM_99 {fo qu : Nat → Nat} {Q : qT} {m k f : Nat} (h : MM fo qu Q) (hQ : QI Q) (hj : Q[m]? = some (k, f)) : fo k = 99 ↔ m = 0 := by
  have h1 := (h.1 m k f hj).2
  have h2 := (QI_at hQ hj).2
  rw [h1]
  by_cases q : m = 0
  · rw [if_pos q]; exact ⟨fun _ => q, fun _ => rfl⟩
  · rw [if_neg q]; exact ⟨fun z => by omega, fun z => absurd z q⟩
theorem MM_f {fo qu : Nat → Nat} {Q : qT} {m k f : Nat} (h : MM fo qu Q) (hj : Q[m]? = some (k, f)) (hm : ¬ m = 0) : fo k = f + 1 := by
  rw [(h.1 m k f hj).2, if_neg hm]
/-- the first is there: not empty -/
theorem ex_ne {Q P : qT} {m k f : Nat} (h : Q[m]? = some (k, f)) {i f' : Nat} : ¬ (exL i f' Q P).length = 0 := fun q => by
  have h1 := (List.getElem?_eq_some_iff.mp h).1
  have h2 := exL_len (i := i) (f := f') (Q := Q) (P := P)
  omega
theorem MM_go {fo qu : Nat → Nat} {Q : qT} {F : Nat → Option Nat} {m f j k : Nat} (h : MM fo qu (exL m f Q (oMP F j))) (hQ : QI (exL m f Q (oMP F j))) (h0 : ¬ (exL m f Q (oMP F j)).length = 0) (hq : ¬ inQ (exL m f Q (oMP F j)) k) (ha : aOk j) (hk : F j = some k) (v : Nat) (hv : v = if m = 0 then j + 1 else f + 1) : MM (va_up fo k v) (va_up qu (exL m f Q (oMP F j)).length k) (exL m f Q (oMP F (j + 1))) := by
  rw [oMP_some ha hk, exL_s]
  have h1 := MM_ins (f := if m = 0 then j else f) h hQ h0 hq
  have e : (if m = 0 then j else f) + 1 = v := by rw [hv]; split <;> rfl
  rw [e] at h1
  exact h1
theorem len_go {Q : qT} {F : Nat → Option Nat} {m f j k : Nat} (hq : ¬ inQ (exL m f Q (oMP F j)) k) (ha : aOk j) (hk : F j = some k) : (exL m f Q (oMP F j)).length + 1 = (exL m f Q (oMP F (j + 1))).length := by
  rw [oMP_some ha hk, exL_s, ins_new hq, List.length_append]; rfl
theorem old_go {Q : qT} {F : Nat → Option Nat} {m f j k : Nat} (hq : inQ (exL m f Q (oMP F j)) k) (ha : aOk j) (hk : F j = some k) : exL m f Q (oMP F (j + 1)) = exL m f Q (oMP F j) := by
  rw [oMP_some ha hk, exL_s, ins_old hq]
/-- what was found is cleared -/
def clr (fo qu : Nat → Nat) : Nat → (Nat → Nat)
  | 0 => fo
  | j + 1 => va_up (clr fo qu j) (qu j) 0
theorem clr_le {fo qu : Nat → Nat} {x : Nat} : ∀ j, (fo x = 0 ∨ ∃ i, i < j ∧ qu i = x) → clr fo qu j x = 0
  | 0, h => by
    rcases h with z | ⟨i, hi, -⟩
    · exact z
    · exact absurd hi (Nat.not_lt_zero i)
  | j + 1, h => by
    show va_up (clr fo qu j) (qu j) 0 x = 0
    by_cases q : x = qu j
    · rw [q, up_at]
    · rw [up_ne _ _ q]
      refine clr_le j ?_
      rcases h with z | ⟨i, hi, e⟩
      · exact Or.inl z
      · refine Or.inr ⟨i, ?_, e⟩
        rcases Nat.lt_or_ge i j with w | w
        · exact w
        · exact absurd (show x = qu j by rw [← e, show i = j by omega]) q
theorem clr_0 {fo qu : Nat → Nat} {qe : Nat} (h : CQ fo qu qe) : ∀ k, k < 40000 → clr fo qu qe k = 0 := fun k hk => clr_le qe (h.2.2 k hk)
/-- who has the good first: by the level's tellings -/
def NBf (g : Nat) (Q : qT) (j : Nat) : Prop := ∀ j', j' < j → ∀ n f, Q[j']? = some (n, f) → ¬ gd n g
theorem NBf_0 {B : Nat → Nat → Option Nat} {g s d : Nat} (h : NGQ g (qS B s (bS B s d))) (m : Nat) : NBf g (qS B s m) (bS B s (d + 1)) := fun j' hj n f hq => by
  obtain ⟨n2, f2, h2⟩ := at_lt (Q := qS B s (bS B s d)) (j := j') hj
  have e := qS_same h2 hq
  cases e
  exact h j' n f h2
theorem NBf_s {g : Nat} {Q : qT} {j n f : Nat} (h : NBf g Q j) (hat : Q[j]? = some (n, f)) (hn : ¬ gd n g) : NBf g Q (j + 1) := fun j' hj n' f' hq => by
  by_cases q : j' = j
  · subst q; rw [hat] at hq; cases hq; exact hn
  · exact h j' (by omega) n' f' hq
theorem NBf_end {g : Nat} {Q : qT} {j : Nat} (h : NBf g Q j) (hj : Q.length ≤ j) : NGQ g Q := fun j' n f hq => h j' (Nat.lt_of_lt_of_le (List.getElem?_eq_some_iff.mp hq).1 hj) n f hq
theorem fe_hit {k : Nat} {tk gv pr py : Nat → Nat} {g s d j n f : Nat} (hw : WL tk gv pr py) (hg : g < 4) (hs : s < 40000) (hN : NGQ g (qS (mB k tk gv pr py) s (bS (mB k tk gv pr py) s d))) (hb : NBf g (qS (mB k tk gv pr py) s (bS (mB k tk gv pr py) s (d + 1))) j) (hat : (qS (mB k tk gv pr py) s (bS (mB k tk gv pr py) s (d + 1)))[j]? = some (n, f)) (hgd : gd n g) : fD (mB k tk gv pr py) (mCo k pr g) (mPa k tk g) g s d = some f := by
  have hW := WL_WD k hw
  cases hf : fD (mB k tk gv pr py) (mCo k pr g) (mPa k tk g) g s d with
  | none => exact absurd hgd (lvl_n hW hg hs hN hf j n f hat)
  | some x =>
    obtain ⟨j0, n0, h1, h2, h3, h4⟩ := lvl_y hW hg hs hN hf
    have e : j0 = j := by
      rcases Nat.lt_trichotomy j0 j with z | z | z
      · exact absurd h2 (hb j0 z n0 x h1)
      · exact z
      · exact absurd hgd (h4 j z n f hat)
    subst e
    rw [h1] at hat
    cases hat
    rfl
theorem fe_miss {k : Nat} {tk gv pr py : Nat → Nat} {g s d : Nat} (hw : WL tk gv pr py) (hg : g < 4) (hs : s < 40000) (hN : NGQ g (qS (mB k tk gv pr py) s (bS (mB k tk gv pr py) s d))) (hN2 : NGQ g (qS (mB k tk gv pr py) s (bS (mB k tk gv pr py) s (d + 1)))) : fD (mB k tk gv pr py) (mCo k pr g) (mPa k tk g) g s d = none := by
  cases hf : fD (mB k tk gv pr py) (mCo k pr g) (mPa k tk g) g s d with
  | none => rfl
  | some x =>
    obtain ⟨j0, n0, h1, h2, h3, h4⟩ := lvl_y (WL_WD k hw) hg hs hN hf
    exact absurd h2 (hN2 j0 n0 x h1)
theorem NGQ_0 {B : Nat → Nat → Option Nat} {g s : Nat} (h : ¬ gd s g) : NGQ g (qS B s (bS B s 0)) := fun j n f hq => by
  have hq : [(s, 0)][j]? = some (n, f) := hq
  cases j with
  | zero => simp at hq; rw [← hq.1]; exact h
  | succ j => simp at hq
/-- fewest, and its first act -/
theorem fn_has {B : Nat → Nat → Option Nat} {co pg g s : Nat} (h : gd s g) : fwn B co pg g s = some 0 := if_pos h
theorem fn_no {B : Nat → Nat → Option Nat} {co pg g s : Nat} (h : ¬ gd s g) : fwn B co pg g s = (fwS B co pg g s).map Prod.fst := if_neg h
def f1A (k : Nat) (tk gv pr py : Nat → Nat) (g s : Nat) : Int32 := if gd s g then -1 else fwA (fwM k tk gv pr py g s) 1
theorem f1_has {k : Nat} {tk gv pr py : Nat → Nat} {g s : Nat} (h : gd s g) : f1A k tk gv pr py g s = -1 := if_pos h
theorem f1_no {k : Nat} {tk gv pr py : Nat → Nat} {g s : Nat} (h : ¬ gd s g) : f1A k tk gv pr py g s = fwA (fwM k tk gv pr py g s) 1 := if_neg h
theorem fe_yes {k : Nat} {tk gv pr py : Nat → Nat} {g s : Nat} {x : Nat × Nat} (h : ¬ gd s g) (h2 : fwM k tk gv pr py g s = some x) : nI x.1 = oM (fnM k tk gv pr py g s) ∧ nI x.2 = f1A k tk gv pr py g s := by
  refine ⟨?_, ?_⟩
  · show _ = oM (fwn _ _ _ _ _)
    rw [fn_no h]
    have h2 : fwS (mB k tk gv pr py) (mCo k pr g) (mPa k tk g) g s = some x := h2
    rw [h2]; rfl
  · rw [f1_no h, fwA_1 h2 (by decide)]
theorem fe_none {k : Nat} {tk gv pr py : Nat → Nat} {g s : Nat} (h : ¬ gd s g) (h2 : fwM k tk gv pr py g s = none) : -1 = oM (fnM k tk gv pr py g s) ∧ -1 = f1A k tk gv pr py g s := by
  refine ⟨?_, ?_⟩
  · show _ = oM (fwn _ _ _ _ _)
    rw [fn_no h]
    have h2 : fwS (mB k tk gv pr py) (mCo k pr g) (mPa k tk g) g s = none := h2
    rw [h2]; rfl
  · rw [f1_no h, fwA_n h2]
theorem up_sw {α : Type} (f : Nat → α) (a b' : Nat) (x y z : α) (h : ¬ a = b') : va_up (va_up (va_up f a x) b' y) a z = va_up (va_up f a z) b' y := by
  funext j
  by_cases h1 : j = a
  · subst h1; simp [va_up, h]
  · by_cases h2 : j = b'
    · subst h2; simp [va_up, h1]
    · simp [va_up, h1, h2]
theorem up_same {α : Type} {f : Nat → α} {k : Nat} {x : α} (h : f k = x) : va_up f k x = f := by rw [← h]; exact up_id f k
