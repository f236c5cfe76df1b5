/-! the searches compared: what one comes to by an act, goods, levels under two prices -/
theorem fwR_lt {B : Nat → Nat → Option Nat} {co pg g s : Nat} (hB : GB B) (hs : s < 40000) : ∀ {u d : Nat} {x : Nat × Nat}, fwR B co pg g s u d = some x → x.2 < 24 ∧ d < x.1 ∧ x.1 ≤ d + u
  | 0, _, _, h => by cases h
  | u + 1, d, x, h => by
    by_cases q : bS B s d < bS B s (d + 1)
    · cases e : fD B co pg g s d with
      | some f =>
        rw [fwR_y q e] at h
        cases h
        exact ⟨fl_lt (qS_QI hB hs _) e, Nat.lt_succ_self _, by show d + 1 ≤ d + (u + 1); omega⟩
      | none =>
        rw [fwR_n q e] at h
        obtain ⟨a, b, c⟩ := fwR_lt hB hs h
        exact ⟨a, by omega, by omega⟩
    · rw [fwR_z q] at h; cases h
theorem cbP_le {co oc pg g n c : Nat} (h : co ≤ oc) (h2 : cbP oc pg g n c) : cbP co pg g n c := ⟨h2.1, h2.2.1, Nat.le_trans h h2.2.2⟩
theorem bc_all {co pg g n : Nat} : ∀ {k}, (∀ c, c < k → ¬ cbP co pg g n c) → bc co pg g n k = none
  | 0, _ => rfl
  | k + 1, h => bc_n (bc_all (fun c hc => h c (Nat.lt_succ_of_lt hc))) (h k (Nat.lt_succ_self k))
theorem bc_mono {co oc pg g n : Nat} (h : co ≤ oc) (h2 : bc co pg g n 4 = none) : bc oc pg g n 4 = none := bc_all (fun c hc q => bc_none h2 hc (cbP_le h q))
theorem fl_none {co pg g ls : Nat} {Q : qT} : ∀ {k}, fl co pg g Q ls k = none → ∀ j, j < k → ∀ n f, Q[ls + j]? = some (n, f) → bc co pg g n 4 = none
  | 0, _, j, hj, _, _, _ => absurd hj (Nat.not_lt_zero j)
  | k + 1, h, j, hj, n, f, hq => by
    cases e : fl co pg g Q ls k with
    | some x => rw [fl_stay e (Nat.le_succ k)] at h; cases h
    | none =>
      by_cases z : j = k
      · subst z
        cases e2 : bc co pg g n 4 with
        | none => rfl
        | some c => rw [fl_y e hq e2] at h; cases h
      · exact fl_none e j (by omega) n f hq
theorem fl_mk {co pg g ls : Nat} {Q : qT} : ∀ {k}, ls + k ≤ Q.length → (∀ j, j < k → ∀ n f, Q[ls + j]? = some (n, f) → bc co pg g n 4 = none) → fl co pg g Q ls k = none
  | 0, _, _ => rfl
  | k + 1, hl, h => by
    obtain ⟨n, f, hq⟩ := at_lt (show ls + k < Q.length by omega)
    exact fl_n (fl_mk (by omega) (fun j hj => h j (by omega))) hq (h k (Nat.lt_succ_self k) n f hq)
theorem fD_none {B : Nat → Nat → Option Nat} {co pg g s d : Nat} (h : fD B co pg g s d = none) : ∀ j, bS B s d ≤ j → ∀ n f, (qS B s (bS B s d))[j]? = some (n, f) → bc co pg g n 4 = none := fun j hj n f hq => by
  have hl := (List.getElem?_eq_some_iff.mp hq).1
  have hl : j < bS B s (d + 1) := hl
  have e : bS B s d + (j - bS B s d) = j := by omega
  exact fl_none h (j - bS B s d) (by omega) n f (by rw [e]; exact hq)
theorem fD_mono {B : Nat → Nat → Option Nat} {co oc pg g s d : Nat} (hle : co ≤ oc) (h : fD B co pg g s d = none) : fD B oc pg g s d = none := by
  have h1 := bS_le (B := B) (s := s) d
  refine fl_mk (by show bS B s d + (bS B s (d + 1) - bS B s d) ≤ bS B s (d + 1); omega) (fun j hj n f hq => bc_mono hle (fD_none h _ (by omega) n f hq))
/-- nobody of the levels before d can buy -/
def NB (B : Nat → Nat → Option Nat) (lo pg g s d : Nat) : Prop := ∀ j, j < bS B s d → ∀ n f m, (qS B s m)[j]? = some (n, f) → bc lo pg g n 4 = none
theorem NB_0 {B : Nat → Nat → Option Nat} {lo pg g s : Nat} : NB B lo pg g s 0 := fun j hj => absurd hj (Nat.not_lt_zero j)
theorem qS_same {B : Nat → Nat → Option Nat} {s m m' j : Nat} {x y : Nat × Nat} (h : (qS B s m)[j]? = some x) (h2 : (qS B s m')[j]? = some y) : x = y := by
  have a := qS_at (m' := m + m') (by omega) h
  have b := qS_at (m' := m + m') (by omega) h2
  rw [a] at b
  exact Option.some.inj b
theorem NB_s {B : Nat → Nat → Option Nat} {lo pg g s d : Nat} (h : NB B lo pg g s d) (h2 : fD B lo pg g s d = none) : NB B lo pg g s (d + 1) := fun j hj n f m hq => by
  rcases Nat.lt_or_ge j (bS B s d) with z | z
  · exact h j z n f m hq
  · obtain ⟨n', f', hq'⟩ := at_lt (Q := qS B s (bS B s d)) hj
    have e := qS_same hq hq'
    rw [e] at hq
    have e1 : n = n' := congrArg Prod.fst e
    rw [e1]
    exact fD_none h2 j z n' f' hq'
section TWO
variable {B B' : Nat → Nat → Option Nat} {lo pg g s : Nat}
/-- two ways that differ only in what is bought -/
def AG (B B' : Nat → Nat → Option Nat) (lo pg g : Nat) : Prop := ∀ n, bc lo pg g n 4 = none → ∀ a, aOk a → B n a = B' n a
theorem opP_ag {f f' : Nat → Option Nat} (h : ∀ a, aOk a → f a = f' a) : opP f = opP f' := by
  unfold opP
  apply fm_congr
  intro a ha
  have h1 : ∀ a ∈ acL, aOk a := by unfold aOk; decide
  rw [h a (h1 a ha)]
theorem qS_ag (hA : AG B B' lo pg g) {d : Nat} (h : NB B lo pg g s d) : ∀ m, m ≤ bS B s d → qS B' s m = qS B s m
  | 0, _ => rfl
  | m + 1, hm => by
    have ih := qS_ag hA h m (by omega)
    cases q : (qS B s m)[m]? with
    | none =>
      show (match (qS B' s m)[m]? with | none => _ | some (n, f) => _) = (match (qS B s m)[m]? with | none => _ | some (n, f) => _)
      rw [ih, q]
    | some p =>
      obtain ⟨n, f⟩ := p
      rw [qS_s q, qS_s (B := B') (by rw [ih]; exact q), ih]
      congr 1
      exact (opP_ag (hA n (h m (by omega) n f m q))).symm
theorem bS_mono : ∀ {d d' : Nat}, d ≤ d' → bS B s d ≤ bS B s d'
  | d, 0, h => by rw [show d = 0 by omega]; exact Nat.le_refl _
  | d, d' + 1, h => by
    by_cases e : d = d' + 1
    · rw [e]; exact Nat.le_refl _
    · exact Nat.le_trans (bS_mono (d := d) (d' := d') (by omega)) (bS_le d')
theorem bS_ag (hA : AG B B' lo pg g) {d : Nat} (h : NB B lo pg g s d) : ∀ e, e ≤ d + 1 → bS B' s e = bS B s e
  | 0, _ => rfl
  | e + 1, he => by
    show (qS B' s (bS B' s e)).length = (qS B s (bS B s e)).length
    rw [bS_ag hA h e (by omega), qS_ag hA h _ (bS_mono (by omega))]
theorem fD_ag (hA : AG B B' lo pg g) {d : Nat} (h : NB B lo pg g s d) (co : Nat) : fD B' co pg g s d = fD B co pg g s d := by
  unfold fD
  rw [bS_ag hA h d (by omega), bS_ag hA h (d + 1) (by omega), qS_ag hA h _ (Nat.le_refl _)]
end TWO
def gnB (had thn : Option Nat) : Nat := match thn with
  | none => 0
  | some b => match had with
    | none => 1
    | some a => if b < a then 1 else 0
theorem gnB_0 {had : Option Nat} {d : Nat} {thn : Option (Nat × Nat)} (h : had = some (d + 1)) (h2 : ∀ x, thn = some x → d < x.1) : gnB had (thn.map Prod.fst) = 0 := by
  subst h
  cases thn with
  | none => rfl
  | some x =>
    have := h2 x rfl
    show (if x.1 < d + 1 then 1 else 0) = 0
    rw [if_neg (by omega)]
theorem gnB_1 {had : Option (Nat × Nat)} {d : Nat} (h : ∀ x, had = some x → d + 1 < x.1) : gnB (had.map Prod.fst) (some (d + 1)) = 1 := by
  cases had with
  | none => rfl
  | some x =>
    have := h x rfl
    show (if d + 1 < x.1 then 1 else 0) = 1
    rw [if_pos this]
theorem gn_less {B B' : Nat → Nat → Option Nat} {co oc pg g s : Nat} (hA : AG B B' oc pg g) (hB : GB B) (hB' : GB B') (hs : s < 40000) : ∀ u d, NB B oc pg g s d → snR B co oc pg g s u d = gnB ((fwR B co pg g s u d).map Prod.fst) ((fwR B' oc pg g s u d).map Prod.fst)
  | 0, d, _ => rfl
  | u + 1, d, h => by
    have e1 := bS_ag hA h d (by omega)
    have e2 := bS_ag hA h (d + 1) (by omega)
    by_cases q : bS B s d < bS B s (d + 1)
    · have q' : bS B' s d < bS B' s (d + 1) := by omega
      cases e : fD B co pg g s d with
      | some f =>
        have h1 : snR B co oc pg g s (u + 1) d = 0 := by
          show (if _ then (match fD B co pg g s d with | some _ => 0 | none => _) else 0) = 0
          rw [e]; split <;> rfl
        rw [h1, fwR_y q e]
        exact (gnB_0 rfl (fun x hx => (fwR_lt hB' hs hx).2.1)).symm
      | none =>
        cases e3 : fD B oc pg g s d with
        | some f' =>
          have h1 : snR B co oc pg g s (u + 1) d = 1 := by
            show (if _ then (match fD B co pg g s d with | some _ => 0 | none => (match fD B oc pg g s d with | some _ => 1 | none => _)) else 0) = 1
            rw [if_pos q, e]
            show (match fD B oc pg g s d with | some _ => 1 | none => _) = 1
            rw [e3]
          rw [h1, fwR_n q e, fwR_y q' (by rw [fD_ag hA h]; exact e3)]
          exact (gnB_1 (fun x hx => (fwR_lt hB hs hx).2.1)).symm
        | none =>
          have h1 : snR B co oc pg g s (u + 1) d = snR B co oc pg g s u (d + 1) := by
            show (if _ then (match fD B co pg g s d with | some _ => 0 | none => (match fD B oc pg g s d with | some _ => 1 | none => _)) else 0) = _
            rw [if_pos q, e]
            show (match fD B oc pg g s d with | some _ => 1 | none => _) = _
            rw [e3]
          rw [h1, fwR_n q e, fwR_n q' (by rw [fD_ag hA h]; exact e3)]
          exact gn_less hA hB hB' hs u (d + 1) (NB_s h e3)
    · have q' : ¬ bS B' s d < bS B' s (d + 1) := by omega
      have h1 : snR B co oc pg g s (u + 1) d = 0 := if_neg q
      rw [h1, fwR_z q, fwR_z q']
      rfl
theorem gn_more {B B' : Nat → Nat → Option Nat} {co oc pg g s : Nat} (hle : co ≤ oc) (hA : AG B B' co pg g) (hB' : GB B') (hs : s < 40000) : ∀ u d, NB B co pg g s d → gnB ((fwR B co pg g s u d).map Prod.fst) ((fwR B' oc pg g s u d).map Prod.fst) = 0
  | 0, d, _ => rfl
  | u + 1, d, h => by
    have e1 := bS_ag hA h d (by omega)
    have e2 := bS_ag hA h (d + 1) (by omega)
    by_cases q : bS B s d < bS B s (d + 1)
    · have q' : bS B' s d < bS B' s (d + 1) := by omega
      cases e : fD B co pg g s d with
      | some f =>
        rw [fwR_y q e]
        exact gnB_0 rfl (fun x hx => (fwR_lt hB' hs hx).2.1)
      | none =>
        rw [fwR_n q e, fwR_n q' (by rw [fD_ag hA h]; exact fD_mono hle e)]
        exact gn_more hle hA hB' hs u (d + 1) (NB_s h e)
    · have q' : ¬ bS B' s d < bS B' s (d + 1) := by omega
      rw [fwR_z q, fwR_z q']
      rfl
/-- how few acts; none: it can't be had -/
def fwn (B : Nat → Nat → Option Nat) (co pg g s : Nat) : Option Nat := if gd s g then some 0 else (fwS B co pg g s).map Prod.fst
theorem mCo_up {k g v : Nat} {pr : Nat → Nat} : mCo k (va_up pr g v) g = kCost k v := by show kCost k (va_up pr g v g) = _; rw [up_at]
theorem AG_m {k g v lo : Nat} {tk gv pr py : Nat → Nat} (h1 : lo ≤ kCost k (pr g)) (h2 : lo ≤ kCost k v) : AG (mB k tk gv pr py) (mB k tk gv (va_up pr g v) py) lo (mPa k tk g) g := fun n hn a ha => by
  unfold mB bh
  split
  · rfl
  · split
    · rename_i ha1 ha2
      have hc : a - 10 < 4 := by unfold aOk at ha; omega
      unfold bBuy
      by_cases q : n % 4 = g
      · have hnc := bc_none hn hc
        rw [if_neg (fun z => hnc ⟨q, by rw [← q]; exact z.2.1, Nat.le_trans h1 (by have := z.2.2; rw [q] at this; exact this)⟩)]
        rw [if_neg (fun z => hnc ⟨q, by rw [← q]; exact z.2.1, Nat.le_trans h2 (by have := z.2.2; rw [q, mCo_up] at this; exact this)⟩)]
      · have e : mCo k (va_up pr g v) (n % 4) = mCo k pr (n % 4) := by show kCost k (va_up pr g v (n % 4)) = kCost k (pr (n % 4)); rw [up_ne _ _ q]
        rw [e]
    · rfl
theorem WL_up {tk gv pr py : Nat → Nat} {g v : Nat} (h : WL tk gv pr py) (h1 : 1 ≤ v) (h4 : v ≤ 4) : WL tk gv (va_up pr g v) py := fun t ht => by
  obtain ⟨a, b, c, d, e⟩ := h t ht
  refine ⟨a, b, ?_, ?_, e⟩
  · by_cases q : t = g
    · rw [q, up_at]; exact h1
    · rw [up_ne _ _ q]; exact c
  · by_cases q : t = g
    · rw [q, up_at]; exact h4
    · rw [up_ne _ _ q]; exact d
/-- gains: by the two numbers, or by the system's one search -/
theorem gains_eq {k g v s : Nat} {tk gv pr py : Nat → Nat} (hw : WL tk gv pr py) (h1 : 1 ≤ v) (h4 : v ≤ 4) (hs : s < 40000) : (kCost k v < mCo k pr g ∧ ¬ gd s g ∧ snR (mB k tk gv pr py) (mCo k pr g) (kCost k v) (mPa k tk g) g s 40000 0 = 1) ↔ gnB (fwn (mB k tk gv pr py) (mCo k pr g) (mPa k tk g) g s) (fwn (mB k tk gv (va_up pr g v) py) (mCo k (va_up pr g v) g) (mPa k tk g) g s) = 1 := by
  have hB := GB_m (k := k) hw
  have hB' := GB_m (k := k) (WL_up (g := g) hw h1 h4)
  unfold fwn
  by_cases hg : gd s g
  · rw [if_pos hg, if_pos hg]
    refine ⟨fun q => absurd hg q.2.1, fun q => ?_⟩
    exact absurd q (by decide)
  · rw [if_neg hg, if_neg hg, mCo_up]
    by_cases hl : kCost k v < mCo k pr g
    · have e := gn_less (co := mCo k pr g) (AG_m (tk := tk) (gv := gv) (pr := pr) (py := py) (g := g) (v := v) (Nat.le_of_lt hl) (Nat.le_refl _)) hB hB' hs 40000 0 NB_0
      refine ⟨fun q => ?_, fun q => ⟨hl, hg, ?_⟩⟩
      · exact e.symm.trans q.2.2
      · exact e.trans q
    · have e := gn_more (co := mCo k pr g) (oc := kCost k v) (Nat.not_lt.mp hl) (AG_m (tk := tk) (gv := gv) (pr := pr) (py := py) (g := g) (v := v) (Nat.le_refl _) (Nat.not_lt.mp hl)) hB' hs 40000 0 NB_0
      refine ⟨fun q => absurd q.1 hl, fun q => ?_⟩
      have q : gnB ((fwR (mB k tk gv pr py) (mCo k pr g) (mPa k tk g) g s 40000 0).map Prod.fst) ((fwR (mB k tk gv (va_up pr g v) py) (kCost k v) (mPa k tk g) g s 40000 0).map Prod.fst) = 1 := q
      rw [e] at q
      exact absurd q (by decide)
