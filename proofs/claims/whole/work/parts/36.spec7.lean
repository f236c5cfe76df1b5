/-! who can buy: one with n, in town g, with a coin that may be paid there (pg), if the good costs co -/
abbrev cbP (co pg g n c : Nat) : Prop := n % 4 = g ∧ pg / 2 ^ c % 2 = 1 ∧ co ≤ dg n c
/-- the first such coin below k -/
def bc (co pg g n : Nat) : Nat → Option Nat
  | 0 => none
  | k + 1 => match bc co pg g n k with
    | some c => some c
    | none => if cbP co pg g n k then some k else none
theorem bc_y {co pg g n k : Nat} (h : bc co pg g n k = none) (h2 : cbP co pg g n k) : bc co pg g n (k + 1) = some k := by
  show (match bc co pg g n k with | some c => some c | none => _) = _
  rw [h]; exact if_pos h2
theorem bc_n {co pg g n k : Nat} (h : bc co pg g n k = none) (h2 : ¬ cbP co pg g n k) : bc co pg g n (k + 1) = none := by
  show (match bc co pg g n k with | some c => some c | none => _) = _
  rw [h]; exact if_neg h2
theorem bc_st {co pg g n k c : Nat} (h : bc co pg g n k = some c) : ∀ j, bc co pg g n (k + j) = some c
  | 0 => h
  | j + 1 => by
    show (match bc co pg g n (k + j) with | some c => some c | none => _) = _
    rw [bc_st h j]
theorem bc_stay {co pg g n k m c : Nat} (h : bc co pg g n k = some c) (hm : k ≤ m) : bc co pg g n m = some c := by
  have := bc_st h (m - k)
  rwa [show k + (m - k) = m by omega] at this
theorem bc_town {co pg g n : Nat} (h : ¬ n % 4 = g) : ∀ k, bc co pg g n k = none
  | 0 => rfl
  | k + 1 => bc_n (bc_town h k) (fun q => h q.1)
theorem bc_of {co pg g n c : Nat} : ∀ {k}, bc co pg g n k = some c → c < k ∧ cbP co pg g n c
  | 0, h => by cases h
  | k + 1, h => by
    cases q : bc co pg g n k with
    | none =>
      by_cases z : cbP co pg g n k
      · rw [bc_y q z] at h; cases h; exact ⟨Nat.lt_succ_self _, z⟩
      · rw [bc_n q z] at h; cases h
    | some c' =>
      rw [bc_stay q (Nat.le_succ k)] at h
      cases h
      obtain ⟨a, b⟩ := bc_of q
      exact ⟨by omega, b⟩
theorem bc_none {co pg g n k : Nat} (h : bc co pg g n k = none) {c : Nat} (hc : c < k) : ¬ cbP co pg g n c := fun z => by
  cases q : bc co pg g n c with
  | none =>
    have := bc_stay (bc_y q z) (show c + 1 ≤ k by omega)
    rw [h] at this; cases this
  | some c' =>
    have := bc_stay q (show c ≤ k by omega)
    rw [h] at this; cases this
/-- the first act of the first, from entry ls on, k of them, that can buy -/
def fl (co pg g : Nat) (Q : qT) (ls : Nat) : Nat → Option Nat
  | 0 => none
  | k + 1 => match fl co pg g Q ls k with
    | some x => some x
    | none => match Q[ls + k]? with
      | none => none
      | some (n, f) => match bc co pg g n 4 with
        | none => none
        | some c => some (if ls + k = 0 then 10 + c else f)
theorem fl_st {co pg g ls k x : Nat} {Q : qT} (h : fl co pg g Q ls k = some x) : ∀ j, fl co pg g Q ls (k + j) = some x
  | 0 => h
  | j + 1 => by
    show (match fl co pg g Q ls (k + j) with | some x => some x | none => _) = _
    rw [fl_st h j]
theorem fl_stay {co pg g ls k m x : Nat} {Q : qT} (h : fl co pg g Q ls k = some x) (hm : k ≤ m) : fl co pg g Q ls m = some x := by
  have := fl_st h (m - k)
  rwa [show k + (m - k) = m by omega] at this
theorem fl_y {co pg g ls k n f c : Nat} {Q : qT} (h : fl co pg g Q ls k = none) (hq : Q[ls + k]? = some (n, f)) (hc : bc co pg g n 4 = some c) : fl co pg g Q ls (k + 1) = some (if ls + k = 0 then 10 + c else f) := by
  show (match fl co pg g Q ls k with | some x => some x | none => _) = _
  rw [h]
  show (match Q[ls + k]? with | none => none | some (n, f) => _) = _
  rw [hq]
  show (match bc co pg g n 4 with | none => none | some c => _) = _
  rw [hc]
theorem fl_n {co pg g ls k n f : Nat} {Q : qT} (h : fl co pg g Q ls k = none) (hq : Q[ls + k]? = some (n, f)) (hc : bc co pg g n 4 = none) : fl co pg g Q ls (k + 1) = none := by
  show (match fl co pg g Q ls k with | some x => some x | none => _) = _
  rw [h]
  show (match Q[ls + k]? with | none => none | some (n, f) => _) = _
  rw [hq]
  show (match bc co pg g n 4 with | none => none | some c => _) = _
  rw [hc]
/-- the walker's steps: entry i of a level from ls on -/
theorem fl_yi {co pg g ls i le n f k : Nat} {Q : qT} (hi : ls ≤ i) (h : fl co pg g Q ls (i - ls) = none) (hq : Q[i]? = some (n, f)) (hb : bc co pg g n k = none) (hk : k < 4) (hc : cbP co pg g n k) (hle : i < le) : fl co pg g Q ls (le - ls) = some (if i = 0 then 10 + k else f) := by
  have e : ls + (i - ls) = i := by omega
  have h1 := fl_y h (by rw [e]; exact hq) (bc_stay (bc_y hb hc) hk)
  rw [e] at h1
  exact fl_stay h1 (by omega)
theorem fl_ni {co pg g ls i n f : Nat} {Q : qT} (hi : ls ≤ i) (h : fl co pg g Q ls (i - ls) = none) (hq : Q[i]? = some (n, f)) (hb : bc co pg g n 4 = none) : fl co pg g Q ls (i + 1 - ls) = none := by
  have e : ls + (i - ls) = i := by omega
  have h1 := fl_n h (by rw [e]; exact hq) hb
  rwa [show i - ls + 1 = i + 1 - ls by omega] at h1
theorem fl_lt {co pg g ls : Nat} {Q : qT} (hQ : QI Q) : ∀ {k x}, fl co pg g Q ls k = some x → x < 24
  | 0, _, h => by cases h
  | k + 1, x, h => by
    cases q : fl co pg g Q ls k with
    | some y =>
      rw [fl_stay q (Nat.le_succ k)] at h; cases h; exact fl_lt hQ q
    | none =>
      have h : (match fl co pg g Q ls k with | some x => some x | none => match Q[ls + k]? with
        | none => none
        | some (n, f) => match bc co pg g n 4 with
          | none => none
          | some c => some (if ls + k = 0 then 10 + c else f)) = some x := h
      rw [q] at h
      cases q2 : Q[ls + k]? with
      | none => rw [q2] at h; cases h
      | some p =>
        obtain ⟨n, f⟩ := p
        rw [q2] at h
        cases q3 : bc co pg g n 4 with
        | none => simp only [q3] at h; cases h
        | some c =>
          simp only [q3] at h
          cases h
          have h1 := (bc_of q3).1
          have h2 := (QI_at hQ q2).2
          split <;> omega
/-- who first can buy at level d -/
def fD (B : Nat → Nat → Option Nat) (co pg g s d : Nat) : Option Nat := fl co pg g (qS B s (bS B s d)) (bS B s d) (bS B s (d + 1) - bS B s d)
def fwR (B : Nat → Nat → Option Nat) (co pg g s : Nat) : Nat → Nat → Option (Nat × Nat)
  | 0, _ => none
  | u + 1, d => if bS B s d < bS B s (d + 1) then (match fD B co pg g s d with
      | some f => some (d + 1, f)
      | none => fwR B co pg g s u (d + 1)) else none
theorem fwR_y {B : Nat → Nat → Option Nat} {co pg g s u d f : Nat} (h : bS B s d < bS B s (d + 1)) (hf : fD B co pg g s d = some f) : fwR B co pg g s (u + 1) d = some (d + 1, f) := by
  show (if _ then (match fD B co pg g s d with | some f => some (d + 1, f) | none => _) else _) = _
  rw [if_pos h, hf]
theorem fwR_n {B : Nat → Nat → Option Nat} {co pg g s u d : Nat} (h : bS B s d < bS B s (d + 1)) (hf : fD B co pg g s d = none) : fwR B co pg g s (u + 1) d = fwR B co pg g s u (d + 1) := by
  show (if _ then (match fD B co pg g s d with | some f => some (d + 1, f) | none => _) else _) = _
  rw [if_pos h, hf]
theorem fwR_z {B : Nat → Nat → Option Nat} {co pg g s u d : Nat} (h : ¬ bS B s d < bS B s (d + 1)) : fwR B co pg g s u d = none := by
  cases u with
  | zero => rfl
  | succ u => exact if_neg h
def fwS (B : Nat → Nat → Option Nat) (co pg g s : Nat) : Option (Nat × Nat) := fwR B co pg g s 40000 0
def fwF (o : Option (Nat × Nat)) : Int32 := match o with
  | none => -1
  | some x => nI x.2
theorem fwF_n {o : Option (Nat × Nat)} (h : o = none) : fwF o = -1 := by rw [h]; rfl
theorem fwF_s {o : Option (Nat × Nat)} {x : Nat × Nat} (h : o = some x) : fwF o = nI x.2 := by rw [h]; rfl
theorem fwR_go {B : Nat → Nat → Option Nat} {co pg g s i : Nat} {o : Option (Nat × Nat)} (h : o = fwR B co pg g s (40000 - i) i) (hi : i < 40000) (h1 : bS B s i < bS B s (i + 1)) (h2 : fD B co pg g s i = none) : o = fwR B co pg g s (40000 - (i + 1)) (i + 1) := by
  rw [h, show 40000 - i = (40000 - (i + 1)) + 1 by omega, fwR_n h1 h2]
theorem fwR_hit {B : Nat → Nat → Option Nat} {co pg g s i f : Nat} {o : Option (Nat × Nat)} (h : o = fwR B co pg g s (40000 - i) i) (hi : i < 40000) (h1 : bS B s i < bS B s (i + 1)) (h2 : fD B co pg g s i = some f) : o = some (i + 1, f) := by
  rw [h, show 40000 - i = (40000 - (i + 1)) + 1 by omega, fwR_y h1 h2]
theorem fwR_out {B : Nat → Nat → Option Nat} {co pg g s i : Nat} {o : Option (Nat × Nat)} (h : o = fwR B co pg g s (40000 - i) i) (hi : 40000 ≤ i) : o = none := by
  rw [h, show 40000 - i = 0 by omega]; rfl
theorem fwR_dry {B : Nat → Nat → Option Nat} {co pg g s i : Nat} {o : Option (Nat × Nat)} (h : o = fwR B co pg g s (40000 - i) i) (h1 : ¬ bS B s i < bS B s (i + 1)) : o = none := h.trans (fwR_z h1)
/-- by another cost oc: sooner -/
def snR (B : Nat → Nat → Option Nat) (co oc pg g s : Nat) : Nat → Nat → Nat
  | 0, _ => 0
  | u + 1, d => if bS B s d < bS B s (d + 1) then (match fD B co pg g s d with
      | some _ => 0
      | none => match fD B oc pg g s d with
        | some _ => 1
        | none => snR B co oc pg g s u (d + 1)) else 0
theorem snR_a {B : Nat → Nat → Option Nat} {co oc pg g s i f z : Nat} (h : z = snR B co oc pg g s (40000 - i) i) (hi : i < 40000) (h2 : fD B co pg g s i = some f) : z = 0 := by
  rw [h, show 40000 - i = (40000 - (i + 1)) + 1 by omega]
  show (if _ then (match fD B co pg g s i with | some _ => 0 | none => _) else 0) = 0
  rw [h2]; split <;> rfl
theorem snR_b {B : Nat → Nat → Option Nat} {co oc pg g s i f z : Nat} (h : z = snR B co oc pg g s (40000 - i) i) (hi : i < 40000) (h1 : bS B s i < bS B s (i + 1)) (h2 : fD B co pg g s i = none) (h3 : fD B oc pg g s i = some f) : z = 1 := by
  rw [h, show 40000 - i = (40000 - (i + 1)) + 1 by omega]
  show (if _ then (match fD B co pg g s i with | some _ => 0 | none => (match fD B oc pg g s i with | some _ => 1 | none => _)) else 0) = 1
  rw [if_pos h1, h2]
  show (match fD B oc pg g s i with | some _ => 1 | none => _) = 1
  rw [h3]
theorem snR_c {B : Nat → Nat → Option Nat} {co oc pg g s i z : Nat} (h : z = snR B co oc pg g s (40000 - i) i) (hi : i < 40000) (h1 : bS B s i < bS B s (i + 1)) (h2 : fD B co pg g s i = none) (h3 : fD B oc pg g s i = none) : z = snR B co oc pg g s (40000 - (i + 1)) (i + 1) := by
  rw [h, show 40000 - i = (40000 - (i + 1)) + 1 by omega]
  show (if _ then (match fD B co pg g s i with | some _ => 0 | none => (match fD B oc pg g s i with | some _ => 1 | none => _)) else 0) = _
  rw [if_pos h1, h2]
  show (match fD B oc pg g s i with | some _ => 1 | none => _) = _
  rw [h3]
theorem snR_d {B : Nat → Nat → Option Nat} {co oc pg g s i z : Nat} (h : z = snR B co oc pg g s (40000 - i) i) (h1 : 40000 ≤ i ∨ ¬ bS B s i < bS B s (i + 1)) : z = 0 := by
  rcases Nat.lt_or_ge i 40000 with q | q
  · rw [h, show 40000 - i = (40000 - (i + 1)) + 1 by omega]
    show (if _ then _ else 0) = 0
    rw [if_neg (h1.resolve_left (by omega))]
  · rw [h, show 40000 - i = 0 by omega]; rfl
/-- the most coins among the first k -/
def mxD (Q : qT) : Nat → Nat
  | 0 => 0
  | k + 1 => max (mxD Q k) (match Q[k]? with
    | none => 0
    | some p => dT p.1)
theorem mxD_s {Q : qT} {k n f : Nat} (h : Q[k]? = some (n, f)) : mxD Q (k + 1) = max (mxD Q k) (dT n) := by
  show max (mxD Q k) (match Q[k]? with | none => 0 | some p => dT p.1) = _
  rw [h]
theorem mxD_lt (Q : qT) : ∀ k, mxD Q k < 17
  | 0 => by show (0 : Nat) < 17; decide
  | k + 1 => by
    have h := mxD_lt Q k
    cases q : Q[k]? with
    | none =>
      show max (mxD Q k) (match Q[k]? with | none => 0 | some p => dT p.1) < 17
      rw [q]; show max (mxD Q k) 0 < 17; omega
    | some p =>
      obtain ⟨n, f⟩ := p
      rw [mxD_s q]
      have := dT_lt n
      omega
theorem exL_at {i f n9 j9 : Nat} {Q P : qT} {x : Nat × Nat} (h : Q[j9]? = some x) : (exL i f Q P)[j9]? = some x := by
  obtain ⟨r, hr⟩ := exL_pre i f P Q
  rw [hr, List.getElem?_append_left (List.getElem?_eq_some_iff.mp h).1]
  exact h
theorem oCP_ok {B : Nat → Nat → Option Nat} (hB : GB B) {n : Nat} (hn : n < 40000) {j : Nat} (hj : j ≤ 12) : ∀ p ∈ oCP (B n) j, p.1 < 24 ∧ p.2 < 40000 := fun p hp => by
  obtain ⟨i, hi, hk⟩ := List.mem_filterMap.mp hp
  have hi := List.mem_range.mp hi
  obtain ⟨h1, h2⟩ := actN_ok i (by omega)
  obtain ⟨k, hk1, hk2⟩ := Option.map_eq_some_iff.mp hk
  subst hk2
  exact ⟨h2, hB n _ k hn h1 hk1⟩
theorem oMP_ok {B : Nat → Nat → Option Nat} (hB : GB B) {n : Nat} (hn : n < 40000) {j : Nat} (hj : j ≤ 24) : ∀ p ∈ oMP (B n) j, p.1 < 24 ∧ p.2 < 40000 := fun p hp => by
  obtain ⟨i, hi, hk⟩ := List.mem_filterMap.mp hp
  have hi := List.mem_range.mp hi
  by_cases q : aOk i
  · rw [if_pos q] at hk
    obtain ⟨k, hk1, hk2⟩ := Option.map_eq_some_iff.mp hk
    subst hk2
    exact ⟨by show i < 24; omega, hB n _ k hn q hk1⟩
  · rw [if_neg q] at hk; cases hk
theorem GB_d {co ge gi pa : Nat → Nat} (hw : WD co ge gi pa) : GB (bh co ge gi pa) := fun n a k hn ha h => bh_lt hw hn ha h
theorem found_c {e f c : Nat} (hc : c < 4) : (e + f * 262144) / 2 ^ (6 + 3 * c) % 8 = e / 2 ^ (6 + 3 * c) % 8 := by
  refine four (P := fun c => (e + f * 262144) / 2 ^ (6 + 3 * c) % 8 = e / 2 ^ (6 + 3 * c) % 8) ?_ ?_ ?_ ?_ hc <;> (simp only [Nat.reduceMul, Nat.reduceAdd, Nat.reducePow]; omega)
theorem ins_e (s : Nat) : ins [] s 0 = [(s, 0)] := rfl
