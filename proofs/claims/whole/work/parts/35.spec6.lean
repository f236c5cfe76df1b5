/-! the searches: what is found, in order, each with the first act of a shortest row to it -/
abbrev qT : Type := List (Nat × Nat)
def inQ (Q : qT) (k : Nat) : Prop := ∃ f, (k, f) ∈ Q
def hasQ (Q : qT) (k : Nat) : Bool := Q.any (fun p => p.1 == k)
theorem hasQ_iff {Q : qT} {k : Nat} : hasQ Q k = true ↔ inQ Q k := by
  unfold hasQ inQ
  rw [List.any_eq_true]
  refine ⟨fun ⟨p, hp, h⟩ => ?_, fun ⟨f, hf⟩ => ⟨_, hf, by simp⟩⟩
  obtain ⟨a, b⟩ := p
  simp at h
  subst h
  exact ⟨b, hp⟩
def ins (Q : qT) (k f : Nat) : qT := if hasQ Q k = true then Q else Q ++ [(k, f)]
theorem ins_old {Q : qT} {k f : Nat} (h : inQ Q k) : ins Q k f = Q := if_pos (hasQ_iff.mpr h)
theorem ins_new {Q : qT} {k f : Nat} (h : ¬ inQ Q k) : ins Q k f = Q ++ [(k, f)] := if_neg (fun z => h (hasQ_iff.mp z))
/-- a queue that is one -/
def QI (Q : qT) : Prop := (∀ p ∈ Q, p.1 < 40000 ∧ p.2 < 24) ∧ (Q.map Prod.fst).Nodup
theorem nd_len : ∀ {N : Nat} {L : List Nat}, L.Nodup → (∀ x ∈ L, x < N) → L.length ≤ N
  | 0, L, _, h => by
    cases L with
    | nil => exact Nat.le_refl 0
    | cons a L => exact absurd (h a List.mem_cons_self) (Nat.not_lt_zero a)
  | N + 1, L, hn, h => by
    by_cases q : N ∈ L
    · have h1 : (L.erase N).length ≤ N := nd_len (hn.erase N) (fun x hx => by
        obtain ⟨h3, h4⟩ := hn.mem_erase_iff.mp hx
        have := h x h4
        omega)
      rw [List.length_erase_of_mem q] at h1
      omega
    · have h1 : L.length ≤ N := nd_len hn (fun x hx => by
        have h2 := h x hx
        have h3 : x ≠ N := fun e => q (e ▸ hx)
        omega)
      omega
theorem QI_len {Q : qT} (h : QI Q) : Q.length ≤ 40000 := by
  have := nd_len h.2 (fun x hx => by
    obtain ⟨p, hp, rfl⟩ := List.mem_map.mp hx
    exact (h.1 p hp).1)
  rwa [List.length_map] at this
theorem QI_ins {Q : qT} {k f : Nat} (h : QI Q) (hk : k < 40000) (hf : f < 24) : QI (ins Q k f) := by
  by_cases q : inQ Q k
  · rw [ins_old q]; exact h
  · rw [ins_new q]
    refine ⟨fun p hp => ?_, ?_⟩
    · rcases List.mem_append.mp hp with z | z
      · exact h.1 p z
      · rw [List.mem_singleton] at z; rw [z]; exact ⟨hk, hf⟩
    · rw [List.map_append, List.nodup_append]
      refine ⟨h.2, by simp, fun a ha b hb e => ?_⟩
      simp at hb
      subst hb
      subst e
      obtain ⟨p, hp, e⟩ := List.mem_map.mp ha
      exact q ⟨p.2, by rw [← e]; exact hp⟩
theorem QI_new {Q : qT} {k f : Nat} (h : QI Q) (hk : k < 40000) (hf : f < 24) (hq : ¬ inQ Q k) : Q.length < 40000 := by
  have h1 := QI_len (QI_ins (f := f) h hk hf)
  rw [ins_new hq, List.length_append] at h1
  simp at h1
  omega
theorem QI_at {Q : qT} {j n f : Nat} (h : QI Q) (hj : Q[j]? = some (n, f)) : n < 40000 ∧ f < 24 := h.1 (n, f) (List.mem_of_getElem? hj)
theorem QI_one {s : Nat} (h : s < 40000) : QI [(s, 0)] := ⟨fun p hp => by rw [List.mem_singleton] at hp; rw [hp]; exact ⟨h, Nat.le_of_ble_eq_true rfl⟩, by simp⟩
theorem QI_inj {Q : qT} {i j n f g : Nat} (h : QI Q) (hi : Q[i]? = some (n, f)) (hj : Q[j]? = some (n, g)) : i = j := by
  have h1 : (Q.map Prod.fst)[i]? = some n := by rw [List.getElem?_map, hi]; rfl
  have h2 : (Q.map Prod.fst)[j]? = some n := by rw [List.getElem?_map, hj]; rfl
  obtain ⟨a, ha⟩ := List.getElem?_eq_some_iff.mp h1
  obtain ⟨b, hb⟩ := List.getElem?_eq_some_iff.mp h2
  have hp := List.pairwise_iff_getElem.mp h.2
  rcases Nat.lt_trichotomy i j with q | q | q
  · exact absurd (ha.trans hb.symm) (hp i j a b q)
  · exact q
  · exact absurd (hb.trans ha.symm) (hp j i b a q)
theorem at_lt {Q : qT} {j : Nat} (h : j < Q.length) : ∃ n f, Q[j]? = some (n, f) := ⟨Q[j].1, Q[j].2, List.getElem?_eq_getElem h⟩
/-- results of the acts, with the acts -/
def opP (f : Nat → Option Nat) : qT := acL.filterMap (fun a => (f a).map (fun k => (a, k)))
def oCP (f : Nat → Option Nat) (j : Nat) : qT := (List.range j).filterMap (fun i => (f (actN i)).map (fun k => (actN i, k)))
def oMP (f : Nat → Option Nat) (j : Nat) : qT := (List.range j).filterMap (fun a => if aOk a then (f a).map (fun k => (a, k)) else none)
theorem oCP_none {f : Nat → Option Nat} {j : Nat} (h : f (actN j) = none) : oCP f (j + 1) = oCP f j := by
  unfold oCP; rw [List.range_succ, List.filterMap_append]; simp [h]
theorem oCP_some {f : Nat → Option Nat} {j k : Nat} (h : f (actN j) = some k) : oCP f (j + 1) = oCP f j ++ [(actN j, k)] := by
  unfold oCP; rw [List.range_succ, List.filterMap_append]; simp [h]
theorem oCP_12 (f : Nat → Option Nat) : oCP f 12 = opP f := by
  unfold oCP opP
  rw [show acL = (List.range 12).map actN by decide, List.filterMap_map]
  rfl
theorem oMP_no {f : Nat → Option Nat} {j : Nat} (h : ¬ aOk j) : oMP f (j + 1) = oMP f j := by
  unfold oMP; rw [List.range_succ, List.filterMap_append]; simp [if_neg h]
theorem oMP_none {f : Nat → Option Nat} {j : Nat} (h : f j = none) : oMP f (j + 1) = oMP f j := by
  unfold oMP; rw [List.range_succ, List.filterMap_append]
  by_cases q : aOk j <;> simp [q, h]
theorem oMP_some {f : Nat → Option Nat} {j k : Nat} (ha : aOk j) (h : f j = some k) : oMP f (j + 1) = oMP f j ++ [(j, k)] := by
  unfold oMP; rw [List.range_succ, List.filterMap_append]
  simp only [List.filterMap_cons, if_pos ha, h, Option.map_some, List.filterMap_nil]
theorem oMP_24 (f : Nat → Option Nat) : oMP f 24 = opP f := by
  unfold oMP opP
  rw [show acL = (List.range 24).filter (fun a => decide (aOk a)) by unfold aOk; decide, List.filterMap_filter]
  apply fm_congr
  intro a _
  by_cases h : aOk a <;> simp [h]
/-- entry i, whose first act is f, taken further -/
def exL (i f : Nat) (Q : qT) (P : qT) : qT := P.foldl (fun Q p => ins Q p.2 (if i = 0 then p.1 else f)) Q
theorem exL_nil (i f : Nat) (Q : qT) : exL i f Q [] = Q := rfl
theorem exL_s (i f : Nat) (Q P : qT) (a k : Nat) : exL i f Q (P ++ [(a, k)]) = ins (exL i f Q P) k (if i = 0 then a else f) := by
  unfold exL; rw [List.foldl_append]; rfl
theorem ins_pre (Q : qT) (k f : Nat) : ∃ r, ins Q k f = Q ++ r := by
  by_cases q : inQ Q k
  · exact ⟨[], by rw [ins_old q, List.append_nil]⟩
  · exact ⟨[(k, f)], ins_new q⟩
theorem exL_pre (i f : Nat) : ∀ (P Q : qT), ∃ r, exL i f Q P = Q ++ r
  | [], Q => ⟨[], by rw [List.append_nil]; rfl⟩
  | p :: P, Q => by
    obtain ⟨r1, h1⟩ := ins_pre Q p.2 (if i = 0 then p.1 else f)
    obtain ⟨r2, h2⟩ := exL_pre i f P (Q ++ r1)
    refine ⟨r1 ++ r2, ?_⟩
    show exL i f (ins Q p.2 (if i = 0 then p.1 else f)) P = _
    rw [h1, h2, List.append_assoc]
theorem exL_QI {i f : Nat} (hf : f < 24) : ∀ {P Q : qT}, QI Q → (∀ p ∈ P, p.1 < 24 ∧ p.2 < 40000) → QI (exL i f Q P)
  | [], Q, h, _ => h
  | p :: P, Q, h, hp => by
    have h1 := hp p List.mem_cons_self
    exact exL_QI hf (P := P) (QI_ins h h1.2 (show (if i = 0 then p.1 else f) < 24 by split; exact h1.1; exact hf)) (fun x hx => hp x (List.mem_cons_of_mem _ hx))
/-- what can be behind an act is good -/
def GB (B : Nat → Nat → Option Nat) : Prop := ∀ n a k, n < 40000 → aOk a → B n a = some k → k < 40000
theorem GB_m {k : Nat} {tk gv pr py : Nat → Nat} (hw : WL tk gv pr py) : GB (mB k tk gv pr py) := fun n a z hn ha hz => bh_lt (WL_WD k hw) hn ha hz
theorem opP_ok {B : Nat → Nat → Option Nat} (hB : GB B) {n : Nat} (hn : n < 40000) : ∀ p ∈ opP (B n), p.1 < 24 ∧ p.2 < 40000 := fun p hp => by
  obtain ⟨a, ha, hk⟩ := List.mem_filterMap.mp hp
  have h1 : ∀ a ∈ acL, aOk a ∧ a < 24 := by unfold aOk; decide
  obtain ⟨k, hk1, hk2⟩ := Option.map_eq_some_iff.mp hk
  subst hk2
  exact ⟨(h1 a ha).2, hB n a k hn (h1 a ha).1 hk1⟩
/-- what is found when the first m have been taken further -/
def qS (B : Nat → Nat → Option Nat) (s : Nat) : Nat → qT
  | 0 => [(s, 0)]
  | m + 1 => match (qS B s m)[m]? with
    | none => qS B s m
    | some (n, f) => exL m f (qS B s m) (opP (B n))
theorem qS_s {B : Nat → Nat → Option Nat} {s m n f : Nat} (h : (qS B s m)[m]? = some (n, f)) : qS B s (m + 1) = exL m f (qS B s m) (opP (B n)) := by
  show (match (qS B s m)[m]? with | none => _ | some (n, f) => _) = _
  rw [h]
theorem qS_pre (B : Nat → Nat → Option Nat) (s m : Nat) : ∃ r, qS B s (m + 1) = qS B s m ++ r := by
  cases h : (qS B s m)[m]? with
  | none =>
    refine ⟨[], ?_⟩
    show (match (qS B s m)[m]? with | none => _ | some (n, f) => _) = _
    rw [h, List.append_nil]
  | some p =>
    obtain ⟨n, f⟩ := p
    rw [qS_s h]
    exact exL_pre m f _ _
theorem qS_pres (B : Nat → Nat → Option Nat) (s m : Nat) : ∀ j, ∃ r, qS B s (m + j) = qS B s m ++ r
  | 0 => ⟨[], by rw [List.append_nil]; rfl⟩
  | j + 1 => by
    obtain ⟨r1, h1⟩ := qS_pres B s m j
    obtain ⟨r2, h2⟩ := qS_pre B s (m + j)
    exact ⟨r1 ++ r2, by rw [← Nat.add_assoc, h2, h1, List.append_assoc]⟩
theorem qS_at {B : Nat → Nat → Option Nat} {s m m' j : Nat} {x : Nat × Nat} (hm : m ≤ m') (h : (qS B s m)[j]? = some x) : (qS B s m')[j]? = some x := by
  obtain ⟨r, hr⟩ := qS_pres B s m (m' - m)
  rw [show m + (m' - m) = m' by omega] at hr
  rw [hr, List.getElem?_append_left (List.getElem?_eq_some_iff.mp h).1]
  exact h
theorem qS_len {B : Nat → Nat → Option Nat} {s m m' : Nat} (hm : m ≤ m') : (qS B s m).length ≤ (qS B s m').length := by
  obtain ⟨r, hr⟩ := qS_pres B s m (m' - m)
  rw [show m + (m' - m) = m' by omega] at hr
  rw [hr, List.length_append]
  omega
theorem qS_QI {B : Nat → Nat → Option Nat} {s : Nat} (hB : GB B) (hs : s < 40000) : ∀ m, QI (qS B s m)
  | 0 => QI_one hs
  | m + 1 => by
    have h := qS_QI hB hs m
    cases q : (qS B s m)[m]? with
    | none =>
      show QI (match (qS B s m)[m]? with | none => _ | some (n, f) => _)
      rw [q]; exact h
    | some p =>
      obtain ⟨n, f⟩ := p
      rw [qS_s q]
      obtain ⟨h1, h2⟩ := QI_at h q
      exact exL_QI h2 h (opP_ok hB h1)
theorem qS_0 (B : Nat → Nat → Option Nat) (s m : Nat) : (qS B s m)[0]? = some (s, 0) := qS_at (m := 0) (Nat.zero_le m) rfl
/-- where the levels begin -/
def bS (B : Nat → Nat → Option Nat) (s : Nat) : Nat → Nat
  | 0 => 0
  | d + 1 => (qS B s (bS B s d)).length
theorem bS_1 (B : Nat → Nat → Option Nat) (s : Nat) : bS B s 1 = 1 := rfl
theorem bS_le {B : Nat → Nat → Option Nat} {s : Nat} : ∀ d, bS B s d ≤ bS B s (d + 1)
  | 0 => Nat.zero_le _
  | d + 1 => qS_len (bS_le d)
theorem bS_40 {B : Nat → Nat → Option Nat} {s : Nat} (hB : GB B) (hs : s < 40000) : ∀ d, bS B s d ≤ 40000
  | 0 => Nat.zero_le _
  | _ + 1 => QI_len (qS_QI hB hs _)
theorem bS_pos {B : Nat → Nat → Option Nat} {s : Nat} : ∀ {d}, 0 < d → 1 ≤ bS B s d
  | 0, h => absurd h (Nat.lt_irrefl 0)
  | 1, _ => Nat.le_refl 1
  | d + 2, _ => Nat.le_trans (bS_pos (d := d + 1) (Nat.succ_pos d)) (bS_le (d + 1))
/-! memory: the system's seen and found, the reference's first and queue -/
def SM (sn fd : Nat → Nat) (Q : qT) : Prop := (∀ v, v < 262144 → ((sn (v / 32)).testBit (v % 32) = true ↔ ∃ p ∈ Q, eS p.1 = v)) ∧ (∀ w, w < 8192 → sn w < 2 ^ 32) ∧ ∀ j n f, Q[j]? = some (n, f) → fd j = eS n + f * 262144
theorem b32_lt (x : Nat) : 1 * 2 ^ (x % 32) < 2 ^ 32 := by
  have h : x % 32 < 32 := Nat.mod_lt _ (by decide)
  have : ∀ b, b < 32 → 1 * 2 ^ b < 2 ^ 32 := by decide
  exact this _ h
theorem b32_ne : ∀ b, b < 32 → ¬ nI (2 ^ b) = 0 := by decide +kernel
theorem and_tp (x b : Nat) : x &&& 2 ^ b = if x.testBit b = true then 2 ^ b else 0 := by
  apply Nat.eq_of_testBit_eq
  intro i
  rw [Nat.testBit_and, Nat.testBit_two_pow]
  by_cases h : b = i
  · subst h
    cases q : x.testBit b <;> simp
  · cases q : x.testBit b <;> simp [h, Nat.testBit_two_pow]
theorem bit_t {x b : Nat} (hb' : b < 32) : nI (x &&& 1 * 2 ^ b) = 0 ↔ ¬ x.testBit b = true := by
  rw [Nat.one_mul, and_tp]
  cases h : x.testBit b
  · simp [nI_0]
  · have := b32_ne b hb'
    simp [this]
theorem wd_and {x : Nat} (h : x < 262144) : nI (x / 2 ^ 5) &&& nI (8192 - 1) = nI (x / 32) := by
  have h2 : x / 2 ^ 5 < 8192 := by omega
  rw [show (8192 - 1 : Nat) = 2 ^ 13 - 1 from rfl, ni_and, Nat.and_two_pow_sub_one_eq_mod, Nat.mod_eq_of_lt h2]
theorem SM_q {sn fd : Nat → Nat} {Q : qT} {k : Nat} (h : SM sn fd Q) (hQ : QI Q) (hk : k < 40000) : (sn (eS k / 32)).testBit (eS k % 32) = true ↔ inQ Q k := by
  rw [h.1 _ (eS_lt hk)]
  refine ⟨fun ⟨p, hp, e⟩ => ⟨p.2, ?_⟩, fun ⟨f, hf⟩ => ⟨_, hf, rfl⟩⟩
  have := eS_inj (hQ.1 p hp).1 hk e
  rw [← this]; exact hp
theorem or_f {e f : Nat} (he : e < 262144) : e ||| f * 2 ^ 18 = e + f * 262144 := by
  have h := Nat.two_pow_add_eq_or_of_lt (i := 18) (b := e) (by simpa using he) f
  rw [Nat.or_comm, Nat.mul_comm f, ← h, show (2 : Nat) ^ 18 = 262144 from rfl]
  omega
theorem SM_ins {sn fd : Nat → Nat} {Q : qT} {k f : Nat} (h : SM sn fd Q) (hQ : QI Q) (hk : k < 40000) (hq : ¬ inQ Q k) : SM (va_up sn (eS k / 32) (sn (eS k / 32) ||| 1 * 2 ^ (eS k % 32))) (va_up fd Q.length (eS k + f * 262144)) (ins Q k f) := by
  have hl := eS_lt hk
  rw [ins_new hq]
  refine ⟨fun v hv => ?_, fun w hw => ?_, fun j n g hj => ?_⟩
  · have hmem : (∃ p ∈ Q ++ [(k, f)], eS p.1 = v) ↔ ((∃ p ∈ Q, eS p.1 = v) ∨ eS k = v) := by
      refine ⟨fun ⟨p, hp, e⟩ => ?_, fun z => ?_⟩
      · rcases List.mem_append.mp hp with z | z
        · exact Or.inl ⟨p, z, e⟩
        · rw [List.mem_singleton] at z; rw [z] at e; exact Or.inr e
      · rcases z with ⟨p, hp, e⟩ | e
        · exact ⟨p, List.mem_append_left _ hp, e⟩
        · exact ⟨(k, f), List.mem_append_right _ (List.mem_singleton.mpr rfl), e⟩
    rw [hmem, ← h.1 v hv]
    by_cases hw : v / 32 = eS k / 32
    · rw [hw, up_at, Nat.testBit_or, Nat.one_mul, Nat.testBit_two_pow, Bool.or_eq_true, decide_eq_true_iff]
      refine or_congr Iff.rfl ⟨fun e => by omega, fun e => by rw [e]⟩
    · rw [up_ne _ _ hw]
      refine ⟨Or.inl, fun z => z.resolve_right (fun e => hw (by rw [e]))⟩
  · by_cases e : w = eS k / 32
    · subst e; rw [up_at]; exact Nat.or_lt_two_pow (h.2.1 _ hw) (b32_lt _)
    · rw [up_ne _ _ e]; exact h.2.1 w hw
  · rcases Nat.lt_or_ge j Q.length with z | z
    · rw [List.getElem?_append_left z] at hj
      rw [up_ne _ _ (by omega)]
      exact h.2.2 j n g hj
    · rw [List.getElem?_append_right z] at hj
      obtain ⟨h1, h2⟩ := List.getElem?_eq_some_iff.mp hj
      have h3 : j - Q.length = 0 := by simp at h1; omega
      have h4 : j = Q.length := by omega
      subst h4
      simp at hj
      obtain ⟨rfl, rfl⟩ := hj
      rw [up_at]
theorem SM_0 (fd : Nat → Nat) : SM zN fd [] := ⟨fun v _ => by simp [zN], fun w _ => by show (0 : Nat) < 2 ^ 32; decide, fun j n f h => by simp at h⟩
def MM (fo qu : Nat → Nat) (Q : qT) : Prop := (∀ j n f, Q[j]? = some (n, f) → qu j = n ∧ fo n = if j = 0 then 99 else f + 1) ∧ ∀ n, n < 40000 → ¬ inQ Q n → fo n = 0
theorem MM_q {fo qu : Nat → Nat} {Q : qT} {k : Nat} (h : MM fo qu Q) (hk : k < 40000) : fo k = 0 ↔ ¬ inQ Q k := by
  refine ⟨fun e ⟨f, hf⟩ => ?_, fun e => h.2 k hk e⟩
  obtain ⟨j, hj⟩ := List.mem_iff_getElem?.mp hf
  have := (h.1 j k f hj).2
  rw [e] at this
  split at this <;> omega
theorem MM_ins {fo qu : Nat → Nat} {Q : qT} {k f : Nat} (h : MM fo qu Q) (hQ : QI Q) (h0 : ¬ Q.length = 0) (hq : ¬ inQ Q k) : MM (va_up fo k (f + 1)) (va_up qu Q.length k) (ins Q k f) := by
  rw [ins_new hq]
  refine ⟨fun j n g hj => ?_, fun n hn hx => ?_⟩
  · rcases Nat.lt_or_ge j Q.length with z | z
    · rw [List.getElem?_append_left z] at hj
      obtain ⟨h1, h2⟩ := h.1 j n g hj
      have hne : ¬ n = k := fun e => hq ⟨g, by rw [← e]; exact List.mem_of_getElem? hj⟩
      rw [up_ne _ _ (by omega), up_ne _ _ hne]
      exact ⟨h1, h2⟩
    · rw [List.getElem?_append_right z] at hj
      obtain ⟨h1, h2⟩ := List.getElem?_eq_some_iff.mp hj
      have h4 : j = Q.length := by simp at h1; omega
      subst h4
      simp at hj
      obtain ⟨rfl, rfl⟩ := hj
      rw [up_at, up_at, if_neg h0]
      exact ⟨rfl, rfl⟩
  · have hne : ¬ n = k := fun e => hx ⟨f, by rw [e]; exact List.mem_append_right _ (List.mem_singleton.mpr rfl)⟩
    rw [up_ne _ _ hne]
    exact h.2 n hn (fun ⟨g, hg⟩ => hx ⟨g, List.mem_append_left _ hg⟩)
/-- the reference's queue between two searches -/
def CQ (fo qu : Nat → Nat) (qe : Nat) : Prop := qe ≤ 40000 ∧ (∀ j, j < qe → qu j < 40000) ∧ (∀ k, k < 40000 → fo k = 0 ∨ ∃ j, j < qe ∧ qu j = k)
theorem CQ_of {fo qu : Nat → Nat} {Q : qT} (h : MM fo qu Q) (hQ : QI Q) : CQ fo qu Q.length := by
  refine ⟨QI_len hQ, fun j hj => ?_, fun k hk => ?_⟩
  · obtain ⟨a, f, hf⟩ := at_lt hj
    rw [(h.1 j a f hf).1]; exact (QI_at hQ hf).1
  · by_cases q : inQ Q k
    · obtain ⟨f, hf⟩ := q
      obtain ⟨j, hj⟩ := List.mem_iff_getElem?.mp hf
      exact Or.inr ⟨j, (List.getElem?_eq_some_iff.mp hj).1, (h.1 j k f hj).1⟩
    · exact Or.inl (h.2 k hk q)
theorem MM_one {fo qu : Nat → Nat} {s : Nat} (hf : ∀ k, k < 40000 → fo k = 0) : MM (va_up fo s 99) (va_up qu 0 s) [(s, 0)] := by
  refine ⟨fun j n f hj => ?_, fun n hn hx => ?_⟩
  · cases j with
    | zero =>
      simp at hj
      obtain ⟨rfl, rfl⟩ := hj
      rw [up_at, up_at]; exact ⟨rfl, rfl⟩
    | succ j => simp at hj
  · have hne : ¬ n = s := fun e => hx ⟨0, by rw [e]; exact List.mem_singleton.mpr rfl⟩
    rw [up_ne _ _ hne]; exact hf n hn
