/-! count and walk -/
section ROWS3
variable {p : Program} {l : Launch} {e : Env} {R : Room} {s : State} {m : MethodId} {args : Array Value} {below : List Frame} {meth : Method} {c : Code} {cells slots : Nat} {Q : State → Prop} {D : va_G} {A : Nat → Prop} {nL : Nat} {cc : ByteArray} {Ts : List Cond} {own : String} {G : gT}
variable {pc pc' : Nat} {lv lv' : List (Nat × Value)} {st : List Value} {ws ws' : va_W}
theorem v_ldcw (F : Fx p s m args meth c cc nL Ts own D A G) {index : Nat} {v : Int32} (hdg : decode cc pc = .ok (.ldc_w index, 3)) (hc : Cond.constant own index v ∈ Ts) (hp : pc + 3 = pc') (k : V p l e R s m args below meth c cells slots Q D A nL pc' lv (.int v :: st) ws) : V p l e R s m args below meth c cells slots Q D A nL pc lv st ws := by
  obtain ⟨hx, hb, hml, hown, hts, hK, hA, hlk, hSF, hNS⟩ := F
  subst hp
  exact fun H locs ls hP hD hS hl => lv_ldcw hx hb hown (hts _ hc) hdg (k H locs ls hP hD hS hl)
end ROWS3
def sumC (sx : Nat → Nat) : Nat → Nat
  | 0 => 0
  | k + 1 => sumC sx k + dT (sx k)
def sumG (sx : Nat → Nat) : Nat → Nat
  | 0 => 0
  | k + 1 => sumG sx k + oneN (sx k / 2500) 4
theorem sumC_le (sx : Nat → Nat) : ∀ k, sumC sx k ≤ 16 * k
  | 0 => Nat.le_refl 0
  | k + 1 => by
    have h := sumC_le sx k
    have h2 := dT_lt (sx k)
    unfold sumC; omega
theorem sumG_le (sx : Nat → Nat) : ∀ k, sumG sx k ≤ 4 * k
  | 0 => Nat.le_refl 0
  | k + 1 => by
    have h := sumG_le sx k
    have h2 := oneN_le (sx k / 2500) 4
    unfold sumG; omega
def countV (pe : Nat) (sx : Nat → Nat) (ac tm pg lr sd w : Nat) : Nat := if w = 0 then sumC sx pe else if w = 1 then pe else if w = 2 then sumG sx pe else if w = 3 then ac else if w = 4 then tm else if w = 5 then pg else if w = 6 then lr else sd
def A_count (pe : Nat) (sx : Nat → Nat) (ac tm pg lr sd : Nat) (x : Int32) : Int32 := if inR (nI 0) x (nI 7) then nI (countV pe sx ac tm pg lr sd (tN x)) else -102
/-! draws: a seed goes to the next; of what is open, the one that the seed tells -/
def sdN (s : Nat) : Nat := (1103515245 * s + 12345) % 2147483648
theorem sdN_lt (s : Nat) : sdN s < 2147483648 := Nat.mod_lt _ (by decide)
def pick (L : List Nat) (x : Nat) : Nat := L[x % L.length]?.getD 0
def wkN (B : Nat → Nat → Option Nat) : Nat → Nat × Nat → Nat × Nat
  | 0, q => q
  | k + 1, q => (pick (opL (B (wkN B k q).1)) (sdN (wkN B k q).2 / 65536), sdN (wkN B k q).2)
theorem wkN_s {B : Nat → Nat → Option Nat} {j : Nat} {q : Nat × Nat} {n s k : Nat} (h : wkN B j q = (n, s)) (hk : (opL (B n))[sdN s / 65536 % (opL (B n)).length]? = some k) : wkN B (j + 1) q = (k, sdN s) := by
  show (pick (opL (B (wkN B j q).1)) (sdN (wkN B j q).2 / 65536), sdN (wkN B j q).2) = _
  rw [h]
  show (pick (opL (B n)) (sdN s / 65536), sdN s) = _
  unfold pick
  rw [hk]; rfl
def walkV (q : Nat × Nat) (w : Nat) : Nat := if w = 0 then q.1 % 4 else if w = 1 then dT q.1 else if w = 2 then q.1 / 2500 else q.2
def A_walk (pe : Nat) (tk gv pr py ks sx : Nat → Nat) (x y z v : Int32) : Int32 := if isP pe x then (if inR (nI 1) y (nI 60) then (if z < 0 then -102 else if inR (nI 0) v (nI 3) then nI (walkV (wkN (mB (ks (tN x)) tk gv pr py) (tN y) (sx (tN x), tN z)) (tN v)) else -102) else -102) else -101
/-- the acts by the reference: all numbers below j, those that are acts -/
def opM (f : Nat → Option Nat) (j : Nat) : List Nat := (List.range j).filterMap (fun a => if aOk a then f a else none)
theorem opM_0 (f : Nat → Option Nat) : opM f 0 = [] := rfl
theorem opM_no {f : Nat → Option Nat} {j : Nat} (h : ¬ aOk j) : opM f (j + 1) = opM f j := by
  unfold opM; rw [List.range_succ, List.filterMap_append]; simp [if_neg h]
theorem opM_none {f : Nat → Option Nat} {j : Nat} (h : f j = none) : opM f (j + 1) = opM f j := by
  unfold opM; rw [List.range_succ, List.filterMap_append]
  by_cases q : aOk j <;> simp [q, h]
theorem opM_some {f : Nat → Option Nat} {j k : Nat} (ha : aOk j) (h : f j = some k) : opM f (j + 1) = opM f j ++ [k] := by
  unfold opM; rw [List.range_succ, List.filterMap_append]
  simp only [List.filterMap_cons, if_pos ha, h, List.filterMap_nil]
theorem opM_24 (f : Nat → Option Nat) : opM f 24 = opL f := by
  unfold opM opL
  rw [show acL = (List.range 24).filter (fun a => decide (aOk a)) by unfold aOk; decide, List.filterMap_filter]
  apply fm_congr
  intro a _
  by_cases h : aOk a <;> simp [h]
theorem opM_le (f : Nat → Option Nat) : ∀ j, (opM f j).length ≤ j
  | 0 => Nat.le_refl 0
  | j + 1 => by
    have h := opM_le f j
    by_cases q : aOk j
    · cases h2 : f j with
      | none => rw [opM_none h2]; omega
      | some k => rw [opM_some q h2, List.length_append]; simp; omega
    · rw [opM_no q]; omega
theorem aOkI_j {j : Nat} (hj : j ≤ 24) (h : aOkI (nI j)) : aOk j := (aOkI_nI (by omega)).mp h
theorem aOkI_nj {j : Nat} (hj : j ≤ 24) (h : ¬ aOkI (nI j)) : ¬ aOk j := fun q => h ((aOkI_nI (by omega)).mpr q)
theorem lef_0 {x : Int32} : x - nI 0 = x := by rw [show nI 0 = (0 : Int32) from nI_0, Int32.sub_zero]
theorem lef_1 {p ct : Nat} : nI p - nI ct - nI 1 = nI p - nI (ct + 1) := by
  rw [← nI_add ct 1, Int32.sub_eq_add_neg, Int32.sub_eq_add_neg, Int32.sub_eq_add_neg, Int32.neg_add, Int32.sub_eq_add_neg, Int32.add_assoc]
theorem lef_z {p ct : Nat} (hp : p < 2 ^ 31) (hc : ct < 2 ^ 31) : nI p - nI ct = 0 ↔ p = ct := by
  refine ⟨fun h => (nI_eq hp hc).mp ?_, fun h => by rw [h, Int32.sub_self]⟩
  have h2 : nI p - nI ct + nI ct = 0 + nI ct := by rw [h]
  rwa [Int32.sub_add_cancel, Int32.zero_add] at h2
/-- the one picked among the first j numbers; before it comes, where one is -/
theorem act_keep {f : Nat → Option Nat} {j p n fo : Nat} (h : fo = ((opM f j)[p]?).getD n) (h2 : opM f (j + 1) = opM f j) : fo = ((opM f (j + 1))[p]?).getD n := by rw [h2]; exact h
theorem act_hit {f : Nat → Option Nat} {j p n k : Nat} (ha : aOk j) (hk : f j = some k) (hp : p = (opM f j).length) : k = ((opM f (j + 1))[p]?).getD n := by
  rw [opM_some ha hk, hp]; simp
theorem act_miss {f : Nat → Option Nat} {j p n k fo : Nat} (h : fo = ((opM f j)[p]?).getD n) (ha : aOk j) (hk : f j = some k) (hp : ¬ p = (opM f j).length) : fo = ((opM f (j + 1))[p]?).getD n := by
  rw [opM_some ha hk, h]
  rcases Nat.lt_or_ge p (opM f j).length with q | q
  · rw [List.getElem?_append_left q]
  · rw [List.getElem?_eq_none q, List.getElem?_eq_none (by rw [List.length_append]; simp; omega)]
theorem act_end {f : Nat → Option Nat} {p n fo : Nat} (h : fo = ((opM f 24)[p]?).getD n) (hp : p < (opL f).length) : (opL f)[p]? = some fo := by
  rw [opM_24] at h
  rw [h, List.getElem?_eq_getElem hp]; rfl
theorem up_up {α : Type} (f : Nat → α) (k : Nat) (x y : α) : va_up (va_up f k x) k y = va_up f k y := by
  funext j
  by_cases h : j = k <;> simp [va_up, h]
theorem opL_lt {k : Nat} {tk gv pr py : Nat → Nat} {n x z : Nat} (hw : WL tk gv pr py) (hn : n < 40000) (h : (opL (mB k tk gv pr py n))[x]? = some z) : z < 40000 := by
  obtain ⟨a, ha, hz⟩ := opL_mem (List.mem_of_getElem? h)
  exact bh_lt (WL_WD k hw) hn ha hz
