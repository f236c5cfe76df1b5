/-! rows of the law: its script, its end -/
section LAWROWS
variable {p : Program} {l : Launch} {e : Env} {R : Room} {s : State} {m : MethodId} {args : Array Value} {below : List Frame} {meth : Method} {c : Code} {cells slots : Nat} {Q : State → Prop} {D : va_G} {A : Nat → Prop} {nL : Nat} {cc : ByteArray} {Ts : List Cond} {own : String} {G : gT}
variable {pc pc' : Nat} {lv : List (Nat × Value)} {st : List Value} {ws : va_W}
theorem v_sld (F : Fx p s m args meth c cc nL Ts own D A G) {b L j : Nat} {xs : Nat → Int32} (hX : va_X b L xs s s.heap) (hbl : b < s.heap.size) (hbA : ¬ A b) (hj : j < L) (hL : L ≤ 320) (hdg : decode cc pc = .ok (.iaload, 1)) (hp : pc + 1 = pc') (kk : V p l e R s m args below meth c cells slots Q D A nL pc' lv (.int (xs j) :: st) ws) : V p l e R s m args below meth c cells slots Q D A nL pc lv (.int (nI j) :: .ref b :: st) ws := by
  obtain ⟨hx, hb, hml, hown, hts, hK, hA, hlk, hSF, hNS⟩ := F
  subst hp
  intro H locs ls hP hD hS hl
  have e := nI_clamp (n := j) (by omega)
  refine va_sld hx hb hX hbl hbA hS (i := nI j) (vp_in_nI hj (by omega)) hdg ?_
  rw [e]
  exact kk H locs ls hP hD hS hl
theorem v_slen (F : Fx p s m args meth c cc nL Ts own D A G) {b L : Nat} {xs : Nat → Int32} (hX : va_X b L xs s s.heap) (hbl : b < s.heap.size) (hbA : ¬ A b) (hdg : decode cc pc = .ok (.arraylength, 1)) (hp : pc + 1 = pc') (kk : V p l e R s m args below meth c cells slots Q D A nL pc' lv (.int (nI L) :: st) ws) : V p l e R s m args below meth c cells slots Q D A nL pc lv (.ref b :: st) ws := by
  obtain ⟨hx, hb, hml, hown, hts, hK, hA, hlk, hSF, hNS⟩ := F
  subst hp
  exact fun H locs ls hP hD hS hl => va_slen hx hb hX hbl hbA hS hdg (kk H locs ls hP hD hS hl)
theorem v_topl {x y : Int64} (h : x = y) (k : V p l e R s m args below meth c cells slots Q D A nL pc lv (.long y :: st) ws) : V p l e R s m args below meth c cells slots Q D A nL pc lv (.long x :: st) ws := by rw [h]; exact k
end LAWROWS
theorem law_fin {p : Program} {l : Launch} {e : Env} {s : State} {m : MethodId} {below : List Frame} {meth : Method} {c : Code} {cells slots b pc : Nat} {D : va_G} {A : Nat → Prop} {Ts : List Cond} {own : String} {G : gT} {lv : List (Nat × Value)} {ws : va_W} (F : Fx p s m #[Value.ref b] meth c code 4 Ts own D A G) (hr : meth.sig.returnType = ret) (hA : ∀ q, A q → s.heap.size ≤ q) (h1 : cells ≤ 600000) (h2 : slots ≤ 7302250) (hdg : decode code pc = .ok (.ireturn, 1)) : V p l e room_1 s m #[Value.ref b] below meth c cells slots (lw_Z below #[Value.ref b] s) D A 4 pc lv [.int (nI 1)] ws := by
  intro H locs ls hP hD hS hl
  refine va_forget (fun q hq => hA _ (hS.2.2 q hq)) ?_
  refine W.widen h1 h2 ?_
  exact lw_ret F.1 F.2.1 hr F.2.2.2.2.2.2.2.1 hdg
theorem lg_self (a : Int64) : lg_cmp a a = 0 := by
  unfold lg_cmp
  rw [if_neg (show ¬ a < a from Int64.lt_irrefl), if_pos rfl]
theorem lN_all (v : Int64) : ∃ n, n < 2 ^ 64 ∧ v = lN n := by
  refine ⟨v.toUInt64.toNat, v.toUInt64.toBitVec.isLt, ?_⟩
  apply Int64.toBitVec_inj.mp
  simp [lN]
theorem sw31 (x : Int32) : ∃ k, k < 32 ∧ x &&& nI 31 = nI k := by
  have h : x &&& nI 31 = nI ((x.toUInt32.toNat) % 32) := by
    apply Int32.toBitVec_inj.mp
    apply BitVec.eq_of_toNat_eq
    rw [Int32.toBitVec_and, BitVec.toNat_and]
    show x.toBitVec.toNat &&& (BitVec.ofNat 32 31).toNat = (BitVec.ofNat 32 (x.toUInt32.toNat % 32)).toNat
    rw [BitVec.toNat_ofNat, BitVec.toNat_ofNat]
    have e : (31 : Nat) % 2 ^ 32 = 2 ^ 5 - 1 := by decide
    have e2 : x.toUInt32.toNat % 32 % 2 ^ 32 = x.toUInt32.toNat % 32 := Nat.mod_eq_of_lt (by omega)
    rw [e, Nat.and_two_pow_sub_one_eq_mod, e2]
    rfl
  exact ⟨_, Nat.mod_lt _ (by decide), h⟩
theorem law_end {i L : Nat} (hi : i ≤ 400) (hL : L ≤ 320) : (nI L - nI 5 < nI i) ↔ L < i + 5 := by
  have e1 : (nI L).toInt = (L : Int) := nI_toInt (by omega)
  have e2 : (nI i).toInt = (i : Int) := nI_toInt (by omega)
  have e3 : (nI 5).toInt = 5 := by decide
  have e4 : (nI L - nI 5).toInt = (L : Int) - 5 := by
    rw [Int32.toInt_sub, e1, e3]
    exact Int.bmod_eq_of_le (by omega) (by omega)
  rw [Int32.lt_iff_toInt_lt, e4, e2]
  omega
/-! what both tell of a trail -/
theorem wy_eq {tg tp kd pe sf sz tm : Nat} {tk gv pr py ks tw : Nat → Nat} (h : ¬ tg = 0 → kd = ks tp ∧ tp < pe) (hm : tm = if tg = 0 then 0 else sz) : ¬ tg = 0 → wyT (mB (ks tp) tk gv pr py) sf tw tm = wyT (mB kd tk gv pr py) sf tw sz := fun q => by rw [(h q).1, hm, if_neg q]
theorem ways_c {tg : Nat} {w w2 : Nat → Nat} (h : ¬ tg = 0 → w = w2) : A_ways tg w = A_ways tg w2 := by
  by_cases q : tg = 0
  · unfold A_ways; rw [if_pos q, if_pos q]
  · rw [h q]
theorem ends_c {tg : Nat} {w w2 : Nat → Nat} (h : ¬ tg = 0 → w = w2) : A_ends tg w = A_ends tg w2 := by
  by_cases q : tg = 0
  · unfold A_ends; rw [if_pos q, if_pos q]
  · rw [h q]
theorem dig_c {lr pe tg pl ac tm sd : Nat} {tk gv pr py ks sx w w2 pg : Nat → Nat} (h : ¬ tg = 0 → w = w2) : A_digest lr tk gv pr py pe ks sx tg w pg pl ac tm sd = A_digest lr tk gv pr py pe ks sx tg w2 pg pl ac tm sd := by
  by_cases q : tg = 0
  · have e : ∀ h, dgR tg w h = dgR tg w2 h := fun h => by unfold dgR; rw [if_pos q, if_pos q]
    unfold A_digest
    show dgW _ 8 (dgW pg pl (dgR tg w _)) = dgW _ 8 (dgW pg pl (dgR tg w2 _))
    rw [e]
  · rw [h q]
