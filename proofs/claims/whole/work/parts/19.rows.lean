section ROWS2
variable {p : Program} {l : Launch} {e : Env} {R : Room} {s : State} {m : MethodId} {args : Array Value} {below : List Frame} {meth : Method} {c : Code} {cells slots : Nat} {Q : State → Prop} {D : va_G} {A : Nat → Prop} {nL : Nat} {cc : ByteArray} {Ts : List Cond} {own : String} {G : gT}
variable {pc pc' : Nat} {lv lv' : List (Nat × Value)} {st : List Value} {ws ws' : va_W}
theorem v_nswI (F : Fx p s m args meth c cc nL Ts own D A G) {dflt lo hi : Int} {offs : Array Int} {len w k : Nat} {off : Int} {tgt : Nat} (hdg : decode cc pc = .ok (.tableswitch dflt lo hi offs, len)) (hw : w = k) (hk : k < 2 ^ 31) (h1 : lo ≤ (k : Int)) (h2 : (k : Int) ≤ hi) (ho : offs[((k : Int) - lo).toNat]? = some off) (ht : (pc : Int) + off = (tgt : Int)) (kk : V p l e R s m args below meth c cells slots Q D A nL tgt lv st ws) : V p l e R s m args below meth c cells slots Q D A nL pc lv (.int (nI w) :: st) ws := by
  subst hw
  have e : (nI w).toInt = (w : Int) := nI_toInt hk
  refine v_tableIn F hdg ?_ ?_ ?_ ht kk
  · rw [e]; omega
  · rw [e]; omega
  · rw [e]; exact ho
theorem v_nswO (F : Fx p s m args meth c cc nL Ts own D A G) {dflt lo hi : Int} {offs : Array Int} {len w : Nat} {tgt : Nat} (hdg : decode cc pc = .ok (.tableswitch dflt lo hi offs, len)) (h1 : hi < (w : Int)) (hw : w < 2 ^ 31) (ht : (pc : Int) + dflt = (tgt : Int)) (kk : V p l e R s m args below meth c cells slots Q D A nL tgt lv st ws) : V p l e R s m args below meth c cells slots Q D A nL pc lv (.int (nI w) :: st) ws := by
  have e : (nI w).toInt = (w : Int) := nI_toInt hw
  refine v_tableOut F hdg ?_ ht kk
  rw [e]; omega
theorem v_rswO (F : Fx p s m args meth c cc nL Ts own D A G) {dflt : Int} {hi : Nat} {offs : Array Int} {len : Nat} {x : Int32} {tgt : Nat} (hdg : decode cc pc = .ok (.tableswitch dflt 0 (hi : Int) offs, len)) (hb : hi < 2 ^ 31) (h : ¬ inR (nI 0) x (nI hi)) (ht : (pc : Int) + dflt = (tgt : Int)) (kk : V p l e R s m args below meth c cells slots Q D A nL tgt lv st ws) : V p l e R s m args below meth c cells slots Q D A nL pc lv (.int x :: st) ws := by
  refine v_tableOut F hdg ?_ ht kk
  have e0 : (nI 0).toInt = 0 := by decide
  have e1 : (nI hi).toInt = (hi : Int) := nI_toInt hb
  by_cases q : x.toInt < 0
  · exact Or.inl q
  · refine Or.inr ?_
    by_cases q2 : (hi : Int) < x.toInt
    · exact q2
    · refine absurd ?_ h
      unfold inR
      rw [Int32.le_iff_toInt_le, Int32.le_iff_toInt_le, e0, e1]
      omega
end ROWS2
