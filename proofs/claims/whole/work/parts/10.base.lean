abbrev vwCl : List vw_C := [(RX0, TX0, 4), (RX1, TX1, 5), (RX3, TX3, 6), (RX4, TX4, 2), (RX5, TX5, 2), (RX6, TX6, 6), (RX8, TX8, 7), (RX9, TX9, 12), (RX10, TX10, 38)]
/-! the static tables: the constants of Kind, ACTS, KINDS -/
def nmK : List String := ["PERSON", "BEGGAR", "THIEF", "MERCHANT", "SMUGGLER"]
def FK : List (String × String × String × List Int32) := [("OtherCoins$Kind", "number", "I", [0, 1, 2, 3, 4]), ("OtherCoins$Kind", "costsLess", "I", [0, 1, 0, 0, 0]), ("OtherCoins$Kind", "getsMore", "I", [0, 0, 0, 1, 2]), ("OtherCoins$Kind", "paysWithAny", "Z", [0, 0, 1, 0, 1])]
def actN (j : Nat) : Nat := if j < 4 then j else if j < 8 then j + 6 else j + 12
/-- the addresses of the constants, of ACTS, of KINDS; the numbers of the array kinds int[], byte[], Person[] -/
abbrev gT : Type := (Nat → Nat) × Nat × Nat × ClassId × ClassId × ClassId
abbrev gAd (G : gT) : Nat → Nat := G.1
abbrev gA (G : gT) : Nat := G.2.1
abbrev gK (G : gT) : Nat := G.2.2.1
abbrev gI (G : gT) : ClassId := G.2.2.2.1
abbrev gB (G : gT) : ClassId := G.2.2.2.2.1
abbrev gP (G : gT) : ClassId := G.2.2.2.2.2
abbrev tyW (G : gT) : List (ClassId × FieldType) := [(gI G, .int), (gB G, .byte), (gP G, .object "OtherCoins$Person")]
def SF (G : gT) (A : Nat → Prop) (U : State) (H : Heap) : Prop := va_En "OtherCoins$Kind" "LOtherCoins$Kind;" nmK FK (gAd G) A U H ∧ va_Z "OtherCoins" "ACTS" "[I" (.ref (gA G)) A U H ∧ va_T .int (gA G) 12 (fun j => .int (nI (actN j))) A U H ∧ va_Z "OtherCoins" "KINDS" "[LOtherCoins$Kind;" (.ref (gK G)) A U H ∧ va_T (.object "OtherCoins$Kind") (gK G) 5 (fun j => .ref (gAd G j)) A U H
theorem SF.moved {G : gT} {A : Nat → Prop} {u U : State} {H : Heap} (hvm : u.vm.Alike U.vm) (h : SF G A u H) : SF G A U H := ⟨va_En.moved hvm h.1, va_Z.moved hvm h.2.1, va_T.moved hvm h.2.2.1, va_Z.moved hvm h.2.2.2.1, va_T.moved hvm h.2.2.2.2⟩
theorem SF.kept {G : gT} {A : Nat → Prop} {U : State} {H H1 : Heap} (h : SF G A U H) (hq : ∀ a : Nat, a < H.size → ¬ A a → H1[a]? = H[a]?) : SF G A U H1 := ⟨h.1.kept hq, h.2.1.kept hq, h.2.2.1.kept hq, h.2.2.2.1.kept hq, h.2.2.2.2.kept hq⟩
theorem SF.narrow {G : gT} {A B : Nat → Prop} {U : State} {H : Heap} (h : SF G A U H) (hAB : ∀ q, B q → A q) : SF G B U H := ⟨h.1.narrow hAB, h.2.1.narrow hAB, h.2.2.1.narrow hAB, h.2.2.2.1.narrow hAB, h.2.2.2.2.narrow hAB⟩
/-- an int array of whole numbers; a byte array; an array of references -/
def aI (G : gT) (n : Nat) (g : Nat → Nat) : va_E := .inl (gI G, n, .inl (fun j => nI (g j)))
def aB (G : gT) (n : Nat) (g : Nat → Nat) : va_E := .inl (gB G, n, .inl (fun j => nI (g j)))
def aP (G : gT) (n : Nat) (g : Nat → Nat) : va_E := .inl (gP G, n, .inr (.inr (.inr (.inr (fun j => some (g j))))))
/-- links to nest mates -/
def NS (U : State) : Prop := va_Nw (.fieldLinkNest RX6 78 "OtherCoins" "ACTS" "[I" "OtherCoins") U ∧ va_Nw (.fieldLinkNest RX8 69 "OtherCoins" "ACTS" "[I" "OtherCoins") U ∧ va_Nw (.fieldLinkNest RX0 58 "OtherCoins" "ACTS" "[I" "OtherCoins") U ∧ va_Nw (.methodLinkNest RX3 75 yX9_isCoin "OtherCoins") U ∧ va_Nw (.methodLinkNest RX3 69 yX9_isPrice "OtherCoins") U ∧ va_Nw (.methodLinkNest RX9 9 yX4_init "OtherCoins") U ∧ va_Nw (.methodLinkNest RX9 24 yX0_init "OtherCoins") U ∧ va_Nw (.methodLinkNest RX9 31 yX6_init "OtherCoins") U ∧ va_Nw (.methodLinkNest RX9 38 yX8_init "OtherCoins") U ∧ va_Nw (.methodLinkNest RX9 45 yX1_init "OtherCoins") U ∧ va_Nw (.methodLinkNest RX9 52 yX3_init "OtherCoins") U ∧ va_Nw (.methodLinkNest RX9 60 yX5_init "OtherCoins") U
theorem NS.warm {s U : State} (hW : s.WarmedH U.vm) (h : NS s) : NS U := ⟨h.1.warmF hW, h.2.1.warmF hW, h.2.2.1.warmF hW, h.2.2.2.1.warmM hW, h.2.2.2.2.1.warmM hW, h.2.2.2.2.2.1.warmM hW, h.2.2.2.2.2.2.1.warmM hW, h.2.2.2.2.2.2.2.1.warmM hW, h.2.2.2.2.2.2.2.2.1.warmM hW, h.2.2.2.2.2.2.2.2.2.1.warmM hW, h.2.2.2.2.2.2.2.2.2.2.1.warmM hW, h.2.2.2.2.2.2.2.2.2.2.2.warmM hW⟩
theorem NS.same {s U : State} (e : s.vm = U.vm) (h : NS s) : NS U := ⟨h.1.same rfl e, h.2.1.same rfl e, h.2.2.1.same rfl e, h.2.2.2.1.same rfl e, h.2.2.2.2.1.same rfl e, h.2.2.2.2.2.1.same rfl e, h.2.2.2.2.2.2.1.same rfl e, h.2.2.2.2.2.2.2.1.same rfl e, h.2.2.2.2.2.2.2.2.1.same rfl e, h.2.2.2.2.2.2.2.2.2.1.same rfl e, h.2.2.2.2.2.2.2.2.2.2.1.same rfl e, h.2.2.2.2.2.2.2.2.2.2.2.same rfl e⟩
theorem upd_nI (g : Nat → Nat) (i x : Nat) : upd (fun j => nI (g j)) i (nI x) = fun j => nI (va_up g i x j) := by
  funext j
  by_cases h : j = i <;> simp [upd, va_up, h]
def Fx (p : Program) (s : State) (m : MethodId) (args : Array Value) (meth : Method) (c : Code) (cc : ByteArray) (nL : Nat) (Ts : List Cond) (own : String) (D : va_G) (A : Nat → Prop) (G : gT) : Prop :=
  p.tables.exec = Jvm.exec ∧ c.code = cc ∧ c.maxLocals = nL ∧ s.vm.findClass own = some m.cls ∧ (∀ w ∈ Ts, w.before args s = true) ∧ va_K D vwCl (tyW G) s ∧ (∀ q : Nat, s.heap.size ≤ q → A q) ∧ meth.locks = false ∧ SF G A s s.heap ∧ NS s
/-- the machine at pc, the locals lv, the stack st, the world ws, comes to Q -/
def V (p : Program) (l : Launch) (e : Env) (R : Room) (s : State) (m : MethodId) (args : Array Value) (below : List Frame) (meth : Method) (c : Code) (cells slots : Nat) (Q : State → Prop) (D : va_G) (A : Nat → Prop) (nL pc : Nat) (lv : List (Nat × Value)) (st : List Value) (ws : va_W) : Prop :=
  ∀ (H : Heap) (locs : List Loc) (ls : Array Slot), va_P D vwCl ws H → va_D A ws → va_S A s.heap H locs → lv_has ls nL lv → W p l e R s m args below meth c H locs cells slots Q (F0 m pc ls st)
section ROWS
variable {p : Program} {l : Launch} {e : Env} {R : Room} {s : State} {m : MethodId} {args : Array Value} {below : List Frame} {meth : Method} {c : Code} {cells slots : Nat} {Q : State → Prop} {D : va_G} {A : Nat → Prop} {nL : Nat} {cc : ByteArray} {Ts : List Cond} {own : String} {G : gT}
variable {pc pc' : Nat} {lv lv' : List (Nat × Value)} {st : List Value} {ws ws' : va_W}
theorem v_iconst (F : Fx p s m args meth c cc nL Ts own D A G) {n : Int} {v : Int32} (hdg : decode cc pc = .ok (.iconst n, 1)) (hv : Int32.ofInt n = v) (hp : pc + 1 = pc') (k : V p l e R s m args below meth c cells slots Q D A nL pc' lv (.int v :: st) ws) : V p l e R s m args below meth c cells slots Q D A nL pc lv st ws := by
  obtain ⟨hx, hb, hml, hown, hts, hK, hA, hlk, hSF, hNS⟩ := F
  subst hp
  exact fun H locs ls hP hD hS hl => lv_iconst hx hb hdg hv (k H locs ls hP hD hS hl)
theorem v_bipush (F : Fx p s m args meth c cc nL Ts own D A G) {n : Int} {v : Int32} (hdg : decode cc pc = .ok (.bipush n, 2)) (hv : (Int8.ofInt n).toInt32 = v) (hp : pc + 2 = pc') (k : V p l e R s m args below meth c cells slots Q D A nL pc' lv (.int v :: st) ws) : V p l e R s m args below meth c cells slots Q D A nL pc lv st ws := by
  obtain ⟨hx, hb, hml, hown, hts, hK, hA, hlk, hSF, hNS⟩ := F
  subst hp
  exact fun H locs ls hP hD hS hl => lv_bipush hx hb hdg hv (k H locs ls hP hD hS hl)
theorem v_sipush (F : Fx p s m args meth c cc nL Ts own D A G) {n : Int} {v : Int32} (hdg : decode cc pc = .ok (.sipush n, 3)) (hv : (Int16.ofInt n).toInt32 = v) (hp : pc + 3 = pc') (k : V p l e R s m args below meth c cells slots Q D A nL pc' lv (.int v :: st) ws) : V p l e R s m args below meth c cells slots Q D A nL pc lv st ws := by
  obtain ⟨hx, hb, hml, hown, hts, hK, hA, hlk, hSF, hNS⟩ := F
  subst hp
  exact fun H locs ls hP hD hS hl => lv_sipush hx hb hdg hv (k H locs ls hP hD hS hl)
theorem v_lconst (F : Fx p s m args meth c cc nL Ts own D A G) {n : Fin 2} {v : Int64} (hdg : decode cc pc = .ok (.lconst n, 1)) (hv : Int64.ofNat (n : Nat) = v) (hp : pc + 1 = pc') (k : V p l e R s m args below meth c cells slots Q D A nL pc' lv (.long v :: st) ws) : V p l e R s m args below meth c cells slots Q D A nL pc lv st ws := by
  obtain ⟨hx, hb, hml, hown, hts, hK, hA, hlk, hSF, hNS⟩ := F
  subst hp
  exact fun H locs ls hP hD hS hl => lv_lconst hx hb hdg hv (k H locs ls hP hD hS hl)
theorem v_ldc (F : Fx p s m args meth c cc nL Ts own D A G) {index : Nat} {v : Int32} (hdg : decode cc pc = .ok (.ldc index, 2)) (hc : Cond.constant own index v ∈ Ts) (hp : pc + 2 = pc') (k : V p l e R s m args below meth c cells slots Q D A nL pc' lv (.int v :: st) ws) : V p l e R s m args below meth c cells slots Q D A nL pc lv st ws := by
  obtain ⟨hx, hb, hml, hown, hts, hK, hA, hlk, hSF, hNS⟩ := F
  subst hp
  exact fun H locs ls hP hD hS hl => lv_ldc hx hb hown (hts _ hc) hdg (k H locs ls hP hD hS hl)
theorem v_ldc2 (F : Fx p s m args meth c cc nL Ts own D A G) {index : Nat} {v : Int64} (hdg : decode cc pc = .ok (.ldc2_w index, 3)) (hc : Cond.constantLong own index v ∈ Ts) (hp : pc + 3 = pc') (k : V p l e R s m args below meth c cells slots Q D A nL pc' lv (.long v :: st) ws) : V p l e R s m args below meth c cells slots Q D A nL pc lv st ws := by
  obtain ⟨hx, hb, hml, hown, hts, hK, hA, hlk, hSF, hNS⟩ := F
  subst hp
  exact fun H locs ls hP hD hS hl => lv_ldc2 hx hb hown (hts _ hc) hdg (k H locs ls hP hD hS hl)
theorem v_iload_n (F : Fx p s m args meth c cc nL Ts own D A G) {f : Fin 4} {i : Nat} {x : Int32} (hdg : decode cc pc = .ok (.iload_n f, 1)) (hi : (f : Nat) = i) (q : Nat) (hq : lv[q]? = some (i, .int x)) (hp : pc + 1 = pc') (k : V p l e R s m args below meth c cells slots Q D A nL pc' lv (.int x :: st) ws) : V p l e R s m args below meth c cells slots Q D A nL pc lv st ws := by
  obtain ⟨hx, hb, hml, hown, hts, hK, hA, hlk, hSF, hNS⟩ := F
  subst hp
  exact fun H locs ls hP hD hS hl => lv_iload_n hx hb hdg hi (lv_at hl q hq) (k H locs ls hP hD hS hl)
theorem v_iload (F : Fx p s m args meth c cc nL Ts own D A G) {i : Nat} {x : Int32} (hdg : decode cc pc = .ok (.iload i, 2)) (q : Nat) (hq : lv[q]? = some (i, .int x)) (hp : pc + 2 = pc') (k : V p l e R s m args below meth c cells slots Q D A nL pc' lv (.int x :: st) ws) : V p l e R s m args below meth c cells slots Q D A nL pc lv st ws := by
  obtain ⟨hx, hb, hml, hown, hts, hK, hA, hlk, hSF, hNS⟩ := F
  subst hp
  exact fun H locs ls hP hD hS hl => lv_iload hx hb hdg (lv_at hl q hq) (k H locs ls hP hD hS hl)
theorem v_lload_n (F : Fx p s m args meth c cc nL Ts own D A G) {f : Fin 4} {i : Nat} {x : Int64} (hdg : decode cc pc = .ok (.lload_n f, 1)) (hi : (f : Nat) = i) (q : Nat) (hq : lv[q]? = some (i, .long x)) (hp : pc + 1 = pc') (k : V p l e R s m args below meth c cells slots Q D A nL pc' lv (.long x :: st) ws) : V p l e R s m args below meth c cells slots Q D A nL pc lv st ws := by
  obtain ⟨hx, hb, hml, hown, hts, hK, hA, hlk, hSF, hNS⟩ := F
  subst hp
  exact fun H locs ls hP hD hS hl => lv_lload_n hx hb hdg hi (lv_at hl q hq) (k H locs ls hP hD hS hl)
theorem v_lload (F : Fx p s m args meth c cc nL Ts own D A G) {i : Nat} {x : Int64} (hdg : decode cc pc = .ok (.lload i, 2)) (q : Nat) (hq : lv[q]? = some (i, .long x)) (hp : pc + 2 = pc') (k : V p l e R s m args below meth c cells slots Q D A nL pc' lv (.long x :: st) ws) : V p l e R s m args below meth c cells slots Q D A nL pc lv st ws := by
  obtain ⟨hx, hb, hml, hown, hts, hK, hA, hlk, hSF, hNS⟩ := F
  subst hp
  exact fun H locs ls hP hD hS hl => lv_lload hx hb hdg (lv_at hl q hq) (k H locs ls hP hD hS hl)
theorem v_aload_n (F : Fx p s m args meth c cc nL Ts own D A G) {f : Fin 4} {i : Nat} {x : Nat} (hdg : decode cc pc = .ok (.aload_n f, 1)) (hi : (f : Nat) = i) (q : Nat) (hq : lv[q]? = some (i, .ref x)) (hp : pc + 1 = pc') (k : V p l e R s m args below meth c cells slots Q D A nL pc' lv (.ref x :: st) ws) : V p l e R s m args below meth c cells slots Q D A nL pc lv st ws := by
  obtain ⟨hx, hb, hml, hown, hts, hK, hA, hlk, hSF, hNS⟩ := F
  subst hp
  exact fun H locs ls hP hD hS hl => lv_aload_n hx hb hdg hi (lv_at hl q hq) (k H locs ls hP hD hS hl)
theorem v_aload (F : Fx p s m args meth c cc nL Ts own D A G) {i : Nat} {x : Nat} (hdg : decode cc pc = .ok (.aload i, 2)) (q : Nat) (hq : lv[q]? = some (i, .ref x)) (hp : pc + 2 = pc') (k : V p l e R s m args below meth c cells slots Q D A nL pc' lv (.ref x :: st) ws) : V p l e R s m args below meth c cells slots Q D A nL pc lv st ws := by
  obtain ⟨hx, hb, hml, hown, hts, hK, hA, hlk, hSF, hNS⟩ := F
  subst hp
  exact fun H locs ls hP hD hS hl => lv_aload hx hb hdg (lv_at hl q hq) (k H locs ls hP hD hS hl)
theorem v_istore_n (F : Fx p s m args meth c cc nL Ts own D A G) {f : Fin 4} {i : Nat} {x : Int32} (hdg : decode cc pc = .ok (.istore_n f, 1)) (hi : (f : Nat) = i) (hn : i < nL) (hf : (i, Value.int x) :: lv.filter (fun q => !(q.1 == i) && !(q.1 + 1 == i && q.2.category == 2)) = lv') (hp : pc + 1 = pc') (k : V p l e R s m args below meth c cells slots Q D A nL pc' lv' st ws) : V p l e R s m args below meth c cells slots Q D A nL pc lv (.int x :: st) ws := by
  obtain ⟨hx, hb, hml, hown, hts, hK, hA, hlk, hSF, hNS⟩ := F
  subst hp
  exact fun H locs ls hP hD hS hl => lv_istore_n hx hb hdg hi hl hn hf (fun ls hl => k H locs ls hP hD hS hl)
theorem v_istore (F : Fx p s m args meth c cc nL Ts own D A G) {i : Nat} {x : Int32} (hdg : decode cc pc = .ok (.istore i, 2)) (hn : i < nL) (hf : (i, Value.int x) :: lv.filter (fun q => !(q.1 == i) && !(q.1 + 1 == i && q.2.category == 2)) = lv') (hp : pc + 2 = pc') (k : V p l e R s m args below meth c cells slots Q D A nL pc' lv' st ws) : V p l e R s m args below meth c cells slots Q D A nL pc lv (.int x :: st) ws := by
  obtain ⟨hx, hb, hml, hown, hts, hK, hA, hlk, hSF, hNS⟩ := F
  subst hp
  exact fun H locs ls hP hD hS hl => lv_istore hx hb hdg hl hn hf (fun ls hl => k H locs ls hP hD hS hl)
theorem v_astore_n (F : Fx p s m args meth c cc nL Ts own D A G) {f : Fin 4} {i : Nat} {x : Nat} (hdg : decode cc pc = .ok (.astore_n f, 1)) (hi : (f : Nat) = i) (hn : i < nL) (hf : (i, Value.ref x) :: lv.filter (fun q => !(q.1 == i) && !(q.1 + 1 == i && q.2.category == 2)) = lv') (hp : pc + 1 = pc') (k : V p l e R s m args below meth c cells slots Q D A nL pc' lv' st ws) : V p l e R s m args below meth c cells slots Q D A nL pc lv (.ref x :: st) ws := by
  obtain ⟨hx, hb, hml, hown, hts, hK, hA, hlk, hSF, hNS⟩ := F
  subst hp
  exact fun H locs ls hP hD hS hl => lv_astore_n hx hb hdg hi hl hn hf (fun ls hl => k H locs ls hP hD hS hl)
theorem v_astore (F : Fx p s m args meth c cc nL Ts own D A G) {i : Nat} {x : Nat} (hdg : decode cc pc = .ok (.astore i, 2)) (hn : i < nL) (hf : (i, Value.ref x) :: lv.filter (fun q => !(q.1 == i) && !(q.1 + 1 == i && q.2.category == 2)) = lv') (hp : pc + 2 = pc') (k : V p l e R s m args below meth c cells slots Q D A nL pc' lv' st ws) : V p l e R s m args below meth c cells slots Q D A nL pc lv (.ref x :: st) ws := by
  obtain ⟨hx, hb, hml, hown, hts, hK, hA, hlk, hSF, hNS⟩ := F
  subst hp
  exact fun H locs ls hP hD hS hl => lv_astore hx hb hdg hl hn hf (fun ls hl => k H locs ls hP hD hS hl)
theorem v_lstore_n (F : Fx p s m args meth c cc nL Ts own D A G) {f : Fin 4} {i : Nat} {x : Int64} (hdg : decode cc pc = .ok (.lstore_n f, 1)) (hi : (f : Nat) = i) (hn : i + 1 < nL) (hf : (i, Value.long x) :: lv.filter (fun q => !(q.1 == i) && (!(q.1 == i + 1) && !(q.1 + 1 == i && q.2.category == 2))) = lv') (hp : pc + 1 = pc') (k : V p l e R s m args below meth c cells slots Q D A nL pc' lv' st ws) : V p l e R s m args below meth c cells slots Q D A nL pc lv (.long x :: st) ws := by
  obtain ⟨hx, hb, hml, hown, hts, hK, hA, hlk, hSF, hNS⟩ := F
  subst hp
  exact fun H locs ls hP hD hS hl => lv_lstore_n hx hb hdg hi hl hn hf (fun ls hl => k H locs ls hP hD hS hl)
theorem v_lstore (F : Fx p s m args meth c cc nL Ts own D A G) {i : Nat} {x : Int64} (hdg : decode cc pc = .ok (.lstore i, 2)) (hn : i + 1 < nL) (hf : (i, Value.long x) :: lv.filter (fun q => !(q.1 == i) && (!(q.1 == i + 1) && !(q.1 + 1 == i && q.2.category == 2))) = lv') (hp : pc + 2 = pc') (k : V p l e R s m args below meth c cells slots Q D A nL pc' lv' st ws) : V p l e R s m args below meth c cells slots Q D A nL pc lv (.long x :: st) ws := by
  obtain ⟨hx, hb, hml, hown, hts, hK, hA, hlk, hSF, hNS⟩ := F
  subst hp
  exact fun H locs ls hP hD hS hl => lv_lstore hx hb hdg hl hn hf (fun ls hl => k H locs ls hP hD hS hl)
theorem v_iinc (F : Fx p s m args meth c cc nL Ts own D A G) {i : Nat} {n : Int} {x v : Int32} (hdg : decode cc pc = .ok (.iinc i n, 3)) (q : Nat) (hq : lv[q]? = some (i, .int x)) (hv : x + Int32.ofInt n = v) (hn : i < nL) (hf : (i, Value.int v) :: lv.filter (fun q => !(q.1 == i) && !(q.1 + 1 == i && q.2.category == 2)) = lv') (hp : pc + 3 = pc') (k : V p l e R s m args below meth c cells slots Q D A nL pc' lv' st ws) : V p l e R s m args below meth c cells slots Q D A nL pc lv st ws := by
  obtain ⟨hx, hb, hml, hown, hts, hK, hA, hlk, hSF, hNS⟩ := F
  subst hp
  exact fun H locs ls hP hD hS hl => lv_iinc hx hb hdg hl hq hv hn hf (fun ls hl => k H locs ls hP hD hS hl)
theorem v_iadd (F : Fx p s m args meth c cc nL Ts own D A G) {x y z : Int32} (hdg : decode cc pc = .ok (.iadd, 1)) (hv : x + y = z) (hp : pc + 1 = pc') (k : V p l e R s m args below meth c cells slots Q D A nL pc' lv (.int z :: st) ws) : V p l e R s m args below meth c cells slots Q D A nL pc lv (.int y :: .int x :: st) ws := by
  obtain ⟨hx, hb, hml, hown, hts, hK, hA, hlk, hSF, hNS⟩ := F
  subst hp
  subst hv
  exact fun H locs ls hP hD hS hl => lv_iadd hx hb hdg (k H locs ls hP hD hS hl)
theorem v_isub (F : Fx p s m args meth c cc nL Ts own D A G) {x y z : Int32} (hdg : decode cc pc = .ok (.isub, 1)) (hv : x - y = z) (hp : pc + 1 = pc') (k : V p l e R s m args below meth c cells slots Q D A nL pc' lv (.int z :: st) ws) : V p l e R s m args below meth c cells slots Q D A nL pc lv (.int y :: .int x :: st) ws := by
  obtain ⟨hx, hb, hml, hown, hts, hK, hA, hlk, hSF, hNS⟩ := F
  subst hp
  subst hv
  exact fun H locs ls hP hD hS hl => lv_isub hx hb hdg (k H locs ls hP hD hS hl)
theorem v_imul (F : Fx p s m args meth c cc nL Ts own D A G) {x y z : Int32} (hdg : decode cc pc = .ok (.imul, 1)) (hv : x * y = z) (hp : pc + 1 = pc') (k : V p l e R s m args below meth c cells slots Q D A nL pc' lv (.int z :: st) ws) : V p l e R s m args below meth c cells slots Q D A nL pc lv (.int y :: .int x :: st) ws := by
  obtain ⟨hx, hb, hml, hown, hts, hK, hA, hlk, hSF, hNS⟩ := F
  subst hp
  subst hv
  exact fun H locs ls hP hD hS hl => lv_imul hx hb hdg (k H locs ls hP hD hS hl)
theorem v_iand (F : Fx p s m args meth c cc nL Ts own D A G) {x y z : Int32} (hdg : decode cc pc = .ok (.iand, 1)) (hv : x &&& y = z) (hp : pc + 1 = pc') (k : V p l e R s m args below meth c cells slots Q D A nL pc' lv (.int z :: st) ws) : V p l e R s m args below meth c cells slots Q D A nL pc lv (.int y :: .int x :: st) ws := by
  obtain ⟨hx, hb, hml, hown, hts, hK, hA, hlk, hSF, hNS⟩ := F
  subst hp
  subst hv
  exact fun H locs ls hP hD hS hl => lv_iand hx hb hdg (k H locs ls hP hD hS hl)
theorem v_ior (F : Fx p s m args meth c cc nL Ts own D A G) {x y z : Int32} (hdg : decode cc pc = .ok (.ior, 1)) (hv : x ||| y = z) (hp : pc + 1 = pc') (k : V p l e R s m args below meth c cells slots Q D A nL pc' lv (.int z :: st) ws) : V p l e R s m args below meth c cells slots Q D A nL pc lv (.int y :: .int x :: st) ws := by
  obtain ⟨hx, hb, hml, hown, hts, hK, hA, hlk, hSF, hNS⟩ := F
  subst hp
  subst hv
  exact fun H locs ls hP hD hS hl => lv_ior hx hb hdg (k H locs ls hP hD hS hl)
theorem v_ixor (F : Fx p s m args meth c cc nL Ts own D A G) {x y z : Int32} (hdg : decode cc pc = .ok (.ixor, 1)) (hv : x ^^^ y = z) (hp : pc + 1 = pc') (k : V p l e R s m args below meth c cells slots Q D A nL pc' lv (.int z :: st) ws) : V p l e R s m args below meth c cells slots Q D A nL pc lv (.int y :: .int x :: st) ws := by
  obtain ⟨hx, hb, hml, hown, hts, hK, hA, hlk, hSF, hNS⟩ := F
  subst hp
  subst hv
  exact fun H locs ls hP hD hS hl => lv_ixor hx hb hdg (k H locs ls hP hD hS hl)
theorem v_ishl (F : Fx p s m args meth c cc nL Ts own D A G) {x y z : Int32} (hdg : decode cc pc = .ok (.ishl, 1)) (hv : x <<< (y &&& 31) = z) (hp : pc + 1 = pc') (k : V p l e R s m args below meth c cells slots Q D A nL pc' lv (.int z :: st) ws) : V p l e R s m args below meth c cells slots Q D A nL pc lv (.int y :: .int x :: st) ws := by
  obtain ⟨hx, hb, hml, hown, hts, hK, hA, hlk, hSF, hNS⟩ := F
  subst hp
  subst hv
  exact fun H locs ls hP hD hS hl => lv_ishl hx hb hdg (k H locs ls hP hD hS hl)
theorem v_ishr (F : Fx p s m args meth c cc nL Ts own D A G) {x y z : Int32} (hdg : decode cc pc = .ok (.ishr, 1)) (hv : x >>> (y &&& 31) = z) (hp : pc + 1 = pc') (k : V p l e R s m args below meth c cells slots Q D A nL pc' lv (.int z :: st) ws) : V p l e R s m args below meth c cells slots Q D A nL pc lv (.int y :: .int x :: st) ws := by
  obtain ⟨hx, hb, hml, hown, hts, hK, hA, hlk, hSF, hNS⟩ := F
  subst hp
  subst hv
  exact fun H locs ls hP hD hS hl => lv_ishr hx hb hdg (k H locs ls hP hD hS hl)
theorem v_idiv (F : Fx p s m args meth c cc nL Ts own D A G) {x y z : Int32} (hdg : decode cc pc = .ok (.idiv, 1)) (hne : ¬ y = 0) (hv : x / y = z) (hp : pc + 1 = pc') (k : V p l e R s m args below meth c cells slots Q D A nL pc' lv (.int z :: st) ws) : V p l e R s m args below meth c cells slots Q D A nL pc lv (.int y :: .int x :: st) ws := by
  obtain ⟨hx, hb, hml, hown, hts, hK, hA, hlk, hSF, hNS⟩ := F
  subst hp
  subst hv
  exact fun H locs ls hP hD hS hl => lv_idiv hx hb hdg hne (k H locs ls hP hD hS hl)
theorem v_irem (F : Fx p s m args meth c cc nL Ts own D A G) {x y z : Int32} (hdg : decode cc pc = .ok (.irem, 1)) (hne : ¬ y = 0) (hv : x - x / y * y = z) (hp : pc + 1 = pc') (k : V p l e R s m args below meth c cells slots Q D A nL pc' lv (.int z :: st) ws) : V p l e R s m args below meth c cells slots Q D A nL pc lv (.int y :: .int x :: st) ws := by
  obtain ⟨hx, hb, hml, hown, hts, hK, hA, hlk, hSF, hNS⟩ := F
  subst hp
  subst hv
  exact fun H locs ls hP hD hS hl => lv_irem hx hb hdg hne (k H locs ls hP hD hS hl)
theorem v_iushr (F : Fx p s m args meth c cc nL Ts own D A G) {x y z : Int32} (hdg : decode cc pc = .ok (.iushr, 1)) (hv : (x.toUInt32 >>> (y.toUInt32 &&& Int32.toUInt32 31)).toInt32 = z) (hp : pc + 1 = pc') (k : V p l e R s m args below meth c cells slots Q D A nL pc' lv (.int z :: st) ws) : V p l e R s m args below meth c cells slots Q D A nL pc lv (.int y :: .int x :: st) ws := by
  obtain ⟨hx, hb, hml, hown, hts, hK, hA, hlk, hSF, hNS⟩ := F
  subst hp
  exact fun H locs ls hP hD hS hl => lv_iushr hx hb hdg hv (k H locs ls hP hD hS hl)
theorem v_ineg (F : Fx p s m args meth c cc nL Ts own D A G) {x z : Int32} (hdg : decode cc pc = .ok (.ineg, 1)) (hv : -x = z) (hp : pc + 1 = pc') (k : V p l e R s m args below meth c cells slots Q D A nL pc' lv (.int z :: st) ws) : V p l e R s m args below meth c cells slots Q D A nL pc lv (.int x :: st) ws := by
  obtain ⟨hx, hb, hml, hown, hts, hK, hA, hlk, hSF, hNS⟩ := F
  subst hp
  subst hv
  exact fun H locs ls hP hD hS hl => lv_ineg hx hb hdg (k H locs ls hP hD hS hl)
theorem v_ladd (F : Fx p s m args meth c cc nL Ts own D A G) {x y z : Int64} (hdg : decode cc pc = .ok (.ladd, 1)) (hv : x + y = z) (hp : pc + 1 = pc') (k : V p l e R s m args below meth c cells slots Q D A nL pc' lv (.long z :: st) ws) : V p l e R s m args below meth c cells slots Q D A nL pc lv (.long y :: .long x :: st) ws := by
  obtain ⟨hx, hb, hml, hown, hts, hK, hA, hlk, hSF, hNS⟩ := F
  subst hp
  subst hv
  exact fun H locs ls hP hD hS hl => lv_ladd hx hb hdg (k H locs ls hP hD hS hl)
theorem v_lsub (F : Fx p s m args meth c cc nL Ts own D A G) {x y z : Int64} (hdg : decode cc pc = .ok (.lsub, 1)) (hv : x - y = z) (hp : pc + 1 = pc') (k : V p l e R s m args below meth c cells slots Q D A nL pc' lv (.long z :: st) ws) : V p l e R s m args below meth c cells slots Q D A nL pc lv (.long y :: .long x :: st) ws := by
  obtain ⟨hx, hb, hml, hown, hts, hK, hA, hlk, hSF, hNS⟩ := F
  subst hp
  subst hv
  exact fun H locs ls hP hD hS hl => lv_lsub hx hb hdg (k H locs ls hP hD hS hl)
theorem v_lmul (F : Fx p s m args meth c cc nL Ts own D A G) {x y z : Int64} (hdg : decode cc pc = .ok (.lmul, 1)) (hv : x * y = z) (hp : pc + 1 = pc') (k : V p l e R s m args below meth c cells slots Q D A nL pc' lv (.long z :: st) ws) : V p l e R s m args below meth c cells slots Q D A nL pc lv (.long y :: .long x :: st) ws := by
  obtain ⟨hx, hb, hml, hown, hts, hK, hA, hlk, hSF, hNS⟩ := F
  subst hp
  subst hv
  exact fun H locs ls hP hD hS hl => lv_lmul hx hb hdg (k H locs ls hP hD hS hl)
theorem v_land (F : Fx p s m args meth c cc nL Ts own D A G) {x y z : Int64} (hdg : decode cc pc = .ok (.land, 1)) (hv : x &&& y = z) (hp : pc + 1 = pc') (k : V p l e R s m args below meth c cells slots Q D A nL pc' lv (.long z :: st) ws) : V p l e R s m args below meth c cells slots Q D A nL pc lv (.long y :: .long x :: st) ws := by
  obtain ⟨hx, hb, hml, hown, hts, hK, hA, hlk, hSF, hNS⟩ := F
  subst hp
  subst hv
  exact fun H locs ls hP hD hS hl => lv_land hx hb hdg (k H locs ls hP hD hS hl)
theorem v_lor (F : Fx p s m args meth c cc nL Ts own D A G) {x y z : Int64} (hdg : decode cc pc = .ok (.lor, 1)) (hv : x ||| y = z) (hp : pc + 1 = pc') (k : V p l e R s m args below meth c cells slots Q D A nL pc' lv (.long z :: st) ws) : V p l e R s m args below meth c cells slots Q D A nL pc lv (.long y :: .long x :: st) ws := by
  obtain ⟨hx, hb, hml, hown, hts, hK, hA, hlk, hSF, hNS⟩ := F
  subst hp
  subst hv
  exact fun H locs ls hP hD hS hl => lv_lor hx hb hdg (k H locs ls hP hD hS hl)
theorem v_ldiv (F : Fx p s m args meth c cc nL Ts own D A G) {x y z : Int64} (hdg : decode cc pc = .ok (.ldiv, 1)) (hne : ¬ y = 0) (hv : x / y = z) (hp : pc + 1 = pc') (k : V p l e R s m args below meth c cells slots Q D A nL pc' lv (.long z :: st) ws) : V p l e R s m args below meth c cells slots Q D A nL pc lv (.long y :: .long x :: st) ws := by
  obtain ⟨hx, hb, hml, hown, hts, hK, hA, hlk, hSF, hNS⟩ := F
  subst hp
  subst hv
  exact fun H locs ls hP hD hS hl => lv_ldiv hx hb hdg hne (k H locs ls hP hD hS hl)
theorem v_lrem (F : Fx p s m args meth c cc nL Ts own D A G) {x y z : Int64} (hdg : decode cc pc = .ok (.lrem, 1)) (hne : ¬ y = 0) (hv : x - x / y * y = z) (hp : pc + 1 = pc') (k : V p l e R s m args below meth c cells slots Q D A nL pc' lv (.long z :: st) ws) : V p l e R s m args below meth c cells slots Q D A nL pc lv (.long y :: .long x :: st) ws := by
  obtain ⟨hx, hb, hml, hown, hts, hK, hA, hlk, hSF, hNS⟩ := F
  subst hp
  subst hv
  exact fun H locs ls hP hD hS hl => lv_lrem hx hb hdg hne (k H locs ls hP hD hS hl)
theorem v_i2l (F : Fx p s m args meth c cc nL Ts own D A G) {x : Int32} {z : Int64} (hdg : decode cc pc = .ok (.i2l, 1)) (hv : x.toInt64 = z) (hp : pc + 1 = pc') (k : V p l e R s m args below meth c cells slots Q D A nL pc' lv (.long z :: st) ws) : V p l e R s m args below meth c cells slots Q D A nL pc lv (.int x :: st) ws := by
  obtain ⟨hx, hb, hml, hown, hts, hK, hA, hlk, hSF, hNS⟩ := F
  subst hp
  exact fun H locs ls hP hD hS hl => lv_i2l hx hb hdg hv (k H locs ls hP hD hS hl)
theorem v_l2i (F : Fx p s m args meth c cc nL Ts own D A G) {x : Int64} {z : Int32} (hdg : decode cc pc = .ok (.l2i, 1)) (hv : x.toInt32 = z) (hp : pc + 1 = pc') (k : V p l e R s m args below meth c cells slots Q D A nL pc' lv (.int z :: st) ws) : V p l e R s m args below meth c cells slots Q D A nL pc lv (.long x :: st) ws := by
  obtain ⟨hx, hb, hml, hown, hts, hK, hA, hlk, hSF, hNS⟩ := F
  subst hp
  exact fun H locs ls hP hD hS hl => lv_l2i hx hb hdg hv (k H locs ls hP hD hS hl)
theorem v_i2b (F : Fx p s m args meth c cc nL Ts own D A G) {x : Int32} {z : Int32} (hdg : decode cc pc = .ok (.i2b, 1)) (hv : x.toInt8.toInt32 = z) (hp : pc + 1 = pc') (k : V p l e R s m args below meth c cells slots Q D A nL pc' lv (.int z :: st) ws) : V p l e R s m args below meth c cells slots Q D A nL pc lv (.int x :: st) ws := by
  obtain ⟨hx, hb, hml, hown, hts, hK, hA, hlk, hSF, hNS⟩ := F
  subst hp
  exact fun H locs ls hP hD hS hl => lv_i2b hx hb hdg hv (k H locs ls hP hD hS hl)
theorem v_lushr (F : Fx p s m args meth c cc nL Ts own D A G) {x z : Int64} {y : Int32} (hdg : decode cc pc = .ok (.lushr, 1)) (hv : (x.toUInt64 >>> (y.toInt64.toUInt64 &&& Int64.toUInt64 63)).toInt64 = z) (hp : pc + 1 = pc') (k : V p l e R s m args below meth c cells slots Q D A nL pc' lv (.long z :: st) ws) : V p l e R s m args below meth c cells slots Q D A nL pc lv (.int y :: .long x :: st) ws := by
  obtain ⟨hx, hb, hml, hown, hts, hK, hA, hlk, hSF, hNS⟩ := F
  subst hp
  exact fun H locs ls hP hD hS hl => lv_lushr hx hb hdg hv (k H locs ls hP hD hS hl)
theorem v_lshr (F : Fx p s m args meth c cc nL Ts own D A G) {x z : Int64} {y : Int32} (hdg : decode cc pc = .ok (.lshr, 1)) (hv : x >>> (y.toInt64 &&& 63) = z) (hp : pc + 1 = pc') (k : V p l e R s m args below meth c cells slots Q D A nL pc' lv (.long z :: st) ws) : V p l e R s m args below meth c cells slots Q D A nL pc lv (.int y :: .long x :: st) ws := by
  obtain ⟨hx, hb, hml, hown, hts, hK, hA, hlk, hSF, hNS⟩ := F
  subst hp
  exact fun H locs ls hP hD hS hl => lv_lshr hx hb hdg hv (k H locs ls hP hD hS hl)
theorem v_lshl (F : Fx p s m args meth c cc nL Ts own D A G) {x z : Int64} {y : Int32} (hdg : decode cc pc = .ok (.lshl, 1)) (hv : x <<< (y.toInt64 &&& 63) = z) (hp : pc + 1 = pc') (k : V p l e R s m args below meth c cells slots Q D A nL pc' lv (.long z :: st) ws) : V p l e R s m args below meth c cells slots Q D A nL pc lv (.int y :: .long x :: st) ws := by
  obtain ⟨hx, hb, hml, hown, hts, hK, hA, hlk, hSF, hNS⟩ := F
  subst hp
  exact fun H locs ls hP hD hS hl => lv_lshl hx hb hdg hv (k H locs ls hP hD hS hl)
theorem v_lcmp (F : Fx p s m args meth c cc nL Ts own D A G) {x y : Int64} (hdg : decode cc pc = .ok (.lcmp, 1)) (hp : pc + 1 = pc') (k : V p l e R s m args below meth c cells slots Q D A nL pc' lv (.int (lg_cmp x y) :: st) ws) : V p l e R s m args below meth c cells slots Q D A nL pc lv (.long y :: .long x :: st) ws := by
  obtain ⟨hx, hb, hml, hown, hts, hK, hA, hlk, hSF, hNS⟩ := F
  subst hp
  exact fun H locs ls hP hD hS hl => W.lcmp hx hb hdg (k H locs ls hP hD hS hl)
theorem v_dup (F : Fx p s m args meth c cc nL Ts own D A G) {a : Value} (hdg : decode cc pc = .ok (.dup, 1)) (ha : a.category = 1) (hp : pc + 1 = pc') (k : V p l e R s m args below meth c cells slots Q D A nL pc' lv (a :: a :: st) ws) : V p l e R s m args below meth c cells slots Q D A nL pc lv (a :: st) ws := by
  obtain ⟨hx, hb, hml, hown, hts, hK, hA, hlk, hSF, hNS⟩ := F
  subst hp
  exact fun H locs ls hP hD hS hl => lv_dup hx hb hdg ha (k H locs ls hP hD hS hl)
theorem v_pop (F : Fx p s m args meth c cc nL Ts own D A G) {a : Value} (hdg : decode cc pc = .ok (.pop, 1)) (ha : a.category = 1) (hp : pc + 1 = pc') (k : V p l e R s m args below meth c cells slots Q D A nL pc' lv st ws) : V p l e R s m args below meth c cells slots Q D A nL pc lv (a :: st) ws := by
  obtain ⟨hx, hb, hml, hown, hts, hK, hA, hlk, hSF, hNS⟩ := F
  subst hp
  exact fun H locs ls hP hD hS hl => lv_pop hx hb hdg ha (k H locs ls hP hD hS hl)
theorem v_dup_x1 (F : Fx p s m args meth c cc nL Ts own D A G) {a b : Value} (hdg : decode cc pc = .ok (.dup_x1, 1)) (ha : a.category = 1) (hb' : b.category = 1) (hp : pc + 1 = pc') (k : V p l e R s m args below meth c cells slots Q D A nL pc' lv (a :: b :: a :: st) ws) : V p l e R s m args below meth c cells slots Q D A nL pc lv (a :: b :: st) ws := by
  obtain ⟨hx, hb, hml, hown, hts, hK, hA, hlk, hSF, hNS⟩ := F
  subst hp
  exact fun H locs ls hP hD hS hl => lv_dup_x1 hx hb hdg ha hb' (k H locs ls hP hD hS hl)
theorem v_dup2 (F : Fx p s m args meth c cc nL Ts own D A G) {a b : Value} (hdg : decode cc pc = .ok (.dup2, 1)) (ha : a.category = 1) (hb' : b.category = 1) (hp : pc + 1 = pc') (k : V p l e R s m args below meth c cells slots Q D A nL pc' lv (a :: b :: a :: b :: st) ws) : V p l e R s m args below meth c cells slots Q D A nL pc lv (a :: b :: st) ws := by
  obtain ⟨hx, hb, hml, hown, hts, hK, hA, hlk, hSF, hNS⟩ := F
  subst hp
  exact fun H locs ls hP hD hS hl => lv_dup2_11 hx hb hdg ha hb' (k H locs ls hP hD hS hl)
theorem v_icmp_eq (F : Fx p s m args meth c cc nL Ts own D A G) {x y : Int32} {off : Int} {tgt : Nat} (hdg : decode cc pc = .ok (.if_icmp .eq off, 3)) (ht : (pc : Int) + off = (tgt : Int)) (hp : pc + 3 = pc') (kt : x = y → V p l e R s m args below meth c cells slots Q D A nL tgt lv st ws) (kf : ¬ x = y → V p l e R s m args below meth c cells slots Q D A nL pc' lv st ws) : V p l e R s m args below meth c cells slots Q D A nL pc lv (.int y :: .int x :: st) ws := by
  obtain ⟨hx, hb, hml, hown, hts, hK, hA, hlk, hSF, hNS⟩ := F
  subst hp
  exact fun H locs ls hP hD hS hl => lv_icmp_eq hx hb hdg ht (fun q => kt q H locs ls hP hD hS hl) (fun q => kf q H locs ls hP hD hS hl)
theorem v_if_eq (F : Fx p s m args meth c cc nL Ts own D A G) {x : Int32} {off : Int} {tgt : Nat} (hdg : decode cc pc = .ok (.ifCond .eq off, 3)) (ht : (pc : Int) + off = (tgt : Int)) (hp : pc + 3 = pc') (kt : x = 0 → V p l e R s m args below meth c cells slots Q D A nL tgt lv st ws) (kf : ¬ x = 0 → V p l e R s m args below meth c cells slots Q D A nL pc' lv st ws) : V p l e R s m args below meth c cells slots Q D A nL pc lv (.int x :: st) ws := by
  obtain ⟨hx, hb, hml, hown, hts, hK, hA, hlk, hSF, hNS⟩ := F
  subst hp
  exact fun H locs ls hP hD hS hl => lv_if_eq hx hb hdg ht (fun q => kt q H locs ls hP hD hS hl) (fun q => kf q H locs ls hP hD hS hl)
theorem v_icmp_ne (F : Fx p s m args meth c cc nL Ts own D A G) {x y : Int32} {off : Int} {tgt : Nat} (hdg : decode cc pc = .ok (.if_icmp .ne off, 3)) (ht : (pc : Int) + off = (tgt : Int)) (hp : pc + 3 = pc') (kt : ¬ x = y → V p l e R s m args below meth c cells slots Q D A nL tgt lv st ws) (kf : x = y → V p l e R s m args below meth c cells slots Q D A nL pc' lv st ws) : V p l e R s m args below meth c cells slots Q D A nL pc lv (.int y :: .int x :: st) ws := by
  obtain ⟨hx, hb, hml, hown, hts, hK, hA, hlk, hSF, hNS⟩ := F
  subst hp
  exact fun H locs ls hP hD hS hl => lv_icmp_ne hx hb hdg ht (fun q => kt q H locs ls hP hD hS hl) (fun q => kf q H locs ls hP hD hS hl)
theorem v_if_ne (F : Fx p s m args meth c cc nL Ts own D A G) {x : Int32} {off : Int} {tgt : Nat} (hdg : decode cc pc = .ok (.ifCond .ne off, 3)) (ht : (pc : Int) + off = (tgt : Int)) (hp : pc + 3 = pc') (kt : ¬ x = 0 → V p l e R s m args below meth c cells slots Q D A nL tgt lv st ws) (kf : x = 0 → V p l e R s m args below meth c cells slots Q D A nL pc' lv st ws) : V p l e R s m args below meth c cells slots Q D A nL pc lv (.int x :: st) ws := by
  obtain ⟨hx, hb, hml, hown, hts, hK, hA, hlk, hSF, hNS⟩ := F
  subst hp
  exact fun H locs ls hP hD hS hl => lv_if_ne hx hb hdg ht (fun q => kt q H locs ls hP hD hS hl) (fun q => kf q H locs ls hP hD hS hl)
theorem v_icmp_lt (F : Fx p s m args meth c cc nL Ts own D A G) {x y : Int32} {off : Int} {tgt : Nat} (hdg : decode cc pc = .ok (.if_icmp .lt off, 3)) (ht : (pc : Int) + off = (tgt : Int)) (hp : pc + 3 = pc') (kt : x < y → V p l e R s m args below meth c cells slots Q D A nL tgt lv st ws) (kf : ¬ x < y → V p l e R s m args below meth c cells slots Q D A nL pc' lv st ws) : V p l e R s m args below meth c cells slots Q D A nL pc lv (.int y :: .int x :: st) ws := by
  obtain ⟨hx, hb, hml, hown, hts, hK, hA, hlk, hSF, hNS⟩ := F
  subst hp
  exact fun H locs ls hP hD hS hl => lv_icmp_lt hx hb hdg ht (fun q => kt q H locs ls hP hD hS hl) (fun q => kf q H locs ls hP hD hS hl)
theorem v_if_lt (F : Fx p s m args meth c cc nL Ts own D A G) {x : Int32} {off : Int} {tgt : Nat} (hdg : decode cc pc = .ok (.ifCond .lt off, 3)) (ht : (pc : Int) + off = (tgt : Int)) (hp : pc + 3 = pc') (kt : x < 0 → V p l e R s m args below meth c cells slots Q D A nL tgt lv st ws) (kf : ¬ x < 0 → V p l e R s m args below meth c cells slots Q D A nL pc' lv st ws) : V p l e R s m args below meth c cells slots Q D A nL pc lv (.int x :: st) ws := by
  obtain ⟨hx, hb, hml, hown, hts, hK, hA, hlk, hSF, hNS⟩ := F
  subst hp
  exact fun H locs ls hP hD hS hl => lv_if_lt hx hb hdg ht (fun q => kt q H locs ls hP hD hS hl) (fun q => kf q H locs ls hP hD hS hl)
theorem v_icmp_ge (F : Fx p s m args meth c cc nL Ts own D A G) {x y : Int32} {off : Int} {tgt : Nat} (hdg : decode cc pc = .ok (.if_icmp .ge off, 3)) (ht : (pc : Int) + off = (tgt : Int)) (hp : pc + 3 = pc') (kt : y ≤ x → V p l e R s m args below meth c cells slots Q D A nL tgt lv st ws) (kf : ¬ y ≤ x → V p l e R s m args below meth c cells slots Q D A nL pc' lv st ws) : V p l e R s m args below meth c cells slots Q D A nL pc lv (.int y :: .int x :: st) ws := by
  obtain ⟨hx, hb, hml, hown, hts, hK, hA, hlk, hSF, hNS⟩ := F
  subst hp
  exact fun H locs ls hP hD hS hl => lv_icmp_ge hx hb hdg ht (fun q => kt q H locs ls hP hD hS hl) (fun q => kf q H locs ls hP hD hS hl)
theorem v_if_ge (F : Fx p s m args meth c cc nL Ts own D A G) {x : Int32} {off : Int} {tgt : Nat} (hdg : decode cc pc = .ok (.ifCond .ge off, 3)) (ht : (pc : Int) + off = (tgt : Int)) (hp : pc + 3 = pc') (kt : 0 ≤ x → V p l e R s m args below meth c cells slots Q D A nL tgt lv st ws) (kf : ¬ 0 ≤ x → V p l e R s m args below meth c cells slots Q D A nL pc' lv st ws) : V p l e R s m args below meth c cells slots Q D A nL pc lv (.int x :: st) ws := by
  obtain ⟨hx, hb, hml, hown, hts, hK, hA, hlk, hSF, hNS⟩ := F
  subst hp
  exact fun H locs ls hP hD hS hl => lv_if_ge hx hb hdg ht (fun q => kt q H locs ls hP hD hS hl) (fun q => kf q H locs ls hP hD hS hl)
theorem v_icmp_gt (F : Fx p s m args meth c cc nL Ts own D A G) {x y : Int32} {off : Int} {tgt : Nat} (hdg : decode cc pc = .ok (.if_icmp .gt off, 3)) (ht : (pc : Int) + off = (tgt : Int)) (hp : pc + 3 = pc') (kt : y < x → V p l e R s m args below meth c cells slots Q D A nL tgt lv st ws) (kf : ¬ y < x → V p l e R s m args below meth c cells slots Q D A nL pc' lv st ws) : V p l e R s m args below meth c cells slots Q D A nL pc lv (.int y :: .int x :: st) ws := by
  obtain ⟨hx, hb, hml, hown, hts, hK, hA, hlk, hSF, hNS⟩ := F
  subst hp
  exact fun H locs ls hP hD hS hl => lv_icmp_gt hx hb hdg ht (fun q => kt q H locs ls hP hD hS hl) (fun q => kf q H locs ls hP hD hS hl)
theorem v_if_gt (F : Fx p s m args meth c cc nL Ts own D A G) {x : Int32} {off : Int} {tgt : Nat} (hdg : decode cc pc = .ok (.ifCond .gt off, 3)) (ht : (pc : Int) + off = (tgt : Int)) (hp : pc + 3 = pc') (kt : 0 < x → V p l e R s m args below meth c cells slots Q D A nL tgt lv st ws) (kf : ¬ 0 < x → V p l e R s m args below meth c cells slots Q D A nL pc' lv st ws) : V p l e R s m args below meth c cells slots Q D A nL pc lv (.int x :: st) ws := by
  obtain ⟨hx, hb, hml, hown, hts, hK, hA, hlk, hSF, hNS⟩ := F
  subst hp
  exact fun H locs ls hP hD hS hl => lv_if_gt hx hb hdg ht (fun q => kt q H locs ls hP hD hS hl) (fun q => kf q H locs ls hP hD hS hl)
theorem v_icmp_le (F : Fx p s m args meth c cc nL Ts own D A G) {x y : Int32} {off : Int} {tgt : Nat} (hdg : decode cc pc = .ok (.if_icmp .le off, 3)) (ht : (pc : Int) + off = (tgt : Int)) (hp : pc + 3 = pc') (kt : x ≤ y → V p l e R s m args below meth c cells slots Q D A nL tgt lv st ws) (kf : ¬ x ≤ y → V p l e R s m args below meth c cells slots Q D A nL pc' lv st ws) : V p l e R s m args below meth c cells slots Q D A nL pc lv (.int y :: .int x :: st) ws := by
  obtain ⟨hx, hb, hml, hown, hts, hK, hA, hlk, hSF, hNS⟩ := F
  subst hp
  exact fun H locs ls hP hD hS hl => lv_icmp_le hx hb hdg ht (fun q => kt q H locs ls hP hD hS hl) (fun q => kf q H locs ls hP hD hS hl)
theorem v_if_le (F : Fx p s m args meth c cc nL Ts own D A G) {x : Int32} {off : Int} {tgt : Nat} (hdg : decode cc pc = .ok (.ifCond .le off, 3)) (ht : (pc : Int) + off = (tgt : Int)) (hp : pc + 3 = pc') (kt : x ≤ 0 → V p l e R s m args below meth c cells slots Q D A nL tgt lv st ws) (kf : ¬ x ≤ 0 → V p l e R s m args below meth c cells slots Q D A nL pc' lv st ws) : V p l e R s m args below meth c cells slots Q D A nL pc lv (.int x :: st) ws := by
  obtain ⟨hx, hb, hml, hown, hts, hK, hA, hlk, hSF, hNS⟩ := F
  subst hp
  exact fun H locs ls hP hD hS hl => lv_if_le hx hb hdg ht (fun q => kt q H locs ls hP hD hS hl) (fun q => kf q H locs ls hP hD hS hl)
theorem v_ncmp_eq (F : Fx p s m args meth c cc nL Ts own D A G) {a b : Nat} {off : Int} {tgt : Nat} (hdg : decode cc pc = .ok (.if_icmp .eq off, 3)) (ha : a < 2 ^ 31) (hb' : b < 2 ^ 31) (ht : (pc : Int) + off = (tgt : Int)) (hp : pc + 3 = pc') (kt : a = b → V p l e R s m args below meth c cells slots Q D A nL tgt lv st ws) (kf : ¬ a = b → V p l e R s m args below meth c cells slots Q D A nL pc' lv st ws) : V p l e R s m args below meth c cells slots Q D A nL pc lv (.int (nI b) :: .int (nI a) :: st) ws :=
  v_icmp_eq F hdg ht hp (fun q => kt ((nI_eq ha hb').mp q)) (fun q => kf (fun z => q ((nI_eq ha hb').mpr z)))
theorem v_ncmp_ne (F : Fx p s m args meth c cc nL Ts own D A G) {a b : Nat} {off : Int} {tgt : Nat} (hdg : decode cc pc = .ok (.if_icmp .ne off, 3)) (ha : a < 2 ^ 31) (hb' : b < 2 ^ 31) (ht : (pc : Int) + off = (tgt : Int)) (hp : pc + 3 = pc') (kt : ¬ a = b → V p l e R s m args below meth c cells slots Q D A nL tgt lv st ws) (kf : a = b → V p l e R s m args below meth c cells slots Q D A nL pc' lv st ws) : V p l e R s m args below meth c cells slots Q D A nL pc lv (.int (nI b) :: .int (nI a) :: st) ws :=
  v_icmp_ne F hdg ht hp (fun q => kt (fun z => q ((nI_eq ha hb').mpr z))) (fun q => kf ((nI_eq ha hb').mp q))
theorem v_ncmp_lt (F : Fx p s m args meth c cc nL Ts own D A G) {a b : Nat} {off : Int} {tgt : Nat} (hdg : decode cc pc = .ok (.if_icmp .lt off, 3)) (ha : a < 2 ^ 31) (hb' : b < 2 ^ 31) (ht : (pc : Int) + off = (tgt : Int)) (hp : pc + 3 = pc') (kt : a < b → V p l e R s m args below meth c cells slots Q D A nL tgt lv st ws) (kf : b ≤ a → V p l e R s m args below meth c cells slots Q D A nL pc' lv st ws) : V p l e R s m args below meth c cells slots Q D A nL pc lv (.int (nI b) :: .int (nI a) :: st) ws :=
  v_icmp_lt F hdg ht hp (fun q => kt ((nI_ltI ha hb').mp q)) (fun q => kf (Nat.not_lt.mp (fun z => q ((nI_ltI ha hb').mpr z))))
theorem v_ncmp_ge (F : Fx p s m args meth c cc nL Ts own D A G) {a b : Nat} {off : Int} {tgt : Nat} (hdg : decode cc pc = .ok (.if_icmp .ge off, 3)) (ha : a < 2 ^ 31) (hb' : b < 2 ^ 31) (ht : (pc : Int) + off = (tgt : Int)) (hp : pc + 3 = pc') (kt : b ≤ a → V p l e R s m args below meth c cells slots Q D A nL tgt lv st ws) (kf : a < b → V p l e R s m args below meth c cells slots Q D A nL pc' lv st ws) : V p l e R s m args below meth c cells slots Q D A nL pc lv (.int (nI b) :: .int (nI a) :: st) ws :=
  v_icmp_ge F hdg ht hp (fun q => kt ((nI_leI hb' ha).mp q)) (fun q => kf (Nat.not_le.mp (fun z => q ((nI_leI hb' ha).mpr z))))
theorem v_ncmp_gt (F : Fx p s m args meth c cc nL Ts own D A G) {a b : Nat} {off : Int} {tgt : Nat} (hdg : decode cc pc = .ok (.if_icmp .gt off, 3)) (ha : a < 2 ^ 31) (hb' : b < 2 ^ 31) (ht : (pc : Int) + off = (tgt : Int)) (hp : pc + 3 = pc') (kt : b < a → V p l e R s m args below meth c cells slots Q D A nL tgt lv st ws) (kf : a ≤ b → V p l e R s m args below meth c cells slots Q D A nL pc' lv st ws) : V p l e R s m args below meth c cells slots Q D A nL pc lv (.int (nI b) :: .int (nI a) :: st) ws :=
  v_icmp_gt F hdg ht hp (fun q => kt ((nI_ltI hb' ha).mp q)) (fun q => kf (Nat.not_lt.mp (fun z => q ((nI_ltI hb' ha).mpr z))))
theorem v_ncmp_le (F : Fx p s m args meth c cc nL Ts own D A G) {a b : Nat} {off : Int} {tgt : Nat} (hdg : decode cc pc = .ok (.if_icmp .le off, 3)) (ha : a < 2 ^ 31) (hb' : b < 2 ^ 31) (ht : (pc : Int) + off = (tgt : Int)) (hp : pc + 3 = pc') (kt : a ≤ b → V p l e R s m args below meth c cells slots Q D A nL tgt lv st ws) (kf : b < a → V p l e R s m args below meth c cells slots Q D A nL pc' lv st ws) : V p l e R s m args below meth c cells slots Q D A nL pc lv (.int (nI b) :: .int (nI a) :: st) ws :=
  v_icmp_le F hdg ht hp (fun q => kt ((nI_leI ha hb').mp q)) (fun q => kf (Nat.not_le.mp (fun z => q ((nI_leI ha hb').mpr z))))
theorem v_nif_eq (F : Fx p s m args meth c cc nL Ts own D A G) {a : Nat} {off : Int} {tgt : Nat} (hdg : decode cc pc = .ok (.ifCond .eq off, 3)) (ha : a < 2 ^ 31) (ht : (pc : Int) + off = (tgt : Int)) (hp : pc + 3 = pc') (kt : a = 0 → V p l e R s m args below meth c cells slots Q D A nL tgt lv st ws) (kf : ¬ a = 0 → V p l e R s m args below meth c cells slots Q D A nL pc' lv st ws) : V p l e R s m args below meth c cells slots Q D A nL pc lv (.int (nI a) :: st) ws :=
  v_if_eq F hdg ht hp (fun q => kt ((nI_eq (b := 0) ha (by decide)).mp q)) (fun q => kf (fun y => q ((nI_eq (b := 0) ha (by decide)).mpr y)))
theorem v_nif_ne (F : Fx p s m args meth c cc nL Ts own D A G) {a : Nat} {off : Int} {tgt : Nat} (hdg : decode cc pc = .ok (.ifCond .ne off, 3)) (ha : a < 2 ^ 31) (ht : (pc : Int) + off = (tgt : Int)) (hp : pc + 3 = pc') (kt : ¬ a = 0 → V p l e R s m args below meth c cells slots Q D A nL tgt lv st ws) (kf : a = 0 → V p l e R s m args below meth c cells slots Q D A nL pc' lv st ws) : V p l e R s m args below meth c cells slots Q D A nL pc lv (.int (nI a) :: st) ws :=
  v_if_ne F hdg ht hp (fun q => kt (fun y => q ((nI_eq (b := 0) ha (by decide)).mpr y))) (fun q => kf ((nI_eq (b := 0) ha (by decide)).mp q))
theorem v_nif_gt (F : Fx p s m args meth c cc nL Ts own D A G) {a : Nat} {off : Int} {tgt : Nat} (hdg : decode cc pc = .ok (.ifCond .gt off, 3)) (ha : a < 2 ^ 31) (ht : (pc : Int) + off = (tgt : Int)) (hp : pc + 3 = pc') (kt : 0 < a → V p l e R s m args below meth c cells slots Q D A nL tgt lv st ws) (kf : a = 0 → V p l e R s m args below meth c cells slots Q D A nL pc' lv st ws) : V p l e R s m args below meth c cells slots Q D A nL pc lv (.int (nI a) :: st) ws :=
  v_if_gt F hdg ht hp (fun q => kt ((nI_ltI (a := 0) (by decide) ha).mp q)) (fun q => kf (Nat.eq_zero_of_not_pos (fun y => q ((nI_ltI (a := 0) (by decide) ha).mpr y))))
theorem v_nif_le (F : Fx p s m args meth c cc nL Ts own D A G) {a : Nat} {off : Int} {tgt : Nat} (hdg : decode cc pc = .ok (.ifCond .le off, 3)) (ha : a < 2 ^ 31) (ht : (pc : Int) + off = (tgt : Int)) (hp : pc + 3 = pc') (kt : a = 0 → V p l e R s m args below meth c cells slots Q D A nL tgt lv st ws) (kf : 0 < a → V p l e R s m args below meth c cells slots Q D A nL pc' lv st ws) : V p l e R s m args below meth c cells slots Q D A nL pc lv (.int (nI a) :: st) ws :=
  v_if_le F hdg ht hp (fun q => kt (Nat.le_zero.mp ((nI_leI (b := 0) ha (by decide)).mp q))) (fun q => kf (Nat.pos_of_ne_zero (fun y => q ((nI_leI (b := 0) ha (by decide)).mpr (Nat.le_zero.mpr y)))))
/-- 1 where P holds, else 0 -/
def bI (P : Prop) [Decidable P] : Int32 := if P then 1 else 0
theorem bI_t {P : Prop} [Decidable P] (h : P) : bI P = 1 := if_pos h
theorem bI_f {P : Prop} [Decidable P] (h : ¬ P) : bI P = 0 := if_neg h
theorem bI_0 {P : Prop} [Decidable P] : bI P = 0 ↔ ¬ P := by
  by_cases h : P
  · rw [bI_t h]; exact ⟨fun z => absurd z (by decide), fun z => absurd h z⟩
  · rw [bI_f h]; exact ⟨fun _ => h, fun _ => rfl⟩
theorem bI_cong {P P' : Prop} [Decidable P] [Decidable P'] (h : P ↔ P') : bI P = bI P' := by
  by_cases q : P
  · rw [bI_t q, bI_t (h.mp q)]
  · rw [bI_f q, bI_f (fun z => q (h.mpr z))]
theorem v_bif_eq (F : Fx p s m args meth c cc nL Ts own D A G) {P : Prop} {dP : Decidable P} {off : Int} {tgt : Nat} (hdg : decode cc pc = .ok (.ifCond .eq off, 3)) (ht : (pc : Int) + off = (tgt : Int)) (hp : pc + 3 = pc') (kt : ¬ P → V p l e R s m args below meth c cells slots Q D A nL tgt lv st ws) (kf : P → V p l e R s m args below meth c cells slots Q D A nL pc' lv st ws) : V p l e R s m args below meth c cells slots Q D A nL pc lv (.int (bI P) :: st) ws :=
  v_if_eq F hdg ht hp (fun q => kt (bI_0.mp q)) (fun q => kf (Decidable.byContradiction (fun y => q (bI_0.mpr y))))
theorem v_bif_ne (F : Fx p s m args meth c cc nL Ts own D A G) {P : Prop} {dP : Decidable P} {off : Int} {tgt : Nat} (hdg : decode cc pc = .ok (.ifCond .ne off, 3)) (ht : (pc : Int) + off = (tgt : Int)) (hp : pc + 3 = pc') (kt : P → V p l e R s m args below meth c cells slots Q D A nL tgt lv st ws) (kf : ¬ P → V p l e R s m args below meth c cells slots Q D A nL pc' lv st ws) : V p l e R s m args below meth c cells slots Q D A nL pc lv (.int (bI P) :: st) ws :=
  v_if_ne F hdg ht hp (fun q => kt (Decidable.byContradiction (fun y => q (bI_0.mpr y)))) (fun q => kf (bI_0.mp q))
theorem v_goto (F : Fx p s m args meth c cc nL Ts own D A G) {off : Int} {tgt : Nat} (hdg : decode cc pc = .ok (.goto off, 3)) (ht : (pc : Int) + off = (tgt : Int)) (k : V p l e R s m args below meth c cells slots Q D A nL tgt lv st ws) : V p l e R s m args below meth c cells slots Q D A nL pc lv st ws := by
  obtain ⟨hx, hb, hml, hown, hts, hK, hA, hlk, hSF, hNS⟩ := F
  exact fun H locs ls hP hD hS hl => lv_goto hx hb hdg ht (k H locs ls hP hD hS hl)
theorem v_acmp_eq (F : Fx p s m args meth c cc nL Ts own D A G) {x y : Nat} {off : Int} {tgt : Nat} (hdg : decode cc pc = .ok (.if_acmp .eq off, 3)) (ht : (pc : Int) + off = (tgt : Int)) (hp : pc + 3 = pc') (kt : x = y → V p l e R s m args below meth c cells slots Q D A nL tgt lv st ws) (kf : ¬ x = y → V p l e R s m args below meth c cells slots Q D A nL pc' lv st ws) : V p l e R s m args below meth c cells slots Q D A nL pc lv (.ref y :: .ref x :: st) ws := by
  obtain ⟨hx, hb, hml, hown, hts, hK, hA, hlk, hSF, hNS⟩ := F
  subst hp
  exact fun H locs ls hP hD hS hl => lv_acmp_eq (rx := some x) (ry := some y) hx hb hdg ht (fun q => kt (by simpa using q) H locs ls hP hD hS hl) (fun q => kf (by simpa using q) H locs ls hP hD hS hl)
theorem v_acmp_ne (F : Fx p s m args meth c cc nL Ts own D A G) {x y : Nat} {off : Int} {tgt : Nat} (hdg : decode cc pc = .ok (.if_acmp .ne off, 3)) (ht : (pc : Int) + off = (tgt : Int)) (hp : pc + 3 = pc') (kt : ¬ x = y → V p l e R s m args below meth c cells slots Q D A nL tgt lv st ws) (kf : x = y → V p l e R s m args below meth c cells slots Q D A nL pc' lv st ws) : V p l e R s m args below meth c cells slots Q D A nL pc lv (.ref y :: .ref x :: st) ws := by
  obtain ⟨hx, hb, hml, hown, hts, hK, hA, hlk, hSF, hNS⟩ := F
  subst hp
  exact fun H locs ls hP hD hS hl => lv_acmp_ne (rx := some x) (ry := some y) hx hb hdg ht (fun q => kt (by simpa using q) H locs ls hP hD hS hl) (fun q => kf (by simpa using q) H locs ls hP hD hS hl)
theorem v_tableIn (F : Fx p s m args meth c cc nL Ts own D A G) {dflt lo hi : Int} {offs : Array Int} {len : Nat} {x : Int32} {off : Int} {tgt : Nat} (hdg : decode cc pc = .ok (.tableswitch dflt lo hi offs, len)) (h1 : ¬ x.toInt < lo) (h2 : ¬ hi < x.toInt) (ho : offs[(x.toInt - lo).toNat]? = some off) (ht : (pc : Int) + off = (tgt : Int)) (k : V p l e R s m args below meth c cells slots Q D A nL tgt lv st ws) : V p l e R s m args below meth c cells slots Q D A nL pc lv (.int x :: st) ws := by
  obtain ⟨hx, hb, hml, hown, hts, hK, hA, hlk, hSF, hNS⟩ := F
  exact fun H locs ls hP hD hS hl => lv_tableIn hx hb hdg h1 h2 ho ht (k H locs ls hP hD hS hl)
theorem v_tableOut (F : Fx p s m args meth c cc nL Ts own D A G) {dflt lo hi : Int} {offs : Array Int} {len : Nat} {x : Int32} {tgt : Nat} (hdg : decode cc pc = .ok (.tableswitch dflt lo hi offs, len)) (h : x.toInt < lo ∨ hi < x.toInt) (ht : (pc : Int) + dflt = (tgt : Int)) (k : V p l e R s m args below meth c cells slots Q D A nL tgt lv st ws) : V p l e R s m args below meth c cells slots Q D A nL pc lv (.int x :: st) ws := by
  obtain ⟨hx, hb, hml, hown, hts, hK, hA, hlk, hSF, hNS⟩ := F
  exact fun H locs ls hP hD hS hl => lv_tableOut hx hb hdg h ht (k H locs ls hP hD hS hl)
theorem v_lookup (F : Fx p s m args meth c cc nL Ts own D A G) {dflt : Int} {ps : Array (Int × Int)} {len : Nat} {x : Int32} {off : Int} {tgt : Nat} (hdg : decode cc pc = .ok (.lookupswitch dflt ps, len)) (hps : (ps.toList.zip (ps.toList.drop 1)).all (fun (a, next) => a.1 < next.1) = true) (ho : Op.lookupswitch.offset ps.toList dflt x.toInt = off) (ht : (pc : Int) + off = (tgt : Int)) (k : V p l e R s m args below meth c cells slots Q D A nL tgt lv st ws) : V p l e R s m args below meth c cells slots Q D A nL pc lv (.int x :: st) ws := by
  obtain ⟨hx, hb, hml, hown, hts, hK, hA, hlk, hSF, hNS⟩ := F
  exact fun H locs ls hP hD hS hl => lv_lookup hx hb hdg hps ho ht (k H locs ls hP hD hS hl)
theorem v_get (F : Fx p s m args meth c cc nL Ts own D A G) {C : String} {T : u_T} {N ci index a : Nat} (hdg : decode cc pc = .ok (.getfield index, 3)) (hin : ∀ w ∈ u_ws C T N, w ∈ Ts) (q0 : Nat) {fs : List Value} (he : ws[q0]? = some (a, .inr (ci, fs))) (hc : vwCl[ci]? = some (C, T, N)) (k : Nat) (hk : k < N) (hlink : Cond.fieldLink own index (T k).1 (T k).2.1 (T k).2.2.1 ∈ Ts) {v : Value} (hv : fs[k]? = some v) (hp : pc + 3 = pc') (kk : V p l e R s m args below meth c cells slots Q D A nL pc' lv (v :: st) ws) : V p l e R s m args below meth c cells slots Q D A nL pc lv (.ref a :: st) ws := by
  obtain ⟨hx, hb, hml, hown, hts, hK, hA, hlk, hSF, hNS⟩ := F
  subst hp
  exact fun H locs ls hP hD hS hl => va_get hx hb hts hin hown hK hP q0 he hc k hk (hts _ hlink) (fun _ h => h) hv hdg (kk H locs ls hP hD hS hl)
theorem v_put (F : Fx p s m args meth c cc nL Ts own D A G) {C : String} {T : u_T} {N ci index a : Nat} (hdg : decode cc pc = .ok (.putfield index, 3)) (hin : ∀ w ∈ u_ws C T N, w ∈ Ts) {ty0 : Nat → FieldType} (hty : ∀ k, k < N → parseFieldDescriptor (T k).2.2.1 = some (ty0 k)) (hnm : ∀ a, a < N → ∀ b, b < N → a ≠ b → (T a).2.1 ≠ (T b).2.1) (q0 : Nat) {fs : List Value} (he : ws[q0]? = some (a, .inr (ci, fs))) (hc : vwCl[ci]? = some (C, T, N)) (k : Nat) (hk : k < N) (hlink : Cond.fieldLink own index (T k).1 (T k).2.1 (T k).2.2.1 ∈ Ts) (hfin : (T k).2.2.2 = false) {v : Value} (hn : narrow (ty0 k) v = v) (hfit : fits (ty0 k) v = true) (hl2 : k < fs.length) (hw : ws.set q0 (a, .inr (ci, fs.set k v)) = ws') (hp : pc + 3 = pc') (kk : V p l e R s m args below meth c cells slots Q D A nL pc' lv st ws') : V p l e R s m args below meth c cells slots Q D A nL pc lv (v :: .ref a :: st) ws := by
  obtain ⟨hx, hb, hml, hown, hts, hK, hA, hlk, hSF, hNS⟩ := F
  subst hp
  subst hw
  exact fun H locs ls hP hD hS hl => va_put hx hb hts hin ty0 hty hnm hown hK hP hD hS q0 he hc k hk (hts _ hlink) (fun _ h => h) hfin (hty k hk) hn hfit hl2 hdg (fun H1 locs1 hP1 hD1 hS1 => kk H1 locs1 ls hP1 hD1 hS1 hl)
theorem v_putF (F : Fx p s m args meth c cc nL Ts own D A G) {C : String} {T : u_T} {N ci index a : Nat} (hdg : decode cc pc = .ok (.putfield index, 3)) (hinit : meth.name = "<init>") (hin : ∀ w ∈ u_ws C T N, w ∈ Ts) {ty0 : Nat → FieldType} (hty : ∀ k, k < N → parseFieldDescriptor (T k).2.2.1 = some (ty0 k)) (hnm : ∀ a, a < N → ∀ b, b < N → a ≠ b → (T a).2.1 ≠ (T b).2.1) (q0 : Nat) {fs : List Value} (he : ws[q0]? = some (a, .inr (ci, fs))) (hc : vwCl[ci]? = some (C, T, N)) (k : Nat) (hk : k < N) (hlink : Cond.fieldLink own index (T k).1 (T k).2.1 (T k).2.2.1 ∈ Ts) (hfin : (T k).2.2.2 = true) (hdecl : (T k).1 = own) {v : Value} (hn : narrow (ty0 k) v = v) (hfit : fits (ty0 k) v = true) (hl2 : k < fs.length) (hw : ws.set q0 (a, .inr (ci, fs.set k v)) = ws') (hp : pc + 3 = pc') (kk : V p l e R s m args below meth c cells slots Q D A nL pc' lv st ws') : V p l e R s m args below meth c cells slots Q D A nL pc lv (v :: .ref a :: st) ws := by
  obtain ⟨hx, hb, hml, hown, hts, hK, hA, hlk, hSF, hNS⟩ := F
  subst hp
  subst hw
  exact fun H locs ls hP hD hS hl => va_putF hx hb hts hin ty0 hty hnm hown hK hP hD hS q0 he hc k hk (hts _ hlink) (fun _ h => h) hfin hinit hdecl (hty k hk) hn hfit hl2 hdg (fun H1 locs1 hP1 hD1 hS1 => kk H1 locs1 ls hP1 hD1 hS1 hl)
theorem v_iald (F : Fx p s m args meth c cc nL Ts own D A G) {a n i : Nat} {g : Nat → Nat} (hdg : decode cc pc = .ok (.iaload, 1)) (q0 : Nat) (he : ws[q0]? = some (a, aI G n g)) (hi : i < n) (hn : n < 2 ^ 31) {z : Nat} (hz : g i = z) (hp : pc + 1 = pc') (kk : V p l e R s m args below meth c cells slots Q D A nL pc' lv (.int (nI z) :: st) ws) : V p l e R s m args below meth c cells slots Q D A nL pc lv (.int (nI i) :: .ref a :: st) ws := by
  obtain ⟨hx, hb, hml, hown, hts, hK, hA, hlk, hSF, hNS⟩ := F
  subst hp
  subst hz
  intro H locs ls hP hD hS hl
  refine va_iald (f := fun j => nI (g j)) (i := nI i) hx hb hK hP q0 0 he rfl (vp_in_nI hi hn) hdg ?_
  rw [nI_clamp (Nat.lt_trans hi hn)]
  exact kk H locs ls hP hD hS hl
theorem v_bald (F : Fx p s m args meth c cc nL Ts own D A G) {a n i : Nat} {g : Nat → Nat} (hdg : decode cc pc = .ok (.baload, 1)) (q0 : Nat) (he : ws[q0]? = some (a, aB G n g)) (hi : i < n) (hn : n < 2 ^ 31) {z : Nat} (hz : g i = z) (hp : pc + 1 = pc') (kk : V p l e R s m args below meth c cells slots Q D A nL pc' lv (.int (nI z) :: st) ws) : V p l e R s m args below meth c cells slots Q D A nL pc lv (.int (nI i) :: .ref a :: st) ws := by
  obtain ⟨hx, hb, hml, hown, hts, hK, hA, hlk, hSF, hNS⟩ := F
  subst hp
  subst hz
  intro H locs ls hP hD hS hl
  refine va_bald (f := fun j => nI (g j)) (i := nI i) hx hb hK hP q0 1 he rfl (vp_in_nI hi hn) hdg ?_
  rw [nI_clamp (Nat.lt_trans hi hn)]
  exact kk H locs ls hP hD hS hl
theorem v_iast (F : Fx p s m args meth c cc nL Ts own D A G) {a n i x : Nat} {g : Nat → Nat} (hdg : decode cc pc = .ok (.iastore, 1)) (q0 : Nat) (he : ws[q0]? = some (a, aI G n g)) (hi : i < n) (hn : n < 2 ^ 31) (hw : ws.set q0 (a, aI G n (va_up g i x)) = ws') (hp : pc + 1 = pc') (kk : V p l e R s m args below meth c cells slots Q D A nL pc' lv st ws') : V p l e R s m args below meth c cells slots Q D A nL pc lv (.int (nI x) :: .int (nI i) :: .ref a :: st) ws := by
  obtain ⟨hx, hb, hml, hown, hts, hK, hA, hlk, hSF, hNS⟩ := F
  subst hp
  subst hw
  intro H locs ls hP hD hS hl
  refine va_iast (f := fun j => nI (g j)) (i := nI i) (x := nI x) hx hb hK hP hD hS q0 0 he rfl (vp_in_nI hi hn) hdg ?_
  rw [nI_clamp (Nat.lt_trans hi hn), upd_nI]
  exact fun H1 locs1 hP1 hD1 hS1 => kk H1 locs1 ls hP1 hD1 hS1 hl
theorem v_bast (F : Fx p s m args meth c cc nL Ts own D A G) {a n i x : Nat} {g : Nat → Nat} (hdg : decode cc pc = .ok (.bastore, 1)) (q0 : Nat) (he : ws[q0]? = some (a, aB G n g)) (hi : i < n) (hn : n < 2 ^ 31) {y : Int32} (hy : vp_nar .byte y = nI x) (hw : ws.set q0 (a, aB G n (va_up g i x)) = ws') (hp : pc + 1 = pc') (kk : V p l e R s m args below meth c cells slots Q D A nL pc' lv st ws') : V p l e R s m args below meth c cells slots Q D A nL pc lv (.int y :: .int (nI i) :: .ref a :: st) ws := by
  obtain ⟨hx, hb, hml, hown, hts, hK, hA, hlk, hSF, hNS⟩ := F
  subst hp
  subst hw
  intro H locs ls hP hD hS hl
  refine va_bast (f := fun j => nI (g j)) (i := nI i) (x := y) hx hb hK hP hD hS q0 1 he rfl (vp_in_nI hi hn) hdg ?_
  rw [nI_clamp (Nat.lt_trans hi hn), hy, upd_nI]
  exact fun H1 locs1 hP1 hD1 hS1 => kk H1 locs1 ls hP1 hD1 hS1 hl
theorem v_ilen (F : Fx p s m args meth c cc nL Ts own D A G) {a n : Nat} {g : Nat → Nat} (hdg : decode cc pc = .ok (.arraylength, 1)) (q0 : Nat) (he : ws[q0]? = some (a, aI G n g)) (hp : pc + 1 = pc') (kk : V p l e R s m args below meth c cells slots Q D A nL pc' lv (.int (nI n) :: st) ws) : V p l e R s m args below meth c cells slots Q D A nL pc lv (.ref a :: st) ws := by
  obtain ⟨hx, hb, hml, hown, hts, hK, hA, hlk, hSF, hNS⟩ := F
  subst hp
  exact fun H locs ls hP hD hS hl => va_alen (x := (n, .inl (fun j => nI (g j)))) hx hb hK hP q0 0 he rfl rfl hdg (kk H locs ls hP hD hS hl)
theorem v_pald (F : Fx p s m args meth c cc nL Ts own D A G) {a n i : Nat} {g : Nat → Nat} (hdg : decode cc pc = .ok (.aaload, 1)) (q0 : Nat) (he : ws[q0]? = some (a, aP G n g)) (hi : i < n) (hn : n < 2 ^ 31) {z : Nat} (hz : g i = z) (hp : pc + 1 = pc') (kk : V p l e R s m args below meth c cells slots Q D A nL pc' lv (.ref z :: st) ws) : V p l e R s m args below meth c cells slots Q D A nL pc lv (.int (nI i) :: .ref a :: st) ws := by
  obtain ⟨hx, hb, hml, hown, hts, hK, hA, hlk, hSF, hNS⟩ := F
  subst hp
  subst hz
  intro H locs ls hP hD hS hl
  refine va_aldq (f := fun j => some (g j)) (i := nI i) hx hb hK hP q0 2 he rfl (vp_in_nI hi hn) hdg ?_
  rw [nI_clamp (Nat.lt_trans hi hn)]
  exact kk H locs ls hP hD hS hl
theorem v_getsK (F : Fx p s m args meth c cc nL Ts own D A G) {index i : Nat} (hdg : decode cc pc = .ok (.getstatic index, 3)) (hi : i < 5) (hlink : Cond.fieldLink own index "OtherCoins$Kind" (nmK.getD i "") "LOtherCoins$Kind;" ∈ Ts) (hp : pc + 3 = pc') (kk : V p l e R s m args below meth c cells slots Q D A nL pc' lv (.ref (gAd G i) :: st) ws) : V p l e R s m args below meth c cells slots Q D A nL pc lv st ws := by
  obtain ⟨hx, hb, hml, hown, hts, hK, hA, hlk, hSF, hNS⟩ := F
  subst hp
  exact fun H locs ls hP hD hS hl => va_gets hx hb (hSF.1.1 i hi).1 hS hown (hts _ hlink) (fun _ h => h) hdg (kk H locs ls hP hD hS hl)
theorem v_getsA (F : Fx p s m args meth c cc nL Ts own D A G) {index : Nat} (hdg : decode cc pc = .ok (.getstatic index, 3)) (hlink : Cond.fieldLink own index "OtherCoins" "ACTS" "[I" ∈ Ts) (hp : pc + 3 = pc') (kk : V p l e R s m args below meth c cells slots Q D A nL pc' lv (.ref (gA G) :: st) ws) : V p l e R s m args below meth c cells slots Q D A nL pc lv st ws := by
  obtain ⟨hx, hb, hml, hown, hts, hK, hA, hlk, hSF, hNS⟩ := F
  subst hp
  exact fun H locs ls hP hD hS hl => va_gets hx hb hSF.2.1 hS hown (hts _ hlink) (fun _ h => h) hdg (kk H locs ls hP hD hS hl)
theorem v_getsAN (F : Fx p s m args meth c cc nL Ts own D A G) {index : Nat} (hdg : decode cc pc = .ok (.getstatic index, 3)) (hlink : va_Nw (Cond.fieldLinkNest own index "OtherCoins" "ACTS" "[I" "OtherCoins") s) (hp : pc + 3 = pc') (kk : V p l e R s m args below meth c cells slots Q D A nL pc' lv (.ref (gA G) :: st) ws) : V p l e R s m args below meth c cells slots Q D A nL pc lv st ws := by
  obtain ⟨hx, hb, hml, hown, hts, hK, hA, hlk, hSF, hNS⟩ := F
  subst hp
  exact fun H locs ls hP hD hS hl => va_getsN hx hb hSF.2.1 hS hown (va_Nw.use rfl hlink) (fun _ h => h) hdg (kk H locs ls hP hD hS hl)
theorem v_getsKs (F : Fx p s m args meth c cc nL Ts own D A G) {index : Nat} (hdg : decode cc pc = .ok (.getstatic index, 3)) (hlink : Cond.fieldLink own index "OtherCoins" "KINDS" "[LOtherCoins$Kind;" ∈ Ts) (hp : pc + 3 = pc') (kk : V p l e R s m args below meth c cells slots Q D A nL pc' lv (.ref (gK G) :: st) ws) : V p l e R s m args below meth c cells slots Q D A nL pc lv st ws := by
  obtain ⟨hx, hb, hml, hown, hts, hK, hA, hlk, hSF, hNS⟩ := F
  subst hp
  exact fun H locs ls hP hD hS hl => va_gets hx hb hSF.2.2.2.1 hS hown (hts _ hlink) (fun _ h => h) hdg (kk H locs ls hP hD hS hl)
theorem v_tiA (F : Fx p s m args meth c cc nL Ts own D A G) {i : Nat} (hdg : decode cc pc = .ok (.iaload, 1)) (hi : i < 12) (hp : pc + 1 = pc') (kk : V p l e R s m args below meth c cells slots Q D A nL pc' lv (.int (nI (actN i)) :: st) ws) : V p l e R s m args below meth c cells slots Q D A nL pc lv (.int (nI i) :: .ref (gA G) :: st) ws := by
  obtain ⟨hx, hb, hml, hown, hts, hK, hA, hlk, hSF, hNS⟩ := F
  subst hp
  exact fun H locs ls hP hD hS hl => va_ti hx hb hSF.2.2.1 hS (i := nI i) (vp_in_nI hi (by decide)) (by rw [nI_clamp (by omega)]) hdg (kk H locs ls hP hD hS hl)
theorem v_tlenA (F : Fx p s m args meth c cc nL Ts own D A G) (hdg : decode cc pc = .ok (.arraylength, 1)) (hp : pc + 1 = pc') (kk : V p l e R s m args below meth c cells slots Q D A nL pc' lv (.int (nI 12) :: st) ws) : V p l e R s m args below meth c cells slots Q D A nL pc lv (.ref (gA G) :: st) ws := by
  obtain ⟨hx, hb, hml, hown, hts, hK, hA, hlk, hSF, hNS⟩ := F
  subst hp
  exact fun H locs ls hP hD hS hl => va_tlen hx hb hSF.2.2.1 hS rfl hdg (kk H locs ls hP hD hS hl)
theorem v_tlenK (F : Fx p s m args meth c cc nL Ts own D A G) (hdg : decode cc pc = .ok (.arraylength, 1)) (hp : pc + 1 = pc') (kk : V p l e R s m args below meth c cells slots Q D A nL pc' lv (.int (nI 5) :: st) ws) : V p l e R s m args below meth c cells slots Q D A nL pc lv (.ref (gK G) :: st) ws := by
  obtain ⟨hx, hb, hml, hown, hts, hK, hA, hlk, hSF, hNS⟩ := F
  subst hp
  exact fun H locs ls hP hD hS hl => va_tlen hx hb hSF.2.2.2.2 hS rfl hdg (kk H locs ls hP hD hS hl)
theorem v_tqK (F : Fx p s m args meth c cc nL Ts own D A G) {i : Nat} (hdg : decode cc pc = .ok (.aaload, 1)) (hi : i < 5) (hp : pc + 1 = pc') (kk : V p l e R s m args below meth c cells slots Q D A nL pc' lv (.ref (gAd G i) :: st) ws) : V p l e R s m args below meth c cells slots Q D A nL pc lv (.int (nI i) :: .ref (gK G) :: st) ws := by
  obtain ⟨hx, hb, hml, hown, hts, hK, hA, hlk, hSF, hNS⟩ := F
  subst hp
  exact fun H locs ls hP hD hS hl => vb_tq hx hb hSF.2.2.2.2 hS (i := nI i) (vp_in_nI hi (by decide)) (by rw [nI_clamp (by omega)]) hdg (kk H locs ls hP hD hS hl)
theorem v_getE (F : Fx p s m args meth c cc nL Ts own D A G) {index i : Nat} (hdg : decode cc pc = .ok (.getfield index, 3)) (hi : i < 5) (k : Nat) {q : String × String × String × List Int32} (hq : FK[k]? = some q) (hlink : Cond.fieldLink own index q.1 q.2.1 q.2.2.1 ∈ Ts) {z : Int32} (hz : q.2.2.2.getD i 0 = z) (hp : pc + 3 = pc') (kk : V p l e R s m args below meth c cells slots Q D A nL pc' lv (.int z :: st) ws) : V p l e R s m args below meth c cells slots Q D A nL pc lv (.ref (gAd G i) :: st) ws := by
  obtain ⟨hx, hb, hml, hown, hts, hK, hA, hlk, hSF, hNS⟩ := F
  subst hp
  subst hz
  exact fun H locs ls hP hD hS hl => va_getE hx hb hSF.1 hi hS hown (List.mem_of_getElem? hq) (hts _ hlink) (fun _ h => h) hdg (kk H locs ls hP hD hS hl)
theorem gAd_ne {A : Nat → Prop} {U : State} {H : Heap} (h : SF G A U H) {i j : Nat} (hi : i < 5) (hj : j < 5) : gAd G i = gAd G j ↔ i = j := ⟨fun q => h.1.2 i j hi hj q, fun q => by rw [q]⟩
theorem v_perm {wz : va_W} (is : List Nat) (hn : va_nd is = true) (hs : is.map (fun i => ws[i]?) = wz.map some) (k : V p l e R s m args below meth c cells slots Q D A nL pc lv st wz) : V p l e R s m args below meth c cells slots Q D A nL pc lv st ws := by
  intro H locs ls hP hD hS hl
  refine k H locs ls ?_ (hD.sub is hn hs) hS hl
  intro j q hq
  have h1 : (is.map (fun i => ws[i]?))[j]? = some (some q) := by rw [hs, List.getElem?_map, hq]; rfl
  rw [List.getElem?_map] at h1
  cases hi : is[j]? with
  | none => rw [hi] at h1; cases h1
  | some i => rw [hi] at h1; exact hP i q (Option.some.inj h1)
theorem v_lpick {lz : List (Nat × Value)} (ks : List Nat) (hs : lv_pick lv ks = lz) (k : V p l e R s m args below meth c cells slots Q D A nL pc lz st ws) : V p l e R s m args below meth c cells slots Q D A nL pc lv st ws := fun H locs ls hP hD hS hl => k H locs ls hP hD hS (lv_sub hl ks hs)
theorem v_top {x y : Int32} (h : x = y) (k : V p l e R s m args below meth c cells slots Q D A nL pc lv (.int y :: st) ws) : V p l e R s m args below meth c cells slots Q D A nL pc lv (.int x :: st) ws := by rw [h]; exact k
theorem v_ws {wz : va_W} (h : ws = wz) (k : V p l e R s m args below meth c cells slots Q D A nL pc lv st wz) : V p l e R s m args below meth c cells slots Q D A nL pc lv st ws := by rw [h]; exact k
theorem v_st {sz : List Value} (h : st = sz) (k : V p l e R s m args below meth c cells slots Q D A nL pc lv sz ws) : V p l e R s m args below meth c cells slots Q D A nL pc lv st ws := by rw [h]; exact k
theorem v_lv {lz : List (Nat × Value)} (h : lv = lz) (k : V p l e R s m args below meth c cells slots Q D A nL pc lz st ws) : V p l e R s m args below meth c cells slots Q D A nL pc lv st ws := by rw [h]; exact k
end ROWS
/-! contracts: a method of args av over the world wc; behind it the world is wf u, and post holds of the answer and u -/
def cB (D : va_G) (G : gT) (wc : va_W) (sz : Nat) : State → Prop := fun U => U.heap.size = sz ∧ va_P D vwCl wc U.heap ∧ va_K D vwCl (tyW G) U ∧ va_D (fun _ => True) wc ∧ SF G (va_A wc sz) U U.heap ∧ NS U
def cE (D : va_G) (G : gT) (A : Nat → Prop) (w : va_W) (t : State) : Prop := va_P D vwCl w t.heap ∧ va_K D vwCl (tyW G) t ∧ va_D A w
def CtI (l : Launch) (y : MethodName) (wy : List Cond) (rm : Room) (D : va_G) (G : gT) (av : List Value) (wc : va_W) {σ : Type} (post : Int32 → σ → Prop) (wf : σ → va_W) : Prop := ∀ sz : Nat, Met l y wy rm (va_Pc av (cB D G wc sz)) (va_Qi post (fun u t => cE D G (va_A wc sz) (wf u) t) (va_A wc sz)) 0 0 (va_A wc sz)
def CtL (l : Launch) (y : MethodName) (wy : List Cond) (rm : Room) (D : va_G) (G : gT) (av : List Value) (wc : va_W) {σ : Type} (post : Int64 → σ → Prop) (wf : σ → va_W) : Prop := ∀ sz : Nat, Met l y wy rm (va_Pc av (cB D G wc sz)) (va_Ql post (fun u t => cE D G (va_A wc sz) (wf u) t) (va_A wc sz)) 0 0 (va_A wc sz)
def CtV (l : Launch) (y : MethodName) (wy : List Cond) (rm : Room) (D : va_G) (G : gT) (av : List Value) (wc : va_W) {σ : Type} (post : σ → Prop) (wf : σ → va_W) : Prop := ∀ sz : Nat, Met l y wy rm (va_Pc av (cB D G wc sz)) (va_Qv post (fun u t => cE D G (va_A wc sz) (wf u) t) (va_A wc sz)) 0 0 (va_A wc sz)
/-- an answer that is the cell ra -/
def CtR (l : Launch) (y : MethodName) (wy : List Cond) (rm : Room) (D : va_G) (G : gT) (av : List Value) (wc : va_W) (ra : Nat) {σ : Type} (post : σ → Prop) (wf : σ → va_W) : Prop := ∀ sz : Nat, Met l y wy rm (va_Pc av (cB D G wc sz)) (va_Qr post (fun u a t => a = ra ∧ cE D G (va_A wc sz) (wf u) t) (va_A wc sz)) 0 0 (va_A wc sz)
theorem cB_blind {D : va_G} {G : gT} {wc : va_W} {sz : Nat} {av : List Value} : FrameBlind (va_Pc av (cB D G wc sz)) := fun a U g mk q => by
  obtain ⟨q0, q1, qP, qK, qD, qS, qN⟩ := q
  exact ⟨q0, q1, qP, va_K.moved (u := U) (U := U.calling g mk a) (Vm.Alike.refl U.vm) qK, qD, SF.moved (u := U) (U := U.calling g mk a) (Vm.Alike.refl U.vm) qS, NS.same rfl qN⟩
/-- an address is a cell of a made kind, or a constant -/
def rcv (s : State) (H : Heap) (C : String) (b : Nat) : Prop := ∃ cell : Cell, H[b]? = some cell ∧ cell.vm.isStatics = false ∧ s.vm.findClass C = some cell.cls
section CALLS
variable {p : Program} {l : Launch} {e : Env} {R : Room} {s : State} {m : MethodId} {args : Array Value} {below : List Frame} {meth : Method} {c : Code} {cells slots : Nat} {Q : State → Prop} {D : va_G} {A : Nat → Prop} {nL : Nat} {cc : ByteArray} {Ts : List Cond} {own : String} {G : gT}
variable {pc pc' : Nat} {lv : List (Nat × Value)} {st rest As : List Value} {ws wc wr : va_W} {σ : Type} {wf : σ → va_W} {b n index maxL : Nat} {C : String} {y : MethodName} {bytes : ByteArray} {ret : Option FieldType} {wy : List Cond} {rm : Room}
theorem v_rcvW (F : Fx p s m args meth c cc nL Ts own D A G) (ci q0 : Nat) {T : u_T} {N : Nat} {fs : List Value} (hc : vwCl[ci]? = some (C, T, N)) (he : ws[q0]? = some (b, .inr (ci, fs))) : ∀ (H : Heap) (locs : List Loc), va_P D vwCl ws H → va_S A s.heap H locs → rcv s H C b := by
  obtain ⟨hx, hb, hml, hown, hts, hK, hA, hlk, hSF, hNS⟩ := F
  exact fun H locs hP hS => va_recv (q := (C, T, N)) hK hP hc he
theorem v_rcvE (F : Fx p s m args meth c cc nL Ts own D A G) {i : Nat} (hi : i < 5) : ∀ (H : Heap) (locs : List Loc), va_P D vwCl ws H → va_S A s.heap H locs → rcv s H "OtherCoins$Kind" (gAd G i) := by
  obtain ⟨hx, hb, hml, hown, hts, hK, hA, hlk, hSF, hNS⟩ := F
  exact fun H locs hP hS => va_recvE hSF.1 hi hS
theorem v_pre (F : Fx p s m args meth c cc nL Ts own D A G) {H : Heap} {locs : List Loc} (hP : va_P D vwCl ws H) (hD : va_D A ws) (hS : va_S A s.heap H locs) (isC : List Nat) (hnC : va_nd isC = true) (hC : isC.map (fun i => ws[i]?) = wc.map some) {av : List Value} : ∀ U : State, U.heap = H → s.WarmedH U.vm → va_Pc av (cB D G wc H.size) av.toArray U := by
  obtain ⟨hx, hb, hml, hown, hts, hK, hA, hlk, hSF, hNS⟩ := F
  intro U hU hW
  have hPc : va_P D vwCl wc H := by
    intro j q hq
    have h1 : (isC.map (fun i => ws[i]?))[j]? = some (some q) := by rw [hC, List.getElem?_map, hq]; rfl
    rw [List.getElem?_map] at h1
    cases hi : isC[j]? with
    | none => rw [hi] at h1; cases h1
    | some i => rw [hi] at h1; exact hP i q (Option.some.inj h1)
  have hDc := hD.sub isC hnC hC
  refine ⟨rfl, by rw [hU], by rw [hU]; exact hPc, va_K.moved hW.alike hK, hDc.weaken (fun _ _ _ _ => trivial), ?_, hNS.warm hW⟩
  rw [hU]
  exact ((SF.moved hW.alike hSF).kept hS.2.1).narrow (va_free hD hS hA isC hC)
theorem cVI (F : Fx p s m args meth c cc nL Ts own D A G) {post : Int32 → σ → Prop} (ct : CtI l y wy rm D G (Value.ref b :: As) wc post wf) (cw : CallW R s args own C index y bytes maxL ret wy rm 0 0 n) (hr : ∀ (H : Heap) (locs : List Loc), va_P D vwCl ws H → va_S A s.heap H locs → rcv s H C b) (hn : As.length = n) (hst : st = As.reverse ++ .ref b :: rest) (hW : (rest.map fun v => v.category).sum ≤ 8) (hdg : decode cc pc = .ok (.invokevirtual index, 3)) (isC isR : List Nat) (hnC : va_nd isC = true) (hC : isC.map (fun i => ws[i]?) = wc.map some) (hR : isR.map (fun i => ws[i]?) = wr.map some) (hnR : va_nd isR = true) (hdis : ∀ i ∈ isR, i ∉ isC) (hf : cells + 0 ≤ R.cells ∧ slots + 0 ≤ R.slots) (hp : pc + 3 = pc')
    (kk : ∀ (r : Int32) (u : σ), post r u → V p l e R s m args below meth c cells slots Q D A nL pc' lv (.int r :: rest) (wr ++ wf u)) : V p l e R s m args below meth c cells slots Q D A nL pc lv st ws := by
  intro H locs ls hP hD hS hl
  subst hst
  subst hp
  have hFc := va_free (wc := wc) hD hS F.2.2.2.2.2.2.1 isC hC
  refine va_calli (va_runV (As := As) (rest := rest) ⟨F.1, F.2.1, F.2.2.1, F.2.2.2.1, F.2.2.2.2.1⟩ (ct H.size) cw ⟨cB_blind, hr H locs hP hS, v_pre F hP hD hS isC hnC hC⟩ rfl hn hl.1 rfl (lv_room hW) hdg hf) hS (fun q _ h => hFc q h) hFc (fun r u t H1 locs1 ht hvm hw hB hz1 hk1 hS1 => ?_)
  obtain ⟨hP1, hK1, hD1⟩ := hB
  rw [ht] at hP1
  obtain ⟨hP2, hD2⟩ := va_join (wr := wr) (w1 := wf u) hP hD isC isR hC hR hnR hdis hk1 hFc hP1 hD1
  exact kk r u hw H1 locs1 ls hP2 hD2 hS1 hl
theorem cVL (F : Fx p s m args meth c cc nL Ts own D A G) {post : Int64 → σ → Prop} (ct : CtL l y wy rm D G (Value.ref b :: As) wc post wf) (cw : CallW R s args own C index y bytes maxL ret wy rm 0 0 n) (hr : ∀ (H : Heap) (locs : List Loc), va_P D vwCl ws H → va_S A s.heap H locs → rcv s H C b) (hn : As.length = n) (hst : st = As.reverse ++ .ref b :: rest) (hW : (rest.map fun v => v.category).sum ≤ 8) (hdg : decode cc pc = .ok (.invokevirtual index, 3)) (isC isR : List Nat) (hnC : va_nd isC = true) (hC : isC.map (fun i => ws[i]?) = wc.map some) (hR : isR.map (fun i => ws[i]?) = wr.map some) (hnR : va_nd isR = true) (hdis : ∀ i ∈ isR, i ∉ isC) (hf : cells + 0 ≤ R.cells ∧ slots + 0 ≤ R.slots) (hp : pc + 3 = pc')
    (kk : ∀ (r : Int64) (u : σ), post r u → V p l e R s m args below meth c cells slots Q D A nL pc' lv (.long r :: rest) (wr ++ wf u)) : V p l e R s m args below meth c cells slots Q D A nL pc lv st ws := by
  intro H locs ls hP hD hS hl
  subst hst
  subst hp
  have hFc := va_free (wc := wc) hD hS F.2.2.2.2.2.2.1 isC hC
  refine va_calll (va_runV (As := As) (rest := rest) ⟨F.1, F.2.1, F.2.2.1, F.2.2.2.1, F.2.2.2.2.1⟩ (ct H.size) cw ⟨cB_blind, hr H locs hP hS, v_pre F hP hD hS isC hnC hC⟩ rfl hn hl.1 rfl (lv_room hW) hdg hf) hS (fun q _ h => hFc q h) hFc (fun r u t H1 locs1 ht hvm hw hB hz1 hk1 hS1 => ?_)
  obtain ⟨hP1, hK1, hD1⟩ := hB
  rw [ht] at hP1
  obtain ⟨hP2, hD2⟩ := va_join (wr := wr) (w1 := wf u) hP hD isC isR hC hR hnR hdis hk1 hFc hP1 hD1
  exact kk r u hw H1 locs1 ls hP2 hD2 hS1 hl
theorem cVV (F : Fx p s m args meth c cc nL Ts own D A G) {post : σ → Prop} (ct : CtV l y wy rm D G (Value.ref b :: As) wc post wf) (cw : CallW R s args own C index y bytes maxL ret wy rm 0 0 n) (hr : ∀ (H : Heap) (locs : List Loc), va_P D vwCl ws H → va_S A s.heap H locs → rcv s H C b) (hn : As.length = n) (hst : st = As.reverse ++ .ref b :: rest) (hW : (rest.map fun v => v.category).sum ≤ 8) (hdg : decode cc pc = .ok (.invokevirtual index, 3)) (isC isR : List Nat) (hnC : va_nd isC = true) (hC : isC.map (fun i => ws[i]?) = wc.map some) (hR : isR.map (fun i => ws[i]?) = wr.map some) (hnR : va_nd isR = true) (hdis : ∀ i ∈ isR, i ∉ isC) (hf : cells + 0 ≤ R.cells ∧ slots + 0 ≤ R.slots) (hp : pc + 3 = pc')
    (kk : ∀ (u : σ), post u → V p l e R s m args below meth c cells slots Q D A nL pc' lv rest (wr ++ wf u)) : V p l e R s m args below meth c cells slots Q D A nL pc lv st ws := by
  intro H locs ls hP hD hS hl
  subst hst
  subst hp
  have hFc := va_free (wc := wc) hD hS F.2.2.2.2.2.2.1 isC hC
  refine va_callv (va_runV (As := As) (rest := rest) ⟨F.1, F.2.1, F.2.2.1, F.2.2.2.1, F.2.2.2.2.1⟩ (ct H.size) cw ⟨cB_blind, hr H locs hP hS, v_pre F hP hD hS isC hnC hC⟩ rfl hn hl.1 rfl (lv_room hW) hdg hf) hS (fun q _ h => hFc q h) hFc (fun u t H1 locs1 ht hvm hw hB hz1 hk1 hS1 => ?_)
  obtain ⟨hP1, hK1, hD1⟩ := hB
  rw [ht] at hP1
  obtain ⟨hP2, hD2⟩ := va_join (wr := wr) (w1 := wf u) hP hD isC isR hC hR hnR hdis hk1 hFc hP1 hD1
  exact kk u hw H1 locs1 ls hP2 hD2 hS1 hl
theorem cVR (F : Fx p s m args meth c cc nL Ts own D A G) {ra : Nat} {post : σ → Prop} (ct : CtR l y wy rm D G (Value.ref b :: As) wc ra post wf) (cw : CallW R s args own C index y bytes maxL ret wy rm 0 0 n) (hr : ∀ (H : Heap) (locs : List Loc), va_P D vwCl ws H → va_S A s.heap H locs → rcv s H C b) (hn : As.length = n) (hst : st = As.reverse ++ .ref b :: rest) (hW : (rest.map fun v => v.category).sum ≤ 8) (hdg : decode cc pc = .ok (.invokevirtual index, 3)) (isC isR : List Nat) (hnC : va_nd isC = true) (hC : isC.map (fun i => ws[i]?) = wc.map some) (hR : isR.map (fun i => ws[i]?) = wr.map some) (hnR : va_nd isR = true) (hdis : ∀ i ∈ isR, i ∉ isC) (hf : cells + 0 ≤ R.cells ∧ slots + 0 ≤ R.slots) (hp : pc + 3 = pc')
    (kk : ∀ (u : σ), post u → V p l e R s m args below meth c cells slots Q D A nL pc' lv (.ref ra :: rest) (wr ++ wf u)) : V p l e R s m args below meth c cells slots Q D A nL pc lv st ws := by
  intro H locs ls hP hD hS hl
  subst hst
  subst hp
  have hFc := va_free (wc := wc) hD hS F.2.2.2.2.2.2.1 isC hC
  refine va_callr (va_runV (As := As) (rest := rest) ⟨F.1, F.2.1, F.2.2.1, F.2.2.2.1, F.2.2.2.2.1⟩ (ct H.size) cw ⟨cB_blind, hr H locs hP hS, v_pre F hP hD hS isC hnC hC⟩ rfl hn hl.1 rfl (lv_room hW) hdg hf) hS (fun q _ h => hFc q h) hFc (fun u r t H1 locs1 ht hvm hw hB hz1 hk1 hS1 => ?_)
  obtain ⟨rfl, hB⟩ := hB
  obtain ⟨hP1, hK1, hD1⟩ := hB
  rw [ht] at hP1
  obtain ⟨hP2, hD2⟩ := va_join (wr := wr) (w1 := wf u) hP hD isC isR hC hR hnR hdis hk1 hFc hP1 hD1
  exact kk u hw H1 locs1 ls hP2 hD2 hS1 hl
theorem cSI (F : Fx p s m args meth c cc nL Ts own D A G) {post : Int32 → σ → Prop} (ct : CtI l y wy rm D G As wc post wf) (cw : CallB R s args own index y bytes maxL ret wy rm 0 0 n ∧ (Cond.static y).before args s = true) (hn : As.length = n) (hst : st = As.reverse ++ rest) (hW : (rest.map fun v => v.category).sum ≤ 8) (hdg : decode cc pc = .ok (.invokestatic index, 3)) (isC isR : List Nat) (hnC : va_nd isC = true) (hC : isC.map (fun i => ws[i]?) = wc.map some) (hR : isR.map (fun i => ws[i]?) = wr.map some) (hnR : va_nd isR = true) (hdis : ∀ i ∈ isR, i ∉ isC) (hf : cells + 0 ≤ R.cells ∧ slots + 0 ≤ R.slots) (hp : pc + 3 = pc')
    (kk : ∀ (r : Int32) (u : σ), post r u → V p l e R s m args below meth c cells slots Q D A nL pc' lv (.int r :: rest) (wr ++ wf u)) : V p l e R s m args below meth c cells slots Q D A nL pc lv st ws := by
  intro H locs ls hP hD hS hl
  subst hst
  subst hp
  have hFc := va_free (wc := wc) hD hS F.2.2.2.2.2.2.1 isC hC
  refine va_calli (va_runS (As := As) (rest := rest) ⟨F.1, F.2.1, F.2.2.1, F.2.2.2.1, F.2.2.2.2.1⟩ (ct H.size) cw ⟨cB_blind, v_pre F hP hD hS isC hnC hC⟩ rfl hn hl.1 rfl (lv_room hW) hdg hf) hS (fun q _ h => hFc q h) hFc (fun r u t H1 locs1 ht hvm hw hB hz1 hk1 hS1 => ?_)
  obtain ⟨hP1, hK1, hD1⟩ := hB
  rw [ht] at hP1
  obtain ⟨hP2, hD2⟩ := va_join (wr := wr) (w1 := wf u) hP hD isC isR hC hR hnR hdis hk1 hFc hP1 hD1
  exact kk r u hw H1 locs1 ls hP2 hD2 hS1 hl
theorem cSL (F : Fx p s m args meth c cc nL Ts own D A G) {post : Int64 → σ → Prop} (ct : CtL l y wy rm D G As wc post wf) (cw : CallB R s args own index y bytes maxL ret wy rm 0 0 n ∧ (Cond.static y).before args s = true) (hn : As.length = n) (hst : st = As.reverse ++ rest) (hW : (rest.map fun v => v.category).sum ≤ 8) (hdg : decode cc pc = .ok (.invokestatic index, 3)) (isC isR : List Nat) (hnC : va_nd isC = true) (hC : isC.map (fun i => ws[i]?) = wc.map some) (hR : isR.map (fun i => ws[i]?) = wr.map some) (hnR : va_nd isR = true) (hdis : ∀ i ∈ isR, i ∉ isC) (hf : cells + 0 ≤ R.cells ∧ slots + 0 ≤ R.slots) (hp : pc + 3 = pc')
    (kk : ∀ (r : Int64) (u : σ), post r u → V p l e R s m args below meth c cells slots Q D A nL pc' lv (.long r :: rest) (wr ++ wf u)) : V p l e R s m args below meth c cells slots Q D A nL pc lv st ws := by
  intro H locs ls hP hD hS hl
  subst hst
  subst hp
  have hFc := va_free (wc := wc) hD hS F.2.2.2.2.2.2.1 isC hC
  refine va_calll (va_runS (As := As) (rest := rest) ⟨F.1, F.2.1, F.2.2.1, F.2.2.2.1, F.2.2.2.2.1⟩ (ct H.size) cw ⟨cB_blind, v_pre F hP hD hS isC hnC hC⟩ rfl hn hl.1 rfl (lv_room hW) hdg hf) hS (fun q _ h => hFc q h) hFc (fun r u t H1 locs1 ht hvm hw hB hz1 hk1 hS1 => ?_)
  obtain ⟨hP1, hK1, hD1⟩ := hB
  rw [ht] at hP1
  obtain ⟨hP2, hD2⟩ := va_join (wr := wr) (w1 := wf u) hP hD isC isR hC hR hnR hdis hk1 hFc hP1 hD1
  exact kk r u hw H1 locs1 ls hP2 hD2 hS1 hl
theorem cSV (F : Fx p s m args meth c cc nL Ts own D A G) {post : σ → Prop} (ct : CtV l y wy rm D G As wc post wf) (cw : CallB R s args own index y bytes maxL ret wy rm 0 0 n ∧ (Cond.static y).before args s = true) (hn : As.length = n) (hst : st = As.reverse ++ rest) (hW : (rest.map fun v => v.category).sum ≤ 8) (hdg : decode cc pc = .ok (.invokestatic index, 3)) (isC isR : List Nat) (hnC : va_nd isC = true) (hC : isC.map (fun i => ws[i]?) = wc.map some) (hR : isR.map (fun i => ws[i]?) = wr.map some) (hnR : va_nd isR = true) (hdis : ∀ i ∈ isR, i ∉ isC) (hf : cells + 0 ≤ R.cells ∧ slots + 0 ≤ R.slots) (hp : pc + 3 = pc')
    (kk : ∀ (u : σ), post u → V p l e R s m args below meth c cells slots Q D A nL pc' lv rest (wr ++ wf u)) : V p l e R s m args below meth c cells slots Q D A nL pc lv st ws := by
  intro H locs ls hP hD hS hl
  subst hst
  subst hp
  have hFc := va_free (wc := wc) hD hS F.2.2.2.2.2.2.1 isC hC
  refine va_callv (va_runS (As := As) (rest := rest) ⟨F.1, F.2.1, F.2.2.1, F.2.2.2.1, F.2.2.2.2.1⟩ (ct H.size) cw ⟨cB_blind, v_pre F hP hD hS isC hnC hC⟩ rfl hn hl.1 rfl (lv_room hW) hdg hf) hS (fun q _ h => hFc q h) hFc (fun u t H1 locs1 ht hvm hw hB hz1 hk1 hS1 => ?_)
  obtain ⟨hP1, hK1, hD1⟩ := hB
  rw [ht] at hP1
  obtain ⟨hP2, hD2⟩ := va_join (wr := wr) (w1 := wf u) hP hD isC isR hC hR hnR hdis hk1 hFc hP1 hD1
  exact kk u hw H1 locs1 ls hP2 hD2 hS1 hl
theorem cSR (F : Fx p s m args meth c cc nL Ts own D A G) {ra : Nat} {post : σ → Prop} (ct : CtR l y wy rm D G As wc ra post wf) (cw : CallB R s args own index y bytes maxL ret wy rm 0 0 n ∧ (Cond.static y).before args s = true) (hn : As.length = n) (hst : st = As.reverse ++ rest) (hW : (rest.map fun v => v.category).sum ≤ 8) (hdg : decode cc pc = .ok (.invokestatic index, 3)) (isC isR : List Nat) (hnC : va_nd isC = true) (hC : isC.map (fun i => ws[i]?) = wc.map some) (hR : isR.map (fun i => ws[i]?) = wr.map some) (hnR : va_nd isR = true) (hdis : ∀ i ∈ isR, i ∉ isC) (hf : cells + 0 ≤ R.cells ∧ slots + 0 ≤ R.slots) (hp : pc + 3 = pc')
    (kk : ∀ (u : σ), post u → V p l e R s m args below meth c cells slots Q D A nL pc' lv (.ref ra :: rest) (wr ++ wf u)) : V p l e R s m args below meth c cells slots Q D A nL pc lv st ws := by
  intro H locs ls hP hD hS hl
  subst hst
  subst hp
  have hFc := va_free (wc := wc) hD hS F.2.2.2.2.2.2.1 isC hC
  refine va_callr (va_runS (As := As) (rest := rest) ⟨F.1, F.2.1, F.2.2.1, F.2.2.2.1, F.2.2.2.2.1⟩ (ct H.size) cw ⟨cB_blind, v_pre F hP hD hS isC hnC hC⟩ rfl hn hl.1 rfl (lv_room hW) hdg hf) hS (fun q _ h => hFc q h) hFc (fun u r t H1 locs1 ht hvm hw hB hz1 hk1 hS1 => ?_)
  obtain ⟨rfl, hB⟩ := hB
  obtain ⟨hP1, hK1, hD1⟩ := hB
  rw [ht] at hP1
  obtain ⟨hP2, hD2⟩ := va_join (wr := wr) (w1 := wf u) hP hD isC isR hC hR hnR hdis hk1 hFc hP1 hD1
  exact kk u hw H1 locs1 ls hP2 hD2 hS1 hl
theorem cSNI (F : Fx p s m args meth c cc nL Ts own D A G) {host : String} {post : Int32 → σ → Prop} (ct : CtI l y wy rm D G As wc post wf) (cw : va_CN R s args own index y host bytes maxL ret wy rm 0 0 n ∧ (Cond.static y).before args s = true ∧ True) (hn : As.length = n) (hst : st = As.reverse ++ rest) (hW : (rest.map fun v => v.category).sum ≤ 8) (hdg : decode cc pc = .ok (.invokestatic index, 3)) (isC isR : List Nat) (hnC : va_nd isC = true) (hC : isC.map (fun i => ws[i]?) = wc.map some) (hR : isR.map (fun i => ws[i]?) = wr.map some) (hnR : va_nd isR = true) (hdis : ∀ i ∈ isR, i ∉ isC) (hf : cells + 0 ≤ R.cells ∧ slots + 0 ≤ R.slots) (hp : pc + 3 = pc')
    (kk : ∀ (r : Int32) (u : σ), post r u → V p l e R s m args below meth c cells slots Q D A nL pc' lv (.int r :: rest) (wr ++ wf u)) : V p l e R s m args below meth c cells slots Q D A nL pc lv st ws := by
  intro H locs ls hP hD hS hl
  subst hst
  subst hp
  have hFc := va_free (wc := wc) hD hS F.2.2.2.2.2.2.1 isC hC
  refine va_calli (va_runSN (As := As) (rest := rest) ⟨F.1, F.2.1, F.2.2.1, F.2.2.2.1, F.2.2.2.2.1⟩ (ct H.size) cw ⟨cB_blind, v_pre F hP hD hS isC hnC hC⟩ rfl hn hl.1 rfl (lv_room hW) hdg hf) hS (fun q _ h => hFc q h) hFc (fun r u t H1 locs1 ht hvm hw hB hz1 hk1 hS1 => ?_)
  obtain ⟨hP1, hK1, hD1⟩ := hB
  rw [ht] at hP1
  obtain ⟨hP2, hD2⟩ := va_join (wr := wr) (w1 := wf u) hP hD isC isR hC hR hnR hdis hk1 hFc hP1 hD1
  exact kk r u hw H1 locs1 ls hP2 hD2 hS1 hl
theorem cSNL (F : Fx p s m args meth c cc nL Ts own D A G) {host : String} {post : Int64 → σ → Prop} (ct : CtL l y wy rm D G As wc post wf) (cw : va_CN R s args own index y host bytes maxL ret wy rm 0 0 n ∧ (Cond.static y).before args s = true ∧ True) (hn : As.length = n) (hst : st = As.reverse ++ rest) (hW : (rest.map fun v => v.category).sum ≤ 8) (hdg : decode cc pc = .ok (.invokestatic index, 3)) (isC isR : List Nat) (hnC : va_nd isC = true) (hC : isC.map (fun i => ws[i]?) = wc.map some) (hR : isR.map (fun i => ws[i]?) = wr.map some) (hnR : va_nd isR = true) (hdis : ∀ i ∈ isR, i ∉ isC) (hf : cells + 0 ≤ R.cells ∧ slots + 0 ≤ R.slots) (hp : pc + 3 = pc')
    (kk : ∀ (r : Int64) (u : σ), post r u → V p l e R s m args below meth c cells slots Q D A nL pc' lv (.long r :: rest) (wr ++ wf u)) : V p l e R s m args below meth c cells slots Q D A nL pc lv st ws := by
  intro H locs ls hP hD hS hl
  subst hst
  subst hp
  have hFc := va_free (wc := wc) hD hS F.2.2.2.2.2.2.1 isC hC
  refine va_calll (va_runSN (As := As) (rest := rest) ⟨F.1, F.2.1, F.2.2.1, F.2.2.2.1, F.2.2.2.2.1⟩ (ct H.size) cw ⟨cB_blind, v_pre F hP hD hS isC hnC hC⟩ rfl hn hl.1 rfl (lv_room hW) hdg hf) hS (fun q _ h => hFc q h) hFc (fun r u t H1 locs1 ht hvm hw hB hz1 hk1 hS1 => ?_)
  obtain ⟨hP1, hK1, hD1⟩ := hB
  rw [ht] at hP1
  obtain ⟨hP2, hD2⟩ := va_join (wr := wr) (w1 := wf u) hP hD isC isR hC hR hnR hdis hk1 hFc hP1 hD1
  exact kk r u hw H1 locs1 ls hP2 hD2 hS1 hl
theorem cSNV (F : Fx p s m args meth c cc nL Ts own D A G) {host : String} {post : σ → Prop} (ct : CtV l y wy rm D G As wc post wf) (cw : va_CN R s args own index y host bytes maxL ret wy rm 0 0 n ∧ (Cond.static y).before args s = true ∧ True) (hn : As.length = n) (hst : st = As.reverse ++ rest) (hW : (rest.map fun v => v.category).sum ≤ 8) (hdg : decode cc pc = .ok (.invokestatic index, 3)) (isC isR : List Nat) (hnC : va_nd isC = true) (hC : isC.map (fun i => ws[i]?) = wc.map some) (hR : isR.map (fun i => ws[i]?) = wr.map some) (hnR : va_nd isR = true) (hdis : ∀ i ∈ isR, i ∉ isC) (hf : cells + 0 ≤ R.cells ∧ slots + 0 ≤ R.slots) (hp : pc + 3 = pc')
    (kk : ∀ (u : σ), post u → V p l e R s m args below meth c cells slots Q D A nL pc' lv rest (wr ++ wf u)) : V p l e R s m args below meth c cells slots Q D A nL pc lv st ws := by
  intro H locs ls hP hD hS hl
  subst hst
  subst hp
  have hFc := va_free (wc := wc) hD hS F.2.2.2.2.2.2.1 isC hC
  refine va_callv (va_runSN (As := As) (rest := rest) ⟨F.1, F.2.1, F.2.2.1, F.2.2.2.1, F.2.2.2.2.1⟩ (ct H.size) cw ⟨cB_blind, v_pre F hP hD hS isC hnC hC⟩ rfl hn hl.1 rfl (lv_room hW) hdg hf) hS (fun q _ h => hFc q h) hFc (fun u t H1 locs1 ht hvm hw hB hz1 hk1 hS1 => ?_)
  obtain ⟨hP1, hK1, hD1⟩ := hB
  rw [ht] at hP1
  obtain ⟨hP2, hD2⟩ := va_join (wr := wr) (w1 := wf u) hP hD isC isR hC hR hnR hdis hk1 hFc hP1 hD1
  exact kk u hw H1 locs1 ls hP2 hD2 hS1 hl
theorem cSNR (F : Fx p s m args meth c cc nL Ts own D A G) {host : String} {ra : Nat} {post : σ → Prop} (ct : CtR l y wy rm D G As wc ra post wf) (cw : va_CN R s args own index y host bytes maxL ret wy rm 0 0 n ∧ (Cond.static y).before args s = true ∧ True) (hn : As.length = n) (hst : st = As.reverse ++ rest) (hW : (rest.map fun v => v.category).sum ≤ 8) (hdg : decode cc pc = .ok (.invokestatic index, 3)) (isC isR : List Nat) (hnC : va_nd isC = true) (hC : isC.map (fun i => ws[i]?) = wc.map some) (hR : isR.map (fun i => ws[i]?) = wr.map some) (hnR : va_nd isR = true) (hdis : ∀ i ∈ isR, i ∉ isC) (hf : cells + 0 ≤ R.cells ∧ slots + 0 ≤ R.slots) (hp : pc + 3 = pc')
    (kk : ∀ (u : σ), post u → V p l e R s m args below meth c cells slots Q D A nL pc' lv (.ref ra :: rest) (wr ++ wf u)) : V p l e R s m args below meth c cells slots Q D A nL pc lv st ws := by
  intro H locs ls hP hD hS hl
  subst hst
  subst hp
  have hFc := va_free (wc := wc) hD hS F.2.2.2.2.2.2.1 isC hC
  refine va_callr (va_runSN (As := As) (rest := rest) ⟨F.1, F.2.1, F.2.2.1, F.2.2.2.1, F.2.2.2.2.1⟩ (ct H.size) cw ⟨cB_blind, v_pre F hP hD hS isC hnC hC⟩ rfl hn hl.1 rfl (lv_room hW) hdg hf) hS (fun q _ h => hFc q h) hFc (fun u r t H1 locs1 ht hvm hw hB hz1 hk1 hS1 => ?_)
  obtain ⟨rfl, hB⟩ := hB
  obtain ⟨hP1, hK1, hD1⟩ := hB
  rw [ht] at hP1
  obtain ⟨hP2, hD2⟩ := va_join (wr := wr) (w1 := wf u) hP hD isC isR hC hR hnR hdis hk1 hFc hP1 hD1
  exact kk u hw H1 locs1 ls hP2 hD2 hS1 hl
theorem r_I (F : Fx p s m args meth c cc nL Ts own D A G) {post : Int32 → σ → Prop} {v : Int32} (hr : meth.sig.returnType = some .int) (hdg : decode cc pc = .ok (.ireturn, 1)) (u : σ) (hpo : post v u) (hw : ws = wf u) : V p l e R s m args below meth c cells slots (MQ below (va_Qi post (fun u t => cE D G A (wf u) t) A) args s cells slots A) D A nL pc lv [.int v] ws := by
  subst hw
  exact fun H locs ls hP hD hS hl => W.iret F.1 F.2.1 hr (fun t ht hW => ⟨⟨v, u, rfl, hpo, by rw [ht]; exact hP, va_K.moved hW.alike F.2.2.2.2.2.1, hD⟩, hS.F ht⟩) hS.2.2 hdg F.2.2.2.2.2.2.2.1
theorem r_Z (F : Fx p s m args meth c cc nL Ts own D A G) {post : Int32 → σ → Prop} {v : Int32} (hr : meth.sig.returnType = some .boolean) (hn : narrow .boolean (.int v) = .int v) (hdg : decode cc pc = .ok (.ireturn, 1)) (u : σ) (hpo : post v u) (hw : ws = wf u) : V p l e R s m args below meth c cells slots (MQ below (va_Qi post (fun u t => cE D G A (wf u) t) A) args s cells slots A) D A nL pc lv [.int v] ws := by
  subst hw
  exact fun H locs ls hP hD hS hl => W.zret F.1 F.2.1 hr hn (fun t ht hW => ⟨⟨v, u, rfl, hpo, by rw [ht]; exact hP, va_K.moved hW.alike F.2.2.2.2.2.1, hD⟩, hS.F ht⟩) hS.2.2 hdg F.2.2.2.2.2.2.2.1
theorem r_L (F : Fx p s m args meth c cc nL Ts own D A G) {post : Int64 → σ → Prop} {v : Int64} (hr : meth.sig.returnType = some .long) (hdg : decode cc pc = .ok (.lreturn, 1)) (u : σ) (hpo : post v u) (hw : ws = wf u) : V p l e R s m args below meth c cells slots (MQ below (va_Ql post (fun u t => cE D G A (wf u) t) A) args s cells slots A) D A nL pc lv [.long v] ws := by
  subst hw
  exact fun H locs ls hP hD hS hl => W.lret F.1 F.2.1 hr (fun t ht hW => ⟨⟨v, u, rfl, hpo, by rw [ht]; exact hP, va_K.moved hW.alike F.2.2.2.2.2.1, hD⟩, hS.F ht⟩) hS.2.2 hdg F.2.2.2.2.2.2.2.1
theorem r_V (F : Fx p s m args meth c cc nL Ts own D A G) {post : σ → Prop} (hr : meth.sig.returnType = none) (hdg : decode cc pc = .ok (.return_, 1)) (u : σ) (hpo : post u) (hw : ws = wf u) : V p l e R s m args below meth c cells slots (MQ below (va_Qv post (fun u t => cE D G A (wf u) t) A) args s cells slots A) D A nL pc lv [] ws := by
  subst hw
  exact fun H locs ls hP hD hS hl => W.vret F.1 F.2.1 hr (fun t ht hW => ⟨⟨u, rfl, hpo, by rw [ht]; exact hP, va_K.moved hW.alike F.2.2.2.2.2.1, hD⟩, hS.F ht⟩) hS.2.2 hdg F.2.2.2.2.2.2.2.1
theorem r_R (F : Fx p s m args meth c cc nL Ts own D A G) {post : σ → Prop} {ra : Nat} {rt : FieldType} (hr : meth.sig.returnType = some rt) (hrt : (∃ n, rt = .object n) ∨ ∃ t, rt = .array t) (hdg : decode cc pc = .ok (.areturn, 1)) (u : σ) (hpo : post u) (hw : ws = wf u) : V p l e R s m args below meth c cells slots (MQ below (va_Qr post (fun u a t => a = ra ∧ cE D G A (wf u) t) A) args s cells slots A) D A nL pc lv [.ref ra] ws := by
  subst hw
  exact fun H locs ls hP hD hS hl => W.aret F.1 F.2.1 hr hrt (Or.inr ⟨_, rfl⟩) (fun t ht hW => ⟨⟨u, ra, rfl, hpo, rfl, by rw [ht]; exact hP, va_K.moved hW.alike F.2.2.2.2.2.1, hD⟩, hS.F ht⟩) hS.2.2 hdg F.2.2.2.2.2.2.2.1
end CALLS
theorem openI {l : Launch} {y : MethodName} {wy wy' : List Cond} {rm : Room} {D : va_G} {G : gT} {av : List Value} {wc : va_W} {σ : Type} {post : Int32 → σ → Prop} {wf : σ → va_W} {cc : ByteArray} {maxL : Nat} (hy : plainName y.cls = true) (hw : wy = .code y cc maxL (some .int) :: wy') (hlen : (lg_sl av).length ≤ maxL)
    (body : ∀ (p : Program) (e : Env) (s : State) (m : MethodId) (args : Array Value) (below : List Frame) (meth : Method) (c : Code) (A : Nat → Prop) (Q : State → Prop), Fx p s m args meth c cc maxL wy y.cls D A G → meth.name = y.name → (∀ {pc : Nat} {lv : List (Nat × Value)} {v : Int32} {ws : va_W} (_ : decode cc pc = .ok (.ireturn, 1)) (u : σ) (_ : post v u) (_ : ws = wf u), V p l e rm s m args below meth c 0 0 Q D A maxL pc lv [.int v] ws) → V p l e rm s m args below meth c 0 0 Q D A maxL 0 (lv_args 0 av) [] wc) : CtI l y wy rm D G av wc post wf := by
  intro sz
  refine Met.ofW (cc := cc) (maxL := maxL) (ret := (some .int)) hy hw ?_
  intro p e s m args below meth c s₁ B hml hv
  obtain ⟨rfl, hsz, hP, hK, hD0, hSF, hNS⟩ := hv
  subst hsz
  have hts := atoms_spec (ws := wy) B.pre
  have hown : s.vm.findClass y.cls = some m.cls := findClass_of_methodNamed B.named
  have hin : meth.name = y.name := (name_of_methodNamed B.named B.method).1
  have hD := hD0.self (sz := s.heap.size)
  have hl := lv_entry av (n := maxL) hlen
  have hA : ∀ q : Nat, s.heap.size ≤ q → va_A wc s.heap.size q := fun q h => Or.inr h
  rw [lg_entry_eq]
  generalize va_A wc s.heap.size = A at hD hSF hA ⊢
  have F : Fx p s m av.toArray meth c cc maxL wy y.cls D A G := ⟨B.exec, B.bytes, hml, hown, hts, hK, hA, B.notSynchronized, hSF, hNS⟩
  exact body p e s m _ below meth c A _ F hin (fun hdg u hpo hw => r_I F B.returns hdg u hpo hw) s.heap [] _ hP hD va_S.rf hl
theorem openZ {l : Launch} {y : MethodName} {wy wy' : List Cond} {rm : Room} {D : va_G} {G : gT} {av : List Value} {wc : va_W} {σ : Type} {post : Int32 → σ → Prop} {wf : σ → va_W} {cc : ByteArray} {maxL : Nat} (hy : plainName y.cls = true) (hw : wy = .code y cc maxL (some .boolean) :: wy') (hlen : (lg_sl av).length ≤ maxL)
    (body : ∀ (p : Program) (e : Env) (s : State) (m : MethodId) (args : Array Value) (below : List Frame) (meth : Method) (c : Code) (A : Nat → Prop) (Q : State → Prop), Fx p s m args meth c cc maxL wy y.cls D A G → meth.name = y.name → (∀ {pc : Nat} {lv : List (Nat × Value)} {v : Int32} {ws : va_W} (_ : narrow .boolean (.int v) = .int v) (_ : decode cc pc = .ok (.ireturn, 1)) (u : σ) (_ : post v u) (_ : ws = wf u), V p l e rm s m args below meth c 0 0 Q D A maxL pc lv [.int v] ws) → V p l e rm s m args below meth c 0 0 Q D A maxL 0 (lv_args 0 av) [] wc) : CtI l y wy rm D G av wc post wf := by
  intro sz
  refine Met.ofW (cc := cc) (maxL := maxL) (ret := (some .boolean)) hy hw ?_
  intro p e s m args below meth c s₁ B hml hv
  obtain ⟨rfl, hsz, hP, hK, hD0, hSF, hNS⟩ := hv
  subst hsz
  have hts := atoms_spec (ws := wy) B.pre
  have hown : s.vm.findClass y.cls = some m.cls := findClass_of_methodNamed B.named
  have hin : meth.name = y.name := (name_of_methodNamed B.named B.method).1
  have hD := hD0.self (sz := s.heap.size)
  have hl := lv_entry av (n := maxL) hlen
  have hA : ∀ q : Nat, s.heap.size ≤ q → va_A wc s.heap.size q := fun q h => Or.inr h
  rw [lg_entry_eq]
  generalize va_A wc s.heap.size = A at hD hSF hA ⊢
  have F : Fx p s m av.toArray meth c cc maxL wy y.cls D A G := ⟨B.exec, B.bytes, hml, hown, hts, hK, hA, B.notSynchronized, hSF, hNS⟩
  exact body p e s m _ below meth c A _ F hin (fun hn hdg u hpo hw => r_Z F B.returns hn hdg u hpo hw) s.heap [] _ hP hD va_S.rf hl
theorem openL {l : Launch} {y : MethodName} {wy wy' : List Cond} {rm : Room} {D : va_G} {G : gT} {av : List Value} {wc : va_W} {σ : Type} {post : Int64 → σ → Prop} {wf : σ → va_W} {cc : ByteArray} {maxL : Nat} (hy : plainName y.cls = true) (hw : wy = .code y cc maxL (some .long) :: wy') (hlen : (lg_sl av).length ≤ maxL)
    (body : ∀ (p : Program) (e : Env) (s : State) (m : MethodId) (args : Array Value) (below : List Frame) (meth : Method) (c : Code) (A : Nat → Prop) (Q : State → Prop), Fx p s m args meth c cc maxL wy y.cls D A G → meth.name = y.name → (∀ {pc : Nat} {lv : List (Nat × Value)} {v : Int64} {ws : va_W} (_ : decode cc pc = .ok (.lreturn, 1)) (u : σ) (_ : post v u) (_ : ws = wf u), V p l e rm s m args below meth c 0 0 Q D A maxL pc lv [.long v] ws) → V p l e rm s m args below meth c 0 0 Q D A maxL 0 (lv_args 0 av) [] wc) : CtL l y wy rm D G av wc post wf := by
  intro sz
  refine Met.ofW (cc := cc) (maxL := maxL) (ret := (some .long)) hy hw ?_
  intro p e s m args below meth c s₁ B hml hv
  obtain ⟨rfl, hsz, hP, hK, hD0, hSF, hNS⟩ := hv
  subst hsz
  have hts := atoms_spec (ws := wy) B.pre
  have hown : s.vm.findClass y.cls = some m.cls := findClass_of_methodNamed B.named
  have hin : meth.name = y.name := (name_of_methodNamed B.named B.method).1
  have hD := hD0.self (sz := s.heap.size)
  have hl := lv_entry av (n := maxL) hlen
  have hA : ∀ q : Nat, s.heap.size ≤ q → va_A wc s.heap.size q := fun q h => Or.inr h
  rw [lg_entry_eq]
  generalize va_A wc s.heap.size = A at hD hSF hA ⊢
  have F : Fx p s m av.toArray meth c cc maxL wy y.cls D A G := ⟨B.exec, B.bytes, hml, hown, hts, hK, hA, B.notSynchronized, hSF, hNS⟩
  exact body p e s m _ below meth c A _ F hin (fun hdg u hpo hw => r_L F B.returns hdg u hpo hw) s.heap [] _ hP hD va_S.rf hl
theorem openV {l : Launch} {y : MethodName} {wy wy' : List Cond} {rm : Room} {D : va_G} {G : gT} {av : List Value} {wc : va_W} {σ : Type} {post : σ → Prop} {wf : σ → va_W} {cc : ByteArray} {maxL : Nat} (hy : plainName y.cls = true) (hw : wy = .code y cc maxL none :: wy') (hlen : (lg_sl av).length ≤ maxL)
    (body : ∀ (p : Program) (e : Env) (s : State) (m : MethodId) (args : Array Value) (below : List Frame) (meth : Method) (c : Code) (A : Nat → Prop) (Q : State → Prop), Fx p s m args meth c cc maxL wy y.cls D A G → meth.name = y.name → (∀ {pc : Nat} {lv : List (Nat × Value)} {ws : va_W} (_ : decode cc pc = .ok (.return_, 1)) (u : σ) (_ : post u) (_ : ws = wf u), V p l e rm s m args below meth c 0 0 Q D A maxL pc lv [] ws) → V p l e rm s m args below meth c 0 0 Q D A maxL 0 (lv_args 0 av) [] wc) : CtV l y wy rm D G av wc post wf := by
  intro sz
  refine Met.ofW (cc := cc) (maxL := maxL) (ret := none) hy hw ?_
  intro p e s m args below meth c s₁ B hml hv
  obtain ⟨rfl, hsz, hP, hK, hD0, hSF, hNS⟩ := hv
  subst hsz
  have hts := atoms_spec (ws := wy) B.pre
  have hown : s.vm.findClass y.cls = some m.cls := findClass_of_methodNamed B.named
  have hin : meth.name = y.name := (name_of_methodNamed B.named B.method).1
  have hD := hD0.self (sz := s.heap.size)
  have hl := lv_entry av (n := maxL) hlen
  have hA : ∀ q : Nat, s.heap.size ≤ q → va_A wc s.heap.size q := fun q h => Or.inr h
  rw [lg_entry_eq]
  generalize va_A wc s.heap.size = A at hD hSF hA ⊢
  have F : Fx p s m av.toArray meth c cc maxL wy y.cls D A G := ⟨B.exec, B.bytes, hml, hown, hts, hK, hA, B.notSynchronized, hSF, hNS⟩
  exact body p e s m _ below meth c A _ F hin (fun hdg u hpo hw => r_V F B.returns hdg u hpo hw) s.heap [] _ hP hD va_S.rf hl
theorem openR {l : Launch} {y : MethodName} {wy wy' : List Cond} {rm : Room} {D : va_G} {G : gT} {av : List Value} {wc : va_W} {ra : Nat} {rn : String} {σ : Type} {post : σ → Prop} {wf : σ → va_W} {cc : ByteArray} {maxL : Nat} (hy : plainName y.cls = true) (hw : wy = .code y cc maxL (some (.object rn)) :: wy') (hlen : (lg_sl av).length ≤ maxL)
    (body : ∀ (p : Program) (e : Env) (s : State) (m : MethodId) (args : Array Value) (below : List Frame) (meth : Method) (c : Code) (A : Nat → Prop) (Q : State → Prop), Fx p s m args meth c cc maxL wy y.cls D A G → meth.name = y.name → (∀ {pc : Nat} {lv : List (Nat × Value)} {ws : va_W} (_ : decode cc pc = .ok (.areturn, 1)) (u : σ) (_ : post u) (_ : ws = wf u), V p l e rm s m args below meth c 0 0 Q D A maxL pc lv [.ref ra] ws) → V p l e rm s m args below meth c 0 0 Q D A maxL 0 (lv_args 0 av) [] wc) : CtR l y wy rm D G av wc ra post wf := by
  intro sz
  refine Met.ofW (cc := cc) (maxL := maxL) (ret := (some (.object rn))) hy hw ?_
  intro p e s m args below meth c s₁ B hml hv
  obtain ⟨rfl, hsz, hP, hK, hD0, hSF, hNS⟩ := hv
  subst hsz
  have hts := atoms_spec (ws := wy) B.pre
  have hown : s.vm.findClass y.cls = some m.cls := findClass_of_methodNamed B.named
  have hin : meth.name = y.name := (name_of_methodNamed B.named B.method).1
  have hD := hD0.self (sz := s.heap.size)
  have hl := lv_entry av (n := maxL) hlen
  have hA : ∀ q : Nat, s.heap.size ≤ q → va_A wc s.heap.size q := fun q h => Or.inr h
  rw [lg_entry_eq]
  generalize va_A wc s.heap.size = A at hD hSF hA ⊢
  have F : Fx p s m av.toArray meth c cc maxL wy y.cls D A G := ⟨B.exec, B.bytes, hml, hown, hts, hK, hA, B.notSynchronized, hSF, hNS⟩
  exact body p e s m _ below meth c A _ F hin (fun hdg u hpo hw => r_R F B.returns (Or.inl ⟨_, rfl⟩) hdg u hpo hw) s.heap [] _ hP hD va_S.rf hl
section CALL0
variable {p : Program} {l : Launch} {e : Env} {R : Room} {s : State} {m : MethodId} {args : Array Value} {below : List Frame} {meth : Method} {c : Code} {cells slots : Nat} {Q : State → Prop} {D : va_G} {A : Nat → Prop} {nL : Nat} {cc : ByteArray} {Ts : List Cond} {own : String} {G : gT}
variable {pc pc' : Nat} {lv : List (Nat × Value)} {st rest As : List Value} {ws : va_W} {σ : Type} {b n index maxL : Nat} {C : String} {y : MethodName} {bytes : ByteArray} {ret : Option FieldType} {wy : List Cond} {rm : Room}
theorem cVI0 (F : Fx p s m args meth c cc nL Ts own D A G) {post : Int32 → σ → Prop} {wf : σ → va_W} (ct : CtI l y wy rm D G (Value.ref b :: As) [] post wf) (cw : CallW R s args own C index y bytes maxL ret wy rm 0 0 n) (hr : ∀ (H : Heap) (locs : List Loc), va_P D vwCl ws H → va_S A s.heap H locs → rcv s H C b) (hn : As.length = n) (hst : st = As.reverse ++ .ref b :: rest) (hW : (rest.map fun v => v.category).sum ≤ 8) (hdg : decode cc pc = .ok (.invokevirtual index, 3)) (hf : cells + 0 ≤ R.cells ∧ slots + 0 ≤ R.slots) (hp : pc + 3 = pc')
    (kk : ∀ (r : Int32) (u : σ), post r u → V p l e R s m args below meth c cells slots Q D A nL pc' lv (.int r :: rest) ws) : V p l e R s m args below meth c cells slots Q D A nL pc lv st ws := by
  intro H locs ls hP hD hS hl
  subst hst
  subst hp
  have hFc := va_free (wc := []) hD hS F.2.2.2.2.2.2.1 [] rfl
  refine va_calli (va_runV (As := As) (rest := rest) ⟨F.1, F.2.1, F.2.2.1, F.2.2.2.1, F.2.2.2.2.1⟩ (ct H.size) cw ⟨cB_blind, hr H locs hP hS, v_pre F hP hD hS [] rfl rfl⟩ rfl hn hl.1 rfl (lv_room hW) hdg hf) hS (fun q _ h => hFc q h) hFc (fun r u t H1 locs1 ht hvm hw hB hz1 hk1 hS1 => ?_)
  refine kk r u hw H1 locs1 ls (hP.kept (fun k q hk => ?_)) hD hS1 hl
  have hlt := (hP k q hk).lt
  refine hk1 q.1 hlt (fun z => ?_)
  rcases z with ⟨j, e9, z⟩ | z
  · simp at z
  · omega
theorem cVL0 (F : Fx p s m args meth c cc nL Ts own D A G) {post : Int64 → σ → Prop} {wf : σ → va_W} (ct : CtL l y wy rm D G (Value.ref b :: As) [] post wf) (cw : CallW R s args own C index y bytes maxL ret wy rm 0 0 n) (hr : ∀ (H : Heap) (locs : List Loc), va_P D vwCl ws H → va_S A s.heap H locs → rcv s H C b) (hn : As.length = n) (hst : st = As.reverse ++ .ref b :: rest) (hW : (rest.map fun v => v.category).sum ≤ 8) (hdg : decode cc pc = .ok (.invokevirtual index, 3)) (hf : cells + 0 ≤ R.cells ∧ slots + 0 ≤ R.slots) (hp : pc + 3 = pc')
    (kk : ∀ (r : Int64) (u : σ), post r u → V p l e R s m args below meth c cells slots Q D A nL pc' lv (.long r :: rest) ws) : V p l e R s m args below meth c cells slots Q D A nL pc lv st ws := by
  intro H locs ls hP hD hS hl
  subst hst
  subst hp
  have hFc := va_free (wc := []) hD hS F.2.2.2.2.2.2.1 [] rfl
  refine va_calll (va_runV (As := As) (rest := rest) ⟨F.1, F.2.1, F.2.2.1, F.2.2.2.1, F.2.2.2.2.1⟩ (ct H.size) cw ⟨cB_blind, hr H locs hP hS, v_pre F hP hD hS [] rfl rfl⟩ rfl hn hl.1 rfl (lv_room hW) hdg hf) hS (fun q _ h => hFc q h) hFc (fun r u t H1 locs1 ht hvm hw hB hz1 hk1 hS1 => ?_)
  refine kk r u hw H1 locs1 ls (hP.kept (fun k q hk => ?_)) hD hS1 hl
  have hlt := (hP k q hk).lt
  refine hk1 q.1 hlt (fun z => ?_)
  rcases z with ⟨j, e9, z⟩ | z
  · simp at z
  · omega
theorem cSI0 (F : Fx p s m args meth c cc nL Ts own D A G) {post : Int32 → σ → Prop} {wf : σ → va_W} (ct : CtI l y wy rm D G As [] post wf) (cw : CallB R s args own index y bytes maxL ret wy rm 0 0 n ∧ (Cond.static y).before args s = true) (hn : As.length = n) (hst : st = As.reverse ++ rest) (hW : (rest.map fun v => v.category).sum ≤ 8) (hdg : decode cc pc = .ok (.invokestatic index, 3)) (hf : cells + 0 ≤ R.cells ∧ slots + 0 ≤ R.slots) (hp : pc + 3 = pc')
    (kk : ∀ (r : Int32) (u : σ), post r u → V p l e R s m args below meth c cells slots Q D A nL pc' lv (.int r :: rest) ws) : V p l e R s m args below meth c cells slots Q D A nL pc lv st ws := by
  intro H locs ls hP hD hS hl
  subst hst
  subst hp
  have hFc := va_free (wc := []) hD hS F.2.2.2.2.2.2.1 [] rfl
  refine va_calli (va_runS (As := As) (rest := rest) ⟨F.1, F.2.1, F.2.2.1, F.2.2.2.1, F.2.2.2.2.1⟩ (ct H.size) cw ⟨cB_blind, v_pre F hP hD hS [] rfl rfl⟩ rfl hn hl.1 rfl (lv_room hW) hdg hf) hS (fun q _ h => hFc q h) hFc (fun r u t H1 locs1 ht hvm hw hB hz1 hk1 hS1 => ?_)
  refine kk r u hw H1 locs1 ls (hP.kept (fun k q hk => ?_)) hD hS1 hl
  have hlt := (hP k q hk).lt
  refine hk1 q.1 hlt (fun z => ?_)
  rcases z with ⟨j, e9, z⟩ | z
  · simp at z
  · omega
theorem cSL0 (F : Fx p s m args meth c cc nL Ts own D A G) {post : Int64 → σ → Prop} {wf : σ → va_W} (ct : CtL l y wy rm D G As [] post wf) (cw : CallB R s args own index y bytes maxL ret wy rm 0 0 n ∧ (Cond.static y).before args s = true) (hn : As.length = n) (hst : st = As.reverse ++ rest) (hW : (rest.map fun v => v.category).sum ≤ 8) (hdg : decode cc pc = .ok (.invokestatic index, 3)) (hf : cells + 0 ≤ R.cells ∧ slots + 0 ≤ R.slots) (hp : pc + 3 = pc')
    (kk : ∀ (r : Int64) (u : σ), post r u → V p l e R s m args below meth c cells slots Q D A nL pc' lv (.long r :: rest) ws) : V p l e R s m args below meth c cells slots Q D A nL pc lv st ws := by
  intro H locs ls hP hD hS hl
  subst hst
  subst hp
  have hFc := va_free (wc := []) hD hS F.2.2.2.2.2.2.1 [] rfl
  refine va_calll (va_runS (As := As) (rest := rest) ⟨F.1, F.2.1, F.2.2.1, F.2.2.2.1, F.2.2.2.2.1⟩ (ct H.size) cw ⟨cB_blind, v_pre F hP hD hS [] rfl rfl⟩ rfl hn hl.1 rfl (lv_room hW) hdg hf) hS (fun q _ h => hFc q h) hFc (fun r u t H1 locs1 ht hvm hw hB hz1 hk1 hS1 => ?_)
  refine kk r u hw H1 locs1 ls (hP.kept (fun k q hk => ?_)) hD hS1 hl
  have hlt := (hP k q hk).lt
  refine hk1 q.1 hlt (fun z => ?_)
  rcases z with ⟨j, e9, z⟩ | z
  · simp at z
  · omega
theorem cSNI0 (F : Fx p s m args meth c cc nL Ts own D A G) {host : String} {post : Int32 → σ → Prop} {wf : σ → va_W} (ct : CtI l y wy rm D G As [] post wf) (cw : va_CN R s args own index y host bytes maxL ret wy rm 0 0 n ∧ (Cond.static y).before args s = true ∧ True) (hn : As.length = n) (hst : st = As.reverse ++ rest) (hW : (rest.map fun v => v.category).sum ≤ 8) (hdg : decode cc pc = .ok (.invokestatic index, 3)) (hf : cells + 0 ≤ R.cells ∧ slots + 0 ≤ R.slots) (hp : pc + 3 = pc')
    (kk : ∀ (r : Int32) (u : σ), post r u → V p l e R s m args below meth c cells slots Q D A nL pc' lv (.int r :: rest) ws) : V p l e R s m args below meth c cells slots Q D A nL pc lv st ws := by
  intro H locs ls hP hD hS hl
  subst hst
  subst hp
  have hFc := va_free (wc := []) hD hS F.2.2.2.2.2.2.1 [] rfl
  refine va_calli (va_runSN (As := As) (rest := rest) ⟨F.1, F.2.1, F.2.2.1, F.2.2.2.1, F.2.2.2.2.1⟩ (ct H.size) cw ⟨cB_blind, v_pre F hP hD hS [] rfl rfl⟩ rfl hn hl.1 rfl (lv_room hW) hdg hf) hS (fun q _ h => hFc q h) hFc (fun r u t H1 locs1 ht hvm hw hB hz1 hk1 hS1 => ?_)
  refine kk r u hw H1 locs1 ls (hP.kept (fun k q hk => ?_)) hD hS1 hl
  have hlt := (hP k q hk).lt
  refine hk1 q.1 hlt (fun z => ?_)
  rcases z with ⟨j, e9, z⟩ | z
  · simp at z
  · omega
theorem cSNL0 (F : Fx p s m args meth c cc nL Ts own D A G) {host : String} {post : Int64 → σ → Prop} {wf : σ → va_W} (ct : CtL l y wy rm D G As [] post wf) (cw : va_CN R s args own index y host bytes maxL ret wy rm 0 0 n ∧ (Cond.static y).before args s = true ∧ True) (hn : As.length = n) (hst : st = As.reverse ++ rest) (hW : (rest.map fun v => v.category).sum ≤ 8) (hdg : decode cc pc = .ok (.invokestatic index, 3)) (hf : cells + 0 ≤ R.cells ∧ slots + 0 ≤ R.slots) (hp : pc + 3 = pc')
    (kk : ∀ (r : Int64) (u : σ), post r u → V p l e R s m args below meth c cells slots Q D A nL pc' lv (.long r :: rest) ws) : V p l e R s m args below meth c cells slots Q D A nL pc lv st ws := by
  intro H locs ls hP hD hS hl
  subst hst
  subst hp
  have hFc := va_free (wc := []) hD hS F.2.2.2.2.2.2.1 [] rfl
  refine va_calll (va_runSN (As := As) (rest := rest) ⟨F.1, F.2.1, F.2.2.1, F.2.2.2.1, F.2.2.2.2.1⟩ (ct H.size) cw ⟨cB_blind, v_pre F hP hD hS [] rfl rfl⟩ rfl hn hl.1 rfl (lv_room hW) hdg hf) hS (fun q _ h => hFc q h) hFc (fun r u t H1 locs1 ht hvm hw hB hz1 hk1 hS1 => ?_)
  refine kk r u hw H1 locs1 ls (hP.kept (fun k q hk => ?_)) hD hS1 hl
  have hlt := (hP k q hk).lt
  refine hk1 q.1 hlt (fun z => ?_)
  rcases z with ⟨j, e9, z⟩ | z
  · simp at z
  · omega
theorem v_max (F : Fx p s m args meth c cc nL Ts own D A G) {index : Nat} {x y z : Int32} (hdg : decode cc pc = .ok (.invokestatic index, 3)) (hlink : Cond.methodLink own index Lib.Math.max.name ∈ Ts) (hst : Cond.static Lib.Math.max.name ∈ Ts) (hini : Cond.initialized "java/lang/Math" ∈ Ts) (hco : Cond.code Lib.Math.max.name Lib.Math.max.code 2 (some .int) ∈ Ts) (h1 : 1 ≤ R.frames) (h2 : (rest.map fun v => v.category).sum + 13 ≤ R.locals) (h3 : cells ≤ R.cells) (h4 : slots ≤ R.slots) (hv : (if x < y then y else x) = z) (hp : pc + 3 = pc') (kk : V p l e R s m args below meth c cells slots Q D A nL pc' lv (.int z :: rest) ws) : V p l e R s m args below meth c cells slots Q D A nL pc lv (.int y :: .int x :: rest) ws := by
  obtain ⟨hx, hb, hml, hown, hts, hK, hA, hlk, hSF, hNS⟩ := F
  subst hp
  subst hv
  exact fun H locs ls hP hD hS hl => va_mmax hx hb (hml.trans hl.1.symm) hown (hts _ hlink) (hts _ hst) (hts _ hini) (hts _ hco) h1 h2 h3 h4 hdg (kk H locs ls hP hD hS hl)
end CALL0
/-! whole numbers as ints -/
theorem ni_and (a b : Nat) : nI a &&& nI b = nI (a &&& b) := by
  apply Int32.toBitVec_inj.mp
  simp [nI]
theorem ni_or (a b : Nat) : nI a ||| nI b = nI (a ||| b) := by
  apply Int32.toBitVec_inj.mp
  simp [nI]
theorem ni_xor (a b : Nat) : nI a ^^^ nI b = nI (a ^^^ b) := by
  apply Int32.toBitVec_inj.mp
  simp [nI]
theorem ni_sm : ∀ k, k < 32 → ((nI k &&& 31).toBitVec.smod 32).toNat = k := by decide +kernel
theorem ni_sm31 : ∀ k, k < 32 → (nI k &&& 31) = nI k := by decide +kernel
theorem ni_shl {a k : Nat} (hk : k < 32) (h : a * 2 ^ k < 2 ^ 32) : nI a <<< (nI k &&& 31) = nI (a * 2 ^ k) := pk_shlN (nI k &&& 31) k (ni_sm k hk) h
theorem ni_shr {a k : Nat} (hk : k < 32) (h : a < 2 ^ 31) : nI a >>> (nI k &&& 31) = nI (a / 2 ^ k) := pk_shrN h (nI k &&& 31) k (ni_sm k hk)
theorem nI_dec {a d : Nat} (h : d ≤ a) : nI a + Int32.ofInt (-(d : Int)) = nI (a - d) := by
  rw [← pk_sub h]
  rw [Int32.sub_eq_add_neg]
  congr 1
  simp [nI, Int32.ofInt_neg]
  rfl
theorem lN_ne0 {a : Nat} (h0 : 0 < a) (h : a < 2 ^ 63) : ¬ lN a = 0 := fun q => by
  have := (pk_lEQ (b := 0) h (by decide)).mp q
  omega
theorem nar8 {x : Nat} (h : x < 128) : vp_nar .byte (nI x) = nI x := by
  have : ∀ x, x < 128 → vp_nar .byte (nI x) = nI x := by decide +kernel
  exact this x h
theorem nar_bI (P : Prop) [Decidable P] : narrow .boolean (.int (bI P)) = .int (bI P) := by
  by_cases h : P
  · rw [bI_t h]; rfl
  · rw [bI_f h]; rfl
theorem nI1_b {P : Prop} [Decidable P] (h : P) : nI 1 = bI P := by rw [bI_t h]; rfl
theorem nI0_b {P : Prop} [Decidable P] (h : ¬ P) : nI 0 = bI P := by rw [bI_f h]; rfl
/-! the constants of Kind, by number: PERSON 0, BEGGAR 1, THIEF 2, MERCHANT 3, SMUGGLER 4 -/
def kN (k : Nat) : Nat := k
def kC (k : Nat) : Nat := if k = 1 then 1 else 0
def kM (k : Nat) : Nat := if k = 3 then 1 else if k = 4 then 2 else 0
def kA (k : Nat) : Nat := if k = 2 then 1 else if k = 4 then 1 else 0
theorem kN_of {k : Nat} (h : k < 5) : ([0, 1, 2, 3, 4] : List Int32).getD k 0 = nI (kN k) := by
  have : ∀ k, k < 5 → ([0, 1, 2, 3, 4] : List Int32).getD k 0 = nI (kN k) := by decide +kernel
  exact this k h
theorem kC_of {k : Nat} (h : k < 5) : ([0, 1, 0, 0, 0] : List Int32).getD k 0 = nI (kC k) := by
  have : ∀ k, k < 5 → ([0, 1, 0, 0, 0] : List Int32).getD k 0 = nI (kC k) := by decide +kernel
  exact this k h
theorem kM_of {k : Nat} (h : k < 5) : ([0, 0, 0, 1, 2] : List Int32).getD k 0 = nI (kM k) := by
  have : ∀ k, k < 5 → ([0, 0, 0, 1, 2] : List Int32).getD k 0 = nI (kM k) := by decide +kernel
  exact this k h
theorem kA_of {k : Nat} (h : k < 5) : ([0, 0, 1, 0, 1] : List Int32).getD k 0 = nI (kA k) := by
  have : ∀ k, k < 5 → ([0, 0, 1, 0, 1] : List Int32).getD k 0 = nI (kA k) := by decide +kernel
  exact this k h
/-! the five persons -/
def pB (G : gT) (pa ks ss : Nat → Nat) : va_W := [(pa 0, .inr (4, [.ref (gAd G (ks 0)), .int (nI (ss 0))])), (pa 1, .inr (4, [.ref (gAd G (ks 1)), .int (nI (ss 1))])), (pa 2, .inr (4, [.ref (gAd G (ks 2)), .int (nI (ss 2))])), (pa 3, .inr (4, [.ref (gAd G (ks 3)), .int (nI (ss 3))])), (pa 4, .inr (4, [.ref (gAd G (ks 4)), .int (nI (ss 4))]))]
theorem pB_at {G : gT} {pa ks ss : Nat → Nat} {i : Nat} (h : i < 5) : (pB G pa ks ss)[i]? = some (pa i, .inr (4, [.ref (gAd G (ks i)), .int (nI (ss i))])) := by
  match i, h with
  | 0, _ => rfl
  | 1, _ => rfl
  | 2, _ => rfl
  | 3, _ => rfl
  | 4, _ => rfl
theorem pB_set1 {G : gT} {pa ks ss : Nat → Nat} {i x : Nat} (h : i < 5) : (pB G pa ks ss).set i (pa i, .inr (4, [.ref (gAd G (ks i)), .int (nI x)])) = pB G pa ks (va_up ss i x) := by
  match i, h with
  | 0, _ => rfl
  | 1, _ => rfl
  | 2, _ => rfl
  | 3, _ => rfl
  | 4, _ => rfl
theorem pB_set0 {G : gT} {pa ks ss : Nat → Nat} {i x : Nat} (h : i < 5) : (pB G pa ks ss).set i (pa i, .inr (4, [.ref (gAd G x), .int (nI (ss i))])) = pB G pa (va_up ks i x) ss := by
  match i, h with
  | 0, _ => rfl
  | 1, _ => rfl
  | 2, _ => rfl
  | 3, _ => rfl
  | 4, _ => rfl
