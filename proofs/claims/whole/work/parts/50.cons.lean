/-! constructors: what makes cells -/
/-- a row of references, some not yet laid -/
def aQ (G : gT) (n : Nat) (f : Nat → Option Nat) : va_E := .inl (gP G, n, .inr (.inr (.inr (.inr f))))
section NEWS
variable {p : Program} {l : Launch} {e : Env} {R : Room} {s : State} {m : MethodId} {args : Array Value} {below : List Frame} {meth : Method} {c : Code} {cells slots : Nat} {Q : State → Prop} {D : va_G} {A : Nat → Prop} {nL : Nat} {cc : ByteArray} {Ts : List Cond} {own : String} {G : gT}
variable {pc pc' : Nat} {lv lv' : List (Nat × Value)} {st rest As : List Value} {ws ws' wc wr : va_W}
theorem v_new (F : Fx p s m args meth c cc nL Ts own D A G) {C : String} {T : u_T} {N index : Nat} (ci : Nat) (ty : Nat → FieldType) (fs : List Value) (hdg : decode cc pc = .ok (.new index, 3)) (hin : ∀ w ∈ u_ws C T N, w ∈ Ts) (hty : ∀ k, k < N → parseFieldDescriptor (T k).2.2.1 = some (ty k)) (hcl : Cond.classLink own index C ∈ Ts) (hinst : Cond.instantiable C N ∈ Ts) (hini : Cond.initialized C ∈ Ts) (hc : vwCl[ci]? = some (C, T, N)) (hfs : ∀ j, j < N → defaultValue (ty j) = vp_V fs j) (h1 : cells + 1 ≤ R.cells) (h2 : slots + N ≤ R.slots) (hp : pc + 3 = pc')
    (kk : ∀ q : Nat, V p l e R s m args below meth c (cells + 1) (slots + N) Q D A nL pc' lv (.ref q :: st) (ws ++ [(q, .inr (ci, fs))])) : V p l e R s m args below meth c cells slots Q D A nL pc lv st ws := by
  obtain ⟨hx, hb, hml, hown, hts, hK, hA, hlk, hSF, hNS⟩ := F
  subst hp
  exact fun H locs ls hP hD hS hl => va_new hx hb hts hin ty hty hown (hts _ hcl) (hts _ hinst) (hts _ hini) hK hP hD hS hA hc hfs h1 h2 hdg (fun q H1 hP hD hS => kk q H1 locs ls hP hD hS hl)
theorem v_newI (F : Fx p s m args meth c cc nL Ts own D A G) {n : Nat} (hdg : decode cc pc = .ok (.newarray .int, 2)) (harr : Cond.arrayClass .int ∈ Ts) (hn : n ≤ 40000) (h1 : cells + 1 ≤ R.cells) (h2 : slots + n ≤ R.slots) (hp : pc + 2 = pc')
    (kk : ∀ q : Nat, V p l e R s m args below meth c (cells + 1) (slots + n) Q D A nL pc' lv (.ref q :: st) (ws ++ [(q, aI G n zN)])) : V p l e R s m args below meth c cells slots Q D A nL pc lv (.int (nI n) :: st) ws := by
  obtain ⟨hx, hb, hml, hown, hts, hK, hA, hlk, hSF, hNS⟩ := F
  subst hp
  intro H locs ls hP hD hS hl
  refine va_newa (atype := .int) (ty := .int) (N' := n) (a0 := (n, .inl (fun j => nI (zN j)))) hx hb (hts _ harr) rfl hK hP hD hS hA (fun cA => ?_) (nI_pos (by omega)) (nI_clamp (by omega)) (by show n * 4 ≤ 536870912; omega) h1 h2 hdg (fun q cA H1 hK1 hP1 hD1 hS1 => ?_)
  · rw [vp_cell_i]
    show arrV cA n (fun j => .int (nI 0)) = arrV cA n (fun _ => .int 0)
    rw [nI_0]
  · have e1 : s.vm.findClass ("[" ++ FieldType.int.toString) = some cA := (hK1.2 3 _ rfl).2
    have e2 : s.vm.findClass ("[" ++ FieldType.int.toString) = some (gI G) := (hK.2 0 _ rfl).2
    have e : cA = gI G := Option.some.inj (e1.symm.trans e2)
    subst e
    exact kk q H1 locs ls hP1 hD1 hS1 hl
theorem v_newB (F : Fx p s m args meth c cc nL Ts own D A G) {n : Nat} (hdg : decode cc pc = .ok (.newarray .byte, 2)) (harr : Cond.arrayClass .byte ∈ Ts) (hn : n ≤ 40000) (h1 : cells + 1 ≤ R.cells) (h2 : slots + n ≤ R.slots) (hp : pc + 2 = pc')
    (kk : ∀ q : Nat, V p l e R s m args below meth c (cells + 1) (slots + n) Q D A nL pc' lv (.ref q :: st) (ws ++ [(q, aB G n zN)])) : V p l e R s m args below meth c cells slots Q D A nL pc lv (.int (nI n) :: st) ws := by
  obtain ⟨hx, hb, hml, hown, hts, hK, hA, hlk, hSF, hNS⟩ := F
  subst hp
  intro H locs ls hP hD hS hl
  refine va_newa (atype := .byte) (ty := .byte) (N' := n) (a0 := (n, .inl (fun j => nI (zN j)))) hx hb (hts _ harr) rfl hK hP hD hS hA (fun cA => ?_) (nI_pos (by omega)) (nI_clamp (by omega)) (by show n * 1 ≤ 536870912; omega) h1 h2 hdg (fun q cA H1 hK1 hP1 hD1 hS1 => ?_)
  · rw [vp_cell_i]
    show arrV cA n (fun j => .int (nI 0)) = arrV cA n (fun _ => .int 0)
    rw [nI_0]
  · have e1 : s.vm.findClass ("[" ++ FieldType.byte.toString) = some cA := (hK1.2 3 _ rfl).2
    have e2 : s.vm.findClass ("[" ++ FieldType.byte.toString) = some (gB G) := (hK.2 1 _ rfl).2
    have e : cA = gB G := Option.some.inj (e1.symm.trans e2)
    subst e
    exact kk q H1 locs ls hP1 hD1 hS1 hl
theorem v_newP (F : Fx p s m args meth c cc nL Ts own D A G) {n index : Nat} (hAO : va_AO "OtherCoins$Person" s) (hdg : decode cc pc = .ok (.anewarray index, 3)) (hcl : Cond.classLink own index "OtherCoins$Person" ∈ Ts) (hn : n ≤ 40000) (h1 : cells + 1 ≤ R.cells) (h2 : slots + n ≤ R.slots) (hp : pc + 3 = pc')
    (kk : ∀ q : Nat, V p l e R s m args below meth c (cells + 1) (slots + n) Q D A nL pc' lv (.ref q :: st) (ws ++ [(q, aQ G n (fun _ => none))])) : V p l e R s m args below meth c cells slots Q D A nL pc lv (.int (nI n) :: st) ws := by
  obtain ⟨hx, hb, hml, hown, hts, hK, hA, hlk, hSF, hNS⟩ := F
  subst hp
  intro H locs ls hP hD hS hl
  refine va_newq (N' := n) hx hb hown (hts _ hcl) hAO hK hP hD hS hA (nI_pos (by omega)) (nI_clamp (by omega)) (by omega) h1 h2 hdg (fun q cA H1 hK1 hP1 hD1 hS1 => ?_)
  have e1 : s.vm.findClass ("[" ++ (FieldType.object "OtherCoins$Person").toString) = some cA := by
    obtain ⟨_, _, _, _, _, h⟩ := (hK1.2 3 _ rfl).2
    exact h
  have e2 : s.vm.findClass ("[" ++ (FieldType.object "OtherCoins$Person").toString) = some (gP G) := by
    obtain ⟨_, _, _, _, _, h⟩ := (hK.2 2 _ rfl).2
    exact h
  have e : cA = gP G := Option.some.inj (e1.symm.trans e2)
  subst e
  exact kk q H1 locs ls hP1 hD1 hS1 hl
theorem v_aast (F : Fx p s m args meth c cc nL Ts own D A G) (hdg : decode cc pc = .ok (.aastore, 1)) (q0 qk : Nat) {a n v i : Nat} {f : Nat → Option Nat} {vs : List Value} (ha : ws[q0]? = some (a, aQ G n f)) (hv : ws[qk]? = some (v, .inr (4, vs))) (hi : i < n) (hn : n ≤ 40000) (hw : ws.set q0 (a, aQ G n (va_up f i (some v))) = ws') (hp : pc + 1 = pc')
    (kk : V p l e R s m args below meth c cells slots Q D A nL pc' lv st ws') : V p l e R s m args below meth c cells slots Q D A nL pc lv (.ref v :: .int (nI i) :: .ref a :: st) ws := by
  obtain ⟨hx, hb, hml, hown, hts, hK, hA, hlk, hSF, hNS⟩ := F
  subst hp
  subst hw
  intro H locs ls hP hD hS hl
  have e := nI_clamp (n := i) (by omega)
  refine va_astq hx hb hK hP hD hS q0 2 qk 4 ha (r := (RX5, TX5, 2)) rfl hv rfl (i := nI i) (vp_in_nI hi (by omega)) hdg (fun H1 locs1 hP1 hD1 hS1 => ?_)
  rw [e] at hP1 hD1
  exact kk H1 locs1 ls hP1 hD1 hS1 hl
theorem v_objI (F : Fx p s m args meth c cc nL Ts own D A G) {index a : Nat} (hdg : decode cc pc = .ok (.invokespecial index, 3)) (hl : Cond.methodLink own index Lib.objectInit ∈ Ts) (hi : Cond.instanceMethod Lib.objectInit ∈ Ts) (hc : Cond.code Lib.objectInit ⟨#[0xb1]⟩ 1 none ∈ Ts) (hf : 1 ≤ R.frames) (hlo : (st.map fun v => v.category).sum + 12 ≤ R.locals) (hp : pc + 3 = pc')
    (kk : V p l e R s m args below meth c cells slots Q D A nL pc' lv st ws) : V p l e R s m args below meth c cells slots Q D A nL pc lv (.ref a :: st) ws := by
  obtain ⟨hx, hb, hml, hown, hts, hK, hA, hlk, hSF, hNS⟩ := F
  subst hp
  intro H locs ls hP hD hS hl2
  refine W.objInit hx hb hown (hts _ hl) (hts _ hi) (hts _ hc) rfl (hl2.1.trans hml.symm) rfl hdg hf ?_ (kk H locs ls hP hD hS hl2)
  show 2 * 0 + (st.map fun v => v.category).sum + 12 ≤ R.locals
  omega
theorem cell_set {H : Heap} (q0 : Nat) {a : Nat} {cA : ClassId} {x y : vp_A} (he : ws[q0]? = some (a, .inl (cA, x))) (hg : vp_cell cA x = vp_cell cA y) (hP : va_P D vwCl ws H) : va_P D vwCl (ws.set q0 (a, .inl (cA, y))) H := by
  intro k q hq
  rw [List.getElem?_set] at hq
  split at hq
  · split at hq
    · cases hq
      have h := hP q0 _ he
      show H[a]? = some (vp_cell cA y)
      rw [← hg]
      exact h
    · cases hq
  · exact hP k q hq
theorem cell_setD {q0 a : Nat} {x y : va_E} (he : ws[q0]? = some (a, x)) (hD : va_D A ws) : va_D A (ws.set q0 (a, y)) := by
  have key : ∀ (k : Nat) (q : Nat × va_E), (ws.set q0 (a, y))[k]? = some q → ∃ q', ws[k]? = some q' ∧ q'.1 = q.1 := by
    intro k q hq
    rw [List.getElem?_set] at hq
    split at hq
    · rename_i hk
      split at hq
      · cases hq; subst hk; exact ⟨_, he, rfl⟩
      · cases hq
    · exact ⟨q, hq, rfl⟩
  refine ⟨fun i j x y hx hy hxy => ?_, fun k q hq => ?_⟩
  · obtain ⟨x', hx', ex⟩ := key i x hx
    obtain ⟨y', hy', ey⟩ := key j y hy
    exact hD.1 i j x' y' hx' hy' (by rw [ex, ey, hxy])
  · obtain ⟨q', hq', eq⟩ := key k q hq
    rw [← eq]
    exact hD.2 k q' hq'
theorem aQ_cong {cA : ClassId} {n : Nat} {f g : Nat → Option Nat} (h : ∀ j, j < n → f j = g j) : vp_cell cA (n, .inr (.inr (.inr (.inr f)))) = vp_cell cA (n, .inr (.inr (.inr (.inr g)))) := by
  show arrV cA n (fun j => va_rf (f j)) = arrV cA n (fun j => va_rf (g j))
  unfold arrV
  have e : (Array.ofFn fun i : Fin n => va_rf (f i)) = Array.ofFn fun i : Fin n => va_rf (g i) := by
    congr 1
    funext i
    rw [h i i.isLt]
  first | rw [e] | (congr 1) | simp [e]
/-- a row of references that is laid whole -/
theorem v_aQP {n : Nat} {f : Nat → Option Nat} {g : Nat → Nat} (q0 : Nat) {a : Nat} (he : ws[q0]? = some (a, aQ G n f)) (hg : ∀ j, j < n → f j = some (g j)) (hw : ws.set q0 (a, aP G n g) = ws') (k : V p l e R s m args below meth c cells slots Q D A nL pc lv st ws') : V p l e R s m args below meth c cells slots Q D A nL pc lv st ws := by
  subst hw
  exact fun H locs ls hP hD hS hl => k H locs ls (cell_set q0 he (aQ_cong hg) hP) (cell_setD he hD) hS hl
end NEWS
/-! a constructor's contract: it makes at most mc cells, ms slots -/
def CtC (l : Launch) (y : MethodName) (wy : List Cond) (rm : Room) (D : va_G) (G : gT) (av : List Value) (wc : va_W) (mc ms : Nat) {σ : Type} (post : σ → Prop) (wf : σ → va_W) : Prop := ∀ sz : Nat, Met l y wy rm (va_Pc av (cB D G wc sz)) (va_Qv post (fun u t => cE D G (va_A wc sz) (wf u) t) (va_A wc sz)) mc ms (va_A wc sz)
def cBA (D : va_G) (G : gT) (wc : va_W) (sz : Nat) : State → Prop := fun U => cB D G wc sz U ∧ va_AO "OtherCoins$Person" U
theorem cBA_blind {D : va_G} {G : gT} {wc : va_W} {sz : Nat} {av : List Value} : FrameBlind (va_Pc av (cBA D G wc sz)) := fun a U g mk q => by
  obtain ⟨q0, q1, q2⟩ := q
  exact ⟨(cB_blind (av := av) a U g mk ⟨q0, q1⟩).1, (cB_blind (av := av) a U g mk ⟨q0, q1⟩).2, va_AO.moved (u := U) (U := U.calling g mk a) (Vm.Alike.refl U.vm) q2⟩
/-- the same, where rows of persons can be made -/
def CtA (l : Launch) (y : MethodName) (wy : List Cond) (rm : Room) (D : va_G) (G : gT) (av : List Value) (wc : va_W) (mc ms : Nat) {σ : Type} (post : σ → Prop) (wf : σ → va_W) : Prop := ∀ sz : Nat, Met l y wy rm (va_Pc av (cBA D G wc sz)) (va_Qv post (fun u t => cE D G (va_A wc sz) (wf u) t) (va_A wc sz)) mc ms (va_A wc sz)
theorem openC {l : Launch} {y : MethodName} {wy wy' : List Cond} {rm : Room} {D : va_G} {G : gT} {av : List Value} {wc : va_W} {mc ms : Nat} {σ : Type} {post : σ → Prop} {wf : σ → va_W} {cc : ByteArray} {maxL : Nat} (hy : plainName y.cls = true) (hw : wy = .code y cc maxL none :: wy') (hlen : (lg_sl av).length ≤ maxL)
    (body : ∀ (p : Program) (e : Env) (s : State) (m : MethodId) (args : Array Value) (below : List Frame) (meth : Method) (c : Code) (A : Nat → Prop) (Q : State → Prop), Fx p s m args meth c cc maxL wy y.cls D A G → meth.name = y.name → (∀ {cells slots : Nat} {pc : Nat} {lv : List (Nat × Value)} {ws : va_W} (_ : cells ≤ mc) (_ : slots ≤ ms) (_ : decode cc pc = .ok (.return_, 1)) (u : σ) (_ : post u) (_ : ws = wf u), V p l e rm s m args below meth c cells slots Q D A maxL pc lv [] ws) → V p l e rm s m args below meth c 0 0 Q D A maxL 0 (lv_args 0 av) [] wc) : CtC l y wy rm D G av wc mc ms post wf := by
  intro sz
  refine Met.ofW (cc := cc) (maxL := maxL) (ret := none) hy hw ?_
  intro p e s m args below meth c s₁ B hml hv
  obtain ⟨rfl, hsz, hP, hK, hD0, hSF, hNS⟩ := hv
  subst hsz
  have hts := atoms_spec (ws := wy) B.pre
  have hown : s.vm.findClass y.cls = some m.cls := findClass_of_methodNamed B.named
  have hin : meth.name = y.name := (name_of_methodNamed B.named B.method).1
  have hD := hD0.self (sz := s.heap.size)
  have hl := lv_entry av (n := maxL) hlen
  have hA : ∀ q : Nat, s.heap.size ≤ q → va_A wc s.heap.size q := fun q h => Or.inr h
  rw [lg_entry_eq]
  generalize va_A wc s.heap.size = A at hD hSF hA ⊢
  have F : Fx p s m av.toArray meth c cc maxL wy y.cls D A G := ⟨B.exec, B.bytes, hml, hown, hts, hK, hA, B.notSynchronized, hSF, hNS⟩
  exact body p e s m _ below meth c A _ F hin (fun h1 h2 hdg u hpo hw H locs ls hP hD hS hl => W.widen h1 h2 (r_V F B.returns hdg u hpo hw H locs ls hP hD hS hl)) s.heap [] _ hP hD va_S.rf hl
theorem openA {l : Launch} {y : MethodName} {wy wy' : List Cond} {rm : Room} {D : va_G} {G : gT} {av : List Value} {wc : va_W} {mc ms : Nat} {σ : Type} {post : σ → Prop} {wf : σ → va_W} {cc : ByteArray} {maxL : Nat} (hy : plainName y.cls = true) (hw : wy = .code y cc maxL none :: wy') (hlen : (lg_sl av).length ≤ maxL)
    (body : ∀ (p : Program) (e : Env) (s : State) (m : MethodId) (args : Array Value) (below : List Frame) (meth : Method) (c : Code) (A : Nat → Prop) (Q : State → Prop), Fx p s m args meth c cc maxL wy y.cls D A G → meth.name = y.name → va_AO "OtherCoins$Person" s → (∀ {cells slots : Nat} {pc : Nat} {lv : List (Nat × Value)} {ws : va_W} (_ : cells ≤ mc) (_ : slots ≤ ms) (_ : decode cc pc = .ok (.return_, 1)) (u : σ) (_ : post u) (_ : ws = wf u), V p l e rm s m args below meth c cells slots Q D A maxL pc lv [] ws) → V p l e rm s m args below meth c 0 0 Q D A maxL 0 (lv_args 0 av) [] wc) : CtA l y wy rm D G av wc mc ms post wf := by
  intro sz
  refine Met.ofW (cc := cc) (maxL := maxL) (ret := none) hy hw ?_
  intro p e s m args below meth c s₁ B hml hv
  obtain ⟨rfl, ⟨hsz, hP, hK, hD0, hSF, hNS⟩, hAO⟩ := hv
  subst hsz
  have hts := atoms_spec (ws := wy) B.pre
  have hown : s.vm.findClass y.cls = some m.cls := findClass_of_methodNamed B.named
  have hin : meth.name = y.name := (name_of_methodNamed B.named B.method).1
  have hD := hD0.self (sz := s.heap.size)
  have hl := lv_entry av (n := maxL) hlen
  have hA : ∀ q : Nat, s.heap.size ≤ q → va_A wc s.heap.size q := fun q h => Or.inr h
  rw [lg_entry_eq]
  generalize va_A wc s.heap.size = A at hD hSF hA ⊢
  have F : Fx p s m av.toArray meth c cc maxL wy y.cls D A G := ⟨B.exec, B.bytes, hml, hown, hts, hK, hA, B.notSynchronized, hSF, hNS⟩
  exact body p e s m _ below meth c A _ F hin hAO (fun h1 h2 hdg u hpo hw H locs ls hP hD hS hl => W.widen h1 h2 (r_V F B.returns hdg u hpo hw H locs ls hP hD hS hl)) s.heap [] _ hP hD va_S.rf hl
section CALLC
variable {p : Program} {l : Launch} {e : Env} {R : Room} {s : State} {m : MethodId} {args : Array Value} {below : List Frame} {meth : Method} {c : Code} {cells slots : Nat} {Q : State → Prop} {D : va_G} {A : Nat → Prop} {nL : Nat} {cc : ByteArray} {Ts : List Cond} {own : String} {G : gT}
variable {pc pc' : Nat} {lv : List (Nat × Value)} {st rest As : List Value} {ws wc wr : va_W} {σ : Type} {wf : σ → va_W} {b n index maxL mc ms : Nat} {C : String} {y : MethodName} {bytes : ByteArray} {wy : List Cond} {rm : Room}
theorem cIN (F : Fx p s m args meth c cc nL Ts own D A G) {host : String} {post : σ → Prop} (ct : CtC l y wy rm D G (Value.ref b :: As) wc mc ms post wf) (cw : va_CN R s args own index y host bytes maxL none wy rm mc ms n ∧ y.name = "<init>" ∧ (Cond.instanceMethod y).before args s = true) (hn : As.length = n) (hst : st = As.reverse ++ .ref b :: rest) (hW : (rest.map fun v => v.category).sum ≤ 8) (hdg : decode cc pc = .ok (.invokespecial index, 3)) (isC isR : List Nat) (hnC : va_nd isC = true) (hC : isC.map (fun i => ws[i]?) = wc.map some) (hR : isR.map (fun i => ws[i]?) = wr.map some) (hnR : va_nd isR = true) (hdis : ∀ i ∈ isR, i ∉ isC) (hf : cells + mc ≤ R.cells ∧ slots + ms ≤ R.slots) (hp : pc + 3 = pc')
    (kk : ∀ (u : σ), post u → V p l e R s m args below meth c (cells + mc) (slots + ms) Q D A nL pc' lv rest (wr ++ wf u)) : V p l e R s m args below meth c cells slots Q D A nL pc lv st ws := by
  intro H locs ls hP hD hS hl
  subst hst
  subst hp
  have hFc := va_free (wc := wc) hD hS F.2.2.2.2.2.2.1 isC hC
  refine va_callv (va_runIN (As := As) (rest := rest) ⟨F.1, F.2.1, F.2.2.1, F.2.2.2.1, F.2.2.2.2.1⟩ (ct H.size) cw ⟨cB_blind, v_pre F hP hD hS isC hnC hC⟩ rfl hn hl.1 rfl (lv_room hW) hdg hf) hS (fun q _ h => hFc q h) hFc (fun u t H1 locs1 ht hvm hw hB hz1 hk1 hS1 => ?_)
  obtain ⟨hP1, hK1, hD1⟩ := hB
  rw [ht] at hP1
  obtain ⟨hP2, hD2⟩ := va_join (wr := wr) (w1 := wf u) hP hD isC isR hC hR hnR hdis hk1 hFc hP1 hD1
  exact kk u hw H1 locs1 ls hP2 hD2 hS1 hl
theorem cIA (F : Fx p s m args meth c cc nL Ts own D A G) {post : σ → Prop} (hAO : va_AO "OtherCoins$Person" s) (ct : CtA l y wy rm D G (Value.ref b :: As) wc mc ms post wf) (cw : CallB R s args own index y bytes maxL none wy rm mc ms n ∧ y.name = "<init>" ∧ (Cond.instanceMethod y).before args s = true) (hn : As.length = n) (hst : st = As.reverse ++ .ref b :: rest) (hW : (rest.map fun v => v.category).sum ≤ 8) (hdg : decode cc pc = .ok (.invokespecial index, 3)) (isC isR : List Nat) (hnC : va_nd isC = true) (hC : isC.map (fun i => ws[i]?) = wc.map some) (hR : isR.map (fun i => ws[i]?) = wr.map some) (hnR : va_nd isR = true) (hdis : ∀ i ∈ isR, i ∉ isC) (hf : cells + mc ≤ R.cells ∧ slots + ms ≤ R.slots) (hp : pc + 3 = pc')
    (kk : ∀ (u : σ), post u → V p l e R s m args below meth c (cells + mc) (slots + ms) Q D A nL pc' lv rest (wr ++ wf u)) : V p l e R s m args below meth c cells slots Q D A nL pc lv st ws := by
  intro H locs ls hP hD hS hl
  subst hst
  subst hp
  have hFc := va_free (wc := wc) hD hS F.2.2.2.2.2.2.1 isC hC
  refine va_callv (va_runI (As := As) (rest := rest) ⟨F.1, F.2.1, F.2.2.1, F.2.2.2.1, F.2.2.2.2.1⟩ (ct H.size) cw ⟨cBA_blind, fun U hU hW => ⟨(v_pre F hP hD hS isC hnC hC U hU hW).1, (v_pre F hP hD hS isC hnC hC (av := Value.ref b :: As) U hU hW).2, va_AO.moved hW.alike hAO⟩⟩ rfl hn hl.1 rfl (lv_room hW) hdg hf) hS (fun q _ h => hFc q h) hFc (fun u t H1 locs1 ht hvm hw hB hz1 hk1 hS1 => ?_)
  obtain ⟨hP1, hK1, hD1⟩ := hB
  rw [ht] at hP1
  obtain ⟨hP2, hD2⟩ := va_join (wr := wr) (w1 := wf u) hP hD isC isR hC hR hnR hdis hk1 hFc hP1 hD1
  exact kk u hw H1 locs1 ls hP2 hD2 hS1 hl
theorem cIC (F : Fx p s m args meth c cc nL Ts own D A G) {post : σ → Prop} (ct : CtC l y wy rm D G (Value.ref b :: As) wc mc ms post wf) (cw : CallB R s args own index y bytes maxL none wy rm mc ms n ∧ y.name = "<init>" ∧ (Cond.instanceMethod y).before args s = true) (hn : As.length = n) (hst : st = As.reverse ++ .ref b :: rest) (hW : (rest.map fun v => v.category).sum ≤ 8) (hdg : decode cc pc = .ok (.invokespecial index, 3)) (isC isR : List Nat) (hnC : va_nd isC = true) (hC : isC.map (fun i => ws[i]?) = wc.map some) (hR : isR.map (fun i => ws[i]?) = wr.map some) (hnR : va_nd isR = true) (hdis : ∀ i ∈ isR, i ∉ isC) (hf : cells + mc ≤ R.cells ∧ slots + ms ≤ R.slots) (hp : pc + 3 = pc')
    (kk : ∀ (u : σ), post u → V p l e R s m args below meth c (cells + mc) (slots + ms) Q D A nL pc' lv rest (wr ++ wf u)) : V p l e R s m args below meth c cells slots Q D A nL pc lv st ws := by
  intro H locs ls hP hD hS hl
  subst hst
  subst hp
  have hFc := va_free (wc := wc) hD hS F.2.2.2.2.2.2.1 isC hC
  refine va_callv (va_runI (As := As) (rest := rest) ⟨F.1, F.2.1, F.2.2.1, F.2.2.2.1, F.2.2.2.2.1⟩ (ct H.size) cw ⟨cB_blind, v_pre F hP hD hS isC hnC hC⟩ rfl hn hl.1 rfl (lv_room hW) hdg hf) hS (fun q _ h => hFc q h) hFc (fun u t H1 locs1 ht hvm hw hB hz1 hk1 hS1 => ?_)
  obtain ⟨hP1, hK1, hD1⟩ := hB
  rw [ht] at hP1
  obtain ⟨hP2, hD2⟩ := va_join (wr := wr) (w1 := wf u) hP hD isC isR hC hR hnR hdis hk1 hFc hP1 hD1
  exact kk u hw H1 locs1 ls hP2 hD2 hS1 hl
end CALLC
