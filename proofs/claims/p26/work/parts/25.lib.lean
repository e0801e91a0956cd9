/-! THE LAW'S OWN METHODS: contracts of methods with a table of their own, calls of them -/
theorem rn_le {x y : Int32} : x ≤ y ↔ x.toInt ≤ y.toInt := Int32.le_iff_toInt_le
theorem rn_lt {x y : Int32} : x < y ↔ x.toInt < y.toInt := Int32.lt_iff_toInt_lt
theorem rn_nlt {x y : Int32} : ¬ x < y ↔ y ≤ x := by rw [rn_le, rn_lt]; omega
theorem rn_nle2 {x y : Int32} : ¬ x ≤ y ↔ y < x := by rw [rn_le, rn_lt]; omega
theorem rn_nz {n : Nat} (h : n < 2 ^ 31) (h1 : 1 ≤ n) : ¬ nI n = 0 := fun e => by
  have := (nI_eq (b := 0) h (by decide)).mp e
  omega
def rn_LT (l : Launch) (y : MethodName) (ws : List Cond) (rm : Room) (D : va_G) (tys : List (ClassId × FieldType)) (B : Heap → Prop) (av : List Value) (v : Option Value) (P : Heap → Prop) (A : Nat → Prop) (mc ms sz : Nat) : Prop :=
  Met l y ws rm (va_Pc av (fun U => (U.heap.size = sz ∧ B U.heap) ∧ rn_G D tys U ∧ rn_E U)) (fun _ st o t => (o = .returned v ∧ P t.heap) ∧ va_F A st t) mc ms A
section RNL
variable {l : Launch}
theorem rn_LT.ofW {y : MethodName} {ws ws' : List Cond} {rm : Room} {D : va_G} {tys : List (ClassId × FieldType)} {B : Heap → Prop} {av : List Value} {v : Option Value} {P : Heap → Prop} {A : Nat → Prop} {mc ms sz : Nat} {cc : ByteArray} {maxL : Nat} {ret : Option FieldType} {hh : List (Nat × Nat × Nat × Nat)}
    (hy : plainName y.cls = true) (hw : ws = Cond.codeWith y cc maxL ret hh :: ws') (hn : (lg_sl av).length ≤ maxL)
    (body : ∀ (p : Program) (e : Env) (s : State) (m : MethodId) (below : List Frame) (meth : Method) (c : Code) (ls : Array Slot), p.tables.exec = Jvm.exec → c.code = cc → meth.sig.returnType = ret → c.maxLocals = maxL → (∀ w ∈ ws, w.before av.toArray s = true) → s.vm.findClass y.cls = some m.cls → meth.locks = false → s.heap.size = sz → B s.heap → rn_G D tys s → rn_E s → c.exceptionTable.toList = tableOf hh → va_S A s.heap s.heap [] → lv_has ls maxL (lv_args 0 av) →
      W p l e rm s m av.toArray below meth c s.heap [] 0 0 (MQ below (fun _ st o t => (o = .returned v ∧ P t.heap) ∧ va_F A st t) av.toArray s mc ms A) (F0 m 0 ls [])) : rn_LT l y ws rm D tys B av v P A mc ms sz := by
  unfold rn_LT Met
  refine MetFree.of_bodyS (code := cc) (maxLocals := maxL) (ret := ret) hy ?_ ?_
  · intro args s m h hn
    obtain ⟨m9, meth, c, hn9, h1, h2, h3, h4, -, h5, h6, -⟩ := Cond.codeWith_spec (atoms_spec (ws := ws) h _ (by rw [hw]; exact List.mem_cons_self))
    cases hn.symm.trans hn9
    exact ⟨meth, c, h1, h2, h3, h4, h5, h6⟩
  · intro p e s m args below meth c s₁ B0 hml hv _
    have hh0 : s₁.heap = s.heap := by rw [B0.state]; rfl
    have htab := vx_table (x := y) B0 (atoms_spec (ws := ws) B0.pre _ (by rw [hw]; exact List.mem_cons_self))
    obtain ⟨rfl, ⟨hsz, hB⟩, hG, hE⟩ := hv
    have hl := lv_entry av (n := maxL) hn
    have K := body p e s m below meth c _ B0.exec B0.bytes B0.returns hml (atoms_spec (ws := ws) B0.pre) (findClass_of_methodNamed B0.named) B0.notSynchronized hsz hB hG hE htab va_S.rf hl
    rw [← lg_entry_eq] at K
    obtain ⟨t, a1, o, b1, b2, b3⟩ := K s₁ hh0 (Stand.of_body B0)
    exact ⟨t, o, a1, b1, b2, b3⟩
theorem rn_LT.ofC {y : MethodName} {ws ws' : List Cond} {rm : Room} {D : va_G} {tys : List (ClassId × FieldType)} {B : Heap → Prop} {av : List Value} {v : Option Value} {P : Heap → Prop} {A : Nat → Prop} {mc ms sz : Nat} {cc : ByteArray} {maxL : Nat} {ret : Option FieldType}
    (hy : plainName y.cls = true) (hw : ws = Cond.code y cc maxL ret :: ws') (hn : (lg_sl av).length ≤ maxL)
    (body : ∀ (p : Program) (e : Env) (s : State) (m : MethodId) (below : List Frame) (meth : Method) (c : Code) (ls : Array Slot), p.tables.exec = Jvm.exec → c.code = cc → meth.sig.returnType = ret → c.maxLocals = maxL → (∀ w ∈ ws, w.before av.toArray s = true) → s.vm.findClass y.cls = some m.cls → meth.locks = false → s.heap.size = sz → B s.heap → rn_G D tys s → rn_E s → va_S A s.heap s.heap [] → lv_has ls maxL (lv_args 0 av) →
      W p l e rm s m av.toArray below meth c s.heap [] 0 0 (MQ below (fun _ st o t => (o = .returned v ∧ P t.heap) ∧ va_F A st t) av.toArray s mc ms A) (F0 m 0 ls [])) : rn_LT l y ws rm D tys B av v P A mc ms sz := by
  refine Met.ofW (cc := cc) (maxL := maxL) (ret := ret) hy hw ?_
  intro p e s m args below meth c s₁ B0 hml hv
  obtain ⟨rfl, ⟨hsz, hB⟩, hG, hE⟩ := hv
  have hl := lv_entry av (n := maxL) hn
  rw [lg_entry_eq]
  exact body p e s m below meth c _ B0.exec B0.bytes B0.returns hml (atoms_spec (ws := ws) B0.pre) (findClass_of_methodNamed B0.named) B0.notSynchronized hsz hB hG hE va_S.rf hl
theorem rn_R.ofH {y : MethodName} {ws ws' : List Cond} {rm : Room} {D : va_G} {tys : List (ClassId × FieldType)} {B : Heap → Prop} {av : List Value} {v : Option Value} {cc : ByteArray} {maxL : Nat} {ret : Option FieldType} {hh : List (Nat × Nat × Nat × Nat)}
    (hy : plainName y.cls = true) (hw : ws = Cond.codeWith y cc maxL ret hh :: ws') (hn : (lg_sl av).length ≤ maxL)
    (body : ∀ (p : Program) (e : Env) (s : State) (m : MethodId) (below : List Frame) (meth : Method) (c : Code) (ls : Array Slot), p.tables.exec = Jvm.exec → c.code = cc → meth.sig.returnType = ret → c.maxLocals = maxL → (∀ w ∈ ws, w.before av.toArray s = true) → s.vm.findClass y.cls = some m.cls → meth.locks = false → B s.heap → rn_G D tys s → lv_has ls maxL (lv_args 0 av) →
      W p l e rm s m av.toArray below meth c s.heap [] 0 0 (MQ below (fun _ st o t => o = .returned v ∧ t.heap = st.heap) av.toArray s 0 0 (fun _ => False)) (F0 m 0 ls [])) : rn_R l y ws rm D tys B av v := by
  unfold rn_R Met
  refine MetFree.of_bodyS (code := cc) (maxLocals := maxL) (ret := ret) hy ?_ ?_
  · intro args s m h hn
    obtain ⟨m9, meth, c, hn9, h1, h2, h3, h4, -, h5, h6, -⟩ := Cond.codeWith_spec (atoms_spec (ws := ws) h _ (by rw [hw]; exact List.mem_cons_self))
    cases hn.symm.trans hn9
    exact ⟨meth, c, h1, h2, h3, h4, h5, h6⟩
  · intro p e s m args below meth c s₁ B0 hml hv _
    have hh0 : s₁.heap = s.heap := by rw [B0.state]; rfl
    obtain ⟨rfl, hB, hG⟩ := hv
    have hl := lv_entry av (n := maxL) hn
    have K := body p e s m below meth c _ B0.exec B0.bytes B0.returns hml (atoms_spec (ws := ws) B0.pre) (findClass_of_methodNamed B0.named) B0.notSynchronized hB hG hl
    rw [← lg_entry_eq] at K
    obtain ⟨t, a1, o, b1, b2, b3⟩ := K s₁ hh0 (Stand.of_body B0)
    exact ⟨t, o, a1, b1, b2, b3⟩
theorem rn_W.ofH {y : MethodName} {ws ws' : List Cond} {rm : Room} {D : va_G} {tys : List (ClassId × FieldType)} {B : Heap → Prop} {av : List Value} {v : Option Value} {P : Heap → Prop} {A : Nat → Prop} {mc ms sz : Nat} {cc : ByteArray} {maxL : Nat} {ret : Option FieldType} {hh : List (Nat × Nat × Nat × Nat)}
    (hy : plainName y.cls = true) (hw : ws = Cond.codeWith y cc maxL ret hh :: ws') (hn : (lg_sl av).length ≤ maxL)
    (body : ∀ (p : Program) (e : Env) (s : State) (m : MethodId) (below : List Frame) (meth : Method) (c : Code) (ls : Array Slot), p.tables.exec = Jvm.exec → c.code = cc → meth.sig.returnType = ret → c.maxLocals = maxL → (∀ w ∈ ws, w.before av.toArray s = true) → s.vm.findClass y.cls = some m.cls → meth.locks = false → s.heap.size = sz → B s.heap → rn_G D tys s → va_S A s.heap s.heap [] → lv_has ls maxL (lv_args 0 av) →
      W p l e rm s m av.toArray below meth c s.heap [] 0 0 (MQ below (fun _ st o t => (o = .returned v ∧ P t.heap) ∧ va_F A st t) av.toArray s mc ms A) (F0 m 0 ls [])) : rn_W l y ws rm D tys B av v P A mc ms sz := by
  unfold rn_W Met
  refine MetFree.of_bodyS (code := cc) (maxLocals := maxL) (ret := ret) hy ?_ ?_
  · intro args s m h hn
    obtain ⟨m9, meth, c, hn9, h1, h2, h3, h4, -, h5, h6, -⟩ := Cond.codeWith_spec (atoms_spec (ws := ws) h _ (by rw [hw]; exact List.mem_cons_self))
    cases hn.symm.trans hn9
    exact ⟨meth, c, h1, h2, h3, h4, h5, h6⟩
  · intro p e s m args below meth c s₁ B0 hml hv _
    have hh0 : s₁.heap = s.heap := by rw [B0.state]; rfl
    obtain ⟨rfl, ⟨hsz, hB⟩, hG⟩ := hv
    have hl := lv_entry av (n := maxL) hn
    have K := body p e s m below meth c _ B0.exec B0.bytes B0.returns hml (atoms_spec (ws := ws) B0.pre) (findClass_of_methodNamed B0.named) B0.notSynchronized hsz hB hG va_S.rf hl
    rw [← lg_entry_eq] at K
    obtain ⟨t, a1, o, b1, b2, b3⟩ := K s₁ hh0 (Stand.of_body B0)
    exact ⟨t, o, a1, b1, b2, b3⟩
theorem rn_LT.blind {As : List Value} {D : va_G} {tys : List (ClassId × FieldType)} {B : Heap → Prop} {sz : Nat} : FrameBlind (va_Pc As (fun U => (U.heap.size = sz ∧ B U.heap) ∧ rn_G D tys U ∧ rn_E U)) := fun a U g mk q => ⟨q.1, q.2.1, q.2.2.1.call g mk a, q.2.2.2.call g mk a⟩
theorem rn_LT.mono {y : MethodName} {ws : List Cond} {rm : Room} {D : va_G} {tys : List (ClassId × FieldType)} {B : Heap → Prop} {av : List Value} {v : Option Value} {P P' : Heap → Prop} {A A' : Nat → Prop} {mc ms sz : Nat} (h : rn_LT l y ws rm D tys B av v P A mc ms sz) (hP : ∀ H, P H → P' H) (hA : ∀ q, A q → A' q) : rn_LT l y ws rm D tys B av v P' A' mc ms sz := by
  intro p e ha hc hk s m args below hf happ hPre hK
  obtain ⟨n, o, h1, h2, h3, ⟨⟨h4, h5⟩, h6⟩, L, h7, h8⟩ := h p e ha hc hk s m args below hf happ hPre hK
  exact ⟨n, o, h1, h2, h3, ⟨⟨h4, hP _ h5⟩, h6.1, fun q a b => h6.2 q a (fun z => b (hA q z))⟩, L, h7, fun q hq => hA _ (h8 q hq)⟩
theorem rn_W.toLT {y : MethodName} {ws : List Cond} {rm : Room} {D : va_G} {tys : List (ClassId × FieldType)} {B : Heap → Prop} {av : List Value} {v : Option Value} {P : Heap → Prop} {A : Nat → Prop} {mc ms sz : Nat} (h : rn_W l y ws rm D tys B av v P A mc ms sz) : rn_LT l y ws rm D tys B av v P A mc ms sz := by
  intro p e ha hc hk s m args below hf happ hPre hK
  exact h p e ha hc hk s m args below hf happ ⟨hPre.1, hPre.2.1, hPre.2.2.1⟩ hK
end RNL
section RNO
variable {p : Program} {l : Launch} {e : Env} {R : Room} {s : State} {m : MethodId} {args : Array Value} {below : List Frame} {meth : Method} {c : Code} {H : Heap} {locs : List Loc} {cells slots : Nat} {Q : State → Prop}
variable {cc bytes : ByteArray} {pc nL maxL index n mc ms sz : Nat} {ls : Array Slot} {st0 rest As : List Value} {D : va_G} {A0 A1 A : Nat → Prop} {a b ci N : Nat} {tys : List (ClassId × FieldType)} {H0 : Heap} {fs : List Value} {own C E : String} {T : u_T} {y : MethodName} {ret : Option FieldType} {ws ws' Ts : List Cond} {rm : Room} {B : Heap → Prop} {P : Heap → Prop} {v : Option Value} {hh : List (Nat × Nat × Nat × Nat)}
/-- a call that throws, caught here -/
theorem rn_xVc (n : Nat) (hexec : p.tables.exec = Jvm.exec) (hb : c.code = cc) (hml : c.maxLocals = nL) (hown : s.vm.findClass own = some m.cls) (hts : ∀ w ∈ Ts, w.before args s = true) (hG : rn_G D tys s) (hE : rn_E s) (hS : va_S A0 H0 s.heap locs)
    (hM : rn_X l y ws rm D tys B (.ref b :: As) E s.heap.size) (hgi : GoodIn Ts (wsV own index C y ws)) (hw : ws = .code y bytes maxL ret :: ws') (hrm : rm.cells = 1 ∧ rm.slots = 6)
    (hd : y.cls = C ∧ y.cls ≠ "java/lang/invoke/MethodHandle" ∧ y.cls ≠ "java/lang/invoke/VarHandle" ∧ (parseMethodDescriptor y.desc).map (fun d => d.parameters.length) = some n) (hR : rm.frames + 1 ≤ R.frames ∧ 8 + (maxL + 11) + rm.locals ≤ R.locals)
    (hB : B s.heap) (hat : va_at D vwCl (b, .inr (ci, fs)) s.heap) (hc : vwCl[ci]? = some (C, T, N)) (hn : As.length = n) (hsz : ls.size = nL) (hst : st0 = As.reverse ++ .ref b :: rest) (hW : (rest.map fun v => v.category).sum ≤ 8) (hf : cells + 1 ≤ R.cells ∧ slots + 6 ≤ R.slots) (hdg : decode cc pc = .ok (.invokevirtual index, 3))
    (pre : List ExceptionTableEntry) (x : ExceptionTableEntry) (suf : List ExceptionTableEntry) (hsplit : c.exceptionTable.toList = pre ++ x :: suf) (hpass : ∀ z ∈ pre, covers z pc = false ∨ (z.catchType ≠ 0 ∧ ∃ nm : String, (Cond.classLink own z.catchType nm).before args s = true ∧ va_Nc E nm s)) (hx : covers x pc = true) (h0 : x.catchType ≠ 0) (hlink : (Cond.classLink own x.catchType E).before args s = true) (hxc : (E, E) ∈ rn_xc)
    (kk : ∀ (q9 : Addr) (H1 : Heap), s.heap.size ≤ H1.size → (∀ q : Nat, q < s.heap.size → H1[q]? = s.heap[q]?) → va_S A0 H0 H1 locs → W p l e R s m args below meth c H1 locs (cells + 1) (slots + 6) Q (F0 m x.handlerPc ls [.ref q9])) : W p l e R s m args below meth c s.heap locs cells slots Q (F0 m pc ls st0) := by
  refine rn_callX (mc := 1) (ms := 6) (E := E) (A0 := A0) (vx_runV (As := As) (rest := rest) ⟨hexec, hb, hml, hown, hts⟩ hM (cwV n hts hgi hw hrm.1 hrm.2 hd hR) ⟨rn_PcBlindX, rn_recv hG hat hc, fun U hU hW => ⟨rfl, ⟨by rw [hU], by rw [hU]; exact hB⟩, hG.warm hW, hE.warm hW hU⟩⟩ rfl hn hsz hst (lv_room hW) hdg hf) hS ?_
  intro ce q9 H1 h1 h2 h3 h4 h5 h6
  exact vx_catch hown pre x suf hsplit hpass hx h0 hlink (va_Nw.use rfl (hE.2.1.1 _ hxc)) h4 h5 h6 (kk q9 H1 h1 h2 h3)
/-- static calls: of a method with a table, that reads alone; .. that writes; .. that needs what throws need -/
theorem rn_cSH (n : Nat) (hexec : p.tables.exec = Jvm.exec) (hb : c.code = cc) (hml : c.maxLocals = nL) (hown : s.vm.findClass own = some m.cls) (hts : ∀ w ∈ Ts, w.before args s = true) (hG : rn_G D tys s)
    (hM : rn_R l y ws rm D tys B As v) (hgi : GoodIn Ts (va_wsS own index y ws)) (hw : ws = .codeWith y bytes maxL ret hh :: ws') (hrm : rm.cells = 0 ∧ rm.slots = 0)
    (hd : y.cls ≠ "java/lang/invoke/MethodHandle" ∧ y.cls ≠ "java/lang/invoke/VarHandle" ∧ (parseMethodDescriptor y.desc).map (fun d => d.parameters.length) = some n) (hR : rm.frames + 1 ≤ R.frames ∧ 8 + (maxL + 11) + rm.locals ≤ R.locals)
    (hB : B H) (hn : As.length = n) (hsz : ls.size = nL) (hst : st0 = As.reverse ++ rest) (hW : (rest.map fun v => v.category).sum ≤ 8) (hf : cells ≤ R.cells ∧ slots ≤ R.slots) (hdg : decode cc pc = .ok (.invokestatic index, 3))
    (kk : W p l e R s m args below meth c H locs cells slots Q (F0 m (pc + 3) ls (v.toList ++ rest))) : W p l e R s m args below meth c H locs cells slots Q (F0 m pc ls st0) :=
  rn_callRv (vx_runSW (As := As) (rest := rest) ⟨hexec, hb, hml, hown, hts⟩ hM (vx_cwSW n hts hgi hw hrm.1 hrm.2 hd hR) ⟨rn_PcBlind, fun U hU hW => ⟨rfl, by rw [hU]; exact hB, hG.warm hW⟩⟩ rfl hn hsz hst (lv_room hW) hdg hf) kk
theorem rn_wSH (n : Nat) (hexec : p.tables.exec = Jvm.exec) (hb : c.code = cc) (hml : c.maxLocals = nL) (hown : s.vm.findClass own = some m.cls) (hts : ∀ w ∈ Ts, w.before args s = true) (hG : rn_G D tys s) (hS : va_S A0 H0 H locs)
    (hM : rn_W l y ws rm D tys B As v P A1 mc ms H.size) (hA : ∀ q, A1 q → A0 q) (hgi : GoodIn Ts (va_wsS own index y ws)) (hw : ws = .codeWith y bytes maxL ret hh :: ws') (hrm : rm.cells = mc ∧ rm.slots = ms)
    (hd : y.cls ≠ "java/lang/invoke/MethodHandle" ∧ y.cls ≠ "java/lang/invoke/VarHandle" ∧ (parseMethodDescriptor y.desc).map (fun d => d.parameters.length) = some n) (hR : rm.frames + 1 ≤ R.frames ∧ 8 + (maxL + 11) + rm.locals ≤ R.locals)
    (hB : B H) (hn : As.length = n) (hsz : ls.size = nL) (hst : st0 = As.reverse ++ rest) (hW : (rest.map fun v => v.category).sum ≤ 8) (hf : cells + mc ≤ R.cells ∧ slots + ms ≤ R.slots) (hdg : decode cc pc = .ok (.invokestatic index, 3))
    (kk : ∀ (H1 : Heap) (locs1 : List Loc), P H1 → H.size ≤ H1.size → (∀ q : Nat, q < H.size → ¬ A1 q → H1[q]? = H[q]?) → va_S A0 H0 H1 locs1 → W p l e R s m args below meth c H1 locs1 (cells + mc) (slots + ms) Q (F0 m (pc + 3) ls (v.toList ++ rest))) : W p l e R s m args below meth c H locs cells slots Q (F0 m pc ls st0) :=
  rn_callW (vx_runSW (As := As) (rest := rest) ⟨hexec, hb, hml, hown, hts⟩ hM (vx_cwSW n hts hgi hw hrm.1 hrm.2 hd hR) ⟨rn_PcBlindW, fun U hU hW => ⟨rfl, ⟨by rw [hU], by rw [hU]; exact hB⟩, hG.warm hW⟩⟩ rfl hn hsz hst (lv_room hW) hdg hf) hS hA kk
theorem rn_wS (n : Nat) (hexec : p.tables.exec = Jvm.exec) (hb : c.code = cc) (hml : c.maxLocals = nL) (hown : s.vm.findClass own = some m.cls) (hts : ∀ w ∈ Ts, w.before args s = true) (hG : rn_G D tys s) (hS : va_S A0 H0 H locs)
    (hM : rn_W l y ws rm D tys B As v P A1 mc ms H.size) (hA : ∀ q, A1 q → A0 q) (hgi : GoodIn Ts (va_wsS own index y ws)) (hw : ws = .code y bytes maxL ret :: ws') (hrm : rm.cells = mc ∧ rm.slots = ms)
    (hd : y.cls ≠ "java/lang/invoke/MethodHandle" ∧ y.cls ≠ "java/lang/invoke/VarHandle" ∧ (parseMethodDescriptor y.desc).map (fun d => d.parameters.length) = some n) (hR : rm.frames + 1 ≤ R.frames ∧ 8 + (maxL + 11) + rm.locals ≤ R.locals)
    (hB : B H) (hn : As.length = n) (hsz : ls.size = nL) (hst : st0 = As.reverse ++ rest) (hW : (rest.map fun v => v.category).sum ≤ 8) (hf : cells + mc ≤ R.cells ∧ slots + ms ≤ R.slots) (hdg : decode cc pc = .ok (.invokestatic index, 3))
    (kk : ∀ (H1 : Heap) (locs1 : List Loc), P H1 → H.size ≤ H1.size → (∀ q : Nat, q < H.size → ¬ A1 q → H1[q]? = H[q]?) → va_S A0 H0 H1 locs1 → W p l e R s m args below meth c H1 locs1 (cells + mc) (slots + ms) Q (F0 m (pc + 3) ls (v.toList ++ rest))) : W p l e R s m args below meth c H locs cells slots Q (F0 m pc ls st0) :=
  rn_callW (va_runS (As := As) (rest := rest) ⟨hexec, hb, hml, hown, hts⟩ hM (va_cwS n hts hgi hw hrm.1 hrm.2 hd hR) ⟨rn_PcBlindW, fun U hU hW => ⟨rfl, ⟨by rw [hU], by rw [hU]; exact hB⟩, hG.warm hW⟩⟩ rfl hn hsz hst (lv_room hW) hdg hf) hS hA kk
theorem rn_wLH (n : Nat) (hexec : p.tables.exec = Jvm.exec) (hb : c.code = cc) (hml : c.maxLocals = nL) (hown : s.vm.findClass own = some m.cls) (hts : ∀ w ∈ Ts, w.before args s = true) (hG : rn_G D tys s) (hE : ∀ U : State, s.WarmedH U.vm → U.heap = H → rn_E U) (hS : va_S A0 H0 H locs)
    (hM : rn_LT l y ws rm D tys B As v P A1 mc ms H.size) (hA : ∀ q, A1 q → A0 q) (hgi : GoodIn Ts (va_wsS own index y ws)) (hw : ws = .codeWith y bytes maxL ret hh :: ws') (hrm : rm.cells = mc ∧ rm.slots = ms)
    (hd : y.cls ≠ "java/lang/invoke/MethodHandle" ∧ y.cls ≠ "java/lang/invoke/VarHandle" ∧ (parseMethodDescriptor y.desc).map (fun d => d.parameters.length) = some n) (hR : rm.frames + 1 ≤ R.frames ∧ 8 + (maxL + 11) + rm.locals ≤ R.locals)
    (hB : B H) (hn : As.length = n) (hsz : ls.size = nL) (hst : st0 = As.reverse ++ rest) (hW : (rest.map fun v => v.category).sum ≤ 8) (hf : cells + mc ≤ R.cells ∧ slots + ms ≤ R.slots) (hdg : decode cc pc = .ok (.invokestatic index, 3))
    (kk : ∀ (H1 : Heap) (locs1 : List Loc), P H1 → H.size ≤ H1.size → (∀ q : Nat, q < H.size → ¬ A1 q → H1[q]? = H[q]?) → va_S A0 H0 H1 locs1 → W p l e R s m args below meth c H1 locs1 (cells + mc) (slots + ms) Q (F0 m (pc + 3) ls (v.toList ++ rest))) : W p l e R s m args below meth c H locs cells slots Q (F0 m pc ls st0) :=
  rn_callW (vx_runSW (As := As) (rest := rest) ⟨hexec, hb, hml, hown, hts⟩ hM (vx_cwSW n hts hgi hw hrm.1 hrm.2 hd hR) ⟨rn_LT.blind, fun U hU hW => ⟨rfl, ⟨by rw [hU], by rw [hU]; exact hB⟩, hG.warm hW, hE U hW hU⟩⟩ rfl hn hsz hst (lv_room hW) hdg hf) hS hA kk
theorem rn_wLS (n : Nat) (hexec : p.tables.exec = Jvm.exec) (hb : c.code = cc) (hml : c.maxLocals = nL) (hown : s.vm.findClass own = some m.cls) (hts : ∀ w ∈ Ts, w.before args s = true) (hG : rn_G D tys s) (hE : ∀ U : State, s.WarmedH U.vm → U.heap = H → rn_E U) (hS : va_S A0 H0 H locs)
    (hM : rn_LT l y ws rm D tys B As v P A1 mc ms H.size) (hA : ∀ q, A1 q → A0 q) (hgi : GoodIn Ts (va_wsS own index y ws)) (hw : ws = .code y bytes maxL ret :: ws') (hrm : rm.cells = mc ∧ rm.slots = ms)
    (hd : y.cls ≠ "java/lang/invoke/MethodHandle" ∧ y.cls ≠ "java/lang/invoke/VarHandle" ∧ (parseMethodDescriptor y.desc).map (fun d => d.parameters.length) = some n) (hR : rm.frames + 1 ≤ R.frames ∧ 8 + (maxL + 11) + rm.locals ≤ R.locals)
    (hB : B H) (hn : As.length = n) (hsz : ls.size = nL) (hst : st0 = As.reverse ++ rest) (hW : (rest.map fun v => v.category).sum ≤ 8) (hf : cells + mc ≤ R.cells ∧ slots + ms ≤ R.slots) (hdg : decode cc pc = .ok (.invokestatic index, 3))
    (kk : ∀ (H1 : Heap) (locs1 : List Loc), P H1 → H.size ≤ H1.size → (∀ q : Nat, q < H.size → ¬ A1 q → H1[q]? = H[q]?) → va_S A0 H0 H1 locs1 → W p l e R s m args below meth c H1 locs1 (cells + mc) (slots + ms) Q (F0 m (pc + 3) ls (v.toList ++ rest))) : W p l e R s m args below meth c H locs cells slots Q (F0 m pc ls st0) :=
  rn_callW (va_runS (As := As) (rest := rest) ⟨hexec, hb, hml, hown, hts⟩ hM (va_cwS n hts hgi hw hrm.1 hrm.2 hd hR) ⟨rn_LT.blind, fun U hU hW => ⟨rfl, ⟨by rw [hU], by rw [hU]; exact hB⟩, hG.warm hW, hE U hW hU⟩⟩ rfl hn hsz hst (lv_room hW) hdg hf) hS hA kk
/-- what throws need still holds where only new cells were written -/
theorem rn_E.new (hE : rn_E s) (hS : va_S A0 s.heap H locs) (hA0 : ∀ q, A0 q → s.heap.size ≤ q) : ∀ U : State, s.WarmedH U.vm → U.heap = H → rn_E U := fun U hW hU =>
  hE.at hW (by rw [hU]; exact hS.1) (fun a ha => by rw [hU]; exact hS.2.1 a ha (fun h => absurd (hA0 a h) (Nat.not_le.mpr ha)))
theorem rn_E.old (hE : rn_E s) : ∀ U : State, s.WarmedH U.vm → U.heap = s.heap → rn_E U := fun _ hW hU => hE.warm hW hU
end RNO
