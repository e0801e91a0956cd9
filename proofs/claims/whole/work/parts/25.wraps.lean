/-! THE LAW'S OWN METHODS: a call whose throws are caught and told by a number, its answer in the array of one long -/
abbrev rn_tyl (cR cP cF cL : ClassId) : List (ClassId × FieldType) := [(cR, .object RX3), (cP, .object RX1), (cF, .object RX0), (cL, .long)]
def rn_LB (D : va_G) (f : rn_T) (o : Nat) (cL : ClassId) (g : Nat → Int64) (H : Heap) : Prop := rn_S D f H ∧ va_at D vwCl (o, .inl (cL, 1, .inr (.inl g))) H
def rn_LP (D : va_G) (cR cP cF : ClassId) (h0 : Nat) (f : rn_T) (sz : Nat) (σ : rn_St) (o : Nat) (cL : ClassId) (k v : Int32) (H : Heap) : Prop := rn_P D cR cP cF h0 f sz σ H ∧ ∃ g : Nat → Int64, (k = 0 → g 0 = v.toInt64) ∧ va_at D vwCl (o, .inl (cL, 1, .inr (.inl g))) H
def rn_LA (f : rn_T) (sz o : Nat) : Nat → Prop := fun q => q = o ∨ rn_A f sz q
def rn_LT (l : Launch) (y : MethodName) (ws : List Cond) (rm : Room) (D : va_G) (tys : List (ClassId × FieldType)) (B : Heap → Prop) (av : List Value) (v : Option Value) (P : Heap → Prop) (A : Nat → Prop) (mc ms sz : Nat) : Prop :=
  Met l y ws rm (va_Pc av (fun U => (U.heap.size = sz ∧ B U.heap) ∧ rn_G D tys U ∧ rn_E U)) (fun _ st o t => (o = .returned v ∧ P t.heap) ∧ va_F A st t) mc ms A
theorem rn_P.out {D : va_G} {cR cP cF : ClassId} {h0 : Nat} {f : rn_T} {sz : Nat} {σ : rn_St} {H H1 : Heap} {o : Nat} (h : rn_P D cR cP cF h0 f sz σ H) (ho : ∀ q : Nat, q ≠ o → H1[q]? = H[q]?) (hfo : f o = none) (hlt : o < sz) : rn_P D cR cP cF h0 f sz σ H1 := by
  obtain ⟨f', hC', hF', hd⟩ := h
  refine ⟨f', hC', hF'.kept (fun q hq => ho q (fun e => ?_)), hd⟩
  rcases hd q hq with h9 | h9
  · exact h9 (by rw [e]; exact hfo)
  · omega
section RNL
variable {l : Launch}
theorem rn_LT.ofW {y : MethodName} {ws ws' : List Cond} {rm : Room} {D : va_G} {tys : List (ClassId × FieldType)} {B : Heap → Prop} {av : List Value} {v : Option Value} {P : Heap → Prop} {A : Nat → Prop} {mc ms sz : Nat} {cc : ByteArray} {maxL : Nat} {ret : Option FieldType} {hh : List (Nat × Nat × Nat × Nat)}
    (hy : plainName y.cls = true) (hw : ws = Cond.codeWith y cc maxL ret hh :: ws') (hn : (lg_sl av).length ≤ maxL)
    (body : ∀ (p : Program) (e : Env) (s : State) (m : MethodId) (below : List Frame) (meth : Method) (c : Code) (ls : Array Slot), p.tables.exec = Jvm.exec → c.code = cc → meth.sig.returnType = ret → c.maxLocals = maxL → (∀ w ∈ ws, w.before av.toArray s = true) → s.vm.findClass y.cls = some m.cls → meth.locks = false → s.heap.size = sz → B s.heap → rn_G D tys s → rn_E s → c.exceptionTable.toList = tableOf hh → va_S A s.heap s.heap [] → lv_has ls maxL (lv_args 0 av) →
      W p l e rm s m av.toArray below meth c s.heap [] 0 0 (MQ below (fun _ st o t => (o = .returned v ∧ P t.heap) ∧ va_F A st t) av.toArray s mc ms A) (F0 m 0 ls [])) : rn_LT l y ws rm D tys B av v P A mc ms sz := by
  unfold rn_LT Met
  refine MetFree.of_bodyS (code := cc) (maxLocals := maxL) (ret := ret) hy ?_ ?_
  · intro args s m h hn
    obtain ⟨m9, meth, c, hn9, h1, h2, h3, h4, -, h5, h6, -⟩ := Cond.codeWith_spec (atoms_spec (ws := ws) h _ (by rw [hw]; exact List.mem_cons_self))
    cases hn.symm.trans hn9
    exact ⟨meth, c, h1, h2, h3, h4, h5, h6⟩
  · intro p e s m args below meth c s₁ B0 hml hv _
    have hh0 : s₁.heap = s.heap := by rw [B0.state]; rfl
    have htab := vx_table (x := y) B0 (atoms_spec (ws := ws) B0.pre _ (by rw [hw]; exact List.mem_cons_self))
    obtain ⟨rfl, ⟨hsz, hB⟩, hG, hE⟩ := hv
    have hl := lv_entry av (n := maxL) hn
    have K := body p e s m below meth c _ B0.exec B0.bytes B0.returns hml (atoms_spec (ws := ws) B0.pre) (findClass_of_methodNamed B0.named) B0.notSynchronized hsz hB hG hE htab va_S.rf hl
    rw [← lg_entry_eq] at K
    obtain ⟨t, a1, o, b1, b2, b3⟩ := K s₁ hh0 (Stand.of_body B0)
    exact ⟨t, o, a1, b1, b2, b3⟩
theorem rn_LT.blind {As : List Value} {D : va_G} {tys : List (ClassId × FieldType)} {B : Heap → Prop} {sz : Nat} : FrameBlind (va_Pc As (fun U => (U.heap.size = sz ∧ B U.heap) ∧ rn_G D tys U ∧ rn_E U)) := fun a U g mk q => ⟨q.1, q.2.1, q.2.2.1.call g mk a, q.2.2.2.call g mk a⟩
end RNL
section RNO
variable {p : Program} {l : Launch} {e : Env} {R : Room} {s : State} {m : MethodId} {args : Array Value} {below : List Frame} {meth : Method} {c : Code} {H : Heap} {locs : List Loc} {cells slots : Nat} {Q : State → Prop}
variable {cc bytes : ByteArray} {pc nL maxL index n mc ms sz : Nat} {ls : Array Slot} {st0 rest As : List Value} {D : va_G} {A0 A1 A : Nat → Prop} {a b ci N : Nat} {tys : List (ClassId × FieldType)} {H0 : Heap} {fs : List Value} {own C E : String} {T : u_T} {y : MethodName} {ret : Option FieldType} {ws ws' Ts : List Cond} {rm : Room} {B : Heap → Prop} {P : Heap → Prop} {v : Option Value}
theorem rn_last (hexec : p.tables.exec = Jvm.exec) (hb : c.code = cc) (hG : rn_G D tys s) (hS : va_S A H0 H locs) (hA : A a) {cA : ClassId} {g : Nat → Int64} {x : Int64} (hat : va_at D vwCl (a, .inl (cA, 1, .inr (.inl g))) H) (t0 : Nat) (ht : tys[t0]? = some (cA, .long)) (hdg : decode cc pc = .ok (.lastore, 1))
    (kk : ∀ (H1 : Heap) (locs1 : List Loc), va_at D vwCl (a, .inl (cA, 1, .inr (.inl (vp_updL g 0 x)))) H1 → H1.size = H.size → (∀ q : Nat, q ≠ a → H1[q]? = H[q]?) → va_S A H0 H1 locs1 → W p l e R s m args below meth c H1 locs1 cells slots Q (F0 m (pc + 1) ls rest)) : W p l e R s m args below meth c H locs cells slots Q (F0 m pc ls (.long x :: .int 0 :: .ref a :: rest)) := by
  have hin : vp_in (0 : Int32) 1 := by unfold vp_in; decide
  refine W.last hexec hb hat ((hG.1.2 t0 _ ht).1 1 (fun j => .long (g j))) (fun q => by cases q) (by show ¬ ((0 : Int32) < 0 ∨ (arrV _ _ _).slots.size ≤ _); rw [arrV_size]; exact hin) rfl rfl hdg fun H1 e z oq => ?_
  refine kk H1 _ ?_ z oq (hS.put z oq hA)
  show H1[a]? = some (vp_cell _ _)
  rw [e, show (0 : Int32).toNatClampNeg = 0 from rfl]
  rw [vp_cell_l, vp_cell_l, arrV_store]
  congr 2
  funext q
  by_cases hq : q = 0
  · subst hq; simp [updV, vp_updL]
  · simp [updV, vp_updL, hq]
theorem rn_lald (hexec : p.tables.exec = Jvm.exec) (hb : c.code = cc) (hG : rn_G D tys s) {cA : ClassId} {g : Nat → Int64} (hat : va_at D vwCl (a, .inl (cA, 1, .inr (.inl g))) H) (t0 : Nat) (ht : tys[t0]? = some (cA, .long)) (hdg : decode cc pc = .ok (.laload, 1))
    (kk : W p l e R s m args below meth c H locs cells slots Q (F0 m (pc + 1) ls (.long (g 0) :: rest))) : W p l e R s m args below meth c H locs cells slots Q (F0 m pc ls (.int 0 :: .ref a :: rest)) := by
  have hin : vp_in (0 : Int32) 1 := by unfold vp_in; decide
  exact va_lald hexec hb hG.1 (rn_one hat) 0 t0 rfl ht (i := 0) hin hdg kk
/-- a call that throws, caught here -/
theorem rn_xVc (n : Nat) (hexec : p.tables.exec = Jvm.exec) (hb : c.code = cc) (hml : c.maxLocals = nL) (hown : s.vm.findClass own = some m.cls) (hts : ∀ w ∈ Ts, w.before args s = true) (hG : rn_G D tys s) (hE : rn_E s) (hS : va_S A0 H0 s.heap locs)
    (hM : rn_X l y ws rm D tys B (.ref b :: As) E s.heap.size) (hgi : GoodIn Ts (wsV own index C y ws)) (hw : ws = .code y bytes maxL ret :: ws') (hrm : rm.cells = 1 ∧ rm.slots = 6)
    (hd : y.cls = C ∧ y.cls ≠ "java/lang/invoke/MethodHandle" ∧ y.cls ≠ "java/lang/invoke/VarHandle" ∧ (parseMethodDescriptor y.desc).map (fun d => d.parameters.length) = some n) (hR : rm.frames + 1 ≤ R.frames ∧ 8 + (maxL + 11) + rm.locals ≤ R.locals)
    (hB : B s.heap) (hat : va_at D vwCl (b, .inr (ci, fs)) s.heap) (hc : vwCl[ci]? = some (C, T, N)) (hn : As.length = n) (hsz : ls.size = nL) (hst : st0 = As.reverse ++ .ref b :: rest) (hW : (rest.map fun v => v.category).sum ≤ 8) (hf : cells + 1 ≤ R.cells ∧ slots + 6 ≤ R.slots) (hdg : decode cc pc = .ok (.invokevirtual index, 3))
    (pre : List ExceptionTableEntry) (x : ExceptionTableEntry) (suf : List ExceptionTableEntry) (hsplit : c.exceptionTable.toList = pre ++ x :: suf) (hpass : ∀ z ∈ pre, covers z pc = false ∨ (z.catchType ≠ 0 ∧ ∃ nm : String, (Cond.classLink own z.catchType nm).before args s = true ∧ va_Nc E nm s)) (hx : covers x pc = true) (h0 : x.catchType ≠ 0) (hlink : (Cond.classLink own x.catchType E).before args s = true) (hxc : (E, E) ∈ rn_xc)
    (kk : ∀ (q9 : Addr) (H1 : Heap), s.heap.size ≤ H1.size → (∀ q : Nat, q < s.heap.size → H1[q]? = s.heap[q]?) → va_S A0 H0 H1 locs → W p l e R s m args below meth c H1 locs (cells + 1) (slots + 6) Q (F0 m x.handlerPc ls [.ref q9])) : W p l e R s m args below meth c s.heap locs cells slots Q (F0 m pc ls st0) := by
  refine rn_callX (mc := 1) (ms := 6) (E := E) (A0 := A0) (vx_runV (As := As) (rest := rest) ⟨hexec, hb, hml, hown, hts⟩ hM (cwV n hts hgi hw hrm.1 hrm.2 hd hR) ⟨rn_PcBlindX, rn_recv hG hat hc, fun U hU hW => ⟨rfl, ⟨by rw [hU], by rw [hU]; exact hB⟩, hG.warm hW, hE.warm hW hU⟩⟩ rfl hn hsz hst (lv_room hW) hdg hf) hS ?_
  intro ce q9 H1 h1 h2 h3 h4 h5 h6
  exact vx_catch hown pre x suf hsplit hpass hx h0 hlink (va_Nw.use rfl (hE.2.1.1 _ hxc)) h4 h5 h6 (kk q9 H1 h1 h2 h3)
end RNO

set_option maxHeartbeats 4000000 in
set_option maxRecDepth 100000 in
theorem l_makeRoom_p (l : Launch) (hfl : l.stackTraces = false) {D : va_G} {cR cP cF cL : ClassId} {h0 aR aP aF : Nat} {ra pa fa : Nat → Nat} {hd : Nat → Option Nat} {dh : Option Nat} {f : rn_T} {σ : rn_St} (hV : rn_V σ) (hC : rn_CI cR cP cF h0 aR aP aF ra pa fa hd dh f σ) {o : Nat} {g : Nat → Int64} (hfo : f o = none) {x  : Int32} (hno : ¬ ∃ i, i < σ.pn ∧ x = nI i) (sz : Nat) : rn_LT l yL_makeRoom wsL_makeRoom ({ frames := 8, cells := 1, slots := 6, locals := 140 } : Room) D (rn_tyl cR cP cF cL) ((rn_LB D f o cL g)) [.ref h0, .int x, .ref o] (some (.int 1)) (rn_LP D cR cP cF h0 f sz σ o cL 1 0) (rn_LA f sz o) 1 6 sz := by
  refine rn_LT.ofW (hh := [(0, 9, 12, 13), (0, 9, 15, 15)]) (cc := cL_makeRoom) (maxL := 4) (ret := (some .int)) (by decide) rfl (Nat.le_of_ble_eq_true rfl) (fun p e s m below meth c ls hx hb hr hml hts hown hlocks hsz hF9 hG hE htab hS hl => ?_)
  have hl : lv_has ls 4 [(0, .ref h0), (1, .int x), (2, .ref o)] := hl
  subst hsz
  obtain ⟨hF, hat9⟩ := hF9
  have hG3 : rn_G D (rn_tys cR cP cF) s := ⟨hG.1.sub [0, 1, 2] rfl, hG.2⟩
  refine lv_aload_n hx hb dL_makeRoom_0 rfl (lv_at hl 2 rfl) ?_
  refine lv_iconst (v := 0) hx hb dL_makeRoom_1 (by decide) ?_
  refine lv_aload_n hx hb dL_makeRoom_2 rfl (lv_at hl 0 rfl) ?_
  refine lv_iload_n hx hb dL_makeRoom_3 rfl (lv_at hl 1 rfl) ?_
  refine rn_xVc (As := [.int x]) (rest := [.int 0, .ref o]) (E := rn_IO) 1 hx hb hml hown hts hG3 hE hS (x_makeRoom_p l hfl hV hC hno _) gL_makeRoom_X4_makeRoom rfl ⟨rfl, rfl⟩ (by decide +kernel) ⟨Nat.le_of_ble_eq_true rfl, Nat.le_of_ble_eq_true rfl⟩ hF (hF _ _ hC.1.1) rfl rfl hl.1 rfl (Nat.le_of_ble_eq_true rfl) ⟨Nat.le_of_ble_eq_true rfl, Nat.le_of_ble_eq_true rfl⟩ dL_makeRoom_4 [] ⟨0, 9, 12, 13⟩ [⟨0, 9, 15, 15⟩] htab (fun z hz => nomatch hz) (by decide) (by decide) (hts _ (by decide +kernel)) (by decide) (fun q9 H h1 h2 hS => ?_)
  refine lv_astore_n (lv' := [(3, .ref q9), (0, .ref h0), (1, .int x), (2, .ref o)]) hx hb dL_makeRoom_12 rfl hl (by decide) rfl (fun ls hl => ?_)
  refine lv_iconst (v := 1) hx hb dL_makeRoom_13 (by decide) ?_
  have hat8 := hat9.kept (h2 _ hat9.lt)
  have hF8 := hF.kept (fun q hq => h2 q (hF.lt hq))
  exact rn_Wiret hx hb hr rfl hlocks hS (by decide) (by decide) rfl ⟨rn_P_mk hV hC hF8 (fun x hx => Or.inl hx), g, fun h => absurd h (by decide), hat8⟩ dL_makeRoom_14

set_option maxHeartbeats 4000000 in
set_option maxRecDepth 100000 in
theorem l_makeRoom_s (l : Launch) (hfl : l.stackTraces = false) {D : va_G} {cR cP cF cL : ClassId} {h0 aR aP aF : Nat} {ra pa fa : Nat → Nat} {hd : Nat → Option Nat} {dh : Option Nat} {f : rn_T} {σ : rn_St} (hV : rn_V σ) (hC : rn_CI cR cP cF h0 aR aP aF ra pa fa hd dh f σ) {o : Nat} {g : Nat → Int64} (hfo : f o = none) {j : Nat} (hj0 : j < σ.pn) (hfull : σ.sn = 10) (sz : Nat) : rn_LT l yL_makeRoom wsL_makeRoom ({ frames := 8, cells := 1, slots := 6, locals := 140 } : Room) D (rn_tyl cR cP cF cL) ((rn_LB D f o cL g)) [.ref h0, .int (nI j), .ref o] (some (.int 2)) (rn_LP D cR cP cF h0 f sz σ o cL 2 0) (rn_LA f sz o) 1 6 sz := by
  refine rn_LT.ofW (hh := [(0, 9, 12, 13), (0, 9, 15, 15)]) (cc := cL_makeRoom) (maxL := 4) (ret := (some .int)) (by decide) rfl (Nat.le_of_ble_eq_true rfl) (fun p e s m below meth c ls hx hb hr hml hts hown hlocks hsz hF9 hG hE htab hS hl => ?_)
  have hl : lv_has ls 4 [(0, .ref h0), (1, .int (nI j)), (2, .ref o)] := hl
  subst hsz
  obtain ⟨hF, hat9⟩ := hF9
  have hG3 : rn_G D (rn_tys cR cP cF) s := ⟨hG.1.sub [0, 1, 2] rfl, hG.2⟩
  refine lv_aload_n hx hb dL_makeRoom_0 rfl (lv_at hl 2 rfl) ?_
  refine lv_iconst (v := 0) hx hb dL_makeRoom_1 (by decide) ?_
  refine lv_aload_n hx hb dL_makeRoom_2 rfl (lv_at hl 0 rfl) ?_
  refine lv_iload_n hx hb dL_makeRoom_3 rfl (lv_at hl 1 rfl) ?_
  refine rn_xVc (As := [.int (nI j)]) (rest := [.int 0, .ref o]) (E := rn_IS) 1 hx hb hml hown hts hG3 hE hS (x_makeRoom_s l hfl hV hC hj0 hfull _) gL_makeRoom_X4_makeRoom rfl ⟨rfl, rfl⟩ (by decide +kernel) ⟨Nat.le_of_ble_eq_true rfl, Nat.le_of_ble_eq_true rfl⟩ hF (hF _ _ hC.1.1) rfl rfl hl.1 rfl (Nat.le_of_ble_eq_true rfl) ⟨Nat.le_of_ble_eq_true rfl, Nat.le_of_ble_eq_true rfl⟩ dL_makeRoom_4 [⟨0, 9, 12, 13⟩] ⟨0, 9, 15, 15⟩ [] htab (fun z hz => by rw [List.mem_singleton.mp hz]; exact Or.inr ⟨(by decide : 13 ≠ 0), rn_IO, hts _ (by decide +kernel), hE.2.2.1 (rn_IS, rn_IO) (by decide)⟩) (by decide) (by decide) (hts _ (by decide +kernel)) (by decide) (fun q9 H h1 h2 hS => ?_)
  refine lv_astore_n (lv' := [(3, .ref q9), (0, .ref h0), (1, .int (nI j)), (2, .ref o)]) hx hb dL_makeRoom_15 rfl hl (by decide) rfl (fun ls hl => ?_)
  refine lv_iconst (v := 2) hx hb dL_makeRoom_16 (by decide) ?_
  have hat8 := hat9.kept (h2 _ hat9.lt)
  have hF8 := hF.kept (fun q hq => h2 q (hF.lt hq))
  exact rn_Wiret hx hb hr rfl hlocks hS (by decide) (by decide) rfl ⟨rn_P_mk hV hC hF8 (fun x hx => Or.inl hx), g, fun h => absurd h (by decide), hat8⟩ dL_makeRoom_17

set_option maxHeartbeats 4000000 in
set_option maxRecDepth 100000 in
theorem l_makeRoom_o (l : Launch) {D : va_G} {cR cP cF cL : ClassId} {h0 aR aP aF : Nat} {ra pa fa : Nat → Nat} {hd : Nat → Option Nat} {dh : Option Nat} {f : rn_T} {σ : rn_St} (hV : rn_V σ) (hC : rn_CI cR cP cF h0 aR aP aF ra pa fa hd dh f σ) {o : Nat} {g : Nat → Int64} (hfo : f o = none) {j : Nat} (hj0 : j < σ.pn) (hn0 : σ.sn < 10) (sz : Nat) : rn_LT l yL_makeRoom wsL_makeRoom ({ frames := 8, cells := 1, slots := 6, locals := 140 } : Room) D (rn_tyl cR cP cF cL) ((rn_LB D f o cL g)) [.ref h0, .int (nI j), .ref o] (some (.int 0)) (rn_LP D cR cP cF h0 f sz (rn_addRoom σ j) o cL 0 (nI σ.sn)) (rn_LA f sz o) 1 6 sz := by
  refine rn_LT.ofW (hh := [(0, 9, 12, 13), (0, 9, 15, 15)]) (cc := cL_makeRoom) (maxL := 4) (ret := (some .int)) (by decide) rfl (Nat.le_of_ble_eq_true rfl) (fun p e s m below meth c ls hx hb hr hml hts hown hlocks hsz hF9 hG hE htab hS hl => ?_)
  have hl : lv_has ls 4 [(0, .ref h0), (1, .int (nI j)), (2, .ref o)] := hl
  subst hsz
  obtain ⟨hF, hat9⟩ := hF9
  have hG3 : rn_G D (rn_tys cR cP cF) s := ⟨hG.1.sub [0, 1, 2] rfl, hG.2⟩
  refine lv_aload_n hx hb dL_makeRoom_0 rfl (lv_at hl 2 rfl) ?_
  refine lv_iconst (v := 0) hx hb dL_makeRoom_1 (by decide) ?_
  refine lv_aload_n hx hb dL_makeRoom_2 rfl (lv_at hl 0 rfl) ?_
  refine lv_iload_n hx hb dL_makeRoom_3 rfl (lv_at hl 1 rfl) ?_
  refine rn_wV (As := [.int (nI j)]) (rest := [.int 0, .ref o]) 1 hx hb hml hown hts hG3 hS (w_makeRoom l hV hC hj0 hn0 _) (fun q h => Or.inr h) gL_makeRoom_X4_makeRoom rfl ⟨rfl, rfl⟩ (by decide +kernel) ⟨Nat.le_of_ble_eq_true rfl, Nat.le_of_ble_eq_true rfl⟩ hF (hF _ _ hC.1.1) rfl rfl hl.1 rfl (Nat.le_of_ble_eq_true rfl) ⟨Nat.le_of_ble_eq_true rfl, Nat.le_of_ble_eq_true rfl⟩ dL_makeRoom_4 (fun H locs hP1 hz hk hS => ?_)
  have hat8 := hat9.kept (hk _ hat9.lt (fun h => h.elim (fun h => h hfo) (fun h => absurd h (Nat.not_le.mpr hat9.lt))))
  refine W.eq (g2 := F0 m 7 ls [.int (nI σ.sn), .int 0, .ref o]) rfl ?_
  refine lv_i2l hx hb dL_makeRoom_7 rfl ?_
  refine rn_last (A := (rn_LA f s.heap.size o)) hx hb hG hS (Or.inl rfl) hat8 3 rfl dL_makeRoom_8 (fun H locs hat hz ho hS => ?_)
  refine lv_goto (tgt := 18) hx hb dL_makeRoom_9 (by decide) ?_
  refine lv_iconst (v := 0) hx hb dL_makeRoom_18 (by decide) ?_
  exact rn_Wiret hx hb hr rfl hlocks hS (by decide) (by decide) rfl ⟨hP1.out ho hfo hat9.lt, _, fun _ => pk_uLs, hat⟩ dL_makeRoom_19

set_option maxHeartbeats 4000000 in
set_option maxRecDepth 100000 in
theorem l_line_1 (l : Launch) (hfl : l.stackTraces = false) {D : va_G} {cR cP cF cL : ClassId} {h0 aR aP aF : Nat} {ra pa fa : Nat → Nat} {hd : Nat → Option Nat} {dh : Option Nat} {f : rn_T} {σ : rn_St} (hV : rn_V σ) (hC : rn_CI cR cP cF h0 aR aP aF ra pa fa hd dh f σ) {o : Nat} {g : Nat → Int64} (hfo : f o = none) {x e1 e2 : Int32} (hbad : x < 0 ∨ nI 998 < x) (sz : Nat) : rn_LT l yL_line wsL_line ({ frames := 8, cells := 1, slots := 6, locals := 140 } : Room) D (rn_tyl cR cP cF cL) ((rn_LB D f o cL g)) [.ref h0, .int x, .int e1, .int e2, .ref o] (some (.int 1)) (rn_LP D cR cP cF h0 f sz σ o cL 1 0) (rn_LA f sz o) 1 6 sz := by
  refine rn_LT.ofW (hh := [(0, 12, 15, 21), (0, 12, 19, 15)]) (cc := cL_line) (maxL := 6) (ret := (some .int)) (by decide) rfl (Nat.le_of_ble_eq_true rfl) (fun p e s m below meth c ls hx hb hr hml hts hown hlocks hsz hF9 hG hE htab hS hl => ?_)
  have hl : lv_has ls 6 [(0, .ref h0), (1, .int x), (2, .int e1), (3, .int e2), (4, .ref o)] := hl
  subst hsz
  obtain ⟨hF, hat9⟩ := hF9
  have hG3 : rn_G D (rn_tys cR cP cF) s := ⟨hG.1.sub [0, 1, 2] rfl, hG.2⟩
  refine lv_aload hx hb dL_line_0 (lv_at hl 4 rfl) ?_
  refine lv_iconst (v := 0) hx hb dL_line_2 (by decide) ?_
  refine lv_aload_n hx hb dL_line_3 rfl (lv_at hl 0 rfl) ?_
  refine lv_iload_n hx hb dL_line_4 rfl (lv_at hl 1 rfl) ?_
  refine lv_iload_n hx hb dL_line_5 rfl (lv_at hl 2 rfl) ?_
  refine lv_iload_n hx hb dL_line_6 rfl (lv_at hl 3 rfl) ?_
  refine rn_xVc (As := [.int x, .int e1, .int e2]) (rest := [.int 0, .ref o]) (E := rn_IA) 3 hx hb hml hown hts hG3 hE hS (x_line_1 l hfl hV hC hbad _) gL_line_X4_line rfl ⟨rfl, rfl⟩ (by decide +kernel) ⟨Nat.le_of_ble_eq_true rfl, Nat.le_of_ble_eq_true rfl⟩ hF (hF _ _ hC.1.1) rfl rfl hl.1 rfl (Nat.le_of_ble_eq_true rfl) ⟨Nat.le_of_ble_eq_true rfl, Nat.le_of_ble_eq_true rfl⟩ dL_line_7 [] ⟨0, 12, 15, 21⟩ [⟨0, 12, 19, 15⟩] htab (fun z hz => nomatch hz) (by decide) (by decide) (hts _ (by decide +kernel)) (by decide) (fun q9 H h1 h2 hS => ?_)
  refine lv_astore (lv' := [(5, .ref q9), (0, .ref h0), (1, .int x), (2, .int e1), (3, .int e2), (4, .ref o)]) hx hb dL_line_15 hl (by decide) rfl (fun ls hl => ?_)
  refine lv_iconst (v := 1) hx hb dL_line_17 (by decide) ?_
  have hat8 := hat9.kept (h2 _ hat9.lt)
  have hF8 := hF.kept (fun q hq => h2 q (hF.lt hq))
  exact rn_Wiret hx hb hr rfl hlocks hS (by decide) (by decide) rfl ⟨rn_P_mk hV hC hF8 (fun x hx => Or.inl hx), g, fun h => absurd h (by decide), hat8⟩ dL_line_18

set_option maxHeartbeats 4000000 in
set_option maxRecDepth 100000 in
theorem l_line_2 (l : Launch) (hfl : l.stackTraces = false) {D : va_G} {cR cP cF cL : ClassId} {h0 aR aP aF : Nat} {ra pa fa : Nat → Nat} {hd : Nat → Option Nat} {dh : Option Nat} {f : rn_T} {σ : rn_St} (hV : rn_V σ) (hC : rn_CI cR cP cF h0 aR aP aF ra pa fa hd dh f σ) {o : Nat} {g : Nat → Int64} (hfo : f o = none) {a : Nat} (ha0 : a ≤ 998) {x e2 : Int32} (hbad : x < 0 ∨ nI 998 < x) (sz : Nat) : rn_LT l yL_line wsL_line ({ frames := 8, cells := 1, slots := 6, locals := 140 } : Room) D (rn_tyl cR cP cF cL) ((rn_LB D f o cL g)) [.ref h0, .int (nI a), .int x, .int e2, .ref o] (some (.int 1)) (rn_LP D cR cP cF h0 f sz σ o cL 1 0) (rn_LA f sz o) 1 6 sz := by
  refine rn_LT.ofW (hh := [(0, 12, 15, 21), (0, 12, 19, 15)]) (cc := cL_line) (maxL := 6) (ret := (some .int)) (by decide) rfl (Nat.le_of_ble_eq_true rfl) (fun p e s m below meth c ls hx hb hr hml hts hown hlocks hsz hF9 hG hE htab hS hl => ?_)
  have hl : lv_has ls 6 [(0, .ref h0), (1, .int (nI a)), (2, .int x), (3, .int e2), (4, .ref o)] := hl
  subst hsz
  obtain ⟨hF, hat9⟩ := hF9
  have hG3 : rn_G D (rn_tys cR cP cF) s := ⟨hG.1.sub [0, 1, 2] rfl, hG.2⟩
  refine lv_aload hx hb dL_line_0 (lv_at hl 4 rfl) ?_
  refine lv_iconst (v := 0) hx hb dL_line_2 (by decide) ?_
  refine lv_aload_n hx hb dL_line_3 rfl (lv_at hl 0 rfl) ?_
  refine lv_iload_n hx hb dL_line_4 rfl (lv_at hl 1 rfl) ?_
  refine lv_iload_n hx hb dL_line_5 rfl (lv_at hl 2 rfl) ?_
  refine lv_iload_n hx hb dL_line_6 rfl (lv_at hl 3 rfl) ?_
  refine rn_xVc (As := [.int (nI a), .int x, .int e2]) (rest := [.int 0, .ref o]) (E := rn_IA) 3 hx hb hml hown hts hG3 hE hS (x_line_2 l hfl hV hC ha0 hbad _) gL_line_X4_line rfl ⟨rfl, rfl⟩ (by decide +kernel) ⟨Nat.le_of_ble_eq_true rfl, Nat.le_of_ble_eq_true rfl⟩ hF (hF _ _ hC.1.1) rfl rfl hl.1 rfl (Nat.le_of_ble_eq_true rfl) ⟨Nat.le_of_ble_eq_true rfl, Nat.le_of_ble_eq_true rfl⟩ dL_line_7 [] ⟨0, 12, 15, 21⟩ [⟨0, 12, 19, 15⟩] htab (fun z hz => nomatch hz) (by decide) (by decide) (hts _ (by decide +kernel)) (by decide) (fun q9 H h1 h2 hS => ?_)
  refine lv_astore (lv' := [(5, .ref q9), (0, .ref h0), (1, .int (nI a)), (2, .int x), (3, .int e2), (4, .ref o)]) hx hb dL_line_15 hl (by decide) rfl (fun ls hl => ?_)
  refine lv_iconst (v := 1) hx hb dL_line_17 (by decide) ?_
  have hat8 := hat9.kept (h2 _ hat9.lt)
  have hF8 := hF.kept (fun q hq => h2 q (hF.lt hq))
  exact rn_Wiret hx hb hr rfl hlocks hS (by decide) (by decide) rfl ⟨rn_P_mk hV hC hF8 (fun x hx => Or.inl hx), g, fun h => absurd h (by decide), hat8⟩ dL_line_18

set_option maxHeartbeats 4000000 in
set_option maxRecDepth 100000 in
theorem l_line_3 (l : Launch) (hfl : l.stackTraces = false) {D : va_G} {cR cP cF cL : ClassId} {h0 aR aP aF : Nat} {ra pa fa : Nat → Nat} {hd : Nat → Option Nat} {dh : Option Nat} {f : rn_T} {σ : rn_St} (hV : rn_V σ) (hC : rn_CI cR cP cF h0 aR aP aF ra pa fa hd dh f σ) {o : Nat} {g : Nat → Int64} (hfo : f o = none) {a b : Nat} (ha0 : a ≤ 998) (hb0 : b ≤ 998) {x : Int32} (hbad : x < 1 ∨ nI 999 < x) (sz : Nat) : rn_LT l yL_line wsL_line ({ frames := 8, cells := 1, slots := 6, locals := 140 } : Room) D (rn_tyl cR cP cF cL) ((rn_LB D f o cL g)) [.ref h0, .int (nI a), .int (nI b), .int x, .ref o] (some (.int 1)) (rn_LP D cR cP cF h0 f sz σ o cL 1 0) (rn_LA f sz o) 1 6 sz := by
  refine rn_LT.ofW (hh := [(0, 12, 15, 21), (0, 12, 19, 15)]) (cc := cL_line) (maxL := 6) (ret := (some .int)) (by decide) rfl (Nat.le_of_ble_eq_true rfl) (fun p e s m below meth c ls hx hb hr hml hts hown hlocks hsz hF9 hG hE htab hS hl => ?_)
  have hl : lv_has ls 6 [(0, .ref h0), (1, .int (nI a)), (2, .int (nI b)), (3, .int x), (4, .ref o)] := hl
  subst hsz
  obtain ⟨hF, hat9⟩ := hF9
  have hG3 : rn_G D (rn_tys cR cP cF) s := ⟨hG.1.sub [0, 1, 2] rfl, hG.2⟩
  refine lv_aload hx hb dL_line_0 (lv_at hl 4 rfl) ?_
  refine lv_iconst (v := 0) hx hb dL_line_2 (by decide) ?_
  refine lv_aload_n hx hb dL_line_3 rfl (lv_at hl 0 rfl) ?_
  refine lv_iload_n hx hb dL_line_4 rfl (lv_at hl 1 rfl) ?_
  refine lv_iload_n hx hb dL_line_5 rfl (lv_at hl 2 rfl) ?_
  refine lv_iload_n hx hb dL_line_6 rfl (lv_at hl 3 rfl) ?_
  refine rn_xVc (As := [.int (nI a), .int (nI b), .int x]) (rest := [.int 0, .ref o]) (E := rn_IA) 3 hx hb hml hown hts hG3 hE hS (x_line_3 l hfl hV hC ha0 hb0 hbad _) gL_line_X4_line rfl ⟨rfl, rfl⟩ (by decide +kernel) ⟨Nat.le_of_ble_eq_true rfl, Nat.le_of_ble_eq_true rfl⟩ hF (hF _ _ hC.1.1) rfl rfl hl.1 rfl (Nat.le_of_ble_eq_true rfl) ⟨Nat.le_of_ble_eq_true rfl, Nat.le_of_ble_eq_true rfl⟩ dL_line_7 [] ⟨0, 12, 15, 21⟩ [⟨0, 12, 19, 15⟩] htab (fun z hz => nomatch hz) (by decide) (by decide) (hts _ (by decide +kernel)) (by decide) (fun q9 H h1 h2 hS => ?_)
  refine lv_astore (lv' := [(5, .ref q9), (0, .ref h0), (1, .int (nI a)), (2, .int (nI b)), (3, .int x), (4, .ref o)]) hx hb dL_line_15 hl (by decide) rfl (fun ls hl => ?_)
  refine lv_iconst (v := 1) hx hb dL_line_17 (by decide) ?_
  have hat8 := hat9.kept (h2 _ hat9.lt)
  have hF8 := hF.kept (fun q hq => h2 q (hF.lt hq))
  exact rn_Wiret hx hb hr rfl hlocks hS (by decide) (by decide) rfl ⟨rn_P_mk hV hC hF8 (fun x hx => Or.inl hx), g, fun h => absurd h (by decide), hat8⟩ dL_line_18

set_option maxHeartbeats 4000000 in
set_option maxRecDepth 100000 in
theorem l_line_4 (l : Launch) (hfl : l.stackTraces = false) {D : va_G} {cR cP cF cL : ClassId} {h0 aR aP aF : Nat} {ra pa fa : Nat → Nat} {hd : Nat → Option Nat} {dh : Option Nat} {f : rn_T} {σ : rn_St} (hV : rn_V σ) (hC : rn_CI cR cP cF h0 aR aP aF ra pa fa hd dh f σ) {o : Nat} {g : Nat → Int64} (hfo : f o = none) {a b c9 : Nat} (ha0 : a ≤ 998) (hb0 : b ≤ 998) (hc0 : 1 ≤ c9 ∧ c9 ≤ 999) (hbig : 999 < a + c9) (sz : Nat) : rn_LT l yL_line wsL_line ({ frames := 8, cells := 1, slots := 6, locals := 140 } : Room) D (rn_tyl cR cP cF cL) ((rn_LB D f o cL g)) [.ref h0, .int (nI a), .int (nI b), .int (nI c9), .ref o] (some (.int 1)) (rn_LP D cR cP cF h0 f sz σ o cL 1 0) (rn_LA f sz o) 1 6 sz := by
  refine rn_LT.ofW (hh := [(0, 12, 15, 21), (0, 12, 19, 15)]) (cc := cL_line) (maxL := 6) (ret := (some .int)) (by decide) rfl (Nat.le_of_ble_eq_true rfl) (fun p e s m below meth c ls hx hb hr hml hts hown hlocks hsz hF9 hG hE htab hS hl => ?_)
  have hl : lv_has ls 6 [(0, .ref h0), (1, .int (nI a)), (2, .int (nI b)), (3, .int (nI c9)), (4, .ref o)] := hl
  subst hsz
  obtain ⟨hF, hat9⟩ := hF9
  have hG3 : rn_G D (rn_tys cR cP cF) s := ⟨hG.1.sub [0, 1, 2] rfl, hG.2⟩
  refine lv_aload hx hb dL_line_0 (lv_at hl 4 rfl) ?_
  refine lv_iconst (v := 0) hx hb dL_line_2 (by decide) ?_
  refine lv_aload_n hx hb dL_line_3 rfl (lv_at hl 0 rfl) ?_
  refine lv_iload_n hx hb dL_line_4 rfl (lv_at hl 1 rfl) ?_
  refine lv_iload_n hx hb dL_line_5 rfl (lv_at hl 2 rfl) ?_
  refine lv_iload_n hx hb dL_line_6 rfl (lv_at hl 3 rfl) ?_
  refine rn_xVc (As := [.int (nI a), .int (nI b), .int (nI c9)]) (rest := [.int 0, .ref o]) (E := rn_IA) 3 hx hb hml hown hts hG3 hE hS (x_line_4 l hfl hV hC ha0 hb0 hc0 hbig _) gL_line_X4_line rfl ⟨rfl, rfl⟩ (by decide +kernel) ⟨Nat.le_of_ble_eq_true rfl, Nat.le_of_ble_eq_true rfl⟩ hF (hF _ _ hC.1.1) rfl rfl hl.1 rfl (Nat.le_of_ble_eq_true rfl) ⟨Nat.le_of_ble_eq_true rfl, Nat.le_of_ble_eq_true rfl⟩ dL_line_7 [] ⟨0, 12, 15, 21⟩ [⟨0, 12, 19, 15⟩] htab (fun z hz => nomatch hz) (by decide) (by decide) (hts _ (by decide +kernel)) (by decide) (fun q9 H h1 h2 hS => ?_)
  refine lv_astore (lv' := [(5, .ref q9), (0, .ref h0), (1, .int (nI a)), (2, .int (nI b)), (3, .int (nI c9)), (4, .ref o)]) hx hb dL_line_15 hl (by decide) rfl (fun ls hl => ?_)
  refine lv_iconst (v := 1) hx hb dL_line_17 (by decide) ?_
  have hat8 := hat9.kept (h2 _ hat9.lt)
  have hF8 := hF.kept (fun q hq => h2 q (hF.lt hq))
  exact rn_Wiret hx hb hr rfl hlocks hS (by decide) (by decide) rfl ⟨rn_P_mk hV hC hF8 (fun x hx => Or.inl hx), g, fun h => absurd h (by decide), hat8⟩ dL_line_18

set_option maxHeartbeats 4000000 in
set_option maxRecDepth 100000 in
theorem l_line_5 (l : Launch) (hfl : l.stackTraces = false) {D : va_G} {cR cP cF cL : ClassId} {h0 aR aP aF : Nat} {ra pa fa : Nat → Nat} {hd : Nat → Option Nat} {dh : Option Nat} {f : rn_T} {σ : rn_St} (hV : rn_V σ) (hC : rn_CI cR cP cF h0 aR aP aF ra pa fa hd dh f σ) {o : Nat} {g : Nat → Int64} (hfo : f o = none) {a b c9 : Nat} (ha0 : a ≤ 998) (hb0 : b ≤ 998) (hc0 : 1 ≤ c9 ∧ c9 ≤ 999) (hfit : a + c9 ≤ 999) (hbig : 999 < b + c9) (sz : Nat) : rn_LT l yL_line wsL_line ({ frames := 8, cells := 1, slots := 6, locals := 140 } : Room) D (rn_tyl cR cP cF cL) ((rn_LB D f o cL g)) [.ref h0, .int (nI a), .int (nI b), .int (nI c9), .ref o] (some (.int 1)) (rn_LP D cR cP cF h0 f sz σ o cL 1 0) (rn_LA f sz o) 1 6 sz := by
  refine rn_LT.ofW (hh := [(0, 12, 15, 21), (0, 12, 19, 15)]) (cc := cL_line) (maxL := 6) (ret := (some .int)) (by decide) rfl (Nat.le_of_ble_eq_true rfl) (fun p e s m below meth c ls hx hb hr hml hts hown hlocks hsz hF9 hG hE htab hS hl => ?_)
  have hl : lv_has ls 6 [(0, .ref h0), (1, .int (nI a)), (2, .int (nI b)), (3, .int (nI c9)), (4, .ref o)] := hl
  subst hsz
  obtain ⟨hF, hat9⟩ := hF9
  have hG3 : rn_G D (rn_tys cR cP cF) s := ⟨hG.1.sub [0, 1, 2] rfl, hG.2⟩
  refine lv_aload hx hb dL_line_0 (lv_at hl 4 rfl) ?_
  refine lv_iconst (v := 0) hx hb dL_line_2 (by decide) ?_
  refine lv_aload_n hx hb dL_line_3 rfl (lv_at hl 0 rfl) ?_
  refine lv_iload_n hx hb dL_line_4 rfl (lv_at hl 1 rfl) ?_
  refine lv_iload_n hx hb dL_line_5 rfl (lv_at hl 2 rfl) ?_
  refine lv_iload_n hx hb dL_line_6 rfl (lv_at hl 3 rfl) ?_
  refine rn_xVc (As := [.int (nI a), .int (nI b), .int (nI c9)]) (rest := [.int 0, .ref o]) (E := rn_IA) 3 hx hb hml hown hts hG3 hE hS (x_line_5 l hfl hV hC ha0 hb0 hc0 hfit hbig _) gL_line_X4_line rfl ⟨rfl, rfl⟩ (by decide +kernel) ⟨Nat.le_of_ble_eq_true rfl, Nat.le_of_ble_eq_true rfl⟩ hF (hF _ _ hC.1.1) rfl rfl hl.1 rfl (Nat.le_of_ble_eq_true rfl) ⟨Nat.le_of_ble_eq_true rfl, Nat.le_of_ble_eq_true rfl⟩ dL_line_7 [] ⟨0, 12, 15, 21⟩ [⟨0, 12, 19, 15⟩] htab (fun z hz => nomatch hz) (by decide) (by decide) (hts _ (by decide +kernel)) (by decide) (fun q9 H h1 h2 hS => ?_)
  refine lv_astore (lv' := [(5, .ref q9), (0, .ref h0), (1, .int (nI a)), (2, .int (nI b)), (3, .int (nI c9)), (4, .ref o)]) hx hb dL_line_15 hl (by decide) rfl (fun ls hl => ?_)
  refine lv_iconst (v := 1) hx hb dL_line_17 (by decide) ?_
  have hat8 := hat9.kept (h2 _ hat9.lt)
  have hF8 := hF.kept (fun q hq => h2 q (hF.lt hq))
  exact rn_Wiret hx hb hr rfl hlocks hS (by decide) (by decide) rfl ⟨rn_P_mk hV hC hF8 (fun x hx => Or.inl hx), g, fun h => absurd h (by decide), hat8⟩ dL_line_18

set_option maxHeartbeats 4000000 in
set_option maxRecDepth 100000 in
theorem l_line_s (l : Launch) (hfl : l.stackTraces = false) {D : va_G} {cR cP cF cL : ClassId} {h0 aR aP aF : Nat} {ra pa fa : Nat → Nat} {hd : Nat → Option Nat} {dh : Option Nat} {f : rn_T} {σ : rn_St} (hV : rn_V σ) (hC : rn_CI cR cP cF h0 aR aP aF ra pa fa hd dh f σ) {o : Nat} {g : Nat → Int64} (hfo : f o = none) {a b c9 : Nat} (ha0 : a ≤ 998) (hb0 : b ≤ 998) (hc0 : 1 ≤ c9 ∧ c9 ≤ 999) (hfit : a + c9 ≤ 999) (hfit2 : b + c9 ≤ 999) (hfull : σ.sd.length = 3) (sz : Nat) : rn_LT l yL_line wsL_line ({ frames := 8, cells := 1, slots := 6, locals := 140 } : Room) D (rn_tyl cR cP cF cL) ((rn_LB D f o cL g)) [.ref h0, .int (nI a), .int (nI b), .int (nI c9), .ref o] (some (.int 2)) (rn_LP D cR cP cF h0 f sz σ o cL 2 0) (rn_LA f sz o) 1 6 sz := by
  refine rn_LT.ofW (hh := [(0, 12, 15, 21), (0, 12, 19, 15)]) (cc := cL_line) (maxL := 6) (ret := (some .int)) (by decide) rfl (Nat.le_of_ble_eq_true rfl) (fun p e s m below meth c ls hx hb hr hml hts hown hlocks hsz hF9 hG hE htab hS hl => ?_)
  have hl : lv_has ls 6 [(0, .ref h0), (1, .int (nI a)), (2, .int (nI b)), (3, .int (nI c9)), (4, .ref o)] := hl
  subst hsz
  obtain ⟨hF, hat9⟩ := hF9
  have hG3 : rn_G D (rn_tys cR cP cF) s := ⟨hG.1.sub [0, 1, 2] rfl, hG.2⟩
  refine lv_aload hx hb dL_line_0 (lv_at hl 4 rfl) ?_
  refine lv_iconst (v := 0) hx hb dL_line_2 (by decide) ?_
  refine lv_aload_n hx hb dL_line_3 rfl (lv_at hl 0 rfl) ?_
  refine lv_iload_n hx hb dL_line_4 rfl (lv_at hl 1 rfl) ?_
  refine lv_iload_n hx hb dL_line_5 rfl (lv_at hl 2 rfl) ?_
  refine lv_iload_n hx hb dL_line_6 rfl (lv_at hl 3 rfl) ?_
  refine rn_xVc (As := [.int (nI a), .int (nI b), .int (nI c9)]) (rest := [.int 0, .ref o]) (E := rn_IS) 3 hx hb hml hown hts hG3 hE hS (x_line_s l hfl hV hC ha0 hb0 hc0 hfit hfit2 hfull _) gL_line_X4_line rfl ⟨rfl, rfl⟩ (by decide +kernel) ⟨Nat.le_of_ble_eq_true rfl, Nat.le_of_ble_eq_true rfl⟩ hF (hF _ _ hC.1.1) rfl rfl hl.1 rfl (Nat.le_of_ble_eq_true rfl) ⟨Nat.le_of_ble_eq_true rfl, Nat.le_of_ble_eq_true rfl⟩ dL_line_7 [⟨0, 12, 15, 21⟩] ⟨0, 12, 19, 15⟩ [] htab (fun z hz => by rw [List.mem_singleton.mp hz]; exact Or.inr ⟨(by decide : 21 ≠ 0), rn_IA, hts _ (by decide +kernel), hE.2.2.1 (rn_IS, rn_IA) (by decide)⟩) (by decide) (by decide) (hts _ (by decide +kernel)) (by decide) (fun q9 H h1 h2 hS => ?_)
  refine lv_astore (lv' := [(5, .ref q9), (0, .ref h0), (1, .int (nI a)), (2, .int (nI b)), (3, .int (nI c9)), (4, .ref o)]) hx hb dL_line_19 hl (by decide) rfl (fun ls hl => ?_)
  refine lv_iconst (v := 2) hx hb dL_line_21 (by decide) ?_
  have hat8 := hat9.kept (h2 _ hat9.lt)
  have hF8 := hF.kept (fun q hq => h2 q (hF.lt hq))
  exact rn_Wiret hx hb hr rfl hlocks hS (by decide) (by decide) rfl ⟨rn_P_mk hV hC hF8 (fun x hx => Or.inl hx), g, fun h => absurd h (by decide), hat8⟩ dL_line_22

set_option maxHeartbeats 4000000 in
set_option maxRecDepth 100000 in
theorem l_line_o (l : Launch) {D : va_G} {cR cP cF cL : ClassId} {h0 aR aP aF : Nat} {ra pa fa : Nat → Nat} {hd : Nat → Option Nat} {dh : Option Nat} {f : rn_T} {σ : rn_St} (hV : rn_V σ) (hC : rn_CI cR cP cF h0 aR aP aF ra pa fa hd dh f σ) {o : Nat} {g : Nat → Int64} (hfo : f o = none) {a b c9 : Nat} (ha0 : a ≤ 998) (hb0 : b ≤ 998) (hc0 : 1 ≤ c9 ∧ c9 ≤ 999) (hfit : a + c9 ≤ 999) (hfit2 : b + c9 ≤ 999) (hn0 : σ.sd.length < 3) (sz : Nat) : rn_LT l yL_line wsL_line ({ frames := 8, cells := 1, slots := 6, locals := 140 } : Room) D (rn_tyl cR cP cF cL) ((rn_LB D f o cL g)) [.ref h0, .int (nI a), .int (nI b), .int (nI c9), .ref o] (some (.int 0)) (rn_LP D cR cP cF h0 f sz (rn_draft σ ((a, b, c9) :: σ.sd)) o cL 0 (nI (σ.sd.length + 1))) (rn_LA f sz o) 1 6 sz := by
  refine rn_LT.ofW (hh := [(0, 12, 15, 21), (0, 12, 19, 15)]) (cc := cL_line) (maxL := 6) (ret := (some .int)) (by decide) rfl (Nat.le_of_ble_eq_true rfl) (fun p e s m below meth c ls hx hb hr hml hts hown hlocks hsz hF9 hG hE htab hS hl => ?_)
  have hl : lv_has ls 6 [(0, .ref h0), (1, .int (nI a)), (2, .int (nI b)), (3, .int (nI c9)), (4, .ref o)] := hl
  subst hsz
  obtain ⟨hF, hat9⟩ := hF9
  have hG3 : rn_G D (rn_tys cR cP cF) s := ⟨hG.1.sub [0, 1, 2] rfl, hG.2⟩
  refine lv_aload hx hb dL_line_0 (lv_at hl 4 rfl) ?_
  refine lv_iconst (v := 0) hx hb dL_line_2 (by decide) ?_
  refine lv_aload_n hx hb dL_line_3 rfl (lv_at hl 0 rfl) ?_
  refine lv_iload_n hx hb dL_line_4 rfl (lv_at hl 1 rfl) ?_
  refine lv_iload_n hx hb dL_line_5 rfl (lv_at hl 2 rfl) ?_
  refine lv_iload_n hx hb dL_line_6 rfl (lv_at hl 3 rfl) ?_
  refine rn_wV (As := [.int (nI a), .int (nI b), .int (nI c9)]) (rest := [.int 0, .ref o]) 3 hx hb hml hown hts hG3 hS (w_line l hV hC ha0 hb0 hc0 hfit hfit2 hn0 _) (fun q h => Or.inr h) gL_line_X4_line rfl ⟨rfl, rfl⟩ (by decide +kernel) ⟨Nat.le_of_ble_eq_true rfl, Nat.le_of_ble_eq_true rfl⟩ hF (hF _ _ hC.1.1) rfl rfl hl.1 rfl (Nat.le_of_ble_eq_true rfl) ⟨Nat.le_of_ble_eq_true rfl, Nat.le_of_ble_eq_true rfl⟩ dL_line_7 (fun H locs hP1 hz hk hS => ?_)
  have hat8 := hat9.kept (hk _ hat9.lt (fun h => h.elim (fun h => h hfo) (fun h => absurd h (Nat.not_le.mpr hat9.lt))))
  refine W.eq (g2 := F0 m 10 ls [.int (nI (σ.sd.length + 1)), .int 0, .ref o]) rfl ?_
  refine lv_i2l hx hb dL_line_10 rfl ?_
  refine rn_last (A := (rn_LA f s.heap.size o)) hx hb hG hS (Or.inl rfl) hat8 3 rfl dL_line_11 (fun H locs hat hz ho hS => ?_)
  refine lv_goto (tgt := 23) hx hb dL_line_12 (by decide) ?_
  refine lv_iconst (v := 0) hx hb dL_line_23 (by decide) ?_
  exact rn_Wiret hx hb hr rfl hlocks hS (by decide) (by decide) rfl ⟨hP1.out ho hfo hat9.lt, _, fun _ => pk_uLs, hat⟩ dL_line_24

set_option maxHeartbeats 4000000 in
set_option maxRecDepth 100000 in
theorem l_writeMap_p (l : Launch) (hfl : l.stackTraces = false) {D : va_G} {cR cP cF cL : ClassId} {h0 aR aP aF : Nat} {ra pa fa : Nat → Nat} {hd : Nat → Option Nat} {dh : Option Nat} {f : rn_T} {σ : rn_St} (hV : rn_V σ) (hC : rn_CI cR cP cF h0 aR aP aF ra pa fa hd dh f σ) {o : Nat} {g : Nat → Int64} (hfo : f o = none) {x e1 : Int32} (hno : ¬ ∃ i, i < σ.pn ∧ x = nI i) (sz : Nat) : rn_LT l yL_writeMap wsL_writeMap ({ frames := 8, cells := 1, slots := 6, locals := 140 } : Room) D (rn_tyl cR cP cF cL) ((rn_LB D f o cL g)) [.ref h0, .int x, .int e1, .ref o] (some (.int 1)) (rn_LP D cR cP cF h0 f sz σ o cL 1 0) (rn_LA f sz o) 1 6 sz := by
  refine rn_LT.ofW (hh := [(0, 10, 13, 13)]) (cc := cL_writeMap) (maxL := 5) (ret := (some .int)) (by decide) rfl (Nat.le_of_ble_eq_true rfl) (fun p e s m below meth c ls hx hb hr hml hts hown hlocks hsz hF9 hG hE htab hS hl => ?_)
  have hl : lv_has ls 5 [(0, .ref h0), (1, .int x), (2, .int e1), (3, .ref o)] := hl
  subst hsz
  obtain ⟨hF, hat9⟩ := hF9
  have hG3 : rn_G D (rn_tys cR cP cF) s := ⟨hG.1.sub [0, 1, 2] rfl, hG.2⟩
  refine lv_aload_n hx hb dL_writeMap_0 rfl (lv_at hl 3 rfl) ?_
  refine lv_iconst (v := 0) hx hb dL_writeMap_1 (by decide) ?_
  refine lv_aload_n hx hb dL_writeMap_2 rfl (lv_at hl 0 rfl) ?_
  refine lv_iload_n hx hb dL_writeMap_3 rfl (lv_at hl 1 rfl) ?_
  refine lv_iload_n hx hb dL_writeMap_4 rfl (lv_at hl 2 rfl) ?_
  refine rn_xVc (As := [.int x, .int e1]) (rest := [.int 0, .ref o]) (E := rn_IO) 2 hx hb hml hown hts hG3 hE hS (x_writeMap_p l hfl hV hC hno _) gL_writeMap_X4_writeMap rfl ⟨rfl, rfl⟩ (by decide +kernel) ⟨Nat.le_of_ble_eq_true rfl, Nat.le_of_ble_eq_true rfl⟩ hF (hF _ _ hC.1.1) rfl rfl hl.1 rfl (Nat.le_of_ble_eq_true rfl) ⟨Nat.le_of_ble_eq_true rfl, Nat.le_of_ble_eq_true rfl⟩ dL_writeMap_5 [] ⟨0, 10, 13, 13⟩ [] htab (fun z hz => nomatch hz) (by decide) (by decide) (hts _ (by decide +kernel)) (by decide) (fun q9 H h1 h2 hS => ?_)
  refine lv_astore (lv' := [(4, .ref q9), (0, .ref h0), (1, .int x), (2, .int e1), (3, .ref o)]) hx hb dL_writeMap_13 hl (by decide) rfl (fun ls hl => ?_)
  refine lv_iconst (v := 1) hx hb dL_writeMap_15 (by decide) ?_
  have hat8 := hat9.kept (h2 _ hat9.lt)
  have hF8 := hF.kept (fun q hq => h2 q (hF.lt hq))
  exact rn_Wiret hx hb hr rfl hlocks hS (by decide) (by decide) rfl ⟨rn_P_mk hV hC hF8 (fun x hx => Or.inl hx), g, fun h => absurd h (by decide), hat8⟩ dL_writeMap_16

set_option maxHeartbeats 4000000 in
set_option maxRecDepth 100000 in
theorem l_writeMap_r (l : Launch) (hfl : l.stackTraces = false) {D : va_G} {cR cP cF cL : ClassId} {h0 aR aP aF : Nat} {ra pa fa : Nat → Nat} {hd : Nat → Option Nat} {dh : Option Nat} {f : rn_T} {σ : rn_St} (hV : rn_V σ) (hC : rn_CI cR cP cF h0 aR aP aF ra pa fa hd dh f σ) {o : Nat} {g : Nat → Int64} (hfo : f o = none) {j : Nat} (hj0 : j < σ.pn) {x : Int32} (hno : ¬ ∃ i, i < σ.sn ∧ x = nI i) (sz : Nat) : rn_LT l yL_writeMap wsL_writeMap ({ frames := 8, cells := 1, slots := 6, locals := 140 } : Room) D (rn_tyl cR cP cF cL) ((rn_LB D f o cL g)) [.ref h0, .int (nI j), .int x, .ref o] (some (.int 1)) (rn_LP D cR cP cF h0 f sz σ o cL 1 0) (rn_LA f sz o) 1 6 sz := by
  refine rn_LT.ofW (hh := [(0, 10, 13, 13)]) (cc := cL_writeMap) (maxL := 5) (ret := (some .int)) (by decide) rfl (Nat.le_of_ble_eq_true rfl) (fun p e s m below meth c ls hx hb hr hml hts hown hlocks hsz hF9 hG hE htab hS hl => ?_)
  have hl : lv_has ls 5 [(0, .ref h0), (1, .int (nI j)), (2, .int x), (3, .ref o)] := hl
  subst hsz
  obtain ⟨hF, hat9⟩ := hF9
  have hG3 : rn_G D (rn_tys cR cP cF) s := ⟨hG.1.sub [0, 1, 2] rfl, hG.2⟩
  refine lv_aload_n hx hb dL_writeMap_0 rfl (lv_at hl 3 rfl) ?_
  refine lv_iconst (v := 0) hx hb dL_writeMap_1 (by decide) ?_
  refine lv_aload_n hx hb dL_writeMap_2 rfl (lv_at hl 0 rfl) ?_
  refine lv_iload_n hx hb dL_writeMap_3 rfl (lv_at hl 1 rfl) ?_
  refine lv_iload_n hx hb dL_writeMap_4 rfl (lv_at hl 2 rfl) ?_
  refine rn_xVc (As := [.int (nI j), .int x]) (rest := [.int 0, .ref o]) (E := rn_IO) 2 hx hb hml hown hts hG3 hE hS (x_writeMap_r l hfl hV hC hj0 hno _) gL_writeMap_X4_writeMap rfl ⟨rfl, rfl⟩ (by decide +kernel) ⟨Nat.le_of_ble_eq_true rfl, Nat.le_of_ble_eq_true rfl⟩ hF (hF _ _ hC.1.1) rfl rfl hl.1 rfl (Nat.le_of_ble_eq_true rfl) ⟨Nat.le_of_ble_eq_true rfl, Nat.le_of_ble_eq_true rfl⟩ dL_writeMap_5 [] ⟨0, 10, 13, 13⟩ [] htab (fun z hz => nomatch hz) (by decide) (by decide) (hts _ (by decide +kernel)) (by decide) (fun q9 H h1 h2 hS => ?_)
  refine lv_astore (lv' := [(4, .ref q9), (0, .ref h0), (1, .int (nI j)), (2, .int x), (3, .ref o)]) hx hb dL_writeMap_13 hl (by decide) rfl (fun ls hl => ?_)
  refine lv_iconst (v := 1) hx hb dL_writeMap_15 (by decide) ?_
  have hat8 := hat9.kept (h2 _ hat9.lt)
  have hF8 := hF.kept (fun q hq => h2 q (hF.lt hq))
  exact rn_Wiret hx hb hr rfl hlocks hS (by decide) (by decide) rfl ⟨rn_P_mk hV hC hF8 (fun x hx => Or.inl hx), g, fun h => absurd h (by decide), hat8⟩ dL_writeMap_16

set_option maxHeartbeats 4000000 in
set_option maxRecDepth 100000 in
theorem l_writeMap_0 (l : Launch) (hfl : l.stackTraces = false) {D : va_G} {cR cP cF cL : ClassId} {h0 aR aP aF : Nat} {ra pa fa : Nat → Nat} {hd : Nat → Option Nat} {dh : Option Nat} {f : rn_T} {σ : rn_St} (hV : rn_V σ) (hC : rn_CI cR cP cF h0 aR aP aF ra pa fa hd dh f σ) {o : Nat} {g : Nat → Int64} (hfo : f o = none) {j : Nat} (hj0 : j < σ.pn) (sz : Nat) : rn_LT l yL_writeMap wsL_writeMap ({ frames := 8, cells := 1, slots := 6, locals := 140 } : Room) D (rn_tyl cR cP cF cL) ((rn_LB D f o cL g)) [.ref h0, .int (nI j), .int (nI 0), .ref o] (some (.int 1)) (rn_LP D cR cP cF h0 f sz σ o cL 1 0) (rn_LA f sz o) 1 6 sz := by
  refine rn_LT.ofW (hh := [(0, 10, 13, 13)]) (cc := cL_writeMap) (maxL := 5) (ret := (some .int)) (by decide) rfl (Nat.le_of_ble_eq_true rfl) (fun p e s m below meth c ls hx hb hr hml hts hown hlocks hsz hF9 hG hE htab hS hl => ?_)
  have hl : lv_has ls 5 [(0, .ref h0), (1, .int (nI j)), (2, .int (nI 0)), (3, .ref o)] := hl
  subst hsz
  obtain ⟨hF, hat9⟩ := hF9
  have hG3 : rn_G D (rn_tys cR cP cF) s := ⟨hG.1.sub [0, 1, 2] rfl, hG.2⟩
  refine lv_aload_n hx hb dL_writeMap_0 rfl (lv_at hl 3 rfl) ?_
  refine lv_iconst (v := 0) hx hb dL_writeMap_1 (by decide) ?_
  refine lv_aload_n hx hb dL_writeMap_2 rfl (lv_at hl 0 rfl) ?_
  refine lv_iload_n hx hb dL_writeMap_3 rfl (lv_at hl 1 rfl) ?_
  refine lv_iload_n hx hb dL_writeMap_4 rfl (lv_at hl 2 rfl) ?_
  refine rn_xVc (As := [.int (nI j), .int (nI 0)]) (rest := [.int 0, .ref o]) (E := rn_IO) 2 hx hb hml hown hts hG3 hE hS (x_writeMap_0 l hfl hV hC hj0 _) gL_writeMap_X4_writeMap rfl ⟨rfl, rfl⟩ (by decide +kernel) ⟨Nat.le_of_ble_eq_true rfl, Nat.le_of_ble_eq_true rfl⟩ hF (hF _ _ hC.1.1) rfl rfl hl.1 rfl (Nat.le_of_ble_eq_true rfl) ⟨Nat.le_of_ble_eq_true rfl, Nat.le_of_ble_eq_true rfl⟩ dL_writeMap_5 [] ⟨0, 10, 13, 13⟩ [] htab (fun z hz => nomatch hz) (by decide) (by decide) (hts _ (by decide +kernel)) (by decide) (fun q9 H h1 h2 hS => ?_)
  refine lv_astore (lv' := [(4, .ref q9), (0, .ref h0), (1, .int (nI j)), (2, .int (nI 0)), (3, .ref o)]) hx hb dL_writeMap_13 hl (by decide) rfl (fun ls hl => ?_)
  refine lv_iconst (v := 1) hx hb dL_writeMap_15 (by decide) ?_
  have hat8 := hat9.kept (h2 _ hat9.lt)
  have hF8 := hF.kept (fun q hq => h2 q (hF.lt hq))
  exact rn_Wiret hx hb hr rfl hlocks hS (by decide) (by decide) rfl ⟨rn_P_mk hV hC hF8 (fun x hx => Or.inl hx), g, fun h => absurd h (by decide), hat8⟩ dL_writeMap_16

set_option maxHeartbeats 4000000 in
set_option maxRecDepth 100000 in
theorem l_writeMap_o (l : Launch) {D : va_G} {cR cP cF cL : ClassId} {h0 aR aP aF : Nat} {ra pa fa : Nat → Nat} {hd : Nat → Option Nat} {dh : Option Nat} {f : rn_T} {σ : rn_St} (hV : rn_V σ) (hC : rn_CI cR cP cF h0 aR aP aF ra pa fa hd dh f σ) {o : Nat} {g : Nat → Int64} (hfo : f o = none) {j i : Nat} (hj0 : j < σ.pn) (hi0 : i < σ.sn) (hi9 : i ≠ 0) (sz : Nat) : rn_LT l yL_writeMap wsL_writeMap ({ frames := 8, cells := 1, slots := 6, locals := 140 } : Room) D (rn_tyl cR cP cF cL) ((rn_LB D f o cL g)) [.ref h0, .int (nI j), .int (nI i), .ref o] (some (.int 0)) (rn_LP D cR cP cF h0 f sz ((rn_o_writeMap σ j i).2) o cL 0 ((rn_o_writeMap σ j i).1)) (rn_LA f sz o) 1 6 sz := by
  refine rn_LT.ofW (hh := [(0, 10, 13, 13)]) (cc := cL_writeMap) (maxL := 5) (ret := (some .int)) (by decide) rfl (Nat.le_of_ble_eq_true rfl) (fun p e s m below meth c ls hx hb hr hml hts hown hlocks hsz hF9 hG hE htab hS hl => ?_)
  have hl : lv_has ls 5 [(0, .ref h0), (1, .int (nI j)), (2, .int (nI i)), (3, .ref o)] := hl
  subst hsz
  obtain ⟨hF, hat9⟩ := hF9
  have hG3 : rn_G D (rn_tys cR cP cF) s := ⟨hG.1.sub [0, 1, 2] rfl, hG.2⟩
  refine lv_aload_n hx hb dL_writeMap_0 rfl (lv_at hl 3 rfl) ?_
  refine lv_iconst (v := 0) hx hb dL_writeMap_1 (by decide) ?_
  refine lv_aload_n hx hb dL_writeMap_2 rfl (lv_at hl 0 rfl) ?_
  refine lv_iload_n hx hb dL_writeMap_3 rfl (lv_at hl 1 rfl) ?_
  refine lv_iload_n hx hb dL_writeMap_4 rfl (lv_at hl 2 rfl) ?_
  refine rn_wV (As := [.int (nI j), .int (nI i)]) (rest := [.int 0, .ref o]) 2 hx hb hml hown hts hG3 hS (w_writeMap l hV hC hj0 hi0 hi9 _) (fun q h => Or.inr h) gL_writeMap_X4_writeMap rfl ⟨rfl, rfl⟩ (by decide +kernel) ⟨Nat.le_of_ble_eq_true rfl, Nat.le_of_ble_eq_true rfl⟩ hF (hF _ _ hC.1.1) rfl rfl hl.1 rfl (Nat.le_of_ble_eq_true rfl) ⟨Nat.le_of_ble_eq_true rfl, Nat.le_of_ble_eq_true rfl⟩ dL_writeMap_5 (fun H locs hP1 hz hk hS => ?_)
  have hat8 := hat9.kept (hk _ hat9.lt (fun h => h.elim (fun h => h hfo) (fun h => absurd h (Nat.not_le.mpr hat9.lt))))
  refine W.eq (g2 := F0 m 8 ls [.int ((rn_o_writeMap σ j i).1), .int 0, .ref o]) rfl ?_
  refine lv_i2l hx hb dL_writeMap_8 rfl ?_
  refine rn_last (A := (rn_LA f s.heap.size o)) hx hb hG hS (Or.inl rfl) hat8 3 rfl dL_writeMap_9 (fun H locs hat hz ho hS => ?_)
  refine lv_goto (tgt := 17) hx hb dL_writeMap_10 (by decide) ?_
  refine lv_iconst (v := 0) hx hb dL_writeMap_17 (by decide) ?_
  exact rn_Wiret hx hb hr rfl hlocks hS (by decide) (by decide) rfl ⟨hP1.out ho hfo hat9.lt, _, fun _ => pk_uLs, hat⟩ dL_writeMap_18

set_option maxHeartbeats 4000000 in
set_option maxRecDepth 100000 in
theorem l_outerOf_r (l : Launch) (hfl : l.stackTraces = false) {D : va_G} {cR cP cF cL : ClassId} {h0 aR aP aF : Nat} {ra pa fa : Nat → Nat} {hd : Nat → Option Nat} {dh : Option Nat} {f : rn_T} {σ : rn_St} (hV : rn_V σ) (hC : rn_CI cR cP cF h0 aR aP aF ra pa fa hd dh f σ) {o : Nat} {g : Nat → Int64} (hfo : f o = none) {x  : Int32} (hno : ¬ ∃ i, i < σ.sn ∧ x = nI i) (sz : Nat) : rn_LT l yL_outerOf wsL_outerOf ({ frames := 8, cells := 1, slots := 6, locals := 140 } : Room) D (rn_tyl cR cP cF cL) ((rn_LB D f o cL g)) [.ref h0, .int x, .ref o] (some (.int 1)) (rn_LP D cR cP cF h0 f sz σ o cL 1 0) (rn_LA f sz o) 1 6 sz := by
  refine rn_LT.ofW (hh := [(0, 9, 12, 13)]) (cc := cL_outerOf) (maxL := 4) (ret := (some .int)) (by decide) rfl (Nat.le_of_ble_eq_true rfl) (fun p e s m below meth c ls hx hb hr hml hts hown hlocks hsz hF9 hG hE htab hS hl => ?_)
  have hl : lv_has ls 4 [(0, .ref h0), (1, .int x), (2, .ref o)] := hl
  subst hsz
  obtain ⟨hF, hat9⟩ := hF9
  have hG3 : rn_G D (rn_tys cR cP cF) s := ⟨hG.1.sub [0, 1, 2] rfl, hG.2⟩
  refine lv_aload_n hx hb dL_outerOf_0 rfl (lv_at hl 2 rfl) ?_
  refine lv_iconst (v := 0) hx hb dL_outerOf_1 (by decide) ?_
  refine lv_aload_n hx hb dL_outerOf_2 rfl (lv_at hl 0 rfl) ?_
  refine lv_iload_n hx hb dL_outerOf_3 rfl (lv_at hl 1 rfl) ?_
  refine rn_xVc (As := [.int x]) (rest := [.int 0, .ref o]) (E := rn_IO) 1 hx hb hml hown hts hG3 hE hS (x_outerOf_r l hfl hV hC hno _) gL_outerOf_X4_outerOf rfl ⟨rfl, rfl⟩ (by decide +kernel) ⟨Nat.le_of_ble_eq_true rfl, Nat.le_of_ble_eq_true rfl⟩ hF (hF _ _ hC.1.1) rfl rfl hl.1 rfl (Nat.le_of_ble_eq_true rfl) ⟨Nat.le_of_ble_eq_true rfl, Nat.le_of_ble_eq_true rfl⟩ dL_outerOf_4 [] ⟨0, 9, 12, 13⟩ [] htab (fun z hz => nomatch hz) (by decide) (by decide) (hts _ (by decide +kernel)) (by decide) (fun q9 H h1 h2 hS => ?_)
  refine lv_astore_n (lv' := [(3, .ref q9), (0, .ref h0), (1, .int x), (2, .ref o)]) hx hb dL_outerOf_12 rfl hl (by decide) rfl (fun ls hl => ?_)
  refine lv_iconst (v := 1) hx hb dL_outerOf_13 (by decide) ?_
  have hat8 := hat9.kept (h2 _ hat9.lt)
  have hF8 := hF.kept (fun q hq => h2 q (hF.lt hq))
  exact rn_Wiret hx hb hr rfl hlocks hS (by decide) (by decide) rfl ⟨rn_P_mk hV hC hF8 (fun x hx => Or.inl hx), g, fun h => absurd h (by decide), hat8⟩ dL_outerOf_14

set_option maxHeartbeats 4000000 in
set_option maxRecDepth 100000 in
theorem l_outerOf_o (l : Launch) {D : va_G} {cR cP cF cL : ClassId} {h0 aR aP aF : Nat} {ra pa fa : Nat → Nat} {hd : Nat → Option Nat} {dh : Option Nat} {f : rn_T} {σ : rn_St} (hV : rn_V σ) (hC : rn_CI cR cP cF h0 aR aP aF ra pa fa hd dh f σ) {o : Nat} {g : Nat → Int64} (hfo : f o = none) {i : Nat} (hi0 : i < σ.sn) (sz : Nat) : rn_LT l yL_outerOf wsL_outerOf ({ frames := 8, cells := 1, slots := 6, locals := 140 } : Room) D (rn_tyl cR cP cF cL) ((rn_LB D f o cL g)) [.ref h0, .int (nI i), .ref o] (some (.int 0)) (rn_LP D cR cP cF h0 f sz σ o cL 0 (rn_enc (rn_nx σ i))) (rn_LA f sz o) 1 6 sz := by
  refine rn_LT.ofW (hh := [(0, 9, 12, 13)]) (cc := cL_outerOf) (maxL := 4) (ret := (some .int)) (by decide) rfl (Nat.le_of_ble_eq_true rfl) (fun p e s m below meth c ls hx hb hr hml hts hown hlocks hsz hF9 hG hE htab hS hl => ?_)
  have hl : lv_has ls 4 [(0, .ref h0), (1, .int (nI i)), (2, .ref o)] := hl
  subst hsz
  obtain ⟨hF, hat9⟩ := hF9
  have hG3 : rn_G D (rn_tys cR cP cF) s := ⟨hG.1.sub [0, 1, 2] rfl, hG.2⟩
  refine lv_aload_n hx hb dL_outerOf_0 rfl (lv_at hl 2 rfl) ?_
  refine lv_iconst (v := 0) hx hb dL_outerOf_1 (by decide) ?_
  refine lv_aload_n hx hb dL_outerOf_2 rfl (lv_at hl 0 rfl) ?_
  refine lv_iload_n hx hb dL_outerOf_3 rfl (lv_at hl 1 rfl) ?_
  refine rn_cV (As := [.int (nI i)]) (rest := [.int 0, .ref o]) 1 hx hb hml hown hts hG3 (c_outerOf l hV hC hi0) gL_outerOf_X4_outerOf rfl ⟨rfl, rfl⟩ (by decide +kernel) ⟨Nat.le_of_ble_eq_true rfl, Nat.le_of_ble_eq_true rfl⟩ hF (hF _ _ hC.1.1) rfl rfl hl.1 rfl (Nat.le_of_ble_eq_true rfl) ⟨Nat.zero_le _, Nat.zero_le _⟩ dL_outerOf_4 ?_
  have hat8 := hat9
  have hP1 : rn_P D cR cP cF h0 f s.heap.size σ s.heap := rn_P_mk hV hC hF (fun x hx => Or.inl hx)
  refine W.eq (g2 := F0 m 7 ls [.int (rn_enc (rn_nx σ i)), .int 0, .ref o]) rfl ?_
  refine lv_i2l hx hb dL_outerOf_7 rfl ?_
  refine rn_last (A := (rn_LA f s.heap.size o)) hx hb hG hS (Or.inl rfl) hat8 3 rfl dL_outerOf_8 (fun H locs hat hz ho hS => ?_)
  refine lv_goto (tgt := 15) hx hb dL_outerOf_9 (by decide) ?_
  refine lv_iconst (v := 0) hx hb dL_outerOf_15 (by decide) ?_
  exact rn_Wiret hx hb hr rfl hlocks hS (by decide) (by decide) rfl ⟨hP1.out ho hfo hat9.lt, _, fun _ => pk_uLs, hat⟩ dL_outerOf_16

set_option maxHeartbeats 4000000 in
set_option maxRecDepth 100000 in
theorem l_leadsTo_r (l : Launch) (hfl : l.stackTraces = false) {D : va_G} {cR cP cF cL : ClassId} {h0 aR aP aF : Nat} {ra pa fa : Nat → Nat} {hd : Nat → Option Nat} {dh : Option Nat} {f : rn_T} {σ : rn_St} (hV : rn_V σ) (hC : rn_CI cR cP cF h0 aR aP aF ra pa fa hd dh f σ) {o : Nat} {g : Nat → Int64} (hfo : f o = none) {x e1 : Int32} (hno : ¬ ∃ i, i < σ.sn ∧ x = nI i) (sz : Nat) : rn_LT l yL_leadsTo wsL_leadsTo ({ frames := 8, cells := 1, slots := 6, locals := 140 } : Room) D (rn_tyl cR cP cF cL) ((rn_LB D f o cL g)) [.ref h0, .int x, .int e1, .ref o] (some (.int 1)) (rn_LP D cR cP cF h0 f sz σ o cL 1 0) (rn_LA f sz o) 1 6 sz := by
  refine rn_LT.ofW (hh := [(0, 10, 13, 13), (0, 10, 17, 21)]) (cc := cL_leadsTo) (maxL := 5) (ret := (some .int)) (by decide) rfl (Nat.le_of_ble_eq_true rfl) (fun p e s m below meth c ls hx hb hr hml hts hown hlocks hsz hF9 hG hE htab hS hl => ?_)
  have hl : lv_has ls 5 [(0, .ref h0), (1, .int x), (2, .int e1), (3, .ref o)] := hl
  subst hsz
  obtain ⟨hF, hat9⟩ := hF9
  have hG3 : rn_G D (rn_tys cR cP cF) s := ⟨hG.1.sub [0, 1, 2] rfl, hG.2⟩
  refine lv_aload_n hx hb dL_leadsTo_0 rfl (lv_at hl 3 rfl) ?_
  refine lv_iconst (v := 0) hx hb dL_leadsTo_1 (by decide) ?_
  refine lv_aload_n hx hb dL_leadsTo_2 rfl (lv_at hl 0 rfl) ?_
  refine lv_iload_n hx hb dL_leadsTo_3 rfl (lv_at hl 1 rfl) ?_
  refine lv_iload_n hx hb dL_leadsTo_4 rfl (lv_at hl 2 rfl) ?_
  refine rn_xVc (As := [.int x, .int e1]) (rest := [.int 0, .ref o]) (E := rn_IO) 2 hx hb hml hown hts hG3 hE hS (x_leadsTo_r l hfl hV hC hno _) gL_leadsTo_X4_leadsTo rfl ⟨rfl, rfl⟩ (by decide +kernel) ⟨Nat.le_of_ble_eq_true rfl, Nat.le_of_ble_eq_true rfl⟩ hF (hF _ _ hC.1.1) rfl rfl hl.1 rfl (Nat.le_of_ble_eq_true rfl) ⟨Nat.le_of_ble_eq_true rfl, Nat.le_of_ble_eq_true rfl⟩ dL_leadsTo_5 [] ⟨0, 10, 13, 13⟩ [⟨0, 10, 17, 21⟩] htab (fun z hz => nomatch hz) (by decide) (by decide) (hts _ (by decide +kernel)) (by decide) (fun q9 H h1 h2 hS => ?_)
  refine lv_astore (lv' := [(4, .ref q9), (0, .ref h0), (1, .int x), (2, .int e1), (3, .ref o)]) hx hb dL_leadsTo_13 hl (by decide) rfl (fun ls hl => ?_)
  refine lv_iconst (v := 1) hx hb dL_leadsTo_15 (by decide) ?_
  have hat8 := hat9.kept (h2 _ hat9.lt)
  have hF8 := hF.kept (fun q hq => h2 q (hF.lt hq))
  exact rn_Wiret hx hb hr rfl hlocks hS (by decide) (by decide) rfl ⟨rn_P_mk hV hC hF8 (fun x hx => Or.inl hx), g, fun h => absurd h (by decide), hat8⟩ dL_leadsTo_16

set_option maxHeartbeats 4000000 in
set_option maxRecDepth 100000 in
theorem l_leadsTo_n (l : Launch) (hfl : l.stackTraces = false) {D : va_G} {cR cP cF cL : ClassId} {h0 aR aP aF : Nat} {ra pa fa : Nat → Nat} {hd : Nat → Option Nat} {dh : Option Nat} {f : rn_T} {σ : rn_St} (hV : rn_V σ) (hC : rn_CI cR cP cF h0 aR aP aF ra pa fa hd dh f σ) {o : Nat} {g : Nat → Int64} (hfo : f o = none) {i : Nat} (hi0 : i < σ.sn) {x : Int32} (hbad : x < 0 ∨ nI 998 < x) (sz : Nat) : rn_LT l yL_leadsTo wsL_leadsTo ({ frames := 8, cells := 1, slots := 6, locals := 140 } : Room) D (rn_tyl cR cP cF cL) ((rn_LB D f o cL g)) [.ref h0, .int (nI i), .int x, .ref o] (some (.int 2)) (rn_LP D cR cP cF h0 f sz σ o cL 2 0) (rn_LA f sz o) 1 6 sz := by
  refine rn_LT.ofW (hh := [(0, 10, 13, 13), (0, 10, 17, 21)]) (cc := cL_leadsTo) (maxL := 5) (ret := (some .int)) (by decide) rfl (Nat.le_of_ble_eq_true rfl) (fun p e s m below meth c ls hx hb hr hml hts hown hlocks hsz hF9 hG hE htab hS hl => ?_)
  have hl : lv_has ls 5 [(0, .ref h0), (1, .int (nI i)), (2, .int x), (3, .ref o)] := hl
  subst hsz
  obtain ⟨hF, hat9⟩ := hF9
  have hG3 : rn_G D (rn_tys cR cP cF) s := ⟨hG.1.sub [0, 1, 2] rfl, hG.2⟩
  refine lv_aload_n hx hb dL_leadsTo_0 rfl (lv_at hl 3 rfl) ?_
  refine lv_iconst (v := 0) hx hb dL_leadsTo_1 (by decide) ?_
  refine lv_aload_n hx hb dL_leadsTo_2 rfl (lv_at hl 0 rfl) ?_
  refine lv_iload_n hx hb dL_leadsTo_3 rfl (lv_at hl 1 rfl) ?_
  refine lv_iload_n hx hb dL_leadsTo_4 rfl (lv_at hl 2 rfl) ?_
  refine rn_xVc (As := [.int (nI i), .int x]) (rest := [.int 0, .ref o]) (E := rn_IA) 2 hx hb hml hown hts hG3 hE hS (x_leadsTo_n l hfl hV hC hi0 hbad _) gL_leadsTo_X4_leadsTo rfl ⟨rfl, rfl⟩ (by decide +kernel) ⟨Nat.le_of_ble_eq_true rfl, Nat.le_of_ble_eq_true rfl⟩ hF (hF _ _ hC.1.1) rfl rfl hl.1 rfl (Nat.le_of_ble_eq_true rfl) ⟨Nat.le_of_ble_eq_true rfl, Nat.le_of_ble_eq_true rfl⟩ dL_leadsTo_5 [⟨0, 10, 13, 13⟩] ⟨0, 10, 17, 21⟩ [] htab (fun z hz => by rw [List.mem_singleton.mp hz]; exact Or.inr ⟨(by decide : 13 ≠ 0), rn_IO, hts _ (by decide +kernel), hE.2.2.1 (rn_IA, rn_IO) (by decide)⟩) (by decide) (by decide) (hts _ (by decide +kernel)) (by decide) (fun q9 H h1 h2 hS => ?_)
  refine lv_astore (lv' := [(4, .ref q9), (0, .ref h0), (1, .int (nI i)), (2, .int x), (3, .ref o)]) hx hb dL_leadsTo_17 hl (by decide) rfl (fun ls hl => ?_)
  refine lv_iconst (v := 2) hx hb dL_leadsTo_19 (by decide) ?_
  have hat8 := hat9.kept (h2 _ hat9.lt)
  have hF8 := hF.kept (fun q hq => h2 q (hF.lt hq))
  exact rn_Wiret hx hb hr rfl hlocks hS (by decide) (by decide) rfl ⟨rn_P_mk hV hC hF8 (fun x hx => Or.inl hx), g, fun h => absurd h (by decide), hat8⟩ dL_leadsTo_20

set_option maxHeartbeats 4000000 in
set_option maxRecDepth 100000 in
theorem l_leadsTo_o (l : Launch) {D : va_G} {cR cP cF cL : ClassId} {h0 aR aP aF : Nat} {ra pa fa : Nat → Nat} {hd : Nat → Option Nat} {dh : Option Nat} {f : rn_T} {σ : rn_St} (hV : rn_V σ) (hC : rn_CI cR cP cF h0 aR aP aF ra pa fa hd dh f σ) {o : Nat} {g : Nat → Int64} (hfo : f o = none) {i x : Nat} (hi0 : i < σ.sn) (hx0 : x ≤ 998) (sz : Nat) : rn_LT l yL_leadsTo wsL_leadsTo ({ frames := 8, cells := 1, slots := 6, locals := 140 } : Room) D (rn_tyl cR cP cF cL) ((rn_LB D f o cL g)) [.ref h0, .int (nI i), .int (nI x), .ref o] (some (.int 0)) (rn_LP D cR cP cF h0 f sz σ o cL 0 (rn_enc (rn_lead σ i x))) (rn_LA f sz o) 1 6 sz := by
  refine rn_LT.ofW (hh := [(0, 10, 13, 13), (0, 10, 17, 21)]) (cc := cL_leadsTo) (maxL := 5) (ret := (some .int)) (by decide) rfl (Nat.le_of_ble_eq_true rfl) (fun p e s m below meth c ls hx hb hr hml hts hown hlocks hsz hF9 hG hE htab hS hl => ?_)
  have hl : lv_has ls 5 [(0, .ref h0), (1, .int (nI i)), (2, .int (nI x)), (3, .ref o)] := hl
  subst hsz
  obtain ⟨hF, hat9⟩ := hF9
  have hG3 : rn_G D (rn_tys cR cP cF) s := ⟨hG.1.sub [0, 1, 2] rfl, hG.2⟩
  refine lv_aload_n hx hb dL_leadsTo_0 rfl (lv_at hl 3 rfl) ?_
  refine lv_iconst (v := 0) hx hb dL_leadsTo_1 (by decide) ?_
  refine lv_aload_n hx hb dL_leadsTo_2 rfl (lv_at hl 0 rfl) ?_
  refine lv_iload_n hx hb dL_leadsTo_3 rfl (lv_at hl 1 rfl) ?_
  refine lv_iload_n hx hb dL_leadsTo_4 rfl (lv_at hl 2 rfl) ?_
  refine rn_cV (As := [.int (nI i), .int (nI x)]) (rest := [.int 0, .ref o]) 2 hx hb hml hown hts hG3 (c_leadsTo l hV hC hi0 hx0) gL_leadsTo_X4_leadsTo rfl ⟨rfl, rfl⟩ (by decide +kernel) ⟨Nat.le_of_ble_eq_true rfl, Nat.le_of_ble_eq_true rfl⟩ hF (hF _ _ hC.1.1) rfl rfl hl.1 rfl (Nat.le_of_ble_eq_true rfl) ⟨Nat.zero_le _, Nat.zero_le _⟩ dL_leadsTo_5 ?_
  have hat8 := hat9
  have hP1 : rn_P D cR cP cF h0 f s.heap.size σ s.heap := rn_P_mk hV hC hF (fun x hx => Or.inl hx)
  refine W.eq (g2 := F0 m 8 ls [.int (rn_enc (rn_lead σ i x)), .int 0, .ref o]) rfl ?_
  refine lv_i2l hx hb dL_leadsTo_8 rfl ?_
  refine rn_last (A := (rn_LA f s.heap.size o)) hx hb hG hS (Or.inl rfl) hat8 3 rfl dL_leadsTo_9 (fun H locs hat hz ho hS => ?_)
  refine lv_goto (tgt := 21) hx hb dL_leadsTo_10 (by decide) ?_
  refine lv_iconst (v := 0) hx hb dL_leadsTo_21 (by decide) ?_
  exact rn_Wiret hx hb hr rfl hlocks hS (by decide) (by decide) rfl ⟨hP1.out ho hfo hat9.lt, _, fun _ => pk_uLs, hat⟩ dL_leadsTo_22

set_option maxHeartbeats 4000000 in
set_option maxRecDepth 100000 in
theorem l_seenAs_r (l : Launch) (hfl : l.stackTraces = false) {D : va_G} {cR cP cF cL : ClassId} {h0 aR aP aF : Nat} {ra pa fa : Nat → Nat} {hd : Nat → Option Nat} {dh : Option Nat} {f : rn_T} {σ : rn_St} (hV : rn_V σ) (hC : rn_CI cR cP cF h0 aR aP aF ra pa fa hd dh f σ) {o : Nat} {g : Nat → Int64} (hfo : f o = none) {x e1 : Int32} (hno : ¬ ∃ i, i < σ.sn ∧ x = nI i) (sz : Nat) : rn_LT l yL_seenAs wsL_seenAs ({ frames := 8, cells := 1, slots := 6, locals := 140 } : Room) D (rn_tyl cR cP cF cL) ((rn_LB D f o cL g)) [.ref h0, .int x, .int e1, .ref o] (some (.int 1)) (rn_LP D cR cP cF h0 f sz σ o cL 1 0) (rn_LA f sz o) 1 6 sz := by
  refine rn_LT.ofW (hh := [(0, 10, 13, 13), (0, 10, 17, 21)]) (cc := cL_seenAs) (maxL := 5) (ret := (some .int)) (by decide) rfl (Nat.le_of_ble_eq_true rfl) (fun p e s m below meth c ls hx hb hr hml hts hown hlocks hsz hF9 hG hE htab hS hl => ?_)
  have hl : lv_has ls 5 [(0, .ref h0), (1, .int x), (2, .int e1), (3, .ref o)] := hl
  subst hsz
  obtain ⟨hF, hat9⟩ := hF9
  have hG3 : rn_G D (rn_tys cR cP cF) s := ⟨hG.1.sub [0, 1, 2] rfl, hG.2⟩
  refine lv_aload_n hx hb dL_seenAs_0 rfl (lv_at hl 3 rfl) ?_
  refine lv_iconst (v := 0) hx hb dL_seenAs_1 (by decide) ?_
  refine lv_aload_n hx hb dL_seenAs_2 rfl (lv_at hl 0 rfl) ?_
  refine lv_iload_n hx hb dL_seenAs_3 rfl (lv_at hl 1 rfl) ?_
  refine lv_iload_n hx hb dL_seenAs_4 rfl (lv_at hl 2 rfl) ?_
  refine rn_xVc (As := [.int x, .int e1]) (rest := [.int 0, .ref o]) (E := rn_IO) 2 hx hb hml hown hts hG3 hE hS (x_seenAs_r l hfl hV hC hno _) gL_seenAs_X4_seenAs rfl ⟨rfl, rfl⟩ (by decide +kernel) ⟨Nat.le_of_ble_eq_true rfl, Nat.le_of_ble_eq_true rfl⟩ hF (hF _ _ hC.1.1) rfl rfl hl.1 rfl (Nat.le_of_ble_eq_true rfl) ⟨Nat.le_of_ble_eq_true rfl, Nat.le_of_ble_eq_true rfl⟩ dL_seenAs_5 [] ⟨0, 10, 13, 13⟩ [⟨0, 10, 17, 21⟩] htab (fun z hz => nomatch hz) (by decide) (by decide) (hts _ (by decide +kernel)) (by decide) (fun q9 H h1 h2 hS => ?_)
  refine lv_astore (lv' := [(4, .ref q9), (0, .ref h0), (1, .int x), (2, .int e1), (3, .ref o)]) hx hb dL_seenAs_13 hl (by decide) rfl (fun ls hl => ?_)
  refine lv_iconst (v := 1) hx hb dL_seenAs_15 (by decide) ?_
  have hat8 := hat9.kept (h2 _ hat9.lt)
  have hF8 := hF.kept (fun q hq => h2 q (hF.lt hq))
  exact rn_Wiret hx hb hr rfl hlocks hS (by decide) (by decide) rfl ⟨rn_P_mk hV hC hF8 (fun x hx => Or.inl hx), g, fun h => absurd h (by decide), hat8⟩ dL_seenAs_16

set_option maxHeartbeats 4000000 in
set_option maxRecDepth 100000 in
theorem l_seenAs_n (l : Launch) (hfl : l.stackTraces = false) {D : va_G} {cR cP cF cL : ClassId} {h0 aR aP aF : Nat} {ra pa fa : Nat → Nat} {hd : Nat → Option Nat} {dh : Option Nat} {f : rn_T} {σ : rn_St} (hV : rn_V σ) (hC : rn_CI cR cP cF h0 aR aP aF ra pa fa hd dh f σ) {o : Nat} {g : Nat → Int64} (hfo : f o = none) {i : Nat} (hi0 : i < σ.sn) {x : Int32} (hbad : x < 0 ∨ nI 998 < x) (sz : Nat) : rn_LT l yL_seenAs wsL_seenAs ({ frames := 8, cells := 1, slots := 6, locals := 140 } : Room) D (rn_tyl cR cP cF cL) ((rn_LB D f o cL g)) [.ref h0, .int (nI i), .int x, .ref o] (some (.int 2)) (rn_LP D cR cP cF h0 f sz σ o cL 2 0) (rn_LA f sz o) 1 6 sz := by
  refine rn_LT.ofW (hh := [(0, 10, 13, 13), (0, 10, 17, 21)]) (cc := cL_seenAs) (maxL := 5) (ret := (some .int)) (by decide) rfl (Nat.le_of_ble_eq_true rfl) (fun p e s m below meth c ls hx hb hr hml hts hown hlocks hsz hF9 hG hE htab hS hl => ?_)
  have hl : lv_has ls 5 [(0, .ref h0), (1, .int (nI i)), (2, .int x), (3, .ref o)] := hl
  subst hsz
  obtain ⟨hF, hat9⟩ := hF9
  have hG3 : rn_G D (rn_tys cR cP cF) s := ⟨hG.1.sub [0, 1, 2] rfl, hG.2⟩
  refine lv_aload_n hx hb dL_seenAs_0 rfl (lv_at hl 3 rfl) ?_
  refine lv_iconst (v := 0) hx hb dL_seenAs_1 (by decide) ?_
  refine lv_aload_n hx hb dL_seenAs_2 rfl (lv_at hl 0 rfl) ?_
  refine lv_iload_n hx hb dL_seenAs_3 rfl (lv_at hl 1 rfl) ?_
  refine lv_iload_n hx hb dL_seenAs_4 rfl (lv_at hl 2 rfl) ?_
  refine rn_xVc (As := [.int (nI i), .int x]) (rest := [.int 0, .ref o]) (E := rn_IA) 2 hx hb hml hown hts hG3 hE hS (x_seenAs_n l hfl hV hC hi0 hbad _) gL_seenAs_X4_seenAs rfl ⟨rfl, rfl⟩ (by decide +kernel) ⟨Nat.le_of_ble_eq_true rfl, Nat.le_of_ble_eq_true rfl⟩ hF (hF _ _ hC.1.1) rfl rfl hl.1 rfl (Nat.le_of_ble_eq_true rfl) ⟨Nat.le_of_ble_eq_true rfl, Nat.le_of_ble_eq_true rfl⟩ dL_seenAs_5 [⟨0, 10, 13, 13⟩] ⟨0, 10, 17, 21⟩ [] htab (fun z hz => by rw [List.mem_singleton.mp hz]; exact Or.inr ⟨(by decide : 13 ≠ 0), rn_IO, hts _ (by decide +kernel), hE.2.2.1 (rn_IA, rn_IO) (by decide)⟩) (by decide) (by decide) (hts _ (by decide +kernel)) (by decide) (fun q9 H h1 h2 hS => ?_)
  refine lv_astore (lv' := [(4, .ref q9), (0, .ref h0), (1, .int (nI i)), (2, .int x), (3, .ref o)]) hx hb dL_seenAs_17 hl (by decide) rfl (fun ls hl => ?_)
  refine lv_iconst (v := 2) hx hb dL_seenAs_19 (by decide) ?_
  have hat8 := hat9.kept (h2 _ hat9.lt)
  have hF8 := hF.kept (fun q hq => h2 q (hF.lt hq))
  exact rn_Wiret hx hb hr rfl hlocks hS (by decide) (by decide) rfl ⟨rn_P_mk hV hC hF8 (fun x hx => Or.inl hx), g, fun h => absurd h (by decide), hat8⟩ dL_seenAs_20

set_option maxHeartbeats 4000000 in
set_option maxRecDepth 100000 in
theorem l_seenAs_o (l : Launch) {D : va_G} {cR cP cF cL : ClassId} {h0 aR aP aF : Nat} {ra pa fa : Nat → Nat} {hd : Nat → Option Nat} {dh : Option Nat} {f : rn_T} {σ : rn_St} (hV : rn_V σ) (hC : rn_CI cR cP cF h0 aR aP aF ra pa fa hd dh f σ) {o : Nat} {g : Nat → Int64} (hfo : f o = none) {i x : Nat} (hi0 : i < σ.sn) (hx0 : x ≤ 998) (sz : Nat) : rn_LT l yL_seenAs wsL_seenAs ({ frames := 8, cells := 1, slots := 6, locals := 140 } : Room) D (rn_tyl cR cP cF cL) ((rn_LB D f o cL g)) [.ref h0, .int (nI i), .int (nI x), .ref o] (some (.int 0)) (rn_LP D cR cP cF h0 f sz σ o cL 0 (nI (rn_see σ i x))) (rn_LA f sz o) 1 6 sz := by
  refine rn_LT.ofW (hh := [(0, 10, 13, 13), (0, 10, 17, 21)]) (cc := cL_seenAs) (maxL := 5) (ret := (some .int)) (by decide) rfl (Nat.le_of_ble_eq_true rfl) (fun p e s m below meth c ls hx hb hr hml hts hown hlocks hsz hF9 hG hE htab hS hl => ?_)
  have hl : lv_has ls 5 [(0, .ref h0), (1, .int (nI i)), (2, .int (nI x)), (3, .ref o)] := hl
  subst hsz
  obtain ⟨hF, hat9⟩ := hF9
  have hG3 : rn_G D (rn_tys cR cP cF) s := ⟨hG.1.sub [0, 1, 2] rfl, hG.2⟩
  refine lv_aload_n hx hb dL_seenAs_0 rfl (lv_at hl 3 rfl) ?_
  refine lv_iconst (v := 0) hx hb dL_seenAs_1 (by decide) ?_
  refine lv_aload_n hx hb dL_seenAs_2 rfl (lv_at hl 0 rfl) ?_
  refine lv_iload_n hx hb dL_seenAs_3 rfl (lv_at hl 1 rfl) ?_
  refine lv_iload_n hx hb dL_seenAs_4 rfl (lv_at hl 2 rfl) ?_
  refine rn_cV (As := [.int (nI i), .int (nI x)]) (rest := [.int 0, .ref o]) 2 hx hb hml hown hts hG3 (c_seenAs l hV hC hi0 hx0) gL_seenAs_X4_seenAs rfl ⟨rfl, rfl⟩ (by decide +kernel) ⟨Nat.le_of_ble_eq_true rfl, Nat.le_of_ble_eq_true rfl⟩ hF (hF _ _ hC.1.1) rfl rfl hl.1 rfl (Nat.le_of_ble_eq_true rfl) ⟨Nat.zero_le _, Nat.zero_le _⟩ dL_seenAs_5 ?_
  have hat8 := hat9
  have hP1 : rn_P D cR cP cF h0 f s.heap.size σ s.heap := rn_P_mk hV hC hF (fun x hx => Or.inl hx)
  refine W.eq (g2 := F0 m 8 ls [.int (nI (rn_see σ i x)), .int 0, .ref o]) rfl ?_
  refine lv_i2l hx hb dL_seenAs_8 rfl ?_
  refine rn_last (A := (rn_LA f s.heap.size o)) hx hb hG hS (Or.inl rfl) hat8 3 rfl dL_seenAs_9 (fun H locs hat hz ho hS => ?_)
  refine lv_goto (tgt := 21) hx hb dL_seenAs_10 (by decide) ?_
  refine lv_iconst (v := 0) hx hb dL_seenAs_21 (by decide) ?_
  exact rn_Wiret hx hb hr rfl hlocks hS (by decide) (by decide) rfl ⟨hP1.out ho hfo hat9.lt, _, fun _ => pk_uLs, hat⟩ dL_seenAs_22

set_option maxHeartbeats 4000000 in
set_option maxRecDepth 100000 in
theorem l_seenByLeading_r (l : Launch) (hfl : l.stackTraces = false) {D : va_G} {cR cP cF cL : ClassId} {h0 aR aP aF : Nat} {ra pa fa : Nat → Nat} {hd : Nat → Option Nat} {dh : Option Nat} {f : rn_T} {σ : rn_St} (hV : rn_V σ) (hC : rn_CI cR cP cF h0 aR aP aF ra pa fa hd dh f σ) {o : Nat} {g : Nat → Int64} (hfo : f o = none) {x e1 : Int32} (hno : ¬ ∃ i, i < σ.sn ∧ x = nI i) (sz : Nat) : rn_LT l yL_seenByLeading wsL_seenByLeading ({ frames := 8, cells := 1, slots := 6, locals := 140 } : Room) D (rn_tyl cR cP cF cL) ((rn_LB D f o cL g)) [.ref h0, .int x, .int e1, .ref o] (some (.int 1)) (rn_LP D cR cP cF h0 f sz σ o cL 1 0) (rn_LA f sz o) 1 6 sz := by
  refine rn_LT.ofW (hh := [(0, 10, 13, 13), (0, 10, 17, 21)]) (cc := cL_seenByLeading) (maxL := 5) (ret := (some .int)) (by decide) rfl (Nat.le_of_ble_eq_true rfl) (fun p e s m below meth c ls hx hb hr hml hts hown hlocks hsz hF9 hG hE htab hS hl => ?_)
  have hl : lv_has ls 5 [(0, .ref h0), (1, .int x), (2, .int e1), (3, .ref o)] := hl
  subst hsz
  obtain ⟨hF, hat9⟩ := hF9
  have hG3 : rn_G D (rn_tys cR cP cF) s := ⟨hG.1.sub [0, 1, 2] rfl, hG.2⟩
  refine lv_aload_n hx hb dL_seenByLeading_0 rfl (lv_at hl 3 rfl) ?_
  refine lv_iconst (v := 0) hx hb dL_seenByLeading_1 (by decide) ?_
  refine lv_aload_n hx hb dL_seenByLeading_2 rfl (lv_at hl 0 rfl) ?_
  refine lv_iload_n hx hb dL_seenByLeading_3 rfl (lv_at hl 1 rfl) ?_
  refine lv_iload_n hx hb dL_seenByLeading_4 rfl (lv_at hl 2 rfl) ?_
  refine rn_xVc (As := [.int x, .int e1]) (rest := [.int 0, .ref o]) (E := rn_IO) 2 hx hb hml hown hts hG3 hE hS (x_seenByLeading_r l hfl hV hC hno _) gL_seenByLeading_X4_seenByLeading rfl ⟨rfl, rfl⟩ (by decide +kernel) ⟨Nat.le_of_ble_eq_true rfl, Nat.le_of_ble_eq_true rfl⟩ hF (hF _ _ hC.1.1) rfl rfl hl.1 rfl (Nat.le_of_ble_eq_true rfl) ⟨Nat.le_of_ble_eq_true rfl, Nat.le_of_ble_eq_true rfl⟩ dL_seenByLeading_5 [] ⟨0, 10, 13, 13⟩ [⟨0, 10, 17, 21⟩] htab (fun z hz => nomatch hz) (by decide) (by decide) (hts _ (by decide +kernel)) (by decide) (fun q9 H h1 h2 hS => ?_)
  refine lv_astore (lv' := [(4, .ref q9), (0, .ref h0), (1, .int x), (2, .int e1), (3, .ref o)]) hx hb dL_seenByLeading_13 hl (by decide) rfl (fun ls hl => ?_)
  refine lv_iconst (v := 1) hx hb dL_seenByLeading_15 (by decide) ?_
  have hat8 := hat9.kept (h2 _ hat9.lt)
  have hF8 := hF.kept (fun q hq => h2 q (hF.lt hq))
  exact rn_Wiret hx hb hr rfl hlocks hS (by decide) (by decide) rfl ⟨rn_P_mk hV hC hF8 (fun x hx => Or.inl hx), g, fun h => absurd h (by decide), hat8⟩ dL_seenByLeading_16

set_option maxHeartbeats 4000000 in
set_option maxRecDepth 100000 in
theorem l_seenByLeading_n (l : Launch) (hfl : l.stackTraces = false) {D : va_G} {cR cP cF cL : ClassId} {h0 aR aP aF : Nat} {ra pa fa : Nat → Nat} {hd : Nat → Option Nat} {dh : Option Nat} {f : rn_T} {σ : rn_St} (hV : rn_V σ) (hC : rn_CI cR cP cF h0 aR aP aF ra pa fa hd dh f σ) {o : Nat} {g : Nat → Int64} (hfo : f o = none) {i : Nat} (hi0 : i < σ.sn) {x : Int32} (hbad : x < 0 ∨ nI 998 < x) (sz : Nat) : rn_LT l yL_seenByLeading wsL_seenByLeading ({ frames := 8, cells := 1, slots := 6, locals := 140 } : Room) D (rn_tyl cR cP cF cL) ((rn_LB D f o cL g)) [.ref h0, .int (nI i), .int x, .ref o] (some (.int 2)) (rn_LP D cR cP cF h0 f sz σ o cL 2 0) (rn_LA f sz o) 1 6 sz := by
  refine rn_LT.ofW (hh := [(0, 10, 13, 13), (0, 10, 17, 21)]) (cc := cL_seenByLeading) (maxL := 5) (ret := (some .int)) (by decide) rfl (Nat.le_of_ble_eq_true rfl) (fun p e s m below meth c ls hx hb hr hml hts hown hlocks hsz hF9 hG hE htab hS hl => ?_)
  have hl : lv_has ls 5 [(0, .ref h0), (1, .int (nI i)), (2, .int x), (3, .ref o)] := hl
  subst hsz
  obtain ⟨hF, hat9⟩ := hF9
  have hG3 : rn_G D (rn_tys cR cP cF) s := ⟨hG.1.sub [0, 1, 2] rfl, hG.2⟩
  refine lv_aload_n hx hb dL_seenByLeading_0 rfl (lv_at hl 3 rfl) ?_
  refine lv_iconst (v := 0) hx hb dL_seenByLeading_1 (by decide) ?_
  refine lv_aload_n hx hb dL_seenByLeading_2 rfl (lv_at hl 0 rfl) ?_
  refine lv_iload_n hx hb dL_seenByLeading_3 rfl (lv_at hl 1 rfl) ?_
  refine lv_iload_n hx hb dL_seenByLeading_4 rfl (lv_at hl 2 rfl) ?_
  refine rn_xVc (As := [.int (nI i), .int x]) (rest := [.int 0, .ref o]) (E := rn_IA) 2 hx hb hml hown hts hG3 hE hS (x_seenByLeading_n l hfl hV hC hi0 hbad _) gL_seenByLeading_X4_seenByLeading rfl ⟨rfl, rfl⟩ (by decide +kernel) ⟨Nat.le_of_ble_eq_true rfl, Nat.le_of_ble_eq_true rfl⟩ hF (hF _ _ hC.1.1) rfl rfl hl.1 rfl (Nat.le_of_ble_eq_true rfl) ⟨Nat.le_of_ble_eq_true rfl, Nat.le_of_ble_eq_true rfl⟩ dL_seenByLeading_5 [⟨0, 10, 13, 13⟩] ⟨0, 10, 17, 21⟩ [] htab (fun z hz => by rw [List.mem_singleton.mp hz]; exact Or.inr ⟨(by decide : 13 ≠ 0), rn_IO, hts _ (by decide +kernel), hE.2.2.1 (rn_IA, rn_IO) (by decide)⟩) (by decide) (by decide) (hts _ (by decide +kernel)) (by decide) (fun q9 H h1 h2 hS => ?_)
  refine lv_astore (lv' := [(4, .ref q9), (0, .ref h0), (1, .int (nI i)), (2, .int x), (3, .ref o)]) hx hb dL_seenByLeading_17 hl (by decide) rfl (fun ls hl => ?_)
  refine lv_iconst (v := 2) hx hb dL_seenByLeading_19 (by decide) ?_
  have hat8 := hat9.kept (h2 _ hat9.lt)
  have hF8 := hF.kept (fun q hq => h2 q (hF.lt hq))
  exact rn_Wiret hx hb hr rfl hlocks hS (by decide) (by decide) rfl ⟨rn_P_mk hV hC hF8 (fun x hx => Or.inl hx), g, fun h => absurd h (by decide), hat8⟩ dL_seenByLeading_20

set_option maxHeartbeats 4000000 in
set_option maxRecDepth 100000 in
theorem l_seenByLeading_o (l : Launch) {D : va_G} {cR cP cF cL : ClassId} {h0 aR aP aF : Nat} {ra pa fa : Nat → Nat} {hd : Nat → Option Nat} {dh : Option Nat} {f : rn_T} {σ : rn_St} (hV : rn_V σ) (hC : rn_CI cR cP cF h0 aR aP aF ra pa fa hd dh f σ) {o : Nat} {g : Nat → Int64} (hfo : f o = none) {i x : Nat} (hi0 : i < σ.sn) (hx0 : x ≤ 998) (sz : Nat) : rn_LT l yL_seenByLeading wsL_seenByLeading ({ frames := 8, cells := 1, slots := 6, locals := 140 } : Room) D (rn_tyl cR cP cF cL) ((rn_LB D f o cL g)) [.ref h0, .int (nI i), .int (nI x), .ref o] (some (.int 0)) (rn_LP D cR cP cF h0 f sz σ o cL 0 (nI (rn_see σ i x))) (rn_LA f sz o) 1 6 sz := by
  refine rn_LT.ofW (hh := [(0, 10, 13, 13), (0, 10, 17, 21)]) (cc := cL_seenByLeading) (maxL := 5) (ret := (some .int)) (by decide) rfl (Nat.le_of_ble_eq_true rfl) (fun p e s m below meth c ls hx hb hr hml hts hown hlocks hsz hF9 hG hE htab hS hl => ?_)
  have hl : lv_has ls 5 [(0, .ref h0), (1, .int (nI i)), (2, .int (nI x)), (3, .ref o)] := hl
  subst hsz
  obtain ⟨hF, hat9⟩ := hF9
  have hG3 : rn_G D (rn_tys cR cP cF) s := ⟨hG.1.sub [0, 1, 2] rfl, hG.2⟩
  refine lv_aload_n hx hb dL_seenByLeading_0 rfl (lv_at hl 3 rfl) ?_
  refine lv_iconst (v := 0) hx hb dL_seenByLeading_1 (by decide) ?_
  refine lv_aload_n hx hb dL_seenByLeading_2 rfl (lv_at hl 0 rfl) ?_
  refine lv_iload_n hx hb dL_seenByLeading_3 rfl (lv_at hl 1 rfl) ?_
  refine lv_iload_n hx hb dL_seenByLeading_4 rfl (lv_at hl 2 rfl) ?_
  refine rn_cV (As := [.int (nI i), .int (nI x)]) (rest := [.int 0, .ref o]) 2 hx hb hml hown hts hG3 (c_seenByLeading l hV hC hi0 hx0) gL_seenByLeading_X4_seenByLeading rfl ⟨rfl, rfl⟩ (by decide +kernel) ⟨Nat.le_of_ble_eq_true rfl, Nat.le_of_ble_eq_true rfl⟩ hF (hF _ _ hC.1.1) rfl rfl hl.1 rfl (Nat.le_of_ble_eq_true rfl) ⟨Nat.zero_le _, Nat.zero_le _⟩ dL_seenByLeading_5 ?_
  have hat8 := hat9
  have hP1 : rn_P D cR cP cF h0 f s.heap.size σ s.heap := rn_P_mk hV hC hF (fun x hx => Or.inl hx)
  refine W.eq (g2 := F0 m 8 ls [.int (nI (rn_see σ i x)), .int 0, .ref o]) rfl ?_
  refine lv_i2l hx hb dL_seenByLeading_8 rfl ?_
  refine rn_last (A := (rn_LA f s.heap.size o)) hx hb hG hS (Or.inl rfl) hat8 3 rfl dL_seenByLeading_9 (fun H locs hat hz ho hS => ?_)
  refine lv_goto (tgt := 21) hx hb dL_seenByLeading_10 (by decide) ?_
  refine lv_iconst (v := 0) hx hb dL_seenByLeading_21 (by decide) ?_
  exact rn_Wiret hx hb hr rfl hlocks hS (by decide) (by decide) rfl ⟨hP1.out ho hfo hat9.lt, _, fun _ => pk_uLs, hat⟩ dL_seenByLeading_22

set_option maxHeartbeats 4000000 in
set_option maxRecDepth 100000 in
theorem l_fork_p (l : Launch) (hfl : l.stackTraces = false) {D : va_G} {cR cP cF cL : ClassId} {h0 aR aP aF : Nat} {ra pa fa : Nat → Nat} {hd : Nat → Option Nat} {dh : Option Nat} {f : rn_T} {σ : rn_St} (hV : rn_V σ) (hC : rn_CI cR cP cF h0 aR aP aF ra pa fa hd dh f σ) {o : Nat} {g : Nat → Int64} (hfo : f o = none) {x  : Int32} (hno : ¬ ∃ i, i < σ.pn ∧ x = nI i) (sz : Nat) : rn_LT l yL_fork wsL_fork ({ frames := 8, cells := 1, slots := 6, locals := 140 } : Room) D (rn_tyl cR cP cF cL) ((rn_LB D f o cL g)) [.ref h0, .int x, .ref o] (some (.int 1)) (rn_LP D cR cP cF h0 f sz σ o cL 1 0) (rn_LA f sz o) 1 6 sz := by
  refine rn_LT.ofW (hh := [(0, 9, 12, 13), (0, 9, 15, 15)]) (cc := cL_fork) (maxL := 4) (ret := (some .int)) (by decide) rfl (Nat.le_of_ble_eq_true rfl) (fun p e s m below meth c ls hx hb hr hml hts hown hlocks hsz hF9 hG hE htab hS hl => ?_)
  have hl : lv_has ls 4 [(0, .ref h0), (1, .int x), (2, .ref o)] := hl
  subst hsz
  obtain ⟨hF, hat9⟩ := hF9
  have hG3 : rn_G D (rn_tys cR cP cF) s := ⟨hG.1.sub [0, 1, 2] rfl, hG.2⟩
  refine lv_aload_n hx hb dL_fork_0 rfl (lv_at hl 2 rfl) ?_
  refine lv_iconst (v := 0) hx hb dL_fork_1 (by decide) ?_
  refine lv_aload_n hx hb dL_fork_2 rfl (lv_at hl 0 rfl) ?_
  refine lv_iload_n hx hb dL_fork_3 rfl (lv_at hl 1 rfl) ?_
  refine rn_xVc (As := [.int x]) (rest := [.int 0, .ref o]) (E := rn_IO) 1 hx hb hml hown hts hG3 hE hS (x_fork_p l hfl hV hC hno _) gL_fork_X4_fork rfl ⟨rfl, rfl⟩ (by decide +kernel) ⟨Nat.le_of_ble_eq_true rfl, Nat.le_of_ble_eq_true rfl⟩ hF (hF _ _ hC.1.1) rfl rfl hl.1 rfl (Nat.le_of_ble_eq_true rfl) ⟨Nat.le_of_ble_eq_true rfl, Nat.le_of_ble_eq_true rfl⟩ dL_fork_4 [] ⟨0, 9, 12, 13⟩ [⟨0, 9, 15, 15⟩] htab (fun z hz => nomatch hz) (by decide) (by decide) (hts _ (by decide +kernel)) (by decide) (fun q9 H h1 h2 hS => ?_)
  refine lv_astore_n (lv' := [(3, .ref q9), (0, .ref h0), (1, .int x), (2, .ref o)]) hx hb dL_fork_12 rfl hl (by decide) rfl (fun ls hl => ?_)
  refine lv_iconst (v := 1) hx hb dL_fork_13 (by decide) ?_
  have hat8 := hat9.kept (h2 _ hat9.lt)
  have hF8 := hF.kept (fun q hq => h2 q (hF.lt hq))
  exact rn_Wiret hx hb hr rfl hlocks hS (by decide) (by decide) rfl ⟨rn_P_mk hV hC hF8 (fun x hx => Or.inl hx), g, fun h => absurd h (by decide), hat8⟩ dL_fork_14

set_option maxHeartbeats 4000000 in
set_option maxRecDepth 100000 in
theorem l_fork_s (l : Launch) (hfl : l.stackTraces = false) {D : va_G} {cR cP cF cL : ClassId} {h0 aR aP aF : Nat} {ra pa fa : Nat → Nat} {hd : Nat → Option Nat} {dh : Option Nat} {f : rn_T} {σ : rn_St} (hV : rn_V σ) (hC : rn_CI cR cP cF h0 aR aP aF ra pa fa hd dh f σ) {o : Nat} {g : Nat → Int64} (hfo : f o = none) {j : Nat} (hj0 : j < σ.pn) (hfull : σ.pn = 12) (sz : Nat) : rn_LT l yL_fork wsL_fork ({ frames := 8, cells := 1, slots := 6, locals := 140 } : Room) D (rn_tyl cR cP cF cL) ((rn_LB D f o cL g)) [.ref h0, .int (nI j), .ref o] (some (.int 2)) (rn_LP D cR cP cF h0 f sz σ o cL 2 0) (rn_LA f sz o) 1 6 sz := by
  refine rn_LT.ofW (hh := [(0, 9, 12, 13), (0, 9, 15, 15)]) (cc := cL_fork) (maxL := 4) (ret := (some .int)) (by decide) rfl (Nat.le_of_ble_eq_true rfl) (fun p e s m below meth c ls hx hb hr hml hts hown hlocks hsz hF9 hG hE htab hS hl => ?_)
  have hl : lv_has ls 4 [(0, .ref h0), (1, .int (nI j)), (2, .ref o)] := hl
  subst hsz
  obtain ⟨hF, hat9⟩ := hF9
  have hG3 : rn_G D (rn_tys cR cP cF) s := ⟨hG.1.sub [0, 1, 2] rfl, hG.2⟩
  refine lv_aload_n hx hb dL_fork_0 rfl (lv_at hl 2 rfl) ?_
  refine lv_iconst (v := 0) hx hb dL_fork_1 (by decide) ?_
  refine lv_aload_n hx hb dL_fork_2 rfl (lv_at hl 0 rfl) ?_
  refine lv_iload_n hx hb dL_fork_3 rfl (lv_at hl 1 rfl) ?_
  refine rn_xVc (As := [.int (nI j)]) (rest := [.int 0, .ref o]) (E := rn_IS) 1 hx hb hml hown hts hG3 hE hS (x_fork_s l hfl hV hC hj0 hfull _) gL_fork_X4_fork rfl ⟨rfl, rfl⟩ (by decide +kernel) ⟨Nat.le_of_ble_eq_true rfl, Nat.le_of_ble_eq_true rfl⟩ hF (hF _ _ hC.1.1) rfl rfl hl.1 rfl (Nat.le_of_ble_eq_true rfl) ⟨Nat.le_of_ble_eq_true rfl, Nat.le_of_ble_eq_true rfl⟩ dL_fork_4 [⟨0, 9, 12, 13⟩] ⟨0, 9, 15, 15⟩ [] htab (fun z hz => by rw [List.mem_singleton.mp hz]; exact Or.inr ⟨(by decide : 13 ≠ 0), rn_IO, hts _ (by decide +kernel), hE.2.2.1 (rn_IS, rn_IO) (by decide)⟩) (by decide) (by decide) (hts _ (by decide +kernel)) (by decide) (fun q9 H h1 h2 hS => ?_)
  refine lv_astore_n (lv' := [(3, .ref q9), (0, .ref h0), (1, .int (nI j)), (2, .ref o)]) hx hb dL_fork_15 rfl hl (by decide) rfl (fun ls hl => ?_)
  refine lv_iconst (v := 2) hx hb dL_fork_16 (by decide) ?_
  have hat8 := hat9.kept (h2 _ hat9.lt)
  have hF8 := hF.kept (fun q hq => h2 q (hF.lt hq))
  exact rn_Wiret hx hb hr rfl hlocks hS (by decide) (by decide) rfl ⟨rn_P_mk hV hC hF8 (fun x hx => Or.inl hx), g, fun h => absurd h (by decide), hat8⟩ dL_fork_17

set_option maxHeartbeats 4000000 in
set_option maxRecDepth 100000 in
theorem l_fork_o (l : Launch) {D : va_G} {cR cP cF cL : ClassId} {h0 aR aP aF : Nat} {ra pa fa : Nat → Nat} {hd : Nat → Option Nat} {dh : Option Nat} {f : rn_T} {σ : rn_St} (hV : rn_V σ) (hC : rn_CI cR cP cF h0 aR aP aF ra pa fa hd dh f σ) {o : Nat} {g : Nat → Int64} (hfo : f o = none) {j : Nat} (hj0 : j < σ.pn) (hn0 : σ.pn < 12) (sz : Nat) : rn_LT l yL_fork wsL_fork ({ frames := 8, cells := 1, slots := 6, locals := 140 } : Room) D (rn_tyl cR cP cF cL) ((rn_LB D f o cL g)) [.ref h0, .int (nI j), .ref o] (some (.int 0)) (rn_LP D cR cP cF h0 f sz (rn_fork σ j) o cL 0 (nI σ.pn)) (rn_LA f sz o) 1 6 sz := by
  refine rn_LT.ofW (hh := [(0, 9, 12, 13), (0, 9, 15, 15)]) (cc := cL_fork) (maxL := 4) (ret := (some .int)) (by decide) rfl (Nat.le_of_ble_eq_true rfl) (fun p e s m below meth c ls hx hb hr hml hts hown hlocks hsz hF9 hG hE htab hS hl => ?_)
  have hl : lv_has ls 4 [(0, .ref h0), (1, .int (nI j)), (2, .ref o)] := hl
  subst hsz
  obtain ⟨hF, hat9⟩ := hF9
  have hG3 : rn_G D (rn_tys cR cP cF) s := ⟨hG.1.sub [0, 1, 2] rfl, hG.2⟩
  refine lv_aload_n hx hb dL_fork_0 rfl (lv_at hl 2 rfl) ?_
  refine lv_iconst (v := 0) hx hb dL_fork_1 (by decide) ?_
  refine lv_aload_n hx hb dL_fork_2 rfl (lv_at hl 0 rfl) ?_
  refine lv_iload_n hx hb dL_fork_3 rfl (lv_at hl 1 rfl) ?_
  refine rn_wV (As := [.int (nI j)]) (rest := [.int 0, .ref o]) 1 hx hb hml hown hts hG3 hS (w_fork l hV hC hj0 hn0 _) (fun q h => Or.inr h) gL_fork_X4_fork rfl ⟨rfl, rfl⟩ (by decide +kernel) ⟨Nat.le_of_ble_eq_true rfl, Nat.le_of_ble_eq_true rfl⟩ hF (hF _ _ hC.1.1) rfl rfl hl.1 rfl (Nat.le_of_ble_eq_true rfl) ⟨Nat.le_of_ble_eq_true rfl, Nat.le_of_ble_eq_true rfl⟩ dL_fork_4 (fun H locs hP1 hz hk hS => ?_)
  have hat8 := hat9.kept (hk _ hat9.lt (fun h => h.elim (fun h => h hfo) (fun h => absurd h (Nat.not_le.mpr hat9.lt))))
  refine W.eq (g2 := F0 m 7 ls [.int (nI σ.pn), .int 0, .ref o]) rfl ?_
  refine lv_i2l hx hb dL_fork_7 rfl ?_
  refine rn_last (A := (rn_LA f s.heap.size o)) hx hb hG hS (Or.inl rfl) hat8 3 rfl dL_fork_8 (fun H locs hat hz ho hS => ?_)
  refine lv_goto (tgt := 18) hx hb dL_fork_9 (by decide) ?_
  refine lv_iconst (v := 0) hx hb dL_fork_18 (by decide) ?_
  exact rn_Wiret hx hb hr rfl hlocks hS (by decide) (by decide) rfl ⟨hP1.out ho hfo hat9.lt, _, fun _ => pk_uLs, hat⟩ dL_fork_19

set_option maxHeartbeats 4000000 in
set_option maxRecDepth 100000 in
theorem l_drop_p (l : Launch) (hfl : l.stackTraces = false) {D : va_G} {cR cP cF cL : ClassId} {h0 aR aP aF : Nat} {ra pa fa : Nat → Nat} {hd : Nat → Option Nat} {dh : Option Nat} {f : rn_T} {σ : rn_St} (hV : rn_V σ) (hC : rn_CI cR cP cF h0 aR aP aF ra pa fa hd dh f σ) {o : Nat} {g : Nat → Int64} (hfo : f o = none) {x e1 : Int32} (hno : ¬ ∃ i, i < σ.pn ∧ x = nI i) (sz : Nat) : rn_LT l yL_drop wsL_drop ({ frames := 8, cells := 1, slots := 6, locals := 140 } : Room) D (rn_tyl cR cP cF cL) ((rn_LB D f o cL g)) [.ref h0, .int x, .int e1, .ref o] (some (.int 1)) (rn_LP D cR cP cF h0 f sz σ o cL 1 0) (rn_LA f sz o) 1 6 sz := by
  refine rn_LT.ofW (hh := [(0, 10, 13, 13), (0, 10, 17, 21)]) (cc := cL_drop) (maxL := 5) (ret := (some .int)) (by decide) rfl (Nat.le_of_ble_eq_true rfl) (fun p e s m below meth c ls hx hb hr hml hts hown hlocks hsz hF9 hG hE htab hS hl => ?_)
  have hl : lv_has ls 5 [(0, .ref h0), (1, .int x), (2, .int e1), (3, .ref o)] := hl
  subst hsz
  obtain ⟨hF, hat9⟩ := hF9
  have hG3 : rn_G D (rn_tys cR cP cF) s := ⟨hG.1.sub [0, 1, 2] rfl, hG.2⟩
  refine lv_aload_n hx hb dL_drop_0 rfl (lv_at hl 3 rfl) ?_
  refine lv_iconst (v := 0) hx hb dL_drop_1 (by decide) ?_
  refine lv_aload_n hx hb dL_drop_2 rfl (lv_at hl 0 rfl) ?_
  refine lv_iload_n hx hb dL_drop_3 rfl (lv_at hl 1 rfl) ?_
  refine lv_iload_n hx hb dL_drop_4 rfl (lv_at hl 2 rfl) ?_
  refine rn_xVc (As := [.int x, .int e1]) (rest := [.int 0, .ref o]) (E := rn_IO) 2 hx hb hml hown hts hG3 hE hS (x_drop_p l hfl hV hC hno _) gL_drop_X4_drop rfl ⟨rfl, rfl⟩ (by decide +kernel) ⟨Nat.le_of_ble_eq_true rfl, Nat.le_of_ble_eq_true rfl⟩ hF (hF _ _ hC.1.1) rfl rfl hl.1 rfl (Nat.le_of_ble_eq_true rfl) ⟨Nat.le_of_ble_eq_true rfl, Nat.le_of_ble_eq_true rfl⟩ dL_drop_5 [] ⟨0, 10, 13, 13⟩ [⟨0, 10, 17, 21⟩] htab (fun z hz => nomatch hz) (by decide) (by decide) (hts _ (by decide +kernel)) (by decide) (fun q9 H h1 h2 hS => ?_)
  refine lv_astore (lv' := [(4, .ref q9), (0, .ref h0), (1, .int x), (2, .int e1), (3, .ref o)]) hx hb dL_drop_13 hl (by decide) rfl (fun ls hl => ?_)
  refine lv_iconst (v := 1) hx hb dL_drop_15 (by decide) ?_
  have hat8 := hat9.kept (h2 _ hat9.lt)
  have hF8 := hF.kept (fun q hq => h2 q (hF.lt hq))
  exact rn_Wiret hx hb hr rfl hlocks hS (by decide) (by decide) rfl ⟨rn_P_mk hV hC hF8 (fun x hx => Or.inl hx), g, fun h => absurd h (by decide), hat8⟩ dL_drop_16

set_option maxHeartbeats 4000000 in
set_option maxRecDepth 100000 in
theorem l_drop_n (l : Launch) (hfl : l.stackTraces = false) {D : va_G} {cR cP cF cL : ClassId} {h0 aR aP aF : Nat} {ra pa fa : Nat → Nat} {hd : Nat → Option Nat} {dh : Option Nat} {f : rn_T} {σ : rn_St} (hV : rn_V σ) (hC : rn_CI cR cP cF h0 aR aP aF ra pa fa hd dh f σ) {o : Nat} {g : Nat → Int64} (hfo : f o = none) {j : Nat} (hj0 : j < σ.pn) {x : Int32} (hbad : x < 0 ∨ nI 15 < x) (sz : Nat) : rn_LT l yL_drop wsL_drop ({ frames := 8, cells := 1, slots := 6, locals := 140 } : Room) D (rn_tyl cR cP cF cL) ((rn_LB D f o cL g)) [.ref h0, .int (nI j), .int x, .ref o] (some (.int 2)) (rn_LP D cR cP cF h0 f sz σ o cL 2 0) (rn_LA f sz o) 1 6 sz := by
  refine rn_LT.ofW (hh := [(0, 10, 13, 13), (0, 10, 17, 21)]) (cc := cL_drop) (maxL := 5) (ret := (some .int)) (by decide) rfl (Nat.le_of_ble_eq_true rfl) (fun p e s m below meth c ls hx hb hr hml hts hown hlocks hsz hF9 hG hE htab hS hl => ?_)
  have hl : lv_has ls 5 [(0, .ref h0), (1, .int (nI j)), (2, .int x), (3, .ref o)] := hl
  subst hsz
  obtain ⟨hF, hat9⟩ := hF9
  have hG3 : rn_G D (rn_tys cR cP cF) s := ⟨hG.1.sub [0, 1, 2] rfl, hG.2⟩
  refine lv_aload_n hx hb dL_drop_0 rfl (lv_at hl 3 rfl) ?_
  refine lv_iconst (v := 0) hx hb dL_drop_1 (by decide) ?_
  refine lv_aload_n hx hb dL_drop_2 rfl (lv_at hl 0 rfl) ?_
  refine lv_iload_n hx hb dL_drop_3 rfl (lv_at hl 1 rfl) ?_
  refine lv_iload_n hx hb dL_drop_4 rfl (lv_at hl 2 rfl) ?_
  refine rn_xVc (As := [.int (nI j), .int x]) (rest := [.int 0, .ref o]) (E := rn_IA) 2 hx hb hml hown hts hG3 hE hS (x_drop_n l hfl hV hC hj0 hbad _) gL_drop_X4_drop rfl ⟨rfl, rfl⟩ (by decide +kernel) ⟨Nat.le_of_ble_eq_true rfl, Nat.le_of_ble_eq_true rfl⟩ hF (hF _ _ hC.1.1) rfl rfl hl.1 rfl (Nat.le_of_ble_eq_true rfl) ⟨Nat.le_of_ble_eq_true rfl, Nat.le_of_ble_eq_true rfl⟩ dL_drop_5 [⟨0, 10, 13, 13⟩] ⟨0, 10, 17, 21⟩ [] htab (fun z hz => by rw [List.mem_singleton.mp hz]; exact Or.inr ⟨(by decide : 13 ≠ 0), rn_IO, hts _ (by decide +kernel), hE.2.2.1 (rn_IA, rn_IO) (by decide)⟩) (by decide) (by decide) (hts _ (by decide +kernel)) (by decide) (fun q9 H h1 h2 hS => ?_)
  refine lv_astore (lv' := [(4, .ref q9), (0, .ref h0), (1, .int (nI j)), (2, .int x), (3, .ref o)]) hx hb dL_drop_17 hl (by decide) rfl (fun ls hl => ?_)
  refine lv_iconst (v := 2) hx hb dL_drop_19 (by decide) ?_
  have hat8 := hat9.kept (h2 _ hat9.lt)
  have hF8 := hF.kept (fun q hq => h2 q (hF.lt hq))
  exact rn_Wiret hx hb hr rfl hlocks hS (by decide) (by decide) rfl ⟨rn_P_mk hV hC hF8 (fun x hx => Or.inl hx), g, fun h => absurd h (by decide), hat8⟩ dL_drop_20

set_option maxHeartbeats 4000000 in
set_option maxRecDepth 100000 in
theorem l_drop_o (l : Launch) {D : va_G} {cR cP cF cL : ClassId} {h0 aR aP aF : Nat} {ra pa fa : Nat → Nat} {hd : Nat → Option Nat} {dh : Option Nat} {f : rn_T} {σ : rn_St} (hV : rn_V σ) (hC : rn_CI cR cP cF h0 aR aP aF ra pa fa hd dh f σ) {o : Nat} {g : Nat → Int64} (hfo : f o = none) {j : Nat} {x : Int32} (hj0 : j < σ.pn) (hx0 : ¬ x < 0 ∧ x ≤ 15) (sz : Nat) : rn_LT l yL_drop wsL_drop ({ frames := 8, cells := 1, slots := 6, locals := 140 } : Room) D (rn_tyl cR cP cF cL) ((rn_LB D f o cL g)) [.ref h0, .int (nI j), .int x, .ref o] (some (.int 0)) (rn_LP D cR cP cF h0 f sz (rn_proc σ j (σ.pl j) (σ.pu j) (σ.pr j &&& (x ^^^ -1))) o cL 0 (σ.pr j &&& (x ^^^ -1))) (rn_LA f sz o) 1 6 sz := by
  refine rn_LT.ofW (hh := [(0, 10, 13, 13), (0, 10, 17, 21)]) (cc := cL_drop) (maxL := 5) (ret := (some .int)) (by decide) rfl (Nat.le_of_ble_eq_true rfl) (fun p e s m below meth c ls hx hb hr hml hts hown hlocks hsz hF9 hG hE htab hS hl => ?_)
  have hl : lv_has ls 5 [(0, .ref h0), (1, .int (nI j)), (2, .int x), (3, .ref o)] := hl
  subst hsz
  obtain ⟨hF, hat9⟩ := hF9
  have hG3 : rn_G D (rn_tys cR cP cF) s := ⟨hG.1.sub [0, 1, 2] rfl, hG.2⟩
  refine lv_aload_n hx hb dL_drop_0 rfl (lv_at hl 3 rfl) ?_
  refine lv_iconst (v := 0) hx hb dL_drop_1 (by decide) ?_
  refine lv_aload_n hx hb dL_drop_2 rfl (lv_at hl 0 rfl) ?_
  refine lv_iload_n hx hb dL_drop_3 rfl (lv_at hl 1 rfl) ?_
  refine lv_iload_n hx hb dL_drop_4 rfl (lv_at hl 2 rfl) ?_
  refine rn_wV (As := [.int (nI j), .int x]) (rest := [.int 0, .ref o]) 2 hx hb hml hown hts hG3 hS (w_drop l hV hC hj0 hx0 _) (fun q h => Or.inr h) gL_drop_X4_drop rfl ⟨rfl, rfl⟩ (by decide +kernel) ⟨Nat.le_of_ble_eq_true rfl, Nat.le_of_ble_eq_true rfl⟩ hF (hF _ _ hC.1.1) rfl rfl hl.1 rfl (Nat.le_of_ble_eq_true rfl) ⟨Nat.le_of_ble_eq_true rfl, Nat.le_of_ble_eq_true rfl⟩ dL_drop_5 (fun H locs hP1 hz hk hS => ?_)
  have hat8 := hat9.kept (hk _ hat9.lt (fun h => h.elim (fun h => h hfo) (fun h => absurd h (Nat.not_le.mpr hat9.lt))))
  refine W.eq (g2 := F0 m 8 ls [.int (σ.pr j &&& (x ^^^ -1)), .int 0, .ref o]) rfl ?_
  refine lv_i2l hx hb dL_drop_8 rfl ?_
  refine rn_last (A := (rn_LA f s.heap.size o)) hx hb hG hS (Or.inl rfl) hat8 3 rfl dL_drop_9 (fun H locs hat hz ho hS => ?_)
  refine lv_goto (tgt := 21) hx hb dL_drop_10 (by decide) ?_
  refine lv_iconst (v := 0) hx hb dL_drop_21 (by decide) ?_
  exact rn_Wiret hx hb hr rfl hlocks hS (by decide) (by decide) rfl ⟨hP1.out ho hfo hat9.lt, _, fun _ => pk_uLs, hat⟩ dL_drop_22

set_option maxHeartbeats 4000000 in
set_option maxRecDepth 100000 in
theorem l_enter_p (l : Launch) (hfl : l.stackTraces = false) {D : va_G} {cR cP cF cL : ClassId} {h0 aR aP aF : Nat} {ra pa fa : Nat → Nat} {hd : Nat → Option Nat} {dh : Option Nat} {f : rn_T} {σ : rn_St} (hV : rn_V σ) (hC : rn_CI cR cP cF h0 aR aP aF ra pa fa hd dh f σ) {o : Nat} {g : Nat → Int64} (hfo : f o = none) {x e1 : Int32} (hno : ¬ ∃ i, i < σ.pn ∧ x = nI i) (sz : Nat) : rn_LT l yL_enter wsL_enter ({ frames := 8, cells := 1, slots := 6, locals := 140 } : Room) D (rn_tyl cR cP cF cL) ((rn_LB D f o cL g)) [.ref h0, .int x, .int e1, .ref o] (some (.int 1)) (rn_LP D cR cP cF h0 f sz σ o cL 1 0) (rn_LA f sz o) 1 6 sz := by
  refine rn_LT.ofW (hh := [(0, 10, 13, 13)]) (cc := cL_enter) (maxL := 5) (ret := (some .int)) (by decide) rfl (Nat.le_of_ble_eq_true rfl) (fun p e s m below meth c ls hx hb hr hml hts hown hlocks hsz hF9 hG hE htab hS hl => ?_)
  have hl : lv_has ls 5 [(0, .ref h0), (1, .int x), (2, .int e1), (3, .ref o)] := hl
  subst hsz
  obtain ⟨hF, hat9⟩ := hF9
  have hG3 : rn_G D (rn_tys cR cP cF) s := ⟨hG.1.sub [0, 1, 2] rfl, hG.2⟩
  refine lv_aload_n hx hb dL_enter_0 rfl (lv_at hl 3 rfl) ?_
  refine lv_iconst (v := 0) hx hb dL_enter_1 (by decide) ?_
  refine lv_aload_n hx hb dL_enter_2 rfl (lv_at hl 0 rfl) ?_
  refine lv_iload_n hx hb dL_enter_3 rfl (lv_at hl 1 rfl) ?_
  refine lv_iload_n hx hb dL_enter_4 rfl (lv_at hl 2 rfl) ?_
  refine rn_xVc (As := [.int x, .int e1]) (rest := [.int 0, .ref o]) (E := rn_IO) 2 hx hb hml hown hts hG3 hE hS (x_enter_p l hfl hV hC hno _) gL_enter_X4_enter rfl ⟨rfl, rfl⟩ (by decide +kernel) ⟨Nat.le_of_ble_eq_true rfl, Nat.le_of_ble_eq_true rfl⟩ hF (hF _ _ hC.1.1) rfl rfl hl.1 rfl (Nat.le_of_ble_eq_true rfl) ⟨Nat.le_of_ble_eq_true rfl, Nat.le_of_ble_eq_true rfl⟩ dL_enter_5 [] ⟨0, 10, 13, 13⟩ [] htab (fun z hz => nomatch hz) (by decide) (by decide) (hts _ (by decide +kernel)) (by decide) (fun q9 H h1 h2 hS => ?_)
  refine lv_astore (lv' := [(4, .ref q9), (0, .ref h0), (1, .int x), (2, .int e1), (3, .ref o)]) hx hb dL_enter_13 hl (by decide) rfl (fun ls hl => ?_)
  refine lv_iconst (v := 1) hx hb dL_enter_15 (by decide) ?_
  have hat8 := hat9.kept (h2 _ hat9.lt)
  have hF8 := hF.kept (fun q hq => h2 q (hF.lt hq))
  exact rn_Wiret hx hb hr rfl hlocks hS (by decide) (by decide) rfl ⟨rn_P_mk hV hC hF8 (fun x hx => Or.inl hx), g, fun h => absurd h (by decide), hat8⟩ dL_enter_16

set_option maxHeartbeats 4000000 in
set_option maxRecDepth 100000 in
theorem l_enter_r (l : Launch) (hfl : l.stackTraces = false) {D : va_G} {cR cP cF cL : ClassId} {h0 aR aP aF : Nat} {ra pa fa : Nat → Nat} {hd : Nat → Option Nat} {dh : Option Nat} {f : rn_T} {σ : rn_St} (hV : rn_V σ) (hC : rn_CI cR cP cF h0 aR aP aF ra pa fa hd dh f σ) {o : Nat} {g : Nat → Int64} (hfo : f o = none) {j : Nat} (hj0 : j < σ.pn) {x : Int32} (hno : ¬ ∃ i, i < σ.sn ∧ x = nI i) (sz : Nat) : rn_LT l yL_enter wsL_enter ({ frames := 8, cells := 1, slots := 6, locals := 140 } : Room) D (rn_tyl cR cP cF cL) ((rn_LB D f o cL g)) [.ref h0, .int (nI j), .int x, .ref o] (some (.int 1)) (rn_LP D cR cP cF h0 f sz σ o cL 1 0) (rn_LA f sz o) 1 6 sz := by
  refine rn_LT.ofW (hh := [(0, 10, 13, 13)]) (cc := cL_enter) (maxL := 5) (ret := (some .int)) (by decide) rfl (Nat.le_of_ble_eq_true rfl) (fun p e s m below meth c ls hx hb hr hml hts hown hlocks hsz hF9 hG hE htab hS hl => ?_)
  have hl : lv_has ls 5 [(0, .ref h0), (1, .int (nI j)), (2, .int x), (3, .ref o)] := hl
  subst hsz
  obtain ⟨hF, hat9⟩ := hF9
  have hG3 : rn_G D (rn_tys cR cP cF) s := ⟨hG.1.sub [0, 1, 2] rfl, hG.2⟩
  refine lv_aload_n hx hb dL_enter_0 rfl (lv_at hl 3 rfl) ?_
  refine lv_iconst (v := 0) hx hb dL_enter_1 (by decide) ?_
  refine lv_aload_n hx hb dL_enter_2 rfl (lv_at hl 0 rfl) ?_
  refine lv_iload_n hx hb dL_enter_3 rfl (lv_at hl 1 rfl) ?_
  refine lv_iload_n hx hb dL_enter_4 rfl (lv_at hl 2 rfl) ?_
  refine rn_xVc (As := [.int (nI j), .int x]) (rest := [.int 0, .ref o]) (E := rn_IO) 2 hx hb hml hown hts hG3 hE hS (x_enter_r l hfl hV hC hj0 hno _) gL_enter_X4_enter rfl ⟨rfl, rfl⟩ (by decide +kernel) ⟨Nat.le_of_ble_eq_true rfl, Nat.le_of_ble_eq_true rfl⟩ hF (hF _ _ hC.1.1) rfl rfl hl.1 rfl (Nat.le_of_ble_eq_true rfl) ⟨Nat.le_of_ble_eq_true rfl, Nat.le_of_ble_eq_true rfl⟩ dL_enter_5 [] ⟨0, 10, 13, 13⟩ [] htab (fun z hz => nomatch hz) (by decide) (by decide) (hts _ (by decide +kernel)) (by decide) (fun q9 H h1 h2 hS => ?_)
  refine lv_astore (lv' := [(4, .ref q9), (0, .ref h0), (1, .int (nI j)), (2, .int x), (3, .ref o)]) hx hb dL_enter_13 hl (by decide) rfl (fun ls hl => ?_)
  refine lv_iconst (v := 1) hx hb dL_enter_15 (by decide) ?_
  have hat8 := hat9.kept (h2 _ hat9.lt)
  have hF8 := hF.kept (fun q hq => h2 q (hF.lt hq))
  exact rn_Wiret hx hb hr rfl hlocks hS (by decide) (by decide) rfl ⟨rn_P_mk hV hC hF8 (fun x hx => Or.inl hx), g, fun h => absurd h (by decide), hat8⟩ dL_enter_16

set_option maxHeartbeats 4000000 in
set_option maxRecDepth 100000 in
theorem l_enter_o (l : Launch) {D : va_G} {cR cP cF cL : ClassId} {h0 aR aP aF : Nat} {ra pa fa : Nat → Nat} {hd : Nat → Option Nat} {dh : Option Nat} {f : rn_T} {σ : rn_St} (hV : rn_V σ) (hC : rn_CI cR cP cF h0 aR aP aF ra pa fa hd dh f σ) {o : Nat} {g : Nat → Int64} (hfo : f o = none) {j i : Nat} (hj0 : j < σ.pn) (hi0 : i < σ.sn) (sz : Nat) : rn_LT l yL_enter wsL_enter ({ frames := 8, cells := 1, slots := 6, locals := 140 } : Room) D (rn_tyl cR cP cF cL) ((rn_LB D f o cL g)) [.ref h0, .int (nI j), .int (nI i), .ref o] (some (.int 0)) (rn_LP D cR cP cF h0 f sz ((rn_o_enter σ j i).2) o cL 0 ((rn_o_enter σ j i).1)) (rn_LA f sz o) 1 6 sz := by
  refine rn_LT.ofW (hh := [(0, 10, 13, 13)]) (cc := cL_enter) (maxL := 5) (ret := (some .int)) (by decide) rfl (Nat.le_of_ble_eq_true rfl) (fun p e s m below meth c ls hx hb hr hml hts hown hlocks hsz hF9 hG hE htab hS hl => ?_)
  have hl : lv_has ls 5 [(0, .ref h0), (1, .int (nI j)), (2, .int (nI i)), (3, .ref o)] := hl
  subst hsz
  obtain ⟨hF, hat9⟩ := hF9
  have hG3 : rn_G D (rn_tys cR cP cF) s := ⟨hG.1.sub [0, 1, 2] rfl, hG.2⟩
  refine lv_aload_n hx hb dL_enter_0 rfl (lv_at hl 3 rfl) ?_
  refine lv_iconst (v := 0) hx hb dL_enter_1 (by decide) ?_
  refine lv_aload_n hx hb dL_enter_2 rfl (lv_at hl 0 rfl) ?_
  refine lv_iload_n hx hb dL_enter_3 rfl (lv_at hl 1 rfl) ?_
  refine lv_iload_n hx hb dL_enter_4 rfl (lv_at hl 2 rfl) ?_
  refine rn_wV (As := [.int (nI j), .int (nI i)]) (rest := [.int 0, .ref o]) 2 hx hb hml hown hts hG3 hS (w_enter l hV hC hj0 hi0 _) (fun q h => Or.inr h) gL_enter_X4_enter rfl ⟨rfl, rfl⟩ (by decide +kernel) ⟨Nat.le_of_ble_eq_true rfl, Nat.le_of_ble_eq_true rfl⟩ hF (hF _ _ hC.1.1) rfl rfl hl.1 rfl (Nat.le_of_ble_eq_true rfl) ⟨Nat.le_of_ble_eq_true rfl, Nat.le_of_ble_eq_true rfl⟩ dL_enter_5 (fun H locs hP1 hz hk hS => ?_)
  have hat8 := hat9.kept (hk _ hat9.lt (fun h => h.elim (fun h => h hfo) (fun h => absurd h (Nat.not_le.mpr hat9.lt))))
  refine W.eq (g2 := F0 m 8 ls [.int ((rn_o_enter σ j i).1), .int 0, .ref o]) rfl ?_
  refine lv_i2l hx hb dL_enter_8 rfl ?_
  refine rn_last (A := (rn_LA f s.heap.size o)) hx hb hG hS (Or.inl rfl) hat8 3 rfl dL_enter_9 (fun H locs hat hz ho hS => ?_)
  refine lv_goto (tgt := 17) hx hb dL_enter_10 (by decide) ?_
  refine lv_iconst (v := 0) hx hb dL_enter_17 (by decide) ?_
  exact rn_Wiret hx hb hr rfl hlocks hS (by decide) (by decide) rfl ⟨hP1.out ho hfo hat9.lt, _, fun _ => pk_uLs, hat⟩ dL_enter_18

set_option maxHeartbeats 4000000 in
set_option maxRecDepth 100000 in
theorem l_setNumber_p (l : Launch) (hfl : l.stackTraces = false) {D : va_G} {cR cP cF cL : ClassId} {h0 aR aP aF : Nat} {ra pa fa : Nat → Nat} {hd : Nat → Option Nat} {dh : Option Nat} {f : rn_T} {σ : rn_St} (hV : rn_V σ) (hC : rn_CI cR cP cF h0 aR aP aF ra pa fa hd dh f σ) {o : Nat} {g : Nat → Int64} (hfo : f o = none) {x e1 : Int32} (hno : ¬ ∃ i, i < σ.pn ∧ x = nI i) (sz : Nat) : rn_LT l yL_setNumber wsL_setNumber ({ frames := 8, cells := 1, slots := 6, locals := 140 } : Room) D (rn_tyl cR cP cF cL) ((rn_LB D f o cL g)) [.ref h0, .int x, .int e1, .ref o] (some (.int 1)) (rn_LP D cR cP cF h0 f sz σ o cL 1 0) (rn_LA f sz o) 1 6 sz := by
  refine rn_LT.ofW (hh := [(0, 10, 13, 13), (0, 10, 17, 21)]) (cc := cL_setNumber) (maxL := 5) (ret := (some .int)) (by decide) rfl (Nat.le_of_ble_eq_true rfl) (fun p e s m below meth c ls hx hb hr hml hts hown hlocks hsz hF9 hG hE htab hS hl => ?_)
  have hl : lv_has ls 5 [(0, .ref h0), (1, .int x), (2, .int e1), (3, .ref o)] := hl
  subst hsz
  obtain ⟨hF, hat9⟩ := hF9
  have hG3 : rn_G D (rn_tys cR cP cF) s := ⟨hG.1.sub [0, 1, 2] rfl, hG.2⟩
  refine lv_aload_n hx hb dL_setNumber_0 rfl (lv_at hl 3 rfl) ?_
  refine lv_iconst (v := 0) hx hb dL_setNumber_1 (by decide) ?_
  refine lv_aload_n hx hb dL_setNumber_2 rfl (lv_at hl 0 rfl) ?_
  refine lv_iload_n hx hb dL_setNumber_3 rfl (lv_at hl 1 rfl) ?_
  refine lv_iload_n hx hb dL_setNumber_4 rfl (lv_at hl 2 rfl) ?_
  refine rn_xVc (As := [.int x, .int e1]) (rest := [.int 0, .ref o]) (E := rn_IO) 2 hx hb hml hown hts hG3 hE hS (x_setNumber_p l hfl hV hC hno _) gL_setNumber_X4_setNumber rfl ⟨rfl, rfl⟩ (by decide +kernel) ⟨Nat.le_of_ble_eq_true rfl, Nat.le_of_ble_eq_true rfl⟩ hF (hF _ _ hC.1.1) rfl rfl hl.1 rfl (Nat.le_of_ble_eq_true rfl) ⟨Nat.le_of_ble_eq_true rfl, Nat.le_of_ble_eq_true rfl⟩ dL_setNumber_5 [] ⟨0, 10, 13, 13⟩ [⟨0, 10, 17, 21⟩] htab (fun z hz => nomatch hz) (by decide) (by decide) (hts _ (by decide +kernel)) (by decide) (fun q9 H h1 h2 hS => ?_)
  refine lv_astore (lv' := [(4, .ref q9), (0, .ref h0), (1, .int x), (2, .int e1), (3, .ref o)]) hx hb dL_setNumber_13 hl (by decide) rfl (fun ls hl => ?_)
  refine lv_iconst (v := 1) hx hb dL_setNumber_15 (by decide) ?_
  have hat8 := hat9.kept (h2 _ hat9.lt)
  have hF8 := hF.kept (fun q hq => h2 q (hF.lt hq))
  exact rn_Wiret hx hb hr rfl hlocks hS (by decide) (by decide) rfl ⟨rn_P_mk hV hC hF8 (fun x hx => Or.inl hx), g, fun h => absurd h (by decide), hat8⟩ dL_setNumber_16

set_option maxHeartbeats 4000000 in
set_option maxRecDepth 100000 in
theorem l_setNumber_n (l : Launch) (hfl : l.stackTraces = false) {D : va_G} {cR cP cF cL : ClassId} {h0 aR aP aF : Nat} {ra pa fa : Nat → Nat} {hd : Nat → Option Nat} {dh : Option Nat} {f : rn_T} {σ : rn_St} (hV : rn_V σ) (hC : rn_CI cR cP cF h0 aR aP aF ra pa fa hd dh f σ) {o : Nat} {g : Nat → Int64} (hfo : f o = none) {j : Nat} (hj0 : j < σ.pn) {x : Int32} (hbad : x < 0 ∨ nI 998 < x) (sz : Nat) : rn_LT l yL_setNumber wsL_setNumber ({ frames := 8, cells := 1, slots := 6, locals := 140 } : Room) D (rn_tyl cR cP cF cL) ((rn_LB D f o cL g)) [.ref h0, .int (nI j), .int x, .ref o] (some (.int 2)) (rn_LP D cR cP cF h0 f sz σ o cL 2 0) (rn_LA f sz o) 1 6 sz := by
  refine rn_LT.ofW (hh := [(0, 10, 13, 13), (0, 10, 17, 21)]) (cc := cL_setNumber) (maxL := 5) (ret := (some .int)) (by decide) rfl (Nat.le_of_ble_eq_true rfl) (fun p e s m below meth c ls hx hb hr hml hts hown hlocks hsz hF9 hG hE htab hS hl => ?_)
  have hl : lv_has ls 5 [(0, .ref h0), (1, .int (nI j)), (2, .int x), (3, .ref o)] := hl
  subst hsz
  obtain ⟨hF, hat9⟩ := hF9
  have hG3 : rn_G D (rn_tys cR cP cF) s := ⟨hG.1.sub [0, 1, 2] rfl, hG.2⟩
  refine lv_aload_n hx hb dL_setNumber_0 rfl (lv_at hl 3 rfl) ?_
  refine lv_iconst (v := 0) hx hb dL_setNumber_1 (by decide) ?_
  refine lv_aload_n hx hb dL_setNumber_2 rfl (lv_at hl 0 rfl) ?_
  refine lv_iload_n hx hb dL_setNumber_3 rfl (lv_at hl 1 rfl) ?_
  refine lv_iload_n hx hb dL_setNumber_4 rfl (lv_at hl 2 rfl) ?_
  refine rn_xVc (As := [.int (nI j), .int x]) (rest := [.int 0, .ref o]) (E := rn_IA) 2 hx hb hml hown hts hG3 hE hS (x_setNumber_n l hfl hV hC hj0 hbad _) gL_setNumber_X4_setNumber rfl ⟨rfl, rfl⟩ (by decide +kernel) ⟨Nat.le_of_ble_eq_true rfl, Nat.le_of_ble_eq_true rfl⟩ hF (hF _ _ hC.1.1) rfl rfl hl.1 rfl (Nat.le_of_ble_eq_true rfl) ⟨Nat.le_of_ble_eq_true rfl, Nat.le_of_ble_eq_true rfl⟩ dL_setNumber_5 [⟨0, 10, 13, 13⟩] ⟨0, 10, 17, 21⟩ [] htab (fun z hz => by rw [List.mem_singleton.mp hz]; exact Or.inr ⟨(by decide : 13 ≠ 0), rn_IO, hts _ (by decide +kernel), hE.2.2.1 (rn_IA, rn_IO) (by decide)⟩) (by decide) (by decide) (hts _ (by decide +kernel)) (by decide) (fun q9 H h1 h2 hS => ?_)
  refine lv_astore (lv' := [(4, .ref q9), (0, .ref h0), (1, .int (nI j)), (2, .int x), (3, .ref o)]) hx hb dL_setNumber_17 hl (by decide) rfl (fun ls hl => ?_)
  refine lv_iconst (v := 2) hx hb dL_setNumber_19 (by decide) ?_
  have hat8 := hat9.kept (h2 _ hat9.lt)
  have hF8 := hF.kept (fun q hq => h2 q (hF.lt hq))
  exact rn_Wiret hx hb hr rfl hlocks hS (by decide) (by decide) rfl ⟨rn_P_mk hV hC hF8 (fun x hx => Or.inl hx), g, fun h => absurd h (by decide), hat8⟩ dL_setNumber_20

set_option maxHeartbeats 4000000 in
set_option maxRecDepth 100000 in
theorem l_setNumber_o (l : Launch) {D : va_G} {cR cP cF cL : ClassId} {h0 aR aP aF : Nat} {ra pa fa : Nat → Nat} {hd : Nat → Option Nat} {dh : Option Nat} {f : rn_T} {σ : rn_St} (hV : rn_V σ) (hC : rn_CI cR cP cF h0 aR aP aF ra pa fa hd dh f σ) {o : Nat} {g : Nat → Int64} (hfo : f o = none) {j x : Nat} (hj0 : j < σ.pn) (hx0 : x ≤ 998) (sz : Nat) : rn_LT l yL_setNumber wsL_setNumber ({ frames := 8, cells := 1, slots := 6, locals := 140 } : Room) D (rn_tyl cR cP cF cL) ((rn_LB D f o cL g)) [.ref h0, .int (nI j), .int (nI x), .ref o] (some (.int 0)) (rn_LP D cR cP cF h0 f sz ((rn_o_setNumber σ j x).2) o cL 0 ((rn_o_setNumber σ j x).1)) (rn_LA f sz o) 1 6 sz := by
  refine rn_LT.ofW (hh := [(0, 10, 13, 13), (0, 10, 17, 21)]) (cc := cL_setNumber) (maxL := 5) (ret := (some .int)) (by decide) rfl (Nat.le_of_ble_eq_true rfl) (fun p e s m below meth c ls hx hb hr hml hts hown hlocks hsz hF9 hG hE htab hS hl => ?_)
  have hl : lv_has ls 5 [(0, .ref h0), (1, .int (nI j)), (2, .int (nI x)), (3, .ref o)] := hl
  subst hsz
  obtain ⟨hF, hat9⟩ := hF9
  have hG3 : rn_G D (rn_tys cR cP cF) s := ⟨hG.1.sub [0, 1, 2] rfl, hG.2⟩
  refine lv_aload_n hx hb dL_setNumber_0 rfl (lv_at hl 3 rfl) ?_
  refine lv_iconst (v := 0) hx hb dL_setNumber_1 (by decide) ?_
  refine lv_aload_n hx hb dL_setNumber_2 rfl (lv_at hl 0 rfl) ?_
  refine lv_iload_n hx hb dL_setNumber_3 rfl (lv_at hl 1 rfl) ?_
  refine lv_iload_n hx hb dL_setNumber_4 rfl (lv_at hl 2 rfl) ?_
  refine rn_wV (As := [.int (nI j), .int (nI x)]) (rest := [.int 0, .ref o]) 2 hx hb hml hown hts hG3 hS (w_setNumber l hV hC hj0 hx0 _) (fun q h => Or.inr h) gL_setNumber_X4_setNumber rfl ⟨rfl, rfl⟩ (by decide +kernel) ⟨Nat.le_of_ble_eq_true rfl, Nat.le_of_ble_eq_true rfl⟩ hF (hF _ _ hC.1.1) rfl rfl hl.1 rfl (Nat.le_of_ble_eq_true rfl) ⟨Nat.le_of_ble_eq_true rfl, Nat.le_of_ble_eq_true rfl⟩ dL_setNumber_5 (fun H locs hP1 hz hk hS => ?_)
  have hat8 := hat9.kept (hk _ hat9.lt (fun h => h.elim (fun h => h hfo) (fun h => absurd h (Nat.not_le.mpr hat9.lt))))
  refine W.eq (g2 := F0 m 8 ls [.int ((rn_o_setNumber σ j x).1), .int 0, .ref o]) rfl ?_
  refine lv_i2l hx hb dL_setNumber_8 rfl ?_
  refine rn_last (A := (rn_LA f s.heap.size o)) hx hb hG hS (Or.inl rfl) hat8 3 rfl dL_setNumber_9 (fun H locs hat hz ho hS => ?_)
  refine lv_goto (tgt := 21) hx hb dL_setNumber_10 (by decide) ?_
  refine lv_iconst (v := 0) hx hb dL_setNumber_21 (by decide) ?_
  exact rn_Wiret hx hb hr rfl hlocks hS (by decide) (by decide) rfl ⟨hP1.out ho hfo hat9.lt, _, fun _ => pk_uLs, hat⟩ dL_setNumber_22

set_option maxHeartbeats 4000000 in
set_option maxRecDepth 100000 in
theorem l_roomOf_p (l : Launch) (hfl : l.stackTraces = false) {D : va_G} {cR cP cF cL : ClassId} {h0 aR aP aF : Nat} {ra pa fa : Nat → Nat} {hd : Nat → Option Nat} {dh : Option Nat} {f : rn_T} {σ : rn_St} (hV : rn_V σ) (hC : rn_CI cR cP cF h0 aR aP aF ra pa fa hd dh f σ) {o : Nat} {g : Nat → Int64} (hfo : f o = none) {x  : Int32} (hno : ¬ ∃ i, i < σ.pn ∧ x = nI i) (sz : Nat) : rn_LT l yL_roomOf wsL_roomOf ({ frames := 8, cells := 1, slots := 6, locals := 140 } : Room) D (rn_tyl cR cP cF cL) ((rn_LB D f o cL g)) [.ref h0, .int x, .ref o] (some (.int 1)) (rn_LP D cR cP cF h0 f sz σ o cL 1 0) (rn_LA f sz o) 1 6 sz := by
  refine rn_LT.ofW (hh := [(0, 9, 12, 13)]) (cc := cL_roomOf) (maxL := 4) (ret := (some .int)) (by decide) rfl (Nat.le_of_ble_eq_true rfl) (fun p e s m below meth c ls hx hb hr hml hts hown hlocks hsz hF9 hG hE htab hS hl => ?_)
  have hl : lv_has ls 4 [(0, .ref h0), (1, .int x), (2, .ref o)] := hl
  subst hsz
  obtain ⟨hF, hat9⟩ := hF9
  have hG3 : rn_G D (rn_tys cR cP cF) s := ⟨hG.1.sub [0, 1, 2] rfl, hG.2⟩
  refine lv_aload_n hx hb dL_roomOf_0 rfl (lv_at hl 2 rfl) ?_
  refine lv_iconst (v := 0) hx hb dL_roomOf_1 (by decide) ?_
  refine lv_aload_n hx hb dL_roomOf_2 rfl (lv_at hl 0 rfl) ?_
  refine lv_iload_n hx hb dL_roomOf_3 rfl (lv_at hl 1 rfl) ?_
  refine rn_xVc (As := [.int x]) (rest := [.int 0, .ref o]) (E := rn_IO) 1 hx hb hml hown hts hG3 hE hS (x_roomOf_p l hfl hV hC hno _) gL_roomOf_X4_roomOf rfl ⟨rfl, rfl⟩ (by decide +kernel) ⟨Nat.le_of_ble_eq_true rfl, Nat.le_of_ble_eq_true rfl⟩ hF (hF _ _ hC.1.1) rfl rfl hl.1 rfl (Nat.le_of_ble_eq_true rfl) ⟨Nat.le_of_ble_eq_true rfl, Nat.le_of_ble_eq_true rfl⟩ dL_roomOf_4 [] ⟨0, 9, 12, 13⟩ [] htab (fun z hz => nomatch hz) (by decide) (by decide) (hts _ (by decide +kernel)) (by decide) (fun q9 H h1 h2 hS => ?_)
  refine lv_astore_n (lv' := [(3, .ref q9), (0, .ref h0), (1, .int x), (2, .ref o)]) hx hb dL_roomOf_12 rfl hl (by decide) rfl (fun ls hl => ?_)
  refine lv_iconst (v := 1) hx hb dL_roomOf_13 (by decide) ?_
  have hat8 := hat9.kept (h2 _ hat9.lt)
  have hF8 := hF.kept (fun q hq => h2 q (hF.lt hq))
  exact rn_Wiret hx hb hr rfl hlocks hS (by decide) (by decide) rfl ⟨rn_P_mk hV hC hF8 (fun x hx => Or.inl hx), g, fun h => absurd h (by decide), hat8⟩ dL_roomOf_14

set_option maxHeartbeats 4000000 in
set_option maxRecDepth 100000 in
theorem l_roomOf_o (l : Launch) {D : va_G} {cR cP cF cL : ClassId} {h0 aR aP aF : Nat} {ra pa fa : Nat → Nat} {hd : Nat → Option Nat} {dh : Option Nat} {f : rn_T} {σ : rn_St} (hV : rn_V σ) (hC : rn_CI cR cP cF h0 aR aP aF ra pa fa hd dh f σ) {o : Nat} {g : Nat → Int64} (hfo : f o = none) {j : Nat} (hj0 : j < σ.pn) (sz : Nat) : rn_LT l yL_roomOf wsL_roomOf ({ frames := 8, cells := 1, slots := 6, locals := 140 } : Room) D (rn_tyl cR cP cF cL) ((rn_LB D f o cL g)) [.ref h0, .int (nI j), .ref o] (some (.int 0)) (rn_LP D cR cP cF h0 f sz σ o cL 0 (nI (σ.pl j))) (rn_LA f sz o) 1 6 sz := by
  refine rn_LT.ofW (hh := [(0, 9, 12, 13)]) (cc := cL_roomOf) (maxL := 4) (ret := (some .int)) (by decide) rfl (Nat.le_of_ble_eq_true rfl) (fun p e s m below meth c ls hx hb hr hml hts hown hlocks hsz hF9 hG hE htab hS hl => ?_)
  have hl : lv_has ls 4 [(0, .ref h0), (1, .int (nI j)), (2, .ref o)] := hl
  subst hsz
  obtain ⟨hF, hat9⟩ := hF9
  have hG3 : rn_G D (rn_tys cR cP cF) s := ⟨hG.1.sub [0, 1, 2] rfl, hG.2⟩
  refine lv_aload_n hx hb dL_roomOf_0 rfl (lv_at hl 2 rfl) ?_
  refine lv_iconst (v := 0) hx hb dL_roomOf_1 (by decide) ?_
  refine lv_aload_n hx hb dL_roomOf_2 rfl (lv_at hl 0 rfl) ?_
  refine lv_iload_n hx hb dL_roomOf_3 rfl (lv_at hl 1 rfl) ?_
  refine rn_cV (As := [.int (nI j)]) (rest := [.int 0, .ref o]) 1 hx hb hml hown hts hG3 (c_roomOf l hV hC hj0) gL_roomOf_X4_roomOf rfl ⟨rfl, rfl⟩ (by decide +kernel) ⟨Nat.le_of_ble_eq_true rfl, Nat.le_of_ble_eq_true rfl⟩ hF (hF _ _ hC.1.1) rfl rfl hl.1 rfl (Nat.le_of_ble_eq_true rfl) ⟨Nat.zero_le _, Nat.zero_le _⟩ dL_roomOf_4 ?_
  have hat8 := hat9
  have hP1 : rn_P D cR cP cF h0 f s.heap.size σ s.heap := rn_P_mk hV hC hF (fun x hx => Or.inl hx)
  refine W.eq (g2 := F0 m 7 ls [.int (nI (σ.pl j)), .int 0, .ref o]) rfl ?_
  refine lv_i2l hx hb dL_roomOf_7 rfl ?_
  refine rn_last (A := (rn_LA f s.heap.size o)) hx hb hG hS (Or.inl rfl) hat8 3 rfl dL_roomOf_8 (fun H locs hat hz ho hS => ?_)
  refine lv_goto (tgt := 15) hx hb dL_roomOf_9 (by decide) ?_
  refine lv_iconst (v := 0) hx hb dL_roomOf_15 (by decide) ?_
  exact rn_Wiret hx hb hr rfl hlocks hS (by decide) (by decide) rfl ⟨hP1.out ho hfo hat9.lt, _, fun _ => pk_uLs, hat⟩ dL_roomOf_16

set_option maxHeartbeats 4000000 in
set_option maxRecDepth 100000 in
theorem l_numberOf_p (l : Launch) (hfl : l.stackTraces = false) {D : va_G} {cR cP cF cL : ClassId} {h0 aR aP aF : Nat} {ra pa fa : Nat → Nat} {hd : Nat → Option Nat} {dh : Option Nat} {f : rn_T} {σ : rn_St} (hV : rn_V σ) (hC : rn_CI cR cP cF h0 aR aP aF ra pa fa hd dh f σ) {o : Nat} {g : Nat → Int64} (hfo : f o = none) {x  : Int32} (hno : ¬ ∃ i, i < σ.pn ∧ x = nI i) (sz : Nat) : rn_LT l yL_numberOf wsL_numberOf ({ frames := 8, cells := 1, slots := 6, locals := 140 } : Room) D (rn_tyl cR cP cF cL) ((rn_LB D f o cL g)) [.ref h0, .int x, .ref o] (some (.int 1)) (rn_LP D cR cP cF h0 f sz σ o cL 1 0) (rn_LA f sz o) 1 6 sz := by
  refine rn_LT.ofW (hh := [(0, 9, 12, 13)]) (cc := cL_numberOf) (maxL := 4) (ret := (some .int)) (by decide) rfl (Nat.le_of_ble_eq_true rfl) (fun p e s m below meth c ls hx hb hr hml hts hown hlocks hsz hF9 hG hE htab hS hl => ?_)
  have hl : lv_has ls 4 [(0, .ref h0), (1, .int x), (2, .ref o)] := hl
  subst hsz
  obtain ⟨hF, hat9⟩ := hF9
  have hG3 : rn_G D (rn_tys cR cP cF) s := ⟨hG.1.sub [0, 1, 2] rfl, hG.2⟩
  refine lv_aload_n hx hb dL_numberOf_0 rfl (lv_at hl 2 rfl) ?_
  refine lv_iconst (v := 0) hx hb dL_numberOf_1 (by decide) ?_
  refine lv_aload_n hx hb dL_numberOf_2 rfl (lv_at hl 0 rfl) ?_
  refine lv_iload_n hx hb dL_numberOf_3 rfl (lv_at hl 1 rfl) ?_
  refine rn_xVc (As := [.int x]) (rest := [.int 0, .ref o]) (E := rn_IO) 1 hx hb hml hown hts hG3 hE hS (x_numberOf_p l hfl hV hC hno _) gL_numberOf_X4_numberOf rfl ⟨rfl, rfl⟩ (by decide +kernel) ⟨Nat.le_of_ble_eq_true rfl, Nat.le_of_ble_eq_true rfl⟩ hF (hF _ _ hC.1.1) rfl rfl hl.1 rfl (Nat.le_of_ble_eq_true rfl) ⟨Nat.le_of_ble_eq_true rfl, Nat.le_of_ble_eq_true rfl⟩ dL_numberOf_4 [] ⟨0, 9, 12, 13⟩ [] htab (fun z hz => nomatch hz) (by decide) (by decide) (hts _ (by decide +kernel)) (by decide) (fun q9 H h1 h2 hS => ?_)
  refine lv_astore_n (lv' := [(3, .ref q9), (0, .ref h0), (1, .int x), (2, .ref o)]) hx hb dL_numberOf_12 rfl hl (by decide) rfl (fun ls hl => ?_)
  refine lv_iconst (v := 1) hx hb dL_numberOf_13 (by decide) ?_
  have hat8 := hat9.kept (h2 _ hat9.lt)
  have hF8 := hF.kept (fun q hq => h2 q (hF.lt hq))
  exact rn_Wiret hx hb hr rfl hlocks hS (by decide) (by decide) rfl ⟨rn_P_mk hV hC hF8 (fun x hx => Or.inl hx), g, fun h => absurd h (by decide), hat8⟩ dL_numberOf_14

set_option maxHeartbeats 4000000 in
set_option maxRecDepth 100000 in
theorem l_numberOf_o (l : Launch) {D : va_G} {cR cP cF cL : ClassId} {h0 aR aP aF : Nat} {ra pa fa : Nat → Nat} {hd : Nat → Option Nat} {dh : Option Nat} {f : rn_T} {σ : rn_St} (hV : rn_V σ) (hC : rn_CI cR cP cF h0 aR aP aF ra pa fa hd dh f σ) {o : Nat} {g : Nat → Int64} (hfo : f o = none) {j : Nat} (hj0 : j < σ.pn) (sz : Nat) : rn_LT l yL_numberOf wsL_numberOf ({ frames := 8, cells := 1, slots := 6, locals := 140 } : Room) D (rn_tyl cR cP cF cL) ((rn_LB D f o cL g)) [.ref h0, .int (nI j), .ref o] (some (.int 0)) (rn_LP D cR cP cF h0 f sz σ o cL 0 (nI (σ.pu j))) (rn_LA f sz o) 1 6 sz := by
  refine rn_LT.ofW (hh := [(0, 9, 12, 13)]) (cc := cL_numberOf) (maxL := 4) (ret := (some .int)) (by decide) rfl (Nat.le_of_ble_eq_true rfl) (fun p e s m below meth c ls hx hb hr hml hts hown hlocks hsz hF9 hG hE htab hS hl => ?_)
  have hl : lv_has ls 4 [(0, .ref h0), (1, .int (nI j)), (2, .ref o)] := hl
  subst hsz
  obtain ⟨hF, hat9⟩ := hF9
  have hG3 : rn_G D (rn_tys cR cP cF) s := ⟨hG.1.sub [0, 1, 2] rfl, hG.2⟩
  refine lv_aload_n hx hb dL_numberOf_0 rfl (lv_at hl 2 rfl) ?_
  refine lv_iconst (v := 0) hx hb dL_numberOf_1 (by decide) ?_
  refine lv_aload_n hx hb dL_numberOf_2 rfl (lv_at hl 0 rfl) ?_
  refine lv_iload_n hx hb dL_numberOf_3 rfl (lv_at hl 1 rfl) ?_
  refine rn_cV (As := [.int (nI j)]) (rest := [.int 0, .ref o]) 1 hx hb hml hown hts hG3 (c_numberOf l hV hC hj0) gL_numberOf_X4_numberOf rfl ⟨rfl, rfl⟩ (by decide +kernel) ⟨Nat.le_of_ble_eq_true rfl, Nat.le_of_ble_eq_true rfl⟩ hF (hF _ _ hC.1.1) rfl rfl hl.1 rfl (Nat.le_of_ble_eq_true rfl) ⟨Nat.zero_le _, Nat.zero_le _⟩ dL_numberOf_4 ?_
  have hat8 := hat9
  have hP1 : rn_P D cR cP cF h0 f s.heap.size σ s.heap := rn_P_mk hV hC hF (fun x hx => Or.inl hx)
  refine W.eq (g2 := F0 m 7 ls [.int (nI (σ.pu j)), .int 0, .ref o]) rfl ?_
  refine lv_i2l hx hb dL_numberOf_7 rfl ?_
  refine rn_last (A := (rn_LA f s.heap.size o)) hx hb hG hS (Or.inl rfl) hat8 3 rfl dL_numberOf_8 (fun H locs hat hz ho hS => ?_)
  refine lv_goto (tgt := 15) hx hb dL_numberOf_9 (by decide) ?_
  refine lv_iconst (v := 0) hx hb dL_numberOf_15 (by decide) ?_
  exact rn_Wiret hx hb hr rfl hlocks hS (by decide) (by decide) rfl ⟨hP1.out ho hfo hat9.lt, _, fun _ => pk_uLs, hat⟩ dL_numberOf_16

set_option maxHeartbeats 4000000 in
set_option maxRecDepth 100000 in
theorem l_rightsIn_p (l : Launch) (hfl : l.stackTraces = false) {D : va_G} {cR cP cF cL : ClassId} {h0 aR aP aF : Nat} {ra pa fa : Nat → Nat} {hd : Nat → Option Nat} {dh : Option Nat} {f : rn_T} {σ : rn_St} (hV : rn_V σ) (hC : rn_CI cR cP cF h0 aR aP aF ra pa fa hd dh f σ) {o : Nat} {g : Nat → Int64} (hfo : f o = none) {x e1 : Int32} (hno : ¬ ∃ i, i < σ.pn ∧ x = nI i) (sz : Nat) : rn_LT l yL_rightsIn wsL_rightsIn ({ frames := 8, cells := 1, slots := 6, locals := 140 } : Room) D (rn_tyl cR cP cF cL) ((rn_LB D f o cL g)) [.ref h0, .int x, .int e1, .ref o] (some (.int 1)) (rn_LP D cR cP cF h0 f sz σ o cL 1 0) (rn_LA f sz o) 1 6 sz := by
  refine rn_LT.ofW (hh := [(0, 10, 13, 13)]) (cc := cL_rightsIn) (maxL := 5) (ret := (some .int)) (by decide) rfl (Nat.le_of_ble_eq_true rfl) (fun p e s m below meth c ls hx hb hr hml hts hown hlocks hsz hF9 hG hE htab hS hl => ?_)
  have hl : lv_has ls 5 [(0, .ref h0), (1, .int x), (2, .int e1), (3, .ref o)] := hl
  subst hsz
  obtain ⟨hF, hat9⟩ := hF9
  have hG3 : rn_G D (rn_tys cR cP cF) s := ⟨hG.1.sub [0, 1, 2] rfl, hG.2⟩
  refine lv_aload_n hx hb dL_rightsIn_0 rfl (lv_at hl 3 rfl) ?_
  refine lv_iconst (v := 0) hx hb dL_rightsIn_1 (by decide) ?_
  refine lv_aload_n hx hb dL_rightsIn_2 rfl (lv_at hl 0 rfl) ?_
  refine lv_iload_n hx hb dL_rightsIn_3 rfl (lv_at hl 1 rfl) ?_
  refine lv_iload_n hx hb dL_rightsIn_4 rfl (lv_at hl 2 rfl) ?_
  refine rn_xVc (As := [.int x, .int e1]) (rest := [.int 0, .ref o]) (E := rn_IO) 2 hx hb hml hown hts hG3 hE hS (x_rightsIn_p l hfl hV hC hno _) gL_rightsIn_X4_rightsIn rfl ⟨rfl, rfl⟩ (by decide +kernel) ⟨Nat.le_of_ble_eq_true rfl, Nat.le_of_ble_eq_true rfl⟩ hF (hF _ _ hC.1.1) rfl rfl hl.1 rfl (Nat.le_of_ble_eq_true rfl) ⟨Nat.le_of_ble_eq_true rfl, Nat.le_of_ble_eq_true rfl⟩ dL_rightsIn_5 [] ⟨0, 10, 13, 13⟩ [] htab (fun z hz => nomatch hz) (by decide) (by decide) (hts _ (by decide +kernel)) (by decide) (fun q9 H h1 h2 hS => ?_)
  refine lv_astore (lv' := [(4, .ref q9), (0, .ref h0), (1, .int x), (2, .int e1), (3, .ref o)]) hx hb dL_rightsIn_13 hl (by decide) rfl (fun ls hl => ?_)
  refine lv_iconst (v := 1) hx hb dL_rightsIn_15 (by decide) ?_
  have hat8 := hat9.kept (h2 _ hat9.lt)
  have hF8 := hF.kept (fun q hq => h2 q (hF.lt hq))
  exact rn_Wiret hx hb hr rfl hlocks hS (by decide) (by decide) rfl ⟨rn_P_mk hV hC hF8 (fun x hx => Or.inl hx), g, fun h => absurd h (by decide), hat8⟩ dL_rightsIn_16

set_option maxHeartbeats 4000000 in
set_option maxRecDepth 100000 in
theorem l_rightsIn_r (l : Launch) (hfl : l.stackTraces = false) {D : va_G} {cR cP cF cL : ClassId} {h0 aR aP aF : Nat} {ra pa fa : Nat → Nat} {hd : Nat → Option Nat} {dh : Option Nat} {f : rn_T} {σ : rn_St} (hV : rn_V σ) (hC : rn_CI cR cP cF h0 aR aP aF ra pa fa hd dh f σ) {o : Nat} {g : Nat → Int64} (hfo : f o = none) {j : Nat} (hj0 : j < σ.pn) {x : Int32} (hno : ¬ ∃ i, i < σ.sn ∧ x = nI i) (sz : Nat) : rn_LT l yL_rightsIn wsL_rightsIn ({ frames := 8, cells := 1, slots := 6, locals := 140 } : Room) D (rn_tyl cR cP cF cL) ((rn_LB D f o cL g)) [.ref h0, .int (nI j), .int x, .ref o] (some (.int 1)) (rn_LP D cR cP cF h0 f sz σ o cL 1 0) (rn_LA f sz o) 1 6 sz := by
  refine rn_LT.ofW (hh := [(0, 10, 13, 13)]) (cc := cL_rightsIn) (maxL := 5) (ret := (some .int)) (by decide) rfl (Nat.le_of_ble_eq_true rfl) (fun p e s m below meth c ls hx hb hr hml hts hown hlocks hsz hF9 hG hE htab hS hl => ?_)
  have hl : lv_has ls 5 [(0, .ref h0), (1, .int (nI j)), (2, .int x), (3, .ref o)] := hl
  subst hsz
  obtain ⟨hF, hat9⟩ := hF9
  have hG3 : rn_G D (rn_tys cR cP cF) s := ⟨hG.1.sub [0, 1, 2] rfl, hG.2⟩
  refine lv_aload_n hx hb dL_rightsIn_0 rfl (lv_at hl 3 rfl) ?_
  refine lv_iconst (v := 0) hx hb dL_rightsIn_1 (by decide) ?_
  refine lv_aload_n hx hb dL_rightsIn_2 rfl (lv_at hl 0 rfl) ?_
  refine lv_iload_n hx hb dL_rightsIn_3 rfl (lv_at hl 1 rfl) ?_
  refine lv_iload_n hx hb dL_rightsIn_4 rfl (lv_at hl 2 rfl) ?_
  refine rn_xVc (As := [.int (nI j), .int x]) (rest := [.int 0, .ref o]) (E := rn_IO) 2 hx hb hml hown hts hG3 hE hS (x_rightsIn_r l hfl hV hC hj0 hno _) gL_rightsIn_X4_rightsIn rfl ⟨rfl, rfl⟩ (by decide +kernel) ⟨Nat.le_of_ble_eq_true rfl, Nat.le_of_ble_eq_true rfl⟩ hF (hF _ _ hC.1.1) rfl rfl hl.1 rfl (Nat.le_of_ble_eq_true rfl) ⟨Nat.le_of_ble_eq_true rfl, Nat.le_of_ble_eq_true rfl⟩ dL_rightsIn_5 [] ⟨0, 10, 13, 13⟩ [] htab (fun z hz => nomatch hz) (by decide) (by decide) (hts _ (by decide +kernel)) (by decide) (fun q9 H h1 h2 hS => ?_)
  refine lv_astore (lv' := [(4, .ref q9), (0, .ref h0), (1, .int (nI j)), (2, .int x), (3, .ref o)]) hx hb dL_rightsIn_13 hl (by decide) rfl (fun ls hl => ?_)
  refine lv_iconst (v := 1) hx hb dL_rightsIn_15 (by decide) ?_
  have hat8 := hat9.kept (h2 _ hat9.lt)
  have hF8 := hF.kept (fun q hq => h2 q (hF.lt hq))
  exact rn_Wiret hx hb hr rfl hlocks hS (by decide) (by decide) rfl ⟨rn_P_mk hV hC hF8 (fun x hx => Or.inl hx), g, fun h => absurd h (by decide), hat8⟩ dL_rightsIn_16

set_option maxHeartbeats 4000000 in
set_option maxRecDepth 100000 in
theorem l_rightsIn_o (l : Launch) {D : va_G} {cR cP cF cL : ClassId} {h0 aR aP aF : Nat} {ra pa fa : Nat → Nat} {hd : Nat → Option Nat} {dh : Option Nat} {f : rn_T} {σ : rn_St} (hV : rn_V σ) (hC : rn_CI cR cP cF h0 aR aP aF ra pa fa hd dh f σ) {o : Nat} {g : Nat → Int64} (hfo : f o = none) {j i : Nat} (hj0 : j < σ.pn) (hi0 : i < σ.sn) (sz : Nat) : rn_LT l yL_rightsIn wsL_rightsIn ({ frames := 8, cells := 1, slots := 6, locals := 140 } : Room) D (rn_tyl cR cP cF cL) ((rn_LB D f o cL g)) [.ref h0, .int (nI j), .int (nI i), .ref o] (some (.int 0)) (rn_LP D cR cP cF h0 f sz σ o cL 0 (rn_held σ j i)) (rn_LA f sz o) 1 6 sz := by
  refine rn_LT.ofW (hh := [(0, 10, 13, 13)]) (cc := cL_rightsIn) (maxL := 5) (ret := (some .int)) (by decide) rfl (Nat.le_of_ble_eq_true rfl) (fun p e s m below meth c ls hx hb hr hml hts hown hlocks hsz hF9 hG hE htab hS hl => ?_)
  have hl : lv_has ls 5 [(0, .ref h0), (1, .int (nI j)), (2, .int (nI i)), (3, .ref o)] := hl
  subst hsz
  obtain ⟨hF, hat9⟩ := hF9
  have hG3 : rn_G D (rn_tys cR cP cF) s := ⟨hG.1.sub [0, 1, 2] rfl, hG.2⟩
  refine lv_aload_n hx hb dL_rightsIn_0 rfl (lv_at hl 3 rfl) ?_
  refine lv_iconst (v := 0) hx hb dL_rightsIn_1 (by decide) ?_
  refine lv_aload_n hx hb dL_rightsIn_2 rfl (lv_at hl 0 rfl) ?_
  refine lv_iload_n hx hb dL_rightsIn_3 rfl (lv_at hl 1 rfl) ?_
  refine lv_iload_n hx hb dL_rightsIn_4 rfl (lv_at hl 2 rfl) ?_
  refine rn_cV (As := [.int (nI j), .int (nI i)]) (rest := [.int 0, .ref o]) 2 hx hb hml hown hts hG3 (c_rightsIn l hV hC hj0 hi0) gL_rightsIn_X4_rightsIn rfl ⟨rfl, rfl⟩ (by decide +kernel) ⟨Nat.le_of_ble_eq_true rfl, Nat.le_of_ble_eq_true rfl⟩ hF (hF _ _ hC.1.1) rfl rfl hl.1 rfl (Nat.le_of_ble_eq_true rfl) ⟨Nat.zero_le _, Nat.zero_le _⟩ dL_rightsIn_5 ?_
  have hat8 := hat9
  have hP1 : rn_P D cR cP cF h0 f s.heap.size σ s.heap := rn_P_mk hV hC hF (fun x hx => Or.inl hx)
  refine W.eq (g2 := F0 m 8 ls [.int (rn_held σ j i), .int 0, .ref o]) rfl ?_
  refine lv_i2l hx hb dL_rightsIn_8 rfl ?_
  refine rn_last (A := (rn_LA f s.heap.size o)) hx hb hG hS (Or.inl rfl) hat8 3 rfl dL_rightsIn_9 (fun H locs hat hz ho hS => ?_)
  refine lv_goto (tgt := 17) hx hb dL_rightsIn_10 (by decide) ?_
  refine lv_iconst (v := 0) hx hb dL_rightsIn_17 (by decide) ?_
  exact rn_Wiret hx hb hr rfl hlocks hS (by decide) (by decide) rfl ⟨hP1.out ho hfo hat9.lt, _, fun _ => pk_uLs, hat⟩ dL_rightsIn_18

set_option maxHeartbeats 4000000 in
set_option maxRecDepth 100000 in
theorem l_makeFile_p (l : Launch) (hfl : l.stackTraces = false) {D : va_G} {cR cP cF cL : ClassId} {h0 aR aP aF : Nat} {ra pa fa : Nat → Nat} {hd : Nat → Option Nat} {dh : Option Nat} {f : rn_T} {σ : rn_St} (hV : rn_V σ) (hC : rn_CI cR cP cF h0 aR aP aF ra pa fa hd dh f σ) {o : Nat} {g : Nat → Int64} (hfo : f o = none) {x e1 : Int32} (hno : ¬ ∃ i, i < σ.pn ∧ x = nI i) (sz : Nat) : rn_LT l yL_makeFile wsL_makeFile ({ frames := 8, cells := 1, slots := 6, locals := 140 } : Room) D (rn_tyl cR cP cF cL) ((rn_LB D f o cL g)) [.ref h0, .int x, .int e1, .ref o] (some (.int 1)) (rn_LP D cR cP cF h0 f sz σ o cL 1 0) (rn_LA f sz o) 1 6 sz := by
  refine rn_LT.ofW (hh := [(0, 10, 13, 13), (0, 10, 17, 21), (0, 10, 21, 15)]) (cc := cL_makeFile) (maxL := 5) (ret := (some .int)) (by decide) rfl (Nat.le_of_ble_eq_true rfl) (fun p e s m below meth c ls hx hb hr hml hts hown hlocks hsz hF9 hG hE htab hS hl => ?_)
  have hl : lv_has ls 5 [(0, .ref h0), (1, .int x), (2, .int e1), (3, .ref o)] := hl
  subst hsz
  obtain ⟨hF, hat9⟩ := hF9
  have hG3 : rn_G D (rn_tys cR cP cF) s := ⟨hG.1.sub [0, 1, 2] rfl, hG.2⟩
  refine lv_aload_n hx hb dL_makeFile_0 rfl (lv_at hl 3 rfl) ?_
  refine lv_iconst (v := 0) hx hb dL_makeFile_1 (by decide) ?_
  refine lv_aload_n hx hb dL_makeFile_2 rfl (lv_at hl 0 rfl) ?_
  refine lv_iload_n hx hb dL_makeFile_3 rfl (lv_at hl 1 rfl) ?_
  refine lv_iload_n hx hb dL_makeFile_4 rfl (lv_at hl 2 rfl) ?_
  refine rn_xVc (As := [.int x, .int e1]) (rest := [.int 0, .ref o]) (E := rn_IO) 2 hx hb hml hown hts hG3 hE hS (x_makeFile_p l hfl hV hC hno _) gL_makeFile_X4_makeFile rfl ⟨rfl, rfl⟩ (by decide +kernel) ⟨Nat.le_of_ble_eq_true rfl, Nat.le_of_ble_eq_true rfl⟩ hF (hF _ _ hC.1.1) rfl rfl hl.1 rfl (Nat.le_of_ble_eq_true rfl) ⟨Nat.le_of_ble_eq_true rfl, Nat.le_of_ble_eq_true rfl⟩ dL_makeFile_5 [] ⟨0, 10, 13, 13⟩ [⟨0, 10, 17, 21⟩, ⟨0, 10, 21, 15⟩] htab (fun z hz => nomatch hz) (by decide) (by decide) (hts _ (by decide +kernel)) (by decide) (fun q9 H h1 h2 hS => ?_)
  refine lv_astore (lv' := [(4, .ref q9), (0, .ref h0), (1, .int x), (2, .int e1), (3, .ref o)]) hx hb dL_makeFile_13 hl (by decide) rfl (fun ls hl => ?_)
  refine lv_iconst (v := 1) hx hb dL_makeFile_15 (by decide) ?_
  have hat8 := hat9.kept (h2 _ hat9.lt)
  have hF8 := hF.kept (fun q hq => h2 q (hF.lt hq))
  exact rn_Wiret hx hb hr rfl hlocks hS (by decide) (by decide) rfl ⟨rn_P_mk hV hC hF8 (fun x hx => Or.inl hx), g, fun h => absurd h (by decide), hat8⟩ dL_makeFile_16

set_option maxHeartbeats 4000000 in
set_option maxRecDepth 100000 in
theorem l_makeFile_n (l : Launch) (hfl : l.stackTraces = false) {D : va_G} {cR cP cF cL : ClassId} {h0 aR aP aF : Nat} {ra pa fa : Nat → Nat} {hd : Nat → Option Nat} {dh : Option Nat} {f : rn_T} {σ : rn_St} (hV : rn_V σ) (hC : rn_CI cR cP cF h0 aR aP aF ra pa fa hd dh f σ) {o : Nat} {g : Nat → Int64} (hfo : f o = none) {j : Nat} (hj0 : j < σ.pn) {x : Int32} (hbad : x < 0 ∨ nI 15 < x) (sz : Nat) : rn_LT l yL_makeFile wsL_makeFile ({ frames := 8, cells := 1, slots := 6, locals := 140 } : Room) D (rn_tyl cR cP cF cL) ((rn_LB D f o cL g)) [.ref h0, .int (nI j), .int x, .ref o] (some (.int 2)) (rn_LP D cR cP cF h0 f sz σ o cL 2 0) (rn_LA f sz o) 1 6 sz := by
  refine rn_LT.ofW (hh := [(0, 10, 13, 13), (0, 10, 17, 21), (0, 10, 21, 15)]) (cc := cL_makeFile) (maxL := 5) (ret := (some .int)) (by decide) rfl (Nat.le_of_ble_eq_true rfl) (fun p e s m below meth c ls hx hb hr hml hts hown hlocks hsz hF9 hG hE htab hS hl => ?_)
  have hl : lv_has ls 5 [(0, .ref h0), (1, .int (nI j)), (2, .int x), (3, .ref o)] := hl
  subst hsz
  obtain ⟨hF, hat9⟩ := hF9
  have hG3 : rn_G D (rn_tys cR cP cF) s := ⟨hG.1.sub [0, 1, 2] rfl, hG.2⟩
  refine lv_aload_n hx hb dL_makeFile_0 rfl (lv_at hl 3 rfl) ?_
  refine lv_iconst (v := 0) hx hb dL_makeFile_1 (by decide) ?_
  refine lv_aload_n hx hb dL_makeFile_2 rfl (lv_at hl 0 rfl) ?_
  refine lv_iload_n hx hb dL_makeFile_3 rfl (lv_at hl 1 rfl) ?_
  refine lv_iload_n hx hb dL_makeFile_4 rfl (lv_at hl 2 rfl) ?_
  refine rn_xVc (As := [.int (nI j), .int x]) (rest := [.int 0, .ref o]) (E := rn_IA) 2 hx hb hml hown hts hG3 hE hS (x_makeFile_n l hfl hV hC hj0 hbad _) gL_makeFile_X4_makeFile rfl ⟨rfl, rfl⟩ (by decide +kernel) ⟨Nat.le_of_ble_eq_true rfl, Nat.le_of_ble_eq_true rfl⟩ hF (hF _ _ hC.1.1) rfl rfl hl.1 rfl (Nat.le_of_ble_eq_true rfl) ⟨Nat.le_of_ble_eq_true rfl, Nat.le_of_ble_eq_true rfl⟩ dL_makeFile_5 [⟨0, 10, 13, 13⟩] ⟨0, 10, 17, 21⟩ [⟨0, 10, 21, 15⟩] htab (fun z hz => by rw [List.mem_singleton.mp hz]; exact Or.inr ⟨(by decide : 13 ≠ 0), rn_IO, hts _ (by decide +kernel), hE.2.2.1 (rn_IA, rn_IO) (by decide)⟩) (by decide) (by decide) (hts _ (by decide +kernel)) (by decide) (fun q9 H h1 h2 hS => ?_)
  refine lv_astore (lv' := [(4, .ref q9), (0, .ref h0), (1, .int (nI j)), (2, .int x), (3, .ref o)]) hx hb dL_makeFile_17 hl (by decide) rfl (fun ls hl => ?_)
  refine lv_iconst (v := 2) hx hb dL_makeFile_19 (by decide) ?_
  have hat8 := hat9.kept (h2 _ hat9.lt)
  have hF8 := hF.kept (fun q hq => h2 q (hF.lt hq))
  exact rn_Wiret hx hb hr rfl hlocks hS (by decide) (by decide) rfl ⟨rn_P_mk hV hC hF8 (fun x hx => Or.inl hx), g, fun h => absurd h (by decide), hat8⟩ dL_makeFile_20

set_option maxHeartbeats 4000000 in
set_option maxRecDepth 100000 in
theorem l_makeFile_s (l : Launch) (hfl : l.stackTraces = false) {D : va_G} {cR cP cF cL : ClassId} {h0 aR aP aF : Nat} {ra pa fa : Nat → Nat} {hd : Nat → Option Nat} {dh : Option Nat} {f : rn_T} {σ : rn_St} (hV : rn_V σ) (hC : rn_CI cR cP cF h0 aR aP aF ra pa fa hd dh f σ) {o : Nat} {g : Nat → Int64} (hfo : f o = none) {j k : Nat} (hj0 : j < σ.pn) (hk0 : k ≤ 15) (hfull : σ.fn = 20) (sz : Nat) : rn_LT l yL_makeFile wsL_makeFile ({ frames := 8, cells := 1, slots := 6, locals := 140 } : Room) D (rn_tyl cR cP cF cL) ((rn_LB D f o cL g)) [.ref h0, .int (nI j), .int (nI k), .ref o] (some (.int 3)) (rn_LP D cR cP cF h0 f sz σ o cL 3 0) (rn_LA f sz o) 1 6 sz := by
  refine rn_LT.ofW (hh := [(0, 10, 13, 13), (0, 10, 17, 21), (0, 10, 21, 15)]) (cc := cL_makeFile) (maxL := 5) (ret := (some .int)) (by decide) rfl (Nat.le_of_ble_eq_true rfl) (fun p e s m below meth c ls hx hb hr hml hts hown hlocks hsz hF9 hG hE htab hS hl => ?_)
  have hl : lv_has ls 5 [(0, .ref h0), (1, .int (nI j)), (2, .int (nI k)), (3, .ref o)] := hl
  subst hsz
  obtain ⟨hF, hat9⟩ := hF9
  have hG3 : rn_G D (rn_tys cR cP cF) s := ⟨hG.1.sub [0, 1, 2] rfl, hG.2⟩
  refine lv_aload_n hx hb dL_makeFile_0 rfl (lv_at hl 3 rfl) ?_
  refine lv_iconst (v := 0) hx hb dL_makeFile_1 (by decide) ?_
  refine lv_aload_n hx hb dL_makeFile_2 rfl (lv_at hl 0 rfl) ?_
  refine lv_iload_n hx hb dL_makeFile_3 rfl (lv_at hl 1 rfl) ?_
  refine lv_iload_n hx hb dL_makeFile_4 rfl (lv_at hl 2 rfl) ?_
  refine rn_xVc (As := [.int (nI j), .int (nI k)]) (rest := [.int 0, .ref o]) (E := rn_IS) 2 hx hb hml hown hts hG3 hE hS (x_makeFile_s l hfl hV hC hj0 hk0 hfull _) gL_makeFile_X4_makeFile rfl ⟨rfl, rfl⟩ (by decide +kernel) ⟨Nat.le_of_ble_eq_true rfl, Nat.le_of_ble_eq_true rfl⟩ hF (hF _ _ hC.1.1) rfl rfl hl.1 rfl (Nat.le_of_ble_eq_true rfl) ⟨Nat.le_of_ble_eq_true rfl, Nat.le_of_ble_eq_true rfl⟩ dL_makeFile_5 [⟨0, 10, 13, 13⟩, ⟨0, 10, 17, 21⟩] ⟨0, 10, 21, 15⟩ [] htab (fun z hz => by rcases List.mem_cons.mp hz with rfl | hz; exact Or.inr ⟨(by decide : 13 ≠ 0), rn_IO, hts _ (by decide +kernel), hE.2.2.1 (rn_IS, rn_IO) (by decide)⟩; rw [List.mem_singleton.mp hz]; exact Or.inr ⟨(by decide : 21 ≠ 0), rn_IA, hts _ (by decide +kernel), hE.2.2.1 (rn_IS, rn_IA) (by decide)⟩) (by decide) (by decide) (hts _ (by decide +kernel)) (by decide) (fun q9 H h1 h2 hS => ?_)
  refine lv_astore (lv' := [(4, .ref q9), (0, .ref h0), (1, .int (nI j)), (2, .int (nI k)), (3, .ref o)]) hx hb dL_makeFile_21 hl (by decide) rfl (fun ls hl => ?_)
  refine lv_iconst (v := 3) hx hb dL_makeFile_23 (by decide) ?_
  have hat8 := hat9.kept (h2 _ hat9.lt)
  have hF8 := hF.kept (fun q hq => h2 q (hF.lt hq))
  exact rn_Wiret hx hb hr rfl hlocks hS (by decide) (by decide) rfl ⟨rn_P_mk hV hC hF8 (fun x hx => Or.inl hx), g, fun h => absurd h (by decide), hat8⟩ dL_makeFile_24

set_option maxHeartbeats 4000000 in
set_option maxRecDepth 100000 in
theorem l_makeFile_o (l : Launch) {D : va_G} {cR cP cF cL : ClassId} {h0 aR aP aF : Nat} {ra pa fa : Nat → Nat} {hd : Nat → Option Nat} {dh : Option Nat} {f : rn_T} {σ : rn_St} (hV : rn_V σ) (hC : rn_CI cR cP cF h0 aR aP aF ra pa fa hd dh f σ) {o : Nat} {g : Nat → Int64} (hfo : f o = none) {j k : Nat} (hj0 : j < σ.pn) (hk0 : k ≤ 15) (hn0 : σ.fn < 20) (sz : Nat) : rn_LT l yL_makeFile wsL_makeFile ({ frames := 8, cells := 1, slots := 6, locals := 140 } : Room) D (rn_tyl cR cP cF cL) ((rn_LB D f o cL g)) [.ref h0, .int (nI j), .int (nI k), .ref o] (some (.int 0)) (rn_LP D cR cP cF h0 f sz ((rn_o_makeFile σ j (nI k)).2) o cL 0 ((rn_o_makeFile σ j (nI k)).1)) (rn_LA f sz o) 1 6 sz := by
  refine rn_LT.ofW (hh := [(0, 10, 13, 13), (0, 10, 17, 21), (0, 10, 21, 15)]) (cc := cL_makeFile) (maxL := 5) (ret := (some .int)) (by decide) rfl (Nat.le_of_ble_eq_true rfl) (fun p e s m below meth c ls hx hb hr hml hts hown hlocks hsz hF9 hG hE htab hS hl => ?_)
  have hl : lv_has ls 5 [(0, .ref h0), (1, .int (nI j)), (2, .int (nI k)), (3, .ref o)] := hl
  subst hsz
  obtain ⟨hF, hat9⟩ := hF9
  have hG3 : rn_G D (rn_tys cR cP cF) s := ⟨hG.1.sub [0, 1, 2] rfl, hG.2⟩
  refine lv_aload_n hx hb dL_makeFile_0 rfl (lv_at hl 3 rfl) ?_
  refine lv_iconst (v := 0) hx hb dL_makeFile_1 (by decide) ?_
  refine lv_aload_n hx hb dL_makeFile_2 rfl (lv_at hl 0 rfl) ?_
  refine lv_iload_n hx hb dL_makeFile_3 rfl (lv_at hl 1 rfl) ?_
  refine lv_iload_n hx hb dL_makeFile_4 rfl (lv_at hl 2 rfl) ?_
  refine rn_wV (As := [.int (nI j), .int (nI k)]) (rest := [.int 0, .ref o]) 2 hx hb hml hown hts hG3 hS (w_makeFile l hV hC hj0 hk0 hn0 _) (fun q h => Or.inr h) gL_makeFile_X4_makeFile rfl ⟨rfl, rfl⟩ (by decide +kernel) ⟨Nat.le_of_ble_eq_true rfl, Nat.le_of_ble_eq_true rfl⟩ hF (hF _ _ hC.1.1) rfl rfl hl.1 rfl (Nat.le_of_ble_eq_true rfl) ⟨Nat.le_of_ble_eq_true rfl, Nat.le_of_ble_eq_true rfl⟩ dL_makeFile_5 (fun H locs hP1 hz hk hS => ?_)
  have hat8 := hat9.kept (hk _ hat9.lt (fun h => h.elim (fun h => h hfo) (fun h => absurd h (Nat.not_le.mpr hat9.lt))))
  refine W.eq (g2 := F0 m 8 ls [.int ((rn_o_makeFile σ j (nI k)).1), .int 0, .ref o]) rfl ?_
  refine lv_i2l hx hb dL_makeFile_8 rfl ?_
  refine rn_last (A := (rn_LA f s.heap.size o)) hx hb hG hS (Or.inl rfl) hat8 3 rfl dL_makeFile_9 (fun H locs hat hz ho hS => ?_)
  refine lv_goto (tgt := 25) hx hb dL_makeFile_10 (by decide) ?_
  refine lv_iconst (v := 0) hx hb dL_makeFile_25 (by decide) ?_
  exact rn_Wiret hx hb hr rfl hlocks hS (by decide) (by decide) rfl ⟨hP1.out ho hfo hat9.lt, _, fun _ => pk_uLs, hat⟩ dL_makeFile_26

set_option maxHeartbeats 4000000 in
set_option maxRecDepth 100000 in
theorem l_handOver_p (l : Launch) (hfl : l.stackTraces = false) {D : va_G} {cR cP cF cL : ClassId} {h0 aR aP aF : Nat} {ra pa fa : Nat → Nat} {hd : Nat → Option Nat} {dh : Option Nat} {f : rn_T} {σ : rn_St} (hV : rn_V σ) (hC : rn_CI cR cP cF h0 aR aP aF ra pa fa hd dh f σ) {o : Nat} {g : Nat → Int64} (hfo : f o = none) {x e1 e2 : Int32} (hno : ¬ ∃ i, i < σ.pn ∧ x = nI i) (sz : Nat) : rn_LT l yL_handOver wsL_handOver ({ frames := 8, cells := 1, slots := 6, locals := 140 } : Room) D (rn_tyl cR cP cF cL) ((rn_LB D f o cL g)) [.ref h0, .int x, .int e1, .int e2, .ref o] (some (.int 1)) (rn_LP D cR cP cF h0 f sz σ o cL 1 0) (rn_LA f sz o) 1 6 sz := by
  refine rn_LT.ofW (hh := [(0, 12, 15, 13), (0, 12, 19, 21)]) (cc := cL_handOver) (maxL := 6) (ret := (some .int)) (by decide) rfl (Nat.le_of_ble_eq_true rfl) (fun p e s m below meth c ls hx hb hr hml hts hown hlocks hsz hF9 hG hE htab hS hl => ?_)
  have hl : lv_has ls 6 [(0, .ref h0), (1, .int x), (2, .int e1), (3, .int e2), (4, .ref o)] := hl
  subst hsz
  obtain ⟨hF, hat9⟩ := hF9
  have hG3 : rn_G D (rn_tys cR cP cF) s := ⟨hG.1.sub [0, 1, 2] rfl, hG.2⟩
  refine lv_aload hx hb dL_handOver_0 (lv_at hl 4 rfl) ?_
  refine lv_iconst (v := 0) hx hb dL_handOver_2 (by decide) ?_
  refine lv_aload_n hx hb dL_handOver_3 rfl (lv_at hl 0 rfl) ?_
  refine lv_iload_n hx hb dL_handOver_4 rfl (lv_at hl 1 rfl) ?_
  refine lv_iload_n hx hb dL_handOver_5 rfl (lv_at hl 2 rfl) ?_
  refine lv_iload_n hx hb dL_handOver_6 rfl (lv_at hl 3 rfl) ?_
  refine rn_xVc (As := [.int x, .int e1, .int e2]) (rest := [.int 0, .ref o]) (E := rn_IO) 3 hx hb hml hown hts hG3 hE hS (x_handOver_p l hfl hV hC hno _) gL_handOver_X4_handOver rfl ⟨rfl, rfl⟩ (by decide +kernel) ⟨Nat.le_of_ble_eq_true rfl, Nat.le_of_ble_eq_true rfl⟩ hF (hF _ _ hC.1.1) rfl rfl hl.1 rfl (Nat.le_of_ble_eq_true rfl) ⟨Nat.le_of_ble_eq_true rfl, Nat.le_of_ble_eq_true rfl⟩ dL_handOver_7 [] ⟨0, 12, 15, 13⟩ [⟨0, 12, 19, 21⟩] htab (fun z hz => nomatch hz) (by decide) (by decide) (hts _ (by decide +kernel)) (by decide) (fun q9 H h1 h2 hS => ?_)
  refine lv_astore (lv' := [(5, .ref q9), (0, .ref h0), (1, .int x), (2, .int e1), (3, .int e2), (4, .ref o)]) hx hb dL_handOver_15 hl (by decide) rfl (fun ls hl => ?_)
  refine lv_iconst (v := 1) hx hb dL_handOver_17 (by decide) ?_
  have hat8 := hat9.kept (h2 _ hat9.lt)
  have hF8 := hF.kept (fun q hq => h2 q (hF.lt hq))
  exact rn_Wiret hx hb hr rfl hlocks hS (by decide) (by decide) rfl ⟨rn_P_mk hV hC hF8 (fun x hx => Or.inl hx), g, fun h => absurd h (by decide), hat8⟩ dL_handOver_18

set_option maxHeartbeats 4000000 in
set_option maxRecDepth 100000 in
theorem l_handOver_f (l : Launch) (hfl : l.stackTraces = false) {D : va_G} {cR cP cF cL : ClassId} {h0 aR aP aF : Nat} {ra pa fa : Nat → Nat} {hd : Nat → Option Nat} {dh : Option Nat} {f : rn_T} {σ : rn_St} (hV : rn_V σ) (hC : rn_CI cR cP cF h0 aR aP aF ra pa fa hd dh f σ) {o : Nat} {g : Nat → Int64} (hfo : f o = none) {j : Nat} (hj0 : j < σ.pn) {x e2 : Int32} (hno : ¬ ∃ i, i < σ.fn ∧ x = nI i) (sz : Nat) : rn_LT l yL_handOver wsL_handOver ({ frames := 8, cells := 1, slots := 6, locals := 140 } : Room) D (rn_tyl cR cP cF cL) ((rn_LB D f o cL g)) [.ref h0, .int (nI j), .int x, .int e2, .ref o] (some (.int 1)) (rn_LP D cR cP cF h0 f sz σ o cL 1 0) (rn_LA f sz o) 1 6 sz := by
  refine rn_LT.ofW (hh := [(0, 12, 15, 13), (0, 12, 19, 21)]) (cc := cL_handOver) (maxL := 6) (ret := (some .int)) (by decide) rfl (Nat.le_of_ble_eq_true rfl) (fun p e s m below meth c ls hx hb hr hml hts hown hlocks hsz hF9 hG hE htab hS hl => ?_)
  have hl : lv_has ls 6 [(0, .ref h0), (1, .int (nI j)), (2, .int x), (3, .int e2), (4, .ref o)] := hl
  subst hsz
  obtain ⟨hF, hat9⟩ := hF9
  have hG3 : rn_G D (rn_tys cR cP cF) s := ⟨hG.1.sub [0, 1, 2] rfl, hG.2⟩
  refine lv_aload hx hb dL_handOver_0 (lv_at hl 4 rfl) ?_
  refine lv_iconst (v := 0) hx hb dL_handOver_2 (by decide) ?_
  refine lv_aload_n hx hb dL_handOver_3 rfl (lv_at hl 0 rfl) ?_
  refine lv_iload_n hx hb dL_handOver_4 rfl (lv_at hl 1 rfl) ?_
  refine lv_iload_n hx hb dL_handOver_5 rfl (lv_at hl 2 rfl) ?_
  refine lv_iload_n hx hb dL_handOver_6 rfl (lv_at hl 3 rfl) ?_
  refine rn_xVc (As := [.int (nI j), .int x, .int e2]) (rest := [.int 0, .ref o]) (E := rn_IO) 3 hx hb hml hown hts hG3 hE hS (x_handOver_f l hfl hV hC hj0 hno _) gL_handOver_X4_handOver rfl ⟨rfl, rfl⟩ (by decide +kernel) ⟨Nat.le_of_ble_eq_true rfl, Nat.le_of_ble_eq_true rfl⟩ hF (hF _ _ hC.1.1) rfl rfl hl.1 rfl (Nat.le_of_ble_eq_true rfl) ⟨Nat.le_of_ble_eq_true rfl, Nat.le_of_ble_eq_true rfl⟩ dL_handOver_7 [] ⟨0, 12, 15, 13⟩ [⟨0, 12, 19, 21⟩] htab (fun z hz => nomatch hz) (by decide) (by decide) (hts _ (by decide +kernel)) (by decide) (fun q9 H h1 h2 hS => ?_)
  refine lv_astore (lv' := [(5, .ref q9), (0, .ref h0), (1, .int (nI j)), (2, .int x), (3, .int e2), (4, .ref o)]) hx hb dL_handOver_15 hl (by decide) rfl (fun ls hl => ?_)
  refine lv_iconst (v := 1) hx hb dL_handOver_17 (by decide) ?_
  have hat8 := hat9.kept (h2 _ hat9.lt)
  have hF8 := hF.kept (fun q hq => h2 q (hF.lt hq))
  exact rn_Wiret hx hb hr rfl hlocks hS (by decide) (by decide) rfl ⟨rn_P_mk hV hC hF8 (fun x hx => Or.inl hx), g, fun h => absurd h (by decide), hat8⟩ dL_handOver_18

set_option maxHeartbeats 4000000 in
set_option maxRecDepth 100000 in
theorem l_handOver_n (l : Launch) (hfl : l.stackTraces = false) {D : va_G} {cR cP cF cL : ClassId} {h0 aR aP aF : Nat} {ra pa fa : Nat → Nat} {hd : Nat → Option Nat} {dh : Option Nat} {f : rn_T} {σ : rn_St} (hV : rn_V σ) (hC : rn_CI cR cP cF h0 aR aP aF ra pa fa hd dh f σ) {o : Nat} {g : Nat → Int64} (hfo : f o = none) {j k : Nat} (hj0 : j < σ.pn) (hk0 : k < σ.fn) {x : Int32} (hbad : x < 0 ∨ nI 998 < x) (sz : Nat) : rn_LT l yL_handOver wsL_handOver ({ frames := 8, cells := 1, slots := 6, locals := 140 } : Room) D (rn_tyl cR cP cF cL) ((rn_LB D f o cL g)) [.ref h0, .int (nI j), .int (nI k), .int x, .ref o] (some (.int 2)) (rn_LP D cR cP cF h0 f sz σ o cL 2 0) (rn_LA f sz o) 1 6 sz := by
  refine rn_LT.ofW (hh := [(0, 12, 15, 13), (0, 12, 19, 21)]) (cc := cL_handOver) (maxL := 6) (ret := (some .int)) (by decide) rfl (Nat.le_of_ble_eq_true rfl) (fun p e s m below meth c ls hx hb hr hml hts hown hlocks hsz hF9 hG hE htab hS hl => ?_)
  have hl : lv_has ls 6 [(0, .ref h0), (1, .int (nI j)), (2, .int (nI k)), (3, .int x), (4, .ref o)] := hl
  subst hsz
  obtain ⟨hF, hat9⟩ := hF9
  have hG3 : rn_G D (rn_tys cR cP cF) s := ⟨hG.1.sub [0, 1, 2] rfl, hG.2⟩
  refine lv_aload hx hb dL_handOver_0 (lv_at hl 4 rfl) ?_
  refine lv_iconst (v := 0) hx hb dL_handOver_2 (by decide) ?_
  refine lv_aload_n hx hb dL_handOver_3 rfl (lv_at hl 0 rfl) ?_
  refine lv_iload_n hx hb dL_handOver_4 rfl (lv_at hl 1 rfl) ?_
  refine lv_iload_n hx hb dL_handOver_5 rfl (lv_at hl 2 rfl) ?_
  refine lv_iload_n hx hb dL_handOver_6 rfl (lv_at hl 3 rfl) ?_
  refine rn_xVc (As := [.int (nI j), .int (nI k), .int x]) (rest := [.int 0, .ref o]) (E := rn_IA) 3 hx hb hml hown hts hG3 hE hS (x_handOver_n l hfl hV hC hj0 hk0 hbad _) gL_handOver_X4_handOver rfl ⟨rfl, rfl⟩ (by decide +kernel) ⟨Nat.le_of_ble_eq_true rfl, Nat.le_of_ble_eq_true rfl⟩ hF (hF _ _ hC.1.1) rfl rfl hl.1 rfl (Nat.le_of_ble_eq_true rfl) ⟨Nat.le_of_ble_eq_true rfl, Nat.le_of_ble_eq_true rfl⟩ dL_handOver_7 [⟨0, 12, 15, 13⟩] ⟨0, 12, 19, 21⟩ [] htab (fun z hz => by rw [List.mem_singleton.mp hz]; exact Or.inr ⟨(by decide : 13 ≠ 0), rn_IO, hts _ (by decide +kernel), hE.2.2.1 (rn_IA, rn_IO) (by decide)⟩) (by decide) (by decide) (hts _ (by decide +kernel)) (by decide) (fun q9 H h1 h2 hS => ?_)
  refine lv_astore (lv' := [(5, .ref q9), (0, .ref h0), (1, .int (nI j)), (2, .int (nI k)), (3, .int x), (4, .ref o)]) hx hb dL_handOver_19 hl (by decide) rfl (fun ls hl => ?_)
  refine lv_iconst (v := 2) hx hb dL_handOver_21 (by decide) ?_
  have hat8 := hat9.kept (h2 _ hat9.lt)
  have hF8 := hF.kept (fun q hq => h2 q (hF.lt hq))
  exact rn_Wiret hx hb hr rfl hlocks hS (by decide) (by decide) rfl ⟨rn_P_mk hV hC hF8 (fun x hx => Or.inl hx), g, fun h => absurd h (by decide), hat8⟩ dL_handOver_22

set_option maxHeartbeats 4000000 in
set_option maxRecDepth 100000 in
theorem l_handOver_o (l : Launch) {D : va_G} {cR cP cF cL : ClassId} {h0 aR aP aF : Nat} {ra pa fa : Nat → Nat} {hd : Nat → Option Nat} {dh : Option Nat} {f : rn_T} {σ : rn_St} (hV : rn_V σ) (hC : rn_CI cR cP cF h0 aR aP aF ra pa fa hd dh f σ) {o : Nat} {g : Nat → Int64} (hfo : f o = none) {j k x : Nat} (hj0 : j < σ.pn) (hk0 : k < σ.fn) (hx0 : x ≤ 998) (sz : Nat) : rn_LT l yL_handOver wsL_handOver ({ frames := 8, cells := 1, slots := 6, locals := 140 } : Room) D (rn_tyl cR cP cF cL) ((rn_LB D f o cL g)) [.ref h0, .int (nI j), .int (nI k), .int (nI x), .ref o] (some (.int 0)) (rn_LP D cR cP cF h0 f sz ((rn_o_handOver σ j k x).2) o cL 0 ((rn_o_handOver σ j k x).1)) (rn_LA f sz o) 1 6 sz := by
  refine rn_LT.ofW (hh := [(0, 12, 15, 13), (0, 12, 19, 21)]) (cc := cL_handOver) (maxL := 6) (ret := (some .int)) (by decide) rfl (Nat.le_of_ble_eq_true rfl) (fun p e s m below meth c ls hx hb hr hml hts hown hlocks hsz hF9 hG hE htab hS hl => ?_)
  have hl : lv_has ls 6 [(0, .ref h0), (1, .int (nI j)), (2, .int (nI k)), (3, .int (nI x)), (4, .ref o)] := hl
  subst hsz
  obtain ⟨hF, hat9⟩ := hF9
  have hG3 : rn_G D (rn_tys cR cP cF) s := ⟨hG.1.sub [0, 1, 2] rfl, hG.2⟩
  refine lv_aload hx hb dL_handOver_0 (lv_at hl 4 rfl) ?_
  refine lv_iconst (v := 0) hx hb dL_handOver_2 (by decide) ?_
  refine lv_aload_n hx hb dL_handOver_3 rfl (lv_at hl 0 rfl) ?_
  refine lv_iload_n hx hb dL_handOver_4 rfl (lv_at hl 1 rfl) ?_
  refine lv_iload_n hx hb dL_handOver_5 rfl (lv_at hl 2 rfl) ?_
  refine lv_iload_n hx hb dL_handOver_6 rfl (lv_at hl 3 rfl) ?_
  refine rn_wV (As := [.int (nI j), .int (nI k), .int (nI x)]) (rest := [.int 0, .ref o]) 3 hx hb hml hown hts hG3 hS (w_handOver l hV hC hj0 hk0 hx0 _) (fun q h => Or.inr h) gL_handOver_X4_handOver rfl ⟨rfl, rfl⟩ (by decide +kernel) ⟨Nat.le_of_ble_eq_true rfl, Nat.le_of_ble_eq_true rfl⟩ hF (hF _ _ hC.1.1) rfl rfl hl.1 rfl (Nat.le_of_ble_eq_true rfl) ⟨Nat.le_of_ble_eq_true rfl, Nat.le_of_ble_eq_true rfl⟩ dL_handOver_7 (fun H locs hP1 hz hk hS => ?_)
  have hat8 := hat9.kept (hk _ hat9.lt (fun h => h.elim (fun h => h hfo) (fun h => absurd h (Nat.not_le.mpr hat9.lt))))
  refine W.eq (g2 := F0 m 10 ls [.int ((rn_o_handOver σ j k x).1), .int 0, .ref o]) rfl ?_
  refine lv_i2l hx hb dL_handOver_10 rfl ?_
  refine rn_last (A := (rn_LA f s.heap.size o)) hx hb hG hS (Or.inl rfl) hat8 3 rfl dL_handOver_11 (fun H locs hat hz ho hS => ?_)
  refine lv_goto (tgt := 23) hx hb dL_handOver_12 (by decide) ?_
  refine lv_iconst (v := 0) hx hb dL_handOver_23 (by decide) ?_
  exact rn_Wiret hx hb hr rfl hlocks hS (by decide) (by decide) rfl ⟨hP1.out ho hfo hat9.lt, _, fun _ => pk_uLs, hat⟩ dL_handOver_24

set_option maxHeartbeats 4000000 in
set_option maxRecDepth 100000 in
theorem l_open_p (l : Launch) (hfl : l.stackTraces = false) {D : va_G} {cR cP cF cL : ClassId} {h0 aR aP aF : Nat} {ra pa fa : Nat → Nat} {hd : Nat → Option Nat} {dh : Option Nat} {f : rn_T} {σ : rn_St} (hV : rn_V σ) (hC : rn_CI cR cP cF h0 aR aP aF ra pa fa hd dh f σ) {o : Nat} {g : Nat → Int64} (hfo : f o = none) {x e1 e2 : Int32} (hno : ¬ ∃ i, i < σ.pn ∧ x = nI i) (sz : Nat) : rn_LT l yL_open wsL_open ({ frames := 8, cells := 1, slots := 6, locals := 140 } : Room) D (rn_tyl cR cP cF cL) ((rn_LB D f o cL g)) [.ref h0, .int x, .int e1, .int e2, .ref o] (some (.int 1)) (rn_LP D cR cP cF h0 f sz σ o cL 1 0) (rn_LA f sz o) 1 6 sz := by
  refine rn_LT.ofW (hh := [(0, 12, 15, 13)]) (cc := cL_open) (maxL := 6) (ret := (some .int)) (by decide) rfl (Nat.le_of_ble_eq_true rfl) (fun p e s m below meth c ls hx hb hr hml hts hown hlocks hsz hF9 hG hE htab hS hl => ?_)
  have hl : lv_has ls 6 [(0, .ref h0), (1, .int x), (2, .int e1), (3, .int e2), (4, .ref o)] := hl
  subst hsz
  obtain ⟨hF, hat9⟩ := hF9
  have hG3 : rn_G D (rn_tys cR cP cF) s := ⟨hG.1.sub [0, 1, 2] rfl, hG.2⟩
  refine lv_aload hx hb dL_open_0 (lv_at hl 4 rfl) ?_
  refine lv_iconst (v := 0) hx hb dL_open_2 (by decide) ?_
  refine lv_aload_n hx hb dL_open_3 rfl (lv_at hl 0 rfl) ?_
  refine lv_iload_n hx hb dL_open_4 rfl (lv_at hl 1 rfl) ?_
  refine lv_iload_n hx hb dL_open_5 rfl (lv_at hl 2 rfl) ?_
  refine lv_iload_n hx hb dL_open_6 rfl (lv_at hl 3 rfl) ?_
  refine rn_xVc (As := [.int x, .int e1, .int e2]) (rest := [.int 0, .ref o]) (E := rn_IO) 3 hx hb hml hown hts hG3 hE hS (x_open_p l hfl hV hC hno _) gL_open_X4_open rfl ⟨rfl, rfl⟩ (by decide +kernel) ⟨Nat.le_of_ble_eq_true rfl, Nat.le_of_ble_eq_true rfl⟩ hF (hF _ _ hC.1.1) rfl rfl hl.1 rfl (Nat.le_of_ble_eq_true rfl) ⟨Nat.le_of_ble_eq_true rfl, Nat.le_of_ble_eq_true rfl⟩ dL_open_7 [] ⟨0, 12, 15, 13⟩ [] htab (fun z hz => nomatch hz) (by decide) (by decide) (hts _ (by decide +kernel)) (by decide) (fun q9 H h1 h2 hS => ?_)
  refine lv_astore (lv' := [(5, .ref q9), (0, .ref h0), (1, .int x), (2, .int e1), (3, .int e2), (4, .ref o)]) hx hb dL_open_15 hl (by decide) rfl (fun ls hl => ?_)
  refine lv_iconst (v := 1) hx hb dL_open_17 (by decide) ?_
  have hat8 := hat9.kept (h2 _ hat9.lt)
  have hF8 := hF.kept (fun q hq => h2 q (hF.lt hq))
  exact rn_Wiret hx hb hr rfl hlocks hS (by decide) (by decide) rfl ⟨rn_P_mk hV hC hF8 (fun x hx => Or.inl hx), g, fun h => absurd h (by decide), hat8⟩ dL_open_18

set_option maxHeartbeats 4000000 in
set_option maxRecDepth 100000 in
theorem l_open_f (l : Launch) (hfl : l.stackTraces = false) {D : va_G} {cR cP cF cL : ClassId} {h0 aR aP aF : Nat} {ra pa fa : Nat → Nat} {hd : Nat → Option Nat} {dh : Option Nat} {f : rn_T} {σ : rn_St} (hV : rn_V σ) (hC : rn_CI cR cP cF h0 aR aP aF ra pa fa hd dh f σ) {o : Nat} {g : Nat → Int64} (hfo : f o = none) {j : Nat} (hj0 : j < σ.pn) {x e2 : Int32} (hno : ¬ ∃ i, i < σ.fn ∧ x = nI i) (sz : Nat) : rn_LT l yL_open wsL_open ({ frames := 8, cells := 1, slots := 6, locals := 140 } : Room) D (rn_tyl cR cP cF cL) ((rn_LB D f o cL g)) [.ref h0, .int (nI j), .int x, .int e2, .ref o] (some (.int 1)) (rn_LP D cR cP cF h0 f sz σ o cL 1 0) (rn_LA f sz o) 1 6 sz := by
  refine rn_LT.ofW (hh := [(0, 12, 15, 13)]) (cc := cL_open) (maxL := 6) (ret := (some .int)) (by decide) rfl (Nat.le_of_ble_eq_true rfl) (fun p e s m below meth c ls hx hb hr hml hts hown hlocks hsz hF9 hG hE htab hS hl => ?_)
  have hl : lv_has ls 6 [(0, .ref h0), (1, .int (nI j)), (2, .int x), (3, .int e2), (4, .ref o)] := hl
  subst hsz
  obtain ⟨hF, hat9⟩ := hF9
  have hG3 : rn_G D (rn_tys cR cP cF) s := ⟨hG.1.sub [0, 1, 2] rfl, hG.2⟩
  refine lv_aload hx hb dL_open_0 (lv_at hl 4 rfl) ?_
  refine lv_iconst (v := 0) hx hb dL_open_2 (by decide) ?_
  refine lv_aload_n hx hb dL_open_3 rfl (lv_at hl 0 rfl) ?_
  refine lv_iload_n hx hb dL_open_4 rfl (lv_at hl 1 rfl) ?_
  refine lv_iload_n hx hb dL_open_5 rfl (lv_at hl 2 rfl) ?_
  refine lv_iload_n hx hb dL_open_6 rfl (lv_at hl 3 rfl) ?_
  refine rn_xVc (As := [.int (nI j), .int x, .int e2]) (rest := [.int 0, .ref o]) (E := rn_IO) 3 hx hb hml hown hts hG3 hE hS (x_open_f l hfl hV hC hj0 hno _) gL_open_X4_open rfl ⟨rfl, rfl⟩ (by decide +kernel) ⟨Nat.le_of_ble_eq_true rfl, Nat.le_of_ble_eq_true rfl⟩ hF (hF _ _ hC.1.1) rfl rfl hl.1 rfl (Nat.le_of_ble_eq_true rfl) ⟨Nat.le_of_ble_eq_true rfl, Nat.le_of_ble_eq_true rfl⟩ dL_open_7 [] ⟨0, 12, 15, 13⟩ [] htab (fun z hz => nomatch hz) (by decide) (by decide) (hts _ (by decide +kernel)) (by decide) (fun q9 H h1 h2 hS => ?_)
  refine lv_astore (lv' := [(5, .ref q9), (0, .ref h0), (1, .int (nI j)), (2, .int x), (3, .int e2), (4, .ref o)]) hx hb dL_open_15 hl (by decide) rfl (fun ls hl => ?_)
  refine lv_iconst (v := 1) hx hb dL_open_17 (by decide) ?_
  have hat8 := hat9.kept (h2 _ hat9.lt)
  have hF8 := hF.kept (fun q hq => h2 q (hF.lt hq))
  exact rn_Wiret hx hb hr rfl hlocks hS (by decide) (by decide) rfl ⟨rn_P_mk hV hC hF8 (fun x hx => Or.inl hx), g, fun h => absurd h (by decide), hat8⟩ dL_open_18

set_option maxHeartbeats 4000000 in
set_option maxRecDepth 100000 in
theorem l_open_o (l : Launch) {D : va_G} {cR cP cF cL : ClassId} {h0 aR aP aF : Nat} {ra pa fa : Nat → Nat} {hd : Nat → Option Nat} {dh : Option Nat} {f : rn_T} {σ : rn_St} (hV : rn_V σ) (hC : rn_CI cR cP cF h0 aR aP aF ra pa fa hd dh f σ) {o : Nat} {g : Nat → Int64} (hfo : f o = none) {j k : Nat} {wb : Bool} (hj0 : j < σ.pn) (hk0 : k < σ.fn) (sz : Nat) : rn_LT l yL_open wsL_open ({ frames := 8, cells := 1, slots := 6, locals := 140 } : Room) D (rn_tyl cR cP cF cL) ((rn_LB D f o cL g)) [.ref h0, .int (nI j), .int (nI k), .int (rn_b wb), .ref o] (some (.int 0)) (rn_LP D cR cP cF h0 f sz ((rn_o_open σ j k wb).2) o cL 0 ((rn_o_open σ j k wb).1)) (rn_LA f sz o) 1 6 sz := by
  refine rn_LT.ofW (hh := [(0, 12, 15, 13)]) (cc := cL_open) (maxL := 6) (ret := (some .int)) (by decide) rfl (Nat.le_of_ble_eq_true rfl) (fun p e s m below meth c ls hx hb hr hml hts hown hlocks hsz hF9 hG hE htab hS hl => ?_)
  have hl : lv_has ls 6 [(0, .ref h0), (1, .int (nI j)), (2, .int (nI k)), (3, .int (rn_b wb)), (4, .ref o)] := hl
  subst hsz
  obtain ⟨hF, hat9⟩ := hF9
  have hG3 : rn_G D (rn_tys cR cP cF) s := ⟨hG.1.sub [0, 1, 2] rfl, hG.2⟩
  refine lv_aload hx hb dL_open_0 (lv_at hl 4 rfl) ?_
  refine lv_iconst (v := 0) hx hb dL_open_2 (by decide) ?_
  refine lv_aload_n hx hb dL_open_3 rfl (lv_at hl 0 rfl) ?_
  refine lv_iload_n hx hb dL_open_4 rfl (lv_at hl 1 rfl) ?_
  refine lv_iload_n hx hb dL_open_5 rfl (lv_at hl 2 rfl) ?_
  refine lv_iload_n hx hb dL_open_6 rfl (lv_at hl 3 rfl) ?_
  refine rn_wV (As := [.int (nI j), .int (nI k), .int (rn_b wb)]) (rest := [.int 0, .ref o]) 3 hx hb hml hown hts hG3 hS (w_open l hV hC hj0 hk0 _) (fun q h => Or.inr h) gL_open_X4_open rfl ⟨rfl, rfl⟩ (by decide +kernel) ⟨Nat.le_of_ble_eq_true rfl, Nat.le_of_ble_eq_true rfl⟩ hF (hF _ _ hC.1.1) rfl rfl hl.1 rfl (Nat.le_of_ble_eq_true rfl) ⟨Nat.le_of_ble_eq_true rfl, Nat.le_of_ble_eq_true rfl⟩ dL_open_7 (fun H locs hP1 hz hk hS => ?_)
  have hat8 := hat9.kept (hk _ hat9.lt (fun h => h.elim (fun h => h hfo) (fun h => absurd h (Nat.not_le.mpr hat9.lt))))
  refine W.eq (g2 := F0 m 10 ls [.int ((rn_o_open σ j k wb).1), .int 0, .ref o]) rfl ?_
  refine lv_i2l hx hb dL_open_10 rfl ?_
  refine rn_last (A := (rn_LA f s.heap.size o)) hx hb hG hS (Or.inl rfl) hat8 3 rfl dL_open_11 (fun H locs hat hz ho hS => ?_)
  refine lv_goto (tgt := 19) hx hb dL_open_12 (by decide) ?_
  refine lv_iconst (v := 0) hx hb dL_open_19 (by decide) ?_
  exact rn_Wiret hx hb hr rfl hlocks hS (by decide) (by decide) rfl ⟨hP1.out ho hfo hat9.lt, _, fun _ => pk_uLs, hat⟩ dL_open_20

set_option maxHeartbeats 4000000 in
set_option maxRecDepth 100000 in
theorem l_ownerSeenBy_p (l : Launch) (hfl : l.stackTraces = false) {D : va_G} {cR cP cF cL : ClassId} {h0 aR aP aF : Nat} {ra pa fa : Nat → Nat} {hd : Nat → Option Nat} {dh : Option Nat} {f : rn_T} {σ : rn_St} (hV : rn_V σ) (hC : rn_CI cR cP cF h0 aR aP aF ra pa fa hd dh f σ) {o : Nat} {g : Nat → Int64} (hfo : f o = none) {x e1 : Int32} (hno : ¬ ∃ i, i < σ.pn ∧ x = nI i) (sz : Nat) : rn_LT l yL_ownerSeenBy wsL_ownerSeenBy ({ frames := 8, cells := 1, slots := 6, locals := 140 } : Room) D (rn_tyl cR cP cF cL) ((rn_LB D f o cL g)) [.ref h0, .int x, .int e1, .ref o] (some (.int 1)) (rn_LP D cR cP cF h0 f sz σ o cL 1 0) (rn_LA f sz o) 1 6 sz := by
  refine rn_LT.ofW (hh := [(0, 10, 13, 13)]) (cc := cL_ownerSeenBy) (maxL := 5) (ret := (some .int)) (by decide) rfl (Nat.le_of_ble_eq_true rfl) (fun p e s m below meth c ls hx hb hr hml hts hown hlocks hsz hF9 hG hE htab hS hl => ?_)
  have hl : lv_has ls 5 [(0, .ref h0), (1, .int x), (2, .int e1), (3, .ref o)] := hl
  subst hsz
  obtain ⟨hF, hat9⟩ := hF9
  have hG3 : rn_G D (rn_tys cR cP cF) s := ⟨hG.1.sub [0, 1, 2] rfl, hG.2⟩
  refine lv_aload_n hx hb dL_ownerSeenBy_0 rfl (lv_at hl 3 rfl) ?_
  refine lv_iconst (v := 0) hx hb dL_ownerSeenBy_1 (by decide) ?_
  refine lv_aload_n hx hb dL_ownerSeenBy_2 rfl (lv_at hl 0 rfl) ?_
  refine lv_iload_n hx hb dL_ownerSeenBy_3 rfl (lv_at hl 1 rfl) ?_
  refine lv_iload_n hx hb dL_ownerSeenBy_4 rfl (lv_at hl 2 rfl) ?_
  refine rn_xVc (As := [.int x, .int e1]) (rest := [.int 0, .ref o]) (E := rn_IO) 2 hx hb hml hown hts hG3 hE hS (x_ownerSeenBy_p l hfl hV hC hno _) gL_ownerSeenBy_X4_ownerSeenBy rfl ⟨rfl, rfl⟩ (by decide +kernel) ⟨Nat.le_of_ble_eq_true rfl, Nat.le_of_ble_eq_true rfl⟩ hF (hF _ _ hC.1.1) rfl rfl hl.1 rfl (Nat.le_of_ble_eq_true rfl) ⟨Nat.le_of_ble_eq_true rfl, Nat.le_of_ble_eq_true rfl⟩ dL_ownerSeenBy_5 [] ⟨0, 10, 13, 13⟩ [] htab (fun z hz => nomatch hz) (by decide) (by decide) (hts _ (by decide +kernel)) (by decide) (fun q9 H h1 h2 hS => ?_)
  refine lv_astore (lv' := [(4, .ref q9), (0, .ref h0), (1, .int x), (2, .int e1), (3, .ref o)]) hx hb dL_ownerSeenBy_13 hl (by decide) rfl (fun ls hl => ?_)
  refine lv_iconst (v := 1) hx hb dL_ownerSeenBy_15 (by decide) ?_
  have hat8 := hat9.kept (h2 _ hat9.lt)
  have hF8 := hF.kept (fun q hq => h2 q (hF.lt hq))
  exact rn_Wiret hx hb hr rfl hlocks hS (by decide) (by decide) rfl ⟨rn_P_mk hV hC hF8 (fun x hx => Or.inl hx), g, fun h => absurd h (by decide), hat8⟩ dL_ownerSeenBy_16

set_option maxHeartbeats 4000000 in
set_option maxRecDepth 100000 in
theorem l_ownerSeenBy_f (l : Launch) (hfl : l.stackTraces = false) {D : va_G} {cR cP cF cL : ClassId} {h0 aR aP aF : Nat} {ra pa fa : Nat → Nat} {hd : Nat → Option Nat} {dh : Option Nat} {f : rn_T} {σ : rn_St} (hV : rn_V σ) (hC : rn_CI cR cP cF h0 aR aP aF ra pa fa hd dh f σ) {o : Nat} {g : Nat → Int64} (hfo : f o = none) {j : Nat} (hj0 : j < σ.pn) {x  : Int32} (hno : ¬ ∃ i, i < σ.fn ∧ x = nI i) (sz : Nat) : rn_LT l yL_ownerSeenBy wsL_ownerSeenBy ({ frames := 8, cells := 1, slots := 6, locals := 140 } : Room) D (rn_tyl cR cP cF cL) ((rn_LB D f o cL g)) [.ref h0, .int (nI j), .int x, .ref o] (some (.int 1)) (rn_LP D cR cP cF h0 f sz σ o cL 1 0) (rn_LA f sz o) 1 6 sz := by
  refine rn_LT.ofW (hh := [(0, 10, 13, 13)]) (cc := cL_ownerSeenBy) (maxL := 5) (ret := (some .int)) (by decide) rfl (Nat.le_of_ble_eq_true rfl) (fun p e s m below meth c ls hx hb hr hml hts hown hlocks hsz hF9 hG hE htab hS hl => ?_)
  have hl : lv_has ls 5 [(0, .ref h0), (1, .int (nI j)), (2, .int x), (3, .ref o)] := hl
  subst hsz
  obtain ⟨hF, hat9⟩ := hF9
  have hG3 : rn_G D (rn_tys cR cP cF) s := ⟨hG.1.sub [0, 1, 2] rfl, hG.2⟩
  refine lv_aload_n hx hb dL_ownerSeenBy_0 rfl (lv_at hl 3 rfl) ?_
  refine lv_iconst (v := 0) hx hb dL_ownerSeenBy_1 (by decide) ?_
  refine lv_aload_n hx hb dL_ownerSeenBy_2 rfl (lv_at hl 0 rfl) ?_
  refine lv_iload_n hx hb dL_ownerSeenBy_3 rfl (lv_at hl 1 rfl) ?_
  refine lv_iload_n hx hb dL_ownerSeenBy_4 rfl (lv_at hl 2 rfl) ?_
  refine rn_xVc (As := [.int (nI j), .int x]) (rest := [.int 0, .ref o]) (E := rn_IO) 2 hx hb hml hown hts hG3 hE hS (x_ownerSeenBy_f l hfl hV hC hj0 hno _) gL_ownerSeenBy_X4_ownerSeenBy rfl ⟨rfl, rfl⟩ (by decide +kernel) ⟨Nat.le_of_ble_eq_true rfl, Nat.le_of_ble_eq_true rfl⟩ hF (hF _ _ hC.1.1) rfl rfl hl.1 rfl (Nat.le_of_ble_eq_true rfl) ⟨Nat.le_of_ble_eq_true rfl, Nat.le_of_ble_eq_true rfl⟩ dL_ownerSeenBy_5 [] ⟨0, 10, 13, 13⟩ [] htab (fun z hz => nomatch hz) (by decide) (by decide) (hts _ (by decide +kernel)) (by decide) (fun q9 H h1 h2 hS => ?_)
  refine lv_astore (lv' := [(4, .ref q9), (0, .ref h0), (1, .int (nI j)), (2, .int x), (3, .ref o)]) hx hb dL_ownerSeenBy_13 hl (by decide) rfl (fun ls hl => ?_)
  refine lv_iconst (v := 1) hx hb dL_ownerSeenBy_15 (by decide) ?_
  have hat8 := hat9.kept (h2 _ hat9.lt)
  have hF8 := hF.kept (fun q hq => h2 q (hF.lt hq))
  exact rn_Wiret hx hb hr rfl hlocks hS (by decide) (by decide) rfl ⟨rn_P_mk hV hC hF8 (fun x hx => Or.inl hx), g, fun h => absurd h (by decide), hat8⟩ dL_ownerSeenBy_16

set_option maxHeartbeats 4000000 in
set_option maxRecDepth 100000 in
theorem l_ownerSeenBy_o (l : Launch) {D : va_G} {cR cP cF cL : ClassId} {h0 aR aP aF : Nat} {ra pa fa : Nat → Nat} {hd : Nat → Option Nat} {dh : Option Nat} {f : rn_T} {σ : rn_St} (hV : rn_V σ) (hC : rn_CI cR cP cF h0 aR aP aF ra pa fa hd dh f σ) {o : Nat} {g : Nat → Int64} (hfo : f o = none) {j k : Nat} (hj0 : j < σ.pn) (hk0 : k < σ.fn) (sz : Nat) : rn_LT l yL_ownerSeenBy wsL_ownerSeenBy ({ frames := 8, cells := 1, slots := 6, locals := 140 } : Room) D (rn_tyl cR cP cF cL) ((rn_LB D f o cL g)) [.ref h0, .int (nI j), .int (nI k), .ref o] (some (.int 0)) (rn_LP D cR cP cF h0 f sz σ o cL 0 (nI (rn_see σ (σ.pl j) (σ.fo k)))) (rn_LA f sz o) 1 6 sz := by
  refine rn_LT.ofW (hh := [(0, 10, 13, 13)]) (cc := cL_ownerSeenBy) (maxL := 5) (ret := (some .int)) (by decide) rfl (Nat.le_of_ble_eq_true rfl) (fun p e s m below meth c ls hx hb hr hml hts hown hlocks hsz hF9 hG hE htab hS hl => ?_)
  have hl : lv_has ls 5 [(0, .ref h0), (1, .int (nI j)), (2, .int (nI k)), (3, .ref o)] := hl
  subst hsz
  obtain ⟨hF, hat9⟩ := hF9
  have hG3 : rn_G D (rn_tys cR cP cF) s := ⟨hG.1.sub [0, 1, 2] rfl, hG.2⟩
  refine lv_aload_n hx hb dL_ownerSeenBy_0 rfl (lv_at hl 3 rfl) ?_
  refine lv_iconst (v := 0) hx hb dL_ownerSeenBy_1 (by decide) ?_
  refine lv_aload_n hx hb dL_ownerSeenBy_2 rfl (lv_at hl 0 rfl) ?_
  refine lv_iload_n hx hb dL_ownerSeenBy_3 rfl (lv_at hl 1 rfl) ?_
  refine lv_iload_n hx hb dL_ownerSeenBy_4 rfl (lv_at hl 2 rfl) ?_
  refine rn_cV (As := [.int (nI j), .int (nI k)]) (rest := [.int 0, .ref o]) 2 hx hb hml hown hts hG3 (c_ownerSeenBy l hV hC hj0 hk0) gL_ownerSeenBy_X4_ownerSeenBy rfl ⟨rfl, rfl⟩ (by decide +kernel) ⟨Nat.le_of_ble_eq_true rfl, Nat.le_of_ble_eq_true rfl⟩ hF (hF _ _ hC.1.1) rfl rfl hl.1 rfl (Nat.le_of_ble_eq_true rfl) ⟨Nat.zero_le _, Nat.zero_le _⟩ dL_ownerSeenBy_5 ?_
  have hat8 := hat9
  have hP1 : rn_P D cR cP cF h0 f s.heap.size σ s.heap := rn_P_mk hV hC hF (fun x hx => Or.inl hx)
  refine W.eq (g2 := F0 m 8 ls [.int (nI (rn_see σ (σ.pl j) (σ.fo k))), .int 0, .ref o]) rfl ?_
  refine lv_i2l hx hb dL_ownerSeenBy_8 rfl ?_
  refine rn_last (A := (rn_LA f s.heap.size o)) hx hb hG hS (Or.inl rfl) hat8 3 rfl dL_ownerSeenBy_9 (fun H locs hat hz ho hS => ?_)
  refine lv_goto (tgt := 17) hx hb dL_ownerSeenBy_10 (by decide) ?_
  refine lv_iconst (v := 0) hx hb dL_ownerSeenBy_17 (by decide) ?_
  exact rn_Wiret hx hb hr rfl hlocks hS (by decide) (by decide) rfl ⟨hP1.out ho hfo hat9.lt, _, fun _ => pk_uLs, hat⟩ dL_ownerSeenBy_18
