/-! THE LIBRARY OF THIS PROOF: stores, rows over stores, contracts that read alone, contracts that write. -/
/-- a store: what lies at an address, as far as it is known -/
abbrev rn_T : Type := Nat → Option va_E
def rn_S (D : va_G) (f : rn_T) (H : Heap) : Prop := ∀ (a : Nat) (e : va_E), f a = some e → va_at D vwCl (a, e) H
def rn_A (f : rn_T) (sz : Nat) : Nat → Prop := fun q => f q ≠ none ∨ sz ≤ q
theorem rn_up_eq {α : Type} (f : Nat → α) (k : Nat) (v : α) : va_up f k v k = v := by simp [va_up]
theorem rn_up_ne {α : Type} (f : Nat → α) {k j : Nat} (v : α) (h : j ≠ k) : va_up f k v j = f j := by simp [va_up, h]
theorem rn_S.kept {D : va_G} {f : rn_T} {H H1 : Heap} (h : rn_S D f H) (hq : ∀ q : Nat, f q ≠ none → H1[q]? = H[q]?) : rn_S D f H1 :=
  fun a e he => (h a e he).kept (hq a (by rw [he]; exact fun z => nomatch z))
theorem rn_S.lt {D : va_G} {f : rn_T} {H : Heap} {a : Nat} (h : rn_S D f H) (ha : f a ≠ none) : a < H.size := by
  cases hf : f a with
  | none => exact absurd hf ha
  | some e => exact (h a e hf).lt
theorem rn_S.set {D : va_G} {f : rn_T} {H H1 : Heap} {a : Nat} {e : va_E} (h : rn_S D f H) (he : va_at D vwCl (a, e) H1) (oq : ∀ q : Nat, q ≠ a → H1[q]? = H[q]?) : rn_S D (va_up f a (some e)) H1 := by
  intro b e' hb
  by_cases hba : b = a
  · subst hba
    rw [rn_up_eq] at hb
    cases hb
    exact he
  · rw [rn_up_ne _ _ hba] at hb
    exact (h b e' hb).kept (oq b hba)
theorem rn_S.push {D : va_G} {f : rn_T} {H H1 : Heap} {q : Nat} {e : va_E} (h : rn_S D f H) (hq : q = H.size) (he : va_at D vwCl (q, e) H1) (oq : ∀ x : Nat, x < H.size → H1[x]? = H[x]?) : rn_S D (va_up f q (some e)) H1 := by
  intro b e' hb
  by_cases hba : b = q
  · subst hba
    rw [rn_up_eq] at hb
    cases hb
    exact he
  · rw [rn_up_ne _ _ hba] at hb
    exact (h b e' hb).kept (oq b (h.lt (by rw [hb]; exact fun z => nomatch z)))
theorem rn_S.fresh {D : va_G} {f : rn_T} {H : Heap} {q : Nat} (h : rn_S D f H) (hq : q = H.size) : f q = none := by
  cases hf : f q with
  | none => rfl
  | some e => exact absurd (h.lt (a := q) (by rw [hf]; exact fun z => nomatch z)) (by omega)
theorem rn_ne {f : rn_T} {a b : Nat} {x y : va_E} (ha : f a = some x) (hb : f b = some y) (h : x ≠ y) : a ≠ b := fun e => by
  subst e
  exact h (Option.some.inj (ha.symm.trans hb))
theorem rn_one {D : va_G} {q : Nat × va_E} {H : Heap} (h : va_at D vwCl q H) : va_P D vwCl [q] H := fun k x hk => by
  have hz : k < 1 := (List.getElem?_eq_some_iff.mp hk).1
  rw [show k = 0 by omega] at hk
  cases hk
  exact h
theorem rn_oneD {A : Nat → Prop} {q : Nat × va_E} (h : A q.1) : va_D A [q] := by
  refine ⟨fun i j x y hi hj _ => ?_, fun k x hk => ?_⟩
  · have h1 : i < 1 := (List.getElem?_eq_some_iff.mp hi).1
    have h2 : j < 1 := (List.getElem?_eq_some_iff.mp hj).1
    omega
  · have hz : k < 1 := (List.getElem?_eq_some_iff.mp hk).1
    rw [show k = 0 by omega] at hk
    cases hk
    exact h
/-- what the tables say, as every method here needs it: the classes, the arrays' classes, the one link to a nest mate -/
def rn_G (D : va_G) (tys : List (ClassId × FieldType)) (U : State) : Prop := va_K D vwCl tys U ∧ va_Nw (.methodLinkNest RX1 26 yX4_isOrIsInside RX4) U
theorem rn_G.warm {D : va_G} {tys : List (ClassId × FieldType)} {s U : State} (hW : s.WarmedH U.vm) (h : rn_G D tys s) : rn_G D tys U := ⟨va_K.moved hW.alike h.1, va_Nw.warmM hW h.2⟩
theorem rn_G.call {D : va_G} {tys : List (ClassId × FieldType)} {U : State} (g : JFrame) (mk : MethodId) (a : Array Value) (h : rn_G D tys U) : rn_G D tys (U.calling g mk a) :=
  ⟨va_K.moved (u := U) (U := U.calling g mk a) (Vm.Alike.refl U.vm) h.1, va_Nw.same rfl rfl h.2⟩
theorem rn_recv {D : va_G} {tys : List (ClassId × FieldType)} {s : State} {H : Heap} {b ci : Nat} {fs : List Value} {C : String} {T : u_T} {N : Nat} (hG : rn_G D tys s) (hat : va_at D vwCl (b, .inr (ci, fs)) H) (hc : vwCl[ci]? = some (C, T, N)) : ∃ cell : Cell, H[b]? = some cell ∧ cell.vm.isStatics = false ∧ s.vm.findClass C = some cell.cls :=
  va_recv hG.1 (rn_one hat) hc (q0 := 0) rfl
/-- a method that only reads: from any heap with B, it hands v back and leaves the heap as it is -/
def rn_R (l : Launch) (y : MethodName) (ws : List Cond) (rm : Room) (D : va_G) (tys : List (ClassId × FieldType)) (B : Heap → Prop) (av : List Value) (v : Option Value) : Prop :=
  Met l y ws rm (va_Pc av (fun U => B U.heap ∧ rn_G D tys U)) (fun _ st o t => o = .returned v ∧ t.heap = st.heap) 0 0 (fun _ => False)
/-- a method that writes: A the cells that it may change beside those that it makes -/
def rn_W (l : Launch) (y : MethodName) (ws : List Cond) (rm : Room) (D : va_G) (tys : List (ClassId × FieldType)) (B : Heap → Prop) (av : List Value) (v : Option Value) (P : Heap → Prop) (A : Nat → Prop) (mc ms sz : Nat) : Prop :=
  Met l y ws rm (va_Pc av (fun U => (U.heap.size = sz ∧ B U.heap) ∧ rn_G D tys U)) (fun _ st o t => (o = .returned v ∧ P t.heap) ∧ va_F A st t) mc ms A
theorem rn_PcBlind {D : va_G} {tys : List (ClassId × FieldType)} {B : Heap → Prop} {av : List Value} : FrameBlind (va_Pc av (fun U => B U.heap ∧ rn_G D tys U)) := fun a U g mk q => ⟨q.1, q.2.1, q.2.2.call g mk a⟩
section RNB
variable {l : Launch}
theorem rn_R.ofW {y : MethodName} {ws ws' : List Cond} {rm : Room} {D : va_G} {tys : List (ClassId × FieldType)} {B : Heap → Prop} {av : List Value} {v : Option Value} {cc : ByteArray} {maxL : Nat} {ret : Option FieldType}
    (hy : plainName y.cls = true) (hw : ws = Cond.code y cc maxL ret :: ws') (hn : (lg_sl av).length ≤ maxL)
    (body : ∀ (p : Program) (e : Env) (s : State) (m : MethodId) (below : List Frame) (meth : Method) (c : Code) (ls : Array Slot), p.tables.exec = Jvm.exec → c.code = cc → meth.sig.returnType = ret → c.maxLocals = maxL → (∀ w ∈ ws, w.before av.toArray s = true) → s.vm.findClass y.cls = some m.cls → meth.locks = false → B s.heap → rn_G D tys s → lv_has ls maxL (lv_args 0 av) →
      W p l e rm s m av.toArray below meth c s.heap [] 0 0 (MQ below (fun _ st o t => o = .returned v ∧ t.heap = st.heap) av.toArray s 0 0 (fun _ => False)) (F0 m 0 ls [])) : rn_R l y ws rm D tys B av v := by
  refine Met.ofW (cc := cc) (maxL := maxL) (ret := ret) hy hw ?_
  intro p e s m args below meth c s₁ B0 hml hv
  obtain ⟨rfl, hB, hG⟩ := hv
  have hl := lv_entry av (n := maxL) hn
  rw [lg_entry_eq]
  exact body p e s m below meth c _ B0.exec B0.bytes B0.returns hml (atoms_spec (ws := ws) B0.pre) (findClass_of_methodNamed B0.named) B0.notSynchronized hB hG hl
theorem rn_W.ofW {y : MethodName} {ws ws' : List Cond} {rm : Room} {D : va_G} {tys : List (ClassId × FieldType)} {B : Heap → Prop} {av : List Value} {v : Option Value} {P : Heap → Prop} {A : Nat → Prop} {mc ms sz : Nat} {cc : ByteArray} {maxL : Nat} {ret : Option FieldType}
    (hy : plainName y.cls = true) (hw : ws = Cond.code y cc maxL ret :: ws') (hn : (lg_sl av).length ≤ maxL)
    (body : ∀ (p : Program) (e : Env) (s : State) (m : MethodId) (below : List Frame) (meth : Method) (c : Code) (ls : Array Slot), p.tables.exec = Jvm.exec → c.code = cc → meth.sig.returnType = ret → c.maxLocals = maxL → (∀ w ∈ ws, w.before av.toArray s = true) → s.vm.findClass y.cls = some m.cls → meth.locks = false → meth.name = y.name → s.heap.size = sz → B s.heap → rn_G D tys s → va_S A s.heap s.heap [] → lv_has ls maxL (lv_args 0 av) →
      W p l e rm s m av.toArray below meth c s.heap [] 0 0 (MQ below (fun _ st o t => (o = .returned v ∧ P t.heap) ∧ va_F A st t) av.toArray s mc ms A) (F0 m 0 ls [])) : rn_W l y ws rm D tys B av v P A mc ms sz := by
  refine Met.ofW (cc := cc) (maxL := maxL) (ret := ret) hy hw ?_
  intro p e s m args below meth c s₁ B0 hml hv
  obtain ⟨rfl, ⟨hsz, hB⟩, hG⟩ := hv
  have hl := lv_entry av (n := maxL) hn
  rw [lg_entry_eq]
  exact body p e s m below meth c _ B0.exec B0.bytes B0.returns hml (atoms_spec (ws := ws) B0.pre) (findClass_of_methodNamed B0.named) B0.notSynchronized (name_of_methodNamed B0.named B0.method).1 hsz hB hG va_S.rf hl
end RNB
section RNR
variable {p : Program} {l : Launch} {e : Env} {R : Room} {s : State} {m : MethodId} {args : Array Value} {below : List Frame} {meth : Method} {c : Code} {H : Heap} {locs : List Loc} {cells slots : Nat} {Q : State → Prop}
variable {cc : ByteArray} {pc : Nat} {ls : Array Slot} {rest : List Value} {D : va_G} {A : Nat → Prop} {a : Nat} {tys : List (ClassId × FieldType)} {H0 : Heap}
/-! fields -/
theorem rn_get (hexec : p.tables.exec = Jvm.exec) (hb : c.code = cc) {own C : String} {T : u_T} {N ci index : Nat} {Ts : List Cond} (hts : ∀ w ∈ Ts, w.before args s = true) (hin : ∀ w ∈ u_ws C T N, w ∈ Ts) (hown : s.vm.findClass own = some m.cls) (hG : rn_G D tys s) {fs : List Value} (hat : va_at D vwCl (a, .inr (ci, fs)) H) (hc : vwCl[ci]? = some (C, T, N)) (k : Nat) (hk : k < N) (hlink : Cond.fieldLink own index (T k).1 (T k).2.1 (T k).2.2.1 ∈ Ts) {v : Value} (hv : fs[k]? = some v) (hdg : decode cc pc = .ok (.getfield index, 3))
    (kk : W p l e R s m args below meth c H locs cells slots Q (F0 m (pc + 3) ls (v :: rest))) : W p l e R s m args below meth c H locs cells slots Q (F0 m pc ls (.ref a :: rest)) :=
  va_get hexec hb hts hin hown hG.1 (rn_one hat) 0 rfl hc k hk (hts _ hlink) (fun _ h9 => h9) hv hdg kk
theorem rn_put (hexec : p.tables.exec = Jvm.exec) (hb : c.code = cc) {own C : String} {T : u_T} {N ci index : Nat} {Ts : List Cond} (hts : ∀ w ∈ Ts, w.before args s = true) (hin : ∀ w ∈ u_ws C T N, w ∈ Ts) (ty0 : Nat → FieldType) (hty : ∀ k, k < N → parseFieldDescriptor (T k).2.2.1 = some (ty0 k)) (hnm : ∀ a, a < N → ∀ b, b < N → a ≠ b → (T a).2.1 ≠ (T b).2.1) (hown : s.vm.findClass own = some m.cls) (hG : rn_G D tys s) (hS0 : va_S A H0 H locs) (hA : A a) {fs : List Value} (hat : va_at D vwCl (a, .inr (ci, fs)) H) (hc : vwCl[ci]? = some (C, T, N)) (k : Nat) (hk : k < N) (hlink : Cond.fieldLink own index (T k).1 (T k).2.1 (T k).2.2.1 ∈ Ts) (hfin : (T k).2.2.2 = false ∨ (meth.name = "<init>" ∧ (T k).1 = own ∧ (T k).2.2.2 = true)) {v : Value} (hn : narrow (ty0 k) v = v) (hfit : fits (ty0 k) v = true) (hl : k < fs.length) {fs' : List Value} (hfs' : fs.set k v = fs')
    (hdg : decode cc pc = .ok (.putfield index, 3)) (kk : ∀ (H1 : Heap) (locs1 : List Loc), va_at D vwCl (a, .inr (ci, fs')) H1 → H1.size = H.size → (∀ q : Nat, q ≠ a → H1[q]? = H[q]?) → va_S A H0 H1 locs1 → W p l e R s m args below meth c H1 locs1 cells slots Q (F0 m (pc + 3) ls rest)) : W p l e R s m args below meth c H locs cells slots Q (F0 m pc ls (v :: .ref a :: rest)) := by
  subst hfs'
  have hd := hty k hk
  have hap := va_apart (own := own) hts hin ty0 hty hnm hG.1 hc
  obtain ⟨r, h1, cell, q1, q2, q3, q4⟩ := hat
  have hr : r = (C, T, N) := Option.some.inj (h1.symm.trans hc)
  subst hr
  obtain ⟨hS, hfc, kC, hkC, hkind⟩ := hG.1.1 ci _ hc
  obtain ⟨cf, kf, fi, f, hi, hsl⟩ := hS k hk
  have hlay := hts _ (hin _ (u_in_lay hk))
  have hst := (u_facts hfc hkC (u_lays hts hin hk) hi).1
  have fin : ∀ H' : Heap, H'[a]? = some (cell.setSlot f.slot v) → H'.size = H.size → (∀ q, q ≠ a → H'[q]? = H[q]?) → va_at D vwCl (a, .inr (ci, fs.set k v)) H' := fun H' e1 e2 e3 => by
    rw [hsl] at e1
    exact ⟨_, hc, t_OB.to (V := updV (vp_V fs) k v) ⟨_, e1, q2, q3, t_set q4 hap hk v⟩ (fun j _ => vp_updV_set hl v j)⟩
  unfold u_lay at hlay
  rcases hfin with hfin | ⟨hin2, hdecl, hfin⟩
  · rw [if_neg (by rw [hfin]; decide)] at hlay
    have h6 := u_store hfc hkC hkind hlay hi hd hn hfit
    exact W.putK hexec hb (f := f) ⟨hown, hts _ hlink, ⟨_, _, _, hi⟩, hst⟩ (by rw [q2]; exact h6) q1 q3 (by rw [hsl]; exact k2_hasslot (q4 k hk)) rfl rfl hdg fun H' e1 e2 e3 => kk H' _ (fin H' e1 e2 e3) e2 e3 (hS0.put e2 e3 hA)
  · rw [if_pos hfin] at hlay
    have hcf : m.cls = cf := by
      obtain ⟨_, _, c', _, _, _, -, -, hf', -, -, -, hown2, -⟩ := Cond.laysFinal_spec hlay
      have e1 : c' = cf := by have := hi.symm.trans hf'; simp at this; exact this.1.symm
      rw [hdecl] at hown2
      rw [← e1]; exact Option.some.inj (hown.symm.trans hown2)
    have h6 := u_fits hfc hkC hkind (Or.inr hlay) hi hd hn hfit
    exact W.putFinK hexec hb hown (hts _ hlink) hi hst hcf hin2 (by rw [q2]; exact h6) q1 q3 (by rw [hsl]; exact k2_hasslot (q4 k hk)) rfl rfl hdg fun H' e1 e2 e3 => kk H' _ (fin H' e1 e2 e3) e2 e3 (hS0.put e2 e3 hA)
/-! arrays of ints, by an index that is a number -/
theorem rn_iald (hexec : p.tables.exec = Jvm.exec) (hb : c.code = cc) (hG : rn_G D tys s) {cA : ClassId} {n j : Nat} {g : Nat → Int32} (hat : va_at D vwCl (a, .inl (cA, n, .inl g)) H) (t0 : Nat) (ht : tys[t0]? = some (cA, .int)) (hj : j < n) (hn : n < 2 ^ 31) (hdg : decode cc pc = .ok (.iaload, 1))
    (kk : W p l e R s m args below meth c H locs cells slots Q (F0 m (pc + 1) ls (.int (g j) :: rest))) : W p l e R s m args below meth c H locs cells slots Q (F0 m pc ls (.int (nI j) :: .ref a :: rest)) := by
  have hc : (nI j).toNatClampNeg = j := nI_clamp (Nat.lt_trans hj hn)
  refine va_iald hexec hb hG.1 (rn_one hat) 0 t0 rfl ht (i := nI j) (vp_in_nI hj hn) hdg ?_
  rw [hc]
  exact kk
theorem rn_iast (hexec : p.tables.exec = Jvm.exec) (hb : c.code = cc) (hG : rn_G D tys s) (hS : va_S A H0 H locs) (hA : A a) {cA : ClassId} {n j : Nat} {g : Nat → Int32} {x : Int32} (hat : va_at D vwCl (a, .inl (cA, n, .inl g)) H) (t0 : Nat) (ht : tys[t0]? = some (cA, .int)) (hj : j < n) (hn : n < 2 ^ 31) (hdg : decode cc pc = .ok (.iastore, 1))
    (kk : ∀ (H1 : Heap) (locs1 : List Loc), va_at D vwCl (a, .inl (cA, n, .inl (upd g j x))) H1 → H1.size = H.size → (∀ q : Nat, q ≠ a → H1[q]? = H[q]?) → va_S A H0 H1 locs1 → W p l e R s m args below meth c H1 locs1 cells slots Q (F0 m (pc + 1) ls rest)) : W p l e R s m args below meth c H locs cells slots Q (F0 m pc ls (.int x :: .int (nI j) :: .ref a :: rest)) := by
  have hc : (nI j).toNatClampNeg = j := nI_clamp (Nat.lt_trans hj hn)
  refine W.iast hexec hb hat ((hG.1.2 t0 _ ht).1 n (fun j => .int (g j))) (fun q => by cases q) (by show ¬ (nI j < 0 ∨ (arrV _ _ _).slots.size ≤ _); rw [arrV_size]; exact vp_in_nI hj hn) rfl rfl hdg fun H1 e z oq => ?_
  refine kk H1 _ ?_ z oq (hS.put z oq hA)
  show H1[a]? = some (vp_cell _ _)
  rw [e, hc]
  rw [vp_cell_i, vp_cell_i, arrV_store]
  congr 2
  funext q
  by_cases hq : q = j
  · subst hq
    simp [updV, upd]
  · simp [updV, upd, hq]
theorem rn_alen (hexec : p.tables.exec = Jvm.exec) (hb : c.code = cc) (hG : rn_G D tys s) {cA : ClassId} {x : vp_A} (hat : va_at D vwCl (a, .inl (cA, x)) H) (t0 : Nat) {ty : FieldType} (ht : tys[t0]? = some (cA, ty)) (hdg : decode cc pc = .ok (.arraylength, 1))
    (kk : W p l e R s m args below meth c H locs cells slots Q (F0 m (pc + 1) ls (.int (nI x.1) :: rest))) : W p l e R s m args below meth c H locs cells slots Q (F0 m pc ls (.ref a :: rest)) :=
  va_alen hexec hb hG.1 (rn_one hat) 0 t0 rfl ht rfl hdg kk
/-! arrays of references -/
theorem rn_aald (hexec : p.tables.exec = Jvm.exec) (hb : c.code = cc) (hG : rn_G D tys s) {cA : ClassId} {C : String} {n j : Nat} {g : Nat → Option Nat} (hat : va_at D vwCl (a, .inl (cA, n, .inr (.inr (.inr (.inr g))))) H) (t0 : Nat) (ht : tys[t0]? = some (cA, .object C)) (hj : j < n) (hn : n < 2 ^ 31) (hdg : decode cc pc = .ok (.aaload, 1))
    (kk : W p l e R s m args below meth c H locs cells slots Q (F0 m (pc + 1) ls (va_rf (g j) :: rest))) : W p l e R s m args below meth c H locs cells slots Q (F0 m pc ls (.int (nI j) :: .ref a :: rest)) := by
  have hc : (nI j).toNatClampNeg = j := nI_clamp (Nat.lt_trans hj hn)
  refine va_aldq hexec hb hG.1 (rn_one hat) 0 t0 rfl ht (i := nI j) (vp_in_nI hj hn) hdg ?_
  rw [hc]
  exact kk
theorem rn_aast (hexec : p.tables.exec = Jvm.exec) (hb : c.code = cc) (hG : rn_G D tys s) (hS : va_S A H0 H locs) (hA : A a) {cA : ClassId} {C : String} {T : u_T} {N n j v ci : Nat} {vs : List Value} {g : Nat → Option Nat} (hat : va_at D vwCl (a, .inl (cA, n, .inr (.inr (.inr (.inr g))))) H) (t0 : Nat) (ht : tys[t0]? = some (cA, .object C)) (hv : va_at D vwCl (v, .inr (ci, vs)) H) (hc : vwCl[ci]? = some (C, T, N)) (hj : j < n) (hn : n < 2 ^ 31) (hdg : decode cc pc = .ok (.aastore, 1))
    (kk : ∀ (H1 : Heap) (locs1 : List Loc), va_at D vwCl (a, .inl (cA, n, .inr (.inr (.inr (.inr (va_up g j (some v))))))) H1 → H1.size = H.size → (∀ q : Nat, q ≠ a → H1[q]? = H[q]?) → va_S A H0 H1 locs1 → W p l e R s m args below meth c H1 locs1 cells slots Q (F0 m (pc + 1) ls rest)) : W p l e R s m args below meth c H locs cells slots Q (F0 m pc ls (.ref v :: .int (nI j) :: .ref a :: rest)) := by
  have hjc : (nI j).toNatClampNeg = j := nI_clamp (Nat.lt_trans hj hn)
  have hin : ¬ (nI j < 0 ∨ n ≤ (nI j).toNatClampNeg) := vp_in_nI hj hn
  obtain ⟨r', hr', cellV, g1, g2, g3, -⟩ := hv
  have hcls := (hG.1.1 ci _ hc).2
  obtain ⟨kA, comp, k1, k2, k3, -⟩ := (hG.1.2 t0 _ ht).2
  have hcomp : comp = D.1 ci := Option.some.inj (k3.symm.trans hcls.1)
  subst hcomp
  obtain ⟨kC, hkC, -⟩ := hcls.2
  refine W.aast hexec hb hat (fun q h => by cases h) (fun h => by cases h) k1 k2 rfl hkC ⟨fun q => hin (Or.inl q), by show _ < (arrV _ _ _).slots.size; rw [arrV_size, hjc]; exact hj⟩ g1 (fun q h => by rw [g3] at h; cases h) (by rw [g2]; exact hkC) (by rw [g2]; exact va_assign hcls) rfl rfl hdg fun H1 e z oq => ?_
  refine kk H1 _ ?_ z oq (hS.put z oq hA)
  show H1[a]? = some (vp_cell _ _)
  rw [e, hjc]
  rw [vp_cell_q, vp_cell_q, arrV_store]
  congr 2
  funext q
  by_cases hq : q = j
  · subst hq
    simp [updV, va_up, va_rf]
  · simp [updV, va_up, hq]
/-! making -/
theorem rn_new (hexec : p.tables.exec = Jvm.exec) (hb : c.code = cc) {own C : String} {T : u_T} {N ci index : Nat} {Ts : List Cond} (hts : ∀ w ∈ Ts, w.before args s = true) (hin : ∀ w ∈ u_ws C T N, w ∈ Ts) (ty : Nat → FieldType) (hty : ∀ k, k < N → parseFieldDescriptor (T k).2.2.1 = some (ty k)) (hown : s.vm.findClass own = some m.cls) (hcl : Cond.classLink own index C ∈ Ts) (hinst : Cond.instantiable C N ∈ Ts) (hini : Cond.initialized C ∈ Ts)
    (hG : rn_G D tys s) (hS : va_S A H0 H locs) (hA : ∀ q, H0.size ≤ q → A q) (hc : vwCl[ci]? = some (C, T, N)) {fs : List Value} (hfs : ∀ j, j < N → defaultValue (ty j) = vp_V fs j) (hcells : cells + 1 ≤ R.cells) (hslots : slots + N ≤ R.slots) (hdg : decode cc pc = .ok (.new index, 3))
    (kk : ∀ (q : Nat) (H1 : Heap), q = H.size → va_at D vwCl (q, .inr (ci, fs)) H1 → H1.size = H.size + 1 → (∀ x : Nat, x < H.size → H1[x]? = H[x]?) → va_S A H0 H1 locs →
      W p l e R s m args below meth c H1 locs (cells + 1) (slots + N) Q (F0 m (pc + 3) ls (.ref q :: rest))) : W p l e R s m args below meth c H locs cells slots Q (F0 m pc ls rest) := by
  have hKn := hG.1.1 ci _ hc
  refine W.newcK hexec hb hown (hts _ hcl) (hts _ hinst) (hts _ hini) rfl hdg hcells hslots hKn.2.1 rfl fun H1 kC hkC e1 z1 o1 => ?_
  exact kk H.size H1 rfl ⟨_, hc, (u_born ty hts hin hKn hkC e1 hty).to hfs⟩ z1 o1 ⟨Nat.le_trans hS.1 (by omega), fun x h1 h2 => (o1 x (Nat.lt_of_lt_of_le h1 hS.1)).trans (hS.2.1 x h1 h2), hS.2.2⟩
/-! locals and branches on references that may be null -/
theorem rn_aload_n (hexec : p.tables.exec = Jvm.exec) (hb : c.code = cc) {k : Fin 4} {i : Nat} {r : Option Nat} (hdg : decode cc pc = .ok (.aload_n k, 1)) (hi : (k : Nat) = i) (hl : ls[i]? = some (.val (va_rf r)))
    (kk : W p l e R s m args below meth c H locs cells slots Q (F0 m (pc + 1) ls (va_rf r :: rest))) : W p l e R s m args below meth c H locs cells slots Q (F0 m pc ls rest) := by
  cases r with
  | none => exact lv_aload_nN hexec hb hdg hi hl kk
  | some x => exact lv_aload_n hexec hb hdg hi hl kk
theorem rn_aload (hexec : p.tables.exec = Jvm.exec) (hb : c.code = cc) {i : Nat} {r : Option Nat} (hdg : decode cc pc = .ok (.aload i, 2)) (hl : ls[i]? = some (.val (va_rf r)))
    (kk : W p l e R s m args below meth c H locs cells slots Q (F0 m (pc + 2) ls (va_rf r :: rest))) : W p l e R s m args below meth c H locs cells slots Q (F0 m pc ls rest) := by
  cases r with
  | none => exact lv_aloadN hexec hb hdg hl kk
  | some x => exact lv_aload hexec hb hdg hl kk
theorem rn_astore_n (hexec : p.tables.exec = Jvm.exec) (hb : c.code = cc) {k : Fin 4} {i nL : Nat} {r : Option Nat} {lv lv' : List (Nat × Value)} (hdg : decode cc pc = .ok (.astore_n k, 1)) (hi : (k : Nat) = i) (h : lv_has ls nL lv) (hn : i < nL) (hl : (i, va_rf r) :: lv.filter (fun q => !(q.1 == i) && !(q.1 + 1 == i && q.2.category == 2)) = lv')
    (kk : ∀ ls' : Array Slot, lv_has ls' nL lv' → W p l e R s m args below meth c H locs cells slots Q (F0 m (pc + 1) ls' rest)) : W p l e R s m args below meth c H locs cells slots Q (F0 m pc ls (va_rf r :: rest)) := by
  cases r with
  | none => exact lv_astore_nN hexec hb hdg hi h hn hl kk
  | some x => exact lv_astore_n hexec hb hdg hi h hn hl kk
theorem rn_astore (hexec : p.tables.exec = Jvm.exec) (hb : c.code = cc) {i nL : Nat} {r : Option Nat} {lv lv' : List (Nat × Value)} (hdg : decode cc pc = .ok (.astore i, 2)) (h : lv_has ls nL lv) (hn : i < nL) (hl : (i, va_rf r) :: lv.filter (fun q => !(q.1 == i) && !(q.1 + 1 == i && q.2.category == 2)) = lv')
    (kk : ∀ ls' : Array Slot, lv_has ls' nL lv' → W p l e R s m args below meth c H locs cells slots Q (F0 m (pc + 2) ls' rest)) : W p l e R s m args below meth c H locs cells slots Q (F0 m pc ls (va_rf r :: rest)) := by
  cases r with
  | none => exact lv_astoreN hexec hb hdg h hn hl kk
  | some x => exact lv_astore hexec hb hdg h hn hl kk
theorem rn_ifnull (hexec : p.tables.exec = Jvm.exec) (hb : c.code = cc) {r : Option Nat} {off : Int} {tgt : Nat} (hdg : decode cc pc = .ok (.ifnull off, 3)) (ht : (pc : Int) + off = (tgt : Int))
    (kt : r = none → W p l e R s m args below meth c H locs cells slots Q (F0 m tgt ls rest)) (kf : ∀ x : Nat, r = some x → W p l e R s m args below meth c H locs cells slots Q (F0 m (pc + 3) ls rest)) : W p l e R s m args below meth c H locs cells slots Q (F0 m pc ls (va_rf r :: rest)) := by
  cases r with
  | none => exact lv_ifnullN hexec hb hdg ht (kt rfl)
  | some x => exact lv_ifnull hexec hb hdg (kf x rfl)
theorem rn_ifnonnull (hexec : p.tables.exec = Jvm.exec) (hb : c.code = cc) {r : Option Nat} {off : Int} {tgt : Nat} (hdg : decode cc pc = .ok (.ifnonnull off, 3)) (ht : (pc : Int) + off = (tgt : Int))
    (kt : ∀ x : Nat, r = some x → W p l e R s m args below meth c H locs cells slots Q (F0 m tgt ls rest)) (kf : r = none → W p l e R s m args below meth c H locs cells slots Q (F0 m (pc + 3) ls rest)) : W p l e R s m args below meth c H locs cells slots Q (F0 m pc ls (va_rf r :: rest)) := by
  cases r with
  | none => exact lv_ifnonnullN hexec hb hdg (kf rfl)
  | some x => exact lv_ifnonnull hexec hb hdg ht (kt x rfl)
/-- the top of the stack by another name -/
theorem rn_top {x y : Value} (h : x = y) (k : W p l e R s m args below meth c H locs cells slots Q (F0 m pc ls (y :: rest))) : W p l e R s m args below meth c H locs cells slots Q (F0 m pc ls (x :: rest)) := by
  rw [h]; exact k
theorem rn_ldc (hexec : p.tables.exec = Jvm.exec) (hb : c.code = cc) {v w : Value} (h : v = w) (k : W p l e R s m args below meth c H locs cells slots Q (F0 m pc ls (w :: rest))) : W p l e R s m args below meth c H locs cells slots Q (F0 m pc ls (v :: rest)) := by
  rw [h]; exact k
/-! ends -/
theorem rn_iret {Qr : Option Value} {v : Int32} {ty : FieldType} (hexec : p.tables.exec = Jvm.exec) (hb : c.code = cc) (hr : meth.sig.returnType = some ty) (hn : narrow ty (.int v) = .int v) (hlocks : meth.locks = false) (hq : Qr = some (.int v)) (hdg : decode cc pc = .ok (.ireturn, 1)) :
    W p l e R s m args below meth c s.heap [] 0 0 (MQ below (fun _ st o t => o = .returned Qr ∧ t.heap = st.heap) args s 0 0 (fun _ => False)) (F0 m pc ls [.int v]) :=
  W.zret hexec hb hr hn (fun t ht _ => ⟨by rw [hq], ht⟩) (fun _ h => nomatch h) hdg
theorem rn_vret {Qr : Option Value} (hexec : p.tables.exec = Jvm.exec) (hb : c.code = cc) (hr : meth.sig.returnType = none) (hlocks : meth.locks = false) (hq : Qr = none) (hdg : decode cc pc = .ok (.return_, 1)) :
    W p l e R s m args below meth c s.heap [] 0 0 (MQ below (fun _ st o t => o = .returned Qr ∧ t.heap = st.heap) args s 0 0 (fun _ => False)) (F0 m pc ls []) :=
  W.vret hexec hb hr (fun t ht _ => ⟨by rw [hq], ht⟩) (fun _ h => nomatch h) hdg
theorem rn_aret {Qr : Option Value} {q : Nat} {n : String} (hexec : p.tables.exec = Jvm.exec) (hb : c.code = cc) (hr : meth.sig.returnType = some (.object n)) (hlocks : meth.locks = false) (hq : Qr = some (.ref q)) (hdg : decode cc pc = .ok (.areturn, 1)) :
    W p l e R s m args below meth c s.heap [] 0 0 (MQ below (fun _ st o t => o = .returned Qr ∧ t.heap = st.heap) args s 0 0 (fun _ => False)) (F0 m pc ls [.ref q]) :=
  W.aret hexec hb hr (Or.inl ⟨_, rfl⟩) (Or.inr ⟨_, rfl⟩) (fun t ht _ => ⟨by rw [hq], ht⟩) (fun _ h => nomatch h) hdg
theorem rn_Wiret {Qr : Option Value} {P : Heap → Prop} {mc ms : Nat} {v : Int32} {ty : FieldType} (hexec : p.tables.exec = Jvm.exec) (hb : c.code = cc) (hr : meth.sig.returnType = some ty) (hn : narrow ty (.int v) = .int v) (hlocks : meth.locks = false) (hS : va_S A s.heap H locs) (hc : cells ≤ mc) (hs : slots ≤ ms) (hq : Qr = some (.int v)) (hP : P H) (hdg : decode cc pc = .ok (.ireturn, 1)) :
    W p l e R s m args below meth c H locs cells slots (MQ below (fun _ st o t => (o = .returned Qr ∧ P t.heap) ∧ va_F A st t) args s mc ms A) (F0 m pc ls [.int v]) :=
  W.widen hc hs (W.zret hexec hb hr hn (fun t ht _ => ⟨⟨by rw [hq], by rw [ht]; exact hP⟩, hS.F ht⟩) hS.2.2 hdg)
theorem rn_Wvret {Qr : Option Value} {P : Heap → Prop} {mc ms : Nat} (hexec : p.tables.exec = Jvm.exec) (hb : c.code = cc) (hr : meth.sig.returnType = none) (hlocks : meth.locks = false) (hS : va_S A s.heap H locs) (hc : cells ≤ mc) (hs : slots ≤ ms) (hq : Qr = none) (hP : P H) (hdg : decode cc pc = .ok (.return_, 1)) :
    W p l e R s m args below meth c H locs cells slots (MQ below (fun _ st o t => (o = .returned Qr ∧ P t.heap) ∧ va_F A st t) args s mc ms A) (F0 m pc ls []) :=
  W.widen hc hs (W.vret hexec hb hr (fun t ht _ => ⟨⟨by rw [hq], by rw [ht]; exact hP⟩, hS.F ht⟩) hS.2.2 hdg)
end RNR
section RNC
variable {p : Program} {l : Launch} {e : Env} {R : Room} {s : State} {m : MethodId} {args : Array Value} {below : List Frame} {meth : Method} {c : Code} {H : Heap} {locs : List Loc} {cells slots : Nat} {Q : State → Prop}
variable {cc bytes : ByteArray} {pc nL maxL index n mc ms sz : Nat} {ls : Array Slot} {st0 rest As : List Value} {D : va_G} {A0 A1 : Nat → Prop} {a b ci N : Nat} {tys : List (ClassId × FieldType)} {H0 : Heap} {fs : List Value} {own C : String} {T : u_T} {y : MethodName} {ret : Option FieldType} {ws ws' Ts : List Cond} {rm : Room} {B : Heap → Prop} {P : Heap → Prop} {v : Option Value}
theorem rn_callR (hr : CallRun p l e R s m args below meth c H locs cells slots 0 0 (F0 m pc ls st0) rest (fun st o t => o = .returned v ∧ t.heap = st.heap) (fun _ => False))
    (kk : W p l e R s m args below meth c H locs cells slots Q (F0 m (pc + 3) ls (v.toList ++ rest))) : W p l e R s m args below meth c H locs cells slots Q (F0 m pc ls st0) := by
  intro T hT X
  obtain ⟨v', st₀, t, T', L, h0, X', hL, e1, ⟨hv, hh⟩, st⟩ := hr T hT X
  cases hv
  obtain ⟨t2, a1, b1⟩ := kk T' (by rw [e1, hh, h0]) (Stand.forget X' (fun q h => (hL q h).elim))
  exact ⟨t2, st t2 a1, b1⟩
theorem rn_callRv (hr : va_Run p l e R s m args below meth c H locs cells slots 0 0 (F0 m pc ls st0) rest (fun st o t => o = .returned v ∧ t.heap = st.heap) (fun _ => False))
    (kk : W p l e R s m args below meth c H locs cells slots Q (F0 m (pc + 3) ls (v.toList ++ rest))) : W p l e R s m args below meth c H locs cells slots Q (F0 m pc ls st0) := by
  intro T hT X
  obtain ⟨v', st₀, t, T', L, h0, X', hL, e1, e2, ⟨hv, hh⟩, st⟩ := hr T hT X
  cases hv
  obtain ⟨t2, a1, b1⟩ := kk T' (by rw [e1, hh, h0]) (Stand.forget X' (fun q h => (hL q h).elim))
  exact ⟨t2, st t2 a1, b1⟩
theorem rn_callW (hr : va_Run p l e R s m args below meth c H locs cells slots mc ms (F0 m pc ls st0) rest (fun st o t => (o = .returned v ∧ P t.heap) ∧ va_F A1 st t) A1) (hS : va_S A0 H0 H locs) (hA : ∀ q, A1 q → A0 q)
    (kk : ∀ (H1 : Heap) (locs1 : List Loc), P H1 → H.size ≤ H1.size → (∀ q : Nat, q < H.size → ¬ A1 q → H1[q]? = H[q]?) → va_S A0 H0 H1 locs1 → W p l e R s m args below meth c H1 locs1 (cells + mc) (slots + ms) Q (F0 m (pc + 3) ls (v.toList ++ rest))) : W p l e R s m args below meth c H locs cells slots Q (F0 m pc ls st0) := by
  intro T hT X
  obtain ⟨v', st₀, t, T', L, h0, X', hL, e1, e2, ⟨⟨hv, hp⟩, hz, hk⟩, st⟩ := hr T hT X
  cases hv
  rw [h0] at hz hk
  obtain ⟨t2, a1, b1⟩ := kk T'.heap (locs ++ L) (by rw [e1]; exact hp) (by rw [e1]; exact hz) (fun q h1 h2 => by rw [e1]; exact hk q h1 h2)
    ⟨Nat.le_trans hS.1 (by rw [e1]; exact hz), fun q h1 h2 => by rw [e1, hk q (Nat.lt_of_lt_of_le h1 hS.1) (fun z => h2 (hA q z))]; exact hS.2.1 q h1 h2, fun q hq => by
      rcases List.mem_append.mp hq with h | h
      · exact hS.2.2 q h
      · exact hA _ (hL q h)⟩ T' rfl X'
  exact ⟨t2, st t2 a1, b1⟩
/-- calls of methods that read: of an object, static, static of the nest mate -/
theorem rn_cV (n : Nat) (hexec : p.tables.exec = Jvm.exec) (hb : c.code = cc) (hml : c.maxLocals = nL) (hown : s.vm.findClass own = some m.cls) (hts : ∀ w ∈ Ts, w.before args s = true) (hG : rn_G D tys s)
    (hM : rn_R l y ws rm D tys B (.ref b :: As) v) (hgi : GoodIn Ts (wsV own index C y ws)) (hw : ws = .code y bytes maxL ret :: ws') (hrm : rm.cells = 0 ∧ rm.slots = 0)
    (hd : y.cls = C ∧ y.cls ≠ "java/lang/invoke/MethodHandle" ∧ y.cls ≠ "java/lang/invoke/VarHandle" ∧ (parseMethodDescriptor y.desc).map (fun d => d.parameters.length) = some n) (hR : rm.frames + 1 ≤ R.frames ∧ 8 + (maxL + 11) + rm.locals ≤ R.locals)
    (hB : B H) (hat : va_at D vwCl (b, .inr (ci, fs)) H) (hc : vwCl[ci]? = some (C, T, N)) (hn : As.length = n) (hsz : ls.size = nL) (hst : st0 = As.reverse ++ .ref b :: rest) (hW : (rest.map fun v => v.category).sum ≤ 8) (hf : cells ≤ R.cells ∧ slots ≤ R.slots) (hdg : decode cc pc = .ok (.invokevirtual index, 3))
    (kk : W p l e R s m args below meth c H locs cells slots Q (F0 m (pc + 3) ls (v.toList ++ rest))) : W p l e R s m args below meth c H locs cells slots Q (F0 m pc ls st0) :=
  rn_callR (W.runV (As := As) (rest := rest) ⟨hexec, hb, hml, hown, hts⟩ hM (cwV n hts hgi hw hrm.1 hrm.2 hd hR) ⟨rn_PcBlind, rn_recv hG hat hc, fun U hU hW => ⟨rfl, by rw [hU]; exact hB, hG.warm hW⟩⟩ rfl hn hsz hst (lv_room hW) hdg hf) kk
theorem rn_cS (n : Nat) (hexec : p.tables.exec = Jvm.exec) (hb : c.code = cc) (hml : c.maxLocals = nL) (hown : s.vm.findClass own = some m.cls) (hts : ∀ w ∈ Ts, w.before args s = true) (hG : rn_G D tys s)
    (hM : rn_R l y ws rm D tys B As v) (hgi : GoodIn Ts (va_wsS own index y ws)) (hw : ws = .code y bytes maxL ret :: ws') (hrm : rm.cells = 0 ∧ rm.slots = 0)
    (hd : y.cls ≠ "java/lang/invoke/MethodHandle" ∧ y.cls ≠ "java/lang/invoke/VarHandle" ∧ (parseMethodDescriptor y.desc).map (fun d => d.parameters.length) = some n) (hR : rm.frames + 1 ≤ R.frames ∧ 8 + (maxL + 11) + rm.locals ≤ R.locals)
    (hB : B H) (hn : As.length = n) (hsz : ls.size = nL) (hst : st0 = As.reverse ++ rest) (hW : (rest.map fun v => v.category).sum ≤ 8) (hf : cells ≤ R.cells ∧ slots ≤ R.slots) (hdg : decode cc pc = .ok (.invokestatic index, 3))
    (kk : W p l e R s m args below meth c H locs cells slots Q (F0 m (pc + 3) ls (v.toList ++ rest))) : W p l e R s m args below meth c H locs cells slots Q (F0 m pc ls st0) :=
  rn_callR (W.runS (As := As) (rest := rest) ⟨hexec, hb, hml, hown, hts⟩ hM (va_cwS n hts hgi hw hrm.1 hrm.2 hd hR) ⟨rn_PcBlind, fun U hU hW => ⟨rfl, by rw [hU]; exact hB, hG.warm hW⟩⟩ rfl hn hsz hst (lv_room hW) hdg hf) kk
theorem rn_cN (n : Nat) (hexec : p.tables.exec = Jvm.exec) (hb : c.code = cc) (hml : c.maxLocals = nL) (hown : s.vm.findClass RX1 = some m.cls) (hts : ∀ w ∈ Ts, w.before args s = true) (hG : rn_G D tys s)
    (hM : rn_R l yX4_isOrIsInside ws rm D tys B As v) (hgi : GoodIn Ts ws) (hw : ws = .code yX4_isOrIsInside bytes maxL ret :: ws') (hrm : rm.cells = 0 ∧ rm.slots = 0) (hini : Cond.initialized RX4 ∈ Ts) (hsta : Cond.static yX4_isOrIsInside ∈ Ts)
    (hd : yX4_isOrIsInside.cls ≠ "java/lang/invoke/MethodHandle" ∧ yX4_isOrIsInside.cls ≠ "java/lang/invoke/VarHandle" ∧ (parseMethodDescriptor yX4_isOrIsInside.desc).map (fun d => d.parameters.length) = some n) (hR : rm.frames + 1 ≤ R.frames ∧ 8 + (maxL + 11) + rm.locals ≤ R.locals)
    (hB : B H) (hn : As.length = n) (hsz : ls.size = nL) (hst : st0 = As.reverse ++ rest) (hW : (rest.map fun v => v.category).sum ≤ 8) (hf : cells ≤ R.cells ∧ slots ≤ R.slots) (hdg : decode cc pc = .ok (.invokestatic 26, 3))
    (kk : W p l e R s m args below meth c H locs cells slots Q (F0 m (pc + 3) ls (v.toList ++ rest))) : W p l e R s m args below meth c H locs cells slots Q (F0 m pc ls st0) :=
  rn_callRv (va_runSN (As := As) (rest := rest) ⟨hexec, hb, hml, hown, hts⟩ hM ⟨va_cnB n hts hgi hw hrm.1 hrm.2 hG.2 (hts _ hini) hd hR, hts _ hsta, trivial⟩ ⟨rn_PcBlind, fun U hU hW => ⟨rfl, by rw [hU]; exact hB, hG.warm hW⟩⟩ rfl hn hsz hst (lv_room hW) hdg hf) kk
theorem rn_PcBlindW : FrameBlind (va_Pc As (fun U => (U.heap.size = sz ∧ B U.heap) ∧ rn_G D tys U)) := fun a U g mk q => ⟨q.1, q.2.1, q.2.2.call g mk a⟩
/-- calls of methods that write -/
theorem rn_wV (n : Nat) (hexec : p.tables.exec = Jvm.exec) (hb : c.code = cc) (hml : c.maxLocals = nL) (hown : s.vm.findClass own = some m.cls) (hts : ∀ w ∈ Ts, w.before args s = true) (hG : rn_G D tys s) (hS : va_S A0 H0 H locs)
    (hM : rn_W l y ws rm D tys B (.ref b :: As) v P A1 mc ms H.size) (hA : ∀ q, A1 q → A0 q) (hgi : GoodIn Ts (wsV own index C y ws)) (hw : ws = .code y bytes maxL ret :: ws') (hrm : rm.cells = mc ∧ rm.slots = ms)
    (hd : y.cls = C ∧ y.cls ≠ "java/lang/invoke/MethodHandle" ∧ y.cls ≠ "java/lang/invoke/VarHandle" ∧ (parseMethodDescriptor y.desc).map (fun d => d.parameters.length) = some n) (hR : rm.frames + 1 ≤ R.frames ∧ 8 + (maxL + 11) + rm.locals ≤ R.locals)
    (hB : B H) (hat : va_at D vwCl (b, .inr (ci, fs)) H) (hc : vwCl[ci]? = some (C, T, N)) (hn : As.length = n) (hsz : ls.size = nL) (hst : st0 = As.reverse ++ .ref b :: rest) (hW : (rest.map fun v => v.category).sum ≤ 8) (hf : cells + mc ≤ R.cells ∧ slots + ms ≤ R.slots) (hdg : decode cc pc = .ok (.invokevirtual index, 3))
    (kk : ∀ (H1 : Heap) (locs1 : List Loc), P H1 → H.size ≤ H1.size → (∀ q : Nat, q < H.size → ¬ A1 q → H1[q]? = H[q]?) → va_S A0 H0 H1 locs1 → W p l e R s m args below meth c H1 locs1 (cells + mc) (slots + ms) Q (F0 m (pc + 3) ls (v.toList ++ rest))) : W p l e R s m args below meth c H locs cells slots Q (F0 m pc ls st0) :=
  rn_callW (va_runV (As := As) (rest := rest) ⟨hexec, hb, hml, hown, hts⟩ hM (cwV n hts hgi hw hrm.1 hrm.2 hd hR) ⟨rn_PcBlindW, rn_recv hG hat hc, fun U hU hW => ⟨rfl, ⟨by rw [hU], by rw [hU]; exact hB⟩, hG.warm hW⟩⟩ rfl hn hsz hst (lv_room hW) hdg hf) hS hA kk
theorem rn_wI (n : Nat) (hexec : p.tables.exec = Jvm.exec) (hb : c.code = cc) (hml : c.maxLocals = nL) (hown : s.vm.findClass own = some m.cls) (hts : ∀ w ∈ Ts, w.before args s = true) (hG : rn_G D tys s) (hS : va_S A0 H0 H locs)
    (hM : rn_W l y ws rm D tys B (.ref b :: As) none P A1 mc ms H.size) (hA : ∀ q, A1 q → A0 q) (hgi : GoodIn Ts ws) (hw : ws = .code y bytes maxL none :: ws') (hrm : rm.cells = mc ∧ rm.slots = ms) (hini : Cond.initialized y.cls ∈ Ts) (hlk : Cond.methodLink own index y ∈ Ts) (hinm : Cond.instanceMethod y ∈ Ts) (hy1 : y.name = "<init>")
    (hd : y.cls ≠ "java/lang/invoke/MethodHandle" ∧ y.cls ≠ "java/lang/invoke/VarHandle" ∧ (parseMethodDescriptor y.desc).map (fun d => d.parameters.length) = some n) (hR : rm.frames + 1 ≤ R.frames ∧ 8 + (maxL + 11) + rm.locals ≤ R.locals)
    (hB : B H) (hn : As.length = n) (hsz : ls.size = nL) (hst : st0 = As.reverse ++ .ref b :: rest) (hW : (rest.map fun v => v.category).sum ≤ 8) (hf : cells + mc ≤ R.cells ∧ slots + ms ≤ R.slots) (hdg : decode cc pc = .ok (.invokespecial index, 3))
    (kk : ∀ (H1 : Heap) (locs1 : List Loc), P H1 → H.size ≤ H1.size → (∀ q : Nat, q < H.size → ¬ A1 q → H1[q]? = H[q]?) → va_S A0 H0 H1 locs1 → W p l e R s m args below meth c H1 locs1 (cells + mc) (slots + ms) Q (F0 m (pc + 3) ls rest)) : W p l e R s m args below meth c H locs cells slots Q (F0 m pc ls st0) :=
  rn_callW (v := none) (va_runI (As := As) (rest := rest) ⟨hexec, hb, hml, hown, hts⟩ hM (cwI n hts hgi hw hrm.1 hrm.2 (hts _ hini) (hts _ hlk) (hts _ hinm) hy1 hd hR) ⟨rn_PcBlindW, fun U hU hW => ⟨rfl, ⟨by rw [hU], by rw [hU]; exact hB⟩, hG.warm hW⟩⟩ rfl hn hsz hst (lv_room hW) hdg hf) hS hA kk
end RNC
/-! what is thrown -/
def rn_IO : String := "java/lang/IndexOutOfBoundsException"
def rn_IS : String := "java/lang/IllegalStateException"
def rn_IA : String := "java/lang/IllegalArgumentException"
abbrev rn_nm : List String := ["java/lang/RuntimeException", "java/lang/Exception"]
/-- the texts that the class throws with: their places in its file -/
def rn_str : List (Nat × String) := [(59, "there are 10 rooms"), (82, "a length is 1 to 999"), (89, "the draft has 3 lines"), (105, "the room 0 has no map"), (147, "there are 12 processes"), (152, "rights are 0 to 15"), (161, "a mode is 0 to 15"), (163, "there are 20 files"), (177, "no such room"), (179, "no such process"), (181, "no such file"), (183, "a number is 0 to 998")]
def rn_xc : List (String × String) := [("java/lang/IndexOutOfBoundsException", "java/lang/IndexOutOfBoundsException"), ("java/lang/IllegalStateException", "java/lang/IllegalStateException"), ("java/lang/IllegalArgumentException", "java/lang/IllegalArgumentException")]
def rn_xn : List (String × String) := [("java/lang/IndexOutOfBoundsException", "java/lang/IllegalStateException"), ("java/lang/IndexOutOfBoundsException", "java/lang/IllegalArgumentException"), ("java/lang/IllegalStateException", "java/lang/IndexOutOfBoundsException"), ("java/lang/IllegalStateException", "java/lang/IllegalArgumentException"), ("java/lang/IllegalArgumentException", "java/lang/IndexOutOfBoundsException"), ("java/lang/IllegalArgumentException", "java/lang/IllegalStateException")]
def rn_xd : List MethodName := [⟨"java/lang/RuntimeException", "<init>", "(Ljava/lang/String;)V"⟩, ⟨"java/lang/Exception", "<init>", "(Ljava/lang/String;)V"⟩, ⟨"java/lang/Throwable", "<init>", "(Ljava/lang/String;)V"⟩]
def rn_xw (E : String) : List Cond := Cond.castable E E :: rn_xd.map Cond.declares
/-- what a throw needs beside the tables' own words -/
def rn_E (U : State) : Prop := (vx_Zq Bundle.tN "UNASSIGNED_STACK" Bundle.steD (fun q => U.heap.size ≤ q) U U.heap ∧ vx_Zq Bundle.tN "SUPPRESSED_SENTINEL" Bundle.listD (fun q => U.heap.size ≤ q) U U.heap) ∧ ((∀ q ∈ rn_xc, va_Nw (.castable q.1 q.2) U) ∧ ∀ y ∈ rn_xd, va_Nw (.declares y) U) ∧ (∀ q ∈ rn_xn, va_Nc q.1 q.2 U) ∧ ∀ q ∈ rn_str, ∃ sa : Nat, vk_R RX4 q.1 q.2 sa U
theorem rn_E.at {s U : State} (hW : s.WarmedH U.vm) (hz : s.heap.size ≤ U.heap.size) (hk : ∀ a : Nat, a < s.heap.size → U.heap[a]? = s.heap[a]?) (h : rn_E s) : rn_E U := by
  obtain ⟨⟨h1, h2⟩, h3, h4, h5⟩ := h
  refine ⟨⟨?_, ?_⟩, ⟨fun q hq => va_Nw.warmC hW (h3.1 q hq), fun q hq => va_Nw.warmD hW (h3.2 q hq)⟩, fun q hq => va_Nc.moved hW.alike (h4 q hq), fun q hq => ?_⟩
  · exact ((h1.kept (H1 := U.heap) (fun a ha _ => hk a ha)).moved hW.alike).narrow (fun q hq => Nat.le_trans hz hq)
  · exact ((h2.kept (H1 := U.heap) (fun a ha _ => hk a ha)).moved hW.alike).narrow (fun q hq => Nat.le_trans hz hq)
  · obtain ⟨sa, h⟩ := h5 q hq
    exact ⟨sa, h.warm hW⟩
theorem rn_E.warm {s U : State} (hW : s.WarmedH U.vm) (hh : U.heap = s.heap) (h : rn_E s) : rn_E U := h.at hW (by rw [hh]; exact Nat.le_refl _) (fun a _ => by rw [hh])
theorem rn_E.call {U : State} (g : JFrame) (mk : MethodId) (a : Array Value) (h : rn_E U) : rn_E (U.calling g mk a) := by
  obtain ⟨⟨h1, h2⟩, h3, h4, h5⟩ := h
  refine ⟨⟨?_, ?_⟩, ⟨fun q hq => va_Nw.same rfl rfl (h3.1 q hq), fun q hq => va_Nw.same rfl rfl (h3.2 q hq)⟩, fun q hq => va_Nc.moved (u := U) (U := U.calling g mk a) (Vm.Alike.refl U.vm) (h4 q hq), fun q hq => ?_⟩
  · exact h1.moved (u := U) (U := U.calling g mk a) (Vm.Alike.refl U.vm)
  · exact h2.moved (u := U) (U := U.calling g mk a) (Vm.Alike.refl U.vm)
  · obtain ⟨sa, h⟩ := h5 q hq
    exact ⟨sa, h.same rfl⟩
/-- a method that throws E, with nothing changed -/
def rn_X (l : Launch) (y : MethodName) (ws : List Cond) (rm : Room) (D : va_G) (tys : List (ClassId × FieldType)) (B : Heap → Prop) (av : List Value) (E : String) (sz : Nat) : Prop :=
  vx_Met l y ws rm (va_Pc av (fun U => (U.heap.size = sz ∧ B U.heap) ∧ rn_G D tys U ∧ rn_E U)) (fun _ _ _ _ => False) (vx_X (fun _ : Unit => True) (fun E' _ _ => E' = E) (fun q => sz ≤ q)) 1 6 (fun _ => False)
theorem rn_hat {args : Array Value} {s : State} {E : String} {ic : Nat} (h1 : ∀ w ∈ (vx_atS RX4 ic E rn_nm).filter goodWord, w.before args s = true) (hc : va_Nw (.castable E E) s) (hd : ∀ y ∈ rn_xd, va_Nw (.declares y) s) (h2 : ∀ w ∈ (vx_atS RX4 ic E rn_nm).filter (fun w => !goodWord w), w ∈ rn_xw E) : ∀ w ∈ vx_atS RX4 ic E rn_nm, w.before args s = true := by
  refine vx_hat h1 (B := rn_xw E) h2 (fun w hw => ?_)
  rcases List.mem_cons.mp hw with rfl | hw
  · exact va_Nw.use rfl hc
  · obtain ⟨y, hy, rfl⟩ := List.mem_map.mp hw
    exact va_Nw.use rfl (hd y hy)
section RNX
variable {p : Program} {l : Launch} {e : Env} {R : Room} {s : State} {m : MethodId} {args : Array Value} {below : List Frame} {meth : Method} {c : Code} {H : Heap} {locs : List Loc} {cells slots : Nat} {Q : State → Prop}
variable {cc bytes : ByteArray} {pc nL maxL index n mc ms sz : Nat} {ls : Array Slot} {st0 rest As : List Value} {D : va_G} {A0 A1 : Nat → Prop} {a b ci N : Nat} {tys : List (ClassId × FieldType)} {H0 : Heap} {fs : List Value} {own C E : String} {T : u_T} {y : MethodName} {ret : Option FieldType} {ws ws' Ts : List Cond} {rm : Room} {B : Heap → Prop} {P : Heap → Prop} {v : Option Value}
theorem rn_X.ofW {av : List Value} (hy : plainName y.cls = true) (hw : ws = Cond.code y cc maxL ret :: ws') (hn : (lg_sl av).length ≤ maxL)
    (body : ∀ (p : Program) (e : Env) (s : State) (m : MethodId) (below : List Frame) (meth : Method) (c : Code) (ls : Array Slot), p.tables.exec = Jvm.exec → c.code = cc → meth.sig.returnType = ret → c.maxLocals = maxL → (∀ w ∈ ws, w.before av.toArray s = true) → s.vm.findClass y.cls = some m.cls → meth.locks = false → s.heap.size = sz → B s.heap → rn_G D tys s → rn_E s → (∀ x ∈ c.exceptionTable.toList, False) → lv_has ls maxL (lv_args 0 av) →
      W p l e rm s m av.toArray below meth c s.heap [] 0 0 (vx_MQ below (fun _ _ _ _ => False) (vx_X (fun _ : Unit => True) (fun E' _ _ => E' = E) (fun q => sz ≤ q)) av.toArray s 1 6 (fun _ => False)) (F0 m 0 ls [])) : rn_X l y ws rm D tys B av E sz := by
  refine vx_ofW (cc := cc) (maxL := maxL) (ret := ret) hy hw ?_
  intro p e s m args below meth c s₁ B0 hml htab hv
  obtain ⟨rfl, ⟨hsz, hB⟩, hG, hE⟩ := hv
  have hl := lv_entry av (n := maxL) hn
  rw [lg_entry_eq]
  exact body p e s m below meth c _ B0.exec B0.bytes B0.returns hml (atoms_spec (ws := ws) B0.pre) (findClass_of_methodNamed B0.named) B0.notSynchronized hsz hB hG hE htab hl
theorem rn_PcBlindX : FrameBlind (va_Pc As (fun U => (U.heap.size = sz ∧ B U.heap) ∧ rn_G D tys U ∧ rn_E U)) := fun a U g mk q => ⟨q.1, q.2.1, q.2.2.1.call g mk a, q.2.2.2.call g mk a⟩
theorem rn_callX (hr : vx_Run p l e R s m args below meth c H locs cells slots mc ms (F0 m pc ls st0) rest (fun _ _ _ => False) (vx_X (fun _ : Unit => True) (fun E' _ _ => E' = E) (fun q => H.size ≤ q)) (fun _ => False)) (hS : va_S A0 H0 H locs)
    (kx : ∀ (ce : Cell) (q9 : Addr) (H1 : Heap), H.size ≤ H1.size → (∀ q : Nat, q < H.size → H1[q]? = H[q]?) → va_S A0 H0 H1 locs → H1[q9]? = some ce → ce.vm = .none → s.vm.findClass E = some ce.cls → vx_W p l e R s m args below meth c H1 locs (cells + mc) (slots + ms) Q (F0 m pc ls rest) q9) : W p l e R s m args below meth c H locs cells slots Q (F0 m pc ls st0) := by
  intro T hT X
  rcases hr T hT X with ⟨v, st₀, t, T', L, h0, X', hL, e1, e2, hq, -⟩ | ⟨q, st₀, t, T', L, E', ce, h0, X', hL, e1, e2, ⟨u, -, hE, hz, hk⟩, hce, hcv, hcl, st⟩
  · exact hq.elim
  · subst hE
    rw [h0] at hz hk
    have k1 : H.size ≤ T'.heap.size := by rw [e1]; exact hz
    have k2 : ∀ q : Nat, q < H.size → T'.heap[q]? = H[q]? := fun q hq => by rw [e1]; exact hk q hq (Nat.not_le.mpr hq)
    obtain ⟨t2, a1, b1⟩ := kx ce q T'.heap k1 k2 ⟨Nat.le_trans hS.1 k1, fun q h1 h2 => (k2 q (Nat.lt_of_lt_of_le h1 hS.1)).trans (hS.2.1 q h1 h2), hS.2.2⟩ (by rw [e1]; exact hce) hcv hcl T' rfl (Stand.forget X' (fun q h => (hL q h).elim))
    exact ⟨t2, st.trans a1, b1⟩
/-- a throw in a method that has no handler: 'throw new E("text")' -/
theorem rn_throw {ik is ic : Nat} {text : String} (hexec : p.tables.exec = Jvm.exec) (hb : c.code = cc) (hl : l.stackTraces = false) (hown : s.vm.findClass RX4 = some m.cls) (hts : ∀ w ∈ Ts, w.before args s = true) (hE : rn_E s) (hsz : s.heap.size = sz) (hfit : Bundle.fit E = true)
    (hk : Cond.classLink RX4 ik E ∈ Ts) (hini : Cond.initialized E ∈ Ts) (hin : ∀ w ∈ (vx_atS RX4 ic E rn_nm).filter goodWord, w ∈ Ts) (h2 : ∀ w ∈ (vx_atS RX4 ic E rn_nm).filter (fun w => !goodWord w), w ∈ rn_xw E) (hgood : ∀ w ∈ Cond.classLink RX4 ik E :: Cond.initialized E :: vx_atS RX4 ic E rn_nm, vx_ot w = true)
    (hxc : (E, E) ∈ rn_xc) (hstr : (is, text) ∈ rn_str) (hlsz : ls.size = c.maxLocals) (d0 : decode cc pc = .ok (.new ik, 3)) (d3 : decode cc (pc + 3) = .ok (.dup, 1)) (d4 : decode cc (pc + 4) = .ok (.ldc is, 2)) (d6 : decode cc (pc + 6) = .ok (.invokespecial ic, 3)) (d9 : decode cc (pc + 9) = .ok (.athrow, 1))
    (hout : ∀ x ∈ c.exceptionTable.toList, False) (hRf : 5 < R.frames) (hRl : (rest.map fun v => v.category).sum + 82 ≤ R.locals) (hRc : 1 ≤ R.cells) (hRs : 6 ≤ R.slots) (hlocks : meth.locks = false) :
    W p l e R s m args below meth c s.heap [] 0 0 (vx_MQ below (fun _ _ _ _ => False) (vx_X (fun _ : Unit => True) (fun E' _ _ => E' = E) (fun q => sz ≤ q)) args s 1 6 (fun _ => False)) (F0 m pc ls rest) := by
  obtain ⟨⟨hU, hN⟩, hx1, -, hx3⟩ := hE
  obtain ⟨sa, hsa⟩ := hx3 _ hstr
  exact vx_throwS (sa := sa) (text := text) (cls := E) (names := rn_nm) hexec hb hl hown hfit (by decide +kernel) (hts _ hk) (hts _ hini) hsa (rn_hat (fun w h => hts w (hin w h)) (hx1.1 _ hxc) hx1.2 h2) hgood hU hN va_S.rf hlsz d0 d3 d4 d6 d9 (fun x hx => (hout x hx).elim) hRf hRl hRc hRs hlocks
    (fun t _ hz hk => ⟨(), trivial, rfl, hz, fun q h1 _ => hk q h1⟩) (fun _ h => nomatch h) (Nat.le_refl _) (Nat.le_refl _)
/-- calls of methods that throw, in a method that has no handler -/
theorem rn_xV (n : Nat) (hexec : p.tables.exec = Jvm.exec) (hb : c.code = cc) (hml : c.maxLocals = nL) (hown : s.vm.findClass own = some m.cls) (hts : ∀ w ∈ Ts, w.before args s = true) (hG : rn_G D tys s) (hE : rn_E s) (hsz0 : s.heap.size = sz) (hout : ∀ x ∈ c.exceptionTable.toList, False) (hlocks : meth.locks = false)
    (hM : rn_X l y ws rm D tys B (.ref b :: As) E sz) (hgi : GoodIn Ts (wsV own index C y ws)) (hw : ws = .code y bytes maxL ret :: ws') (hrm : rm.cells = 1 ∧ rm.slots = 6)
    (hd : y.cls = C ∧ y.cls ≠ "java/lang/invoke/MethodHandle" ∧ y.cls ≠ "java/lang/invoke/VarHandle" ∧ (parseMethodDescriptor y.desc).map (fun d => d.parameters.length) = some n) (hR : rm.frames + 1 ≤ R.frames ∧ 8 + (maxL + 11) + rm.locals ≤ R.locals)
    (hB : B s.heap) (hat : va_at D vwCl (b, .inr (ci, fs)) s.heap) (hc : vwCl[ci]? = some (C, T, N)) (hn : As.length = n) (hsz : ls.size = nL) (hst : st0 = As.reverse ++ .ref b :: rest) (hW : (rest.map fun v => v.category).sum ≤ 8) (hf : 1 ≤ R.cells ∧ 6 ≤ R.slots) (hdg : decode cc pc = .ok (.invokevirtual index, 3)) :
    W p l e R s m args below meth c s.heap [] 0 0 (vx_MQ below (fun _ _ _ _ => False) (vx_X (fun _ : Unit => True) (fun E' _ _ => E' = E) (fun q => sz ≤ q)) args s 1 6 (fun _ => False)) (F0 m pc ls st0) := by
  subst hsz0
  refine rn_callX (mc := 1) (ms := 6) (E := E) (A0 := fun _ => True) (vx_runV (As := As) (rest := rest) ⟨hexec, hb, hml, hown, hts⟩ hM (cwV n hts hgi hw hrm.1 hrm.2 hd hR) ⟨rn_PcBlindX, rn_recv hG hat hc, fun U hU hW => ⟨rfl, ⟨by rw [hU], by rw [hU]; exact hB⟩, hG.warm hW, hE.warm hW hU⟩⟩ rfl hn hsz hst (lv_room hW) hdg (by rw [Nat.zero_add, Nat.zero_add]; exact hf)) va_S.rf ?_
  intro ce q9 H1 h1 h2 h3 h4 h5 h6
  exact vx_out (fun x hx => (hout x hx).elim) hlocks h4 h5 h6 (fun t ht _ => ⟨(), trivial, rfl, by rw [ht]; exact h1, fun q hq _ => by rw [ht]; exact h2 q hq⟩) (fun _ h => nomatch h) (Nat.le_refl _) (Nat.le_refl _)
theorem rn_xS (n : Nat) (hexec : p.tables.exec = Jvm.exec) (hb : c.code = cc) (hml : c.maxLocals = nL) (hown : s.vm.findClass own = some m.cls) (hts : ∀ w ∈ Ts, w.before args s = true) (hG : rn_G D tys s) (hE : rn_E s) (hsz0 : s.heap.size = sz) (hout : ∀ x ∈ c.exceptionTable.toList, False) (hlocks : meth.locks = false)
    (hM : rn_X l y ws rm D tys B As E sz) (hgi : GoodIn Ts (va_wsS own index y ws)) (hw : ws = .code y bytes maxL ret :: ws') (hrm : rm.cells = 1 ∧ rm.slots = 6)
    (hd : y.cls ≠ "java/lang/invoke/MethodHandle" ∧ y.cls ≠ "java/lang/invoke/VarHandle" ∧ (parseMethodDescriptor y.desc).map (fun d => d.parameters.length) = some n) (hR : rm.frames + 1 ≤ R.frames ∧ 8 + (maxL + 11) + rm.locals ≤ R.locals)
    (hB : B s.heap) (hn : As.length = n) (hsz : ls.size = nL) (hst : st0 = As.reverse ++ rest) (hW : (rest.map fun v => v.category).sum ≤ 8) (hf : 1 ≤ R.cells ∧ 6 ≤ R.slots) (hdg : decode cc pc = .ok (.invokestatic index, 3)) :
    W p l e R s m args below meth c s.heap [] 0 0 (vx_MQ below (fun _ _ _ _ => False) (vx_X (fun _ : Unit => True) (fun E' _ _ => E' = E) (fun q => sz ≤ q)) args s 1 6 (fun _ => False)) (F0 m pc ls st0) := by
  subst hsz0
  refine rn_callX (mc := 1) (ms := 6) (E := E) (A0 := fun _ => True) (vx_runS (As := As) (rest := rest) ⟨hexec, hb, hml, hown, hts⟩ hM (va_cwS n hts hgi hw hrm.1 hrm.2 hd hR) ⟨rn_PcBlindX, fun U hU hW => ⟨rfl, ⟨by rw [hU], by rw [hU]; exact hB⟩, hG.warm hW, hE.warm hW hU⟩⟩ rfl hn hsz hst (lv_room hW) hdg (by rw [Nat.zero_add, Nat.zero_add]; exact hf)) va_S.rf ?_
  intro ce q9 H1 h1 h2 h3 h4 h5 h6
  exact vx_out (fun x hx => (hout x hx).elim) hlocks h4 h5 h6 (fun t ht _ => ⟨(), trivial, rfl, by rw [ht]; exact h1, fun q hq _ => by rw [ht]; exact h2 q hq⟩) (fun _ h => nomatch h) (Nat.le_refl _) (Nat.le_refl _)
end RNX
