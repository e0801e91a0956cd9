/-! MAKING ARRAYS, and the constructors -/
section RNN
variable {p : Program} {l : Launch} {e : Env} {R : Room} {s : State} {m : MethodId} {args : Array Value} {below : List Frame} {meth : Method} {c : Code} {H : Heap} {locs : List Loc} {cells slots : Nat} {Q : State → Prop}
variable {cc : ByteArray} {pc : Nat} {ls : Array Slot} {rest : List Value} {D : va_G} {A : Nat → Prop} {a : Nat} {tys : List (ClassId × FieldType)} {H0 : Heap}
theorem rn_newa (hexec : p.tables.exec = Jvm.exec) (hb : c.code = cc) (harr : (Cond.arrayClass .int).before args s = true) (hG : rn_G D tys s) (hS : va_S A H0 H locs) {cA : ClassId} (t0 : Nat) (ht : tys[t0]? = some (cA, .int)) {N : Nat} (hN : N < 2 ^ 20) (hcells : cells + 1 ≤ R.cells) (hslots : slots + N ≤ R.slots) (hdg : decode cc pc = .ok (.newarray .int, 2))
    (kk : ∀ (q : Nat) (H1 : Heap), q = H.size → va_at D vwCl (q, .inl (cA, N, .inl (fun _ => 0))) H1 → H1.size = H.size + 1 → (∀ x : Nat, x < H.size → H1[x]? = H[x]?) → va_S A H0 H1 locs →
      W p l e R s m args below meth c H1 locs (cells + 1) (slots + N) Q (F0 m (pc + 2) ls (.ref q :: rest))) : W p l e R s m args below meth c H locs cells slots Q (F0 m pc ls (.int (nI N) :: rest)) := by
  refine va_newaK (atype := .int) hexec hb harr rfl hdg rfl (nI_pos (by omega)) (nI_clamp (by omega)) (show N * 4 ≤ 536870912 by omega) hcells hslots rfl fun H1 c2 e1 z1 o1 hAr hNm => ?_
  have hc : c2 = cA := Option.some.inj (hNm.symm.trans (hG.1.2 t0 _ ht).2)
  subst hc
  exact kk H.size H1 rfl e1 z1 o1 ⟨Nat.le_trans hS.1 (by omega), fun x h1 h2 => (o1 x (Nat.lt_of_lt_of_le h1 hS.1)).trans (hS.2.1 x h1 h2), hS.2.2⟩
theorem rn_newl (hexec : p.tables.exec = Jvm.exec) (hb : c.code = cc) (harr : (Cond.arrayClass .long).before args s = true) (hG : rn_G D tys s) (hS : va_S A H0 H locs) {cA : ClassId} (t0 : Nat) (ht : tys[t0]? = some (cA, .long)) {N : Nat} (hN : N < 2 ^ 20) (hcells : cells + 1 ≤ R.cells) (hslots : slots + N ≤ R.slots) (hdg : decode cc pc = .ok (.newarray .long, 2))
    (kk : ∀ (q : Nat) (H1 : Heap), q = H.size → va_at D vwCl (q, .inl (cA, N, .inr (.inl (fun _ => 0)))) H1 → H1.size = H.size + 1 → (∀ x : Nat, x < H.size → H1[x]? = H[x]?) → va_S A H0 H1 locs →
      W p l e R s m args below meth c H1 locs (cells + 1) (slots + N) Q (F0 m (pc + 2) ls (.ref q :: rest))) : W p l e R s m args below meth c H locs cells slots Q (F0 m pc ls (.int (nI N) :: rest)) := by
  refine va_newaK (atype := .long) hexec hb harr rfl hdg rfl (nI_pos (by omega)) (nI_clamp (by omega)) (show N * 8 ≤ 536870912 by omega) hcells hslots rfl fun H1 c2 e1 z1 o1 hAr hNm => ?_
  have hc : c2 = cA := Option.some.inj (hNm.symm.trans (hG.1.2 t0 _ ht).2)
  subst hc
  exact kk H.size H1 rfl e1 z1 o1 ⟨Nat.le_trans hS.1 (by omega), fun x h1 h2 => (o1 x (Nat.lt_of_lt_of_le h1 hS.1)).trans (hS.2.1 x h1 h2), hS.2.2⟩
theorem rn_newq (hexec : p.tables.exec = Jvm.exec) (hb : c.code = cc) {own C : String} {index : Nat} (hown : s.vm.findClass own = some m.cls) (hclink : (Cond.classLink own index C).before args s = true) (hover : va_AO C s) (hG : rn_G D tys s) (hS : va_S A H0 H locs) {cA : ClassId} (t0 : Nat) (ht : tys[t0]? = some (cA, .object C)) {N : Nat} (hN : N < 2 ^ 20) (hcells : cells + 1 ≤ R.cells) (hslots : slots + N ≤ R.slots) (hdg : decode cc pc = .ok (.anewarray index, 3))
    (kk : ∀ (q : Nat) (H1 : Heap), q = H.size → va_at D vwCl (q, .inl (cA, N, .inr (.inr (.inr (.inr (fun _ => none)))))) H1 → H1.size = H.size + 1 → (∀ x : Nat, x < H.size → H1[x]? = H[x]?) → va_S A H0 H1 locs →
      W p l e R s m args below meth c H1 locs (cells + 1) (slots + N) Q (F0 m (pc + 3) ls (.ref q :: rest))) : W p l e R s m args below meth c H locs cells slots Q (F0 m pc ls (.int (nI N) :: rest)) := by
  have hcl : (nI N).toNatClampNeg = N := nI_clamp (by omega)
  refine W.anew hexec hb hown hclink (va_AO.use hover) rfl hdg rfl (nI_pos (by omega)) (by rw [hcl]; omega) hcells (by rw [hcl]; exact hslots) fun c2 kA comp f1 f2 f3 f4 => ?_
  rw [hcl]
  obtain ⟨kB, cb, -, -, -, g4⟩ := (hG.1.2 t0 _ ht).2
  have hc : c2 = cA := Option.some.inj (f1.symm.trans g4)
  subst hc
  refine kk H.size _ rfl ?_ (by rw [Array.size_push]) (fun q hq => by rw [Array.getElem?_push, if_neg (Nat.ne_of_lt hq)]) ⟨Nat.le_trans hS.1 (by rw [Array.size_push]; omega), fun x h1 h2 => (by rw [Array.getElem?_push, if_neg (Nat.ne_of_lt (Nat.lt_of_lt_of_le h1 hS.1))]; exact hS.2.1 x h1 h2), hS.2.2⟩
  show (H.push _)[H.size]? = some (vp_cell _ _)
  rw [Array.getElem?_push_size, arrV_new]
  rfl
end RNN
/-- the arrays of references that the tables say can be made -/
def rn_AO (U : State) : Prop := va_AO RX3 U ∧ va_AO RX1 U ∧ va_AO RX0 U
theorem rn_AO.warm {s U : State} (hW : s.WarmedH U.vm) (h : rn_AO s) : rn_AO U := ⟨h.1.moved hW.alike, h.2.1.moved hW.alike, h.2.2.moved hW.alike⟩
theorem rn_AO.call {U : State} (g : JFrame) (mk : MethodId) (a : Array Value) (h : rn_AO U) : rn_AO (U.calling g mk a) :=
  ⟨va_AO.moved (u := U) (U := U.calling g mk a) (Vm.Alike.refl U.vm) h.1, va_AO.moved (u := U) (U := U.calling g mk a) (Vm.Alike.refl U.vm) h.2.1, va_AO.moved (u := U) (U := U.calling g mk a) (Vm.Alike.refl U.vm) h.2.2⟩
def rn_WC (l : Launch) (y : MethodName) (ws : List Cond) (rm : Room) (D : va_G) (tys : List (ClassId × FieldType)) (B : Heap → Prop) (av : List Value) (v : Option Value) (P : Heap → Prop) (A : Nat → Prop) (mc ms sz : Nat) : Prop :=
  Met l y ws rm (va_Pc av (fun U => (U.heap.size = sz ∧ B U.heap) ∧ rn_G D tys U ∧ rn_AO U)) (fun _ st o t => (o = .returned v ∧ P t.heap) ∧ va_F A st t) mc ms A
theorem rn_WC.ofW {l : Launch} {y : MethodName} {ws ws' : List Cond} {rm : Room} {D : va_G} {tys : List (ClassId × FieldType)} {B : Heap → Prop} {av : List Value} {v : Option Value} {P : Heap → Prop} {A : Nat → Prop} {mc ms sz : Nat} {cc : ByteArray} {maxL : Nat} {ret : Option FieldType}
    (hy : plainName y.cls = true) (hw : ws = Cond.code y cc maxL ret :: ws') (hn : (lg_sl av).length ≤ maxL)
    (body : ∀ (p : Program) (e : Env) (s : State) (m : MethodId) (below : List Frame) (meth : Method) (c : Code) (ls : Array Slot), p.tables.exec = Jvm.exec → c.code = cc → meth.sig.returnType = ret → c.maxLocals = maxL → (∀ w ∈ ws, w.before av.toArray s = true) → s.vm.findClass y.cls = some m.cls → meth.locks = false → meth.name = y.name → s.heap.size = sz → B s.heap → rn_G D tys s → rn_AO s → va_S A s.heap s.heap [] → lv_has ls maxL (lv_args 0 av) →
      W p l e rm s m av.toArray below meth c s.heap [] 0 0 (MQ below (fun _ st o t => (o = .returned v ∧ P t.heap) ∧ va_F A st t) av.toArray s mc ms A) (F0 m 0 ls [])) : rn_WC l y ws rm D tys B av v P A mc ms sz := by
  refine Met.ofW (cc := cc) (maxL := maxL) (ret := ret) hy hw ?_
  intro p e s m args below meth c s₁ B0 hml hv
  obtain ⟨rfl, ⟨hsz, hB⟩, hG, hO⟩ := hv
  have hl := lv_entry av (n := maxL) hn
  rw [lg_entry_eq]
  exact body p e s m below meth c _ B0.exec B0.bytes B0.returns hml (atoms_spec (ws := ws) B0.pre) (findClass_of_methodNamed B0.named) B0.notSynchronized (name_of_methodNamed B0.named B0.method).1 hsz hB hG hO va_S.rf hl
theorem rn_WC.blind {As : List Value} {D : va_G} {tys : List (ClassId × FieldType)} {B : Heap → Prop} {sz : Nat} : FrameBlind (va_Pc As (fun U => (U.heap.size = sz ∧ B U.heap) ∧ rn_G D tys U ∧ rn_AO U)) := fun a U g mk q => ⟨q.1, q.2.1, q.2.2.1.call g mk a, q.2.2.2.call g mk a⟩
/-- the value that a house starts with -/
def rn_s0 : rn_St := ((1, fun _ => 0, fun _ => -1, fun _ => [], []), (1, fun _ => 0, fun _ => 0, fun _ => 15), (0, fun _ => 0, fun _ => 0), (0, 0))
theorem rn_V_s0 : rn_V rn_s0 := by
  refine ⟨⟨by decide, by decide⟩, fun i h0 h1 => ?_, fun i hi => ⟨fun q hq => (by cases hq), Nat.zero_le _, rfl⟩, rfl, ⟨fun q hq => (by cases hq), Nat.zero_le _⟩, ⟨by decide, by decide, fun j hj => ⟨Nat.zero_lt_one, Nat.zero_le _⟩⟩, ⟨by decide, fun j hj => absurd hj (Nat.not_lt_zero _)⟩⟩
  have : i < 1 := h1
  omega
theorem rn_cell {D : va_G} {q : Nat} {e : va_E} {H : Heap} (h : va_at D vwCl (q, e) H) : rn_S D (va_up (fun _ => none) q (some e)) H := by
  intro a e' he
  by_cases h9 : a = q
  · subst h9; rw [rn_up_eq] at he; cases he; exact h
  · rw [rn_up_ne _ _ h9] at he; cases he
def rn_SZ (D : va_G) (f : rn_T) (sz : Nat) (H : Heap) : Prop := rn_S D f H ∧ H.size = sz
def rn_P0 (D : va_G) (cR cP cF : ClassId) (h0 sz : Nat) (H : Heap) : Prop := ∃ f1 : rn_T, rn_C cR cP cF h0 f1 rn_s0 ∧ rn_S D f1 H ∧ ∀ x, f1 x ≠ none → x = h0 ∨ sz ≤ x
theorem rn_ne1 {m0 sz k : Nat} (h : m0 < sz) : sz + k ≠ m0 := by omega
theorem rn_ne2 {m0 sz k : Nat} (h : m0 < sz) : m0 ≠ sz + k := by omega
theorem rn_ne3 {sz i j : Nat} (h : i ≠ j) : sz + i ≠ sz + j := by omega
theorem rn_lt1 {n sz i k : Nat} (hz : n = sz + k) (h : i < k) : sz + i < n := by omega
theorem rn_lt2 {n sz m0 k : Nat} (hz : n = sz + k) (h : m0 < sz) : m0 < n := by omega

set_option maxHeartbeats 4000000 in
set_option maxRecDepth 100000 in
theorem c_Room_initz (l : Launch) {D : va_G} {tys : List (ClassId × FieldType)} {f : rn_T} {q sz : Nat} {x0 x2 : Int32} (n : Int32) (z : Option Nat) (w : Int32) (hq : f q = some (.inr (3, [.int x0, .null, .int x2, .null]))) : rn_W l yX3_init wsX3_init ({ frames := 1, cells := 0, slots := 0, locals := 12 } : Room) D tys (rn_S D f) [.ref q, .int n, va_rf z, .int w] none (rn_SZ D (va_up f q (some (.inr (3, [.int n, va_rf z, .int w, .null])))) sz) (fun x => x = q) 0 0 sz := by
  refine rn_W.ofW (cc := cX3_init) (maxL := 4) (ret := none) (by decide) rfl (by cases z <;> exact Nat.le_of_ble_eq_true rfl) (fun p e s m below meth c ls hx hb hr hml hts hown hlocks hin hsz hF hG hS hl => ?_)
  have hl : lv_has ls 4 [(0, .ref q), (1, .int n), (2, va_rf z), (3, .int w)] := by cases z <;> exact hl
  have hzz := hsz
  refine lv_aload_n hx hb dX3_init_0 rfl (lv_at hl 0 rfl) ?_
  refine W.objInit hx hb hown (hts _ (mw_X3_init_3)) (hts _ ow_X3_init_1) (hts _ ow_X3_init_2) rfl (by rw [hml]; exact hl.1) rfl dX3_init_1 (Nat.le_of_ble_eq_true rfl) (Nat.le_of_ble_eq_true rfl) ?_
  refine W.eq (g2 := F0 m 4 ls []) rfl ?_
  refine lv_aload_n hx hb dX3_init_4 rfl (lv_at hl 0 rfl) ?_
  refine lv_iload_n hx hb dX3_init_5 rfl (lv_at hl 1 rfl) ?_
  refine rn_put (A := (fun x => x = q)) (ci := 3) (v := .int n) (C := RX3) (T := TX3) (N := 4) (fs' := [.int n, .null, .int x2, .null]) hx hb hts iw_X3_init_3 tyX3 tyX3_ok nmX3 hown hG hS rfl (hF _ _ hq) rfl 0 (by decide) fw_X3_init_9 (Or.inr ⟨hin, rfl, rfl⟩) rfl rfl (Nat.le_of_ble_eq_true rfl) rfl dX3_init_6 (fun H locs hat hz ho hS => ?_)
  have hF := hF.set hat ho
  have hzz := hz.trans hzz
  refine lv_aload_n hx hb dX3_init_9 rfl (lv_at hl 0 rfl) ?_
  refine rn_aload_n hx hb dX3_init_10 rfl (lv_at hl 2 rfl) ?_
  refine rn_put (A := (fun x => x = q)) (ci := 3) (v := va_rf z) (C := RX3) (T := TX3) (N := 4) (fs' := [.int n, va_rf z, .int x2, .null]) hx hb hts iw_X3_init_3 tyX3 tyX3_ok nmX3 hown hG hS rfl (hF _ _ (rn_up_eq _ _ _)) rfl 1 (by decide) fw_X3_init_15 (Or.inr ⟨hin, rfl, rfl⟩) (rn_nrf _ _) (rn_fitrf _ _) (Nat.le_of_ble_eq_true rfl) rfl dX3_init_11 (fun H locs hat hz ho hS => ?_)
  have hF := hF.set hat ho
  rw [rn_up_up] at hF
  have hzz := hz.trans hzz
  refine lv_aload_n hx hb dX3_init_14 rfl (lv_at hl 0 rfl) ?_
  refine lv_iload_n hx hb dX3_init_15 rfl (lv_at hl 3 rfl) ?_
  refine rn_put (A := (fun x => x = q)) (ci := 3) (v := .int w) (C := RX3) (T := TX3) (N := 4) (fs' := [.int n, va_rf z, .int w, .null]) hx hb hts iw_X3_init_3 tyX3 tyX3_ok nmX3 hown hG hS rfl (hF _ _ (rn_up_eq _ _ _)) rfl 2 (by decide) fw_X3_init_19 (Or.inr ⟨hin, rfl, rfl⟩) rfl rfl (Nat.le_of_ble_eq_true rfl) rfl dX3_init_16 (fun H locs hat hz ho hS => ?_)
  have hF := hF.set hat ho
  rw [rn_up_up] at hF
  have hzz := hz.trans hzz
  refine lv_aload_n hx hb dX3_init_19 rfl (lv_at hl 0 rfl) ?_
  refine lv_null hx hb dX3_init_20 ?_
  refine rn_put (A := (fun x => x = q)) (ci := 3) (v := .null) (C := RX3) (T := TX3) (N := 4) (fs' := [.int n, va_rf z, .int w, .null]) hx hb hts iw_X3_init_3 tyX3 tyX3_ok nmX3 hown hG hS rfl (hF _ _ (rn_up_eq _ _ _)) rfl 3 (by decide) fw_X3_init_22 (Or.inl rfl) rfl rfl (Nat.le_of_ble_eq_true rfl) rfl dX3_init_21 (fun H locs hat hz ho hS => ?_)
  have hF := hF.set hat ho
  rw [rn_up_up] at hF
  have hzz := hz.trans hzz
  exact rn_Wvret hx hb hr hlocks hS (by decide) (by decide) rfl ⟨hF, hzz⟩ dX3_init_24

set_option maxHeartbeats 4000000 in
set_option maxRecDepth 100000 in
theorem c_Process_initz (l : Launch) {D : va_G} {tys : List (ClassId × FieldType)} {f : rn_T} {q sz : Nat} {x1 x2 : Int32} {r : Nat} (u k : Int32) (hq : f q = some (.inr (1, [.null, .int x1, .int x2]))) : rn_W l yX1_init wsX1_init ({ frames := 1, cells := 0, slots := 0, locals := 12 } : Room) D tys (rn_S D f) [.ref q, .ref r, .int u, .int k] none (rn_SZ D (va_up f q (some (.inr (1, [.ref r, .int u, .int k])))) sz) (fun x => x = q) 0 0 sz := by
  refine rn_W.ofW (cc := cX1_init) (maxL := 4) (ret := none) (by decide) rfl (Nat.le_of_ble_eq_true rfl) (fun p e s m below meth c ls hx hb hr hml hts hown hlocks hin hsz hF hG hS hl => ?_)
  have hl : lv_has ls 4 [(0, .ref q), (1, .ref r), (2, .int u), (3, .int k)] := hl
  have hzz := hsz
  refine lv_aload_n hx hb dX1_init_0 rfl (lv_at hl 0 rfl) ?_
  refine W.objInit hx hb hown (hts _ (mw_X1_init_3)) (hts _ ow_X1_init_1) (hts _ ow_X1_init_2) rfl (by rw [hml]; exact hl.1) rfl dX1_init_1 (Nat.le_of_ble_eq_true rfl) (Nat.le_of_ble_eq_true rfl) ?_
  refine W.eq (g2 := F0 m 4 ls []) rfl ?_
  refine lv_aload_n hx hb dX1_init_4 rfl (lv_at hl 0 rfl) ?_
  refine lv_aload_n hx hb dX1_init_5 rfl (lv_at hl 1 rfl) ?_
  refine rn_put (A := (fun x => x = q)) (ci := 1) (v := .ref r) (C := RX1) (T := TX1) (N := 3) (fs' := [.ref r, .int x1, .int x2]) hx hb hts iw_X1_init_1 tyX1 tyX1_ok nmX1 hown hG hS rfl (hF _ _ hq) rfl 0 (by decide) fw_X1_init_9 (Or.inl rfl) rfl rfl (Nat.le_of_ble_eq_true rfl) rfl dX1_init_6 (fun H locs hat hz ho hS => ?_)
  have hF := hF.set hat ho
  have hzz := hz.trans hzz
  refine lv_aload_n hx hb dX1_init_9 rfl (lv_at hl 0 rfl) ?_
  refine lv_iload_n hx hb dX1_init_10 rfl (lv_at hl 2 rfl) ?_
  refine rn_put (A := (fun x => x = q)) (ci := 1) (v := .int u) (C := RX1) (T := TX1) (N := 3) (fs' := [.ref r, .int u, .int x2]) hx hb hts iw_X1_init_1 tyX1 tyX1_ok nmX1 hown hG hS rfl (hF _ _ (rn_up_eq _ _ _)) rfl 1 (by decide) fw_X1_init_15 (Or.inl rfl) rfl rfl (Nat.le_of_ble_eq_true rfl) rfl dX1_init_11 (fun H locs hat hz ho hS => ?_)
  have hF := hF.set hat ho
  rw [rn_up_up] at hF
  have hzz := hz.trans hzz
  refine lv_aload_n hx hb dX1_init_14 rfl (lv_at hl 0 rfl) ?_
  refine lv_iload_n hx hb dX1_init_15 rfl (lv_at hl 3 rfl) ?_
  refine rn_put (A := (fun x => x = q)) (ci := 1) (v := .int k) (C := RX1) (T := TX1) (N := 3) (fs' := [.ref r, .int u, .int k]) hx hb hts iw_X1_init_1 tyX1 tyX1_ok nmX1 hown hG hS rfl (hF _ _ (rn_up_eq _ _ _)) rfl 2 (by decide) fw_X1_init_19 (Or.inl rfl) rfl rfl (Nat.le_of_ble_eq_true rfl) rfl dX1_init_16 (fun H locs hat hz ho hS => ?_)
  have hF := hF.set hat ho
  rw [rn_up_up] at hF
  have hzz := hz.trans hzz
  exact rn_Wvret hx hb hr hlocks hS (by decide) (by decide) rfl ⟨hF, hzz⟩ dX1_init_19

theorem aq_X4_init_7 : Cond.classLink RX4 7 RX3 ∈ wsX4_init := by decide +kernel
theorem aq_X4_init_22 : Cond.classLink RX4 22 RX1 ∈ wsX4_init := by decide +kernel
theorem aq_X4_init_34 : Cond.classLink RX4 34 RX0 ∈ wsX4_init := by decide +kernel
def rn_f0 (h0 sz : Nat) (cR cP cF : ClassId) : rn_T := fun a => if a = h0 then some (.inr (4, [.ref (sz + 1), .int 1, .ref (sz + 2), .int 1, .ref (sz + 4), .int 0, .null, .int 0, .int 0]))
  else if a = sz + 0 then some (.inr (3, [.int 0, .null, .int (-1), .null]))
  else if a = sz + 1 then some (.inl (cR, 10, .inr (.inr (.inr (.inr (va_up (fun _ => none) 0 (some (sz + 0))))))))
  else if a = sz + 2 then some (.inl (cP, 12, .inr (.inr (.inr (.inr (va_up (fun _ => none) 0 (some (sz + 3))))))))
  else if a = sz + 3 then some (.inr (1, [.ref (sz + 0), .int 0, .int 15]))
  else if a = sz + 4 then some (.inl (cF, 20, .inr (.inr (.inr (.inr (fun _ => none))))))
  else none
theorem rn_row1 (q : Nat) : va_up (fun _ => none) 0 (some q) = rn_row 1 (fun _ => q) := by
  funext i
  by_cases h : i = 0
  · subst h; rfl
  · rw [rn_up_ne _ _ h, rn_row_out (by omega)]
theorem rn_f0_C {h0 sz : Nat} {cR cP cF : ClassId} (h : h0 < sz) : rn_C cR cP cF h0 (rn_f0 h0 sz cR cP cF) rn_s0 := by
  refine ⟨rn_V_s0, sz + 1, sz + 2, sz + 4, fun _ => sz + 0, fun _ => sz + 3, fun _ => 0, fun _ => none, none, ⟨?_, ?_, ?_, ?_⟩, ⟨fun i hi => ?_, fun i hi => rfl⟩, fun j hj => ?_, fun j hj => absurd hj (Nat.not_lt_zero _), rfl, fun i j hi hj _ => ?_, fun i j hi => absurd hi (Nat.not_lt_zero _)⟩
  · rw [rn_f0, if_pos rfl]; rfl
  · rw [rn_f0, if_neg (by omega), if_neg (by omega), if_pos rfl, rn_row1]; rfl
  · rw [rn_f0, if_neg (by omega), if_neg (by omega), if_neg (by omega), if_pos rfl, rn_row1]; rfl
  · rw [rn_f0, if_neg (by omega), if_neg (by omega), if_neg (by omega), if_neg (by omega), if_neg (by omega), if_pos rfl]
    congr 6
  · have : i < 1 := hi
    rw [show i = 0 by omega]
    show rn_f0 h0 sz cR cP cF (sz + 0) = _
    rw [rn_f0, if_neg (by omega), if_pos rfl]; rfl
  · have : j < 1 := hj
    show rn_f0 h0 sz cR cP cF (sz + 3) = _
    rw [rn_f0, if_neg (by omega), if_neg (by omega), if_neg (by omega), if_neg (by omega), if_pos rfl]; rfl
  · have : i < 1 := hi
    have : j < 1 := hj
    omega
theorem rn_f0_S {D : va_G} {h0 sz : Nat} {cR cP cF : ClassId} {H : Heap} (hm : va_at D vwCl (h0, .inr (4, [.ref (sz + 1), .int 1, .ref (sz + 2), .int 1, .ref (sz + 4), .int 0, .null, .int 0, .int 0])) H) (hq0 : va_at D vwCl (sz + 0, .inr (3, [.int 0, .null, .int (-1), .null])) H) (hq1 : va_at D vwCl (sz + 1, .inl (cR, 10, .inr (.inr (.inr (.inr (va_up (fun _ => none) 0 (some (sz + 0)))))))) H) (hq2 : va_at D vwCl (sz + 2, .inl (cP, 12, .inr (.inr (.inr (.inr (va_up (fun _ => none) 0 (some (sz + 3)))))))) H) (hq3 : va_at D vwCl (sz + 3, .inr (1, [.ref (sz + 0), .int 0, .int 15])) H) (hq4 : va_at D vwCl (sz + 4, .inl (cF, 20, .inr (.inr (.inr (.inr (fun _ => none)))))) H) : rn_S D (rn_f0 h0 sz cR cP cF) H := by
  intro a e he
  unfold rn_f0 at he
  split at he
  · next h => subst h; cases he; exact hm
  split at he
  · next h => subst h; cases he; exact hq0
  split at he
  · next h => subst h; cases he; exact hq1
  split at he
  · next h => subst h; cases he; exact hq2
  split at he
  · next h => subst h; cases he; exact hq3
  split at he
  · next h => subst h; cases he; exact hq4
  cases he
theorem rn_f0_A {h0 sz : Nat} {cR cP cF : ClassId} : ∀ x, rn_f0 h0 sz cR cP cF x ≠ none → x = h0 ∨ sz ≤ x := by
  intro x hx
  by_cases h : x = h0
  · exact Or.inl h
  · refine Or.inr (Nat.not_lt.mp (fun h2 => hx ?_))
    rw [rn_f0, if_neg h, if_neg (by omega), if_neg (by omega), if_neg (by omega), if_neg (by omega), if_neg (by omega)]

set_option maxHeartbeats 4000000 in
set_option maxRecDepth 100000 in
theorem w_hinit (l : Launch) {D : va_G} {cR cP cF : ClassId} {h0 : Nat} (sz : Nat) : rn_WC l yX4_init wsX4_init ({ frames := 2, cells := 5, slots := 49, locals := 35 } : Room) D (rn_tys cR cP cF) ((va_at D vwCl (h0, .inr (4, [.null, .int 0, .null, .int 0, .null, .int 0, .null, .int 0, .int 0])))) [.ref h0] none (rn_P0 D cR cP cF h0 sz) (fun q => q = h0 ∨ sz ≤ q) 5 49 sz := by
  refine rn_WC.ofW (cc := cX4_init) (maxL := 2) (ret := none) (by decide) rfl (Nat.le_of_ble_eq_true rfl) (fun p e s m below meth c ls hx hb hr hml hts hown hlocks hin hsz hF hG hAO hS hl => ?_)
  have hl : lv_has ls 2 [(0, .ref h0)] := hl
  have hm := hF
  have hzz : s.heap.size = sz + 0 := hsz
  have hm0 : h0 < sz := by rw [← hsz]; exact hm.lt
  refine lv_aload_n hx hb dX4_init_0 rfl (lv_at hl 0 rfl) ?_
  refine W.objInit hx hb hown (hts _ (mw_X4_init_1)) (hts _ ow_X4_init_1) (hts _ ow_X4_init_2) rfl (by rw [hml]; exact hl.1) rfl dX4_init_1 (Nat.le_of_ble_eq_true rfl) (Nat.le_of_ble_eq_true rfl) ?_
  refine W.eq (g2 := F0 m 4 ls []) rfl ?_
  refine rn_new (A := (fun q => q = h0 ∨ sz ≤ q)) (ci := 3) (C := RX3) (T := TX3) (N := 4) (fs := [.int 0, .null, .int 0, .null]) hx hb hts iw_X4_init_3 tyX3 tyX3_ok hown cw_X4_init_7 nw_X4_init_3 tw_X4_init_3 hG hS (fun q hq => Or.inr (by rw [← hsz]; exact hq)) rfl (fun j hj => by rcases (show j = 0 ∨ j = 1 ∨ j = 2 ∨ j = 3 by omega) with rfl | rfl | rfl | rfl <;> rfl) (Nat.le_of_ble_eq_true rfl) (Nat.le_of_ble_eq_true rfl) dX4_init_4 (fun q9 H hq hat hz ho hS => ?_)
  rw [hzz] at hq hz
  have hq0 := hat
  rw [hq] at hq0
  have hm := hm.kept (ho _ (rn_lt2 hzz hm0))
  have hzz : Array.size H = sz + 1 := hz
  refine rn_top (y := .ref (sz + 0)) (congrArg Value.ref hq) ?_
  refine lv_dup hx hb dX4_init_7 rfl ?_
  refine lv_iconst (v := 0) hx hb dX4_init_8 (by decide) ?_
  refine lv_null hx hb dX4_init_9 ?_
  refine lv_iconst (v := (-1)) hx hb dX4_init_10 (by decide) ?_
  refine rn_wI (As := [.int 0, .null, .int (-1)]) (rest := [.ref (sz + 0)]) 3 hx hb hml hown hts hG hS (c_Room_initz l 0 none (-1) (rn_up_eq _ _ _)) (fun x hx => by rw [show x = (sz + 0) from hx]; exact Or.inr (Nat.le_add_right _ _)) gX4_init_X3_init rfl ⟨rfl, rfl⟩ (by decide +kernel) (by decide +kernel) (by decide +kernel) rfl (by decide +kernel) ⟨Nat.le_of_ble_eq_true rfl, Nat.le_of_ble_eq_true rfl⟩ (rn_cell hq0) rfl hl.1 rfl (Nat.le_of_ble_eq_true rfl) ⟨by decide, by decide⟩ dX4_init_11 (fun H locs hP1 hz hk hS => ?_)
  refine W.eq (g2 := F0 m 14 ls [.ref (sz + 0)]) rfl ?_
  have hq0 := hP1.1 (sz + 0) _ (rn_up_eq _ _ _)
  have hm := hm.kept (hk _ (rn_lt2 hzz hm0) (rn_ne2 hm0))
  have hzz := hP1.2.trans hzz
  refine lv_astore_n (lv' := [(1, .ref (sz + 0)), (0, .ref h0)]) hx hb dX4_init_14 rfl hl (by decide) rfl (fun ls hl => ?_)
  refine lv_aload_n hx hb dX4_init_15 rfl (lv_at hl 1 rfl) ?_
  refine lv_bipush (v := 10) hx hb dX4_init_16 (by decide +kernel) ?_
  refine rn_top (y := .int (nI 10)) (congrArg Value.int (rfl)) ?_
  refine rn_newq (C := RX3) hx hb hown (hts _ aq_X4_init_7) hAO.1 hG hS 0 rfl (N := 10) (by decide) (Nat.le_of_ble_eq_true rfl) (Nat.le_of_ble_eq_true rfl) dX4_init_18 (fun q9 H hq hat hz ho hS => ?_)
  rw [hzz] at hq hz
  have hq1 := hat
  rw [hq] at hq1
  have hm := hm.kept (ho _ (rn_lt2 hzz hm0))
  have hq0 := hq0.kept (ho _ (rn_lt1 hzz (by decide)))
  have hzz : Array.size H = sz + 2 := hz
  refine rn_top (y := .ref (sz + 1)) (congrArg Value.ref hq) ?_
  refine rn_put (A := (fun q => q = h0 ∨ sz ≤ q)) (ci := 4) (v := .ref (sz + 1)) (C := RX4) (T := TX4) (N := 9) (fs' := [.ref (sz + 1), .int 0, .null, .int 0, .null, .int 0, .null, .int 0, .int 0]) hx hb hts iw_X4_init_4 tyX4 tyX4_ok nmX4 hown hG hS (Or.inl rfl) hm rfl 0 (by decide) fw_X4_init_14 (Or.inr ⟨hin, rfl, rfl⟩) rfl rfl (Nat.le_of_ble_eq_true rfl) rfl dX4_init_21 (fun H locs hat hz ho hS => ?_)
  have hm := hat
  rw [← hz] at hzz
  have hq0 := hq0.kept (ho _ (rn_ne1 hm0))
  have hq1 := hq1.kept (ho _ (rn_ne1 hm0))
  refine lv_aload_n hx hb dX4_init_24 rfl (lv_at hl 1 rfl) ?_
  refine rn_get (ci := 4) (v := .ref (sz + 1)) (C := RX4) (T := TX4) (N := 9) hx hb hts iw_X4_init_4 hown hG hm rfl 0 (by decide) fw_X4_init_14 rfl dX4_init_25 ?_
  refine lv_iconst (v := 0) hx hb dX4_init_28 (by decide) ?_
  refine rn_top (y := .int (nI 0)) (congrArg Value.int (rfl)) ?_
  refine lv_aload_n hx hb dX4_init_29 rfl (lv_at hl 0 rfl) ?_
  refine rn_aast (A := (fun q => q = h0 ∨ sz ≤ q)) (ci := 3) (C := RX3) (T := TX3) (N := 4) (j := 0) hx hb hG hS (Or.inr (Nat.le_add_right _ _)) hq1 0 rfl hq0 rfl (by decide) (by decide) dX4_init_30 (fun H locs hat hz ho hS => ?_)
  have hq1 := hat
  rw [← hz] at hzz
  have hm := hm.kept (ho _ (rn_ne2 hm0))
  have hq0 := hq0.kept (ho _ (rn_ne3 (by decide : 0 ≠ 1)))
  refine lv_aload_n hx hb dX4_init_31 rfl (lv_at hl 1 rfl) ?_
  refine lv_iconst (v := 1) hx hb dX4_init_32 (by decide) ?_
  refine rn_put (A := (fun q => q = h0 ∨ sz ≤ q)) (ci := 4) (v := .int 1) (C := RX4) (T := TX4) (N := 9) (fs' := [.ref (sz + 1), .int 1, .null, .int 0, .null, .int 0, .null, .int 0, .int 0]) hx hb hts iw_X4_init_4 tyX4 tyX4_ok nmX4 hown hG hS (Or.inl rfl) hm rfl 1 (by decide) fw_X4_init_18 (Or.inl rfl) rfl rfl (Nat.le_of_ble_eq_true rfl) rfl dX4_init_33 (fun H locs hat hz ho hS => ?_)
  have hm := hat
  rw [← hz] at hzz
  have hq0 := hq0.kept (ho _ (rn_ne1 hm0))
  have hq1 := hq1.kept (ho _ (rn_ne1 hm0))
  refine lv_aload_n hx hb dX4_init_36 rfl (lv_at hl 1 rfl) ?_
  refine lv_bipush (v := 12) hx hb dX4_init_37 (by decide +kernel) ?_
  refine rn_top (y := .int (nI 12)) (congrArg Value.int (rfl)) ?_
  refine rn_newq (C := RX1) hx hb hown (hts _ aq_X4_init_22) hAO.2.1 hG hS 1 rfl (N := 12) (by decide) (Nat.le_of_ble_eq_true rfl) (Nat.le_of_ble_eq_true rfl) dX4_init_39 (fun q9 H hq hat hz ho hS => ?_)
  rw [hzz] at hq hz
  have hq2 := hat
  rw [hq] at hq2
  have hm := hm.kept (ho _ (rn_lt2 hzz hm0))
  have hq0 := hq0.kept (ho _ (rn_lt1 hzz (by decide)))
  have hq1 := hq1.kept (ho _ (rn_lt1 hzz (by decide)))
  have hzz : Array.size H = sz + 3 := hz
  refine rn_top (y := .ref (sz + 2)) (congrArg Value.ref hq) ?_
  refine rn_put (A := (fun q => q = h0 ∨ sz ≤ q)) (ci := 4) (v := .ref (sz + 2)) (C := RX4) (T := TX4) (N := 9) (fs' := [.ref (sz + 1), .int 1, .ref (sz + 2), .int 0, .null, .int 0, .null, .int 0, .int 0]) hx hb hts iw_X4_init_4 tyX4 tyX4_ok nmX4 hown hG hS (Or.inl rfl) hm rfl 2 (by decide) fw_X4_init_24 (Or.inr ⟨hin, rfl, rfl⟩) rfl rfl (Nat.le_of_ble_eq_true rfl) rfl dX4_init_42 (fun H locs hat hz ho hS => ?_)
  have hm := hat
  rw [← hz] at hzz
  have hq0 := hq0.kept (ho _ (rn_ne1 hm0))
  have hq1 := hq1.kept (ho _ (rn_ne1 hm0))
  have hq2 := hq2.kept (ho _ (rn_ne1 hm0))
  refine lv_aload_n hx hb dX4_init_45 rfl (lv_at hl 1 rfl) ?_
  refine rn_get (ci := 4) (v := .ref (sz + 2)) (C := RX4) (T := TX4) (N := 9) hx hb hts iw_X4_init_4 hown hG hm rfl 2 (by decide) fw_X4_init_24 rfl dX4_init_46 ?_
  refine lv_iconst (v := 0) hx hb dX4_init_49 (by decide) ?_
  refine rn_top (y := .int (nI 0)) (congrArg Value.int (rfl)) ?_
  refine rn_new (A := (fun q => q = h0 ∨ sz ≤ q)) (ci := 1) (C := RX1) (T := TX1) (N := 3) (fs := [.null, .int 0, .int 0]) hx hb hts iw_X4_init_1 tyX1 tyX1_ok hown cw_X4_init_22 nw_X4_init_1 tw_X4_init_1 hG hS (fun q hq => Or.inr (by rw [← hsz]; exact hq)) rfl (fun j hj => by rcases (show j = 0 ∨ j = 1 ∨ j = 2 by omega) with rfl | rfl | rfl <;> rfl) (Nat.le_of_ble_eq_true rfl) (Nat.le_of_ble_eq_true rfl) dX4_init_50 (fun q9 H hq hat hz ho hS => ?_)
  rw [hzz] at hq hz
  have hq3 := hat
  rw [hq] at hq3
  have hm := hm.kept (ho _ (rn_lt2 hzz hm0))
  have hq0 := hq0.kept (ho _ (rn_lt1 hzz (by decide)))
  have hq1 := hq1.kept (ho _ (rn_lt1 hzz (by decide)))
  have hq2 := hq2.kept (ho _ (rn_lt1 hzz (by decide)))
  have hzz : Array.size H = sz + 4 := hz
  refine rn_top (y := .ref (sz + 3)) (congrArg Value.ref hq) ?_
  refine lv_dup hx hb dX4_init_53 rfl ?_
  refine lv_aload_n hx hb dX4_init_54 rfl (lv_at hl 0 rfl) ?_
  refine lv_iconst (v := 0) hx hb dX4_init_55 (by decide) ?_
  refine lv_bipush (v := 15) hx hb dX4_init_56 (by decide +kernel) ?_
  refine rn_wI (As := [.ref (sz + 0), .int 0, .int 15]) (rest := [.ref (sz + 3), .int (nI 0), .ref (sz + 2)]) 3 hx hb hml hown hts hG hS (c_Process_initz l 0 15 (rn_up_eq _ _ _)) (fun x hx => by rw [show x = (sz + 3) from hx]; exact Or.inr (Nat.le_add_right _ _)) gX4_init_X1_init rfl ⟨rfl, rfl⟩ (by decide +kernel) (by decide +kernel) (by decide +kernel) rfl (by decide +kernel) ⟨Nat.le_of_ble_eq_true rfl, Nat.le_of_ble_eq_true rfl⟩ (rn_cell hq3) rfl hl.1 rfl (Nat.le_of_ble_eq_true rfl) ⟨by decide, by decide⟩ dX4_init_58 (fun H locs hP1 hz hk hS => ?_)
  refine W.eq (g2 := F0 m 61 ls [.ref (sz + 3), .int (nI 0), .ref (sz + 2)]) rfl ?_
  have hq3 := hP1.1 (sz + 3) _ (rn_up_eq _ _ _)
  have hm := hm.kept (hk _ (rn_lt2 hzz hm0) (rn_ne2 hm0))
  have hq0 := hq0.kept (hk _ (rn_lt1 hzz (by decide)) (rn_ne3 (by decide : 0 ≠ 3)))
  have hq1 := hq1.kept (hk _ (rn_lt1 hzz (by decide)) (rn_ne3 (by decide : 1 ≠ 3)))
  have hq2 := hq2.kept (hk _ (rn_lt1 hzz (by decide)) (rn_ne3 (by decide : 2 ≠ 3)))
  have hzz := hP1.2.trans hzz
  refine rn_aast (A := (fun q => q = h0 ∨ sz ≤ q)) (ci := 1) (C := RX1) (T := TX1) (N := 3) (j := 0) hx hb hG hS (Or.inr (Nat.le_add_right _ _)) hq2 1 rfl hq3 rfl (by decide) (by decide) dX4_init_61 (fun H locs hat hz ho hS => ?_)
  have hq2 := hat
  rw [← hz] at hzz
  have hm := hm.kept (ho _ (rn_ne2 hm0))
  have hq0 := hq0.kept (ho _ (rn_ne3 (by decide : 0 ≠ 2)))
  have hq1 := hq1.kept (ho _ (rn_ne3 (by decide : 1 ≠ 2)))
  have hq3 := hq3.kept (ho _ (rn_ne3 (by decide : 3 ≠ 2)))
  refine lv_aload_n hx hb dX4_init_62 rfl (lv_at hl 1 rfl) ?_
  refine lv_iconst (v := 1) hx hb dX4_init_63 (by decide) ?_
  refine rn_put (A := (fun q => q = h0 ∨ sz ≤ q)) (ci := 4) (v := .int 1) (C := RX4) (T := TX4) (N := 9) (fs' := [.ref (sz + 1), .int 1, .ref (sz + 2), .int 1, .null, .int 0, .null, .int 0, .int 0]) hx hb hts iw_X4_init_4 tyX4 tyX4_ok nmX4 hown hG hS (Or.inl rfl) hm rfl 3 (by decide) fw_X4_init_31 (Or.inl rfl) rfl rfl (Nat.le_of_ble_eq_true rfl) rfl dX4_init_64 (fun H locs hat hz ho hS => ?_)
  have hm := hat
  rw [← hz] at hzz
  have hq0 := hq0.kept (ho _ (rn_ne1 hm0))
  have hq1 := hq1.kept (ho _ (rn_ne1 hm0))
  have hq2 := hq2.kept (ho _ (rn_ne1 hm0))
  have hq3 := hq3.kept (ho _ (rn_ne1 hm0))
  refine lv_aload_n hx hb dX4_init_67 rfl (lv_at hl 1 rfl) ?_
  refine lv_bipush (v := 20) hx hb dX4_init_68 (by decide +kernel) ?_
  refine rn_top (y := .int (nI 20)) (congrArg Value.int (rfl)) ?_
  refine rn_newq (C := RX0) hx hb hown (hts _ aq_X4_init_34) hAO.2.2 hG hS 2 rfl (N := 20) (by decide) (Nat.le_of_ble_eq_true rfl) (Nat.le_of_ble_eq_true rfl) dX4_init_70 (fun q9 H hq hat hz ho hS => ?_)
  rw [hzz] at hq hz
  have hq4 := hat
  rw [hq] at hq4
  have hm := hm.kept (ho _ (rn_lt2 hzz hm0))
  have hq0 := hq0.kept (ho _ (rn_lt1 hzz (by decide)))
  have hq1 := hq1.kept (ho _ (rn_lt1 hzz (by decide)))
  have hq2 := hq2.kept (ho _ (rn_lt1 hzz (by decide)))
  have hq3 := hq3.kept (ho _ (rn_lt1 hzz (by decide)))
  have hzz : Array.size H = sz + 5 := hz
  refine rn_top (y := .ref (sz + 4)) (congrArg Value.ref hq) ?_
  refine rn_put (A := (fun q => q = h0 ∨ sz ≤ q)) (ci := 4) (v := .ref (sz + 4)) (C := RX4) (T := TX4) (N := 9) (fs' := [.ref (sz + 1), .int 1, .ref (sz + 2), .int 1, .ref (sz + 4), .int 0, .null, .int 0, .int 0]) hx hb hts iw_X4_init_4 tyX4 tyX4_ok nmX4 hown hG hS (Or.inl rfl) hm rfl 4 (by decide) fw_X4_init_36 (Or.inr ⟨hin, rfl, rfl⟩) rfl rfl (Nat.le_of_ble_eq_true rfl) rfl dX4_init_73 (fun H locs hat hz ho hS => ?_)
  have hm := hat
  rw [← hz] at hzz
  have hq0 := hq0.kept (ho _ (rn_ne1 hm0))
  have hq1 := hq1.kept (ho _ (rn_ne1 hm0))
  have hq2 := hq2.kept (ho _ (rn_ne1 hm0))
  have hq3 := hq3.kept (ho _ (rn_ne1 hm0))
  have hq4 := hq4.kept (ho _ (rn_ne1 hm0))
  refine lv_aload_n hx hb dX4_init_76 rfl (lv_at hl 1 rfl) ?_
  refine lv_iconst (v := 0) hx hb dX4_init_77 (by decide) ?_
  refine rn_put (A := (fun q => q = h0 ∨ sz ≤ q)) (ci := 4) (v := .int 0) (C := RX4) (T := TX4) (N := 9) (fs' := [.ref (sz + 1), .int 1, .ref (sz + 2), .int 1, .ref (sz + 4), .int 0, .null, .int 0, .int 0]) hx hb hts iw_X4_init_4 tyX4 tyX4_ok nmX4 hown hG hS (Or.inl rfl) hm rfl 5 (by decide) fw_X4_init_40 (Or.inl rfl) rfl rfl (Nat.le_of_ble_eq_true rfl) rfl dX4_init_78 (fun H locs hat hz ho hS => ?_)
  have hm := hat
  rw [← hz] at hzz
  have hq0 := hq0.kept (ho _ (rn_ne1 hm0))
  have hq1 := hq1.kept (ho _ (rn_ne1 hm0))
  have hq2 := hq2.kept (ho _ (rn_ne1 hm0))
  have hq3 := hq3.kept (ho _ (rn_ne1 hm0))
  have hq4 := hq4.kept (ho _ (rn_ne1 hm0))
  refine lv_aload_n hx hb dX4_init_81 rfl (lv_at hl 1 rfl) ?_
  refine lv_null hx hb dX4_init_82 ?_
  refine rn_put (A := (fun q => q = h0 ∨ sz ≤ q)) (ci := 4) (v := .null) (C := RX4) (T := TX4) (N := 9) (fs' := [.ref (sz + 1), .int 1, .ref (sz + 2), .int 1, .ref (sz + 4), .int 0, .null, .int 0, .int 0]) hx hb hts iw_X4_init_4 tyX4 tyX4_ok nmX4 hown hG hS (Or.inl rfl) hm rfl 6 (by decide) fw_X4_init_43 (Or.inl rfl) rfl rfl (Nat.le_of_ble_eq_true rfl) rfl dX4_init_83 (fun H locs hat hz ho hS => ?_)
  have hm := hat
  rw [← hz] at hzz
  have hq0 := hq0.kept (ho _ (rn_ne1 hm0))
  have hq1 := hq1.kept (ho _ (rn_ne1 hm0))
  have hq2 := hq2.kept (ho _ (rn_ne1 hm0))
  have hq3 := hq3.kept (ho _ (rn_ne1 hm0))
  have hq4 := hq4.kept (ho _ (rn_ne1 hm0))
  refine lv_aload_n hx hb dX4_init_86 rfl (lv_at hl 1 rfl) ?_
  refine lv_iconst (v := 0) hx hb dX4_init_87 (by decide) ?_
  refine rn_put (A := (fun q => q = h0 ∨ sz ≤ q)) (ci := 4) (v := .int 0) (C := RX4) (T := TX4) (N := 9) (fs' := [.ref (sz + 1), .int 1, .ref (sz + 2), .int 1, .ref (sz + 4), .int 0, .null, .int 0, .int 0]) hx hb hts iw_X4_init_4 tyX4 tyX4_ok nmX4 hown hG hS (Or.inl rfl) hm rfl 7 (by decide) fw_X4_init_47 (Or.inl rfl) rfl rfl (Nat.le_of_ble_eq_true rfl) rfl dX4_init_88 (fun H locs hat hz ho hS => ?_)
  have hm := hat
  rw [← hz] at hzz
  have hq0 := hq0.kept (ho _ (rn_ne1 hm0))
  have hq1 := hq1.kept (ho _ (rn_ne1 hm0))
  have hq2 := hq2.kept (ho _ (rn_ne1 hm0))
  have hq3 := hq3.kept (ho _ (rn_ne1 hm0))
  have hq4 := hq4.kept (ho _ (rn_ne1 hm0))
  refine lv_aload_n hx hb dX4_init_91 rfl (lv_at hl 1 rfl) ?_
  refine lv_iconst (v := 0) hx hb dX4_init_92 (by decide) ?_
  refine rn_put (A := (fun q => q = h0 ∨ sz ≤ q)) (ci := 4) (v := .int 0) (C := RX4) (T := TX4) (N := 9) (fs' := [.ref (sz + 1), .int 1, .ref (sz + 2), .int 1, .ref (sz + 4), .int 0, .null, .int 0, .int 0]) hx hb hts iw_X4_init_4 tyX4 tyX4_ok nmX4 hown hG hS (Or.inl rfl) hm rfl 8 (by decide) fw_X4_init_50 (Or.inl rfl) rfl rfl (Nat.le_of_ble_eq_true rfl) rfl dX4_init_93 (fun H locs hat hz ho hS => ?_)
  have hm := hat
  rw [← hz] at hzz
  have hq0 := hq0.kept (ho _ (rn_ne1 hm0))
  have hq1 := hq1.kept (ho _ (rn_ne1 hm0))
  have hq2 := hq2.kept (ho _ (rn_ne1 hm0))
  have hq3 := hq3.kept (ho _ (rn_ne1 hm0))
  have hq4 := hq4.kept (ho _ (rn_ne1 hm0))
  exact rn_Wvret hx hb hr hlocks hS (Nat.le_of_ble_eq_true rfl) (Nat.le_of_ble_eq_true rfl) rfl ⟨rn_f0 h0 sz cR cP cF, rn_f0_C hm0, rn_f0_S hm hq0 hq1 hq2 hq3 hq4, rn_f0_A⟩ dX4_init_96

