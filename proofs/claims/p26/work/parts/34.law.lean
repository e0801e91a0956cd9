/-! THE LAW: its numbers out of the script, its loop, its end -/
def rn_DR (l : Launch) (y : MethodName) (ws : List Cond) (rm : Room) (b L : Nat) (xs : Nat → Int32) (av : List Value) (v : Option Value) : Prop :=
  Met l y ws rm (va_Pc av (fun U => va_X b L xs U U.heap)) (fun _ st o t => o = .returned v ∧ t.heap = st.heap) 0 0 (fun _ => False)
theorem rn_DR.ofC {l : Launch} {y : MethodName} {ws ws' : List Cond} {rm : Room} {b L : Nat} {xs : Nat → Int32} {av : List Value} {v : Option Value} {cc : ByteArray} {maxL : Nat} {ret : Option FieldType}
    (hy : plainName y.cls = true) (hw : ws = Cond.code y cc maxL ret :: ws') (hn : (lg_sl av).length ≤ maxL)
    (body : ∀ (p : Program) (e : Env) (s : State) (m : MethodId) (below : List Frame) (meth : Method) (c : Code) (ls : Array Slot), p.tables.exec = Jvm.exec → c.code = cc → meth.sig.returnType = ret → c.maxLocals = maxL → (∀ w ∈ ws, w.before av.toArray s = true) → s.vm.findClass y.cls = some m.cls → meth.locks = false → va_X b L xs s s.heap → lv_has ls maxL (lv_args 0 av) →
      W p l e rm s m av.toArray below meth c s.heap [] 0 0 (MQ below (fun _ st o t => o = .returned v ∧ t.heap = st.heap) av.toArray s 0 0 (fun _ => False)) (F0 m 0 ls [])) : rn_DR l y ws rm b L xs av v := by
  refine Met.ofW (cc := cc) (maxL := maxL) (ret := ret) hy hw ?_
  intro p e s m args below meth c s₁ B0 hml hv
  obtain ⟨rfl, hX⟩ := hv
  have hl := lv_entry av (n := maxL) hn
  rw [lg_entry_eq]
  exact body p e s m below meth c _ B0.exec B0.bytes B0.returns hml (atoms_spec (ws := ws) B0.pre) (findClass_of_methodNamed B0.named) B0.notSynchronized hX hl
theorem rn_DR.blind {As : List Value} {b L : Nat} {xs : Nat → Int32} : FrameBlind (va_Pc As (fun U => va_X b L xs U U.heap)) := fun a U g mk q => ⟨q.1, va_X.moved (u := U) (U := U.calling g mk a) (Vm.Alike.refl U.vm) q.2⟩
theorem rn_Xlt {b L : Nat} {xs : Nat → Int32} {U : State} {H : Heap} (h : va_X b L xs U H) : b < H.size := by
  obtain ⟨scr, h1, -⟩ := h
  exact (Array.getElem?_eq_some_iff.mp h1).1
section RND
variable {p : Program} {l : Launch} {e : Env} {R : Room} {s : State} {m : MethodId} {args : Array Value} {below : List Frame} {meth : Method} {c : Code} {H : Heap} {locs : List Loc} {cells slots : Nat} {Q : State → Prop}
variable {cc bytes : ByteArray} {pc nL maxL index n mc ms sz : Nat} {ls : Array Slot} {st0 rest As : List Value} {D : va_G} {A0 A1 A : Nat → Prop} {a b ci N : Nat} {tys : List (ClassId × FieldType)} {H0 : Heap} {fs : List Value} {own C E : String} {T : u_T} {y : MethodName} {ret : Option FieldType} {ws ws' Ts : List Cond} {rm : Room} {B : Heap → Prop} {P : Heap → Prop} {v : Option Value} {hh : List (Nat × Nat × Nat × Nat)}
theorem rn_sld (hexec : p.tables.exec = Jvm.exec) (hb : c.code = cc) {b L j : Nat} {xs : Nat → Int32} (hX : va_X b L xs s H0) (hbl : b < H0.size) (hbA : ¬ A b) (hS : va_S A H0 H locs) (hj : j < L) (hL : L ≤ 2048) (hdg : decode cc pc = .ok (.iaload, 1))
    (kk : W p l e R s m args below meth c H locs cells slots Q (F0 m (pc + 1) ls (.int (xs j) :: rest))) : W p l e R s m args below meth c H locs cells slots Q (F0 m pc ls (.int (nI j) :: .ref b :: rest)) := by
  have hc : (nI j).toNatClampNeg = j := nI_clamp (by omega)
  refine va_sld hexec hb hX hbl hbA hS (i := nI j) (vp_in_nI hj (by omega)) hdg ?_
  rw [hc]
  exact kk
theorem rn_cD (n : Nat) (hexec : p.tables.exec = Jvm.exec) (hb : c.code = cc) (hml : c.maxLocals = nL) (hown : s.vm.findClass own = some m.cls) (hts : ∀ w ∈ Ts, w.before args s = true) {b L : Nat} {xs : Nat → Int32} (hX : va_X b L xs s s.heap) (hbA : ¬ A0 b) (hS : va_S A0 s.heap H locs)
    (hM : rn_DR l y ws rm b L xs As v) (hgi : GoodIn Ts (va_wsS own index y ws)) (hw : ws = .code y bytes maxL ret :: ws') (hrm : rm.cells = 0 ∧ rm.slots = 0)
    (hd : y.cls ≠ "java/lang/invoke/MethodHandle" ∧ y.cls ≠ "java/lang/invoke/VarHandle" ∧ (parseMethodDescriptor y.desc).map (fun d => d.parameters.length) = some n) (hR : rm.frames + 1 ≤ R.frames ∧ 8 + (maxL + 11) + rm.locals ≤ R.locals)
    (hn : As.length = n) (hsz : ls.size = nL) (hst : st0 = As.reverse ++ rest) (hW : (rest.map fun v => v.category).sum ≤ 8) (hf : cells ≤ R.cells ∧ slots ≤ R.slots) (hdg : decode cc pc = .ok (.invokestatic index, 3))
    (kk : W p l e R s m args below meth c H locs cells slots Q (F0 m (pc + 3) ls (v.toList ++ rest))) : W p l e R s m args below meth c H locs cells slots Q (F0 m pc ls st0) :=
  rn_callR (W.runS (As := As) (rest := rest) ⟨hexec, hb, hml, hown, hts⟩ hM (va_cwS n hts hgi hw hrm.1 hrm.2 hd hR) ⟨rn_DR.blind, fun U hU hW => ⟨rfl, va_X.moved hW.alike (hX.kept (by rw [hU]; exact hS.2.1 b (rn_Xlt hX) hbA))⟩⟩ rfl hn hsz hst (lv_room hW) hdg hf) kk
end RND
/-- a number drawn -/
def rn_dv (xs : Nat → Int32) (L k : Nat) : Int32 := if k < L then xs k else 15525317 * (nI k + 3) + 13901

set_option maxHeartbeats 4000000 in
set_option maxRecDepth 100000 in
theorem a_drawn (l : Launch) {b L k X : Nat} {xs : Nat → Int32} (hL : L ≤ 260) (hk : k ≤ 100) (eX : rn_dv xs L k &&& 2147483647 = nI X) : rn_DR l yL_drawn wsL_drawn ({ frames := 0, cells := 0, slots := 0, locals := 0 } : Room) b L xs [.ref b, .int (nI k)] (some (.int (nI X))) := by
  refine rn_DR.ofC (cc := cL_drawn) (maxL := 2) (ret := (some .int)) (by decide) rfl (Nat.le_of_ble_eq_true rfl) (fun p e s m below meth c ls hx hb hr hml hts hown hlocks hX hl => ?_)
  have hl : lv_has ls 2 [(0, .ref b), (1, .int (nI k))] := hl
  have hown : s.vm.findClass RL = some m.cls := hown
  have hS : va_S (fun _ : Nat => False) s.heap s.heap [] := va_S.rf
  refine lv_iload_n hx hb dL_drawn_0 rfl (lv_at hl 1 rfl) ?_
  refine lv_aload_n hx hb dL_drawn_1 rfl (lv_at hl 0 rfl) ?_
  refine va_slen hx hb hX (rn_Xlt hX) id hS dL_drawn_2 ?_
  refine rn_top (y := .int (nI L)) rfl ?_
  refine lv_icmp_ge (tgt := 12) hx hb dL_drawn_3 (by decide) (fun c_3 => ?_) (fun c_3 => ?_)
  · refine lv_ldc (v := 15525317) hx hb hown (hts _ kw_L_drawn_76) dL_drawn_12 ?_
    refine lv_iload_n hx hb dL_drawn_14 rfl (lv_at hl 1 rfl) ?_
    refine lv_iconst (v := 3) hx hb dL_drawn_15 (by decide) ?_
    refine lv_iadd hx hb dL_drawn_16 ?_
    refine lv_imul hx hb dL_drawn_17 ?_
    refine lv_sipush (v := 13901) hx hb dL_drawn_18 (by decide +kernel) ?_
    refine lv_iadd hx hb dL_drawn_21 ?_
    refine rn_top (y := .int (rn_dv xs L k)) (congrArg Value.int (by rw [rn_dv, if_neg (Nat.not_lt.mpr (rn_nIle (by omega) (by omega) c_3))])) ?_
    refine lv_ldc (v := 2147483647) hx hb hown (hts _ kw_L_drawn_77) dL_drawn_22 ?_
    refine lv_iand hx hb dL_drawn_24 ?_
    refine rn_top (y := .int (nI X)) (congrArg Value.int eX) ?_
    exact rn_iret hx hb hr rfl hlocks rfl dL_drawn_25
  · refine lv_aload_n hx hb dL_drawn_6 rfl (lv_at hl 0 rfl) ?_
    refine lv_iload_n hx hb dL_drawn_7 rfl (lv_at hl 1 rfl) ?_
    refine rn_sld (j := k) hx hb hX (rn_Xlt hX) id hS (rn_nInle (by omega) (by omega) c_3) (by omega) dL_drawn_8 ?_
    refine rn_top (y := .int (rn_dv xs L k)) (congrArg Value.int (by rw [rn_dv, if_pos (rn_nInle (by omega) (by omega) c_3)])) ?_
    refine lv_goto (tgt := 22) hx hb dL_drawn_9 (by decide) ?_
    refine lv_ldc (v := 2147483647) hx hb hown (hts _ kw_L_drawn_77) dL_drawn_22 ?_
    refine lv_iand hx hb dL_drawn_24 ?_
    refine rn_top (y := .int (nI X)) (congrArg Value.int eX) ?_
    exact rn_iret hx hb hr rfl hlocks rfl dL_drawn_25

theorem rn_drawn (xs : Nat → Int32) (L k : Nat) : ∃ X : Nat, X < 2 ^ 31 ∧ rn_dv xs L k &&& 2147483647 = nI X := pk_andE _ 31 (by decide)

/-- two houses of one value, apart -/
def rn_I2 (D : va_G) (cR cP cF : ClassId) (h0 h1 s0 : Nat) (σ : rn_St) (H : Heap) : Prop :=
  ∃ f f1 : rn_T, rn_C cR cP cF h0 f σ ∧ rn_C cR cP cF h1 f1 σ ∧ rn_S D f H ∧ rn_S D f1 H ∧ (∀ x, f x ≠ none → s0 ≤ x) ∧ (∀ x, f1 x ≠ none → s0 ≤ x) ∧ ∀ x, f x ≠ none → f1 x = none
/-- one writes: the other's cells stay, and they stay apart -/
theorem rn_two {D : va_G} {f f' f1 : rn_T} {H H1 : Heap} {s0 : Nat} (hF1 : rn_S D f1 H) (hap : ∀ x, f x ≠ none → f1 x = none) (hfs : ∀ x, f x ≠ none → s0 ≤ x) (hz : s0 ≤ H.size) (hk : ∀ q : Nat, q < H.size → ¬ rn_A f H.size q → H1[q]? = H[q]?) (hd : ∀ x, f' x ≠ none → rn_A f H.size x) : rn_S D f1 H1 ∧ (∀ x, f' x ≠ none → f1 x = none) ∧ ∀ x, f' x ≠ none → s0 ≤ x := by
  refine ⟨hF1.kept (fun q hq => hk q (hF1.lt hq) (fun h => ?_)), fun x hx => ?_, fun x hx => (hd x hx).elim (hfs x) (fun h => Nat.le_trans hz h)⟩
  · rcases h with h | h
    · exact hq (hap q h)
    · have := hF1.lt hq; omega
  · rcases hd x hx with h | h
    · exact hap x h
    · cases h1 : f1 x with
      | none => rfl
      | some e => exact absurd (hF1.lt (a := x) (by rw [h1]; exact fun z => nomatch z)) (Nat.not_lt.mpr h)
theorem rn_apart {f f1 : rn_T} (h : ∀ x, f x ≠ none → f1 x = none) : ∀ x, f1 x ≠ none → f x = none := fun x hx => by
  cases hf : f x with
  | none => rfl
  | some e => exact absurd (h x (by rw [hf]; exact fun z => nomatch z)) hx

set_option maxHeartbeats 8000000 in
set_option maxRecDepth 100000 in
theorem law_end {p : Program} {l : Launch} {e : Env} {s : State} {m : MethodId} {below : List Frame} {meth : Method} {c : Code} {D : va_G} {cR cP cF : ClassId} {b L : Nat} {xs : Nat → Int32} {h0 h1 : Nat} (hfl : l.stackTraces = false) (hL : L ≤ 260) (C0 : lw_At p s m meth c b L xs) (hG : rn_G D (rn_tys cR cP cF) s) (hE : rn_E s)  {σ : rn_St} (hq : rn_Q σ) {H : Heap} {locs : List Loc} {cells slots : Nat} (hI : rn_I2 D cR cP cF h0 h1 s.heap.size σ H) (hS : va_S (fun q : Nat => s.heap.size ≤ q) s.heap H locs) (hc9 : cells + 32 ≤ 748866) (hs9 : slots + 192 ≤ 6854869)  {ls : Array Slot} (hl : lv_has ls 7 [(4, .int 1), (0, .ref b), (1, .ref h0), (2, .ref h1)]) : W p l e room_1 s m #[Value.ref b] below meth c H locs cells slots (lw_Z below #[Value.ref b] s) (F0 m 184 ls []) := by
  obtain ⟨hx, hb, hr, hml, hown0, hts0, hX, hbl, hlocks, hgv⟩ := id C0
  have hb : c.code = cL_law := hb
  have hown : s.vm.findClass RL = some m.cls := hown0
  have hts : ∀ w ∈ wsL_law, w.before #[Value.ref b] s = true := fun w h => hts0 w (wsL_law_in w h)
  have hbA : ¬ (fun q : Nat => s.heap.size ≤ q) b := Nat.not_le.mpr hbl
  obtain ⟨f, f1, hCe, hCe1, hF, hF1, hfs, hfs1, hap⟩ := hI
  obtain ⟨hV, aR, aP, aF, ra, pa, fa, hd, dh, hC⟩ := id hCe
  obtain ⟨-, bR, bP, bF, ra1, pa1, fa1, hd1, dh1, hC1⟩ := id hCe1
  refine lv_iload hx hb dL_law_184 (lv_at hl 0 rfl) ?_
  refine lv_if_eq (tgt := 253) hx hb dL_law_186 (by decide) (fun c_186 => ?_) (fun c_186 => ?_)
  · exact absurd c_186 (by decide)
  · refine lv_aload_n hx hb dL_law_189 rfl (lv_at hl 2 rfl) ?_
    refine lv_aload_n hx hb dL_law_190 rfl (lv_at hl 1 rfl) ?_
    refine lv_iconst (v := 0) hx hb dL_law_191 (by decide) ?_
    obtain ⟨X, hX9, eX⟩ := rn_drawn xs L (0)
    refine rn_cD (As := [.ref b, .int (nI (0))]) (rest := [.ref h0]) 2 hx hb hml hown hts hX hbA hS (a_drawn l hL (by omega) eX) gL_law_L_drawn rfl ⟨rfl, rfl⟩ (by decide +kernel) ⟨Nat.le_of_ble_eq_true rfl, Nat.le_of_ble_eq_true rfl⟩ rfl hl.1 rfl (Nat.le_of_ble_eq_true rfl) ⟨by show cells + 0 ≤ 748866; omega, by show slots + 0 ≤ 6854869; omega⟩ dL_law_192 ?_
    refine W.eq (g2 := F0 m 195 ls [.int (nI X), .ref h0]) rfl ?_
    refine lv_bipush (v := 35) hx hb dL_law_195 (by decide +kernel) ?_
    refine lv_idiv hx hb dL_law_197 (by decide) ?_
    refine rn_top (y := .int (nI (X / 35))) (congrArg Value.int (pk_div (d := 35) hX9 (by decide) (by decide))) ?_
    refine rn_cS (As := [.ref h0, .int (nI (X / 35))]) (rest := []) 2 hx hb hml hown hts hG (a_holds l hV hC hq (rn_small hX9 35)) gL_law_L_holds rfl ⟨rfl, rfl⟩ (by decide +kernel) ⟨Nat.le_of_ble_eq_true rfl, Nat.le_of_ble_eq_true rfl⟩ hF rfl hl.1 rfl (Nat.le_of_ble_eq_true rfl) ⟨by show cells + 0 ≤ 748866; omega, by show slots + 0 ≤ 6854869; omega⟩ dL_law_198 ?_
    refine W.eq (g2 := F0 m 201 ls [.int 1]) rfl ?_
    refine lv_if_eq (tgt := 253) hx hb dL_law_201 (by decide) (fun c_201 => ?_) (fun c_201 => ?_)
    · exact absurd c_201 (by decide)
    · refine lv_aload_n hx hb dL_law_204 rfl (lv_at hl 2 rfl) ?_
      refine lv_aload_n hx hb dL_law_205 rfl (lv_at hl 1 rfl) ?_
      refine lv_iconst (v := 0) hx hb dL_law_206 (by decide) ?_
      obtain ⟨X, hX9, eX⟩ := rn_drawn xs L (0)
      refine rn_cD (As := [.ref b, .int (nI (0))]) (rest := [.ref h0]) 2 hx hb hml hown hts hX hbA hS (a_drawn l hL (by omega) eX) gL_law_L_drawn rfl ⟨rfl, rfl⟩ (by decide +kernel) ⟨Nat.le_of_ble_eq_true rfl, Nat.le_of_ble_eq_true rfl⟩ rfl hl.1 rfl (Nat.le_of_ble_eq_true rfl) ⟨by show cells + 0 ≤ 748866; omega, by show slots + 0 ≤ 6854869; omega⟩ dL_law_207 ?_
      refine W.eq (g2 := F0 m 210 ls [.int (nI X), .ref h0]) rfl ?_
      refine lv_bipush (v := 37) hx hb dL_law_210 (by decide +kernel) ?_
      refine lv_idiv hx hb dL_law_212 (by decide) ?_
      refine rn_top (y := .int (nI (X / 37))) (congrArg Value.int (pk_div (d := 37) hX9 (by decide) (by decide))) ?_
      have hz9 := hS.1
      refine rn_wS (As := [.ref h0, .int (nI (X / 37))]) (rest := []) 2 hx hb hml hown hts hG hS (a_ends l hV hC hq (rn_small hX9 37) _) (fun q h => h.elim (hfs q) (fun h => Nat.le_trans hz9 h)) gL_law_L_ends rfl ⟨rfl, rfl⟩ (by decide +kernel) ⟨Nat.le_of_ble_eq_true rfl, Nat.le_of_ble_eq_true rfl⟩ hF rfl hl.1 rfl (Nat.le_of_ble_eq_true rfl) ⟨by show cells + 16 ≤ 748866; omega, by show slots + 96 ≤ 6854869; omega⟩ dL_law_213 (fun H1 locs1 hP1 hz1 hk1 hS1 => ?_)
      refine W.eq (g2 := F0 m 216 ls [.int 1]) rfl ?_
      obtain ⟨σ9, hq9, f9, hC9, hF9, hdm⟩ := hP1
      obtain ⟨hF1, -, -⟩ := rn_two hF1 hap hfs hz9 hk1 hdm
      have hS := hS1
      refine lv_if_eq (tgt := 253) hx hb dL_law_216 (by decide) (fun c_216 => ?_) (fun c_216 => ?_)
      · exact absurd c_216 (by decide)
      · refine lv_aload_n hx hb dL_law_219 rfl (lv_at hl 3 rfl) ?_
        refine lv_aload_n hx hb dL_law_220 rfl (lv_at hl 1 rfl) ?_
        refine lv_iconst (v := 0) hx hb dL_law_221 (by decide) ?_
        obtain ⟨X, hX9, eX⟩ := rn_drawn xs L (0)
        refine rn_cD (As := [.ref b, .int (nI (0))]) (rest := [.ref h1]) 2 hx hb hml hown hts hX hbA hS (a_drawn l hL (by omega) eX) gL_law_L_drawn rfl ⟨rfl, rfl⟩ (by decide +kernel) ⟨Nat.le_of_ble_eq_true rfl, Nat.le_of_ble_eq_true rfl⟩ rfl hl.1 rfl (Nat.le_of_ble_eq_true rfl) ⟨by show cells + 16 ≤ 748866; omega, by show slots + 96 ≤ 6854869; omega⟩ dL_law_222 ?_
        refine W.eq (g2 := F0 m 225 ls [.int (nI X), .ref h1]) rfl ?_
        refine lv_bipush (v := 41) hx hb dL_law_225 (by decide +kernel) ?_
        refine lv_idiv hx hb dL_law_227 (by decide) ?_
        refine rn_top (y := .int (nI (X / 41))) (congrArg Value.int (pk_div (d := 41) hX9 (by decide) (by decide))) ?_
        have hz9 := hS.1
        refine rn_wS (As := [.ref h1, .int (nI (X / 41))]) (rest := []) 2 hx hb hml hown hts hG hS (a_ends l hV hC1 hq (rn_small hX9 41) _) (fun q h => h.elim (hfs1 q) (fun h => Nat.le_trans hz9 h)) gL_law_L_ends rfl ⟨rfl, rfl⟩ (by decide +kernel) ⟨Nat.le_of_ble_eq_true rfl, Nat.le_of_ble_eq_true rfl⟩ hF1 rfl hl.1 rfl (Nat.le_of_ble_eq_true rfl) ⟨by show cells + 32 ≤ 748866; omega, by show slots + 192 ≤ 6854869; omega⟩ dL_law_228 (fun H1 locs1 hP1 hz1 hk1 hS1 => ?_)
        refine W.eq (g2 := F0 m 231 ls [.int 1]) rfl ?_
        obtain ⟨σ8, hq1, f1, hCe1, hF1, hdm⟩ := hP1
        have hS := hS1
        obtain ⟨hV, bR, bP, bF, ra1, pa1, fa1, hd1, dh1, hC1⟩ := id hCe1
        refine lv_if_eq (tgt := 253) hx hb dL_law_231 (by decide) (fun c_231 => ?_) (fun c_231 => ?_)
        · exact absurd c_231 (by decide)
        · refine lv_aload_n hx hb dL_law_234 rfl (lv_at hl 3 rfl) ?_
          refine lv_aload_n hx hb dL_law_235 rfl (lv_at hl 1 rfl) ?_
          refine lv_iconst (v := 0) hx hb dL_law_236 (by decide) ?_
          obtain ⟨X, hX9, eX⟩ := rn_drawn xs L (0)
          refine rn_cD (As := [.ref b, .int (nI (0))]) (rest := [.ref h1]) 2 hx hb hml hown hts hX hbA hS (a_drawn l hL (by omega) eX) gL_law_L_drawn rfl ⟨rfl, rfl⟩ (by decide +kernel) ⟨Nat.le_of_ble_eq_true rfl, Nat.le_of_ble_eq_true rfl⟩ rfl hl.1 rfl (Nat.le_of_ble_eq_true rfl) ⟨by show cells + 32 ≤ 748866; omega, by show slots + 192 ≤ 6854869; omega⟩ dL_law_237 ?_
          refine W.eq (g2 := F0 m 240 ls [.int (nI X), .ref h1]) rfl ?_
          refine lv_bipush (v := 43) hx hb dL_law_240 (by decide +kernel) ?_
          refine lv_idiv hx hb dL_law_242 (by decide) ?_
          refine rn_top (y := .int (nI (X / 43))) (congrArg Value.int (pk_div (d := 43) hX9 (by decide) (by decide))) ?_
          refine rn_cS (As := [.ref h1, .int (nI (X / 43))]) (rest := []) 2 hx hb hml hown hts hG (a_holds l hV hC1 hq1 (rn_small hX9 43)) gL_law_L_holds rfl ⟨rfl, rfl⟩ (by decide +kernel) ⟨Nat.le_of_ble_eq_true rfl, Nat.le_of_ble_eq_true rfl⟩ hF1 rfl hl.1 rfl (Nat.le_of_ble_eq_true rfl) ⟨by show cells + 32 ≤ 748866; omega, by show slots + 192 ≤ 6854869; omega⟩ dL_law_243 ?_
          refine W.eq (g2 := F0 m 246 ls [.int 1]) rfl ?_
          refine lv_if_eq (tgt := 253) hx hb dL_law_246 (by decide) (fun c_246 => ?_) (fun c_246 => ?_)
          · exact absurd c_246 (by decide)
          · refine lv_iconst (v := 1) hx hb dL_law_249 (by decide) ?_
            refine lv_goto (tgt := 254) hx hb dL_law_250 (by decide) ?_
            refine va_forget (fun q hq => hS.2.2 q hq) ?_
            refine W.widen (k := 748866) (n := 6854869) (by omega) (by omega) ?_
            exact lw_ret hx hb hr hlocks dL_law_254

set_option maxHeartbeats 8000000 in
set_option maxRecDepth 100000 in
theorem law_body {p : Program} {l : Launch} {e : Env} {s : State} {m : MethodId} {below : List Frame} {meth : Method} {c : Code} {D : va_G} {cR cP cF : ClassId} {b L : Nat} {xs : Nat → Int32} {h0 h1 : Nat} (hfl : l.stackTraces = false) (hL : L ≤ 260) (C0 : lw_At p s m meth c b L xs) (hG : rn_G D (rn_tys cR cP cF) s) (hE : rn_E s) {T K Y : Nat} (hK : K ≤ 50) (hY : Y < 2 ^ 31) {σ : rn_St} (hq : rn_Q σ) {H : Heap} {locs : List Loc} {cells slots : Nat} (hI : rn_I2 D cR cP cF h0 h1 s.heap.size σ H) (hS : va_S (fun q : Nat => s.heap.size ≤ q) s.heap H locs) (hc9 : cells + 102 ≤ 748866) (hs9 : slots + 612 ≤ 6854869) (hnext : ∀ (σ : rn_St), rn_Q σ → ∀ (H2 : Heap) (locs2 : List Loc) (cells2 slots2 : Nat), rn_I2 D cR cP cF h0 h1 s.heap.size σ H2 → va_S (fun q : Nat => s.heap.size ≤ q) s.heap H2 locs2 → cells2 ≤ cells + 102 → slots2 ≤ slots + 612 → ∀ (ls : Array Slot), lv_has ls 7 [(5, .int (nI (K + 1))), (4, .int 1), (3, .int (nI T)), (0, .ref b), (1, .ref h0), (2, .ref h1)] → W p l e room_1 s m #[Value.ref b] below meth c H2 locs2 cells2 slots2 (lw_Z below #[Value.ref b] s) (F0 m 34 ls [])) {ls : Array Slot} (hl : lv_has ls 7 [(6, .int (nI Y)), (5, .int (nI K)), (4, .int 1), (3, .int (nI T)), (0, .ref b), (1, .ref h0), (2, .ref h1)]) : W p l e room_1 s m #[Value.ref b] below meth c H locs cells slots (lw_Z below #[Value.ref b] s) (F0 m 96 ls []) := by
  obtain ⟨hx, hb, hr, hml, hown0, hts0, hX, hbl, hlocks, hgv⟩ := id C0
  have hb : c.code = cL_law := hb
  have hown : s.vm.findClass RL = some m.cls := hown0
  have hts : ∀ w ∈ wsL_law, w.before #[Value.ref b] s = true := fun w h => hts0 w (wsL_law_in w h)
  have hbA : ¬ (fun q : Nat => s.heap.size ≤ q) b := Nat.not_le.mpr hbl
  obtain ⟨f, f1, hCe, hCe1, hF, hF1, hfs, hfs1, hap⟩ := hI
  obtain ⟨hV, aR, aP, aF, ra, pa, fa, hd, dh, hC⟩ := id hCe
  obtain ⟨-, bR, bP, bF, ra1, pa1, fa1, hd1, dh1, hC1⟩ := id hCe1
  refine lv_aload_n hx hb dL_law_96 rfl (lv_at hl 6 rfl) ?_
  refine lv_iload hx hb dL_law_97 (lv_at hl 0 rfl) ?_
  refine lv_sipush (v := 9973) hx hb dL_law_99 (by decide +kernel) ?_
  refine lv_irem hx hb dL_law_102 (by decide) ?_
  refine rn_top (y := .int (nI (Y % 9973))) (congrArg Value.int (pk_rem (d := 9973) hY (by decide) (by decide))) ?_
  have hz9 := hS.1
  refine rn_wLS (As := [.ref h1, .int (nI (Y % 9973))]) (rest := []) 2 hx hb hml hown hts hG (hE.new hS (fun q h => h)) hS (a_refuses l hfl hV hC1 (X := Y % 9973) (by omega) _) (fun q h => Nat.le_trans hz9 h) gL_law_L_refuses rfl ⟨rfl, rfl⟩ (by decide +kernel) ⟨Nat.le_of_ble_eq_true rfl, Nat.le_of_ble_eq_true rfl⟩ hF1 rfl hl.1 rfl (Nat.le_of_ble_eq_true rfl) ⟨by show cells + 50 ≤ 748866; omega, by show slots + 300 ≤ 6854869; omega⟩ dL_law_103 (fun H1 locs1 hP1 hz1 hk1 hS1 => ?_)
  refine W.eq (g2 := F0 m 106 ls [.int 1]) rfl ?_
  have hF := hF.kept (fun q hq => hk1 q (hF.lt hq) (Nat.not_le.mpr (hF.lt hq)))
  have hF1 : rn_S D f1 H1 := hP1
  have hS := hS1
  refine lv_if_eq (tgt := 175) hx hb dL_law_106 (by decide) (fun c_106 => ?_) (fun c_106 => ?_)
  · exact absurd c_106 (by decide)
  · refine lv_aload_n hx hb dL_law_109 rfl (lv_at hl 5 rfl) ?_
    refine lv_iload hx hb dL_law_110 (lv_at hl 0 rfl) ?_
    obtain ⟨v, σ', hq', hM⟩ := o_act l hfl hV hq hY
    have hz9 := hS.1
    refine rn_wLS (As := [.ref h0, .int (nI Y)]) (rest := []) 2 hx hb hml hown hts hG (hE.new hS (fun q h => h)) hS (hM hC _) (fun q h => h.elim (hfs q) (fun h => Nat.le_trans hz9 h)) gL_law_L_act rfl ⟨rfl, rfl⟩ (by decide +kernel) ⟨Nat.le_of_ble_eq_true rfl, Nat.le_of_ble_eq_true rfl⟩ hF rfl hl.1 rfl (Nat.le_of_ble_eq_true rfl) ⟨by show cells + 51 ≤ 748866; omega, by show slots + 306 ≤ 6854869; omega⟩ dL_law_112 (fun H1 locs1 hP1 hz1 hk1 hS1 => ?_)
    refine W.eq (g2 := F0 m 115 ls [.int v]) rfl ?_
    obtain ⟨f, hCe, hF, hdm⟩ := hP1
    obtain ⟨hF1, hap, hfs⟩ := rn_two hF1 hap hfs hz9 hk1 hdm
    have hS := hS1
    refine lv_aload_n hx hb dL_law_115 rfl (lv_at hl 6 rfl) ?_
    refine lv_iload hx hb dL_law_116 (lv_at hl 0 rfl) ?_
    have hz9 := hS.1
    refine rn_wLS (As := [.ref h1, .int (nI Y)]) (rest := [.int v]) 2 hx hb hml hown hts hG (hE.new hS (fun q h => h)) hS (hM hC1 _) (fun q h => h.elim (hfs1 q) (fun h => Nat.le_trans hz9 h)) gL_law_L_act rfl ⟨rfl, rfl⟩ (by decide +kernel) ⟨Nat.le_of_ble_eq_true rfl, Nat.le_of_ble_eq_true rfl⟩ hF1 rfl hl.1 rfl (Nat.le_of_ble_eq_true rfl) ⟨by show cells + 52 ≤ 748866; omega, by show slots + 312 ≤ 6854869; omega⟩ dL_law_118 (fun H1 locs1 hP1 hz1 hk1 hS1 => ?_)
    refine W.eq (g2 := F0 m 121 ls [.int v, .int v]) rfl ?_
    obtain ⟨f1, hCe1, hF1, hdm⟩ := hP1
    obtain ⟨hF, hap1, hfs1⟩ := rn_two hF (rn_apart hap) hfs1 hz9 hk1 hdm
    have hap := rn_apart hap1
    have hS := hS1
    have hq := hq'
    obtain ⟨hV, aR, aP, aF, ra, pa, fa, hd, dh, hC⟩ := id hCe
    obtain ⟨-, bR, bP, bF, ra1, pa1, fa1, hd1, dh1, hC1⟩ := id hCe1
    refine lv_icmp_ne (tgt := 175) hx hb dL_law_121 (by decide) (fun c_121 => ?_) (fun c_121 => ?_)
    · exact absurd rfl c_121
    · refine lv_aload_n hx hb dL_law_124 rfl (lv_at hl 6 rfl) ?_
      refine lv_iload hx hb dL_law_125 (lv_at hl 0 rfl) ?_
      refine lv_sipush (v := 499) hx hb dL_law_127 (by decide +kernel) ?_
      refine lv_irem hx hb dL_law_130 (by decide) ?_
      refine rn_top (y := .int (nI (Y % 499))) (congrArg Value.int (pk_rem (d := 499) hY (by decide) (by decide))) ?_
      have hz9 := hS.1
      refine rn_wLS (As := [.ref h1, .int (nI (Y % 499))]) (rest := []) 2 hx hb hml hown hts hG (hE.new hS (fun q h => h)) hS (a_refuses l hfl hV hC1 (X := Y % 499) (by omega) _) (fun q h => Nat.le_trans hz9 h) gL_law_L_refuses rfl ⟨rfl, rfl⟩ (by decide +kernel) ⟨Nat.le_of_ble_eq_true rfl, Nat.le_of_ble_eq_true rfl⟩ hF1 rfl hl.1 rfl (Nat.le_of_ble_eq_true rfl) ⟨by show cells + 102 ≤ 748866; omega, by show slots + 612 ≤ 6854869; omega⟩ dL_law_131 (fun H1 locs1 hP1 hz1 hk1 hS1 => ?_)
      refine W.eq (g2 := F0 m 134 ls [.int 1]) rfl ?_
      have hF := hF.kept (fun q hq => hk1 q (hF.lt hq) (Nat.not_le.mpr (hF.lt hq)))
      have hF1 : rn_S D f1 H1 := hP1
      have hS := hS1
      refine lv_if_eq (tgt := 175) hx hb dL_law_134 (by decide) (fun c_134 => ?_) (fun c_134 => ?_)
      · exact absurd c_134 (by decide)
      · refine lv_aload_n hx hb dL_law_137 rfl (lv_at hl 5 rfl) ?_
        refine lv_aload_n hx hb dL_law_138 rfl (lv_at hl 6 rfl) ?_
        refine lv_iload hx hb dL_law_139 (lv_at hl 0 rfl) ?_
        refine lv_iconst (v := 3) hx hb dL_law_141 (by decide) ?_
        refine lv_idiv hx hb dL_law_142 (by decide) ?_
        refine rn_top (y := .int (nI (Y / 3))) (congrArg Value.int (pk_div (d := 3) hY (by decide) (by decide))) ?_
        refine rn_cS (As := [.ref h0, .ref h1, .int (nI (Y / 3))]) (rest := []) 3 hx hb hml hown hts hG (a_alike l hV hC hC1 (rn_small hY 3)) gL_law_L_alike rfl ⟨rfl, rfl⟩ (by decide +kernel) ⟨Nat.le_of_ble_eq_true rfl, Nat.le_of_ble_eq_true rfl⟩ ⟨hF, hF1⟩ rfl hl.1 rfl (Nat.le_of_ble_eq_true rfl) ⟨by show cells + 102 ≤ 748866; omega, by show slots + 612 ≤ 6854869; omega⟩ dL_law_143 ?_
        refine W.eq (g2 := F0 m 146 ls [.int 1]) rfl ?_
        refine lv_if_eq (tgt := 175) hx hb dL_law_146 (by decide) (fun c_146 => ?_) (fun c_146 => ?_)
        · exact absurd c_146 (by decide)
        · refine lv_iload hx hb dL_law_149 (lv_at hl 1 rfl) ?_
          refine lv_bipush (v := 9) hx hb dL_law_151 (by decide +kernel) ?_
          refine lv_irem hx hb dL_law_153 (by decide) ?_
          refine rn_top (y := .int (nI (K % 9))) (congrArg Value.int (pk_rem (d := 9) (by omega) (by decide) (by decide))) ?_
          refine lv_bipush (v := 8) hx hb dL_law_154 (by decide +kernel) ?_
          refine lv_icmp_lt (tgt := 171) hx hb dL_law_156 (by decide) (fun c_156 => ?_) (fun c_156 => ?_)
          · refine lv_iconst (v := 1) hx hb dL_law_171 (by decide) ?_
            refine lv_goto (tgt := 176) hx hb dL_law_172 (by decide) ?_
            refine lv_istore (lv' := [(4, .int 1), (6, .int (nI Y)), (5, .int (nI K)), (3, .int (nI T)), (0, .ref b), (1, .ref h0), (2, .ref h1)]) hx hb dL_law_176 hl (by decide) rfl (fun ls hl => ?_)
            refine lv_iinc (v := (nI (K + 1))) (lv' := [(5, .int (nI (K + 1))), (4, .int 1), (6, .int (nI Y)), (3, .int (nI T)), (0, .ref b), (1, .ref h0), (2, .ref h1)]) hx hb dL_law_178 hl (k := 2) rfl (nI_add K 1) (by decide) rfl (fun ls hl => ?_)
            refine lv_goto (tgt := 34) hx hb dL_law_181 (by decide) ?_
            exact hnext σ' hq H1 locs1 _ _ ⟨f, f1, hCe, hCe1, hF, hF1, hfs, hfs1, hap⟩ hS (by omega) (by omega) ls (lv_sub hl [0, 1, 3, 4, 5, 6] rfl)
          · refine lv_aload_n hx hb dL_law_159 rfl (lv_at hl 6 rfl) ?_
            refine lv_iload hx hb dL_law_160 (lv_at hl 0 rfl) ?_
            refine lv_bipush (v := 7) hx hb dL_law_162 (by decide +kernel) ?_
            refine lv_idiv hx hb dL_law_164 (by decide) ?_
            refine rn_top (y := .int (nI (Y / 7))) (congrArg Value.int (pk_div (d := 7) hY (by decide) (by decide))) ?_
            refine rn_cS (As := [.ref h1, .int (nI (Y / 7))]) (rest := []) 2 hx hb hml hown hts hG (a_holds l hV hC1 hq (rn_small hY 7)) gL_law_L_holds rfl ⟨rfl, rfl⟩ (by decide +kernel) ⟨Nat.le_of_ble_eq_true rfl, Nat.le_of_ble_eq_true rfl⟩ hF1 rfl hl.1 rfl (Nat.le_of_ble_eq_true rfl) ⟨by show cells + 102 ≤ 748866; omega, by show slots + 612 ≤ 6854869; omega⟩ dL_law_165 ?_
            refine W.eq (g2 := F0 m 168 ls [.int 1]) rfl ?_
            refine lv_if_eq (tgt := 175) hx hb dL_law_168 (by decide) (fun c_168 => ?_) (fun c_168 => ?_)
            · exact absurd c_168 (by decide)
            · refine lv_iconst (v := 1) hx hb dL_law_171 (by decide) ?_
              refine lv_goto (tgt := 176) hx hb dL_law_172 (by decide) ?_
              refine lv_istore (lv' := [(4, .int 1), (6, .int (nI Y)), (5, .int (nI K)), (3, .int (nI T)), (0, .ref b), (1, .ref h0), (2, .ref h1)]) hx hb dL_law_176 hl (by decide) rfl (fun ls hl => ?_)
              refine lv_iinc (v := (nI (K + 1))) (lv' := [(5, .int (nI (K + 1))), (4, .int 1), (6, .int (nI Y)), (3, .int (nI T)), (0, .ref b), (1, .ref h0), (2, .ref h1)]) hx hb dL_law_178 hl (k := 2) rfl (nI_add K 1) (by decide) rfl (fun ls hl => ?_)
              refine lv_goto (tgt := 34) hx hb dL_law_181 (by decide) ?_
              exact hnext σ' hq H1 locs1 _ _ ⟨f, f1, hCe, hCe1, hF, hF1, hfs, hfs1, hap⟩ hS (by omega) (by omega) ls (lv_sub hl [0, 1, 3, 4, 5, 6] rfl)

set_option maxHeartbeats 8000000 in
set_option maxRecDepth 100000 in
theorem law_loop {p : Program} {l : Launch} {e : Env} {s : State} {m : MethodId} {below : List Frame} {meth : Method} {c : Code} {D : va_G} {cR cP cF : ClassId} {b L : Nat} {xs : Nat → Int32} {h0 h1 : Nat} (hfl : l.stackTraces = false) (hL : L ≤ 260) (C0 : lw_At p s m meth c b L xs) (hG : rn_G D (rn_tys cR cP cF) s) (hE : rn_E s) {T : Nat} (hT : T ≤ 50) :
    ∀ (n K : Nat) (σ : rn_St) (H : Heap) (locs : List Loc) (cells slots : Nat), rn_Q σ → T ≤ K + n → K ≤ T → cells + 102 * n ≤ 700000 → slots + 612 * n ≤ 6000000 → rn_I2 D cR cP cF h0 h1 s.heap.size σ H → va_S (fun q : Nat => s.heap.size ≤ q) s.heap H locs → ∀ (ls : Array Slot), lv_has ls 7 [(5, .int (nI K)), (4, .int 1), (3, .int (nI T)), (0, .ref b), (1, .ref h0), (2, .ref h1)] → W p l e room_1 s m #[Value.ref b] below meth c H locs cells slots (lw_Z below #[Value.ref b] s) (F0 m 34 ls []) := by
  obtain ⟨hx, hb, hr, hml, hown0, hts0, hX, hbl, hlocks, hgv⟩ := id C0
  have hb : c.code = cL_law := hb
  have hown : s.vm.findClass RL = some m.cls := hown0
  have hts : ∀ w ∈ wsL_law, w.before #[Value.ref b] s = true := fun w h => hts0 w (wsL_law_in w h)
  have hbA : ¬ (fun q : Nat => s.heap.size ≤ q) b := Nat.not_le.mpr hbl
  intro n
  induction n with
  | zero =>
    intro K σ H locs cells slots hq g1 g2 hc9 hs9 hI hS ls hl
    refine lv_iload hx hb dL_law_34 (lv_at hl 0 rfl) ?_
    refine lv_iload_n hx hb dL_law_36 rfl (lv_at hl 2 rfl) ?_
    refine lv_icmp_ge (tgt := 184) hx hb dL_law_37 (by decide) (fun c_37 => ?_) (fun c_37 => ?_)
    · exact law_end hfl hL C0 hG hE hq hI hS (by omega) (by omega) (lv_sub hl [1, 3, 4, 5] rfl)
    · exact absurd (rn_nInle (by omega) (by omega) c_37) (by omega)
  | succ n ih =>
    intro K σ H locs cells slots hq g1 g2 hc9 hs9 hI hS ls hl
    refine lv_iload hx hb dL_law_34 (lv_at hl 0 rfl) ?_
    refine lv_iload_n hx hb dL_law_36 rfl (lv_at hl 2 rfl) ?_
    refine lv_icmp_ge (tgt := 184) hx hb dL_law_37 (by decide) (fun c_37 => ?_) (fun c_37 => ?_)
    · exact law_end hfl hL C0 hG hE hq hI hS (by omega) (by omega) (lv_sub hl [1, 3, 4, 5] rfl)
    · have hKT := rn_nInle (by omega) (by omega) c_37
      refine lv_iload hx hb dL_law_40 (lv_at hl 1 rfl) ?_
      refine lv_if_eq (tgt := 184) hx hb dL_law_42 (by decide) (fun c_42 => ?_) (fun c_42 => ?_)
      · exact absurd c_42 (by decide)
      · refine lv_aload_n hx hb dL_law_45 rfl (lv_at hl 3 rfl) ?_
        refine lv_iconst (v := 1) hx hb dL_law_46 (by decide) ?_
        refine lv_iload hx hb dL_law_47 (lv_at hl 0 rfl) ?_
        refine lv_iadd hx hb dL_law_49 ?_
        refine rn_top (y := .int (nI (1 + K))) (congrArg Value.int (nI_add 1 K)) ?_
        obtain ⟨X, hX9, eX⟩ := rn_drawn xs L (1 + K)
        refine rn_cD (As := [.ref b, .int (nI (1 + K))]) (rest := []) 2 hx hb hml hown hts hX hbA hS (a_drawn l hL (by omega) eX) gL_law_L_drawn rfl ⟨rfl, rfl⟩ (by decide +kernel) ⟨Nat.le_of_ble_eq_true rfl, Nat.le_of_ble_eq_true rfl⟩ rfl hl.1 rfl (Nat.le_of_ble_eq_true rfl) ⟨by show cells + 0 ≤ 748866; omega, by show slots + 0 ≤ 6854869; omega⟩ dL_law_50 ?_
        refine W.eq (g2 := F0 m 53 ls [.int (nI X)]) rfl ?_
        refine lv_istore (lv' := [(6, .int (nI X)), (5, .int (nI K)), (4, .int 1), (3, .int (nI T)), (0, .ref b), (1, .ref h0), (2, .ref h1)]) hx hb dL_law_53 hl (by decide) rfl (fun ls hl => ?_)
        refine lv_iload hx hb dL_law_55 (lv_at hl 1 rfl) ?_
        refine lv_iconst (v := 3) hx hb dL_law_57 (by decide) ?_
        refine lv_icmp_ge (tgt := 75) hx hb dL_law_58 (by decide) (fun c_58 => ?_) (fun c_58 => ?_)
        · refine lv_iload hx hb dL_law_75 (lv_at hl 1 rfl) ?_
          refine lv_iconst (v := 3) hx hb dL_law_77 (by decide) ?_
          refine lv_icmp_ne (tgt := 92) hx hb dL_law_78 (by decide) (fun c_78 => ?_) (fun c_78 => ?_)
          · refine lv_iload hx hb dL_law_92 (lv_at hl 0 rfl) ?_
            obtain ⟨Y, hY, eY⟩ : ∃ Y, Y < 2 ^ 31 ∧ nI X = nI Y := ⟨_, by omega, rfl⟩
            refine rn_top (y := .int (nI Y)) (congrArg Value.int eY) ?_
            refine lv_istore (lv' := [(6, .int (nI Y)), (5, .int (nI K)), (4, .int 1), (3, .int (nI T)), (0, .ref b), (1, .ref h0), (2, .ref h1)]) hx hb dL_law_94 hl (by decide) rfl (fun ls hl => ?_)
            exact law_body hfl hL C0 hG hE (T := T) (K := K) (by omega) hY hq hI hS (by omega) (by omega) (fun σ2 hq2 H2 locs2 cells2 slots2 hI2 hS2 hc2 hs2 ls hl => ih (K + 1) σ2 H2 locs2 cells2 slots2 hq2 (by omega) (by omega) (by omega) (by omega) hI2 hS2 ls hl) (lv_sub hl [0, 1, 2, 3, 4, 5, 6] rfl)
          · refine lv_iload hx hb dL_law_81 (lv_at hl 0 rfl) ?_
            refine lv_bipush (v := 16) hx hb dL_law_83 (by decide +kernel) ?_
            refine lv_idiv hx hb dL_law_85 (by decide) ?_
            refine rn_top (y := .int (nI (X / 16))) (congrArg Value.int (pk_div (d := 16) hX9 (by decide) (by decide))) ?_
            refine lv_bipush (v := 16) hx hb dL_law_86 (by decide +kernel) ?_
            refine lv_imul hx hb dL_law_88 ?_
            refine rn_top (y := .int (nI (X / 16 * 16))) (congrArg Value.int (pk_mul (X / 16) 16)) ?_
            refine lv_goto (tgt := 94) hx hb dL_law_89 (by decide) ?_
            obtain ⟨Y, hY, eY⟩ : ∃ Y, Y < 2 ^ 31 ∧ nI (X / 16 * 16) = nI Y := ⟨_, by omega, rfl⟩
            refine rn_top (y := .int (nI Y)) (congrArg Value.int eY) ?_
            refine lv_istore (lv' := [(6, .int (nI Y)), (5, .int (nI K)), (4, .int 1), (3, .int (nI T)), (0, .ref b), (1, .ref h0), (2, .ref h1)]) hx hb dL_law_94 hl (by decide) rfl (fun ls hl => ?_)
            exact law_body hfl hL C0 hG hE (T := T) (K := K) (by omega) hY hq hI hS (by omega) (by omega) (fun σ2 hq2 H2 locs2 cells2 slots2 hI2 hS2 hc2 hs2 ls hl => ih (K + 1) σ2 H2 locs2 cells2 slots2 hq2 (by omega) (by omega) (by omega) (by omega) hI2 hS2 ls hl) (lv_sub hl [0, 1, 2, 3, 4, 5, 6] rfl)
        · refine lv_iload hx hb dL_law_61 (lv_at hl 0 rfl) ?_
          refine lv_bipush (v := 16) hx hb dL_law_63 (by decide +kernel) ?_
          refine lv_idiv hx hb dL_law_65 (by decide) ?_
          refine rn_top (y := .int (nI (X / 16))) (congrArg Value.int (pk_div (d := 16) hX9 (by decide) (by decide))) ?_
          refine lv_bipush (v := 16) hx hb dL_law_66 (by decide +kernel) ?_
          refine lv_imul hx hb dL_law_68 ?_
          refine rn_top (y := .int (nI (X / 16 * 16))) (congrArg Value.int (pk_mul (X / 16) 16)) ?_
          refine lv_bipush (v := 8) hx hb dL_law_69 (by decide +kernel) ?_
          refine lv_iadd hx hb dL_law_71 ?_
          refine rn_top (y := .int (nI (X / 16 * 16 + 8))) (congrArg Value.int (nI_add (X / 16 * 16) 8)) ?_
          refine lv_goto (tgt := 94) hx hb dL_law_72 (by decide) ?_
          obtain ⟨Y, hY, eY⟩ : ∃ Y, Y < 2 ^ 31 ∧ nI (X / 16 * 16 + 8) = nI Y := ⟨_, by omega, rfl⟩
          refine rn_top (y := .int (nI Y)) (congrArg Value.int eY) ?_
          refine lv_istore (lv' := [(6, .int (nI Y)), (5, .int (nI K)), (4, .int 1), (3, .int (nI T)), (0, .ref b), (1, .ref h0), (2, .ref h1)]) hx hb dL_law_94 hl (by decide) rfl (fun ls hl => ?_)
          exact law_body hfl hL C0 hG hE (T := T) (K := K) (by omega) hY hq hI hS (by omega) (by omega) (fun σ2 hq2 H2 locs2 cells2 slots2 hI2 hS2 hc2 hs2 ls hl => ih (K + 1) σ2 H2 locs2 cells2 slots2 hq2 (by omega) (by omega) (by omega) (by omega) hI2 hS2 ls hl) (lv_sub hl [0, 1, 2, 3, 4, 5, 6] rfl)
