/-! THE LAW -/
abbrev rn_tyw (cR cP cF cL cI : ClassId) : List (ClassId × FieldType) := [(cR, .object RX3), (cP, .object RX1), (cF, .object RX0), (cL, .long), (cI, .int)]
def rn_I (D : va_G) (cR cP cF cL cI : ClassId) (h0 o m0 : Nat) (ma : Nat → Nat) (s0 : Nat) (σ : rn_St) (g : Nat → Int64) (rf : Int32) (H : Heap) : Prop :=
  ∃ (f : rn_T) (V : Nat → Nat → Int32), rn_C cR cP cF h0 f σ ∧ rn_S D f H ∧ (∀ x, f x ≠ none → s0 ≤ x) ∧ f o = none ∧ (∀ q, rn_mA m0 ma q → f q = none) ∧ va_at D vwCl (o, .inl (cL, 1, .inr (.inl g))) H ∧ rn_Mr σ V ∧ rn_MW D cI m0 ma rf (nI σ.sn) (nI σ.sd.length) (nI σ.pn) (nI σ.fn) σ.rc σ.la V H
theorem rn_MW.kept {D : va_G} {cI : ClassId} {m0 : Nat} {ma : Nat → Nat} {rf n dn pn fn rc la : Int32} {V : Nat → Nat → Int32} {H H1 : Heap} (h : rn_MW D cI m0 ma rf n dn pn fn rc la V H) (hq : ∀ q, rn_mA m0 ma q → q < H.size → H1[q]? = H[q]?) : rn_MW D cI m0 ma rf n dn pn fn rc la V H1 :=
  ⟨h.1.kept (hq _ (Or.inl rfl) h.1.lt), fun k hk => (h.2.1 k hk).kept (hq _ (Or.inr ⟨k, hk, rfl⟩) (h.2.1 k hk).lt), h.2.2.1, h.2.2.2⟩
theorem rn_MW.lt {D : va_G} {cI : ClassId} {m0 : Nat} {ma : Nat → Nat} {rf n dn pn fn rc la : Int32} {V : Nat → Nat → Int32} {H : Heap} (h : rn_MW D cI m0 ma rf n dn pn fn rc la V H) {q : Nat} (hq : rn_mA m0 ma q) : q < H.size := by
  rcases hq with rfl | ⟨k, hk, rfl⟩
  · exact h.1.lt
  · exact (h.2.1 k hk).lt
theorem rn_keepn {f f1 : rn_T} {sz q : Nat} (hd : ∀ x, f1 x ≠ none → rn_A f sz x) (h : f q = none) (hlt : q < sz) : f1 q = none := by
  cases h1 : f1 q with
  | none => rfl
  | some e =>
    exfalso
    rcases hd q (by rw [h1]; exact fun z => nomatch z) with h2 | h2
    · exact h2 h
    · omega
section RNI
variable {D : va_G} {cR cP cF cL cI : ClassId} {h0 o m0 : Nat} {ma : Nat → Nat} {s0 : Nat} {σ σ1 : rn_St} {g : Nat → Int64} {rf k v : Int32} {H H1 H2 : Heap} {f f1 : rn_T} {V : Nat → Nat → Int32}
theorem rn_I_next (hfs : ∀ x, f x ≠ none → s0 ≤ x) (hfo : f o = none) (hfm : ∀ q, rn_mA m0 ma q → f q = none) (hat : va_at D vwCl (o, .inl (cL, 1, .inr (.inl g))) H) (hW : rn_MW D cI m0 ma rf (nI σ.sn) (nI σ.sd.length) (nI σ.pn) (nI σ.fn) σ.rc σ.la V H) (hne : ∀ q, rn_mA m0 ma q → q ≠ o ∧ s0 ≤ q) (hz0 : s0 ≤ H.size) (hP1 : rn_LP D cR cP cF h0 f H.size σ1 o cL k v H1) (hk1 : ∀ q : Nat, q < H.size → ¬ rn_LA f H.size o q → H1[q]? = H[q]?) :
    ∃ (f1 : rn_T) (g1 : Nat → Int64), rn_C cR cP cF h0 f1 σ1 ∧ rn_S D f1 H1 ∧ (∀ x, f1 x ≠ none → s0 ≤ x) ∧ f1 o = none ∧ (∀ q, rn_mA m0 ma q → f1 q = none) ∧ (k = 0 → g1 0 = v.toInt64) ∧ va_at D vwCl (o, .inl (cL, 1, .inr (.inl g1))) H1 ∧ rn_MW D cI m0 ma rf (nI σ.sn) (nI σ.sd.length) (nI σ.pn) (nI σ.fn) σ.rc σ.la V H1 := by
  obtain ⟨⟨f1, hC, hF, hd⟩, g1, hg, hat1⟩ := hP1
  refine ⟨f1, g1, hC, hF, fun x hx => (hd x hx).elim (hfs x) (fun h => Nat.le_trans hz0 h), rn_keepn hd hfo hat.lt, fun q hq => rn_keepn hd (hfm q hq) (hW.lt hq), hg, hat1, hW.kept (fun q hq hlt => hk1 q hlt (fun h => ?_))⟩
  rcases h with h | h | h
  · exact (hne q hq).1 h
  · exact h (hfm q hq)
  · omega
theorem rn_I_next2 {g1 : Nat → Int64} (hC : rn_C cR cP cF h0 f1 σ1) (hF : rn_S D f1 H1) (hfs : ∀ x, f1 x ≠ none → s0 ≤ x) (hfo : f1 o = none) (hfm : ∀ q, rn_mA m0 ma q → f1 q = none) (hat : va_at D vwCl (o, .inl (cL, 1, .inr (.inl g1))) H1) (hne : ∀ q, rn_mA m0 ma q → q ≠ o ∧ s0 ≤ q) (hP2 : rn_MP D cI m0 ma k σ1 H2) (hk2 : ∀ q : Nat, q < H1.size → ¬ rn_mA m0 ma q → H2[q]? = H1[q]?) :
    ∃ (V2 : Nat → Nat → Int32), rn_Mr σ1 V2 ∧ rn_MW D cI m0 ma k (nI σ1.sn) (nI σ1.sd.length) (nI σ1.pn) (nI σ1.fn) σ1.rc σ1.la V2 H2 ∧ rn_S D f1 H2 ∧ va_at D vwCl (o, .inl (cL, 1, .inr (.inl g1))) H2 := by
  obtain ⟨V2, hM2, hW2⟩ := hP2
  exact ⟨V2, hM2, hW2, hF.kept (fun q hq => hk2 q (hF.lt hq) (fun h => hq (hfm q h))), hat.kept (hk2 _ hat.lt (fun h => (hne _ h).1 rfl))⟩
end RNI
theorem rn_head {L i : Nat} (h : ¬ nI L - 4 < nI i) (hL : L ≤ 2048) (hi : i ≤ 3000) : i + 4 ≤ L := by
  rw [rn_nlt, rn_le, nI_toInt (by omega)] at h
  have e : (nI L - 4).toInt = (L : Int) - 4 := pk_sub_toInt (a := L) (b := 4) (by omega) (by omega)
  omega
theorem rn_lcmp0 (x : Int64) : lg_cmp x x = 0 := by simp [lg_cmp]
section RNW
variable {p : Program} {l : Launch} {e : Env} {R : Room} {s : State} {m : MethodId} {args : Array Value} {below : List Frame} {meth : Method} {c : Code} {H : Heap} {locs : List Loc} {cells slots : Nat} {Q : State → Prop}
variable {cc bytes : ByteArray} {pc nL maxL index n mc ms sz : Nat} {ls : Array Slot} {st0 rest As : List Value} {D : va_G} {A0 A1 A : Nat → Prop} {a b ci N : Nat} {tys : List (ClassId × FieldType)} {H0 : Heap} {fs : List Value} {own C E : String} {T : u_T} {y : MethodName} {ret : Option FieldType} {ws ws' Ts : List Cond} {rm : Room} {B : Heap → Prop} {P : Heap → Prop} {v : Option Value} {hh : List (Nat × Nat × Nat × Nat)}
theorem rn_sld (hexec : p.tables.exec = Jvm.exec) (hb : c.code = cc) {b L j : Nat} {xs : Nat → Int32} (hX : va_X b L xs s H0) (hbl : b < H0.size) (hbA : ¬ A b) (hS : va_S A H0 H locs) (hj : j < L) (hL : L ≤ 2048) (hdg : decode cc pc = .ok (.iaload, 1))
    (kk : W p l e R s m args below meth c H locs cells slots Q (F0 m (pc + 1) ls (.int (xs j) :: rest))) : W p l e R s m args below meth c H locs cells slots Q (F0 m pc ls (.int (nI j) :: .ref b :: rest)) := by
  have hc : (nI j).toNatClampNeg = j := nI_clamp (by omega)
  refine va_sld hexec hb hX hbl hbA hS (i := nI j) (vp_in_nI hj (by omega)) hdg ?_
  rw [hc]
  exact kk
/-- a call of one of the law's own methods -/
theorem rn_wL (n : Nat) (hexec : p.tables.exec = Jvm.exec) (hb : c.code = cc) (hml : c.maxLocals = nL) (hown : s.vm.findClass own = some m.cls) (hts : ∀ w ∈ Ts, w.before args s = true) (hG : rn_G D tys s) (hE : rn_E s) (hS : va_S A0 s.heap H locs) (hA0 : ∀ q, A0 q → s.heap.size ≤ q)
    (hM : rn_LT l y ws rm D tys B As v P A1 mc ms H.size) (hA : ∀ q, A1 q → A0 q) (hgi : GoodIn Ts (va_wsS own index y ws)) (hw : ws = .codeWith y bytes maxL ret hh :: ws') (hrm : rm.cells = mc ∧ rm.slots = ms)
    (hd : y.cls ≠ "java/lang/invoke/MethodHandle" ∧ y.cls ≠ "java/lang/invoke/VarHandle" ∧ (parseMethodDescriptor y.desc).map (fun d => d.parameters.length) = some n) (hR : rm.frames + 1 ≤ R.frames ∧ 8 + (maxL + 11) + rm.locals ≤ R.locals)
    (hB : B H) (hn : As.length = n) (hsz : ls.size = nL) (hst : st0 = As.reverse ++ rest) (hW : (rest.map fun v => v.category).sum ≤ 8) (hf : cells + mc ≤ R.cells ∧ slots + ms ≤ R.slots) (hdg : decode cc pc = .ok (.invokestatic index, 3))
    (kk : ∀ (H1 : Heap) (locs1 : List Loc), P H1 → H.size ≤ H1.size → (∀ q : Nat, q < H.size → ¬ A1 q → H1[q]? = H[q]?) → va_S A0 s.heap H1 locs1 → W p l e R s m args below meth c H1 locs1 (cells + mc) (slots + ms) Q (F0 m (pc + 3) ls (v.toList ++ rest))) : W p l e R s m args below meth c H locs cells slots Q (F0 m pc ls st0) :=
  rn_callW (vx_runSW (As := As) (rest := rest) ⟨hexec, hb, hml, hown, hts⟩ hM (vx_cwSW n hts hgi hw hrm.1 hrm.2 hd hR) ⟨rn_LT.blind, fun U hU hW => ⟨rfl, ⟨by rw [hU], by rw [hU]; exact hB⟩, hG.warm hW, hE.at hW (by rw [hU]; exact hS.1) (fun a ha => by rw [hU]; exact hS.2.1 a ha (fun h => absurd (hA0 a h) (Nat.not_le.mpr ha)))⟩⟩ rfl hn hsz hst (lv_room hW) hdg hf) hS hA kk
end RNW

set_option maxHeartbeats 8000000 in
set_option maxRecDepth 100000 in
/-- the law's loop: at its head the class and the reference hold one value -/
theorem law_loop {p : Program} {l : Launch} {e : Env} {s : State} {m : MethodId} {below : List Frame} {meth : Method} {c : Code} {D : va_G} {cR cP cF cL cI : ClassId} {b L : Nat} {xs : Nat → Int32} {h0 o m0 : Nat} {ma : Nat → Nat} (hfl : l.stackTraces = false) (hL : L ≤ 2048) (C0 : lw_At p s m meth c b L xs) (hG : rn_G D (rn_tyw cR cP cF cL cI) s) (hE : rn_E s) (ho9 : s.heap.size ≤ o) (hne : ∀ q, rn_mA m0 ma q → q ≠ o ∧ s.heap.size ≤ q) :
    ∀ (n i : Nat) (σ : rn_St) (g : Nat → Int64) (rf : Int32) (H : Heap) (locs : List Loc) (cells slots : Nat), L ≤ i + 4 * n → i ≤ L + 3 → cells + n ≤ 630713 → slots + 6 * n ≤ 7203965 → rn_I D cR cP cF cL cI h0 o m0 ma s.heap.size σ g rf H → va_S (fun q : Nat => s.heap.size ≤ q) s.heap H locs → ∀ (ls : Array Slot), lv_has ls 7 [(4, .int (nI i)), (0, .ref b), (1, .ref h0), (2, .ref m0), (3, .ref o)] → W p l e room_1 s m #[Value.ref b] below meth c H locs cells slots (lw_Z below #[Value.ref b] s) (F0 m 23 ls []) := by
  obtain ⟨hx, hb, hr, hml, hown0, hts0, hX, hbl, hlocks, hgv⟩ := C0
  have hb : c.code = cL_law := hb
  have hown : s.vm.findClass RL = some m.cls := hown0
  have hts : ∀ w ∈ wsL_law, w.before #[Value.ref b] s = true := fun w h => hts0 w (wsL_law_in w h)
  have hbA : ¬ (fun q : Nat => s.heap.size ≤ q) b := Nat.not_le.mpr hbl
  have hG3 : rn_G D (rn_tys cR cP cF) s := ⟨hG.1.sub [0, 1, 2] rfl, hG.2⟩
  have hG4 : rn_G D (rn_tyl cR cP cF cL) s := ⟨hG.1.sub [0, 1, 2, 3] rfl, hG.2⟩
  have hG5 : rn_G D [(cI, .int)] s := ⟨hG.1.sub [4] rfl, hG.2⟩
  intro n
  induction n with
  | zero =>
    intro i σ g rf H locs cells slots hLi hi hc9 hs9 hI hS ls hl
    refine lv_iload hx hb dL_law_23 (lv_at hl 0 rfl) ?_
    refine lv_aload_n hx hb dL_law_25 rfl (lv_at hl 1 rfl) ?_
    refine va_slen hx hb hX hbl hbA hS dL_law_26 ?_
    refine rn_top (y := .int (nI L)) rfl ?_
    refine lv_iconst (v := 4) hx hb dL_law_27 (by decide) ?_
    refine lv_isub hx hb dL_law_28 ?_
    refine lv_icmp_gt (tgt := 1431) hx hb dL_law_29 (by decide) (fun c_29 => ?_) (fun c_29 => ?_)
    · refine lv_iconst (v := 1) hx hb dL_law_1431 (by decide) ?_
      refine va_forget (fun q hq => hS.2.2 q hq) ?_
      refine W.widen (k := 630713) (n := 7203965) (by omega) (by omega) ?_
      exact lw_ret hx hb hr hlocks dL_law_1432
    · exact absurd (rn_head c_29 hL (by omega)) (by omega)
  | succ n ih =>
    intro i σ g rf H locs cells slots hLi hi hc9 hs9 hI hS ls hl
    refine lv_iload hx hb dL_law_23 (lv_at hl 0 rfl) ?_
    refine lv_aload_n hx hb dL_law_25 rfl (lv_at hl 1 rfl) ?_
    refine va_slen hx hb hX hbl hbA hS dL_law_26 ?_
    refine rn_top (y := .int (nI L)) rfl ?_
    refine lv_iconst (v := 4) hx hb dL_law_27 (by decide) ?_
    refine lv_isub hx hb dL_law_28 ?_
    refine lv_icmp_gt (tgt := 1431) hx hb dL_law_29 (by decide) (fun c_29 => ?_) (fun c_29 => ?_)
    · refine lv_iconst (v := 1) hx hb dL_law_1431 (by decide) ?_
      refine va_forget (fun q hq => hS.2.2 q hq) ?_
      refine W.widen (k := 630713) (n := 7203965) (by omega) (by omega) ?_
      exact lw_ret hx hb hr hlocks dL_law_1432
    · have hi4 := rn_head c_29 hL (by omega)
      refine lv_aload_n hx hb dL_law_32 rfl (lv_at hl 1 rfl) ?_
      refine lv_iload hx hb dL_law_33 (lv_at hl 0 rfl) ?_
      refine rn_sld (j := i) hx hb hX hbl hbA hS (by omega) hL dL_law_35 ?_
      refine lv_bipush (v := 31) hx hb dL_law_36 (by decide +kernel) ?_
      refine lv_iand hx hb dL_law_38 ?_
      obtain ⟨t9, ht9⟩ : ∃ t, t = xs i &&& 31 := ⟨_, rfl⟩
      refine rn_top (y := .int t9) (by rw [ht9]) ?_
      by_cases h9 : t9.toInt < 0 ∨ 22 < t9.toInt
      · refine lv_tableOut (tgt := 1425) hx hb dL_law_39 h9 (by decide) ?_
        refine lv_iinc (v := (nI (i + 4))) (lv' := [(4, .int (nI (i + 4))), (0, .ref b), (1, .ref h0), (2, .ref m0), (3, .ref o)]) hx hb dL_law_1425 hl (k := 0) rfl (nI_add i 4) (by decide) rfl (fun ls hl => ?_)
        refine lv_goto (tgt := 23) hx hb dL_law_1428 (by decide) ?_
        exact ih (i + 4) σ g rf _ _ _ _ (by omega) (by omega) (by omega) (by omega) hI hS ls (lv_sub hl [0, 1, 2, 3, 4] rfl)
      rcases (show t9.toInt = 0 ∨ t9.toInt = 1 ∨ t9.toInt = 2 ∨ t9.toInt = 3 ∨ t9.toInt = 4 ∨ t9.toInt = 5 ∨ t9.toInt = 6 ∨ t9.toInt = 7 ∨ t9.toInt = 8 ∨ t9.toInt = 9 ∨ t9.toInt = 10 ∨ t9.toInt = 11 ∨ t9.toInt = 12 ∨ t9.toInt = 13 ∨ t9.toInt = 14 ∨ t9.toInt = 15 ∨ t9.toInt = 16 ∨ t9.toInt = 17 ∨ t9.toInt = 18 ∨ t9.toInt = 19 ∨ t9.toInt = 20 ∨ t9.toInt = 21 ∨ t9.toInt = 22 by omega) with h9 | h9 | h9 | h9 | h9 | h9 | h9 | h9 | h9 | h9 | h9 | h9 | h9 | h9 | h9 | h9 | h9 | h9 | h9 | h9 | h9 | h9 | h9
      · refine lv_tableIn (off := 105) (tgt := 144) hx hb dL_law_39 (by omega) (by omega) (by rw [h9]; rfl) (by decide) ?_
        refine lv_aload_n hx hb dL_law_144 rfl (lv_at hl 2 rfl) ?_
        refine lv_aload_n hx hb dL_law_145 rfl (lv_at hl 1 rfl) ?_
        refine lv_iload hx hb dL_law_146 (lv_at hl 0 rfl) ?_
        refine lv_iconst (v := 1) hx hb dL_law_148 (by decide) ?_
        refine lv_iadd hx hb dL_law_149 ?_
        refine rn_top (y := .int (nI (i + 1))) (congrArg Value.int (nI_add i 1)) ?_
        refine rn_sld (j := (i + 1)) hx hb hX hbl hbA hS (by omega) hL dL_law_150 ?_
        refine lv_aload_n hx hb dL_law_151 rfl (lv_at hl 4 rfl) ?_
        obtain ⟨f, V, hCe, hF, hfs, hfo, hfm, hat9, hM, hW⟩ := hI
        obtain ⟨hV, aR, aP, aF, ra, pa, fa, hd, dh, hC⟩ := id hCe
        obtain ⟨k, v, σ1, hLc, hMc⟩ := o_makeRoom l hfl (D := D) (cL := cL) (g := g) (cI := cI) (m0 := m0) (ma := ma) hV hC hfo hM ((xs (i + 1)))
        refine rn_wL (As := [.ref h0, .int (xs (i + 1)), .ref o]) (rest := []) 3 hx hb hml hown hts hG4 hE hS (fun q h => h) (hLc H.size) (fun q h => h.elim (fun h => by rw [h]; exact ho9) (fun h => h.elim (hfs q) (fun h => Nat.le_trans hS.1 h))) gL_law_L_makeRoom rfl ⟨rfl, rfl⟩ (by decide +kernel) ⟨Nat.le_of_ble_eq_true rfl, Nat.le_of_ble_eq_true rfl⟩ ⟨hF, hat9⟩ rfl hl.1 rfl (Nat.le_of_ble_eq_true rfl) ⟨by show cells + 1 ≤ 630713; omega, by show slots + 6 ≤ 7203965; omega⟩ dL_law_152 (fun H1 locs1 hP1 hz1 hk1 hS1 => ?_)
        refine W.eq (g2 := F0 m 155 ls [.int k]) rfl ?_
        obtain ⟨f1, g1, hC1, hF1, hfs1, hfo1, hfm1, hg1, hat1, hW1⟩ := rn_I_next hfs hfo hfm hat9 hW hne hS.1 hP1 hk1
        refine lv_istore (lv' := [(5, .int k), (4, .int (nI i)), (0, .ref b), (1, .ref h0), (2, .ref m0), (3, .ref o)]) hx hb dL_law_155 hl (by decide) rfl (fun ls hl => ?_)
        refine lv_aload_n hx hb dL_law_157 rfl (lv_at hl 4 rfl) ?_
        refine lv_aload_n hx hb dL_law_158 rfl (lv_at hl 2 rfl) ?_
        refine lv_iload hx hb dL_law_159 (lv_at hl 1 rfl) ?_
        refine lv_iconst (v := 1) hx hb dL_law_161 (by decide) ?_
        refine lv_iadd hx hb dL_law_162 ?_
        refine rn_top (y := .int (nI (i + 1))) (congrArg Value.int (nI_add i 1)) ?_
        refine rn_sld (j := (i + 1)) hx hb hX hbl hbA hS1 (by omega) hL dL_law_163 ?_
        refine rn_wV (As := [.int (xs (i + 1))]) (rest := []) 1 hx hb hml hown hts hG5 hS1 (hMc rf H1.size) (fun q h => (hne q h).2) gL_law_X5_makeRoom rfl ⟨rfl, rfl⟩ (by decide +kernel) ⟨Nat.le_of_ble_eq_true rfl, Nat.le_of_ble_eq_true rfl⟩ hW1 hW1.1 rfl rfl hl.1 rfl (Nat.le_of_ble_eq_true rfl) ⟨by show cells + 1 + 0 ≤ 630713; omega, by show slots + 6 + 0 ≤ 7203965; omega⟩ dL_law_164 (fun H2 locs2 hP2 hz2 hk2 hS2 => ?_)
        refine W.eq (g2 := F0 m 167 ls [.int v]) rfl ?_
        obtain ⟨V2, hM2, hW2, hF2, hat2⟩ := rn_I_next2 hC1 hF1 hfs1 hfo1 hfm1 hat1 hne hP2 hk2
        refine lv_istore (lv' := [(6, .int v), (5, .int k), (4, .int (nI i)), (0, .ref b), (1, .ref h0), (2, .ref m0), (3, .ref o)]) hx hb dL_law_167 hl (by decide) rfl (fun ls hl => ?_)
        refine lv_aload_n hx hb dL_law_169 rfl (lv_at hl 5 rfl) ?_
        refine rn_cV (As := []) (rest := []) 0 hx hb hml hown hts hG5 (m_thrown l) gL_law_X5_thrown rfl ⟨rfl, rfl⟩ (by decide +kernel) ⟨Nat.le_of_ble_eq_true rfl, Nat.le_of_ble_eq_true rfl⟩ hW2 hW2.1 rfl rfl hl.1 rfl (Nat.le_of_ble_eq_true rfl) ⟨by show cells + 1 + 0 ≤ 630713; omega, by show slots + 6 + 0 ≤ 7203965; omega⟩ dL_law_170 ?_
        refine W.eq (g2 := F0 m 173 ls [.int k]) rfl ?_
        refine lv_iload hx hb dL_law_173 (lv_at hl 1 rfl) ?_
        refine lv_icmp_eq (tgt := 180) hx hb dL_law_175 (by decide) (fun c_175 => ?_) (fun c_175 => ?_)
        · refine lv_iload hx hb dL_law_180 (lv_at hl 1 rfl) ?_
          refine lv_if_ne (tgt := 197) hx hb dL_law_182 (by decide) (fun c_182 => ?_) (fun c_182 => ?_)
          · refine lv_goto (tgt := 1425) hx hb dL_law_197 (by decide) ?_
            refine lv_iinc (v := (nI (i + 4))) (lv' := [(4, .int (nI (i + 4))), (6, .int v), (5, .int k), (0, .ref b), (1, .ref h0), (2, .ref m0), (3, .ref o)]) hx hb dL_law_1425 hl (k := 2) rfl (nI_add i 4) (by decide) rfl (fun ls hl => ?_)
            refine lv_goto (tgt := 23) hx hb dL_law_1428 (by decide) ?_
            exact ih (i + 4) σ1 g1 k _ _ _ _ (by omega) (by omega) (by omega) (by omega) ⟨f1, V2, hC1, hF2, hfs1, hfo1, hfm1, hat2, hM2, hW2⟩ hS2 ls (lv_sub hl [0, 3, 4, 5, 6] rfl)
          · refine lv_aload_n hx hb dL_law_185 rfl (lv_at hl 6 rfl) ?_
            refine lv_iconst (v := 0) hx hb dL_law_186 (by decide) ?_
            refine rn_lald hx hb hG4 hat2 3 rfl dL_law_187 ?_
            refine lv_iload hx hb dL_law_188 (lv_at hl 0 rfl) ?_
            refine lv_i2l hx hb dL_law_190 rfl ?_
            refine W.lcmp hx hb dL_law_191 ?_
            refine rn_top (y := .int 0) (by rw [hg1 c_182, rn_lcmp0]) ?_
            refine lv_if_eq (tgt := 197) hx hb dL_law_192 (by decide) (fun c_192 => ?_) (fun c_192 => ?_)
            · refine lv_goto (tgt := 1425) hx hb dL_law_197 (by decide) ?_
              refine lv_iinc (v := (nI (i + 4))) (lv' := [(4, .int (nI (i + 4))), (6, .int v), (5, .int k), (0, .ref b), (1, .ref h0), (2, .ref m0), (3, .ref o)]) hx hb dL_law_1425 hl (k := 2) rfl (nI_add i 4) (by decide) rfl (fun ls hl => ?_)
              refine lv_goto (tgt := 23) hx hb dL_law_1428 (by decide) ?_
              exact ih (i + 4) σ1 g1 k _ _ _ _ (by omega) (by omega) (by omega) (by omega) ⟨f1, V2, hC1, hF2, hfs1, hfo1, hfm1, hat2, hM2, hW2⟩ hS2 ls (lv_sub hl [0, 3, 4, 5, 6] rfl)
            · exact absurd c_192 (by decide)
        · exact absurd rfl c_175
      · refine lv_tableIn (off := 161) (tgt := 200) hx hb dL_law_39 (by omega) (by omega) (by rw [h9]; rfl) (by decide) ?_
        refine lv_aload_n hx hb dL_law_200 rfl (lv_at hl 2 rfl) ?_
        refine lv_aload_n hx hb dL_law_201 rfl (lv_at hl 1 rfl) ?_
        refine lv_iload hx hb dL_law_202 (lv_at hl 0 rfl) ?_
        refine lv_iconst (v := 1) hx hb dL_law_204 (by decide) ?_
        refine lv_iadd hx hb dL_law_205 ?_
        refine rn_top (y := .int (nI (i + 1))) (congrArg Value.int (nI_add i 1)) ?_
        refine rn_sld (j := (i + 1)) hx hb hX hbl hbA hS (by omega) hL dL_law_206 ?_
        refine lv_aload_n hx hb dL_law_207 rfl (lv_at hl 1 rfl) ?_
        refine lv_iload hx hb dL_law_208 (lv_at hl 0 rfl) ?_
        refine lv_iconst (v := 2) hx hb dL_law_210 (by decide) ?_
        refine lv_iadd hx hb dL_law_211 ?_
        refine rn_top (y := .int (nI (i + 2))) (congrArg Value.int (nI_add i 2)) ?_
        refine rn_sld (j := (i + 2)) hx hb hX hbl hbA hS (by omega) hL dL_law_212 ?_
        refine lv_aload_n hx hb dL_law_213 rfl (lv_at hl 1 rfl) ?_
        refine lv_iload hx hb dL_law_214 (lv_at hl 0 rfl) ?_
        refine lv_iconst (v := 3) hx hb dL_law_216 (by decide) ?_
        refine lv_iadd hx hb dL_law_217 ?_
        refine rn_top (y := .int (nI (i + 3))) (congrArg Value.int (nI_add i 3)) ?_
        refine rn_sld (j := (i + 3)) hx hb hX hbl hbA hS (by omega) hL dL_law_218 ?_
        refine lv_aload_n hx hb dL_law_219 rfl (lv_at hl 4 rfl) ?_
        obtain ⟨f, V, hCe, hF, hfs, hfo, hfm, hat9, hM, hW⟩ := hI
        obtain ⟨hV, aR, aP, aF, ra, pa, fa, hd, dh, hC⟩ := id hCe
        obtain ⟨k, v, σ1, hLc, hMc⟩ := o_line l hfl (D := D) (cL := cL) (g := g) (cI := cI) (m0 := m0) (ma := ma) hV hC hfo hM ((xs (i + 1))) ((xs (i + 2))) ((xs (i + 3)))
        refine rn_wL (As := [.ref h0, .int (xs (i + 1)), .int (xs (i + 2)), .int (xs (i + 3)), .ref o]) (rest := []) 5 hx hb hml hown hts hG4 hE hS (fun q h => h) (hLc H.size) (fun q h => h.elim (fun h => by rw [h]; exact ho9) (fun h => h.elim (hfs q) (fun h => Nat.le_trans hS.1 h))) gL_law_L_line rfl ⟨rfl, rfl⟩ (by decide +kernel) ⟨Nat.le_of_ble_eq_true rfl, Nat.le_of_ble_eq_true rfl⟩ ⟨hF, hat9⟩ rfl hl.1 rfl (Nat.le_of_ble_eq_true rfl) ⟨by show cells + 1 ≤ 630713; omega, by show slots + 6 ≤ 7203965; omega⟩ dL_law_220 (fun H1 locs1 hP1 hz1 hk1 hS1 => ?_)
        refine W.eq (g2 := F0 m 223 ls [.int k]) rfl ?_
        obtain ⟨f1, g1, hC1, hF1, hfs1, hfo1, hfm1, hg1, hat1, hW1⟩ := rn_I_next hfs hfo hfm hat9 hW hne hS.1 hP1 hk1
        refine lv_istore (lv' := [(5, .int k), (4, .int (nI i)), (0, .ref b), (1, .ref h0), (2, .ref m0), (3, .ref o)]) hx hb dL_law_223 hl (by decide) rfl (fun ls hl => ?_)
        refine lv_aload_n hx hb dL_law_225 rfl (lv_at hl 4 rfl) ?_
        refine lv_aload_n hx hb dL_law_226 rfl (lv_at hl 2 rfl) ?_
        refine lv_iload hx hb dL_law_227 (lv_at hl 1 rfl) ?_
        refine lv_iconst (v := 1) hx hb dL_law_229 (by decide) ?_
        refine lv_iadd hx hb dL_law_230 ?_
        refine rn_top (y := .int (nI (i + 1))) (congrArg Value.int (nI_add i 1)) ?_
        refine rn_sld (j := (i + 1)) hx hb hX hbl hbA hS1 (by omega) hL dL_law_231 ?_
        refine lv_aload_n hx hb dL_law_232 rfl (lv_at hl 2 rfl) ?_
        refine lv_iload hx hb dL_law_233 (lv_at hl 1 rfl) ?_
        refine lv_iconst (v := 2) hx hb dL_law_235 (by decide) ?_
        refine lv_iadd hx hb dL_law_236 ?_
        refine rn_top (y := .int (nI (i + 2))) (congrArg Value.int (nI_add i 2)) ?_
        refine rn_sld (j := (i + 2)) hx hb hX hbl hbA hS1 (by omega) hL dL_law_237 ?_
        refine lv_aload_n hx hb dL_law_238 rfl (lv_at hl 2 rfl) ?_
        refine lv_iload hx hb dL_law_239 (lv_at hl 1 rfl) ?_
        refine lv_iconst (v := 3) hx hb dL_law_241 (by decide) ?_
        refine lv_iadd hx hb dL_law_242 ?_
        refine rn_top (y := .int (nI (i + 3))) (congrArg Value.int (nI_add i 3)) ?_
        refine rn_sld (j := (i + 3)) hx hb hX hbl hbA hS1 (by omega) hL dL_law_243 ?_
        refine rn_wV (As := [.int (xs (i + 1)), .int (xs (i + 2)), .int (xs (i + 3))]) (rest := []) 3 hx hb hml hown hts hG5 hS1 (hMc rf H1.size) (fun q h => (hne q h).2) gL_law_X5_line rfl ⟨rfl, rfl⟩ (by decide +kernel) ⟨Nat.le_of_ble_eq_true rfl, Nat.le_of_ble_eq_true rfl⟩ hW1 hW1.1 rfl rfl hl.1 rfl (Nat.le_of_ble_eq_true rfl) ⟨by show cells + 1 + 0 ≤ 630713; omega, by show slots + 6 + 0 ≤ 7203965; omega⟩ dL_law_244 (fun H2 locs2 hP2 hz2 hk2 hS2 => ?_)
        refine W.eq (g2 := F0 m 247 ls [.int v]) rfl ?_
        obtain ⟨V2, hM2, hW2, hF2, hat2⟩ := rn_I_next2 hC1 hF1 hfs1 hfo1 hfm1 hat1 hne hP2 hk2
        refine lv_istore (lv' := [(6, .int v), (5, .int k), (4, .int (nI i)), (0, .ref b), (1, .ref h0), (2, .ref m0), (3, .ref o)]) hx hb dL_law_247 hl (by decide) rfl (fun ls hl => ?_)
        refine lv_aload_n hx hb dL_law_249 rfl (lv_at hl 5 rfl) ?_
        refine rn_cV (As := []) (rest := []) 0 hx hb hml hown hts hG5 (m_thrown l) gL_law_X5_thrown rfl ⟨rfl, rfl⟩ (by decide +kernel) ⟨Nat.le_of_ble_eq_true rfl, Nat.le_of_ble_eq_true rfl⟩ hW2 hW2.1 rfl rfl hl.1 rfl (Nat.le_of_ble_eq_true rfl) ⟨by show cells + 1 + 0 ≤ 630713; omega, by show slots + 6 + 0 ≤ 7203965; omega⟩ dL_law_250 ?_
        refine W.eq (g2 := F0 m 253 ls [.int k]) rfl ?_
        refine lv_iload hx hb dL_law_253 (lv_at hl 1 rfl) ?_
        refine lv_icmp_eq (tgt := 260) hx hb dL_law_255 (by decide) (fun c_255 => ?_) (fun c_255 => ?_)
        · refine lv_iload hx hb dL_law_260 (lv_at hl 1 rfl) ?_
          refine lv_if_ne (tgt := 277) hx hb dL_law_262 (by decide) (fun c_262 => ?_) (fun c_262 => ?_)
          · refine lv_goto (tgt := 1425) hx hb dL_law_277 (by decide) ?_
            refine lv_iinc (v := (nI (i + 4))) (lv' := [(4, .int (nI (i + 4))), (6, .int v), (5, .int k), (0, .ref b), (1, .ref h0), (2, .ref m0), (3, .ref o)]) hx hb dL_law_1425 hl (k := 2) rfl (nI_add i 4) (by decide) rfl (fun ls hl => ?_)
            refine lv_goto (tgt := 23) hx hb dL_law_1428 (by decide) ?_
            exact ih (i + 4) σ1 g1 k _ _ _ _ (by omega) (by omega) (by omega) (by omega) ⟨f1, V2, hC1, hF2, hfs1, hfo1, hfm1, hat2, hM2, hW2⟩ hS2 ls (lv_sub hl [0, 3, 4, 5, 6] rfl)
          · refine lv_aload_n hx hb dL_law_265 rfl (lv_at hl 6 rfl) ?_
            refine lv_iconst (v := 0) hx hb dL_law_266 (by decide) ?_
            refine rn_lald hx hb hG4 hat2 3 rfl dL_law_267 ?_
            refine lv_iload hx hb dL_law_268 (lv_at hl 0 rfl) ?_
            refine lv_i2l hx hb dL_law_270 rfl ?_
            refine W.lcmp hx hb dL_law_271 ?_
            refine rn_top (y := .int 0) (by rw [hg1 c_262, rn_lcmp0]) ?_
            refine lv_if_eq (tgt := 277) hx hb dL_law_272 (by decide) (fun c_272 => ?_) (fun c_272 => ?_)
            · refine lv_goto (tgt := 1425) hx hb dL_law_277 (by decide) ?_
              refine lv_iinc (v := (nI (i + 4))) (lv' := [(4, .int (nI (i + 4))), (6, .int v), (5, .int k), (0, .ref b), (1, .ref h0), (2, .ref m0), (3, .ref o)]) hx hb dL_law_1425 hl (k := 2) rfl (nI_add i 4) (by decide) rfl (fun ls hl => ?_)
              refine lv_goto (tgt := 23) hx hb dL_law_1428 (by decide) ?_
              exact ih (i + 4) σ1 g1 k _ _ _ _ (by omega) (by omega) (by omega) (by omega) ⟨f1, V2, hC1, hF2, hfs1, hfo1, hfm1, hat2, hM2, hW2⟩ hS2 ls (lv_sub hl [0, 3, 4, 5, 6] rfl)
            · exact absurd c_272 (by decide)
        · exact absurd rfl c_255
      · refine lv_tableIn (off := 241) (tgt := 280) hx hb dL_law_39 (by omega) (by omega) (by rw [h9]; rfl) (by decide) ?_
        refine lv_aload_n hx hb dL_law_280 rfl (lv_at hl 2 rfl) ?_
        refine lv_aload_n hx hb dL_law_281 rfl (lv_at hl 1 rfl) ?_
        refine lv_iload hx hb dL_law_282 (lv_at hl 0 rfl) ?_
        refine lv_iconst (v := 1) hx hb dL_law_284 (by decide) ?_
        refine lv_iadd hx hb dL_law_285 ?_
        refine rn_top (y := .int (nI (i + 1))) (congrArg Value.int (nI_add i 1)) ?_
        refine rn_sld (j := (i + 1)) hx hb hX hbl hbA hS (by omega) hL dL_law_286 ?_
        refine lv_aload_n hx hb dL_law_287 rfl (lv_at hl 1 rfl) ?_
        refine lv_iload hx hb dL_law_288 (lv_at hl 0 rfl) ?_
        refine lv_iconst (v := 2) hx hb dL_law_290 (by decide) ?_
        refine lv_iadd hx hb dL_law_291 ?_
        refine rn_top (y := .int (nI (i + 2))) (congrArg Value.int (nI_add i 2)) ?_
        refine rn_sld (j := (i + 2)) hx hb hX hbl hbA hS (by omega) hL dL_law_292 ?_
        refine lv_aload_n hx hb dL_law_293 rfl (lv_at hl 4 rfl) ?_
        obtain ⟨f, V, hCe, hF, hfs, hfo, hfm, hat9, hM, hW⟩ := hI
        obtain ⟨hV, aR, aP, aF, ra, pa, fa, hd, dh, hC⟩ := id hCe
        obtain ⟨k, v, σ1, hLc, hMc⟩ := o_writeMap l hfl (D := D) (cL := cL) (g := g) (cI := cI) (m0 := m0) (ma := ma) hV hC hfo hM ((xs (i + 1))) ((xs (i + 2)))
        refine rn_wL (As := [.ref h0, .int (xs (i + 1)), .int (xs (i + 2)), .ref o]) (rest := []) 4 hx hb hml hown hts hG4 hE hS (fun q h => h) (hLc H.size) (fun q h => h.elim (fun h => by rw [h]; exact ho9) (fun h => h.elim (hfs q) (fun h => Nat.le_trans hS.1 h))) gL_law_L_writeMap rfl ⟨rfl, rfl⟩ (by decide +kernel) ⟨Nat.le_of_ble_eq_true rfl, Nat.le_of_ble_eq_true rfl⟩ ⟨hF, hat9⟩ rfl hl.1 rfl (Nat.le_of_ble_eq_true rfl) ⟨by show cells + 1 ≤ 630713; omega, by show slots + 6 ≤ 7203965; omega⟩ dL_law_294 (fun H1 locs1 hP1 hz1 hk1 hS1 => ?_)
        refine W.eq (g2 := F0 m 297 ls [.int k]) rfl ?_
        obtain ⟨f1, g1, hC1, hF1, hfs1, hfo1, hfm1, hg1, hat1, hW1⟩ := rn_I_next hfs hfo hfm hat9 hW hne hS.1 hP1 hk1
        refine lv_istore (lv' := [(5, .int k), (4, .int (nI i)), (0, .ref b), (1, .ref h0), (2, .ref m0), (3, .ref o)]) hx hb dL_law_297 hl (by decide) rfl (fun ls hl => ?_)
        refine lv_aload_n hx hb dL_law_299 rfl (lv_at hl 4 rfl) ?_
        refine lv_aload_n hx hb dL_law_300 rfl (lv_at hl 2 rfl) ?_
        refine lv_iload hx hb dL_law_301 (lv_at hl 1 rfl) ?_
        refine lv_iconst (v := 1) hx hb dL_law_303 (by decide) ?_
        refine lv_iadd hx hb dL_law_304 ?_
        refine rn_top (y := .int (nI (i + 1))) (congrArg Value.int (nI_add i 1)) ?_
        refine rn_sld (j := (i + 1)) hx hb hX hbl hbA hS1 (by omega) hL dL_law_305 ?_
        refine lv_aload_n hx hb dL_law_306 rfl (lv_at hl 2 rfl) ?_
        refine lv_iload hx hb dL_law_307 (lv_at hl 1 rfl) ?_
        refine lv_iconst (v := 2) hx hb dL_law_309 (by decide) ?_
        refine lv_iadd hx hb dL_law_310 ?_
        refine rn_top (y := .int (nI (i + 2))) (congrArg Value.int (nI_add i 2)) ?_
        refine rn_sld (j := (i + 2)) hx hb hX hbl hbA hS1 (by omega) hL dL_law_311 ?_
        refine rn_wV (As := [.int (xs (i + 1)), .int (xs (i + 2))]) (rest := []) 2 hx hb hml hown hts hG5 hS1 (hMc rf H1.size) (fun q h => (hne q h).2) gL_law_X5_writeMap rfl ⟨rfl, rfl⟩ (by decide +kernel) ⟨Nat.le_of_ble_eq_true rfl, Nat.le_of_ble_eq_true rfl⟩ hW1 hW1.1 rfl rfl hl.1 rfl (Nat.le_of_ble_eq_true rfl) ⟨by show cells + 1 + 0 ≤ 630713; omega, by show slots + 6 + 0 ≤ 7203965; omega⟩ dL_law_312 (fun H2 locs2 hP2 hz2 hk2 hS2 => ?_)
        refine W.eq (g2 := F0 m 315 ls [.int v]) rfl ?_
        obtain ⟨V2, hM2, hW2, hF2, hat2⟩ := rn_I_next2 hC1 hF1 hfs1 hfo1 hfm1 hat1 hne hP2 hk2
        refine lv_istore (lv' := [(6, .int v), (5, .int k), (4, .int (nI i)), (0, .ref b), (1, .ref h0), (2, .ref m0), (3, .ref o)]) hx hb dL_law_315 hl (by decide) rfl (fun ls hl => ?_)
        refine lv_aload_n hx hb dL_law_317 rfl (lv_at hl 5 rfl) ?_
        refine rn_cV (As := []) (rest := []) 0 hx hb hml hown hts hG5 (m_thrown l) gL_law_X5_thrown rfl ⟨rfl, rfl⟩ (by decide +kernel) ⟨Nat.le_of_ble_eq_true rfl, Nat.le_of_ble_eq_true rfl⟩ hW2 hW2.1 rfl rfl hl.1 rfl (Nat.le_of_ble_eq_true rfl) ⟨by show cells + 1 + 0 ≤ 630713; omega, by show slots + 6 + 0 ≤ 7203965; omega⟩ dL_law_318 ?_
        refine W.eq (g2 := F0 m 321 ls [.int k]) rfl ?_
        refine lv_iload hx hb dL_law_321 (lv_at hl 1 rfl) ?_
        refine lv_icmp_eq (tgt := 328) hx hb dL_law_323 (by decide) (fun c_323 => ?_) (fun c_323 => ?_)
        · refine lv_iload hx hb dL_law_328 (lv_at hl 1 rfl) ?_
          refine lv_if_ne (tgt := 345) hx hb dL_law_330 (by decide) (fun c_330 => ?_) (fun c_330 => ?_)
          · refine lv_goto (tgt := 1425) hx hb dL_law_345 (by decide) ?_
            refine lv_iinc (v := (nI (i + 4))) (lv' := [(4, .int (nI (i + 4))), (6, .int v), (5, .int k), (0, .ref b), (1, .ref h0), (2, .ref m0), (3, .ref o)]) hx hb dL_law_1425 hl (k := 2) rfl (nI_add i 4) (by decide) rfl (fun ls hl => ?_)
            refine lv_goto (tgt := 23) hx hb dL_law_1428 (by decide) ?_
            exact ih (i + 4) σ1 g1 k _ _ _ _ (by omega) (by omega) (by omega) (by omega) ⟨f1, V2, hC1, hF2, hfs1, hfo1, hfm1, hat2, hM2, hW2⟩ hS2 ls (lv_sub hl [0, 3, 4, 5, 6] rfl)
          · refine lv_aload_n hx hb dL_law_333 rfl (lv_at hl 6 rfl) ?_
            refine lv_iconst (v := 0) hx hb dL_law_334 (by decide) ?_
            refine rn_lald hx hb hG4 hat2 3 rfl dL_law_335 ?_
            refine lv_iload hx hb dL_law_336 (lv_at hl 0 rfl) ?_
            refine lv_i2l hx hb dL_law_338 rfl ?_
            refine W.lcmp hx hb dL_law_339 ?_
            refine rn_top (y := .int 0) (by rw [hg1 c_330, rn_lcmp0]) ?_
            refine lv_if_eq (tgt := 345) hx hb dL_law_340 (by decide) (fun c_340 => ?_) (fun c_340 => ?_)
            · refine lv_goto (tgt := 1425) hx hb dL_law_345 (by decide) ?_
              refine lv_iinc (v := (nI (i + 4))) (lv' := [(4, .int (nI (i + 4))), (6, .int v), (5, .int k), (0, .ref b), (1, .ref h0), (2, .ref m0), (3, .ref o)]) hx hb dL_law_1425 hl (k := 2) rfl (nI_add i 4) (by decide) rfl (fun ls hl => ?_)
              refine lv_goto (tgt := 23) hx hb dL_law_1428 (by decide) ?_
              exact ih (i + 4) σ1 g1 k _ _ _ _ (by omega) (by omega) (by omega) (by omega) ⟨f1, V2, hC1, hF2, hfs1, hfo1, hfm1, hat2, hM2, hW2⟩ hS2 ls (lv_sub hl [0, 3, 4, 5, 6] rfl)
            · exact absurd c_340 (by decide)
        · exact absurd rfl c_323
      · refine lv_tableIn (off := 309) (tgt := 348) hx hb dL_law_39 (by omega) (by omega) (by rw [h9]; rfl) (by decide) ?_
        refine lv_aload_n hx hb dL_law_348 rfl (lv_at hl 2 rfl) ?_
        obtain ⟨f, V, hCe, hF, hfs, hfo, hfm, hat9, hM, hW⟩ := hI
        obtain ⟨hV, aR, aP, aF, ra, pa, fa, hd, dh, hC⟩ := id hCe
        refine rn_cV (As := []) (rest := []) 0 hx hb hml hown hts hG3 (c_rooms l hV hC) gL_law_X4_rooms rfl ⟨rfl, rfl⟩ (by decide +kernel) ⟨Nat.le_of_ble_eq_true rfl, Nat.le_of_ble_eq_true rfl⟩ hF (hF _ _ hC.1.1) rfl rfl hl.1 rfl (Nat.le_of_ble_eq_true rfl) ⟨by show cells ≤ 630713; omega, by show slots ≤ 7203965; omega⟩ dL_law_349 ?_
        refine W.eq (g2 := F0 m 352 ls [.int (nI σ.sn)]) rfl ?_
        refine lv_aload_n hx hb dL_law_352 rfl (lv_at hl 3 rfl) ?_
        refine rn_wV (As := []) (rest := [.int (nI σ.sn)]) 0 hx hb hml hown hts hG5 hS (n_rooms l hV hM H.size) (fun q h => (hne q h).2) gL_law_X5_rooms rfl ⟨rfl, rfl⟩ (by decide +kernel) ⟨Nat.le_of_ble_eq_true rfl, Nat.le_of_ble_eq_true rfl⟩ hW hW.1 rfl rfl hl.1 rfl (Nat.le_of_ble_eq_true rfl) ⟨by show cells + 0 ≤ 630713; omega, by show slots + 0 ≤ 7203965; omega⟩ dL_law_353 (fun H2 locs2 hP2 hz2 hk2 hS2 => ?_)
        refine W.eq (g2 := F0 m 356 ls [.int (nI σ.sn), .int (nI σ.sn)]) rfl ?_
        obtain ⟨V2, hM2, hW2, hF2, hat2⟩ := rn_I_next2 hCe hF hfs hfo hfm hat9 hne hP2 hk2
        refine lv_icmp_eq (tgt := 1425) hx hb dL_law_356 (by decide) (fun c_356 => ?_) (fun c_356 => ?_)
        · refine lv_iinc (v := (nI (i + 4))) (lv' := [(4, .int (nI (i + 4))), (0, .ref b), (1, .ref h0), (2, .ref m0), (3, .ref o)]) hx hb dL_law_1425 hl (k := 0) rfl (nI_add i 4) (by decide) rfl (fun ls hl => ?_)
          refine lv_goto (tgt := 23) hx hb dL_law_1428 (by decide) ?_
          exact ih (i + 4) σ g 0 _ _ _ _ (by omega) (by omega) (by omega) (by omega) ⟨f, V2, hCe, hF2, hfs, hfo, hfm, hat2, hM2, hW2⟩ hS2 ls (lv_sub hl [0, 1, 2, 3, 4] rfl)
        · exact absurd rfl c_356
      · refine lv_tableIn (off := 322) (tgt := 361) hx hb dL_law_39 (by omega) (by omega) (by rw [h9]; rfl) (by decide) ?_
        refine lv_aload_n hx hb dL_law_361 rfl (lv_at hl 2 rfl) ?_
        refine lv_aload_n hx hb dL_law_362 rfl (lv_at hl 1 rfl) ?_
        refine lv_iload hx hb dL_law_363 (lv_at hl 0 rfl) ?_
        refine lv_iconst (v := 1) hx hb dL_law_365 (by decide) ?_
        refine lv_iadd hx hb dL_law_366 ?_
        refine rn_top (y := .int (nI (i + 1))) (congrArg Value.int (nI_add i 1)) ?_
        refine rn_sld (j := (i + 1)) hx hb hX hbl hbA hS (by omega) hL dL_law_367 ?_
        refine lv_aload_n hx hb dL_law_368 rfl (lv_at hl 4 rfl) ?_
        obtain ⟨f, V, hCe, hF, hfs, hfo, hfm, hat9, hM, hW⟩ := hI
        obtain ⟨hV, aR, aP, aF, ra, pa, fa, hd, dh, hC⟩ := id hCe
        obtain ⟨k, v, σ1, hLc, hMc⟩ := o_outerOf l hfl (D := D) (cL := cL) (g := g) (cI := cI) (m0 := m0) (ma := ma) hV hC hfo hM ((xs (i + 1)))
        refine rn_wL (As := [.ref h0, .int (xs (i + 1)), .ref o]) (rest := []) 3 hx hb hml hown hts hG4 hE hS (fun q h => h) (hLc H.size) (fun q h => h.elim (fun h => by rw [h]; exact ho9) (fun h => h.elim (hfs q) (fun h => Nat.le_trans hS.1 h))) gL_law_L_outerOf rfl ⟨rfl, rfl⟩ (by decide +kernel) ⟨Nat.le_of_ble_eq_true rfl, Nat.le_of_ble_eq_true rfl⟩ ⟨hF, hat9⟩ rfl hl.1 rfl (Nat.le_of_ble_eq_true rfl) ⟨by show cells + 1 ≤ 630713; omega, by show slots + 6 ≤ 7203965; omega⟩ dL_law_369 (fun H1 locs1 hP1 hz1 hk1 hS1 => ?_)
        refine W.eq (g2 := F0 m 372 ls [.int k]) rfl ?_
        obtain ⟨f1, g1, hC1, hF1, hfs1, hfo1, hfm1, hg1, hat1, hW1⟩ := rn_I_next hfs hfo hfm hat9 hW hne hS.1 hP1 hk1
        refine lv_istore (lv' := [(5, .int k), (4, .int (nI i)), (0, .ref b), (1, .ref h0), (2, .ref m0), (3, .ref o)]) hx hb dL_law_372 hl (by decide) rfl (fun ls hl => ?_)
        refine lv_aload_n hx hb dL_law_374 rfl (lv_at hl 4 rfl) ?_
        refine lv_aload_n hx hb dL_law_375 rfl (lv_at hl 2 rfl) ?_
        refine lv_iload hx hb dL_law_376 (lv_at hl 1 rfl) ?_
        refine lv_iconst (v := 1) hx hb dL_law_378 (by decide) ?_
        refine lv_iadd hx hb dL_law_379 ?_
        refine rn_top (y := .int (nI (i + 1))) (congrArg Value.int (nI_add i 1)) ?_
        refine rn_sld (j := (i + 1)) hx hb hX hbl hbA hS1 (by omega) hL dL_law_380 ?_
        refine rn_wV (As := [.int (xs (i + 1))]) (rest := []) 1 hx hb hml hown hts hG5 hS1 (hMc rf H1.size) (fun q h => (hne q h).2) gL_law_X5_outerOf rfl ⟨rfl, rfl⟩ (by decide +kernel) ⟨Nat.le_of_ble_eq_true rfl, Nat.le_of_ble_eq_true rfl⟩ hW1 hW1.1 rfl rfl hl.1 rfl (Nat.le_of_ble_eq_true rfl) ⟨by show cells + 1 + 0 ≤ 630713; omega, by show slots + 6 + 0 ≤ 7203965; omega⟩ dL_law_381 (fun H2 locs2 hP2 hz2 hk2 hS2 => ?_)
        refine W.eq (g2 := F0 m 384 ls [.int v]) rfl ?_
        obtain ⟨V2, hM2, hW2, hF2, hat2⟩ := rn_I_next2 hC1 hF1 hfs1 hfo1 hfm1 hat1 hne hP2 hk2
        refine lv_istore (lv' := [(6, .int v), (5, .int k), (4, .int (nI i)), (0, .ref b), (1, .ref h0), (2, .ref m0), (3, .ref o)]) hx hb dL_law_384 hl (by decide) rfl (fun ls hl => ?_)
        refine lv_aload_n hx hb dL_law_386 rfl (lv_at hl 5 rfl) ?_
        refine rn_cV (As := []) (rest := []) 0 hx hb hml hown hts hG5 (m_thrown l) gL_law_X5_thrown rfl ⟨rfl, rfl⟩ (by decide +kernel) ⟨Nat.le_of_ble_eq_true rfl, Nat.le_of_ble_eq_true rfl⟩ hW2 hW2.1 rfl rfl hl.1 rfl (Nat.le_of_ble_eq_true rfl) ⟨by show cells + 1 + 0 ≤ 630713; omega, by show slots + 6 + 0 ≤ 7203965; omega⟩ dL_law_387 ?_
        refine W.eq (g2 := F0 m 390 ls [.int k]) rfl ?_
        refine lv_iload hx hb dL_law_390 (lv_at hl 1 rfl) ?_
        refine lv_icmp_eq (tgt := 397) hx hb dL_law_392 (by decide) (fun c_392 => ?_) (fun c_392 => ?_)
        · refine lv_iload hx hb dL_law_397 (lv_at hl 1 rfl) ?_
          refine lv_if_ne (tgt := 414) hx hb dL_law_399 (by decide) (fun c_399 => ?_) (fun c_399 => ?_)
          · refine lv_goto (tgt := 1425) hx hb dL_law_414 (by decide) ?_
            refine lv_iinc (v := (nI (i + 4))) (lv' := [(4, .int (nI (i + 4))), (6, .int v), (5, .int k), (0, .ref b), (1, .ref h0), (2, .ref m0), (3, .ref o)]) hx hb dL_law_1425 hl (k := 2) rfl (nI_add i 4) (by decide) rfl (fun ls hl => ?_)
            refine lv_goto (tgt := 23) hx hb dL_law_1428 (by decide) ?_
            exact ih (i + 4) σ1 g1 k _ _ _ _ (by omega) (by omega) (by omega) (by omega) ⟨f1, V2, hC1, hF2, hfs1, hfo1, hfm1, hat2, hM2, hW2⟩ hS2 ls (lv_sub hl [0, 3, 4, 5, 6] rfl)
          · refine lv_aload_n hx hb dL_law_402 rfl (lv_at hl 6 rfl) ?_
            refine lv_iconst (v := 0) hx hb dL_law_403 (by decide) ?_
            refine rn_lald hx hb hG4 hat2 3 rfl dL_law_404 ?_
            refine lv_iload hx hb dL_law_405 (lv_at hl 0 rfl) ?_
            refine lv_i2l hx hb dL_law_407 rfl ?_
            refine W.lcmp hx hb dL_law_408 ?_
            refine rn_top (y := .int 0) (by rw [hg1 c_399, rn_lcmp0]) ?_
            refine lv_if_eq (tgt := 414) hx hb dL_law_409 (by decide) (fun c_409 => ?_) (fun c_409 => ?_)
            · refine lv_goto (tgt := 1425) hx hb dL_law_414 (by decide) ?_
              refine lv_iinc (v := (nI (i + 4))) (lv' := [(4, .int (nI (i + 4))), (6, .int v), (5, .int k), (0, .ref b), (1, .ref h0), (2, .ref m0), (3, .ref o)]) hx hb dL_law_1425 hl (k := 2) rfl (nI_add i 4) (by decide) rfl (fun ls hl => ?_)
              refine lv_goto (tgt := 23) hx hb dL_law_1428 (by decide) ?_
              exact ih (i + 4) σ1 g1 k _ _ _ _ (by omega) (by omega) (by omega) (by omega) ⟨f1, V2, hC1, hF2, hfs1, hfo1, hfm1, hat2, hM2, hW2⟩ hS2 ls (lv_sub hl [0, 3, 4, 5, 6] rfl)
            · exact absurd c_409 (by decide)
        · exact absurd rfl c_392
      · refine lv_tableIn (off := 378) (tgt := 417) hx hb dL_law_39 (by omega) (by omega) (by rw [h9]; rfl) (by decide) ?_
        refine lv_aload_n hx hb dL_law_417 rfl (lv_at hl 2 rfl) ?_
        refine lv_aload_n hx hb dL_law_418 rfl (lv_at hl 1 rfl) ?_
        refine lv_iload hx hb dL_law_419 (lv_at hl 0 rfl) ?_
        refine lv_iconst (v := 1) hx hb dL_law_421 (by decide) ?_
        refine lv_iadd hx hb dL_law_422 ?_
        refine rn_top (y := .int (nI (i + 1))) (congrArg Value.int (nI_add i 1)) ?_
        refine rn_sld (j := (i + 1)) hx hb hX hbl hbA hS (by omega) hL dL_law_423 ?_
        refine lv_aload_n hx hb dL_law_424 rfl (lv_at hl 1 rfl) ?_
        refine lv_iload hx hb dL_law_425 (lv_at hl 0 rfl) ?_
        refine lv_iconst (v := 2) hx hb dL_law_427 (by decide) ?_
        refine lv_iadd hx hb dL_law_428 ?_
        refine rn_top (y := .int (nI (i + 2))) (congrArg Value.int (nI_add i 2)) ?_
        refine rn_sld (j := (i + 2)) hx hb hX hbl hbA hS (by omega) hL dL_law_429 ?_
        refine lv_aload_n hx hb dL_law_430 rfl (lv_at hl 4 rfl) ?_
        obtain ⟨f, V, hCe, hF, hfs, hfo, hfm, hat9, hM, hW⟩ := hI
        obtain ⟨hV, aR, aP, aF, ra, pa, fa, hd, dh, hC⟩ := id hCe
        obtain ⟨k, v, σ1, hLc, hMc⟩ := o_leadsTo l hfl (D := D) (cL := cL) (g := g) (cI := cI) (m0 := m0) (ma := ma) hV hC hfo hM ((xs (i + 1))) ((xs (i + 2)))
        refine rn_wL (As := [.ref h0, .int (xs (i + 1)), .int (xs (i + 2)), .ref o]) (rest := []) 4 hx hb hml hown hts hG4 hE hS (fun q h => h) (hLc H.size) (fun q h => h.elim (fun h => by rw [h]; exact ho9) (fun h => h.elim (hfs q) (fun h => Nat.le_trans hS.1 h))) gL_law_L_leadsTo rfl ⟨rfl, rfl⟩ (by decide +kernel) ⟨Nat.le_of_ble_eq_true rfl, Nat.le_of_ble_eq_true rfl⟩ ⟨hF, hat9⟩ rfl hl.1 rfl (Nat.le_of_ble_eq_true rfl) ⟨by show cells + 1 ≤ 630713; omega, by show slots + 6 ≤ 7203965; omega⟩ dL_law_431 (fun H1 locs1 hP1 hz1 hk1 hS1 => ?_)
        refine W.eq (g2 := F0 m 434 ls [.int k]) rfl ?_
        obtain ⟨f1, g1, hC1, hF1, hfs1, hfo1, hfm1, hg1, hat1, hW1⟩ := rn_I_next hfs hfo hfm hat9 hW hne hS.1 hP1 hk1
        refine lv_istore (lv' := [(5, .int k), (4, .int (nI i)), (0, .ref b), (1, .ref h0), (2, .ref m0), (3, .ref o)]) hx hb dL_law_434 hl (by decide) rfl (fun ls hl => ?_)
        refine lv_aload_n hx hb dL_law_436 rfl (lv_at hl 4 rfl) ?_
        refine lv_aload_n hx hb dL_law_437 rfl (lv_at hl 2 rfl) ?_
        refine lv_iload hx hb dL_law_438 (lv_at hl 1 rfl) ?_
        refine lv_iconst (v := 1) hx hb dL_law_440 (by decide) ?_
        refine lv_iadd hx hb dL_law_441 ?_
        refine rn_top (y := .int (nI (i + 1))) (congrArg Value.int (nI_add i 1)) ?_
        refine rn_sld (j := (i + 1)) hx hb hX hbl hbA hS1 (by omega) hL dL_law_442 ?_
        refine lv_aload_n hx hb dL_law_443 rfl (lv_at hl 2 rfl) ?_
        refine lv_iload hx hb dL_law_444 (lv_at hl 1 rfl) ?_
        refine lv_iconst (v := 2) hx hb dL_law_446 (by decide) ?_
        refine lv_iadd hx hb dL_law_447 ?_
        refine rn_top (y := .int (nI (i + 2))) (congrArg Value.int (nI_add i 2)) ?_
        refine rn_sld (j := (i + 2)) hx hb hX hbl hbA hS1 (by omega) hL dL_law_448 ?_
        refine rn_wV (As := [.int (xs (i + 1)), .int (xs (i + 2))]) (rest := []) 2 hx hb hml hown hts hG5 hS1 (hMc rf H1.size) (fun q h => (hne q h).2) gL_law_X5_leadsTo rfl ⟨rfl, rfl⟩ (by decide +kernel) ⟨Nat.le_of_ble_eq_true rfl, Nat.le_of_ble_eq_true rfl⟩ hW1 hW1.1 rfl rfl hl.1 rfl (Nat.le_of_ble_eq_true rfl) ⟨by show cells + 1 + 0 ≤ 630713; omega, by show slots + 6 + 0 ≤ 7203965; omega⟩ dL_law_449 (fun H2 locs2 hP2 hz2 hk2 hS2 => ?_)
        refine W.eq (g2 := F0 m 452 ls [.int v]) rfl ?_
        obtain ⟨V2, hM2, hW2, hF2, hat2⟩ := rn_I_next2 hC1 hF1 hfs1 hfo1 hfm1 hat1 hne hP2 hk2
        refine lv_istore (lv' := [(6, .int v), (5, .int k), (4, .int (nI i)), (0, .ref b), (1, .ref h0), (2, .ref m0), (3, .ref o)]) hx hb dL_law_452 hl (by decide) rfl (fun ls hl => ?_)
        refine lv_aload_n hx hb dL_law_454 rfl (lv_at hl 5 rfl) ?_
        refine rn_cV (As := []) (rest := []) 0 hx hb hml hown hts hG5 (m_thrown l) gL_law_X5_thrown rfl ⟨rfl, rfl⟩ (by decide +kernel) ⟨Nat.le_of_ble_eq_true rfl, Nat.le_of_ble_eq_true rfl⟩ hW2 hW2.1 rfl rfl hl.1 rfl (Nat.le_of_ble_eq_true rfl) ⟨by show cells + 1 + 0 ≤ 630713; omega, by show slots + 6 + 0 ≤ 7203965; omega⟩ dL_law_455 ?_
        refine W.eq (g2 := F0 m 458 ls [.int k]) rfl ?_
        refine lv_iload hx hb dL_law_458 (lv_at hl 1 rfl) ?_
        refine lv_icmp_eq (tgt := 465) hx hb dL_law_460 (by decide) (fun c_460 => ?_) (fun c_460 => ?_)
        · refine lv_iload hx hb dL_law_465 (lv_at hl 1 rfl) ?_
          refine lv_if_ne (tgt := 482) hx hb dL_law_467 (by decide) (fun c_467 => ?_) (fun c_467 => ?_)
          · refine lv_goto (tgt := 1425) hx hb dL_law_482 (by decide) ?_
            refine lv_iinc (v := (nI (i + 4))) (lv' := [(4, .int (nI (i + 4))), (6, .int v), (5, .int k), (0, .ref b), (1, .ref h0), (2, .ref m0), (3, .ref o)]) hx hb dL_law_1425 hl (k := 2) rfl (nI_add i 4) (by decide) rfl (fun ls hl => ?_)
            refine lv_goto (tgt := 23) hx hb dL_law_1428 (by decide) ?_
            exact ih (i + 4) σ1 g1 k _ _ _ _ (by omega) (by omega) (by omega) (by omega) ⟨f1, V2, hC1, hF2, hfs1, hfo1, hfm1, hat2, hM2, hW2⟩ hS2 ls (lv_sub hl [0, 3, 4, 5, 6] rfl)
          · refine lv_aload_n hx hb dL_law_470 rfl (lv_at hl 6 rfl) ?_
            refine lv_iconst (v := 0) hx hb dL_law_471 (by decide) ?_
            refine rn_lald hx hb hG4 hat2 3 rfl dL_law_472 ?_
            refine lv_iload hx hb dL_law_473 (lv_at hl 0 rfl) ?_
            refine lv_i2l hx hb dL_law_475 rfl ?_
            refine W.lcmp hx hb dL_law_476 ?_
            refine rn_top (y := .int 0) (by rw [hg1 c_467, rn_lcmp0]) ?_
            refine lv_if_eq (tgt := 482) hx hb dL_law_477 (by decide) (fun c_477 => ?_) (fun c_477 => ?_)
            · refine lv_goto (tgt := 1425) hx hb dL_law_482 (by decide) ?_
              refine lv_iinc (v := (nI (i + 4))) (lv' := [(4, .int (nI (i + 4))), (6, .int v), (5, .int k), (0, .ref b), (1, .ref h0), (2, .ref m0), (3, .ref o)]) hx hb dL_law_1425 hl (k := 2) rfl (nI_add i 4) (by decide) rfl (fun ls hl => ?_)
              refine lv_goto (tgt := 23) hx hb dL_law_1428 (by decide) ?_
              exact ih (i + 4) σ1 g1 k _ _ _ _ (by omega) (by omega) (by omega) (by omega) ⟨f1, V2, hC1, hF2, hfs1, hfo1, hfm1, hat2, hM2, hW2⟩ hS2 ls (lv_sub hl [0, 3, 4, 5, 6] rfl)
            · exact absurd c_477 (by decide)
        · exact absurd rfl c_460
      · refine lv_tableIn (off := 446) (tgt := 485) hx hb dL_law_39 (by omega) (by omega) (by rw [h9]; rfl) (by decide) ?_
        refine lv_aload_n hx hb dL_law_485 rfl (lv_at hl 2 rfl) ?_
        refine lv_aload_n hx hb dL_law_486 rfl (lv_at hl 1 rfl) ?_
        refine lv_iload hx hb dL_law_487 (lv_at hl 0 rfl) ?_
        refine lv_iconst (v := 1) hx hb dL_law_489 (by decide) ?_
        refine lv_iadd hx hb dL_law_490 ?_
        refine rn_top (y := .int (nI (i + 1))) (congrArg Value.int (nI_add i 1)) ?_
        refine rn_sld (j := (i + 1)) hx hb hX hbl hbA hS (by omega) hL dL_law_491 ?_
        refine lv_aload_n hx hb dL_law_492 rfl (lv_at hl 1 rfl) ?_
        refine lv_iload hx hb dL_law_493 (lv_at hl 0 rfl) ?_
        refine lv_iconst (v := 2) hx hb dL_law_495 (by decide) ?_
        refine lv_iadd hx hb dL_law_496 ?_
        refine rn_top (y := .int (nI (i + 2))) (congrArg Value.int (nI_add i 2)) ?_
        refine rn_sld (j := (i + 2)) hx hb hX hbl hbA hS (by omega) hL dL_law_497 ?_
        refine lv_aload_n hx hb dL_law_498 rfl (lv_at hl 4 rfl) ?_
        obtain ⟨f, V, hCe, hF, hfs, hfo, hfm, hat9, hM, hW⟩ := hI
        obtain ⟨hV, aR, aP, aF, ra, pa, fa, hd, dh, hC⟩ := id hCe
        obtain ⟨k, v, σ1, hLc, hMc⟩ := o_seenAs l hfl (D := D) (cL := cL) (g := g) (cI := cI) (m0 := m0) (ma := ma) hV hC hfo hM ((xs (i + 1))) ((xs (i + 2)))
        refine rn_wL (As := [.ref h0, .int (xs (i + 1)), .int (xs (i + 2)), .ref o]) (rest := []) 4 hx hb hml hown hts hG4 hE hS (fun q h => h) (hLc H.size) (fun q h => h.elim (fun h => by rw [h]; exact ho9) (fun h => h.elim (hfs q) (fun h => Nat.le_trans hS.1 h))) gL_law_L_seenAs rfl ⟨rfl, rfl⟩ (by decide +kernel) ⟨Nat.le_of_ble_eq_true rfl, Nat.le_of_ble_eq_true rfl⟩ ⟨hF, hat9⟩ rfl hl.1 rfl (Nat.le_of_ble_eq_true rfl) ⟨by show cells + 1 ≤ 630713; omega, by show slots + 6 ≤ 7203965; omega⟩ dL_law_499 (fun H1 locs1 hP1 hz1 hk1 hS1 => ?_)
        refine W.eq (g2 := F0 m 502 ls [.int k]) rfl ?_
        obtain ⟨f1, g1, hC1, hF1, hfs1, hfo1, hfm1, hg1, hat1, hW1⟩ := rn_I_next hfs hfo hfm hat9 hW hne hS.1 hP1 hk1
        refine lv_istore (lv' := [(5, .int k), (4, .int (nI i)), (0, .ref b), (1, .ref h0), (2, .ref m0), (3, .ref o)]) hx hb dL_law_502 hl (by decide) rfl (fun ls hl => ?_)
        refine lv_aload_n hx hb dL_law_504 rfl (lv_at hl 4 rfl) ?_
        refine lv_aload_n hx hb dL_law_505 rfl (lv_at hl 2 rfl) ?_
        refine lv_iload hx hb dL_law_506 (lv_at hl 1 rfl) ?_
        refine lv_iconst (v := 1) hx hb dL_law_508 (by decide) ?_
        refine lv_iadd hx hb dL_law_509 ?_
        refine rn_top (y := .int (nI (i + 1))) (congrArg Value.int (nI_add i 1)) ?_
        refine rn_sld (j := (i + 1)) hx hb hX hbl hbA hS1 (by omega) hL dL_law_510 ?_
        refine lv_aload_n hx hb dL_law_511 rfl (lv_at hl 2 rfl) ?_
        refine lv_iload hx hb dL_law_512 (lv_at hl 1 rfl) ?_
        refine lv_iconst (v := 2) hx hb dL_law_514 (by decide) ?_
        refine lv_iadd hx hb dL_law_515 ?_
        refine rn_top (y := .int (nI (i + 2))) (congrArg Value.int (nI_add i 2)) ?_
        refine rn_sld (j := (i + 2)) hx hb hX hbl hbA hS1 (by omega) hL dL_law_516 ?_
        refine rn_wV (As := [.int (xs (i + 1)), .int (xs (i + 2))]) (rest := []) 2 hx hb hml hown hts hG5 hS1 (hMc rf H1.size) (fun q h => (hne q h).2) gL_law_X5_seenAs rfl ⟨rfl, rfl⟩ (by decide +kernel) ⟨Nat.le_of_ble_eq_true rfl, Nat.le_of_ble_eq_true rfl⟩ hW1 hW1.1 rfl rfl hl.1 rfl (Nat.le_of_ble_eq_true rfl) ⟨by show cells + 1 + 0 ≤ 630713; omega, by show slots + 6 + 0 ≤ 7203965; omega⟩ dL_law_517 (fun H2 locs2 hP2 hz2 hk2 hS2 => ?_)
        refine W.eq (g2 := F0 m 520 ls [.int v]) rfl ?_
        obtain ⟨V2, hM2, hW2, hF2, hat2⟩ := rn_I_next2 hC1 hF1 hfs1 hfo1 hfm1 hat1 hne hP2 hk2
        refine lv_istore (lv' := [(6, .int v), (5, .int k), (4, .int (nI i)), (0, .ref b), (1, .ref h0), (2, .ref m0), (3, .ref o)]) hx hb dL_law_520 hl (by decide) rfl (fun ls hl => ?_)
        refine lv_aload_n hx hb dL_law_522 rfl (lv_at hl 5 rfl) ?_
        refine rn_cV (As := []) (rest := []) 0 hx hb hml hown hts hG5 (m_thrown l) gL_law_X5_thrown rfl ⟨rfl, rfl⟩ (by decide +kernel) ⟨Nat.le_of_ble_eq_true rfl, Nat.le_of_ble_eq_true rfl⟩ hW2 hW2.1 rfl rfl hl.1 rfl (Nat.le_of_ble_eq_true rfl) ⟨by show cells + 1 + 0 ≤ 630713; omega, by show slots + 6 + 0 ≤ 7203965; omega⟩ dL_law_523 ?_
        refine W.eq (g2 := F0 m 526 ls [.int k]) rfl ?_
        refine lv_iload hx hb dL_law_526 (lv_at hl 1 rfl) ?_
        refine lv_icmp_eq (tgt := 533) hx hb dL_law_528 (by decide) (fun c_528 => ?_) (fun c_528 => ?_)
        · refine lv_iload hx hb dL_law_533 (lv_at hl 1 rfl) ?_
          refine lv_if_ne (tgt := 550) hx hb dL_law_535 (by decide) (fun c_535 => ?_) (fun c_535 => ?_)
          · refine lv_goto (tgt := 1425) hx hb dL_law_550 (by decide) ?_
            refine lv_iinc (v := (nI (i + 4))) (lv' := [(4, .int (nI (i + 4))), (6, .int v), (5, .int k), (0, .ref b), (1, .ref h0), (2, .ref m0), (3, .ref o)]) hx hb dL_law_1425 hl (k := 2) rfl (nI_add i 4) (by decide) rfl (fun ls hl => ?_)
            refine lv_goto (tgt := 23) hx hb dL_law_1428 (by decide) ?_
            exact ih (i + 4) σ1 g1 k _ _ _ _ (by omega) (by omega) (by omega) (by omega) ⟨f1, V2, hC1, hF2, hfs1, hfo1, hfm1, hat2, hM2, hW2⟩ hS2 ls (lv_sub hl [0, 3, 4, 5, 6] rfl)
          · refine lv_aload_n hx hb dL_law_538 rfl (lv_at hl 6 rfl) ?_
            refine lv_iconst (v := 0) hx hb dL_law_539 (by decide) ?_
            refine rn_lald hx hb hG4 hat2 3 rfl dL_law_540 ?_
            refine lv_iload hx hb dL_law_541 (lv_at hl 0 rfl) ?_
            refine lv_i2l hx hb dL_law_543 rfl ?_
            refine W.lcmp hx hb dL_law_544 ?_
            refine rn_top (y := .int 0) (by rw [hg1 c_535, rn_lcmp0]) ?_
            refine lv_if_eq (tgt := 550) hx hb dL_law_545 (by decide) (fun c_545 => ?_) (fun c_545 => ?_)
            · refine lv_goto (tgt := 1425) hx hb dL_law_550 (by decide) ?_
              refine lv_iinc (v := (nI (i + 4))) (lv' := [(4, .int (nI (i + 4))), (6, .int v), (5, .int k), (0, .ref b), (1, .ref h0), (2, .ref m0), (3, .ref o)]) hx hb dL_law_1425 hl (k := 2) rfl (nI_add i 4) (by decide) rfl (fun ls hl => ?_)
              refine lv_goto (tgt := 23) hx hb dL_law_1428 (by decide) ?_
              exact ih (i + 4) σ1 g1 k _ _ _ _ (by omega) (by omega) (by omega) (by omega) ⟨f1, V2, hC1, hF2, hfs1, hfo1, hfm1, hat2, hM2, hW2⟩ hS2 ls (lv_sub hl [0, 3, 4, 5, 6] rfl)
            · exact absurd c_545 (by decide)
        · exact absurd rfl c_528
      · refine lv_tableIn (off := 514) (tgt := 553) hx hb dL_law_39 (by omega) (by omega) (by rw [h9]; rfl) (by decide) ?_
        refine lv_aload_n hx hb dL_law_553 rfl (lv_at hl 2 rfl) ?_
        refine lv_aload_n hx hb dL_law_554 rfl (lv_at hl 1 rfl) ?_
        refine lv_iload hx hb dL_law_555 (lv_at hl 0 rfl) ?_
        refine lv_iconst (v := 1) hx hb dL_law_557 (by decide) ?_
        refine lv_iadd hx hb dL_law_558 ?_
        refine rn_top (y := .int (nI (i + 1))) (congrArg Value.int (nI_add i 1)) ?_
        refine rn_sld (j := (i + 1)) hx hb hX hbl hbA hS (by omega) hL dL_law_559 ?_
        refine lv_aload_n hx hb dL_law_560 rfl (lv_at hl 1 rfl) ?_
        refine lv_iload hx hb dL_law_561 (lv_at hl 0 rfl) ?_
        refine lv_iconst (v := 2) hx hb dL_law_563 (by decide) ?_
        refine lv_iadd hx hb dL_law_564 ?_
        refine rn_top (y := .int (nI (i + 2))) (congrArg Value.int (nI_add i 2)) ?_
        refine rn_sld (j := (i + 2)) hx hb hX hbl hbA hS (by omega) hL dL_law_565 ?_
        refine lv_aload_n hx hb dL_law_566 rfl (lv_at hl 4 rfl) ?_
        obtain ⟨f, V, hCe, hF, hfs, hfo, hfm, hat9, hM, hW⟩ := hI
        obtain ⟨hV, aR, aP, aF, ra, pa, fa, hd, dh, hC⟩ := id hCe
        obtain ⟨k, v, σ1, hLc, hMc⟩ := o_seenByLeading l hfl (D := D) (cL := cL) (g := g) (cI := cI) (m0 := m0) (ma := ma) hV hC hfo hM ((xs (i + 1))) ((xs (i + 2)))
        refine rn_wL (As := [.ref h0, .int (xs (i + 1)), .int (xs (i + 2)), .ref o]) (rest := []) 4 hx hb hml hown hts hG4 hE hS (fun q h => h) (hLc H.size) (fun q h => h.elim (fun h => by rw [h]; exact ho9) (fun h => h.elim (hfs q) (fun h => Nat.le_trans hS.1 h))) gL_law_L_seenByLeading rfl ⟨rfl, rfl⟩ (by decide +kernel) ⟨Nat.le_of_ble_eq_true rfl, Nat.le_of_ble_eq_true rfl⟩ ⟨hF, hat9⟩ rfl hl.1 rfl (Nat.le_of_ble_eq_true rfl) ⟨by show cells + 1 ≤ 630713; omega, by show slots + 6 ≤ 7203965; omega⟩ dL_law_567 (fun H1 locs1 hP1 hz1 hk1 hS1 => ?_)
        refine W.eq (g2 := F0 m 570 ls [.int k]) rfl ?_
        obtain ⟨f1, g1, hC1, hF1, hfs1, hfo1, hfm1, hg1, hat1, hW1⟩ := rn_I_next hfs hfo hfm hat9 hW hne hS.1 hP1 hk1
        refine lv_istore (lv' := [(5, .int k), (4, .int (nI i)), (0, .ref b), (1, .ref h0), (2, .ref m0), (3, .ref o)]) hx hb dL_law_570 hl (by decide) rfl (fun ls hl => ?_)
        refine lv_aload_n hx hb dL_law_572 rfl (lv_at hl 4 rfl) ?_
        refine lv_aload_n hx hb dL_law_573 rfl (lv_at hl 2 rfl) ?_
        refine lv_iload hx hb dL_law_574 (lv_at hl 1 rfl) ?_
        refine lv_iconst (v := 1) hx hb dL_law_576 (by decide) ?_
        refine lv_iadd hx hb dL_law_577 ?_
        refine rn_top (y := .int (nI (i + 1))) (congrArg Value.int (nI_add i 1)) ?_
        refine rn_sld (j := (i + 1)) hx hb hX hbl hbA hS1 (by omega) hL dL_law_578 ?_
        refine lv_aload_n hx hb dL_law_579 rfl (lv_at hl 2 rfl) ?_
        refine lv_iload hx hb dL_law_580 (lv_at hl 1 rfl) ?_
        refine lv_iconst (v := 2) hx hb dL_law_582 (by decide) ?_
        refine lv_iadd hx hb dL_law_583 ?_
        refine rn_top (y := .int (nI (i + 2))) (congrArg Value.int (nI_add i 2)) ?_
        refine rn_sld (j := (i + 2)) hx hb hX hbl hbA hS1 (by omega) hL dL_law_584 ?_
        refine rn_wV (As := [.int (xs (i + 1)), .int (xs (i + 2))]) (rest := []) 2 hx hb hml hown hts hG5 hS1 (hMc rf H1.size) (fun q h => (hne q h).2) gL_law_X5_seenByLeading rfl ⟨rfl, rfl⟩ (by decide +kernel) ⟨Nat.le_of_ble_eq_true rfl, Nat.le_of_ble_eq_true rfl⟩ hW1 hW1.1 rfl rfl hl.1 rfl (Nat.le_of_ble_eq_true rfl) ⟨by show cells + 1 + 0 ≤ 630713; omega, by show slots + 6 + 0 ≤ 7203965; omega⟩ dL_law_585 (fun H2 locs2 hP2 hz2 hk2 hS2 => ?_)
        refine W.eq (g2 := F0 m 588 ls [.int v]) rfl ?_
        obtain ⟨V2, hM2, hW2, hF2, hat2⟩ := rn_I_next2 hC1 hF1 hfs1 hfo1 hfm1 hat1 hne hP2 hk2
        refine lv_istore (lv' := [(6, .int v), (5, .int k), (4, .int (nI i)), (0, .ref b), (1, .ref h0), (2, .ref m0), (3, .ref o)]) hx hb dL_law_588 hl (by decide) rfl (fun ls hl => ?_)
        refine lv_aload_n hx hb dL_law_590 rfl (lv_at hl 5 rfl) ?_
        refine rn_cV (As := []) (rest := []) 0 hx hb hml hown hts hG5 (m_thrown l) gL_law_X5_thrown rfl ⟨rfl, rfl⟩ (by decide +kernel) ⟨Nat.le_of_ble_eq_true rfl, Nat.le_of_ble_eq_true rfl⟩ hW2 hW2.1 rfl rfl hl.1 rfl (Nat.le_of_ble_eq_true rfl) ⟨by show cells + 1 + 0 ≤ 630713; omega, by show slots + 6 + 0 ≤ 7203965; omega⟩ dL_law_591 ?_
        refine W.eq (g2 := F0 m 594 ls [.int k]) rfl ?_
        refine lv_iload hx hb dL_law_594 (lv_at hl 1 rfl) ?_
        refine lv_icmp_eq (tgt := 601) hx hb dL_law_596 (by decide) (fun c_596 => ?_) (fun c_596 => ?_)
        · refine lv_iload hx hb dL_law_601 (lv_at hl 1 rfl) ?_
          refine lv_if_ne (tgt := 618) hx hb dL_law_603 (by decide) (fun c_603 => ?_) (fun c_603 => ?_)
          · refine lv_goto (tgt := 1425) hx hb dL_law_618 (by decide) ?_
            refine lv_iinc (v := (nI (i + 4))) (lv' := [(4, .int (nI (i + 4))), (6, .int v), (5, .int k), (0, .ref b), (1, .ref h0), (2, .ref m0), (3, .ref o)]) hx hb dL_law_1425 hl (k := 2) rfl (nI_add i 4) (by decide) rfl (fun ls hl => ?_)
            refine lv_goto (tgt := 23) hx hb dL_law_1428 (by decide) ?_
            exact ih (i + 4) σ1 g1 k _ _ _ _ (by omega) (by omega) (by omega) (by omega) ⟨f1, V2, hC1, hF2, hfs1, hfo1, hfm1, hat2, hM2, hW2⟩ hS2 ls (lv_sub hl [0, 3, 4, 5, 6] rfl)
          · refine lv_aload_n hx hb dL_law_606 rfl (lv_at hl 6 rfl) ?_
            refine lv_iconst (v := 0) hx hb dL_law_607 (by decide) ?_
            refine rn_lald hx hb hG4 hat2 3 rfl dL_law_608 ?_
            refine lv_iload hx hb dL_law_609 (lv_at hl 0 rfl) ?_
            refine lv_i2l hx hb dL_law_611 rfl ?_
            refine W.lcmp hx hb dL_law_612 ?_
            refine rn_top (y := .int 0) (by rw [hg1 c_603, rn_lcmp0]) ?_
            refine lv_if_eq (tgt := 618) hx hb dL_law_613 (by decide) (fun c_613 => ?_) (fun c_613 => ?_)
            · refine lv_goto (tgt := 1425) hx hb dL_law_618 (by decide) ?_
              refine lv_iinc (v := (nI (i + 4))) (lv' := [(4, .int (nI (i + 4))), (6, .int v), (5, .int k), (0, .ref b), (1, .ref h0), (2, .ref m0), (3, .ref o)]) hx hb dL_law_1425 hl (k := 2) rfl (nI_add i 4) (by decide) rfl (fun ls hl => ?_)
              refine lv_goto (tgt := 23) hx hb dL_law_1428 (by decide) ?_
              exact ih (i + 4) σ1 g1 k _ _ _ _ (by omega) (by omega) (by omega) (by omega) ⟨f1, V2, hC1, hF2, hfs1, hfo1, hfm1, hat2, hM2, hW2⟩ hS2 ls (lv_sub hl [0, 3, 4, 5, 6] rfl)
            · exact absurd c_613 (by decide)
        · exact absurd rfl c_596
      · refine lv_tableIn (off := 582) (tgt := 621) hx hb dL_law_39 (by omega) (by omega) (by rw [h9]; rfl) (by decide) ?_
        refine lv_aload_n hx hb dL_law_621 rfl (lv_at hl 2 rfl) ?_
        refine lv_aload_n hx hb dL_law_622 rfl (lv_at hl 1 rfl) ?_
        refine lv_iload hx hb dL_law_623 (lv_at hl 0 rfl) ?_
        refine lv_iconst (v := 1) hx hb dL_law_625 (by decide) ?_
        refine lv_iadd hx hb dL_law_626 ?_
        refine rn_top (y := .int (nI (i + 1))) (congrArg Value.int (nI_add i 1)) ?_
        refine rn_sld (j := (i + 1)) hx hb hX hbl hbA hS (by omega) hL dL_law_627 ?_
        refine lv_aload_n hx hb dL_law_628 rfl (lv_at hl 4 rfl) ?_
        obtain ⟨f, V, hCe, hF, hfs, hfo, hfm, hat9, hM, hW⟩ := hI
        obtain ⟨hV, aR, aP, aF, ra, pa, fa, hd, dh, hC⟩ := id hCe
        obtain ⟨k, v, σ1, hLc, hMc⟩ := o_fork l hfl (D := D) (cL := cL) (g := g) (cI := cI) (m0 := m0) (ma := ma) hV hC hfo hM ((xs (i + 1)))
        refine rn_wL (As := [.ref h0, .int (xs (i + 1)), .ref o]) (rest := []) 3 hx hb hml hown hts hG4 hE hS (fun q h => h) (hLc H.size) (fun q h => h.elim (fun h => by rw [h]; exact ho9) (fun h => h.elim (hfs q) (fun h => Nat.le_trans hS.1 h))) gL_law_L_fork rfl ⟨rfl, rfl⟩ (by decide +kernel) ⟨Nat.le_of_ble_eq_true rfl, Nat.le_of_ble_eq_true rfl⟩ ⟨hF, hat9⟩ rfl hl.1 rfl (Nat.le_of_ble_eq_true rfl) ⟨by show cells + 1 ≤ 630713; omega, by show slots + 6 ≤ 7203965; omega⟩ dL_law_629 (fun H1 locs1 hP1 hz1 hk1 hS1 => ?_)
        refine W.eq (g2 := F0 m 632 ls [.int k]) rfl ?_
        obtain ⟨f1, g1, hC1, hF1, hfs1, hfo1, hfm1, hg1, hat1, hW1⟩ := rn_I_next hfs hfo hfm hat9 hW hne hS.1 hP1 hk1
        refine lv_istore (lv' := [(5, .int k), (4, .int (nI i)), (0, .ref b), (1, .ref h0), (2, .ref m0), (3, .ref o)]) hx hb dL_law_632 hl (by decide) rfl (fun ls hl => ?_)
        refine lv_aload_n hx hb dL_law_634 rfl (lv_at hl 4 rfl) ?_
        refine lv_aload_n hx hb dL_law_635 rfl (lv_at hl 2 rfl) ?_
        refine lv_iload hx hb dL_law_636 (lv_at hl 1 rfl) ?_
        refine lv_iconst (v := 1) hx hb dL_law_638 (by decide) ?_
        refine lv_iadd hx hb dL_law_639 ?_
        refine rn_top (y := .int (nI (i + 1))) (congrArg Value.int (nI_add i 1)) ?_
        refine rn_sld (j := (i + 1)) hx hb hX hbl hbA hS1 (by omega) hL dL_law_640 ?_
        refine rn_wV (As := [.int (xs (i + 1))]) (rest := []) 1 hx hb hml hown hts hG5 hS1 (hMc rf H1.size) (fun q h => (hne q h).2) gL_law_X5_fork rfl ⟨rfl, rfl⟩ (by decide +kernel) ⟨Nat.le_of_ble_eq_true rfl, Nat.le_of_ble_eq_true rfl⟩ hW1 hW1.1 rfl rfl hl.1 rfl (Nat.le_of_ble_eq_true rfl) ⟨by show cells + 1 + 0 ≤ 630713; omega, by show slots + 6 + 0 ≤ 7203965; omega⟩ dL_law_641 (fun H2 locs2 hP2 hz2 hk2 hS2 => ?_)
        refine W.eq (g2 := F0 m 644 ls [.int v]) rfl ?_
        obtain ⟨V2, hM2, hW2, hF2, hat2⟩ := rn_I_next2 hC1 hF1 hfs1 hfo1 hfm1 hat1 hne hP2 hk2
        refine lv_istore (lv' := [(6, .int v), (5, .int k), (4, .int (nI i)), (0, .ref b), (1, .ref h0), (2, .ref m0), (3, .ref o)]) hx hb dL_law_644 hl (by decide) rfl (fun ls hl => ?_)
        refine lv_aload_n hx hb dL_law_646 rfl (lv_at hl 5 rfl) ?_
        refine rn_cV (As := []) (rest := []) 0 hx hb hml hown hts hG5 (m_thrown l) gL_law_X5_thrown rfl ⟨rfl, rfl⟩ (by decide +kernel) ⟨Nat.le_of_ble_eq_true rfl, Nat.le_of_ble_eq_true rfl⟩ hW2 hW2.1 rfl rfl hl.1 rfl (Nat.le_of_ble_eq_true rfl) ⟨by show cells + 1 + 0 ≤ 630713; omega, by show slots + 6 + 0 ≤ 7203965; omega⟩ dL_law_647 ?_
        refine W.eq (g2 := F0 m 650 ls [.int k]) rfl ?_
        refine lv_iload hx hb dL_law_650 (lv_at hl 1 rfl) ?_
        refine lv_icmp_eq (tgt := 657) hx hb dL_law_652 (by decide) (fun c_652 => ?_) (fun c_652 => ?_)
        · refine lv_iload hx hb dL_law_657 (lv_at hl 1 rfl) ?_
          refine lv_if_ne (tgt := 674) hx hb dL_law_659 (by decide) (fun c_659 => ?_) (fun c_659 => ?_)
          · refine lv_goto (tgt := 1425) hx hb dL_law_674 (by decide) ?_
            refine lv_iinc (v := (nI (i + 4))) (lv' := [(4, .int (nI (i + 4))), (6, .int v), (5, .int k), (0, .ref b), (1, .ref h0), (2, .ref m0), (3, .ref o)]) hx hb dL_law_1425 hl (k := 2) rfl (nI_add i 4) (by decide) rfl (fun ls hl => ?_)
            refine lv_goto (tgt := 23) hx hb dL_law_1428 (by decide) ?_
            exact ih (i + 4) σ1 g1 k _ _ _ _ (by omega) (by omega) (by omega) (by omega) ⟨f1, V2, hC1, hF2, hfs1, hfo1, hfm1, hat2, hM2, hW2⟩ hS2 ls (lv_sub hl [0, 3, 4, 5, 6] rfl)
          · refine lv_aload_n hx hb dL_law_662 rfl (lv_at hl 6 rfl) ?_
            refine lv_iconst (v := 0) hx hb dL_law_663 (by decide) ?_
            refine rn_lald hx hb hG4 hat2 3 rfl dL_law_664 ?_
            refine lv_iload hx hb dL_law_665 (lv_at hl 0 rfl) ?_
            refine lv_i2l hx hb dL_law_667 rfl ?_
            refine W.lcmp hx hb dL_law_668 ?_
            refine rn_top (y := .int 0) (by rw [hg1 c_659, rn_lcmp0]) ?_
            refine lv_if_eq (tgt := 674) hx hb dL_law_669 (by decide) (fun c_669 => ?_) (fun c_669 => ?_)
            · refine lv_goto (tgt := 1425) hx hb dL_law_674 (by decide) ?_
              refine lv_iinc (v := (nI (i + 4))) (lv' := [(4, .int (nI (i + 4))), (6, .int v), (5, .int k), (0, .ref b), (1, .ref h0), (2, .ref m0), (3, .ref o)]) hx hb dL_law_1425 hl (k := 2) rfl (nI_add i 4) (by decide) rfl (fun ls hl => ?_)
              refine lv_goto (tgt := 23) hx hb dL_law_1428 (by decide) ?_
              exact ih (i + 4) σ1 g1 k _ _ _ _ (by omega) (by omega) (by omega) (by omega) ⟨f1, V2, hC1, hF2, hfs1, hfo1, hfm1, hat2, hM2, hW2⟩ hS2 ls (lv_sub hl [0, 3, 4, 5, 6] rfl)
            · exact absurd c_669 (by decide)
        · exact absurd rfl c_652
      · refine lv_tableIn (off := 638) (tgt := 677) hx hb dL_law_39 (by omega) (by omega) (by rw [h9]; rfl) (by decide) ?_
        refine lv_aload_n hx hb dL_law_677 rfl (lv_at hl 2 rfl) ?_
        refine lv_aload_n hx hb dL_law_678 rfl (lv_at hl 1 rfl) ?_
        refine lv_iload hx hb dL_law_679 (lv_at hl 0 rfl) ?_
        refine lv_iconst (v := 1) hx hb dL_law_681 (by decide) ?_
        refine lv_iadd hx hb dL_law_682 ?_
        refine rn_top (y := .int (nI (i + 1))) (congrArg Value.int (nI_add i 1)) ?_
        refine rn_sld (j := (i + 1)) hx hb hX hbl hbA hS (by omega) hL dL_law_683 ?_
        refine lv_aload_n hx hb dL_law_684 rfl (lv_at hl 1 rfl) ?_
        refine lv_iload hx hb dL_law_685 (lv_at hl 0 rfl) ?_
        refine lv_iconst (v := 2) hx hb dL_law_687 (by decide) ?_
        refine lv_iadd hx hb dL_law_688 ?_
        refine rn_top (y := .int (nI (i + 2))) (congrArg Value.int (nI_add i 2)) ?_
        refine rn_sld (j := (i + 2)) hx hb hX hbl hbA hS (by omega) hL dL_law_689 ?_
        refine lv_aload_n hx hb dL_law_690 rfl (lv_at hl 4 rfl) ?_
        obtain ⟨f, V, hCe, hF, hfs, hfo, hfm, hat9, hM, hW⟩ := hI
        obtain ⟨hV, aR, aP, aF, ra, pa, fa, hd, dh, hC⟩ := id hCe
        obtain ⟨k, v, σ1, hLc, hMc⟩ := o_drop l hfl (D := D) (cL := cL) (g := g) (cI := cI) (m0 := m0) (ma := ma) hV hC hfo hM ((xs (i + 1))) ((xs (i + 2)))
        refine rn_wL (As := [.ref h0, .int (xs (i + 1)), .int (xs (i + 2)), .ref o]) (rest := []) 4 hx hb hml hown hts hG4 hE hS (fun q h => h) (hLc H.size) (fun q h => h.elim (fun h => by rw [h]; exact ho9) (fun h => h.elim (hfs q) (fun h => Nat.le_trans hS.1 h))) gL_law_L_drop rfl ⟨rfl, rfl⟩ (by decide +kernel) ⟨Nat.le_of_ble_eq_true rfl, Nat.le_of_ble_eq_true rfl⟩ ⟨hF, hat9⟩ rfl hl.1 rfl (Nat.le_of_ble_eq_true rfl) ⟨by show cells + 1 ≤ 630713; omega, by show slots + 6 ≤ 7203965; omega⟩ dL_law_691 (fun H1 locs1 hP1 hz1 hk1 hS1 => ?_)
        refine W.eq (g2 := F0 m 694 ls [.int k]) rfl ?_
        obtain ⟨f1, g1, hC1, hF1, hfs1, hfo1, hfm1, hg1, hat1, hW1⟩ := rn_I_next hfs hfo hfm hat9 hW hne hS.1 hP1 hk1
        refine lv_istore (lv' := [(5, .int k), (4, .int (nI i)), (0, .ref b), (1, .ref h0), (2, .ref m0), (3, .ref o)]) hx hb dL_law_694 hl (by decide) rfl (fun ls hl => ?_)
        refine lv_aload_n hx hb dL_law_696 rfl (lv_at hl 4 rfl) ?_
        refine lv_aload_n hx hb dL_law_697 rfl (lv_at hl 2 rfl) ?_
        refine lv_iload hx hb dL_law_698 (lv_at hl 1 rfl) ?_
        refine lv_iconst (v := 1) hx hb dL_law_700 (by decide) ?_
        refine lv_iadd hx hb dL_law_701 ?_
        refine rn_top (y := .int (nI (i + 1))) (congrArg Value.int (nI_add i 1)) ?_
        refine rn_sld (j := (i + 1)) hx hb hX hbl hbA hS1 (by omega) hL dL_law_702 ?_
        refine lv_aload_n hx hb dL_law_703 rfl (lv_at hl 2 rfl) ?_
        refine lv_iload hx hb dL_law_704 (lv_at hl 1 rfl) ?_
        refine lv_iconst (v := 2) hx hb dL_law_706 (by decide) ?_
        refine lv_iadd hx hb dL_law_707 ?_
        refine rn_top (y := .int (nI (i + 2))) (congrArg Value.int (nI_add i 2)) ?_
        refine rn_sld (j := (i + 2)) hx hb hX hbl hbA hS1 (by omega) hL dL_law_708 ?_
        refine rn_wV (As := [.int (xs (i + 1)), .int (xs (i + 2))]) (rest := []) 2 hx hb hml hown hts hG5 hS1 (hMc rf H1.size) (fun q h => (hne q h).2) gL_law_X5_drop rfl ⟨rfl, rfl⟩ (by decide +kernel) ⟨Nat.le_of_ble_eq_true rfl, Nat.le_of_ble_eq_true rfl⟩ hW1 hW1.1 rfl rfl hl.1 rfl (Nat.le_of_ble_eq_true rfl) ⟨by show cells + 1 + 0 ≤ 630713; omega, by show slots + 6 + 0 ≤ 7203965; omega⟩ dL_law_709 (fun H2 locs2 hP2 hz2 hk2 hS2 => ?_)
        refine W.eq (g2 := F0 m 712 ls [.int v]) rfl ?_
        obtain ⟨V2, hM2, hW2, hF2, hat2⟩ := rn_I_next2 hC1 hF1 hfs1 hfo1 hfm1 hat1 hne hP2 hk2
        refine lv_istore (lv' := [(6, .int v), (5, .int k), (4, .int (nI i)), (0, .ref b), (1, .ref h0), (2, .ref m0), (3, .ref o)]) hx hb dL_law_712 hl (by decide) rfl (fun ls hl => ?_)
        refine lv_aload_n hx hb dL_law_714 rfl (lv_at hl 5 rfl) ?_
        refine rn_cV (As := []) (rest := []) 0 hx hb hml hown hts hG5 (m_thrown l) gL_law_X5_thrown rfl ⟨rfl, rfl⟩ (by decide +kernel) ⟨Nat.le_of_ble_eq_true rfl, Nat.le_of_ble_eq_true rfl⟩ hW2 hW2.1 rfl rfl hl.1 rfl (Nat.le_of_ble_eq_true rfl) ⟨by show cells + 1 + 0 ≤ 630713; omega, by show slots + 6 + 0 ≤ 7203965; omega⟩ dL_law_715 ?_
        refine W.eq (g2 := F0 m 718 ls [.int k]) rfl ?_
        refine lv_iload hx hb dL_law_718 (lv_at hl 1 rfl) ?_
        refine lv_icmp_eq (tgt := 725) hx hb dL_law_720 (by decide) (fun c_720 => ?_) (fun c_720 => ?_)
        · refine lv_iload hx hb dL_law_725 (lv_at hl 1 rfl) ?_
          refine lv_if_ne (tgt := 742) hx hb dL_law_727 (by decide) (fun c_727 => ?_) (fun c_727 => ?_)
          · refine lv_goto (tgt := 1425) hx hb dL_law_742 (by decide) ?_
            refine lv_iinc (v := (nI (i + 4))) (lv' := [(4, .int (nI (i + 4))), (6, .int v), (5, .int k), (0, .ref b), (1, .ref h0), (2, .ref m0), (3, .ref o)]) hx hb dL_law_1425 hl (k := 2) rfl (nI_add i 4) (by decide) rfl (fun ls hl => ?_)
            refine lv_goto (tgt := 23) hx hb dL_law_1428 (by decide) ?_
            exact ih (i + 4) σ1 g1 k _ _ _ _ (by omega) (by omega) (by omega) (by omega) ⟨f1, V2, hC1, hF2, hfs1, hfo1, hfm1, hat2, hM2, hW2⟩ hS2 ls (lv_sub hl [0, 3, 4, 5, 6] rfl)
          · refine lv_aload_n hx hb dL_law_730 rfl (lv_at hl 6 rfl) ?_
            refine lv_iconst (v := 0) hx hb dL_law_731 (by decide) ?_
            refine rn_lald hx hb hG4 hat2 3 rfl dL_law_732 ?_
            refine lv_iload hx hb dL_law_733 (lv_at hl 0 rfl) ?_
            refine lv_i2l hx hb dL_law_735 rfl ?_
            refine W.lcmp hx hb dL_law_736 ?_
            refine rn_top (y := .int 0) (by rw [hg1 c_727, rn_lcmp0]) ?_
            refine lv_if_eq (tgt := 742) hx hb dL_law_737 (by decide) (fun c_737 => ?_) (fun c_737 => ?_)
            · refine lv_goto (tgt := 1425) hx hb dL_law_742 (by decide) ?_
              refine lv_iinc (v := (nI (i + 4))) (lv' := [(4, .int (nI (i + 4))), (6, .int v), (5, .int k), (0, .ref b), (1, .ref h0), (2, .ref m0), (3, .ref o)]) hx hb dL_law_1425 hl (k := 2) rfl (nI_add i 4) (by decide) rfl (fun ls hl => ?_)
              refine lv_goto (tgt := 23) hx hb dL_law_1428 (by decide) ?_
              exact ih (i + 4) σ1 g1 k _ _ _ _ (by omega) (by omega) (by omega) (by omega) ⟨f1, V2, hC1, hF2, hfs1, hfo1, hfm1, hat2, hM2, hW2⟩ hS2 ls (lv_sub hl [0, 3, 4, 5, 6] rfl)
            · exact absurd c_737 (by decide)
        · exact absurd rfl c_720
      · refine lv_tableIn (off := 706) (tgt := 745) hx hb dL_law_39 (by omega) (by omega) (by rw [h9]; rfl) (by decide) ?_
        refine lv_aload_n hx hb dL_law_745 rfl (lv_at hl 2 rfl) ?_
        refine lv_aload_n hx hb dL_law_746 rfl (lv_at hl 1 rfl) ?_
        refine lv_iload hx hb dL_law_747 (lv_at hl 0 rfl) ?_
        refine lv_iconst (v := 1) hx hb dL_law_749 (by decide) ?_
        refine lv_iadd hx hb dL_law_750 ?_
        refine rn_top (y := .int (nI (i + 1))) (congrArg Value.int (nI_add i 1)) ?_
        refine rn_sld (j := (i + 1)) hx hb hX hbl hbA hS (by omega) hL dL_law_751 ?_
        refine lv_aload_n hx hb dL_law_752 rfl (lv_at hl 1 rfl) ?_
        refine lv_iload hx hb dL_law_753 (lv_at hl 0 rfl) ?_
        refine lv_iconst (v := 2) hx hb dL_law_755 (by decide) ?_
        refine lv_iadd hx hb dL_law_756 ?_
        refine rn_top (y := .int (nI (i + 2))) (congrArg Value.int (nI_add i 2)) ?_
        refine rn_sld (j := (i + 2)) hx hb hX hbl hbA hS (by omega) hL dL_law_757 ?_
        refine lv_aload_n hx hb dL_law_758 rfl (lv_at hl 4 rfl) ?_
        obtain ⟨f, V, hCe, hF, hfs, hfo, hfm, hat9, hM, hW⟩ := hI
        obtain ⟨hV, aR, aP, aF, ra, pa, fa, hd, dh, hC⟩ := id hCe
        obtain ⟨k, v, σ1, hLc, hMc⟩ := o_enter l hfl (D := D) (cL := cL) (g := g) (cI := cI) (m0 := m0) (ma := ma) hV hC hfo hM ((xs (i + 1))) ((xs (i + 2)))
        refine rn_wL (As := [.ref h0, .int (xs (i + 1)), .int (xs (i + 2)), .ref o]) (rest := []) 4 hx hb hml hown hts hG4 hE hS (fun q h => h) (hLc H.size) (fun q h => h.elim (fun h => by rw [h]; exact ho9) (fun h => h.elim (hfs q) (fun h => Nat.le_trans hS.1 h))) gL_law_L_enter rfl ⟨rfl, rfl⟩ (by decide +kernel) ⟨Nat.le_of_ble_eq_true rfl, Nat.le_of_ble_eq_true rfl⟩ ⟨hF, hat9⟩ rfl hl.1 rfl (Nat.le_of_ble_eq_true rfl) ⟨by show cells + 1 ≤ 630713; omega, by show slots + 6 ≤ 7203965; omega⟩ dL_law_759 (fun H1 locs1 hP1 hz1 hk1 hS1 => ?_)
        refine W.eq (g2 := F0 m 762 ls [.int k]) rfl ?_
        obtain ⟨f1, g1, hC1, hF1, hfs1, hfo1, hfm1, hg1, hat1, hW1⟩ := rn_I_next hfs hfo hfm hat9 hW hne hS.1 hP1 hk1
        refine lv_istore (lv' := [(5, .int k), (4, .int (nI i)), (0, .ref b), (1, .ref h0), (2, .ref m0), (3, .ref o)]) hx hb dL_law_762 hl (by decide) rfl (fun ls hl => ?_)
        refine lv_aload_n hx hb dL_law_764 rfl (lv_at hl 4 rfl) ?_
        refine lv_aload_n hx hb dL_law_765 rfl (lv_at hl 2 rfl) ?_
        refine lv_iload hx hb dL_law_766 (lv_at hl 1 rfl) ?_
        refine lv_iconst (v := 1) hx hb dL_law_768 (by decide) ?_
        refine lv_iadd hx hb dL_law_769 ?_
        refine rn_top (y := .int (nI (i + 1))) (congrArg Value.int (nI_add i 1)) ?_
        refine rn_sld (j := (i + 1)) hx hb hX hbl hbA hS1 (by omega) hL dL_law_770 ?_
        refine lv_aload_n hx hb dL_law_771 rfl (lv_at hl 2 rfl) ?_
        refine lv_iload hx hb dL_law_772 (lv_at hl 1 rfl) ?_
        refine lv_iconst (v := 2) hx hb dL_law_774 (by decide) ?_
        refine lv_iadd hx hb dL_law_775 ?_
        refine rn_top (y := .int (nI (i + 2))) (congrArg Value.int (nI_add i 2)) ?_
        refine rn_sld (j := (i + 2)) hx hb hX hbl hbA hS1 (by omega) hL dL_law_776 ?_
        refine rn_wV (As := [.int (xs (i + 1)), .int (xs (i + 2))]) (rest := []) 2 hx hb hml hown hts hG5 hS1 (hMc rf H1.size) (fun q h => (hne q h).2) gL_law_X5_enter rfl ⟨rfl, rfl⟩ (by decide +kernel) ⟨Nat.le_of_ble_eq_true rfl, Nat.le_of_ble_eq_true rfl⟩ hW1 hW1.1 rfl rfl hl.1 rfl (Nat.le_of_ble_eq_true rfl) ⟨by show cells + 1 + 0 ≤ 630713; omega, by show slots + 6 + 0 ≤ 7203965; omega⟩ dL_law_777 (fun H2 locs2 hP2 hz2 hk2 hS2 => ?_)
        refine W.eq (g2 := F0 m 780 ls [.int v]) rfl ?_
        obtain ⟨V2, hM2, hW2, hF2, hat2⟩ := rn_I_next2 hC1 hF1 hfs1 hfo1 hfm1 hat1 hne hP2 hk2
        refine lv_istore (lv' := [(6, .int v), (5, .int k), (4, .int (nI i)), (0, .ref b), (1, .ref h0), (2, .ref m0), (3, .ref o)]) hx hb dL_law_780 hl (by decide) rfl (fun ls hl => ?_)
        refine lv_aload_n hx hb dL_law_782 rfl (lv_at hl 5 rfl) ?_
        refine rn_cV (As := []) (rest := []) 0 hx hb hml hown hts hG5 (m_thrown l) gL_law_X5_thrown rfl ⟨rfl, rfl⟩ (by decide +kernel) ⟨Nat.le_of_ble_eq_true rfl, Nat.le_of_ble_eq_true rfl⟩ hW2 hW2.1 rfl rfl hl.1 rfl (Nat.le_of_ble_eq_true rfl) ⟨by show cells + 1 + 0 ≤ 630713; omega, by show slots + 6 + 0 ≤ 7203965; omega⟩ dL_law_783 ?_
        refine W.eq (g2 := F0 m 786 ls [.int k]) rfl ?_
        refine lv_iload hx hb dL_law_786 (lv_at hl 1 rfl) ?_
        refine lv_icmp_eq (tgt := 793) hx hb dL_law_788 (by decide) (fun c_788 => ?_) (fun c_788 => ?_)
        · refine lv_iload hx hb dL_law_793 (lv_at hl 1 rfl) ?_
          refine lv_if_ne (tgt := 810) hx hb dL_law_795 (by decide) (fun c_795 => ?_) (fun c_795 => ?_)
          · refine lv_goto (tgt := 1425) hx hb dL_law_810 (by decide) ?_
            refine lv_iinc (v := (nI (i + 4))) (lv' := [(4, .int (nI (i + 4))), (6, .int v), (5, .int k), (0, .ref b), (1, .ref h0), (2, .ref m0), (3, .ref o)]) hx hb dL_law_1425 hl (k := 2) rfl (nI_add i 4) (by decide) rfl (fun ls hl => ?_)
            refine lv_goto (tgt := 23) hx hb dL_law_1428 (by decide) ?_
            exact ih (i + 4) σ1 g1 k _ _ _ _ (by omega) (by omega) (by omega) (by omega) ⟨f1, V2, hC1, hF2, hfs1, hfo1, hfm1, hat2, hM2, hW2⟩ hS2 ls (lv_sub hl [0, 3, 4, 5, 6] rfl)
          · refine lv_aload_n hx hb dL_law_798 rfl (lv_at hl 6 rfl) ?_
            refine lv_iconst (v := 0) hx hb dL_law_799 (by decide) ?_
            refine rn_lald hx hb hG4 hat2 3 rfl dL_law_800 ?_
            refine lv_iload hx hb dL_law_801 (lv_at hl 0 rfl) ?_
            refine lv_i2l hx hb dL_law_803 rfl ?_
            refine W.lcmp hx hb dL_law_804 ?_
            refine rn_top (y := .int 0) (by rw [hg1 c_795, rn_lcmp0]) ?_
            refine lv_if_eq (tgt := 810) hx hb dL_law_805 (by decide) (fun c_805 => ?_) (fun c_805 => ?_)
            · refine lv_goto (tgt := 1425) hx hb dL_law_810 (by decide) ?_
              refine lv_iinc (v := (nI (i + 4))) (lv' := [(4, .int (nI (i + 4))), (6, .int v), (5, .int k), (0, .ref b), (1, .ref h0), (2, .ref m0), (3, .ref o)]) hx hb dL_law_1425 hl (k := 2) rfl (nI_add i 4) (by decide) rfl (fun ls hl => ?_)
              refine lv_goto (tgt := 23) hx hb dL_law_1428 (by decide) ?_
              exact ih (i + 4) σ1 g1 k _ _ _ _ (by omega) (by omega) (by omega) (by omega) ⟨f1, V2, hC1, hF2, hfs1, hfo1, hfm1, hat2, hM2, hW2⟩ hS2 ls (lv_sub hl [0, 3, 4, 5, 6] rfl)
            · exact absurd c_805 (by decide)
        · exact absurd rfl c_788
      · refine lv_tableIn (off := 774) (tgt := 813) hx hb dL_law_39 (by omega) (by omega) (by rw [h9]; rfl) (by decide) ?_
        refine lv_aload_n hx hb dL_law_813 rfl (lv_at hl 2 rfl) ?_
        refine lv_aload_n hx hb dL_law_814 rfl (lv_at hl 1 rfl) ?_
        refine lv_iload hx hb dL_law_815 (lv_at hl 0 rfl) ?_
        refine lv_iconst (v := 1) hx hb dL_law_817 (by decide) ?_
        refine lv_iadd hx hb dL_law_818 ?_
        refine rn_top (y := .int (nI (i + 1))) (congrArg Value.int (nI_add i 1)) ?_
        refine rn_sld (j := (i + 1)) hx hb hX hbl hbA hS (by omega) hL dL_law_819 ?_
        refine lv_aload_n hx hb dL_law_820 rfl (lv_at hl 1 rfl) ?_
        refine lv_iload hx hb dL_law_821 (lv_at hl 0 rfl) ?_
        refine lv_iconst (v := 2) hx hb dL_law_823 (by decide) ?_
        refine lv_iadd hx hb dL_law_824 ?_
        refine rn_top (y := .int (nI (i + 2))) (congrArg Value.int (nI_add i 2)) ?_
        refine rn_sld (j := (i + 2)) hx hb hX hbl hbA hS (by omega) hL dL_law_825 ?_
        refine lv_aload_n hx hb dL_law_826 rfl (lv_at hl 4 rfl) ?_
        obtain ⟨f, V, hCe, hF, hfs, hfo, hfm, hat9, hM, hW⟩ := hI
        obtain ⟨hV, aR, aP, aF, ra, pa, fa, hd, dh, hC⟩ := id hCe
        obtain ⟨k, v, σ1, hLc, hMc⟩ := o_setNumber l hfl (D := D) (cL := cL) (g := g) (cI := cI) (m0 := m0) (ma := ma) hV hC hfo hM ((xs (i + 1))) ((xs (i + 2)))
        refine rn_wL (As := [.ref h0, .int (xs (i + 1)), .int (xs (i + 2)), .ref o]) (rest := []) 4 hx hb hml hown hts hG4 hE hS (fun q h => h) (hLc H.size) (fun q h => h.elim (fun h => by rw [h]; exact ho9) (fun h => h.elim (hfs q) (fun h => Nat.le_trans hS.1 h))) gL_law_L_setNumber rfl ⟨rfl, rfl⟩ (by decide +kernel) ⟨Nat.le_of_ble_eq_true rfl, Nat.le_of_ble_eq_true rfl⟩ ⟨hF, hat9⟩ rfl hl.1 rfl (Nat.le_of_ble_eq_true rfl) ⟨by show cells + 1 ≤ 630713; omega, by show slots + 6 ≤ 7203965; omega⟩ dL_law_827 (fun H1 locs1 hP1 hz1 hk1 hS1 => ?_)
        refine W.eq (g2 := F0 m 830 ls [.int k]) rfl ?_
        obtain ⟨f1, g1, hC1, hF1, hfs1, hfo1, hfm1, hg1, hat1, hW1⟩ := rn_I_next hfs hfo hfm hat9 hW hne hS.1 hP1 hk1
        refine lv_istore (lv' := [(5, .int k), (4, .int (nI i)), (0, .ref b), (1, .ref h0), (2, .ref m0), (3, .ref o)]) hx hb dL_law_830 hl (by decide) rfl (fun ls hl => ?_)
        refine lv_aload_n hx hb dL_law_832 rfl (lv_at hl 4 rfl) ?_
        refine lv_aload_n hx hb dL_law_833 rfl (lv_at hl 2 rfl) ?_
        refine lv_iload hx hb dL_law_834 (lv_at hl 1 rfl) ?_
        refine lv_iconst (v := 1) hx hb dL_law_836 (by decide) ?_
        refine lv_iadd hx hb dL_law_837 ?_
        refine rn_top (y := .int (nI (i + 1))) (congrArg Value.int (nI_add i 1)) ?_
        refine rn_sld (j := (i + 1)) hx hb hX hbl hbA hS1 (by omega) hL dL_law_838 ?_
        refine lv_aload_n hx hb dL_law_839 rfl (lv_at hl 2 rfl) ?_
        refine lv_iload hx hb dL_law_840 (lv_at hl 1 rfl) ?_
        refine lv_iconst (v := 2) hx hb dL_law_842 (by decide) ?_
        refine lv_iadd hx hb dL_law_843 ?_
        refine rn_top (y := .int (nI (i + 2))) (congrArg Value.int (nI_add i 2)) ?_
        refine rn_sld (j := (i + 2)) hx hb hX hbl hbA hS1 (by omega) hL dL_law_844 ?_
        refine rn_wV (As := [.int (xs (i + 1)), .int (xs (i + 2))]) (rest := []) 2 hx hb hml hown hts hG5 hS1 (hMc rf H1.size) (fun q h => (hne q h).2) gL_law_X5_setNumber rfl ⟨rfl, rfl⟩ (by decide +kernel) ⟨Nat.le_of_ble_eq_true rfl, Nat.le_of_ble_eq_true rfl⟩ hW1 hW1.1 rfl rfl hl.1 rfl (Nat.le_of_ble_eq_true rfl) ⟨by show cells + 1 + 0 ≤ 630713; omega, by show slots + 6 + 0 ≤ 7203965; omega⟩ dL_law_845 (fun H2 locs2 hP2 hz2 hk2 hS2 => ?_)
        refine W.eq (g2 := F0 m 848 ls [.int v]) rfl ?_
        obtain ⟨V2, hM2, hW2, hF2, hat2⟩ := rn_I_next2 hC1 hF1 hfs1 hfo1 hfm1 hat1 hne hP2 hk2
        refine lv_istore (lv' := [(6, .int v), (5, .int k), (4, .int (nI i)), (0, .ref b), (1, .ref h0), (2, .ref m0), (3, .ref o)]) hx hb dL_law_848 hl (by decide) rfl (fun ls hl => ?_)
        refine lv_aload_n hx hb dL_law_850 rfl (lv_at hl 5 rfl) ?_
        refine rn_cV (As := []) (rest := []) 0 hx hb hml hown hts hG5 (m_thrown l) gL_law_X5_thrown rfl ⟨rfl, rfl⟩ (by decide +kernel) ⟨Nat.le_of_ble_eq_true rfl, Nat.le_of_ble_eq_true rfl⟩ hW2 hW2.1 rfl rfl hl.1 rfl (Nat.le_of_ble_eq_true rfl) ⟨by show cells + 1 + 0 ≤ 630713; omega, by show slots + 6 + 0 ≤ 7203965; omega⟩ dL_law_851 ?_
        refine W.eq (g2 := F0 m 854 ls [.int k]) rfl ?_
        refine lv_iload hx hb dL_law_854 (lv_at hl 1 rfl) ?_
        refine lv_icmp_eq (tgt := 861) hx hb dL_law_856 (by decide) (fun c_856 => ?_) (fun c_856 => ?_)
        · refine lv_iload hx hb dL_law_861 (lv_at hl 1 rfl) ?_
          refine lv_if_ne (tgt := 878) hx hb dL_law_863 (by decide) (fun c_863 => ?_) (fun c_863 => ?_)
          · refine lv_goto (tgt := 1425) hx hb dL_law_878 (by decide) ?_
            refine lv_iinc (v := (nI (i + 4))) (lv' := [(4, .int (nI (i + 4))), (6, .int v), (5, .int k), (0, .ref b), (1, .ref h0), (2, .ref m0), (3, .ref o)]) hx hb dL_law_1425 hl (k := 2) rfl (nI_add i 4) (by decide) rfl (fun ls hl => ?_)
            refine lv_goto (tgt := 23) hx hb dL_law_1428 (by decide) ?_
            exact ih (i + 4) σ1 g1 k _ _ _ _ (by omega) (by omega) (by omega) (by omega) ⟨f1, V2, hC1, hF2, hfs1, hfo1, hfm1, hat2, hM2, hW2⟩ hS2 ls (lv_sub hl [0, 3, 4, 5, 6] rfl)
          · refine lv_aload_n hx hb dL_law_866 rfl (lv_at hl 6 rfl) ?_
            refine lv_iconst (v := 0) hx hb dL_law_867 (by decide) ?_
            refine rn_lald hx hb hG4 hat2 3 rfl dL_law_868 ?_
            refine lv_iload hx hb dL_law_869 (lv_at hl 0 rfl) ?_
            refine lv_i2l hx hb dL_law_871 rfl ?_
            refine W.lcmp hx hb dL_law_872 ?_
            refine rn_top (y := .int 0) (by rw [hg1 c_863, rn_lcmp0]) ?_
            refine lv_if_eq (tgt := 878) hx hb dL_law_873 (by decide) (fun c_873 => ?_) (fun c_873 => ?_)
            · refine lv_goto (tgt := 1425) hx hb dL_law_878 (by decide) ?_
              refine lv_iinc (v := (nI (i + 4))) (lv' := [(4, .int (nI (i + 4))), (6, .int v), (5, .int k), (0, .ref b), (1, .ref h0), (2, .ref m0), (3, .ref o)]) hx hb dL_law_1425 hl (k := 2) rfl (nI_add i 4) (by decide) rfl (fun ls hl => ?_)
              refine lv_goto (tgt := 23) hx hb dL_law_1428 (by decide) ?_
              exact ih (i + 4) σ1 g1 k _ _ _ _ (by omega) (by omega) (by omega) (by omega) ⟨f1, V2, hC1, hF2, hfs1, hfo1, hfm1, hat2, hM2, hW2⟩ hS2 ls (lv_sub hl [0, 3, 4, 5, 6] rfl)
            · exact absurd c_873 (by decide)
        · exact absurd rfl c_856
      · refine lv_tableIn (off := 842) (tgt := 881) hx hb dL_law_39 (by omega) (by omega) (by rw [h9]; rfl) (by decide) ?_
        refine lv_aload_n hx hb dL_law_881 rfl (lv_at hl 2 rfl) ?_
        obtain ⟨f, V, hCe, hF, hfs, hfo, hfm, hat9, hM, hW⟩ := hI
        obtain ⟨hV, aR, aP, aF, ra, pa, fa, hd, dh, hC⟩ := id hCe
        refine rn_cV (As := []) (rest := []) 0 hx hb hml hown hts hG3 (c_processes l hV hC) gL_law_X4_processes rfl ⟨rfl, rfl⟩ (by decide +kernel) ⟨Nat.le_of_ble_eq_true rfl, Nat.le_of_ble_eq_true rfl⟩ hF (hF _ _ hC.1.1) rfl rfl hl.1 rfl (Nat.le_of_ble_eq_true rfl) ⟨by show cells ≤ 630713; omega, by show slots ≤ 7203965; omega⟩ dL_law_882 ?_
        refine W.eq (g2 := F0 m 885 ls [.int (nI σ.pn)]) rfl ?_
        refine lv_aload_n hx hb dL_law_885 rfl (lv_at hl 3 rfl) ?_
        refine rn_wV (As := []) (rest := [.int (nI σ.pn)]) 0 hx hb hml hown hts hG5 hS (n_processes l hV hM H.size) (fun q h => (hne q h).2) gL_law_X5_processes rfl ⟨rfl, rfl⟩ (by decide +kernel) ⟨Nat.le_of_ble_eq_true rfl, Nat.le_of_ble_eq_true rfl⟩ hW hW.1 rfl rfl hl.1 rfl (Nat.le_of_ble_eq_true rfl) ⟨by show cells + 0 ≤ 630713; omega, by show slots + 0 ≤ 7203965; omega⟩ dL_law_886 (fun H2 locs2 hP2 hz2 hk2 hS2 => ?_)
        refine W.eq (g2 := F0 m 889 ls [.int (nI σ.pn), .int (nI σ.pn)]) rfl ?_
        obtain ⟨V2, hM2, hW2, hF2, hat2⟩ := rn_I_next2 hCe hF hfs hfo hfm hat9 hne hP2 hk2
        refine lv_icmp_eq (tgt := 1425) hx hb dL_law_889 (by decide) (fun c_889 => ?_) (fun c_889 => ?_)
        · refine lv_iinc (v := (nI (i + 4))) (lv' := [(4, .int (nI (i + 4))), (0, .ref b), (1, .ref h0), (2, .ref m0), (3, .ref o)]) hx hb dL_law_1425 hl (k := 0) rfl (nI_add i 4) (by decide) rfl (fun ls hl => ?_)
          refine lv_goto (tgt := 23) hx hb dL_law_1428 (by decide) ?_
          exact ih (i + 4) σ g 0 _ _ _ _ (by omega) (by omega) (by omega) (by omega) ⟨f, V2, hCe, hF2, hfs, hfo, hfm, hat2, hM2, hW2⟩ hS2 ls (lv_sub hl [0, 1, 2, 3, 4] rfl)
        · exact absurd rfl c_889
      · refine lv_tableIn (off := 855) (tgt := 894) hx hb dL_law_39 (by omega) (by omega) (by rw [h9]; rfl) (by decide) ?_
        refine lv_aload_n hx hb dL_law_894 rfl (lv_at hl 2 rfl) ?_
        refine lv_aload_n hx hb dL_law_895 rfl (lv_at hl 1 rfl) ?_
        refine lv_iload hx hb dL_law_896 (lv_at hl 0 rfl) ?_
        refine lv_iconst (v := 1) hx hb dL_law_898 (by decide) ?_
        refine lv_iadd hx hb dL_law_899 ?_
        refine rn_top (y := .int (nI (i + 1))) (congrArg Value.int (nI_add i 1)) ?_
        refine rn_sld (j := (i + 1)) hx hb hX hbl hbA hS (by omega) hL dL_law_900 ?_
        refine lv_aload_n hx hb dL_law_901 rfl (lv_at hl 4 rfl) ?_
        obtain ⟨f, V, hCe, hF, hfs, hfo, hfm, hat9, hM, hW⟩ := hI
        obtain ⟨hV, aR, aP, aF, ra, pa, fa, hd, dh, hC⟩ := id hCe
        obtain ⟨k, v, σ1, hLc, hMc⟩ := o_roomOf l hfl (D := D) (cL := cL) (g := g) (cI := cI) (m0 := m0) (ma := ma) hV hC hfo hM ((xs (i + 1)))
        refine rn_wL (As := [.ref h0, .int (xs (i + 1)), .ref o]) (rest := []) 3 hx hb hml hown hts hG4 hE hS (fun q h => h) (hLc H.size) (fun q h => h.elim (fun h => by rw [h]; exact ho9) (fun h => h.elim (hfs q) (fun h => Nat.le_trans hS.1 h))) gL_law_L_roomOf rfl ⟨rfl, rfl⟩ (by decide +kernel) ⟨Nat.le_of_ble_eq_true rfl, Nat.le_of_ble_eq_true rfl⟩ ⟨hF, hat9⟩ rfl hl.1 rfl (Nat.le_of_ble_eq_true rfl) ⟨by show cells + 1 ≤ 630713; omega, by show slots + 6 ≤ 7203965; omega⟩ dL_law_902 (fun H1 locs1 hP1 hz1 hk1 hS1 => ?_)
        refine W.eq (g2 := F0 m 905 ls [.int k]) rfl ?_
        obtain ⟨f1, g1, hC1, hF1, hfs1, hfo1, hfm1, hg1, hat1, hW1⟩ := rn_I_next hfs hfo hfm hat9 hW hne hS.1 hP1 hk1
        refine lv_istore (lv' := [(5, .int k), (4, .int (nI i)), (0, .ref b), (1, .ref h0), (2, .ref m0), (3, .ref o)]) hx hb dL_law_905 hl (by decide) rfl (fun ls hl => ?_)
        refine lv_aload_n hx hb dL_law_907 rfl (lv_at hl 4 rfl) ?_
        refine lv_aload_n hx hb dL_law_908 rfl (lv_at hl 2 rfl) ?_
        refine lv_iload hx hb dL_law_909 (lv_at hl 1 rfl) ?_
        refine lv_iconst (v := 1) hx hb dL_law_911 (by decide) ?_
        refine lv_iadd hx hb dL_law_912 ?_
        refine rn_top (y := .int (nI (i + 1))) (congrArg Value.int (nI_add i 1)) ?_
        refine rn_sld (j := (i + 1)) hx hb hX hbl hbA hS1 (by omega) hL dL_law_913 ?_
        refine rn_wV (As := [.int (xs (i + 1))]) (rest := []) 1 hx hb hml hown hts hG5 hS1 (hMc rf H1.size) (fun q h => (hne q h).2) gL_law_X5_roomOf rfl ⟨rfl, rfl⟩ (by decide +kernel) ⟨Nat.le_of_ble_eq_true rfl, Nat.le_of_ble_eq_true rfl⟩ hW1 hW1.1 rfl rfl hl.1 rfl (Nat.le_of_ble_eq_true rfl) ⟨by show cells + 1 + 0 ≤ 630713; omega, by show slots + 6 + 0 ≤ 7203965; omega⟩ dL_law_914 (fun H2 locs2 hP2 hz2 hk2 hS2 => ?_)
        refine W.eq (g2 := F0 m 917 ls [.int v]) rfl ?_
        obtain ⟨V2, hM2, hW2, hF2, hat2⟩ := rn_I_next2 hC1 hF1 hfs1 hfo1 hfm1 hat1 hne hP2 hk2
        refine lv_istore (lv' := [(6, .int v), (5, .int k), (4, .int (nI i)), (0, .ref b), (1, .ref h0), (2, .ref m0), (3, .ref o)]) hx hb dL_law_917 hl (by decide) rfl (fun ls hl => ?_)
        refine lv_aload_n hx hb dL_law_919 rfl (lv_at hl 5 rfl) ?_
        refine rn_cV (As := []) (rest := []) 0 hx hb hml hown hts hG5 (m_thrown l) gL_law_X5_thrown rfl ⟨rfl, rfl⟩ (by decide +kernel) ⟨Nat.le_of_ble_eq_true rfl, Nat.le_of_ble_eq_true rfl⟩ hW2 hW2.1 rfl rfl hl.1 rfl (Nat.le_of_ble_eq_true rfl) ⟨by show cells + 1 + 0 ≤ 630713; omega, by show slots + 6 + 0 ≤ 7203965; omega⟩ dL_law_920 ?_
        refine W.eq (g2 := F0 m 923 ls [.int k]) rfl ?_
        refine lv_iload hx hb dL_law_923 (lv_at hl 1 rfl) ?_
        refine lv_icmp_eq (tgt := 930) hx hb dL_law_925 (by decide) (fun c_925 => ?_) (fun c_925 => ?_)
        · refine lv_iload hx hb dL_law_930 (lv_at hl 1 rfl) ?_
          refine lv_if_ne (tgt := 947) hx hb dL_law_932 (by decide) (fun c_932 => ?_) (fun c_932 => ?_)
          · refine lv_goto (tgt := 1425) hx hb dL_law_947 (by decide) ?_
            refine lv_iinc (v := (nI (i + 4))) (lv' := [(4, .int (nI (i + 4))), (6, .int v), (5, .int k), (0, .ref b), (1, .ref h0), (2, .ref m0), (3, .ref o)]) hx hb dL_law_1425 hl (k := 2) rfl (nI_add i 4) (by decide) rfl (fun ls hl => ?_)
            refine lv_goto (tgt := 23) hx hb dL_law_1428 (by decide) ?_
            exact ih (i + 4) σ1 g1 k _ _ _ _ (by omega) (by omega) (by omega) (by omega) ⟨f1, V2, hC1, hF2, hfs1, hfo1, hfm1, hat2, hM2, hW2⟩ hS2 ls (lv_sub hl [0, 3, 4, 5, 6] rfl)
          · refine lv_aload_n hx hb dL_law_935 rfl (lv_at hl 6 rfl) ?_
            refine lv_iconst (v := 0) hx hb dL_law_936 (by decide) ?_
            refine rn_lald hx hb hG4 hat2 3 rfl dL_law_937 ?_
            refine lv_iload hx hb dL_law_938 (lv_at hl 0 rfl) ?_
            refine lv_i2l hx hb dL_law_940 rfl ?_
            refine W.lcmp hx hb dL_law_941 ?_
            refine rn_top (y := .int 0) (by rw [hg1 c_932, rn_lcmp0]) ?_
            refine lv_if_eq (tgt := 947) hx hb dL_law_942 (by decide) (fun c_942 => ?_) (fun c_942 => ?_)
            · refine lv_goto (tgt := 1425) hx hb dL_law_947 (by decide) ?_
              refine lv_iinc (v := (nI (i + 4))) (lv' := [(4, .int (nI (i + 4))), (6, .int v), (5, .int k), (0, .ref b), (1, .ref h0), (2, .ref m0), (3, .ref o)]) hx hb dL_law_1425 hl (k := 2) rfl (nI_add i 4) (by decide) rfl (fun ls hl => ?_)
              refine lv_goto (tgt := 23) hx hb dL_law_1428 (by decide) ?_
              exact ih (i + 4) σ1 g1 k _ _ _ _ (by omega) (by omega) (by omega) (by omega) ⟨f1, V2, hC1, hF2, hfs1, hfo1, hfm1, hat2, hM2, hW2⟩ hS2 ls (lv_sub hl [0, 3, 4, 5, 6] rfl)
            · exact absurd c_942 (by decide)
        · exact absurd rfl c_925
      · refine lv_tableIn (off := 911) (tgt := 950) hx hb dL_law_39 (by omega) (by omega) (by rw [h9]; rfl) (by decide) ?_
        refine lv_aload_n hx hb dL_law_950 rfl (lv_at hl 2 rfl) ?_
        refine lv_aload_n hx hb dL_law_951 rfl (lv_at hl 1 rfl) ?_
        refine lv_iload hx hb dL_law_952 (lv_at hl 0 rfl) ?_
        refine lv_iconst (v := 1) hx hb dL_law_954 (by decide) ?_
        refine lv_iadd hx hb dL_law_955 ?_
        refine rn_top (y := .int (nI (i + 1))) (congrArg Value.int (nI_add i 1)) ?_
        refine rn_sld (j := (i + 1)) hx hb hX hbl hbA hS (by omega) hL dL_law_956 ?_
        refine lv_aload_n hx hb dL_law_957 rfl (lv_at hl 4 rfl) ?_
        obtain ⟨f, V, hCe, hF, hfs, hfo, hfm, hat9, hM, hW⟩ := hI
        obtain ⟨hV, aR, aP, aF, ra, pa, fa, hd, dh, hC⟩ := id hCe
        obtain ⟨k, v, σ1, hLc, hMc⟩ := o_numberOf l hfl (D := D) (cL := cL) (g := g) (cI := cI) (m0 := m0) (ma := ma) hV hC hfo hM ((xs (i + 1)))
        refine rn_wL (As := [.ref h0, .int (xs (i + 1)), .ref o]) (rest := []) 3 hx hb hml hown hts hG4 hE hS (fun q h => h) (hLc H.size) (fun q h => h.elim (fun h => by rw [h]; exact ho9) (fun h => h.elim (hfs q) (fun h => Nat.le_trans hS.1 h))) gL_law_L_numberOf rfl ⟨rfl, rfl⟩ (by decide +kernel) ⟨Nat.le_of_ble_eq_true rfl, Nat.le_of_ble_eq_true rfl⟩ ⟨hF, hat9⟩ rfl hl.1 rfl (Nat.le_of_ble_eq_true rfl) ⟨by show cells + 1 ≤ 630713; omega, by show slots + 6 ≤ 7203965; omega⟩ dL_law_958 (fun H1 locs1 hP1 hz1 hk1 hS1 => ?_)
        refine W.eq (g2 := F0 m 961 ls [.int k]) rfl ?_
        obtain ⟨f1, g1, hC1, hF1, hfs1, hfo1, hfm1, hg1, hat1, hW1⟩ := rn_I_next hfs hfo hfm hat9 hW hne hS.1 hP1 hk1
        refine lv_istore (lv' := [(5, .int k), (4, .int (nI i)), (0, .ref b), (1, .ref h0), (2, .ref m0), (3, .ref o)]) hx hb dL_law_961 hl (by decide) rfl (fun ls hl => ?_)
        refine lv_aload_n hx hb dL_law_963 rfl (lv_at hl 4 rfl) ?_
        refine lv_aload_n hx hb dL_law_964 rfl (lv_at hl 2 rfl) ?_
        refine lv_iload hx hb dL_law_965 (lv_at hl 1 rfl) ?_
        refine lv_iconst (v := 1) hx hb dL_law_967 (by decide) ?_
        refine lv_iadd hx hb dL_law_968 ?_
        refine rn_top (y := .int (nI (i + 1))) (congrArg Value.int (nI_add i 1)) ?_
        refine rn_sld (j := (i + 1)) hx hb hX hbl hbA hS1 (by omega) hL dL_law_969 ?_
        refine rn_wV (As := [.int (xs (i + 1))]) (rest := []) 1 hx hb hml hown hts hG5 hS1 (hMc rf H1.size) (fun q h => (hne q h).2) gL_law_X5_numberOf rfl ⟨rfl, rfl⟩ (by decide +kernel) ⟨Nat.le_of_ble_eq_true rfl, Nat.le_of_ble_eq_true rfl⟩ hW1 hW1.1 rfl rfl hl.1 rfl (Nat.le_of_ble_eq_true rfl) ⟨by show cells + 1 + 0 ≤ 630713; omega, by show slots + 6 + 0 ≤ 7203965; omega⟩ dL_law_970 (fun H2 locs2 hP2 hz2 hk2 hS2 => ?_)
        refine W.eq (g2 := F0 m 973 ls [.int v]) rfl ?_
        obtain ⟨V2, hM2, hW2, hF2, hat2⟩ := rn_I_next2 hC1 hF1 hfs1 hfo1 hfm1 hat1 hne hP2 hk2
        refine lv_istore (lv' := [(6, .int v), (5, .int k), (4, .int (nI i)), (0, .ref b), (1, .ref h0), (2, .ref m0), (3, .ref o)]) hx hb dL_law_973 hl (by decide) rfl (fun ls hl => ?_)
        refine lv_aload_n hx hb dL_law_975 rfl (lv_at hl 5 rfl) ?_
        refine rn_cV (As := []) (rest := []) 0 hx hb hml hown hts hG5 (m_thrown l) gL_law_X5_thrown rfl ⟨rfl, rfl⟩ (by decide +kernel) ⟨Nat.le_of_ble_eq_true rfl, Nat.le_of_ble_eq_true rfl⟩ hW2 hW2.1 rfl rfl hl.1 rfl (Nat.le_of_ble_eq_true rfl) ⟨by show cells + 1 + 0 ≤ 630713; omega, by show slots + 6 + 0 ≤ 7203965; omega⟩ dL_law_976 ?_
        refine W.eq (g2 := F0 m 979 ls [.int k]) rfl ?_
        refine lv_iload hx hb dL_law_979 (lv_at hl 1 rfl) ?_
        refine lv_icmp_eq (tgt := 986) hx hb dL_law_981 (by decide) (fun c_981 => ?_) (fun c_981 => ?_)
        · refine lv_iload hx hb dL_law_986 (lv_at hl 1 rfl) ?_
          refine lv_if_ne (tgt := 1003) hx hb dL_law_988 (by decide) (fun c_988 => ?_) (fun c_988 => ?_)
          · refine lv_goto (tgt := 1425) hx hb dL_law_1003 (by decide) ?_
            refine lv_iinc (v := (nI (i + 4))) (lv' := [(4, .int (nI (i + 4))), (6, .int v), (5, .int k), (0, .ref b), (1, .ref h0), (2, .ref m0), (3, .ref o)]) hx hb dL_law_1425 hl (k := 2) rfl (nI_add i 4) (by decide) rfl (fun ls hl => ?_)
            refine lv_goto (tgt := 23) hx hb dL_law_1428 (by decide) ?_
            exact ih (i + 4) σ1 g1 k _ _ _ _ (by omega) (by omega) (by omega) (by omega) ⟨f1, V2, hC1, hF2, hfs1, hfo1, hfm1, hat2, hM2, hW2⟩ hS2 ls (lv_sub hl [0, 3, 4, 5, 6] rfl)
          · refine lv_aload_n hx hb dL_law_991 rfl (lv_at hl 6 rfl) ?_
            refine lv_iconst (v := 0) hx hb dL_law_992 (by decide) ?_
            refine rn_lald hx hb hG4 hat2 3 rfl dL_law_993 ?_
            refine lv_iload hx hb dL_law_994 (lv_at hl 0 rfl) ?_
            refine lv_i2l hx hb dL_law_996 rfl ?_
            refine W.lcmp hx hb dL_law_997 ?_
            refine rn_top (y := .int 0) (by rw [hg1 c_988, rn_lcmp0]) ?_
            refine lv_if_eq (tgt := 1003) hx hb dL_law_998 (by decide) (fun c_998 => ?_) (fun c_998 => ?_)
            · refine lv_goto (tgt := 1425) hx hb dL_law_1003 (by decide) ?_
              refine lv_iinc (v := (nI (i + 4))) (lv' := [(4, .int (nI (i + 4))), (6, .int v), (5, .int k), (0, .ref b), (1, .ref h0), (2, .ref m0), (3, .ref o)]) hx hb dL_law_1425 hl (k := 2) rfl (nI_add i 4) (by decide) rfl (fun ls hl => ?_)
              refine lv_goto (tgt := 23) hx hb dL_law_1428 (by decide) ?_
              exact ih (i + 4) σ1 g1 k _ _ _ _ (by omega) (by omega) (by omega) (by omega) ⟨f1, V2, hC1, hF2, hfs1, hfo1, hfm1, hat2, hM2, hW2⟩ hS2 ls (lv_sub hl [0, 3, 4, 5, 6] rfl)
            · exact absurd c_998 (by decide)
        · exact absurd rfl c_981
      · refine lv_tableIn (off := 967) (tgt := 1006) hx hb dL_law_39 (by omega) (by omega) (by rw [h9]; rfl) (by decide) ?_
        refine lv_aload_n hx hb dL_law_1006 rfl (lv_at hl 2 rfl) ?_
        refine lv_aload_n hx hb dL_law_1007 rfl (lv_at hl 1 rfl) ?_
        refine lv_iload hx hb dL_law_1008 (lv_at hl 0 rfl) ?_
        refine lv_iconst (v := 1) hx hb dL_law_1010 (by decide) ?_
        refine lv_iadd hx hb dL_law_1011 ?_
        refine rn_top (y := .int (nI (i + 1))) (congrArg Value.int (nI_add i 1)) ?_
        refine rn_sld (j := (i + 1)) hx hb hX hbl hbA hS (by omega) hL dL_law_1012 ?_
        refine lv_aload_n hx hb dL_law_1013 rfl (lv_at hl 1 rfl) ?_
        refine lv_iload hx hb dL_law_1014 (lv_at hl 0 rfl) ?_
        refine lv_iconst (v := 2) hx hb dL_law_1016 (by decide) ?_
        refine lv_iadd hx hb dL_law_1017 ?_
        refine rn_top (y := .int (nI (i + 2))) (congrArg Value.int (nI_add i 2)) ?_
        refine rn_sld (j := (i + 2)) hx hb hX hbl hbA hS (by omega) hL dL_law_1018 ?_
        refine lv_aload_n hx hb dL_law_1019 rfl (lv_at hl 4 rfl) ?_
        obtain ⟨f, V, hCe, hF, hfs, hfo, hfm, hat9, hM, hW⟩ := hI
        obtain ⟨hV, aR, aP, aF, ra, pa, fa, hd, dh, hC⟩ := id hCe
        obtain ⟨k, v, σ1, hLc, hMc⟩ := o_rightsIn l hfl (D := D) (cL := cL) (g := g) (cI := cI) (m0 := m0) (ma := ma) hV hC hfo hM ((xs (i + 1))) ((xs (i + 2)))
        refine rn_wL (As := [.ref h0, .int (xs (i + 1)), .int (xs (i + 2)), .ref o]) (rest := []) 4 hx hb hml hown hts hG4 hE hS (fun q h => h) (hLc H.size) (fun q h => h.elim (fun h => by rw [h]; exact ho9) (fun h => h.elim (hfs q) (fun h => Nat.le_trans hS.1 h))) gL_law_L_rightsIn rfl ⟨rfl, rfl⟩ (by decide +kernel) ⟨Nat.le_of_ble_eq_true rfl, Nat.le_of_ble_eq_true rfl⟩ ⟨hF, hat9⟩ rfl hl.1 rfl (Nat.le_of_ble_eq_true rfl) ⟨by show cells + 1 ≤ 630713; omega, by show slots + 6 ≤ 7203965; omega⟩ dL_law_1020 (fun H1 locs1 hP1 hz1 hk1 hS1 => ?_)
        refine W.eq (g2 := F0 m 1023 ls [.int k]) rfl ?_
        obtain ⟨f1, g1, hC1, hF1, hfs1, hfo1, hfm1, hg1, hat1, hW1⟩ := rn_I_next hfs hfo hfm hat9 hW hne hS.1 hP1 hk1
        refine lv_istore (lv' := [(5, .int k), (4, .int (nI i)), (0, .ref b), (1, .ref h0), (2, .ref m0), (3, .ref o)]) hx hb dL_law_1023 hl (by decide) rfl (fun ls hl => ?_)
        refine lv_aload_n hx hb dL_law_1025 rfl (lv_at hl 4 rfl) ?_
        refine lv_aload_n hx hb dL_law_1026 rfl (lv_at hl 2 rfl) ?_
        refine lv_iload hx hb dL_law_1027 (lv_at hl 1 rfl) ?_
        refine lv_iconst (v := 1) hx hb dL_law_1029 (by decide) ?_
        refine lv_iadd hx hb dL_law_1030 ?_
        refine rn_top (y := .int (nI (i + 1))) (congrArg Value.int (nI_add i 1)) ?_
        refine rn_sld (j := (i + 1)) hx hb hX hbl hbA hS1 (by omega) hL dL_law_1031 ?_
        refine lv_aload_n hx hb dL_law_1032 rfl (lv_at hl 2 rfl) ?_
        refine lv_iload hx hb dL_law_1033 (lv_at hl 1 rfl) ?_
        refine lv_iconst (v := 2) hx hb dL_law_1035 (by decide) ?_
        refine lv_iadd hx hb dL_law_1036 ?_
        refine rn_top (y := .int (nI (i + 2))) (congrArg Value.int (nI_add i 2)) ?_
        refine rn_sld (j := (i + 2)) hx hb hX hbl hbA hS1 (by omega) hL dL_law_1037 ?_
        refine rn_wV (As := [.int (xs (i + 1)), .int (xs (i + 2))]) (rest := []) 2 hx hb hml hown hts hG5 hS1 (hMc rf H1.size) (fun q h => (hne q h).2) gL_law_X5_rightsIn rfl ⟨rfl, rfl⟩ (by decide +kernel) ⟨Nat.le_of_ble_eq_true rfl, Nat.le_of_ble_eq_true rfl⟩ hW1 hW1.1 rfl rfl hl.1 rfl (Nat.le_of_ble_eq_true rfl) ⟨by show cells + 1 + 0 ≤ 630713; omega, by show slots + 6 + 0 ≤ 7203965; omega⟩ dL_law_1038 (fun H2 locs2 hP2 hz2 hk2 hS2 => ?_)
        refine W.eq (g2 := F0 m 1041 ls [.int v]) rfl ?_
        obtain ⟨V2, hM2, hW2, hF2, hat2⟩ := rn_I_next2 hC1 hF1 hfs1 hfo1 hfm1 hat1 hne hP2 hk2
        refine lv_istore (lv' := [(6, .int v), (5, .int k), (4, .int (nI i)), (0, .ref b), (1, .ref h0), (2, .ref m0), (3, .ref o)]) hx hb dL_law_1041 hl (by decide) rfl (fun ls hl => ?_)
        refine lv_aload_n hx hb dL_law_1043 rfl (lv_at hl 5 rfl) ?_
        refine rn_cV (As := []) (rest := []) 0 hx hb hml hown hts hG5 (m_thrown l) gL_law_X5_thrown rfl ⟨rfl, rfl⟩ (by decide +kernel) ⟨Nat.le_of_ble_eq_true rfl, Nat.le_of_ble_eq_true rfl⟩ hW2 hW2.1 rfl rfl hl.1 rfl (Nat.le_of_ble_eq_true rfl) ⟨by show cells + 1 + 0 ≤ 630713; omega, by show slots + 6 + 0 ≤ 7203965; omega⟩ dL_law_1044 ?_
        refine W.eq (g2 := F0 m 1047 ls [.int k]) rfl ?_
        refine lv_iload hx hb dL_law_1047 (lv_at hl 1 rfl) ?_
        refine lv_icmp_eq (tgt := 1054) hx hb dL_law_1049 (by decide) (fun c_1049 => ?_) (fun c_1049 => ?_)
        · refine lv_iload hx hb dL_law_1054 (lv_at hl 1 rfl) ?_
          refine lv_if_ne (tgt := 1071) hx hb dL_law_1056 (by decide) (fun c_1056 => ?_) (fun c_1056 => ?_)
          · refine lv_goto (tgt := 1425) hx hb dL_law_1071 (by decide) ?_
            refine lv_iinc (v := (nI (i + 4))) (lv' := [(4, .int (nI (i + 4))), (6, .int v), (5, .int k), (0, .ref b), (1, .ref h0), (2, .ref m0), (3, .ref o)]) hx hb dL_law_1425 hl (k := 2) rfl (nI_add i 4) (by decide) rfl (fun ls hl => ?_)
            refine lv_goto (tgt := 23) hx hb dL_law_1428 (by decide) ?_
            exact ih (i + 4) σ1 g1 k _ _ _ _ (by omega) (by omega) (by omega) (by omega) ⟨f1, V2, hC1, hF2, hfs1, hfo1, hfm1, hat2, hM2, hW2⟩ hS2 ls (lv_sub hl [0, 3, 4, 5, 6] rfl)
          · refine lv_aload_n hx hb dL_law_1059 rfl (lv_at hl 6 rfl) ?_
            refine lv_iconst (v := 0) hx hb dL_law_1060 (by decide) ?_
            refine rn_lald hx hb hG4 hat2 3 rfl dL_law_1061 ?_
            refine lv_iload hx hb dL_law_1062 (lv_at hl 0 rfl) ?_
            refine lv_i2l hx hb dL_law_1064 rfl ?_
            refine W.lcmp hx hb dL_law_1065 ?_
            refine rn_top (y := .int 0) (by rw [hg1 c_1056, rn_lcmp0]) ?_
            refine lv_if_eq (tgt := 1071) hx hb dL_law_1066 (by decide) (fun c_1066 => ?_) (fun c_1066 => ?_)
            · refine lv_goto (tgt := 1425) hx hb dL_law_1071 (by decide) ?_
              refine lv_iinc (v := (nI (i + 4))) (lv' := [(4, .int (nI (i + 4))), (6, .int v), (5, .int k), (0, .ref b), (1, .ref h0), (2, .ref m0), (3, .ref o)]) hx hb dL_law_1425 hl (k := 2) rfl (nI_add i 4) (by decide) rfl (fun ls hl => ?_)
              refine lv_goto (tgt := 23) hx hb dL_law_1428 (by decide) ?_
              exact ih (i + 4) σ1 g1 k _ _ _ _ (by omega) (by omega) (by omega) (by omega) ⟨f1, V2, hC1, hF2, hfs1, hfo1, hfm1, hat2, hM2, hW2⟩ hS2 ls (lv_sub hl [0, 3, 4, 5, 6] rfl)
            · exact absurd c_1066 (by decide)
        · exact absurd rfl c_1049
      · refine lv_tableIn (off := 1035) (tgt := 1074) hx hb dL_law_39 (by omega) (by omega) (by rw [h9]; rfl) (by decide) ?_
        refine lv_aload_n hx hb dL_law_1074 rfl (lv_at hl 2 rfl) ?_
        refine lv_aload_n hx hb dL_law_1075 rfl (lv_at hl 1 rfl) ?_
        refine lv_iload hx hb dL_law_1076 (lv_at hl 0 rfl) ?_
        refine lv_iconst (v := 1) hx hb dL_law_1078 (by decide) ?_
        refine lv_iadd hx hb dL_law_1079 ?_
        refine rn_top (y := .int (nI (i + 1))) (congrArg Value.int (nI_add i 1)) ?_
        refine rn_sld (j := (i + 1)) hx hb hX hbl hbA hS (by omega) hL dL_law_1080 ?_
        refine lv_aload_n hx hb dL_law_1081 rfl (lv_at hl 1 rfl) ?_
        refine lv_iload hx hb dL_law_1082 (lv_at hl 0 rfl) ?_
        refine lv_iconst (v := 2) hx hb dL_law_1084 (by decide) ?_
        refine lv_iadd hx hb dL_law_1085 ?_
        refine rn_top (y := .int (nI (i + 2))) (congrArg Value.int (nI_add i 2)) ?_
        refine rn_sld (j := (i + 2)) hx hb hX hbl hbA hS (by omega) hL dL_law_1086 ?_
        refine lv_aload_n hx hb dL_law_1087 rfl (lv_at hl 4 rfl) ?_
        obtain ⟨f, V, hCe, hF, hfs, hfo, hfm, hat9, hM, hW⟩ := hI
        obtain ⟨hV, aR, aP, aF, ra, pa, fa, hd, dh, hC⟩ := id hCe
        obtain ⟨k, v, σ1, hLc, hMc⟩ := o_makeFile l hfl (D := D) (cL := cL) (g := g) (cI := cI) (m0 := m0) (ma := ma) hV hC hfo hM ((xs (i + 1))) ((xs (i + 2)))
        refine rn_wL (As := [.ref h0, .int (xs (i + 1)), .int (xs (i + 2)), .ref o]) (rest := []) 4 hx hb hml hown hts hG4 hE hS (fun q h => h) (hLc H.size) (fun q h => h.elim (fun h => by rw [h]; exact ho9) (fun h => h.elim (hfs q) (fun h => Nat.le_trans hS.1 h))) gL_law_L_makeFile rfl ⟨rfl, rfl⟩ (by decide +kernel) ⟨Nat.le_of_ble_eq_true rfl, Nat.le_of_ble_eq_true rfl⟩ ⟨hF, hat9⟩ rfl hl.1 rfl (Nat.le_of_ble_eq_true rfl) ⟨by show cells + 1 ≤ 630713; omega, by show slots + 6 ≤ 7203965; omega⟩ dL_law_1088 (fun H1 locs1 hP1 hz1 hk1 hS1 => ?_)
        refine W.eq (g2 := F0 m 1091 ls [.int k]) rfl ?_
        obtain ⟨f1, g1, hC1, hF1, hfs1, hfo1, hfm1, hg1, hat1, hW1⟩ := rn_I_next hfs hfo hfm hat9 hW hne hS.1 hP1 hk1
        refine lv_istore (lv' := [(5, .int k), (4, .int (nI i)), (0, .ref b), (1, .ref h0), (2, .ref m0), (3, .ref o)]) hx hb dL_law_1091 hl (by decide) rfl (fun ls hl => ?_)
        refine lv_aload_n hx hb dL_law_1093 rfl (lv_at hl 4 rfl) ?_
        refine lv_aload_n hx hb dL_law_1094 rfl (lv_at hl 2 rfl) ?_
        refine lv_iload hx hb dL_law_1095 (lv_at hl 1 rfl) ?_
        refine lv_iconst (v := 1) hx hb dL_law_1097 (by decide) ?_
        refine lv_iadd hx hb dL_law_1098 ?_
        refine rn_top (y := .int (nI (i + 1))) (congrArg Value.int (nI_add i 1)) ?_
        refine rn_sld (j := (i + 1)) hx hb hX hbl hbA hS1 (by omega) hL dL_law_1099 ?_
        refine lv_aload_n hx hb dL_law_1100 rfl (lv_at hl 2 rfl) ?_
        refine lv_iload hx hb dL_law_1101 (lv_at hl 1 rfl) ?_
        refine lv_iconst (v := 2) hx hb dL_law_1103 (by decide) ?_
        refine lv_iadd hx hb dL_law_1104 ?_
        refine rn_top (y := .int (nI (i + 2))) (congrArg Value.int (nI_add i 2)) ?_
        refine rn_sld (j := (i + 2)) hx hb hX hbl hbA hS1 (by omega) hL dL_law_1105 ?_
        refine rn_wV (As := [.int (xs (i + 1)), .int (xs (i + 2))]) (rest := []) 2 hx hb hml hown hts hG5 hS1 (hMc rf H1.size) (fun q h => (hne q h).2) gL_law_X5_makeFile rfl ⟨rfl, rfl⟩ (by decide +kernel) ⟨Nat.le_of_ble_eq_true rfl, Nat.le_of_ble_eq_true rfl⟩ hW1 hW1.1 rfl rfl hl.1 rfl (Nat.le_of_ble_eq_true rfl) ⟨by show cells + 1 + 0 ≤ 630713; omega, by show slots + 6 + 0 ≤ 7203965; omega⟩ dL_law_1106 (fun H2 locs2 hP2 hz2 hk2 hS2 => ?_)
        refine W.eq (g2 := F0 m 1109 ls [.int v]) rfl ?_
        obtain ⟨V2, hM2, hW2, hF2, hat2⟩ := rn_I_next2 hC1 hF1 hfs1 hfo1 hfm1 hat1 hne hP2 hk2
        refine lv_istore (lv' := [(6, .int v), (5, .int k), (4, .int (nI i)), (0, .ref b), (1, .ref h0), (2, .ref m0), (3, .ref o)]) hx hb dL_law_1109 hl (by decide) rfl (fun ls hl => ?_)
        refine lv_aload_n hx hb dL_law_1111 rfl (lv_at hl 5 rfl) ?_
        refine rn_cV (As := []) (rest := []) 0 hx hb hml hown hts hG5 (m_thrown l) gL_law_X5_thrown rfl ⟨rfl, rfl⟩ (by decide +kernel) ⟨Nat.le_of_ble_eq_true rfl, Nat.le_of_ble_eq_true rfl⟩ hW2 hW2.1 rfl rfl hl.1 rfl (Nat.le_of_ble_eq_true rfl) ⟨by show cells + 1 + 0 ≤ 630713; omega, by show slots + 6 + 0 ≤ 7203965; omega⟩ dL_law_1112 ?_
        refine W.eq (g2 := F0 m 1115 ls [.int k]) rfl ?_
        refine lv_iload hx hb dL_law_1115 (lv_at hl 1 rfl) ?_
        refine lv_icmp_eq (tgt := 1122) hx hb dL_law_1117 (by decide) (fun c_1117 => ?_) (fun c_1117 => ?_)
        · refine lv_iload hx hb dL_law_1122 (lv_at hl 1 rfl) ?_
          refine lv_if_ne (tgt := 1139) hx hb dL_law_1124 (by decide) (fun c_1124 => ?_) (fun c_1124 => ?_)
          · refine lv_goto (tgt := 1425) hx hb dL_law_1139 (by decide) ?_
            refine lv_iinc (v := (nI (i + 4))) (lv' := [(4, .int (nI (i + 4))), (6, .int v), (5, .int k), (0, .ref b), (1, .ref h0), (2, .ref m0), (3, .ref o)]) hx hb dL_law_1425 hl (k := 2) rfl (nI_add i 4) (by decide) rfl (fun ls hl => ?_)
            refine lv_goto (tgt := 23) hx hb dL_law_1428 (by decide) ?_
            exact ih (i + 4) σ1 g1 k _ _ _ _ (by omega) (by omega) (by omega) (by omega) ⟨f1, V2, hC1, hF2, hfs1, hfo1, hfm1, hat2, hM2, hW2⟩ hS2 ls (lv_sub hl [0, 3, 4, 5, 6] rfl)
          · refine lv_aload_n hx hb dL_law_1127 rfl (lv_at hl 6 rfl) ?_
            refine lv_iconst (v := 0) hx hb dL_law_1128 (by decide) ?_
            refine rn_lald hx hb hG4 hat2 3 rfl dL_law_1129 ?_
            refine lv_iload hx hb dL_law_1130 (lv_at hl 0 rfl) ?_
            refine lv_i2l hx hb dL_law_1132 rfl ?_
            refine W.lcmp hx hb dL_law_1133 ?_
            refine rn_top (y := .int 0) (by rw [hg1 c_1124, rn_lcmp0]) ?_
            refine lv_if_eq (tgt := 1139) hx hb dL_law_1134 (by decide) (fun c_1134 => ?_) (fun c_1134 => ?_)
            · refine lv_goto (tgt := 1425) hx hb dL_law_1139 (by decide) ?_
              refine lv_iinc (v := (nI (i + 4))) (lv' := [(4, .int (nI (i + 4))), (6, .int v), (5, .int k), (0, .ref b), (1, .ref h0), (2, .ref m0), (3, .ref o)]) hx hb dL_law_1425 hl (k := 2) rfl (nI_add i 4) (by decide) rfl (fun ls hl => ?_)
              refine lv_goto (tgt := 23) hx hb dL_law_1428 (by decide) ?_
              exact ih (i + 4) σ1 g1 k _ _ _ _ (by omega) (by omega) (by omega) (by omega) ⟨f1, V2, hC1, hF2, hfs1, hfo1, hfm1, hat2, hM2, hW2⟩ hS2 ls (lv_sub hl [0, 3, 4, 5, 6] rfl)
            · exact absurd c_1134 (by decide)
        · exact absurd rfl c_1117
      · refine lv_tableIn (off := 1103) (tgt := 1142) hx hb dL_law_39 (by omega) (by omega) (by rw [h9]; rfl) (by decide) ?_
        refine lv_aload_n hx hb dL_law_1142 rfl (lv_at hl 2 rfl) ?_
        refine lv_aload_n hx hb dL_law_1143 rfl (lv_at hl 1 rfl) ?_
        refine lv_iload hx hb dL_law_1144 (lv_at hl 0 rfl) ?_
        refine lv_iconst (v := 1) hx hb dL_law_1146 (by decide) ?_
        refine lv_iadd hx hb dL_law_1147 ?_
        refine rn_top (y := .int (nI (i + 1))) (congrArg Value.int (nI_add i 1)) ?_
        refine rn_sld (j := (i + 1)) hx hb hX hbl hbA hS (by omega) hL dL_law_1148 ?_
        refine lv_aload_n hx hb dL_law_1149 rfl (lv_at hl 1 rfl) ?_
        refine lv_iload hx hb dL_law_1150 (lv_at hl 0 rfl) ?_
        refine lv_iconst (v := 2) hx hb dL_law_1152 (by decide) ?_
        refine lv_iadd hx hb dL_law_1153 ?_
        refine rn_top (y := .int (nI (i + 2))) (congrArg Value.int (nI_add i 2)) ?_
        refine rn_sld (j := (i + 2)) hx hb hX hbl hbA hS (by omega) hL dL_law_1154 ?_
        refine lv_aload_n hx hb dL_law_1155 rfl (lv_at hl 1 rfl) ?_
        refine lv_iload hx hb dL_law_1156 (lv_at hl 0 rfl) ?_
        refine lv_iconst (v := 3) hx hb dL_law_1158 (by decide) ?_
        refine lv_iadd hx hb dL_law_1159 ?_
        refine rn_top (y := .int (nI (i + 3))) (congrArg Value.int (nI_add i 3)) ?_
        refine rn_sld (j := (i + 3)) hx hb hX hbl hbA hS (by omega) hL dL_law_1160 ?_
        refine lv_aload_n hx hb dL_law_1161 rfl (lv_at hl 4 rfl) ?_
        obtain ⟨f, V, hCe, hF, hfs, hfo, hfm, hat9, hM, hW⟩ := hI
        obtain ⟨hV, aR, aP, aF, ra, pa, fa, hd, dh, hC⟩ := id hCe
        obtain ⟨k, v, σ1, hLc, hMc⟩ := o_handOver l hfl (D := D) (cL := cL) (g := g) (cI := cI) (m0 := m0) (ma := ma) hV hC hfo hM ((xs (i + 1))) ((xs (i + 2))) ((xs (i + 3)))
        refine rn_wL (As := [.ref h0, .int (xs (i + 1)), .int (xs (i + 2)), .int (xs (i + 3)), .ref o]) (rest := []) 5 hx hb hml hown hts hG4 hE hS (fun q h => h) (hLc H.size) (fun q h => h.elim (fun h => by rw [h]; exact ho9) (fun h => h.elim (hfs q) (fun h => Nat.le_trans hS.1 h))) gL_law_L_handOver rfl ⟨rfl, rfl⟩ (by decide +kernel) ⟨Nat.le_of_ble_eq_true rfl, Nat.le_of_ble_eq_true rfl⟩ ⟨hF, hat9⟩ rfl hl.1 rfl (Nat.le_of_ble_eq_true rfl) ⟨by show cells + 1 ≤ 630713; omega, by show slots + 6 ≤ 7203965; omega⟩ dL_law_1162 (fun H1 locs1 hP1 hz1 hk1 hS1 => ?_)
        refine W.eq (g2 := F0 m 1165 ls [.int k]) rfl ?_
        obtain ⟨f1, g1, hC1, hF1, hfs1, hfo1, hfm1, hg1, hat1, hW1⟩ := rn_I_next hfs hfo hfm hat9 hW hne hS.1 hP1 hk1
        refine lv_istore (lv' := [(5, .int k), (4, .int (nI i)), (0, .ref b), (1, .ref h0), (2, .ref m0), (3, .ref o)]) hx hb dL_law_1165 hl (by decide) rfl (fun ls hl => ?_)
        refine lv_aload_n hx hb dL_law_1167 rfl (lv_at hl 4 rfl) ?_
        refine lv_aload_n hx hb dL_law_1168 rfl (lv_at hl 2 rfl) ?_
        refine lv_iload hx hb dL_law_1169 (lv_at hl 1 rfl) ?_
        refine lv_iconst (v := 1) hx hb dL_law_1171 (by decide) ?_
        refine lv_iadd hx hb dL_law_1172 ?_
        refine rn_top (y := .int (nI (i + 1))) (congrArg Value.int (nI_add i 1)) ?_
        refine rn_sld (j := (i + 1)) hx hb hX hbl hbA hS1 (by omega) hL dL_law_1173 ?_
        refine lv_aload_n hx hb dL_law_1174 rfl (lv_at hl 2 rfl) ?_
        refine lv_iload hx hb dL_law_1175 (lv_at hl 1 rfl) ?_
        refine lv_iconst (v := 2) hx hb dL_law_1177 (by decide) ?_
        refine lv_iadd hx hb dL_law_1178 ?_
        refine rn_top (y := .int (nI (i + 2))) (congrArg Value.int (nI_add i 2)) ?_
        refine rn_sld (j := (i + 2)) hx hb hX hbl hbA hS1 (by omega) hL dL_law_1179 ?_
        refine lv_aload_n hx hb dL_law_1180 rfl (lv_at hl 2 rfl) ?_
        refine lv_iload hx hb dL_law_1181 (lv_at hl 1 rfl) ?_
        refine lv_iconst (v := 3) hx hb dL_law_1183 (by decide) ?_
        refine lv_iadd hx hb dL_law_1184 ?_
        refine rn_top (y := .int (nI (i + 3))) (congrArg Value.int (nI_add i 3)) ?_
        refine rn_sld (j := (i + 3)) hx hb hX hbl hbA hS1 (by omega) hL dL_law_1185 ?_
        refine rn_wV (As := [.int (xs (i + 1)), .int (xs (i + 2)), .int (xs (i + 3))]) (rest := []) 3 hx hb hml hown hts hG5 hS1 (hMc rf H1.size) (fun q h => (hne q h).2) gL_law_X5_handOver rfl ⟨rfl, rfl⟩ (by decide +kernel) ⟨Nat.le_of_ble_eq_true rfl, Nat.le_of_ble_eq_true rfl⟩ hW1 hW1.1 rfl rfl hl.1 rfl (Nat.le_of_ble_eq_true rfl) ⟨by show cells + 1 + 0 ≤ 630713; omega, by show slots + 6 + 0 ≤ 7203965; omega⟩ dL_law_1186 (fun H2 locs2 hP2 hz2 hk2 hS2 => ?_)
        refine W.eq (g2 := F0 m 1189 ls [.int v]) rfl ?_
        obtain ⟨V2, hM2, hW2, hF2, hat2⟩ := rn_I_next2 hC1 hF1 hfs1 hfo1 hfm1 hat1 hne hP2 hk2
        refine lv_istore (lv' := [(6, .int v), (5, .int k), (4, .int (nI i)), (0, .ref b), (1, .ref h0), (2, .ref m0), (3, .ref o)]) hx hb dL_law_1189 hl (by decide) rfl (fun ls hl => ?_)
        refine lv_aload_n hx hb dL_law_1191 rfl (lv_at hl 5 rfl) ?_
        refine rn_cV (As := []) (rest := []) 0 hx hb hml hown hts hG5 (m_thrown l) gL_law_X5_thrown rfl ⟨rfl, rfl⟩ (by decide +kernel) ⟨Nat.le_of_ble_eq_true rfl, Nat.le_of_ble_eq_true rfl⟩ hW2 hW2.1 rfl rfl hl.1 rfl (Nat.le_of_ble_eq_true rfl) ⟨by show cells + 1 + 0 ≤ 630713; omega, by show slots + 6 + 0 ≤ 7203965; omega⟩ dL_law_1192 ?_
        refine W.eq (g2 := F0 m 1195 ls [.int k]) rfl ?_
        refine lv_iload hx hb dL_law_1195 (lv_at hl 1 rfl) ?_
        refine lv_icmp_eq (tgt := 1202) hx hb dL_law_1197 (by decide) (fun c_1197 => ?_) (fun c_1197 => ?_)
        · refine lv_iload hx hb dL_law_1202 (lv_at hl 1 rfl) ?_
          refine lv_if_ne (tgt := 1219) hx hb dL_law_1204 (by decide) (fun c_1204 => ?_) (fun c_1204 => ?_)
          · refine lv_goto (tgt := 1425) hx hb dL_law_1219 (by decide) ?_
            refine lv_iinc (v := (nI (i + 4))) (lv' := [(4, .int (nI (i + 4))), (6, .int v), (5, .int k), (0, .ref b), (1, .ref h0), (2, .ref m0), (3, .ref o)]) hx hb dL_law_1425 hl (k := 2) rfl (nI_add i 4) (by decide) rfl (fun ls hl => ?_)
            refine lv_goto (tgt := 23) hx hb dL_law_1428 (by decide) ?_
            exact ih (i + 4) σ1 g1 k _ _ _ _ (by omega) (by omega) (by omega) (by omega) ⟨f1, V2, hC1, hF2, hfs1, hfo1, hfm1, hat2, hM2, hW2⟩ hS2 ls (lv_sub hl [0, 3, 4, 5, 6] rfl)
          · refine lv_aload_n hx hb dL_law_1207 rfl (lv_at hl 6 rfl) ?_
            refine lv_iconst (v := 0) hx hb dL_law_1208 (by decide) ?_
            refine rn_lald hx hb hG4 hat2 3 rfl dL_law_1209 ?_
            refine lv_iload hx hb dL_law_1210 (lv_at hl 0 rfl) ?_
            refine lv_i2l hx hb dL_law_1212 rfl ?_
            refine W.lcmp hx hb dL_law_1213 ?_
            refine rn_top (y := .int 0) (by rw [hg1 c_1204, rn_lcmp0]) ?_
            refine lv_if_eq (tgt := 1219) hx hb dL_law_1214 (by decide) (fun c_1214 => ?_) (fun c_1214 => ?_)
            · refine lv_goto (tgt := 1425) hx hb dL_law_1219 (by decide) ?_
              refine lv_iinc (v := (nI (i + 4))) (lv' := [(4, .int (nI (i + 4))), (6, .int v), (5, .int k), (0, .ref b), (1, .ref h0), (2, .ref m0), (3, .ref o)]) hx hb dL_law_1425 hl (k := 2) rfl (nI_add i 4) (by decide) rfl (fun ls hl => ?_)
              refine lv_goto (tgt := 23) hx hb dL_law_1428 (by decide) ?_
              exact ih (i + 4) σ1 g1 k _ _ _ _ (by omega) (by omega) (by omega) (by omega) ⟨f1, V2, hC1, hF2, hfs1, hfo1, hfm1, hat2, hM2, hW2⟩ hS2 ls (lv_sub hl [0, 3, 4, 5, 6] rfl)
            · exact absurd c_1214 (by decide)
        · exact absurd rfl c_1197
      · refine lv_tableIn (off := 1183) (tgt := 1222) hx hb dL_law_39 (by omega) (by omega) (by rw [h9]; rfl) (by decide) ?_
        refine lv_aload_n hx hb dL_law_1222 rfl (lv_at hl 2 rfl) ?_
        refine lv_aload_n hx hb dL_law_1223 rfl (lv_at hl 1 rfl) ?_
        refine lv_iload hx hb dL_law_1224 (lv_at hl 0 rfl) ?_
        refine lv_iconst (v := 1) hx hb dL_law_1226 (by decide) ?_
        refine lv_iadd hx hb dL_law_1227 ?_
        refine rn_top (y := .int (nI (i + 1))) (congrArg Value.int (nI_add i 1)) ?_
        refine rn_sld (j := (i + 1)) hx hb hX hbl hbA hS (by omega) hL dL_law_1228 ?_
        refine lv_aload_n hx hb dL_law_1229 rfl (lv_at hl 1 rfl) ?_
        refine lv_iload hx hb dL_law_1230 (lv_at hl 0 rfl) ?_
        refine lv_iconst (v := 2) hx hb dL_law_1232 (by decide) ?_
        refine lv_iadd hx hb dL_law_1233 ?_
        refine rn_top (y := .int (nI (i + 2))) (congrArg Value.int (nI_add i 2)) ?_
        refine rn_sld (j := (i + 2)) hx hb hX hbl hbA hS (by omega) hL dL_law_1234 ?_
        refine lv_aload_n hx hb dL_law_1235 rfl (lv_at hl 1 rfl) ?_
        refine lv_iload hx hb dL_law_1236 (lv_at hl 0 rfl) ?_
        refine lv_iconst (v := 3) hx hb dL_law_1238 (by decide) ?_
        refine lv_iadd hx hb dL_law_1239 ?_
        refine rn_top (y := .int (nI (i + 3))) (congrArg Value.int (nI_add i 3)) ?_
        refine rn_sld (j := (i + 3)) hx hb hX hbl hbA hS (by omega) hL dL_law_1240 ?_
        refine lv_if_eq (tgt := 1248) hx hb dL_law_1241 (by decide) (fun c_1241 => ?_) (fun c_1241 => ?_)
        · refine lv_iconst (v := 0) hx hb dL_law_1248 (by decide) ?_
          refine lv_aload_n hx hb dL_law_1249 rfl (lv_at hl 4 rfl) ?_
          obtain ⟨f, V, hCe, hF, hfs, hfo, hfm, hat9, hM, hW⟩ := hI
          obtain ⟨hV, aR, aP, aF, ra, pa, fa, hd, dh, hC⟩ := id hCe
          obtain ⟨k, v, σ1, hLc, hMc⟩ := o_open l hfl (D := D) (cL := cL) (g := g) (cI := cI) (m0 := m0) (ma := ma) hV hC hfo hM ((xs (i + 1))) ((xs (i + 2))) false
          refine rn_wL (As := [.ref h0, .int (xs (i + 1)), .int (xs (i + 2)), .int (rn_b false), .ref o]) (rest := []) 5 hx hb hml hown hts hG4 hE hS (fun q h => h) (hLc H.size) (fun q h => h.elim (fun h => by rw [h]; exact ho9) (fun h => h.elim (hfs q) (fun h => Nat.le_trans hS.1 h))) gL_law_L_open rfl ⟨rfl, rfl⟩ (by decide +kernel) ⟨Nat.le_of_ble_eq_true rfl, Nat.le_of_ble_eq_true rfl⟩ ⟨hF, hat9⟩ rfl hl.1 rfl (Nat.le_of_ble_eq_true rfl) ⟨by show cells + 1 ≤ 630713; omega, by show slots + 6 ≤ 7203965; omega⟩ dL_law_1250 (fun H1 locs1 hP1 hz1 hk1 hS1 => ?_)
          refine W.eq (g2 := F0 m 1253 ls [.int k]) rfl ?_
          obtain ⟨f1, g1, hC1, hF1, hfs1, hfo1, hfm1, hg1, hat1, hW1⟩ := rn_I_next hfs hfo hfm hat9 hW hne hS.1 hP1 hk1
          refine lv_istore (lv' := [(5, .int k), (4, .int (nI i)), (0, .ref b), (1, .ref h0), (2, .ref m0), (3, .ref o)]) hx hb dL_law_1253 hl (by decide) rfl (fun ls hl => ?_)
          refine lv_aload_n hx hb dL_law_1255 rfl (lv_at hl 4 rfl) ?_
          refine lv_aload_n hx hb dL_law_1256 rfl (lv_at hl 2 rfl) ?_
          refine lv_iload hx hb dL_law_1257 (lv_at hl 1 rfl) ?_
          refine lv_iconst (v := 1) hx hb dL_law_1259 (by decide) ?_
          refine lv_iadd hx hb dL_law_1260 ?_
          refine rn_top (y := .int (nI (i + 1))) (congrArg Value.int (nI_add i 1)) ?_
          refine rn_sld (j := (i + 1)) hx hb hX hbl hbA hS1 (by omega) hL dL_law_1261 ?_
          refine lv_aload_n hx hb dL_law_1262 rfl (lv_at hl 2 rfl) ?_
          refine lv_iload hx hb dL_law_1263 (lv_at hl 1 rfl) ?_
          refine lv_iconst (v := 2) hx hb dL_law_1265 (by decide) ?_
          refine lv_iadd hx hb dL_law_1266 ?_
          refine rn_top (y := .int (nI (i + 2))) (congrArg Value.int (nI_add i 2)) ?_
          refine rn_sld (j := (i + 2)) hx hb hX hbl hbA hS1 (by omega) hL dL_law_1267 ?_
          refine lv_aload_n hx hb dL_law_1268 rfl (lv_at hl 2 rfl) ?_
          refine lv_iload hx hb dL_law_1269 (lv_at hl 1 rfl) ?_
          refine lv_iconst (v := 3) hx hb dL_law_1271 (by decide) ?_
          refine lv_iadd hx hb dL_law_1272 ?_
          refine rn_top (y := .int (nI (i + 3))) (congrArg Value.int (nI_add i 3)) ?_
          refine rn_sld (j := (i + 3)) hx hb hX hbl hbA hS1 (by omega) hL dL_law_1273 ?_
          refine lv_if_eq (tgt := 1281) hx hb dL_law_1274 (by decide) (fun c_1274 => ?_) (fun c_1274 => ?_)
          · refine lv_iconst (v := 0) hx hb dL_law_1281 (by decide) ?_
            refine rn_wV (As := [.int (xs (i + 1)), .int (xs (i + 2)), .int (rn_b false)]) (rest := []) 3 hx hb hml hown hts hG5 hS1 (hMc rf H1.size) (fun q h => (hne q h).2) gL_law_X5_open rfl ⟨rfl, rfl⟩ (by decide +kernel) ⟨Nat.le_of_ble_eq_true rfl, Nat.le_of_ble_eq_true rfl⟩ hW1 hW1.1 rfl rfl hl.1 rfl (Nat.le_of_ble_eq_true rfl) ⟨by show cells + 1 + 0 ≤ 630713; omega, by show slots + 6 + 0 ≤ 7203965; omega⟩ dL_law_1282 (fun H2 locs2 hP2 hz2 hk2 hS2 => ?_)
            refine W.eq (g2 := F0 m 1285 ls [.int v]) rfl ?_
            obtain ⟨V2, hM2, hW2, hF2, hat2⟩ := rn_I_next2 hC1 hF1 hfs1 hfo1 hfm1 hat1 hne hP2 hk2
            refine lv_istore (lv' := [(6, .int v), (5, .int k), (4, .int (nI i)), (0, .ref b), (1, .ref h0), (2, .ref m0), (3, .ref o)]) hx hb dL_law_1285 hl (by decide) rfl (fun ls hl => ?_)
            refine lv_aload_n hx hb dL_law_1287 rfl (lv_at hl 5 rfl) ?_
            refine rn_cV (As := []) (rest := []) 0 hx hb hml hown hts hG5 (m_thrown l) gL_law_X5_thrown rfl ⟨rfl, rfl⟩ (by decide +kernel) ⟨Nat.le_of_ble_eq_true rfl, Nat.le_of_ble_eq_true rfl⟩ hW2 hW2.1 rfl rfl hl.1 rfl (Nat.le_of_ble_eq_true rfl) ⟨by show cells + 1 + 0 ≤ 630713; omega, by show slots + 6 + 0 ≤ 7203965; omega⟩ dL_law_1288 ?_
            refine W.eq (g2 := F0 m 1291 ls [.int k]) rfl ?_
            refine lv_iload hx hb dL_law_1291 (lv_at hl 1 rfl) ?_
            refine lv_icmp_eq (tgt := 1298) hx hb dL_law_1293 (by decide) (fun c_1293 => ?_) (fun c_1293 => ?_)
            · refine lv_iload hx hb dL_law_1298 (lv_at hl 1 rfl) ?_
              refine lv_if_ne (tgt := 1315) hx hb dL_law_1300 (by decide) (fun c_1300 => ?_) (fun c_1300 => ?_)
              · refine lv_goto (tgt := 1425) hx hb dL_law_1315 (by decide) ?_
                refine lv_iinc (v := (nI (i + 4))) (lv' := [(4, .int (nI (i + 4))), (6, .int v), (5, .int k), (0, .ref b), (1, .ref h0), (2, .ref m0), (3, .ref o)]) hx hb dL_law_1425 hl (k := 2) rfl (nI_add i 4) (by decide) rfl (fun ls hl => ?_)
                refine lv_goto (tgt := 23) hx hb dL_law_1428 (by decide) ?_
                exact ih (i + 4) σ1 g1 k _ _ _ _ (by omega) (by omega) (by omega) (by omega) ⟨f1, V2, hC1, hF2, hfs1, hfo1, hfm1, hat2, hM2, hW2⟩ hS2 ls (lv_sub hl [0, 3, 4, 5, 6] rfl)
              · refine lv_aload_n hx hb dL_law_1303 rfl (lv_at hl 6 rfl) ?_
                refine lv_iconst (v := 0) hx hb dL_law_1304 (by decide) ?_
                refine rn_lald hx hb hG4 hat2 3 rfl dL_law_1305 ?_
                refine lv_iload hx hb dL_law_1306 (lv_at hl 0 rfl) ?_
                refine lv_i2l hx hb dL_law_1308 rfl ?_
                refine W.lcmp hx hb dL_law_1309 ?_
                refine rn_top (y := .int 0) (by rw [hg1 c_1300, rn_lcmp0]) ?_
                refine lv_if_eq (tgt := 1315) hx hb dL_law_1310 (by decide) (fun c_1310 => ?_) (fun c_1310 => ?_)
                · refine lv_goto (tgt := 1425) hx hb dL_law_1315 (by decide) ?_
                  refine lv_iinc (v := (nI (i + 4))) (lv' := [(4, .int (nI (i + 4))), (6, .int v), (5, .int k), (0, .ref b), (1, .ref h0), (2, .ref m0), (3, .ref o)]) hx hb dL_law_1425 hl (k := 2) rfl (nI_add i 4) (by decide) rfl (fun ls hl => ?_)
                  refine lv_goto (tgt := 23) hx hb dL_law_1428 (by decide) ?_
                  exact ih (i + 4) σ1 g1 k _ _ _ _ (by omega) (by omega) (by omega) (by omega) ⟨f1, V2, hC1, hF2, hfs1, hfo1, hfm1, hat2, hM2, hW2⟩ hS2 ls (lv_sub hl [0, 3, 4, 5, 6] rfl)
                · exact absurd c_1310 (by decide)
            · exact absurd rfl c_1293
          · first | exact absurd c_1241 c_1274 | exact absurd c_1274 c_1241
        · refine lv_iconst (v := 1) hx hb dL_law_1244 (by decide) ?_
          refine lv_goto (tgt := 1249) hx hb dL_law_1245 (by decide) ?_
          refine lv_aload_n hx hb dL_law_1249 rfl (lv_at hl 4 rfl) ?_
          obtain ⟨f, V, hCe, hF, hfs, hfo, hfm, hat9, hM, hW⟩ := hI
          obtain ⟨hV, aR, aP, aF, ra, pa, fa, hd, dh, hC⟩ := id hCe
          obtain ⟨k, v, σ1, hLc, hMc⟩ := o_open l hfl (D := D) (cL := cL) (g := g) (cI := cI) (m0 := m0) (ma := ma) hV hC hfo hM ((xs (i + 1))) ((xs (i + 2))) true
          refine rn_wL (As := [.ref h0, .int (xs (i + 1)), .int (xs (i + 2)), .int (rn_b true), .ref o]) (rest := []) 5 hx hb hml hown hts hG4 hE hS (fun q h => h) (hLc H.size) (fun q h => h.elim (fun h => by rw [h]; exact ho9) (fun h => h.elim (hfs q) (fun h => Nat.le_trans hS.1 h))) gL_law_L_open rfl ⟨rfl, rfl⟩ (by decide +kernel) ⟨Nat.le_of_ble_eq_true rfl, Nat.le_of_ble_eq_true rfl⟩ ⟨hF, hat9⟩ rfl hl.1 rfl (Nat.le_of_ble_eq_true rfl) ⟨by show cells + 1 ≤ 630713; omega, by show slots + 6 ≤ 7203965; omega⟩ dL_law_1250 (fun H1 locs1 hP1 hz1 hk1 hS1 => ?_)
          refine W.eq (g2 := F0 m 1253 ls [.int k]) rfl ?_
          obtain ⟨f1, g1, hC1, hF1, hfs1, hfo1, hfm1, hg1, hat1, hW1⟩ := rn_I_next hfs hfo hfm hat9 hW hne hS.1 hP1 hk1
          refine lv_istore (lv' := [(5, .int k), (4, .int (nI i)), (0, .ref b), (1, .ref h0), (2, .ref m0), (3, .ref o)]) hx hb dL_law_1253 hl (by decide) rfl (fun ls hl => ?_)
          refine lv_aload_n hx hb dL_law_1255 rfl (lv_at hl 4 rfl) ?_
          refine lv_aload_n hx hb dL_law_1256 rfl (lv_at hl 2 rfl) ?_
          refine lv_iload hx hb dL_law_1257 (lv_at hl 1 rfl) ?_
          refine lv_iconst (v := 1) hx hb dL_law_1259 (by decide) ?_
          refine lv_iadd hx hb dL_law_1260 ?_
          refine rn_top (y := .int (nI (i + 1))) (congrArg Value.int (nI_add i 1)) ?_
          refine rn_sld (j := (i + 1)) hx hb hX hbl hbA hS1 (by omega) hL dL_law_1261 ?_
          refine lv_aload_n hx hb dL_law_1262 rfl (lv_at hl 2 rfl) ?_
          refine lv_iload hx hb dL_law_1263 (lv_at hl 1 rfl) ?_
          refine lv_iconst (v := 2) hx hb dL_law_1265 (by decide) ?_
          refine lv_iadd hx hb dL_law_1266 ?_
          refine rn_top (y := .int (nI (i + 2))) (congrArg Value.int (nI_add i 2)) ?_
          refine rn_sld (j := (i + 2)) hx hb hX hbl hbA hS1 (by omega) hL dL_law_1267 ?_
          refine lv_aload_n hx hb dL_law_1268 rfl (lv_at hl 2 rfl) ?_
          refine lv_iload hx hb dL_law_1269 (lv_at hl 1 rfl) ?_
          refine lv_iconst (v := 3) hx hb dL_law_1271 (by decide) ?_
          refine lv_iadd hx hb dL_law_1272 ?_
          refine rn_top (y := .int (nI (i + 3))) (congrArg Value.int (nI_add i 3)) ?_
          refine rn_sld (j := (i + 3)) hx hb hX hbl hbA hS1 (by omega) hL dL_law_1273 ?_
          refine lv_if_eq (tgt := 1281) hx hb dL_law_1274 (by decide) (fun c_1274 => ?_) (fun c_1274 => ?_)
          · first | exact absurd c_1241 c_1274 | exact absurd c_1274 c_1241
          · refine lv_iconst (v := 1) hx hb dL_law_1277 (by decide) ?_
            refine lv_goto (tgt := 1282) hx hb dL_law_1278 (by decide) ?_
            refine rn_wV (As := [.int (xs (i + 1)), .int (xs (i + 2)), .int (rn_b true)]) (rest := []) 3 hx hb hml hown hts hG5 hS1 (hMc rf H1.size) (fun q h => (hne q h).2) gL_law_X5_open rfl ⟨rfl, rfl⟩ (by decide +kernel) ⟨Nat.le_of_ble_eq_true rfl, Nat.le_of_ble_eq_true rfl⟩ hW1 hW1.1 rfl rfl hl.1 rfl (Nat.le_of_ble_eq_true rfl) ⟨by show cells + 1 + 0 ≤ 630713; omega, by show slots + 6 + 0 ≤ 7203965; omega⟩ dL_law_1282 (fun H2 locs2 hP2 hz2 hk2 hS2 => ?_)
            refine W.eq (g2 := F0 m 1285 ls [.int v]) rfl ?_
            obtain ⟨V2, hM2, hW2, hF2, hat2⟩ := rn_I_next2 hC1 hF1 hfs1 hfo1 hfm1 hat1 hne hP2 hk2
            refine lv_istore (lv' := [(6, .int v), (5, .int k), (4, .int (nI i)), (0, .ref b), (1, .ref h0), (2, .ref m0), (3, .ref o)]) hx hb dL_law_1285 hl (by decide) rfl (fun ls hl => ?_)
            refine lv_aload_n hx hb dL_law_1287 rfl (lv_at hl 5 rfl) ?_
            refine rn_cV (As := []) (rest := []) 0 hx hb hml hown hts hG5 (m_thrown l) gL_law_X5_thrown rfl ⟨rfl, rfl⟩ (by decide +kernel) ⟨Nat.le_of_ble_eq_true rfl, Nat.le_of_ble_eq_true rfl⟩ hW2 hW2.1 rfl rfl hl.1 rfl (Nat.le_of_ble_eq_true rfl) ⟨by show cells + 1 + 0 ≤ 630713; omega, by show slots + 6 + 0 ≤ 7203965; omega⟩ dL_law_1288 ?_
            refine W.eq (g2 := F0 m 1291 ls [.int k]) rfl ?_
            refine lv_iload hx hb dL_law_1291 (lv_at hl 1 rfl) ?_
            refine lv_icmp_eq (tgt := 1298) hx hb dL_law_1293 (by decide) (fun c_1293 => ?_) (fun c_1293 => ?_)
            · refine lv_iload hx hb dL_law_1298 (lv_at hl 1 rfl) ?_
              refine lv_if_ne (tgt := 1315) hx hb dL_law_1300 (by decide) (fun c_1300 => ?_) (fun c_1300 => ?_)
              · refine lv_goto (tgt := 1425) hx hb dL_law_1315 (by decide) ?_
                refine lv_iinc (v := (nI (i + 4))) (lv' := [(4, .int (nI (i + 4))), (6, .int v), (5, .int k), (0, .ref b), (1, .ref h0), (2, .ref m0), (3, .ref o)]) hx hb dL_law_1425 hl (k := 2) rfl (nI_add i 4) (by decide) rfl (fun ls hl => ?_)
                refine lv_goto (tgt := 23) hx hb dL_law_1428 (by decide) ?_
                exact ih (i + 4) σ1 g1 k _ _ _ _ (by omega) (by omega) (by omega) (by omega) ⟨f1, V2, hC1, hF2, hfs1, hfo1, hfm1, hat2, hM2, hW2⟩ hS2 ls (lv_sub hl [0, 3, 4, 5, 6] rfl)
              · refine lv_aload_n hx hb dL_law_1303 rfl (lv_at hl 6 rfl) ?_
                refine lv_iconst (v := 0) hx hb dL_law_1304 (by decide) ?_
                refine rn_lald hx hb hG4 hat2 3 rfl dL_law_1305 ?_
                refine lv_iload hx hb dL_law_1306 (lv_at hl 0 rfl) ?_
                refine lv_i2l hx hb dL_law_1308 rfl ?_
                refine W.lcmp hx hb dL_law_1309 ?_
                refine rn_top (y := .int 0) (by rw [hg1 c_1300, rn_lcmp0]) ?_
                refine lv_if_eq (tgt := 1315) hx hb dL_law_1310 (by decide) (fun c_1310 => ?_) (fun c_1310 => ?_)
                · refine lv_goto (tgt := 1425) hx hb dL_law_1315 (by decide) ?_
                  refine lv_iinc (v := (nI (i + 4))) (lv' := [(4, .int (nI (i + 4))), (6, .int v), (5, .int k), (0, .ref b), (1, .ref h0), (2, .ref m0), (3, .ref o)]) hx hb dL_law_1425 hl (k := 2) rfl (nI_add i 4) (by decide) rfl (fun ls hl => ?_)
                  refine lv_goto (tgt := 23) hx hb dL_law_1428 (by decide) ?_
                  exact ih (i + 4) σ1 g1 k _ _ _ _ (by omega) (by omega) (by omega) (by omega) ⟨f1, V2, hC1, hF2, hfs1, hfo1, hfm1, hat2, hM2, hW2⟩ hS2 ls (lv_sub hl [0, 3, 4, 5, 6] rfl)
                · exact absurd c_1310 (by decide)
            · exact absurd rfl c_1293
      · refine lv_tableIn (off := 1279) (tgt := 1318) hx hb dL_law_39 (by omega) (by omega) (by rw [h9]; rfl) (by decide) ?_
        refine lv_aload_n hx hb dL_law_1318 rfl (lv_at hl 2 rfl) ?_
        refine lv_aload_n hx hb dL_law_1319 rfl (lv_at hl 1 rfl) ?_
        refine lv_iload hx hb dL_law_1320 (lv_at hl 0 rfl) ?_
        refine lv_iconst (v := 1) hx hb dL_law_1322 (by decide) ?_
        refine lv_iadd hx hb dL_law_1323 ?_
        refine rn_top (y := .int (nI (i + 1))) (congrArg Value.int (nI_add i 1)) ?_
        refine rn_sld (j := (i + 1)) hx hb hX hbl hbA hS (by omega) hL dL_law_1324 ?_
        refine lv_aload_n hx hb dL_law_1325 rfl (lv_at hl 1 rfl) ?_
        refine lv_iload hx hb dL_law_1326 (lv_at hl 0 rfl) ?_
        refine lv_iconst (v := 2) hx hb dL_law_1328 (by decide) ?_
        refine lv_iadd hx hb dL_law_1329 ?_
        refine rn_top (y := .int (nI (i + 2))) (congrArg Value.int (nI_add i 2)) ?_
        refine rn_sld (j := (i + 2)) hx hb hX hbl hbA hS (by omega) hL dL_law_1330 ?_
        refine lv_aload_n hx hb dL_law_1331 rfl (lv_at hl 4 rfl) ?_
        obtain ⟨f, V, hCe, hF, hfs, hfo, hfm, hat9, hM, hW⟩ := hI
        obtain ⟨hV, aR, aP, aF, ra, pa, fa, hd, dh, hC⟩ := id hCe
        obtain ⟨k, v, σ1, hLc, hMc⟩ := o_ownerSeenBy l hfl (D := D) (cL := cL) (g := g) (cI := cI) (m0 := m0) (ma := ma) hV hC hfo hM ((xs (i + 1))) ((xs (i + 2)))
        refine rn_wL (As := [.ref h0, .int (xs (i + 1)), .int (xs (i + 2)), .ref o]) (rest := []) 4 hx hb hml hown hts hG4 hE hS (fun q h => h) (hLc H.size) (fun q h => h.elim (fun h => by rw [h]; exact ho9) (fun h => h.elim (hfs q) (fun h => Nat.le_trans hS.1 h))) gL_law_L_ownerSeenBy rfl ⟨rfl, rfl⟩ (by decide +kernel) ⟨Nat.le_of_ble_eq_true rfl, Nat.le_of_ble_eq_true rfl⟩ ⟨hF, hat9⟩ rfl hl.1 rfl (Nat.le_of_ble_eq_true rfl) ⟨by show cells + 1 ≤ 630713; omega, by show slots + 6 ≤ 7203965; omega⟩ dL_law_1332 (fun H1 locs1 hP1 hz1 hk1 hS1 => ?_)
        refine W.eq (g2 := F0 m 1335 ls [.int k]) rfl ?_
        obtain ⟨f1, g1, hC1, hF1, hfs1, hfo1, hfm1, hg1, hat1, hW1⟩ := rn_I_next hfs hfo hfm hat9 hW hne hS.1 hP1 hk1
        refine lv_istore (lv' := [(5, .int k), (4, .int (nI i)), (0, .ref b), (1, .ref h0), (2, .ref m0), (3, .ref o)]) hx hb dL_law_1335 hl (by decide) rfl (fun ls hl => ?_)
        refine lv_aload_n hx hb dL_law_1337 rfl (lv_at hl 4 rfl) ?_
        refine lv_aload_n hx hb dL_law_1338 rfl (lv_at hl 2 rfl) ?_
        refine lv_iload hx hb dL_law_1339 (lv_at hl 1 rfl) ?_
        refine lv_iconst (v := 1) hx hb dL_law_1341 (by decide) ?_
        refine lv_iadd hx hb dL_law_1342 ?_
        refine rn_top (y := .int (nI (i + 1))) (congrArg Value.int (nI_add i 1)) ?_
        refine rn_sld (j := (i + 1)) hx hb hX hbl hbA hS1 (by omega) hL dL_law_1343 ?_
        refine lv_aload_n hx hb dL_law_1344 rfl (lv_at hl 2 rfl) ?_
        refine lv_iload hx hb dL_law_1345 (lv_at hl 1 rfl) ?_
        refine lv_iconst (v := 2) hx hb dL_law_1347 (by decide) ?_
        refine lv_iadd hx hb dL_law_1348 ?_
        refine rn_top (y := .int (nI (i + 2))) (congrArg Value.int (nI_add i 2)) ?_
        refine rn_sld (j := (i + 2)) hx hb hX hbl hbA hS1 (by omega) hL dL_law_1349 ?_
        refine rn_wV (As := [.int (xs (i + 1)), .int (xs (i + 2))]) (rest := []) 2 hx hb hml hown hts hG5 hS1 (hMc rf H1.size) (fun q h => (hne q h).2) gL_law_X5_ownerSeenBy rfl ⟨rfl, rfl⟩ (by decide +kernel) ⟨Nat.le_of_ble_eq_true rfl, Nat.le_of_ble_eq_true rfl⟩ hW1 hW1.1 rfl rfl hl.1 rfl (Nat.le_of_ble_eq_true rfl) ⟨by show cells + 1 + 0 ≤ 630713; omega, by show slots + 6 + 0 ≤ 7203965; omega⟩ dL_law_1350 (fun H2 locs2 hP2 hz2 hk2 hS2 => ?_)
        refine W.eq (g2 := F0 m 1353 ls [.int v]) rfl ?_
        obtain ⟨V2, hM2, hW2, hF2, hat2⟩ := rn_I_next2 hC1 hF1 hfs1 hfo1 hfm1 hat1 hne hP2 hk2
        refine lv_istore (lv' := [(6, .int v), (5, .int k), (4, .int (nI i)), (0, .ref b), (1, .ref h0), (2, .ref m0), (3, .ref o)]) hx hb dL_law_1353 hl (by decide) rfl (fun ls hl => ?_)
        refine lv_aload_n hx hb dL_law_1355 rfl (lv_at hl 5 rfl) ?_
        refine rn_cV (As := []) (rest := []) 0 hx hb hml hown hts hG5 (m_thrown l) gL_law_X5_thrown rfl ⟨rfl, rfl⟩ (by decide +kernel) ⟨Nat.le_of_ble_eq_true rfl, Nat.le_of_ble_eq_true rfl⟩ hW2 hW2.1 rfl rfl hl.1 rfl (Nat.le_of_ble_eq_true rfl) ⟨by show cells + 1 + 0 ≤ 630713; omega, by show slots + 6 + 0 ≤ 7203965; omega⟩ dL_law_1356 ?_
        refine W.eq (g2 := F0 m 1359 ls [.int k]) rfl ?_
        refine lv_iload hx hb dL_law_1359 (lv_at hl 1 rfl) ?_
        refine lv_icmp_eq (tgt := 1366) hx hb dL_law_1361 (by decide) (fun c_1361 => ?_) (fun c_1361 => ?_)
        · refine lv_iload hx hb dL_law_1366 (lv_at hl 1 rfl) ?_
          refine lv_if_ne (tgt := 1383) hx hb dL_law_1368 (by decide) (fun c_1368 => ?_) (fun c_1368 => ?_)
          · refine lv_goto (tgt := 1425) hx hb dL_law_1383 (by decide) ?_
            refine lv_iinc (v := (nI (i + 4))) (lv' := [(4, .int (nI (i + 4))), (6, .int v), (5, .int k), (0, .ref b), (1, .ref h0), (2, .ref m0), (3, .ref o)]) hx hb dL_law_1425 hl (k := 2) rfl (nI_add i 4) (by decide) rfl (fun ls hl => ?_)
            refine lv_goto (tgt := 23) hx hb dL_law_1428 (by decide) ?_
            exact ih (i + 4) σ1 g1 k _ _ _ _ (by omega) (by omega) (by omega) (by omega) ⟨f1, V2, hC1, hF2, hfs1, hfo1, hfm1, hat2, hM2, hW2⟩ hS2 ls (lv_sub hl [0, 3, 4, 5, 6] rfl)
          · refine lv_aload_n hx hb dL_law_1371 rfl (lv_at hl 6 rfl) ?_
            refine lv_iconst (v := 0) hx hb dL_law_1372 (by decide) ?_
            refine rn_lald hx hb hG4 hat2 3 rfl dL_law_1373 ?_
            refine lv_iload hx hb dL_law_1374 (lv_at hl 0 rfl) ?_
            refine lv_i2l hx hb dL_law_1376 rfl ?_
            refine W.lcmp hx hb dL_law_1377 ?_
            refine rn_top (y := .int 0) (by rw [hg1 c_1368, rn_lcmp0]) ?_
            refine lv_if_eq (tgt := 1383) hx hb dL_law_1378 (by decide) (fun c_1378 => ?_) (fun c_1378 => ?_)
            · refine lv_goto (tgt := 1425) hx hb dL_law_1383 (by decide) ?_
              refine lv_iinc (v := (nI (i + 4))) (lv' := [(4, .int (nI (i + 4))), (6, .int v), (5, .int k), (0, .ref b), (1, .ref h0), (2, .ref m0), (3, .ref o)]) hx hb dL_law_1425 hl (k := 2) rfl (nI_add i 4) (by decide) rfl (fun ls hl => ?_)
              refine lv_goto (tgt := 23) hx hb dL_law_1428 (by decide) ?_
              exact ih (i + 4) σ1 g1 k _ _ _ _ (by omega) (by omega) (by omega) (by omega) ⟨f1, V2, hC1, hF2, hfs1, hfo1, hfm1, hat2, hM2, hW2⟩ hS2 ls (lv_sub hl [0, 3, 4, 5, 6] rfl)
            · exact absurd c_1378 (by decide)
        · exact absurd rfl c_1361
      · refine lv_tableIn (off := 1347) (tgt := 1386) hx hb dL_law_39 (by omega) (by omega) (by rw [h9]; rfl) (by decide) ?_
        refine lv_aload_n hx hb dL_law_1386 rfl (lv_at hl 2 rfl) ?_
        obtain ⟨f, V, hCe, hF, hfs, hfo, hfm, hat9, hM, hW⟩ := hI
        obtain ⟨hV, aR, aP, aF, ra, pa, fa, hd, dh, hC⟩ := id hCe
        refine rn_cV (As := []) (rest := []) 0 hx hb hml hown hts hG3 (c_files l hV hC) gL_law_X4_files rfl ⟨rfl, rfl⟩ (by decide +kernel) ⟨Nat.le_of_ble_eq_true rfl, Nat.le_of_ble_eq_true rfl⟩ hF (hF _ _ hC.1.1) rfl rfl hl.1 rfl (Nat.le_of_ble_eq_true rfl) ⟨by show cells ≤ 630713; omega, by show slots ≤ 7203965; omega⟩ dL_law_1387 ?_
        refine W.eq (g2 := F0 m 1390 ls [.int (nI σ.fn)]) rfl ?_
        refine lv_aload_n hx hb dL_law_1390 rfl (lv_at hl 3 rfl) ?_
        refine rn_wV (As := []) (rest := [.int (nI σ.fn)]) 0 hx hb hml hown hts hG5 hS (n_files l hV hM H.size) (fun q h => (hne q h).2) gL_law_X5_files rfl ⟨rfl, rfl⟩ (by decide +kernel) ⟨Nat.le_of_ble_eq_true rfl, Nat.le_of_ble_eq_true rfl⟩ hW hW.1 rfl rfl hl.1 rfl (Nat.le_of_ble_eq_true rfl) ⟨by show cells + 0 ≤ 630713; omega, by show slots + 0 ≤ 7203965; omega⟩ dL_law_1391 (fun H2 locs2 hP2 hz2 hk2 hS2 => ?_)
        refine W.eq (g2 := F0 m 1394 ls [.int (nI σ.fn), .int (nI σ.fn)]) rfl ?_
        obtain ⟨V2, hM2, hW2, hF2, hat2⟩ := rn_I_next2 hCe hF hfs hfo hfm hat9 hne hP2 hk2
        refine lv_icmp_eq (tgt := 1425) hx hb dL_law_1394 (by decide) (fun c_1394 => ?_) (fun c_1394 => ?_)
        · refine lv_iinc (v := (nI (i + 4))) (lv' := [(4, .int (nI (i + 4))), (0, .ref b), (1, .ref h0), (2, .ref m0), (3, .ref o)]) hx hb dL_law_1425 hl (k := 0) rfl (nI_add i 4) (by decide) rfl (fun ls hl => ?_)
          refine lv_goto (tgt := 23) hx hb dL_law_1428 (by decide) ?_
          exact ih (i + 4) σ g 0 _ _ _ _ (by omega) (by omega) (by omega) (by omega) ⟨f, V2, hCe, hF2, hfs, hfo, hfm, hat2, hM2, hW2⟩ hS2 ls (lv_sub hl [0, 1, 2, 3, 4] rfl)
        · exact absurd rfl c_1394
      · refine lv_tableIn (off := 1360) (tgt := 1399) hx hb dL_law_39 (by omega) (by omega) (by rw [h9]; rfl) (by decide) ?_
        refine lv_aload_n hx hb dL_law_1399 rfl (lv_at hl 2 rfl) ?_
        obtain ⟨f, V, hCe, hF, hfs, hfo, hfm, hat9, hM, hW⟩ := hI
        obtain ⟨hV, aR, aP, aF, ra, pa, fa, hd, dh, hC⟩ := id hCe
        refine rn_cV (As := []) (rest := []) 0 hx hb hml hown hts hG3 (c_refusals l hV hC) gL_law_X4_refusals rfl ⟨rfl, rfl⟩ (by decide +kernel) ⟨Nat.le_of_ble_eq_true rfl, Nat.le_of_ble_eq_true rfl⟩ hF (hF _ _ hC.1.1) rfl rfl hl.1 rfl (Nat.le_of_ble_eq_true rfl) ⟨by show cells ≤ 630713; omega, by show slots ≤ 7203965; omega⟩ dL_law_1400 ?_
        refine W.eq (g2 := F0 m 1403 ls [.int σ.rc]) rfl ?_
        refine lv_aload_n hx hb dL_law_1403 rfl (lv_at hl 3 rfl) ?_
        refine rn_wV (As := []) (rest := [.int σ.rc]) 0 hx hb hml hown hts hG5 hS (n_refusals l hV hM H.size) (fun q h => (hne q h).2) gL_law_X5_refusals rfl ⟨rfl, rfl⟩ (by decide +kernel) ⟨Nat.le_of_ble_eq_true rfl, Nat.le_of_ble_eq_true rfl⟩ hW hW.1 rfl rfl hl.1 rfl (Nat.le_of_ble_eq_true rfl) ⟨by show cells + 0 ≤ 630713; omega, by show slots + 0 ≤ 7203965; omega⟩ dL_law_1404 (fun H2 locs2 hP2 hz2 hk2 hS2 => ?_)
        refine W.eq (g2 := F0 m 1407 ls [.int σ.rc, .int σ.rc]) rfl ?_
        obtain ⟨V2, hM2, hW2, hF2, hat2⟩ := rn_I_next2 hCe hF hfs hfo hfm hat9 hne hP2 hk2
        refine lv_icmp_eq (tgt := 1425) hx hb dL_law_1407 (by decide) (fun c_1407 => ?_) (fun c_1407 => ?_)
        · refine lv_iinc (v := (nI (i + 4))) (lv' := [(4, .int (nI (i + 4))), (0, .ref b), (1, .ref h0), (2, .ref m0), (3, .ref o)]) hx hb dL_law_1425 hl (k := 0) rfl (nI_add i 4) (by decide) rfl (fun ls hl => ?_)
          refine lv_goto (tgt := 23) hx hb dL_law_1428 (by decide) ?_
          exact ih (i + 4) σ g 0 _ _ _ _ (by omega) (by omega) (by omega) (by omega) ⟨f, V2, hCe, hF2, hfs, hfo, hfm, hat2, hM2, hW2⟩ hS2 ls (lv_sub hl [0, 1, 2, 3, 4] rfl)
        · exact absurd rfl c_1407
      · refine lv_tableIn (off := 1373) (tgt := 1412) hx hb dL_law_39 (by omega) (by omega) (by rw [h9]; rfl) (by decide) ?_
        refine lv_aload_n hx hb dL_law_1412 rfl (lv_at hl 2 rfl) ?_
        obtain ⟨f, V, hCe, hF, hfs, hfo, hfm, hat9, hM, hW⟩ := hI
        obtain ⟨hV, aR, aP, aF, ra, pa, fa, hd, dh, hC⟩ := id hCe
        refine rn_cV (As := []) (rest := []) 0 hx hb hml hown hts hG3 (c_lastRefusal l hV hC) gL_law_X4_lastRefusal rfl ⟨rfl, rfl⟩ (by decide +kernel) ⟨Nat.le_of_ble_eq_true rfl, Nat.le_of_ble_eq_true rfl⟩ hF (hF _ _ hC.1.1) rfl rfl hl.1 rfl (Nat.le_of_ble_eq_true rfl) ⟨by show cells ≤ 630713; omega, by show slots ≤ 7203965; omega⟩ dL_law_1413 ?_
        refine W.eq (g2 := F0 m 1416 ls [.int σ.la]) rfl ?_
        refine lv_aload_n hx hb dL_law_1416 rfl (lv_at hl 3 rfl) ?_
        refine rn_wV (As := []) (rest := [.int σ.la]) 0 hx hb hml hown hts hG5 hS (n_lastRefusal l hV hM H.size) (fun q h => (hne q h).2) gL_law_X5_lastRefusal rfl ⟨rfl, rfl⟩ (by decide +kernel) ⟨Nat.le_of_ble_eq_true rfl, Nat.le_of_ble_eq_true rfl⟩ hW hW.1 rfl rfl hl.1 rfl (Nat.le_of_ble_eq_true rfl) ⟨by show cells + 0 ≤ 630713; omega, by show slots + 0 ≤ 7203965; omega⟩ dL_law_1417 (fun H2 locs2 hP2 hz2 hk2 hS2 => ?_)
        refine W.eq (g2 := F0 m 1420 ls [.int σ.la, .int σ.la]) rfl ?_
        obtain ⟨V2, hM2, hW2, hF2, hat2⟩ := rn_I_next2 hCe hF hfs hfo hfm hat9 hne hP2 hk2
        refine lv_icmp_eq (tgt := 1425) hx hb dL_law_1420 (by decide) (fun c_1420 => ?_) (fun c_1420 => ?_)
        · refine lv_iinc (v := (nI (i + 4))) (lv' := [(4, .int (nI (i + 4))), (0, .ref b), (1, .ref h0), (2, .ref m0), (3, .ref o)]) hx hb dL_law_1425 hl (k := 0) rfl (nI_add i 4) (by decide) rfl (fun ls hl => ?_)
          refine lv_goto (tgt := 23) hx hb dL_law_1428 (by decide) ?_
          exact ih (i + 4) σ g 0 _ _ _ _ (by omega) (by omega) (by omega) (by omega) ⟨f, V2, hCe, hF2, hfs, hfo, hfm, hat2, hM2, hW2⟩ hS2 ls (lv_sub hl [0, 1, 2, 3, 4] rfl)
        · exact absurd rfl c_1420
