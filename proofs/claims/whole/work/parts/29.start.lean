theorem lt_init : Cond.initialized "java/lang/Throwable" ∈ lw_tbl := List.mem_append_right _ (List.mem_of_getElem? (i := 5) (by decide +kernel))
theorem lt_ls1 : Cond.laysStatic "java/lang/Throwable" "UNASSIGNED_STACK" "[Ljava/lang/StackTraceElement;" ∈ lw_tbl := List.mem_append_right _ (List.mem_of_getElem? (i := 157) (by decide +kernel))
theorem lt_ls2 : Cond.laysStatic "java/lang/Throwable" "SUPPRESSED_SENTINEL" "Ljava/util/List;" ∈ lw_tbl := List.mem_append_right _ (List.mem_of_getElem? (i := 159) (by decide +kernel))
theorem lt_caIO : Cond.castable "java/lang/IndexOutOfBoundsException" "java/lang/IndexOutOfBoundsException" ∈ lw_tbl := List.mem_append_right _ (List.mem_of_getElem? (i := 132) (by decide +kernel))
theorem lt_caIS : Cond.castable "java/lang/IllegalStateException" "java/lang/IllegalStateException" ∈ lw_tbl := List.mem_append_right _ (List.mem_of_getElem? (i := 200) (by decide +kernel))
theorem lt_caIA : Cond.castable "java/lang/IllegalArgumentException" "java/lang/IllegalArgumentException" ∈ lw_tbl := List.mem_append_right _ (List.mem_of_getElem? (i := 231) (by decide +kernel))
theorem lt_deR : Cond.declares ⟨"java/lang/RuntimeException", "<init>", "(Ljava/lang/String;)V"⟩ ∈ lw_tbl := List.mem_append_right _ (List.mem_of_getElem? (i := 134) (by decide +kernel))
theorem lt_deE : Cond.declares ⟨"java/lang/Exception", "<init>", "(Ljava/lang/String;)V"⟩ ∈ lw_tbl := List.mem_append_right _ (List.mem_of_getElem? (i := 136) (by decide +kernel))
theorem lt_deT : Cond.declares ⟨"java/lang/Throwable", "<init>", "(Ljava/lang/String;)V"⟩ ∈ lw_tbl := List.mem_append_right _ (List.mem_of_getElem? (i := 138) (by decide +kernel))
theorem lt_nest : Cond.methodLinkNest RX1 26 yX4_isOrIsInside RX4 ∈ lw_tbl := List.mem_append_right _ (List.mem_of_getElem? (i := 329) (by decide +kernel))
theorem lt_aoR : Cond.arrayOver (.object "RoomNumbers$Room") ∈ lw_tbl := List.mem_append_right _ (List.mem_of_getElem? (i := 46) (by decide +kernel))
theorem lt_aoP : Cond.arrayOver (.object "RoomNumbers$HouseProcess") ∈ lw_tbl := List.mem_append_right _ (List.mem_of_getElem? (i := 48) (by decide +kernel))
theorem lt_aoF : Cond.arrayOver (.object "RoomNumbers$HouseFile") ∈ lw_tbl := List.mem_append_right _ (List.mem_of_getElem? (i := 68) (by decide +kernel))
theorem lt_aI : Cond.arrayClass .int ∈ lw_tbl := List.mem_append_right _ (List.mem_of_getElem? (i := 537) (by decide +kernel))
theorem lt_aL : Cond.arrayClass .long ∈ lw_tbl := List.mem_append_right _ (List.mem_of_getElem? (i := 708) (by decide +kernel))
theorem lt_s59 : Cond.stringRef "RoomNumbers" 59 "there are 10 rooms" ∈ lw_tbl := List.mem_append_right _ (List.mem_of_getElem? (i := 207) (by decide +kernel))
theorem lt_s82 : Cond.stringRef "RoomNumbers" 82 "a length is 1 to 999" ∈ lw_tbl := List.mem_append_right _ (List.mem_of_getElem? (i := 245) (by decide +kernel))
theorem lt_s89 : Cond.stringRef "RoomNumbers" 89 "the draft has 3 lines" ∈ lw_tbl := List.mem_append_right _ (List.mem_of_getElem? (i := 249) (by decide +kernel))
theorem lt_s105 : Cond.stringRef "RoomNumbers" 105 "the room 0 has no map" ∈ lw_tbl := List.mem_append_right _ (List.mem_of_getElem? (i := 288) (by decide +kernel))
theorem lt_s147 : Cond.stringRef "RoomNumbers" 147 "there are 12 processes" ∈ lw_tbl := List.mem_append_right _ (List.mem_of_getElem? (i := 379) (by decide +kernel))
theorem lt_s152 : Cond.stringRef "RoomNumbers" 152 "rights are 0 to 15" ∈ lw_tbl := List.mem_append_right _ (List.mem_of_getElem? (i := 387) (by decide +kernel))
theorem lt_s161 : Cond.stringRef "RoomNumbers" 161 "a mode is 0 to 15" ∈ lw_tbl := List.mem_append_right _ (List.mem_of_getElem? (i := 431) (by decide +kernel))
theorem lt_s163 : Cond.stringRef "RoomNumbers" 163 "there are 20 files" ∈ lw_tbl := List.mem_append_right _ (List.mem_of_getElem? (i := 432) (by decide +kernel))
theorem lt_s177 : Cond.stringRef "RoomNumbers" 177 "no such room" ∈ lw_tbl := List.mem_append_right _ (List.mem_of_getElem? (i := 287) (by decide +kernel))
theorem lt_s179 : Cond.stringRef "RoomNumbers" 179 "no such process" ∈ lw_tbl := List.mem_append_right _ (List.mem_of_getElem? (i := 171) (by decide +kernel))
theorem lt_s181 : Cond.stringRef "RoomNumbers" 181 "no such file" ∈ lw_tbl := List.mem_append_right _ (List.mem_of_getElem? (i := 457) (by decide +kernel))
theorem lt_s183 : Cond.stringRef "RoomNumbers" 183 "a number is 0 to 998" ∈ lw_tbl := List.mem_append_right _ (List.mem_of_getElem? (i := 238) (by decide +kernel))
theorem lt_in0 : Cond.instantiable RX0 2 ∈ lw_tbl := List.mem_append_right _ (List.mem_of_getElem? (i := 433) (by decide +kernel))
theorem lt_in1 : Cond.instantiable RX1 3 ∈ lw_tbl := List.mem_append_right _ (List.mem_of_getElem? (i := 49) (by decide +kernel))
theorem lt_in2 : Cond.instantiable RX2 4 ∈ lw_tbl := List.mem_append_right _ (List.mem_of_getElem? (i := 251) (by decide +kernel))
theorem lt_in3 : Cond.instantiable RX3 4 ∈ lw_tbl := List.mem_append_right _ (List.mem_of_getElem? (i := 22) (by decide +kernel))
theorem lt_in4 : Cond.instantiable RX4 9 ∈ lw_tbl := List.mem_append_right _ (List.mem_of_getElem? (i := 14) (by decide +kernel))
theorem lt_in5 : Cond.instantiable RX5 18 ∈ lw_tbl := List.mem_append_right _ (List.mem_of_getElem? (i := 477) (by decide +kernel))
theorem lt_cl8 : Cond.classLink RL 8 RX4 ∈ lw_tbl := List.mem_append_right _ (List.mem_of_getElem? (i := 13) (by decide +kernel))
theorem lt_cl74 : Cond.classLink RL 74 RX5 ∈ lw_tbl := List.mem_append_right _ (List.mem_of_getElem? (i := 476) (by decide +kernel))
theorem lt_i4 : Cond.initialized RX4 ∈ lw_tbl := List.mem_append_right _ (List.mem_of_getElem? (i := 1) (by decide +kernel))
theorem lt_i5 : Cond.initialized RX5 ∈ lw_tbl := List.mem_append_right _ (List.mem_of_getElem? (i := 4) (by decide +kernel))
theorem lt_m73 : Cond.methodLink RL 73 yX4_init ∈ lw_tbl := List.mem_append_right _ (List.mem_of_getElem? (i := 15) (by decide +kernel))
theorem lt_m76 : Cond.methodLink RL 76 yX5_init ∈ lw_tbl := List.mem_append_right _ (List.mem_of_getElem? (i := 478) (by decide +kernel))
theorem lt_im4 : Cond.instanceMethod yX4_init ∈ lw_tbl := List.mem_append_right _ (List.mem_of_getElem? (i := 16) (by decide +kernel))
theorem lt_im5 : Cond.instanceMethod yX5_init ∈ lw_tbl := List.mem_append_right _ (List.mem_of_getElem? (i := 479) (by decide +kernel))
/-- what the start gives of what is thrown -/
theorem rn_E_start {s : State} {b : Nat} (hts : ∀ w ∈ lw_tbl, w.before #[Value.ref b] s = true) (hgv : (Jvm.Cond.and given_1 narrow_1).before #[Value.ref b] s = true) {cH : ClassId} (hcur : s.vm.findClass "RoomNumbers" = some cH) : rn_E s := by
  have hs := flat_of_before _ hgv
  have hA : ∀ a : Nat, a < s.heap.size → ¬ (s.heap.size ≤ a) := fun a ha => Nat.not_le.mpr ha
  refine ⟨⟨vx_Zqof (hts _ lt_ls1) (hts _ lt_init) (hs _ (by decide +kernel)) hA, vx_Zqof (hts _ lt_ls2) (hts _ lt_init) (hs _ (by decide +kernel)) hA⟩, ⟨fun q hq => ?_, fun y hy => ?_⟩, fun q hq => ?_, fun q hq => ?_⟩
  · rcases List.mem_cons.mp hq with rfl | hq
    · exact va_Nw.of rfl (hts _ lt_caIO)
    rcases List.mem_cons.mp hq with rfl | hq
    · exact va_Nw.of rfl (hts _ lt_caIS)
    rw [List.mem_singleton.mp hq]
    exact va_Nw.of rfl (hts _ lt_caIA)
  · rcases List.mem_cons.mp hy with rfl | hy
    · exact va_Nw.of rfl (hts _ lt_deR)
    rcases List.mem_cons.mp hy with rfl | hy
    · exact va_Nw.of rfl (hts _ lt_deE)
    rw [List.mem_singleton.mp hy]
    exact va_Nw.of rfl (hts _ lt_deT)
  · rcases List.mem_cons.mp hq with rfl | hq
    · exact va_Nc.of (hs _ (by decide +kernel))
    rcases List.mem_cons.mp hq with rfl | hq
    · exact va_Nc.of (hs _ (by decide +kernel))
    rcases List.mem_cons.mp hq with rfl | hq
    · exact va_Nc.of (hs _ (by decide +kernel))
    rcases List.mem_cons.mp hq with rfl | hq
    · exact va_Nc.of (hs _ (by decide +kernel))
    rcases List.mem_cons.mp hq with rfl | hq
    · exact va_Nc.of (hs _ (by decide +kernel))
    rw [List.mem_singleton.mp hq]
    exact va_Nc.of (hs _ (by decide +kernel))
  · rcases List.mem_cons.mp hq with rfl | hq
    · obtain ⟨k, cf, i, a, -, -, -, -, -, h9⟩ := Cond.stringRef_spec hcur (hts _ lt_s59)
      exact ⟨a, vk_R.of (hts _ lt_s59) h9⟩
    rcases List.mem_cons.mp hq with rfl | hq
    · obtain ⟨k, cf, i, a, -, -, -, -, -, h9⟩ := Cond.stringRef_spec hcur (hts _ lt_s82)
      exact ⟨a, vk_R.of (hts _ lt_s82) h9⟩
    rcases List.mem_cons.mp hq with rfl | hq
    · obtain ⟨k, cf, i, a, -, -, -, -, -, h9⟩ := Cond.stringRef_spec hcur (hts _ lt_s89)
      exact ⟨a, vk_R.of (hts _ lt_s89) h9⟩
    rcases List.mem_cons.mp hq with rfl | hq
    · obtain ⟨k, cf, i, a, -, -, -, -, -, h9⟩ := Cond.stringRef_spec hcur (hts _ lt_s105)
      exact ⟨a, vk_R.of (hts _ lt_s105) h9⟩
    rcases List.mem_cons.mp hq with rfl | hq
    · obtain ⟨k, cf, i, a, -, -, -, -, -, h9⟩ := Cond.stringRef_spec hcur (hts _ lt_s147)
      exact ⟨a, vk_R.of (hts _ lt_s147) h9⟩
    rcases List.mem_cons.mp hq with rfl | hq
    · obtain ⟨k, cf, i, a, -, -, -, -, -, h9⟩ := Cond.stringRef_spec hcur (hts _ lt_s152)
      exact ⟨a, vk_R.of (hts _ lt_s152) h9⟩
    rcases List.mem_cons.mp hq with rfl | hq
    · obtain ⟨k, cf, i, a, -, -, -, -, -, h9⟩ := Cond.stringRef_spec hcur (hts _ lt_s161)
      exact ⟨a, vk_R.of (hts _ lt_s161) h9⟩
    rcases List.mem_cons.mp hq with rfl | hq
    · obtain ⟨k, cf, i, a, -, -, -, -, -, h9⟩ := Cond.stringRef_spec hcur (hts _ lt_s163)
      exact ⟨a, vk_R.of (hts _ lt_s163) h9⟩
    rcases List.mem_cons.mp hq with rfl | hq
    · obtain ⟨k, cf, i, a, -, -, -, -, -, h9⟩ := Cond.stringRef_spec hcur (hts _ lt_s177)
      exact ⟨a, vk_R.of (hts _ lt_s177) h9⟩
    rcases List.mem_cons.mp hq with rfl | hq
    · obtain ⟨k, cf, i, a, -, -, -, -, -, h9⟩ := Cond.stringRef_spec hcur (hts _ lt_s179)
      exact ⟨a, vk_R.of (hts _ lt_s179) h9⟩
    rcases List.mem_cons.mp hq with rfl | hq
    · obtain ⟨k, cf, i, a, -, -, -, -, -, h9⟩ := Cond.stringRef_spec hcur (hts _ lt_s181)
      exact ⟨a, vk_R.of (hts _ lt_s181) h9⟩
    rw [List.mem_singleton.mp hq]
    obtain ⟨k, cf, i, a, -, -, -, -, -, h9⟩ := Cond.stringRef_spec hcur (hts _ lt_s183)
    exact ⟨a, vk_R.of (hts _ lt_s183) h9⟩
theorem rn_AO_start {s : State} {b : Nat} (hts : ∀ w ∈ lw_tbl, w.before #[Value.ref b] s = true) : rn_AO s := ⟨va_AO.of (hts _ lt_aoR), va_AO.of (hts _ lt_aoP), va_AO.of (hts _ lt_aoF)⟩
/-- the classes and the arrays' classes that the tables name -/
theorem rn_G_start {s : State} {b : Nat} (hts : ∀ w ∈ lw_tbl, w.before #[Value.ref b] s = true) : ∃ (D : va_G) (cR cP cF cL cI : ClassId), rn_G D (rn_tyw cR cP cF cL cI) s := by
  obtain ⟨c0, i0, hk0⟩ := u_known (C := RX0) (T := TX0) (N := 2) (n := 2) hts inX0 (hts _ lt_in0)
  obtain ⟨c1, i1, hk1⟩ := u_known (C := RX1) (T := TX1) (N := 3) (n := 3) hts inX1 (hts _ lt_in1)
  obtain ⟨c2, i2, hk2⟩ := u_known (C := RX2) (T := TX2) (N := 4) (n := 4) hts inX2 (hts _ lt_in2)
  obtain ⟨c3, i3, hk3⟩ := u_known (C := RX3) (T := TX3) (N := 4) (n := 4) hts inX3 (hts _ lt_in3)
  obtain ⟨c4, i4, hk4⟩ := u_known (C := RX4) (T := TX4) (N := 9) (n := 9) hts inX4 (hts _ lt_in4)
  obtain ⟨c5, i5, hk5⟩ := u_known (C := RX5) (T := TX5) (N := 18) (n := 18) hts inX5 (hts _ lt_in5)
  obtain ⟨dC, dI, hKc⟩ : ∃ (dC : Nat → ClassId) (dI : Nat → Nat → Nat), ∀ (k : Nat) (q : vw_C), vwCl[k]? = some q → u_Kn s q.1 q.2.1 q.2.2 (dC k) (dI k) := by
    refine ⟨fun k => if k = 0 then c0 else if k = 1 then c1 else if k = 2 then c2 else if k = 3 then c3 else if k = 4 then c4 else c5, fun k => if k = 0 then i0 else if k = 1 then i1 else if k = 2 then i2 else if k = 3 then i3 else if k = 4 then i4 else i5, ?_⟩
    intro k q hq
    match k, hq with
    | 0, hq => cases hq; exact hk0
    | 1, hq => cases hq; exact hk1
    | 2, hq => cases hq; exact hk2
    | 3, hq => cases hq; exact hk3
    | 4, hq => cases hq; exact hk4
    | 5, hq => cases hq; exact hk5
    | k + 6, hq => simp [vwCl] at hq
  obtain ⟨mR, cR, kR, p1R, -, p3R, p4R, p5R⟩ := Cond.arrayOver_spec (hts _ lt_aoR)
  obtain ⟨mP, cP, kP, p1P, -, p3P, p4P, p5P⟩ := Cond.arrayOver_spec (hts _ lt_aoP)
  obtain ⟨mF, cF, kF, p1F, -, p3F, p4F, p5F⟩ := Cond.arrayOver_spec (hts _ lt_aoF)
  obtain ⟨cL, kL, mL, p1L, p2L, p3L⟩ := Cond.arrayClass_spec (hts _ lt_aL)
  obtain ⟨cI, kI, mI, p1I, p2I, p3I⟩ := Cond.arrayClass_spec (hts _ lt_aI)
  refine ⟨(dC, dI), cR, cP, cF, cL, cI, ⟨hKc, fun k q hq => ?_⟩, va_Nw.of rfl (hts _ lt_nest)⟩
  match k, hq with
  | 0, hq => cases hq; exact ⟨fun N z => ⟨(fun k h => by cases h), kR, p3R, mR, p4R⟩, kR, mR, p3R, p4R, p1R, p5R⟩
  | 1, hq => cases hq; exact ⟨fun N z => ⟨(fun k h => by cases h), kP, p3P, mP, p4P⟩, kP, mP, p3P, p4P, p1P, p5P⟩
  | 2, hq => cases hq; exact ⟨fun N z => ⟨(fun k h => by cases h), kF, p3F, mF, p4F⟩, kF, mF, p3F, p4F, p1F, p5F⟩
  | 3, hq => cases hq; exact ⟨fun N z => ⟨(fun k h => by cases h), kL, p2L, mL, p3L⟩, p1L⟩
  | 4, hq => cases hq; exact ⟨fun N z => ⟨(fun k h => by cases h), kI, p2I, mI, p3I⟩, p1I⟩
  | k + 5, hq => simp at hq
section RNZ
variable {p : Program} {l : Launch} {e : Env} {R : Room} {s : State} {m : MethodId} {args : Array Value} {below : List Frame} {meth : Method} {c : Code} {H : Heap} {locs : List Loc} {cells slots : Nat} {Q : State → Prop}
variable {cc bytes : ByteArray} {pc nL maxL index n mc ms sz : Nat} {ls : Array Slot} {st0 rest As : List Value} {D : va_G} {A0 A1 A : Nat → Prop} {a b ci N : Nat} {tys : List (ClassId × FieldType)} {H0 : Heap} {fs : List Value} {own C E : String} {T : u_T} {y : MethodName} {ret : Option FieldType} {ws ws' Ts : List Cond} {rm : Room} {B : Heap → Prop} {P : Heap → Prop} {v : Option Value}
theorem rn_wIC (n : Nat) (hexec : p.tables.exec = Jvm.exec) (hb : c.code = cc) (hml : c.maxLocals = nL) (hown : s.vm.findClass own = some m.cls) (hts : ∀ w ∈ Ts, w.before args s = true) (hG : rn_G D tys s) (hO : rn_AO s) (hS : va_S A0 H0 H locs)
    (hM : rn_WC l y ws rm D tys B (.ref b :: As) none P A1 mc ms H.size) (hA : ∀ q, A1 q → A0 q) (hgi : GoodIn Ts ws) (hw : ws = .code y bytes maxL none :: ws') (hrm : rm.cells = mc ∧ rm.slots = ms) (hini : (Cond.initialized y.cls).before args s = true) (hlk : (Cond.methodLink own index y).before args s = true) (hinm : (Cond.instanceMethod y).before args s = true) (hy1 : y.name = "<init>")
    (hd : y.cls ≠ "java/lang/invoke/MethodHandle" ∧ y.cls ≠ "java/lang/invoke/VarHandle" ∧ (parseMethodDescriptor y.desc).map (fun d => d.parameters.length) = some n) (hR : rm.frames + 1 ≤ R.frames ∧ 8 + (maxL + 11) + rm.locals ≤ R.locals)
    (hB : B H) (hn : As.length = n) (hsz : ls.size = nL) (hst : st0 = As.reverse ++ .ref b :: rest) (hW : (rest.map fun v => v.category).sum ≤ 8) (hf : cells + mc ≤ R.cells ∧ slots + ms ≤ R.slots) (hdg : decode cc pc = .ok (.invokespecial index, 3))
    (kk : ∀ (H1 : Heap) (locs1 : List Loc), P H1 → H.size ≤ H1.size → (∀ q : Nat, q < H.size → ¬ A1 q → H1[q]? = H[q]?) → va_S A0 H0 H1 locs1 → W p l e R s m args below meth c H1 locs1 (cells + mc) (slots + ms) Q (F0 m (pc + 3) ls rest)) : W p l e R s m args below meth c H locs cells slots Q (F0 m pc ls st0) :=
  rn_callW (v := none) (va_runI (As := As) (rest := rest) ⟨hexec, hb, hml, hown, hts⟩ hM (cwI n hts hgi hw hrm.1 hrm.2 hini hlk hinm hy1 hd hR) ⟨rn_WC.blind, fun U hU hW => ⟨rfl, ⟨by rw [hU], by rw [hU]; exact hB⟩, hG.warm hW, hO.warm hW⟩⟩ rfl hn hsz hst (lv_room hW) hdg hf) hS hA kk
theorem rn_wIW (n : Nat) (hexec : p.tables.exec = Jvm.exec) (hb : c.code = cc) (hml : c.maxLocals = nL) (hown : s.vm.findClass own = some m.cls) (hts : ∀ w ∈ Ts, w.before args s = true) (hG : rn_G D tys s) (hS : va_S A0 H0 H locs)
    (hM : rn_W l y ws rm D tys B (.ref b :: As) none P A1 mc ms H.size) (hA : ∀ q, A1 q → A0 q) (hgi : GoodIn Ts ws) (hw : ws = .code y bytes maxL none :: ws') (hrm : rm.cells = mc ∧ rm.slots = ms) (hini : (Cond.initialized y.cls).before args s = true) (hlk : (Cond.methodLink own index y).before args s = true) (hinm : (Cond.instanceMethod y).before args s = true) (hy1 : y.name = "<init>")
    (hd : y.cls ≠ "java/lang/invoke/MethodHandle" ∧ y.cls ≠ "java/lang/invoke/VarHandle" ∧ (parseMethodDescriptor y.desc).map (fun d => d.parameters.length) = some n) (hR : rm.frames + 1 ≤ R.frames ∧ 8 + (maxL + 11) + rm.locals ≤ R.locals)
    (hB : B H) (hn : As.length = n) (hsz : ls.size = nL) (hst : st0 = As.reverse ++ .ref b :: rest) (hW : (rest.map fun v => v.category).sum ≤ 8) (hf : cells + mc ≤ R.cells ∧ slots + ms ≤ R.slots) (hdg : decode cc pc = .ok (.invokespecial index, 3))
    (kk : ∀ (H1 : Heap) (locs1 : List Loc), P H1 → H.size ≤ H1.size → (∀ q : Nat, q < H.size → ¬ A1 q → H1[q]? = H[q]?) → va_S A0 H0 H1 locs1 → W p l e R s m args below meth c H1 locs1 (cells + mc) (slots + ms) Q (F0 m (pc + 3) ls rest)) : W p l e R s m args below meth c H locs cells slots Q (F0 m pc ls st0) :=
  rn_callW (v := none) (va_runI (As := As) (rest := rest) ⟨hexec, hb, hml, hown, hts⟩ hM (cwI n hts hgi hw hrm.1 hrm.2 hini hlk hinm hy1 hd hR) ⟨rn_PcBlindW, fun U hU hW => ⟨rfl, ⟨by rw [hU], by rw [hU]; exact hB⟩, hG.warm hW⟩⟩ rfl hn hsz hst (lv_room hW) hdg hf) hS hA kk
end RNZ
set_option maxHeartbeats 8000000 in
set_option maxRecDepth 100000 in
theorem whole_start {p : Program} {e : Env} {s : State} {m : MethodId} {below : List Frame} {meth : Method} {c : Code} (l : Launch) (hflags : l.flags = flags0) {b L : Nat} {xs : Nat → Int32} (hL : L ≤ 2048) (C0 : lw_At p s m meth c b L xs) : W p l e room_1 s m #[Value.ref b] below meth c s.heap [] 0 0 (lw_Z below #[Value.ref b] s) (entryFrame m ([Value.ref b] : List Value).toArray 7) := by
  have hfl : l.stackTraces = false := by unfold Launch.stackTraces; rw [hflags]; decide +kernel
  obtain ⟨hx, hb, hr, hml, hown0, hts0, hX, hbl, hlocks, hgv⟩ := id C0
  have hb : c.code = cL_law := hb
  have hown : s.vm.findClass RL = some m.cls := hown0
  have hts : ∀ w ∈ wsL_law, w.before #[Value.ref b] s = true := fun w h => hts0 w (wsL_law_in w h)
  obtain ⟨D, cR, cP, cF, cL, cI, hG⟩ := rn_G_start hts0
  have hE : rn_E s := rn_E_start hts0 hgv (hG.1.1 4 _ rfl).2.1
  have hO : rn_AO s := rn_AO_start hts0
  have hG3 : rn_G D (rn_tys cR cP cF) s := ⟨hG.1.sub [0, 1, 2] rfl, hG.2⟩
  have hG5 : rn_G D [(cI, .int)] s := ⟨hG.1.sub [4] rfl, hG.2⟩
  have hA : ∀ q : Nat, s.heap.size ≤ q → (fun q : Nat => s.heap.size ≤ q) q := fun _ h => h
  have hS : va_S (fun q : Nat => s.heap.size ≤ q) s.heap s.heap [] := va_S.rf
  have hl := lv_entry ([.ref b]) (n := 7) (Nat.le_of_ble_eq_true rfl)
  rw [lg_entry_eq]
  generalize (lg_sl ([.ref b]) ++ List.replicate (7 - (lg_sl ([.ref b])).length) Slot.unset).toArray = ls at hl ⊢
  have hl : lv_has ls 7 [(0, .ref b)] := hl
  refine rn_new (A := fun q : Nat => s.heap.size ≤ q) (ci := 4) (C := RX4) (T := TX4) (N := 9) (fs := [.null, .int 0, .null, .int 0, .null, .int 0, .null, .int 0, .int 0]) hx hb hts0 inX4 tyX4 tyX4_ok hown lt_cl8 lt_in4 lt_i4 hG hS hA rfl (fun j hj => by rcases (show j = 0 ∨ j = 1 ∨ j = 2 ∨ j = 3 ∨ j = 4 ∨ j = 5 ∨ j = 6 ∨ j = 7 ∨ j = 8 by omega) with rfl | rfl | rfl | rfl | rfl | rfl | rfl | rfl | rfl <;> rfl) (Nat.le_of_ble_eq_true rfl) (Nat.le_of_ble_eq_true rfl) dL_law_0 (fun h0 H hq0 hat0 hz0 ho0 hS => ?_)
  refine lv_dup hx hb dL_law_3 rfl ?_
  refine rn_wIC (As := []) (rest := [.ref h0]) 0 hx hb hml hown hts hG3 hO hS (w_hinit l H.size) (fun q h => h.elim (fun h => by rw [h, hq0]; exact Nat.le_refl _) (fun h => Nat.le_trans (by rw [hz0]; omega) h)) gL_law_X4_init rfl ⟨rfl, rfl⟩ (hts0 _ lt_i4) (hts0 _ lt_m73) (hts0 _ lt_im4) rfl (by decide +kernel) ⟨Nat.le_of_ble_eq_true rfl, Nat.le_of_ble_eq_true rfl⟩ hat0 rfl hl.1 rfl (Nat.le_of_ble_eq_true rfl) ⟨Nat.le_of_ble_eq_true rfl, Nat.le_of_ble_eq_true rfl⟩ dL_law_4 (fun H1 locs1 hP1 hz1 hk1 hS1 => ?_)
  obtain ⟨f, hC, hF, hd⟩ := hP1
  refine lv_astore_n (lv' := [(1, .ref h0), (0, .ref b)]) hx hb dL_law_7 rfl hl (by decide) rfl (fun ls hl => ?_)
  refine rn_new (A := fun q : Nat => s.heap.size ≤ q) (ci := 5) (C := RX5) (T := TX5) (N := 18) (fs := [.int 0, .int 0, .null, .null, .null, .null, .null, .null, .int 0, .int 0, .null, .null, .null, .int 0, .null, .null, .int 0, .int 0]) hx hb hts0 inX5 tyX5 tyX5_ok hown lt_cl74 lt_in5 lt_i5 hG hS1 hA rfl (fun j hj => by rcases (show j = 0 ∨ j = 1 ∨ j = 2 ∨ j = 3 ∨ j = 4 ∨ j = 5 ∨ j = 6 ∨ j = 7 ∨ j = 8 ∨ j = 9 ∨ j = 10 ∨ j = 11 ∨ j = 12 ∨ j = 13 ∨ j = 14 ∨ j = 15 ∨ j = 16 ∨ j = 17 by omega) with rfl | rfl | rfl | rfl | rfl | rfl | rfl | rfl | rfl | rfl | rfl | rfl | rfl | rfl | rfl | rfl | rfl | rfl <;> rfl) (Nat.le_of_ble_eq_true rfl) (Nat.le_of_ble_eq_true rfl) dL_law_8 (fun m0 H2 hq2 hat2 hz2 ho2 hS2 => ?_)
  have hF2 : rn_S D f H2 := hF.kept (fun q hq => ho2 q (hF.lt hq))
  refine lv_dup hx hb dL_law_11 rfl ?_
  refine rn_wIW (As := []) (rest := [.ref m0]) 0 hx hb hml hown hts hG5 hS2 (w_minit l H2.size) (fun q h => h.elim (fun h => by rw [h, hq2]; exact hS1.1) (fun h => Nat.le_trans hS2.1 h)) gL_law_X5_init rfl ⟨rfl, rfl⟩ (hts0 _ lt_i5) (hts0 _ lt_m76) (hts0 _ lt_im5) rfl (by decide +kernel) ⟨Nat.le_of_ble_eq_true rfl, Nat.le_of_ble_eq_true rfl⟩ hat2 rfl hl.1 rfl (Nat.le_of_ble_eq_true rfl) ⟨Nat.le_of_ble_eq_true rfl, Nat.le_of_ble_eq_true rfl⟩ dL_law_12 (fun H3 locs3 hP3 hz3 hk3 hS3 => ?_)
  obtain ⟨V, hM, hW⟩ := hP3
  have hlt1 : ∀ x, f x ≠ none → x < H1.size := fun x hx => hF.lt hx
  have hF3 : rn_S D f H3 := hF2.kept (fun q hq => hk3 q (hF2.lt hq) (fun h => by have h1 := hlt1 q hq; rcases h with h | h <;> omega))
  refine lv_astore_n (lv' := [(2, .ref m0), (1, .ref h0), (0, .ref b)]) hx hb dL_law_15 rfl hl (by decide) rfl (fun ls hl => ?_)
  refine lv_iconst (v := 1) hx hb dL_law_16 (by decide) ?_
  refine rn_top (y := .int (nI 1)) rfl ?_
  refine rn_newl hx hb (hts0 _ lt_aL) hG hS3 3 rfl (N := 1) (by decide) (Nat.le_of_ble_eq_true rfl) (Nat.le_of_ble_eq_true rfl) dL_law_17 (fun o H4 hq4 hat4 hz4 ho4 hS4 => ?_)
  have hF4 : rn_S D f H4 := hF3.kept (fun q hq => ho4 q (hF3.lt hq))
  have hW4 := hW.kept (H1 := H4) (fun q _ hlt => ho4 q hlt)
  refine lv_astore_n (lv' := [(3, .ref o), (2, .ref m0), (1, .ref h0), (0, .ref b)]) hx hb dL_law_19 rfl hl (by decide) rfl (fun ls hl => ?_)
  refine lv_iconst (v := 0) hx hb dL_law_20 (by decide) ?_
  refine lv_istore (lv' := [(4, .int 0), (3, .ref o), (2, .ref m0), (1, .ref h0), (0, .ref b)]) hx hb dL_law_21 hl (by decide) rfl (fun ls hl => ?_)
  have hno : ∀ x, H1.size ≤ x → f x = none := fun x hx => by
    cases h : f x with
    | none => rfl
    | some e9 => exact absurd (hlt1 x (by rw [h]; exact fun z => nomatch z)) (Nat.not_lt.mpr hx)
  have hzz := hS1.1
  have hmA : ∀ q, rn_mA m0 (fun k => H2.size + k) q → H1.size ≤ q := fun q hq => by
    rcases hq with rfl | ⟨k, hk, rfl⟩
    · omega
    · show H1.size ≤ H2.size + k; omega
  have hne : ∀ q, rn_mA m0 (fun k => H2.size + k) q → q ≠ o ∧ s.heap.size ≤ q := fun q hq => ⟨fun h => by have := hW.lt hq; omega, Nat.le_trans hzz (hmA q hq)⟩
  exact law_loop (h0 := h0) (o := o) (m0 := m0) (ma := fun k => H2.size + k) hfl hL C0 hG hE (by have := hS3.1; omega) hne 512 0 rn_s0 (fun _ => 0) 0 H4 _ _ _ (by omega) (by omega) (Nat.le_of_ble_eq_true rfl) (Nat.le_of_ble_eq_true rfl)
    ⟨f, V, hC, hF4, fun x hx => (hd x hx).elim (fun h => by rw [h, hq0]; exact Nat.le_refl _) (fun h => by omega), hno o (by omega), fun q hq => hno q (hmA q hq), hat4, hM, hW4⟩ hS4 ls (lv_sub hl [0, 4, 3, 2, 1] rfl)
