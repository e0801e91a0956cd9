theorem lt_init : Cond.initialized "java/lang/Throwable" ∈ lw_tbl := List.mem_append_right _ (List.mem_of_getElem? (i := 4) (by decide +kernel))
theorem lt_ls1 : Cond.laysStatic "java/lang/Throwable" "UNASSIGNED_STACK" "[Ljava/lang/StackTraceElement;" ∈ lw_tbl := List.mem_append_right _ (List.mem_of_getElem? (i := 160) (by decide +kernel))
theorem lt_ls2 : Cond.laysStatic "java/lang/Throwable" "SUPPRESSED_SENTINEL" "Ljava/util/List;" ∈ lw_tbl := List.mem_append_right _ (List.mem_of_getElem? (i := 162) (by decide +kernel))
theorem lt_caIO : Cond.castable "java/lang/IndexOutOfBoundsException" "java/lang/IndexOutOfBoundsException" ∈ lw_tbl := List.mem_append_right _ (List.mem_of_getElem? (i := 135) (by decide +kernel))
theorem lt_caIS : Cond.castable "java/lang/IllegalStateException" "java/lang/IllegalStateException" ∈ lw_tbl := List.mem_append_right _ (List.mem_of_getElem? (i := 203) (by decide +kernel))
theorem lt_caIA : Cond.castable "java/lang/IllegalArgumentException" "java/lang/IllegalArgumentException" ∈ lw_tbl := List.mem_append_right _ (List.mem_of_getElem? (i := 236) (by decide +kernel))
theorem lt_deR : Cond.declares ⟨"java/lang/RuntimeException", "<init>", "(Ljava/lang/String;)V"⟩ ∈ lw_tbl := List.mem_append_right _ (List.mem_of_getElem? (i := 137) (by decide +kernel))
theorem lt_deE : Cond.declares ⟨"java/lang/Exception", "<init>", "(Ljava/lang/String;)V"⟩ ∈ lw_tbl := List.mem_append_right _ (List.mem_of_getElem? (i := 139) (by decide +kernel))
theorem lt_deT : Cond.declares ⟨"java/lang/Throwable", "<init>", "(Ljava/lang/String;)V"⟩ ∈ lw_tbl := List.mem_append_right _ (List.mem_of_getElem? (i := 141) (by decide +kernel))
theorem lt_nest : Cond.methodLinkNest RX1 26 yX4_isOrIsInside RX4 ∈ lw_tbl := List.mem_append_right _ (List.mem_of_getElem? (i := 335) (by decide +kernel))
theorem lt_aoR : Cond.arrayOver (.object "RoomNumbers$Room") ∈ lw_tbl := List.mem_append_right _ (List.mem_of_getElem? (i := 45) (by decide +kernel))
theorem lt_aoP : Cond.arrayOver (.object "RoomNumbers$HouseProcess") ∈ lw_tbl := List.mem_append_right _ (List.mem_of_getElem? (i := 47) (by decide +kernel))
theorem lt_aoF : Cond.arrayOver (.object "RoomNumbers$HouseFile") ∈ lw_tbl := List.mem_append_right _ (List.mem_of_getElem? (i := 67) (by decide +kernel))
theorem lt_s59 : Cond.stringRef "RoomNumbers" 59 "there are 10 rooms" ∈ lw_tbl := List.mem_append_right _ (List.mem_of_getElem? (i := 210) (by decide +kernel))
theorem lt_s82 : Cond.stringRef "RoomNumbers" 82 "a length is 1 to 999" ∈ lw_tbl := List.mem_append_right _ (List.mem_of_getElem? (i := 250) (by decide +kernel))
theorem lt_s89 : Cond.stringRef "RoomNumbers" 89 "the draft has 3 lines" ∈ lw_tbl := List.mem_append_right _ (List.mem_of_getElem? (i := 254) (by decide +kernel))
theorem lt_s105 : Cond.stringRef "RoomNumbers" 105 "the room 0 has no map" ∈ lw_tbl := List.mem_append_right _ (List.mem_of_getElem? (i := 294) (by decide +kernel))
theorem lt_s147 : Cond.stringRef "RoomNumbers" 147 "there are 12 processes" ∈ lw_tbl := List.mem_append_right _ (List.mem_of_getElem? (i := 385) (by decide +kernel))
theorem lt_s152 : Cond.stringRef "RoomNumbers" 152 "rights are 0 to 15" ∈ lw_tbl := List.mem_append_right _ (List.mem_of_getElem? (i := 393) (by decide +kernel))
theorem lt_s161 : Cond.stringRef "RoomNumbers" 161 "a mode is 0 to 15" ∈ lw_tbl := List.mem_append_right _ (List.mem_of_getElem? (i := 437) (by decide +kernel))
theorem lt_s163 : Cond.stringRef "RoomNumbers" 163 "there are 20 files" ∈ lw_tbl := List.mem_append_right _ (List.mem_of_getElem? (i := 438) (by decide +kernel))
theorem lt_s177 : Cond.stringRef "RoomNumbers" 177 "no such room" ∈ lw_tbl := List.mem_append_right _ (List.mem_of_getElem? (i := 293) (by decide +kernel))
theorem lt_s179 : Cond.stringRef "RoomNumbers" 179 "no such process" ∈ lw_tbl := List.mem_append_right _ (List.mem_of_getElem? (i := 174) (by decide +kernel))
theorem lt_s181 : Cond.stringRef "RoomNumbers" 181 "no such file" ∈ lw_tbl := List.mem_append_right _ (List.mem_of_getElem? (i := 463) (by decide +kernel))
theorem lt_s183 : Cond.stringRef "RoomNumbers" 183 "a number is 0 to 998" ∈ lw_tbl := List.mem_append_right _ (List.mem_of_getElem? (i := 243) (by decide +kernel))
theorem lt_in0 : Cond.instantiable RX0 2 ∈ lw_tbl := List.mem_append_right _ (List.mem_of_getElem? (i := 439) (by decide +kernel))
theorem lt_in1 : Cond.instantiable RX1 3 ∈ lw_tbl := List.mem_append_right _ (List.mem_of_getElem? (i := 48) (by decide +kernel))
theorem lt_in2 : Cond.instantiable RX2 4 ∈ lw_tbl := List.mem_append_right _ (List.mem_of_getElem? (i := 256) (by decide +kernel))
theorem lt_in3 : Cond.instantiable RX3 4 ∈ lw_tbl := List.mem_append_right _ (List.mem_of_getElem? (i := 21) (by decide +kernel))
theorem lt_in4 : Cond.instantiable RX4 9 ∈ lw_tbl := List.mem_append_right _ (List.mem_of_getElem? (i := 13) (by decide +kernel))
theorem lt_cl8 : Cond.classLink RL 8 RX4 ∈ lw_tbl := List.mem_append_right _ (List.mem_of_getElem? (i := 12) (by decide +kernel))
theorem lt_i4 : Cond.initialized RX4 ∈ lw_tbl := List.mem_append_right _ (List.mem_of_getElem? (i := 1) (by decide +kernel))
theorem lt_m153 : Cond.methodLink RL 153 yX4_init ∈ lw_tbl := List.mem_append_right _ (List.mem_of_getElem? (i := 14) (by decide +kernel))
theorem lt_im4 : Cond.instanceMethod yX4_init ∈ lw_tbl := List.mem_append_right _ (List.mem_of_getElem? (i := 15) (by decide +kernel))
/-- what the start gives of what is thrown -/
theorem rn_E_start {s : State} {b : Nat} (hts : ∀ w ∈ lw_tbl, w.before #[Value.ref b] s = true) (hgv : (Jvm.Cond.and given_1 narrow_1).before #[Value.ref b] s = true) {cH : ClassId} (hcur : s.vm.findClass "RoomNumbers" = some cH) : rn_E s := by
  have hs := flat_of_before _ hgv
  have hA : ∀ a : Nat, a < s.heap.size → ¬ (s.heap.size ≤ a) := fun a ha => Nat.not_le.mpr ha
  refine ⟨⟨vx_Zqof (hts _ lt_ls1) (hts _ lt_init) (hs _ (by decide +kernel)) hA, vx_Zqof (hts _ lt_ls2) (hts _ lt_init) (hs _ (by decide +kernel)) hA⟩, ⟨fun q hq => ?_, fun y hy => ?_⟩, fun q hq => ?_, fun q hq => ?_⟩
  · rcases List.mem_cons.mp hq with rfl | hq
    · exact va_Nw.of rfl (hts _ lt_caIO)
    rcases List.mem_cons.mp hq with rfl | hq
    · exact va_Nw.of rfl (hts _ lt_caIS)
    rw [List.mem_singleton.mp hq]
    exact va_Nw.of rfl (hts _ lt_caIA)
  · rcases List.mem_cons.mp hy with rfl | hy
    · exact va_Nw.of rfl (hts _ lt_deR)
    rcases List.mem_cons.mp hy with rfl | hy
    · exact va_Nw.of rfl (hts _ lt_deE)
    rw [List.mem_singleton.mp hy]
    exact va_Nw.of rfl (hts _ lt_deT)
  · rcases List.mem_cons.mp hq with rfl | hq
    · exact va_Nc.of (hs _ (by decide +kernel))
    rcases List.mem_cons.mp hq with rfl | hq
    · exact va_Nc.of (hs _ (by decide +kernel))
    rcases List.mem_cons.mp hq with rfl | hq
    · exact va_Nc.of (hs _ (by decide +kernel))
    rcases List.mem_cons.mp hq with rfl | hq
    · exact va_Nc.of (hs _ (by decide +kernel))
    rcases List.mem_cons.mp hq with rfl | hq
    · exact va_Nc.of (hs _ (by decide +kernel))
    rw [List.mem_singleton.mp hq]
    exact va_Nc.of (hs _ (by decide +kernel))
  · rcases List.mem_cons.mp hq with rfl | hq
    · obtain ⟨k, cf, i, a, -, -, -, -, -, h9⟩ := Cond.stringRef_spec hcur (hts _ lt_s59)
      exact ⟨a, vk_R.of (hts _ lt_s59) h9⟩
    rcases List.mem_cons.mp hq with rfl | hq
    · obtain ⟨k, cf, i, a, -, -, -, -, -, h9⟩ := Cond.stringRef_spec hcur (hts _ lt_s82)
      exact ⟨a, vk_R.of (hts _ lt_s82) h9⟩
    rcases List.mem_cons.mp hq with rfl | hq
    · obtain ⟨k, cf, i, a, -, -, -, -, -, h9⟩ := Cond.stringRef_spec hcur (hts _ lt_s89)
      exact ⟨a, vk_R.of (hts _ lt_s89) h9⟩
    rcases List.mem_cons.mp hq with rfl | hq
    · obtain ⟨k, cf, i, a, -, -, -, -, -, h9⟩ := Cond.stringRef_spec hcur (hts _ lt_s105)
      exact ⟨a, vk_R.of (hts _ lt_s105) h9⟩
    rcases List.mem_cons.mp hq with rfl | hq
    · obtain ⟨k, cf, i, a, -, -, -, -, -, h9⟩ := Cond.stringRef_spec hcur (hts _ lt_s147)
      exact ⟨a, vk_R.of (hts _ lt_s147) h9⟩
    rcases List.mem_cons.mp hq with rfl | hq
    · obtain ⟨k, cf, i, a, -, -, -, -, -, h9⟩ := Cond.stringRef_spec hcur (hts _ lt_s152)
      exact ⟨a, vk_R.of (hts _ lt_s152) h9⟩
    rcases List.mem_cons.mp hq with rfl | hq
    · obtain ⟨k, cf, i, a, -, -, -, -, -, h9⟩ := Cond.stringRef_spec hcur (hts _ lt_s161)
      exact ⟨a, vk_R.of (hts _ lt_s161) h9⟩
    rcases List.mem_cons.mp hq with rfl | hq
    · obtain ⟨k, cf, i, a, -, -, -, -, -, h9⟩ := Cond.stringRef_spec hcur (hts _ lt_s163)
      exact ⟨a, vk_R.of (hts _ lt_s163) h9⟩
    rcases List.mem_cons.mp hq with rfl | hq
    · obtain ⟨k, cf, i, a, -, -, -, -, -, h9⟩ := Cond.stringRef_spec hcur (hts _ lt_s177)
      exact ⟨a, vk_R.of (hts _ lt_s177) h9⟩
    rcases List.mem_cons.mp hq with rfl | hq
    · obtain ⟨k, cf, i, a, -, -, -, -, -, h9⟩ := Cond.stringRef_spec hcur (hts _ lt_s179)
      exact ⟨a, vk_R.of (hts _ lt_s179) h9⟩
    rcases List.mem_cons.mp hq with rfl | hq
    · obtain ⟨k, cf, i, a, -, -, -, -, -, h9⟩ := Cond.stringRef_spec hcur (hts _ lt_s181)
      exact ⟨a, vk_R.of (hts _ lt_s181) h9⟩
    rw [List.mem_singleton.mp hq]
    obtain ⟨k, cf, i, a, -, -, -, -, -, h9⟩ := Cond.stringRef_spec hcur (hts _ lt_s183)
    exact ⟨a, vk_R.of (hts _ lt_s183) h9⟩
theorem rn_AO_start {s : State} {b : Nat} (hts : ∀ w ∈ lw_tbl, w.before #[Value.ref b] s = true) : rn_AO s := ⟨va_AO.of (hts _ lt_aoR), va_AO.of (hts _ lt_aoP), va_AO.of (hts _ lt_aoF)⟩
/-- the classes and the arrays' classes that the tables name -/
theorem rn_G_start {s : State} {b : Nat} (hts : ∀ w ∈ lw_tbl, w.before #[Value.ref b] s = true) : ∃ (D : va_G) (cR cP cF : ClassId), rn_G D (rn_tys cR cP cF) s := by
  obtain ⟨c0, i0, hk0⟩ := u_known (C := RX0) (T := TX0) (N := 2) (n := 2) hts inX0 (hts _ lt_in0)
  obtain ⟨c1, i1, hk1⟩ := u_known (C := RX1) (T := TX1) (N := 3) (n := 3) hts inX1 (hts _ lt_in1)
  obtain ⟨c2, i2, hk2⟩ := u_known (C := RX2) (T := TX2) (N := 4) (n := 4) hts inX2 (hts _ lt_in2)
  obtain ⟨c3, i3, hk3⟩ := u_known (C := RX3) (T := TX3) (N := 4) (n := 4) hts inX3 (hts _ lt_in3)
  obtain ⟨c4, i4, hk4⟩ := u_known (C := RX4) (T := TX4) (N := 9) (n := 9) hts inX4 (hts _ lt_in4)
  obtain ⟨dC, dI, hKc⟩ : ∃ (dC : Nat → ClassId) (dI : Nat → Nat → Nat), ∀ (k : Nat) (q : vw_C), vwCl[k]? = some q → u_Kn s q.1 q.2.1 q.2.2 (dC k) (dI k) := by
    refine ⟨fun k => if k = 0 then c0 else if k = 1 then c1 else if k = 2 then c2 else if k = 3 then c3 else c4, fun k => if k = 0 then i0 else if k = 1 then i1 else if k = 2 then i2 else if k = 3 then i3 else i4, ?_⟩
    intro k q hq
    match k, hq with
    | 0, hq => cases hq; exact hk0
    | 1, hq => cases hq; exact hk1
    | 2, hq => cases hq; exact hk2
    | 3, hq => cases hq; exact hk3
    | 4, hq => cases hq; exact hk4
    | k + 5, hq => simp [vwCl] at hq
  obtain ⟨mR, cR, kR, p1R, -, p3R, p4R, p5R⟩ := Cond.arrayOver_spec (hts _ lt_aoR)
  obtain ⟨mP, cP, kP, p1P, -, p3P, p4P, p5P⟩ := Cond.arrayOver_spec (hts _ lt_aoP)
  obtain ⟨mF, cF, kF, p1F, -, p3F, p4F, p5F⟩ := Cond.arrayOver_spec (hts _ lt_aoF)
  refine ⟨(dC, dI), cR, cP, cF, ⟨hKc, fun k q hq => ?_⟩, va_Nw.of rfl (hts _ lt_nest)⟩
  match k, hq with
  | 0, hq => cases hq; exact ⟨fun N z => ⟨(fun k h => by cases h), kR, p3R, mR, p4R⟩, kR, mR, p3R, p4R, p1R, p5R⟩
  | 1, hq => cases hq; exact ⟨fun N z => ⟨(fun k h => by cases h), kP, p3P, mP, p4P⟩, kP, mP, p3P, p4P, p1P, p5P⟩
  | 2, hq => cases hq; exact ⟨fun N z => ⟨(fun k h => by cases h), kF, p3F, mF, p4F⟩, kF, mF, p3F, p4F, p1F, p5F⟩
  | k + 3, hq => simp at hq
section RNZ
variable {p : Program} {l : Launch} {e : Env} {R : Room} {s : State} {m : MethodId} {args : Array Value} {below : List Frame} {meth : Method} {c : Code} {H : Heap} {locs : List Loc} {cells slots : Nat} {Q : State → Prop}
variable {cc bytes : ByteArray} {pc nL maxL index n mc ms sz : Nat} {ls : Array Slot} {st0 rest As : List Value} {D : va_G} {A0 A1 A : Nat → Prop} {a b ci N : Nat} {tys : List (ClassId × FieldType)} {H0 : Heap} {fs : List Value} {own C E : String} {T : u_T} {y : MethodName} {ret : Option FieldType} {ws ws' Ts : List Cond} {rm : Room} {B : Heap → Prop} {P : Heap → Prop} {v : Option Value}
theorem rn_wIC (n : Nat) (hexec : p.tables.exec = Jvm.exec) (hb : c.code = cc) (hml : c.maxLocals = nL) (hown : s.vm.findClass own = some m.cls) (hts : ∀ w ∈ Ts, w.before args s = true) (hG : rn_G D tys s) (hO : rn_AO s) (hS : va_S A0 H0 H locs)
    (hM : rn_WC l y ws rm D tys B (.ref b :: As) none P A1 mc ms H.size) (hA : ∀ q, A1 q → A0 q) (hgi : GoodIn Ts ws) (hw : ws = .code y bytes maxL none :: ws') (hrm : rm.cells = mc ∧ rm.slots = ms) (hini : (Cond.initialized y.cls).before args s = true) (hlk : (Cond.methodLink own index y).before args s = true) (hinm : (Cond.instanceMethod y).before args s = true) (hy1 : y.name = "<init>")
    (hd : y.cls ≠ "java/lang/invoke/MethodHandle" ∧ y.cls ≠ "java/lang/invoke/VarHandle" ∧ (parseMethodDescriptor y.desc).map (fun d => d.parameters.length) = some n) (hR : rm.frames + 1 ≤ R.frames ∧ 8 + (maxL + 11) + rm.locals ≤ R.locals)
    (hB : B H) (hn : As.length = n) (hsz : ls.size = nL) (hst : st0 = As.reverse ++ .ref b :: rest) (hW : (rest.map fun v => v.category).sum ≤ 8) (hf : cells + mc ≤ R.cells ∧ slots + ms ≤ R.slots) (hdg : decode cc pc = .ok (.invokespecial index, 3))
    (kk : ∀ (H1 : Heap) (locs1 : List Loc), P H1 → H.size ≤ H1.size → (∀ q : Nat, q < H.size → ¬ A1 q → H1[q]? = H[q]?) → va_S A0 H0 H1 locs1 → W p l e R s m args below meth c H1 locs1 (cells + mc) (slots + ms) Q (F0 m (pc + 3) ls rest)) : W p l e R s m args below meth c H locs cells slots Q (F0 m pc ls st0) :=
  rn_callW (v := none) (va_runI (As := As) (rest := rest) ⟨hexec, hb, hml, hown, hts⟩ hM (cwI n hts hgi hw hrm.1 hrm.2 hini hlk hinm hy1 hd hR) ⟨rn_WC.blind, fun U hU hW => ⟨rfl, ⟨by rw [hU], by rw [hU]; exact hB⟩, hG.warm hW, hO.warm hW⟩⟩ rfl hn hsz hst (lv_room hW) hdg hf) hS hA kk
theorem rn_wIW (n : Nat) (hexec : p.tables.exec = Jvm.exec) (hb : c.code = cc) (hml : c.maxLocals = nL) (hown : s.vm.findClass own = some m.cls) (hts : ∀ w ∈ Ts, w.before args s = true) (hG : rn_G D tys s) (hS : va_S A0 H0 H locs)
    (hM : rn_W l y ws rm D tys B (.ref b :: As) none P A1 mc ms H.size) (hA : ∀ q, A1 q → A0 q) (hgi : GoodIn Ts ws) (hw : ws = .code y bytes maxL none :: ws') (hrm : rm.cells = mc ∧ rm.slots = ms) (hini : (Cond.initialized y.cls).before args s = true) (hlk : (Cond.methodLink own index y).before args s = true) (hinm : (Cond.instanceMethod y).before args s = true) (hy1 : y.name = "<init>")
    (hd : y.cls ≠ "java/lang/invoke/MethodHandle" ∧ y.cls ≠ "java/lang/invoke/VarHandle" ∧ (parseMethodDescriptor y.desc).map (fun d => d.parameters.length) = some n) (hR : rm.frames + 1 ≤ R.frames ∧ 8 + (maxL + 11) + rm.locals ≤ R.locals)
    (hB : B H) (hn : As.length = n) (hsz : ls.size = nL) (hst : st0 = As.reverse ++ .ref b :: rest) (hW : (rest.map fun v => v.category).sum ≤ 8) (hf : cells + mc ≤ R.cells ∧ slots + ms ≤ R.slots) (hdg : decode cc pc = .ok (.invokespecial index, 3))
    (kk : ∀ (H1 : Heap) (locs1 : List Loc), P H1 → H.size ≤ H1.size → (∀ q : Nat, q < H.size → ¬ A1 q → H1[q]? = H[q]?) → va_S A0 H0 H1 locs1 → W p l e R s m args below meth c H1 locs1 (cells + mc) (slots + ms) Q (F0 m (pc + 3) ls rest)) : W p l e R s m args below meth c H locs cells slots Q (F0 m pc ls st0) :=
  rn_callW (v := none) (va_runI (As := As) (rest := rest) ⟨hexec, hb, hml, hown, hts⟩ hM (cwI n hts hgi hw hrm.1 hrm.2 hini hlk hinm hy1 hd hR) ⟨rn_PcBlindW, fun U hU hW => ⟨rfl, ⟨by rw [hU], by rw [hU]; exact hB⟩, hG.warm hW⟩⟩ rfl hn hsz hst (lv_room hW) hdg hf) hS hA kk
end RNZ
set_option maxHeartbeats 8000000 in
set_option maxRecDepth 100000 in
theorem whole_start {p : Program} {e : Env} {s : State} {m : MethodId} {below : List Frame} {meth : Method} {c : Code} (l : Launch) (hflags : l.flags = flags0) {b L : Nat} {xs : Nat → Int32} (hL : L ≤ 260) (C0 : lw_At p s m meth c b L xs) : W p l e room_1 s m #[Value.ref b] below meth c s.heap [] 0 0 (lw_Z below #[Value.ref b] s) (entryFrame m ([Value.ref b] : List Value).toArray 7) := by
  have hfl : l.stackTraces = false := by unfold Launch.stackTraces; rw [hflags]; decide +kernel
  obtain ⟨hx, hb, hr, hml, hown0, hts0, hX, hbl, hlocks, hgv⟩ := id C0
  have hb : c.code = cL_law := hb
  have hown : s.vm.findClass RL = some m.cls := hown0
  have hts : ∀ w ∈ wsL_law, w.before #[Value.ref b] s = true := fun w h => hts0 w (wsL_law_in w h)
  obtain ⟨D, cR, cP, cF, hG⟩ := rn_G_start hts0
  have hE : rn_E s := rn_E_start hts0 hgv (hG.1.1 4 _ rfl).2.1
  have hO : rn_AO s := rn_AO_start hts0
  have hbA : ¬ (fun q : Nat => s.heap.size ≤ q) b := Nat.not_le.mpr hbl
  have hA : ∀ q : Nat, s.heap.size ≤ q → (fun q : Nat => s.heap.size ≤ q) q := fun _ h => h
  have hS : va_S (fun q : Nat => s.heap.size ≤ q) s.heap s.heap [] := va_S.rf
  have hl := lv_entry ([.ref b]) (n := 7) (Nat.le_of_ble_eq_true rfl)
  rw [lg_entry_eq]
  generalize (lg_sl ([.ref b]) ++ List.replicate (7 - (lg_sl ([.ref b])).length) Slot.unset).toArray = ls at hl ⊢
  have hl : lv_has ls 7 [(0, .ref b)] := hl
  have hB1 : s.heap.size ≤ s.heap.size := Nat.le_refl _
  refine rn_new (A := fun q : Nat => s.heap.size ≤ q) (ci := 4) (C := RX4) (T := TX4) (N := 9) (fs := [.null, .int 0, .null, .int 0, .null, .int 0, .null, .int 0, .int 0]) hx hb hts0 inX4 tyX4 tyX4_ok hown lt_cl8 lt_in4 lt_i4 hG hS hA rfl (fun j hj => by rcases (show j = 0 ∨ j = 1 ∨ j = 2 ∨ j = 3 ∨ j = 4 ∨ j = 5 ∨ j = 6 ∨ j = 7 ∨ j = 8 by omega) with rfl | rfl | rfl | rfl | rfl | rfl | rfl | rfl | rfl <;> rfl) (Nat.le_of_ble_eq_true rfl) (Nat.le_of_ble_eq_true rfl) dL_law_0 (fun h0 H1 hq1 hat1 hz1 ho1 hS => ?_)
  refine lv_dup hx hb dL_law_3 rfl ?_
  refine rn_wIC (As := []) (rest := [.ref h0]) 0 hx hb hml hown hts hG hO hS (w_hinit l H1.size) (fun q h => h.elim (fun h => by rw [h, hq1]; exact hB1) (fun h => Nat.le_trans (by rw [hz1]; exact Nat.le_succ_of_le hB1) h)) gL_law_X4_init rfl ⟨rfl, rfl⟩ (hts0 _ lt_i4) (hts0 _ lt_m153) (hts0 _ lt_im4) rfl (by decide +kernel) ⟨Nat.le_of_ble_eq_true rfl, Nat.le_of_ble_eq_true rfl⟩ hat1 rfl hl.1 rfl (Nat.le_of_ble_eq_true rfl) ⟨Nat.le_of_ble_eq_true rfl, Nat.le_of_ble_eq_true rfl⟩ dL_law_4 (fun H2 locs2 hP hz2 hk2 hS => ?_)
  obtain ⟨f, hC, hF, hd⟩ := hP
  refine lv_astore_n (lv' := [(1, .ref h0), (0, .ref b)]) hx hb dL_law_7 rfl hl (by decide) rfl (fun ls hl => ?_)
  have hB3 : s.heap.size ≤ H2.size := hS.1
  refine rn_new (A := fun q : Nat => s.heap.size ≤ q) (ci := 4) (C := RX4) (T := TX4) (N := 9) (fs := [.null, .int 0, .null, .int 0, .null, .int 0, .null, .int 0, .int 0]) hx hb hts0 inX4 tyX4 tyX4_ok hown lt_cl8 lt_in4 lt_i4 hG hS hA rfl (fun j hj => by rcases (show j = 0 ∨ j = 1 ∨ j = 2 ∨ j = 3 ∨ j = 4 ∨ j = 5 ∨ j = 6 ∨ j = 7 ∨ j = 8 by omega) with rfl | rfl | rfl | rfl | rfl | rfl | rfl | rfl | rfl <;> rfl) (Nat.le_of_ble_eq_true rfl) (Nat.le_of_ble_eq_true rfl) dL_law_8 (fun h1 H3 hq3 hat3 hz3 ho3 hS => ?_)
  refine lv_dup hx hb dL_law_11 rfl ?_
  refine rn_wIC (As := []) (rest := [.ref h1]) 0 hx hb hml hown hts hG hO hS (w_hinit l H3.size) (fun q h => h.elim (fun h => by rw [h, hq3]; exact hB3) (fun h => Nat.le_trans (by rw [hz3]; exact Nat.le_succ_of_le hB3) h)) gL_law_X4_init rfl ⟨rfl, rfl⟩ (hts0 _ lt_i4) (hts0 _ lt_m153) (hts0 _ lt_im4) rfl (by decide +kernel) ⟨Nat.le_of_ble_eq_true rfl, Nat.le_of_ble_eq_true rfl⟩ hat3 rfl hl.1 rfl (Nat.le_of_ble_eq_true rfl) ⟨Nat.le_of_ble_eq_true rfl, Nat.le_of_ble_eq_true rfl⟩ dL_law_12 (fun H4 locs4 hP hz4 hk4 hS => ?_)
  obtain ⟨f1, hC1, hF1, hd1⟩ := hP
  refine lv_astore_n (lv' := [(2, .ref h1), (1, .ref h0), (0, .ref b)]) hx hb dL_law_15 rfl hl (by decide) rfl (fun ls hl => ?_)
  have hlt : ∀ x, f x ≠ none → x < H2.size := fun x hx => hF.lt hx
  have hF4 : rn_S D f H4 := (hF.kept (fun q hq => ho3 q (hlt q hq))).kept (fun q hq => hk4 q (by rw [hz3]; exact Nat.lt_succ_of_lt (hlt q hq)) (fun h => by have h9 := hlt q hq; rcases h with h | h <;> omega))
  have hfs : ∀ x, f x ≠ none → s.heap.size ≤ x := fun x hx => (hd x hx).elim (fun h => by rw [h, hq1]; exact Nat.le_refl _) (fun h => by omega)
  have hg1 : ∀ x, f1 x ≠ none → H2.size ≤ x := fun x hx => (hd1 x hx).elim (fun h => by rw [h, hq3]; exact Nat.le_refl _) (fun h => by omega)
  have hfs1 : ∀ x, f1 x ≠ none → s.heap.size ≤ x := fun x hx => Nat.le_trans hB3 (hg1 x hx)
  have hap : ∀ x, f x ≠ none → f1 x = none := fun x hx => by
    cases h : f1 x with
    | none => rfl
    | some e9 => exact absurd (hlt x hx) (Nat.not_lt.mpr (hg1 x (by rw [h]; exact fun z => nomatch z)))
  have hq0 : rn_Q rn_s0 := fun j hj => ⟨15, Nat.le_refl _, rfl⟩
  obtain ⟨X, hX9, eX⟩ := rn_drawn xs L 0
  refine lv_bipush (v := 16) hx hb dL_law_16 (by decide +kernel) ?_
  refine lv_aload_n hx hb dL_law_18 rfl (lv_at hl 2 rfl) ?_
  refine lv_iconst (v := 0) hx hb dL_law_19 (by decide) ?_
  refine rn_cD (As := [.ref b, .int (nI 0)]) (rest := [.int 16]) 2 hx hb hml hown hts hX hbA hS (a_drawn l hL (by omega) eX) gL_law_L_drawn rfl ⟨rfl, rfl⟩ (by decide +kernel) ⟨Nat.le_of_ble_eq_true rfl, Nat.le_of_ble_eq_true rfl⟩ rfl hl.1 rfl (Nat.le_of_ble_eq_true rfl) ⟨Nat.le_of_ble_eq_true rfl, Nat.le_of_ble_eq_true rfl⟩ dL_law_20 ?_
  refine W.eq (g2 := F0 m 23 ls [.int (nI X), .int 16]) rfl ?_
  refine lv_bipush (v := 35) hx hb dL_law_23 (by decide +kernel) ?_
  refine lv_irem hx hb dL_law_25 (by decide) ?_
  refine rn_top (y := .int (nI (X % 35))) (congrArg Value.int (pk_rem (d := 35) hX9 (by decide) (by decide))) ?_
  refine lv_iadd hx hb dL_law_26 ?_
  refine rn_top (y := .int (nI (16 + X % 35))) (congrArg Value.int (nI_add 16 (X % 35))) ?_
  refine lv_istore_n (lv' := [(3, .int (nI (16 + X % 35))), (2, .ref h1), (1, .ref h0), (0, .ref b)]) hx hb dL_law_27 rfl hl (by decide) rfl (fun ls hl => ?_)
  refine lv_iconst (v := 1) hx hb dL_law_28 (by decide) ?_
  refine lv_istore (lv' := [(4, .int 1), (3, .int (nI (16 + X % 35))), (2, .ref h1), (1, .ref h0), (0, .ref b)]) hx hb dL_law_29 hl (by decide) rfl (fun ls hl => ?_)
  refine lv_iconst (v := 0) hx hb dL_law_31 (by decide) ?_
  refine lv_istore (lv' := [(5, .int 0), (4, .int 1), (3, .int (nI (16 + X % 35))), (2, .ref h1), (1, .ref h0), (0, .ref b)]) hx hb dL_law_32 hl (by decide) rfl (fun ls hl => ?_)
  exact law_loop (h0 := h0) (h1 := h1) hfl hL C0 hG hE (T := 16 + X % 35) (by omega) 50 0 rn_s0 H4 _ _ _ hq0 (by omega) (by omega) (Nat.le_of_ble_eq_true rfl) (Nat.le_of_ble_eq_true rfl) ⟨f, f1, hC, hC1, hF4, hF1, hfs, hfs1, hap⟩ hS ls (lv_sub hl [0, 1, 2, 5, 4, 3] rfl)
