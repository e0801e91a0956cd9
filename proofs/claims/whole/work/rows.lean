section
-- ===== PART A: goes FIRST, ahead of the names: the tables' words, and 'selects' of the private methods out of them =====
/-- a private method of a class that the tables say can be made, by its rows of tables_1 -/
def lw_okq (q : MethodName × Nat) : Prop := (q.1.cls ≠ "java/lang/invoke/MethodHandle" ∧ q.1.cls ≠ "java/lang/invoke/VarHandle") ∧ Cond.instantiable q.1.cls q.2 ∈ tables_1 ∧ Cond.privateMethod q.1 ∈ tables_1 ∧ Cond.instanceMethod q.1 ∈ tables_1
theorem lw_p0 : lw_okq (⟨"RoomNumbers", "processAt", "(I)LRoomNumbers$HouseProcess;"⟩, 9) := ⟨⟨by decide +kernel, by decide +kernel⟩, List.mem_of_getElem? (i := 14) (by decide +kernel), List.mem_of_getElem? (i := 127) (by decide +kernel), List.mem_of_getElem? (i := 128) (by decide +kernel)⟩
theorem lw_p1 : lw_okq (⟨"java/lang/Throwable", "fillInStackTrace", "(I)Ljava/lang/Throwable;"⟩, 6) := ⟨⟨by decide +kernel, by decide +kernel⟩, List.mem_of_getElem? (i := 169) (by decide +kernel), List.mem_of_getElem? (i := 167) (by decide +kernel), List.mem_of_getElem? (i := 168) (by decide +kernel)⟩
theorem lw_p2 : lw_okq (⟨"RoomNumbers", "roomAt", "(I)LRoomNumbers$Room;"⟩, 9) := ⟨⟨by decide +kernel, by decide +kernel⟩, List.mem_of_getElem? (i := 14) (by decide +kernel), List.mem_of_getElem? (i := 284) (by decide +kernel), List.mem_of_getElem? (i := 285) (by decide +kernel)⟩
theorem lw_p3 : lw_okq (⟨"RoomNumbers", "refuse", "(I)I"⟩, 9) := ⟨⟨by decide +kernel, by decide +kernel⟩, List.mem_of_getElem? (i := 14) (by decide +kernel), List.mem_of_getElem? (i := 290) (by decide +kernel), List.mem_of_getElem? (i := 291) (by decide +kernel)⟩
theorem lw_p4 : lw_okq (⟨"RoomNumbers$HouseProcess", "ownsRoomAround", "(LRoomNumbers$Room;)Z"⟩, 3) := ⟨⟨by decide +kernel, by decide +kernel⟩, List.mem_of_getElem? (i := 49) (by decide +kernel), List.mem_of_getElem? (i := 326) (by decide +kernel), List.mem_of_getElem? (i := 327) (by decide +kernel)⟩
theorem lw_p5 : lw_okq (⟨"RoomNumbers", "seenFrom", "(LRoomNumbers$Room;I)I"⟩, 9) := ⟨⟨by decide +kernel, by decide +kernel⟩, List.mem_of_getElem? (i := 14) (by decide +kernel), List.mem_of_getElem? (i := 357) (by decide +kernel), List.mem_of_getElem? (i := 358) (by decide +kernel)⟩
theorem lw_p6 : lw_okq (⟨"RoomNumbers", "fileAt", "(I)LRoomNumbers$HouseFile;"⟩, 9) := ⟨⟨by decide +kernel, by decide +kernel⟩, List.mem_of_getElem? (i := 14) (by decide +kernel), List.mem_of_getElem? (i := 454) (by decide +kernel), List.mem_of_getElem? (i := 455) (by decide +kernel)⟩
theorem lw_p7 : lw_okq (⟨"RoomNumbersModel", "isProcess", "(I)Z"⟩, 18) := ⟨⟨by decide +kernel, by decide +kernel⟩, List.mem_of_getElem? (i := 477) (by decide +kernel), List.mem_of_getElem? (i := 547) (by decide +kernel), List.mem_of_getElem? (i := 548) (by decide +kernel)⟩
theorem lw_p8 : lw_okq (⟨"RoomNumbersModel", "refused", "(I)Z"⟩, 18) := ⟨⟨by decide +kernel, by decide +kernel⟩, List.mem_of_getElem? (i := 477) (by decide +kernel), List.mem_of_getElem? (i := 554) (by decide +kernel), List.mem_of_getElem? (i := 555) (by decide +kernel)⟩
theorem lw_p9 : lw_okq (⟨"RoomNumbersModel", "isRoom", "(I)Z"⟩, 18) := ⟨⟨by decide +kernel, by decide +kernel⟩, List.mem_of_getElem? (i := 477) (by decide +kernel), List.mem_of_getElem? (i := 569) (by decide +kernel), List.mem_of_getElem? (i := 570) (by decide +kernel)⟩
theorem lw_p10 : lw_okq (⟨"RoomNumbersModel", "isDraftBad", "()Z"⟩, 18) := ⟨⟨by decide +kernel, by decide +kernel⟩, List.mem_of_getElem? (i := 477) (by decide +kernel), List.mem_of_getElem? (i := 573) (by decide +kernel), List.mem_of_getElem? (i := 574) (by decide +kernel)⟩
theorem lw_p11 : lw_okq (⟨"RoomNumbersModel", "isDraftLost", "(I)Z"⟩, 18) := ⟨⟨by decide +kernel, by decide +kernel⟩, List.mem_of_getElem? (i := 477) (by decide +kernel), List.mem_of_getElem? (i := 580) (by decide +kernel), List.mem_of_getElem? (i := 581) (by decide +kernel)⟩
theorem lw_p12 : lw_okq (⟨"RoomNumbersModel", "led", "(II)I"⟩, 18) := ⟨⟨by decide +kernel, by decide +kernel⟩, List.mem_of_getElem? (i := 477) (by decide +kernel), List.mem_of_getElem? (i := 584) (by decide +kernel), List.mem_of_getElem? (i := 585) (by decide +kernel)⟩
theorem lw_p13 : lw_okq (⟨"RoomNumbersModel", "mapped", "(II)I"⟩, 18) := ⟨⟨by decide +kernel, by decide +kernel⟩, List.mem_of_getElem? (i := 477) (by decide +kernel), List.mem_of_getElem? (i := 588) (by decide +kernel), List.mem_of_getElem? (i := 589) (by decide +kernel)⟩
theorem lw_p14 : lw_okq (⟨"RoomNumbersModel", "mayWrite", "(II)Z"⟩, 18) := ⟨⟨by decide +kernel, by decide +kernel⟩, List.mem_of_getElem? (i := 477) (by decide +kernel), List.mem_of_getElem? (i := 592) (by decide +kernel), List.mem_of_getElem? (i := 593) (by decide +kernel)⟩
theorem lw_p15 : lw_okq (⟨"RoomNumbersModel", "held", "(II)I"⟩, 18) := ⟨⟨by decide +kernel, by decide +kernel⟩, List.mem_of_getElem? (i := 477) (by decide +kernel), List.mem_of_getElem? (i := 596) (by decide +kernel), List.mem_of_getElem? (i := 597) (by decide +kernel)⟩
def lw_privs_1 : List (MethodName × Nat) := [(⟨"RoomNumbers", "processAt", "(I)LRoomNumbers$HouseProcess;"⟩, 9), (⟨"java/lang/Throwable", "fillInStackTrace", "(I)Ljava/lang/Throwable;"⟩, 6), (⟨"RoomNumbers", "roomAt", "(I)LRoomNumbers$Room;"⟩, 9), (⟨"RoomNumbers", "refuse", "(I)I"⟩, 9), (⟨"RoomNumbers$HouseProcess", "ownsRoomAround", "(LRoomNumbers$Room;)Z"⟩, 3), (⟨"RoomNumbers", "seenFrom", "(LRoomNumbers$Room;I)I"⟩, 9), (⟨"RoomNumbers", "fileAt", "(I)LRoomNumbers$HouseFile;"⟩, 9), (⟨"RoomNumbersModel", "isProcess", "(I)Z"⟩, 18), (⟨"RoomNumbersModel", "refused", "(I)Z"⟩, 18), (⟨"RoomNumbersModel", "isRoom", "(I)Z"⟩, 18), (⟨"RoomNumbersModel", "isDraftBad", "()Z"⟩, 18), (⟨"RoomNumbersModel", "isDraftLost", "(I)Z"⟩, 18), (⟨"RoomNumbersModel", "led", "(II)I"⟩, 18), (⟨"RoomNumbersModel", "mapped", "(II)I"⟩, 18), (⟨"RoomNumbersModel", "mayWrite", "(II)Z"⟩, 18), (⟨"RoomNumbersModel", "held", "(II)I"⟩, 18)]
theorem lw_r1 : ∀ q ∈ lw_privs_1, lw_okq q := List.forall_mem_cons.mpr ⟨lw_p0, List.forall_mem_cons.mpr ⟨lw_p1, List.forall_mem_cons.mpr ⟨lw_p2, List.forall_mem_cons.mpr ⟨lw_p3, List.forall_mem_cons.mpr ⟨lw_p4, List.forall_mem_cons.mpr ⟨lw_p5, List.forall_mem_cons.mpr ⟨lw_p6, List.forall_mem_cons.mpr ⟨lw_p7, List.forall_mem_cons.mpr ⟨lw_p8, List.forall_mem_cons.mpr ⟨lw_p9, List.forall_mem_cons.mpr ⟨lw_p10, List.forall_mem_cons.mpr ⟨lw_p11, List.forall_mem_cons.mpr ⟨lw_p12, List.forall_mem_cons.mpr ⟨lw_p13, List.forall_mem_cons.mpr ⟨lw_p14, List.forall_mem_cons.mpr ⟨lw_p15, fun _ h => absurd h List.not_mem_nil⟩⟩⟩⟩⟩⟩⟩⟩⟩⟩⟩⟩⟩⟩⟩⟩
theorem lw_p16 : lw_okq (⟨"RoomNumbersModel", "isInside", "(II)Z"⟩, 18) := ⟨⟨by decide +kernel, by decide +kernel⟩, List.mem_of_getElem? (i := 477) (by decide +kernel), List.mem_of_getElem? (i := 600) (by decide +kernel), List.mem_of_getElem? (i := 601) (by decide +kernel)⟩
theorem lw_p17 : lw_okq (⟨"RoomNumbersModel", "told", "(I)I"⟩, 18) := ⟨⟨by decide +kernel, by decide +kernel⟩, List.mem_of_getElem? (i := 477) (by decide +kernel), List.mem_of_getElem? (i := 604) (by decide +kernel), List.mem_of_getElem? (i := 605) (by decide +kernel)⟩
theorem lw_p18 : lw_okq (⟨"RoomNumbersModel", "fine", "(I)I"⟩, 18) := ⟨⟨by decide +kernel, by decide +kernel⟩, List.mem_of_getElem? (i := 477) (by decide +kernel), List.mem_of_getElem? (i := 612) (by decide +kernel), List.mem_of_getElem? (i := 613) (by decide +kernel)⟩
theorem lw_p19 : lw_okq (⟨"RoomNumbersModel", "noNumber", "(II)Z"⟩, 18) := ⟨⟨by decide +kernel, by decide +kernel⟩, List.mem_of_getElem? (i := 477) (by decide +kernel), List.mem_of_getElem? (i := 624) (by decide +kernel), List.mem_of_getElem? (i := 625) (by decide +kernel)⟩
theorem lw_p20 : lw_okq (⟨"RoomNumbersModel", "seen", "(II)I"⟩, 18) := ⟨⟨by decide +kernel, by decide +kernel⟩, List.mem_of_getElem? (i := 477) (by decide +kernel), List.mem_of_getElem? (i := 632) (by decide +kernel), List.mem_of_getElem? (i := 633) (by decide +kernel)⟩
theorem lw_p21 : lw_okq (⟨"RoomNumbersModel", "noProcess", "(I)Z"⟩, 18) := ⟨⟨by decide +kernel, by decide +kernel⟩, List.mem_of_getElem? (i := 477) (by decide +kernel), List.mem_of_getElem? (i := 665) (by decide +kernel), List.mem_of_getElem? (i := 666) (by decide +kernel)⟩
theorem lw_p22 : lw_okq (⟨"RoomNumbersModel", "isFile", "(I)Z"⟩, 18) := ⟨⟨by decide +kernel, by decide +kernel⟩, List.mem_of_getElem? (i := 477) (by decide +kernel), List.mem_of_getElem? (i := 685) (by decide +kernel), List.mem_of_getElem? (i := 686) (by decide +kernel)⟩
def lw_privs_2 : List (MethodName × Nat) := [(⟨"RoomNumbersModel", "isInside", "(II)Z"⟩, 18), (⟨"RoomNumbersModel", "told", "(I)I"⟩, 18), (⟨"RoomNumbersModel", "fine", "(I)I"⟩, 18), (⟨"RoomNumbersModel", "noNumber", "(II)Z"⟩, 18), (⟨"RoomNumbersModel", "seen", "(II)I"⟩, 18), (⟨"RoomNumbersModel", "noProcess", "(I)Z"⟩, 18), (⟨"RoomNumbersModel", "isFile", "(I)Z"⟩, 18)]
theorem lw_r2 : ∀ q ∈ lw_privs_2, lw_okq q := List.forall_mem_cons.mpr ⟨lw_p16, List.forall_mem_cons.mpr ⟨lw_p17, List.forall_mem_cons.mpr ⟨lw_p18, List.forall_mem_cons.mpr ⟨lw_p19, List.forall_mem_cons.mpr ⟨lw_p20, List.forall_mem_cons.mpr ⟨lw_p21, List.forall_mem_cons.mpr ⟨lw_p22, fun _ h => absurd h List.not_mem_nil⟩⟩⟩⟩⟩⟩⟩
def lw_privs : List (MethodName × Nat) := lw_privs_1 ++ (lw_privs_2)
def lw_tbl : List Cond := k2_sels lw_privs ++ tables_1
theorem lw_privs_ok : ∀ q ∈ lw_privs, lw_okq q := by
  show ∀ q ∈ lw_privs_1 ++ (lw_privs_2), lw_okq q
  exact List.forall_mem_append.mpr ⟨lw_r1, lw_r2⟩
end
section
/-! ===== BEGIN words of one list among another's, by their places ===== -/
theorem goodIn_r {big : List Cond} (ws : List Cond) (ps : List Nat) (hp : ws = ps.filterMap (fun i => big[i]?)) (h : ws.all goodWord = true) : GoodIn big ws := by
  intro w hw
  have h1 := List.all_eq_true.mp h w hw
  rw [hp] at hw
  obtain ⟨i, -, hi⟩ := List.mem_filterMap.mp hw
  have hm : w ∈ big := by first | exact List.mem_of_getElem? hi | exact List.getElem?_mem hi
  exact ⟨hm, good_of_word h1⟩
theorem goodIn_app {big a b : List Cond} (ha : GoodIn big a) (hb : GoodIn big b) : GoodIn big (a ++ b) := fun w h => (List.mem_append.mp h).elim (ha w) (hb w)
theorem goodIn_ca {big a b : List Cond} {c : Cond} (ha : GoodIn big (c :: a)) (hb : GoodIn big b) : GoodIn big (c :: (a ++ b)) := fun w h => (List.mem_cons.mp h).elim (fun e => ha w (List.mem_cons.mpr (Or.inl e))) (fun h => (List.mem_append.mp h).elim (fun h => ha w (List.mem_cons.mpr (Or.inr h))) (hb w))
theorem goodIn_sub {big ws : List Cond} (hm : ∀ w ∈ ws, w ∈ big) (h : ws.all goodWord = true) : GoodIn big ws := fun w hw => ⟨hm w hw, good_of_word (List.all_eq_true.mp h w hw)⟩
/-! ===== END ===== -/

/-! ===== BEGIN exceptions that leave a method, and their catching by the caller (launches without stack traces) ===== -/
section VXA
/-! The laws vx_back, vx_callV, vx_callS, vx_callSW, vx_throw0, vx_throwS follow proofs of the library, with one case more: JvmDerived/Free/Laws.lean (Back.of_free), Shelf42/LK1.lean (callV, callS), Shelf/KitTraced.lean (throwNew0V, throwNewS). -/
/-- where a method has thrown q: the class by its name, the cell, what was written, the world -/
def vx_T (XC : String → State → State → Prop) (st : State) (q : Addr) (t : State) (mc ms : Nat) (free : Addr → Prop) : Prop :=
  ∃ (E : String) (ce : Cell) (L : List Loc), XC E st t ∧ t.heap[q]? = some ce ∧ ce.vm = .none ∧ st.vm.findClass E = some ce.cls ∧ st.WarmedH t.vm ∧ st.sameButNew ({ t with vm := st.vm } : State) L mc ms ∧ ∀ z ∈ L, free z.base
def vx_Q (Qc : Array Value → State → Outcome → State → Prop) (XC : String → State → State → Prop) (mc ms : Nat) (free : Addr → Prop) : Array Value → State → Outcome → State → Prop := fun a st o t =>
  (Qc a st o t ∧ ∃ L, FrameEnd st o t L mc ms ∧ ∀ q ∈ L, free q.base) ∨ ∃ q, o = .threw q ∧ vx_T XC st q t mc ms free
/-- a callee that returns or throws -/
def vx_Met (l : Launch) (y : MethodName) (ws : List Cond) (rm : Room) (Pc : Array Value → State → Prop) (Qc : Array Value → State → Outcome → State → Prop) (XC : String → State → State → Prop) (mc ms : Nat) (free : Addr → Prop) : Prop :=
  MetFree l y (headSpec ws rm) Pc (fun _ _ _ _ _ => True) (vx_Q Qc XC mc ms free)
def vx_Post (XC : String → State → State → Prop) (mc ms : Nat) (free : Addr → Prop) : Pt → Array Value → Addr → Pt → Prop := fun A a q B =>
  ∃ (g : JFrame) (mk : MethodId) (t : State) (L : List Loc) (E : String) (ce : Cell), B.U.heap = t.heap ∧ B.U.vm = t.vm ∧ XC E (A.U.calling g mk a) t ∧ t.heap[q]? = some ce ∧ ce.vm = .none ∧ A.U.vm.findClass E = some ce.cls ∧ B.locs = A.locs ++ L ∧ (∀ z ∈ L, free z.base) ∧ B.cells = A.cells + mc ∧ B.slots = A.slots + ms
def vx_Back (l : Launch) (R : Room) (p : Program) (e : Env) (below : List Frame) (s : State) (sargs : Array Value) (y : MethodName) (len W9 : Nat)
    (Pre : Pt → Array Value → Prop) (Post : Pt → Array Value → Option Value → Pt → Prop) (PostX : Pt → Array Value → Addr → Pt → Prop) : Prop :=
  ∀ (m : MethodId) (meth : Method) (c : Code) (A : Pt) (g : JFrame) (ig : Instr) (mk : MethodId) (a : Array Value),
    Stand p l e R s m sargs below meth c A.U A.locs A.cells A.slots → g.method = m → g.locals.size = c.maxLocals → decode c.code g.pc = .ok (ig, len) →
    2 * g.monitorRoom + (g.stack.map fun v => v.category).sum ≤ W9 → A.U.methodNamed? y = some mk → Pre A a →
    (∃ (v : Option Value) (B : Pt), Stand p l e R s m sargs below meth c B.U B.locs B.cells B.slots ∧ Post A a v B ∧
      Steps p.tables e below (doInvoke e (A.U.setTop g) [] mk a).1 (B.U.setTop { g with pc := g.pc + len, stack := v.toList ++ g.stack })) ∨
    (∃ (q : Addr) (B : Pt), Stand p l e R s m sargs below meth c B.U B.locs B.cells B.slots ∧ PostX A a q B ∧
      Steps p.tables e below (doInvoke e (A.U.setTop g) [] mk a).1 ((B.U.setTop g).pushFrame (.throwing q)))
section Payer
variable {l : Launch} {R : Room} {p : Program} {e : Env} {below : List Frame} {s : State} {sargs : Array Value} {y : MethodName} {len W9 : Nat}
theorem vx_back {ws : List Cond} {rm : Room} {Pc : Array Value → State → Prop} {Qc : Array Value → State → Outcome → State → Prop} {XC : String → State → State → Prop} {mc ms : Nat} {free : Addr → Prop} {bytes : ByteArray} {maxL : Nat} {ret : Option FieldType}
    (hM : vx_Met l y ws rm Pc Qc XC mc ms free) (hblind : FrameBlind Pc) (hrc : rm.cells = mc) (hrs : rm.slots = ms)
    (hframes : rm.frames + 1 ≤ R.frames) (hlocals : W9 + (maxL + 11) + rm.locals ≤ R.locals)
    (hws : ∀ w ∈ ws, ∀ a' U, s.WarmedH U.vm → w.before a' U = true) (hcode : Cond.code y bytes maxL ret ∈ ws) (hinit : ∀ a' U, s.WarmedH U.vm → (Cond.initialized y.cls).before a' U = true) :
    vx_Back l R p e below s sargs y len W9 (PreOf R mc ms Pc) (PostOf Qc mc ms free) (vx_Post XC mc ms free) := by
  intro m meth c A g ig mk a X hg hsize hdg hW hn hp
  have h1 : (headSpec ws rm).pre.before a A.U = true := atoms_intro fun w hw => hws w hw _ _ X.warmed
  have h2 : (Cond.code y bytes maxL ret).before a A.U = true := hws _ hcode _ _ X.warmed
  have h3 : (Cond.initialized y.cls).before a A.U = true := hinit _ _ X.warmed
  have h4 : A.cells + (headSpec ws rm).room.cells ≤ R.cells := by rw [show (headSpec ws rm).room.cells = mc from hrc]; exact hp.1
  have h5 : A.slots + (headSpec ws rm).room.slots ≤ R.slots := by rw [show (headSpec ws rm).room.slots = ms from hrs]; exact hp.2.1
  have hPc : Pc a (A.U.calling g mk a) := hblind _ _ _ _ hp.2.2
  obtain ⟨U, Ls, c0, s0⟩ := A
  dsimp only [Pt.U, Pt.locs, Pt.cells, Pt.slots] at h1 h2 h3 h4 h5 X hn hPc ⊢
  obtain ⟨methY, cY, hmY, hcY, -, hlY, -, -, -, -⟩ := Cond.code_spec hn h2
  obtain ⟨kY, hkY, -⟩ := className_of_methodNamed hn
  have hinitY : kY.init = .initialized := Cond.initialized_spec (findClass_of_methodNamed hn) hkY h3
  have h : At U g.method c below := by rw [hg]; exact X.here
  have hlocals9 : W9 + (maxL + 11) + (headSpec ws rm).room.locals ≤ R.locals := hlocals
  have happ : (headSpec ws rm).appliesLoose y e.platform (U.calling g mk a) = true :=
    Spec.appliesLoose_calling (g := g) h hdg hn hkY hinitY
      (X.room_calling (g := g) (R' := (headSpec ws rm).room) hsize hmY hcY hframes (by rw [hlY]; omega) h4 h5) h1
  obtain ⟨mid, hmid⟩ := h.above
  have hfr : (U.setTop g).frames = (.java g :: mid) ++ below := by rw [State.frames_setTop' g h.top, hmid]; rfl
  obtain ⟨o, s₂, hsteps, -, hend, hq⟩ := Steps.callFree hM p X.admits X.cas X.clock (acts := []) hfr happ hPc trivial
  have hq' : vx_Q Qc XC mc ms free a (U.calling g mk a) o s₂ := hq
  rw [State.frames_setTop' g h.top] at hend
  obtain ⟨g₀, hg0⟩ := Option.isSome_iff_exists.mp h.top
  obtain ⟨r, hr⟩ := State.topJava?_eq_some.mp hg0
  have hr' : (({ U with heap := s₂.heap, slotsUsed := s₂.slotsUsed } : State).setVm s₂.vm).frames = .java g₀ :: r := hr
  rcases hq' with ⟨hqc, L, hfe, hL⟩ | ⟨q, rfl, E, ce, L, hx, hce, hcv, hcl, hW₂, hsm, hL⟩
  · obtain ⟨⟨v, rfl⟩, hW₂, e2, q2, q3, q4, q5, q6⟩ := id hfe
    have e3 : s₂ = ({ (U.calling g mk a).setFrames s₂.frames with heap := s₂.heap, slotsUsed := s₂.slotsUsed } : State).setVm s₂.vm := by
      have : s₂ = ({ s₂ with vm := (U.calling g mk a).vm } : State).setVm s₂.vm := rfl
      rw [e2] at this
      exact this
    obtain ⟨c₂, i₂, len₂, hc₂, hd₂, hf₂⟩ := hend
    have hW' : U.WarmedH s₂.vm := hW₂
    have hcc : c₂ = c := by
      have h1 : s₂.code? g.method = U.code? g.method := by
        rw [State.code?_eq, State.code?_eq, hW'.alike.method?]
      exact Option.some.inj (hc₂.symm.trans (h1.trans h.code))
    subst hcc
    have hlen : len₂ = len := by rw [hdg] at hd₂; cases hd₂; rfl
    subst hlen
    have hs₂ : s₂ = (({ U with heap := s₂.heap, slotsUsed := s₂.slotsUsed } : State).setVm s₂.vm).setTop { g with pc := g.pc + len₂, stack := v.toList ++ g.stack } := by
      refine e3.trans ?_
      rw [hf₂, State.calling_eq h.top, State.setFrames_setFrames, State.setTop_of_frames _ hr', hr]
      rfl
    have hsame : U.sameButNew ({ U with heap := s₂.heap, slotsUsed := s₂.slotsUsed } : State) L mc ms := by
      refine ⟨?_, q2, q3, q4, q5, q6⟩
      obtain ⟨t, ht, -⟩ := State.frames_cons hr
      show ({ U with heap := s₂.heap, slotsUsed := s₂.slotsUsed } : State) = { U.setFrames U.frames with heap := s₂.heap, slotsUsed := s₂.slotsUsed }
      rw [State.setFrames_self ht]
    subst hg
    refine Or.inl ⟨v, ⟨(({ U with heap := s₂.heap, slotsUsed := s₂.slotsUsed } : State).setVm s₂.vm), Ls ++ L, c0 + mc, s0 + ms⟩,
      ⟨X.admits, X.cas, X.clock, X.frames, X.room, X.hears, X.method, X.code, (X.here.setHeapUsed s₂.heap s₂.slotsUsed).setVm hW'.alike, X.tail, State.WarmedH.trans X.warmed hW', X.limits, X.bytes, X.same.trans (hsame.setVm s.vm)⟩,
      ⟨g, mk, s₂, L, rfl, rfl, hqc, rfl, hL, rfl, rfl⟩, ?_⟩
    show Steps p.tables e below _ ((({ U with heap := s₂.heap, slotsUsed := s₂.slotsUsed } : State).setVm s₂.vm).setTop { g with pc := g.pc + len₂, stack := v.toList ++ g.stack })
    rw [← hs₂]
    exact hsteps
  · obtain ⟨e2, q2, q3, q4, q5, q6⟩ := id hsm
    have e3 : s₂ = ({ (U.calling g mk a).setFrames s₂.frames with heap := s₂.heap, slotsUsed := s₂.slotsUsed } : State).setVm s₂.vm := by
      have : s₂ = ({ s₂ with vm := (U.calling g mk a).vm } : State).setVm s₂.vm := rfl
      rw [e2] at this
      exact this
    have hf₂ : s₂.frames = .throwing q :: .java g :: U.frames.tail := hend
    have hW' : U.WarmedH s₂.vm := hW₂
    have hs₂ : s₂ = ((({ U with heap := s₂.heap, slotsUsed := s₂.slotsUsed } : State).setVm s₂.vm).setTop g).pushFrame (.throwing q) := by
      refine e3.trans ?_
      rw [hf₂, State.calling_eq h.top, State.setFrames_setFrames, State.pushFrame, State.frames_setTop _ hr', State.setTop_of_frames _ hr', State.setFrames_setFrames, hr]
      rfl
    have hsame : U.sameButNew ({ U with heap := s₂.heap, slotsUsed := s₂.slotsUsed } : State) L mc ms := by
      refine ⟨?_, q2, q3, q4, q5, q6⟩
      obtain ⟨t, ht, -⟩ := State.frames_cons hr
      show ({ U with heap := s₂.heap, slotsUsed := s₂.slotsUsed } : State) = { U.setFrames U.frames with heap := s₂.heap, slotsUsed := s₂.slotsUsed }
      rw [State.setFrames_self ht]
    subst hg
    refine Or.inr ⟨q, ⟨(({ U with heap := s₂.heap, slotsUsed := s₂.slotsUsed } : State).setVm s₂.vm), Ls ++ L, c0 + mc, s0 + ms⟩,
      ⟨X.admits, X.cas, X.clock, X.frames, X.room, X.hears, X.method, X.code, (X.here.setHeapUsed s₂.heap s₂.slotsUsed).setVm hW'.alike, X.tail, State.WarmedH.trans X.warmed hW', X.limits, X.bytes, X.same.trans (hsame.setVm s.vm)⟩,
      ⟨g, mk, s₂, L, E, ce, rfl, rfl, hx, hce, hcv, hcl, rfl, hL, rfl, rfl⟩, ?_⟩
    show Steps p.tables e below _ (((({ U with heap := s₂.heap, slotsUsed := s₂.slotsUsed } : State).setVm s₂.vm).setTop g).pushFrame (.throwing q))
    rw [← hs₂]
    exact hsteps
end Payer
section Calls
variable {p : Program} {l : Launch} {e : Env} {R : Room} {s : State} {m : MethodId} {args : Array Value} {below : List Frame} {meth : Method} {c : Code} {T : State} {locs : List Loc} {cells slots : Nat}
theorem vx_callV (X : Stand p l e R s m args below meth c T locs cells slots) (hexec : p.tables.exec = Jvm.exec) {own C : String} {index : Nat} {y : MethodName} {bytes : ByteArray} {maxL : Nat} {ret : Option FieldType}
    (hown : s.vm.findClass own = some m.cls) (hlink : (Cond.methodLink own index y).before args s = true) (hinst : (Cond.instanceMethod y).before args s = true) (hsel : (Cond.selects C y y).before args s = true)
    (hcode : (Cond.code y bytes maxL ret).before args s = true) (hy : y.cls ≠ "java/lang/invoke/MethodHandle" ∧ y.cls ≠ "java/lang/invoke/VarHandle")
    {W9 : Nat} {Pre : Pt → Array Value → Prop} {Post : Pt → Array Value → Option Value → Pt → Prop} {PostX : Pt → Array Value → Addr → Pt → Prop} (hK : vx_Back l R p e below s args y 3 W9 Pre Post PostX)
    {b : Addr} {cellB : Cell} (hcell : T.heap[b]? = some cellB) (hobj : cellB.vm.isStatics = false) (hcls : s.vm.findClass C = some cellB.cls)
    {g : JFrame} (hg : g.method = m) (hsize : g.locals.size = c.maxLocals) {argsL rest : List Value} (hlen : ∀ sig, parseMethodDescriptor y.desc = some sig → argsL.length = sig.parameters.length)
    (hstack : g.stack = argsL.reverse ++ .ref b :: rest) (hW : 2 * g.monitorRoom + (rest.map fun v => v.category).sum ≤ W9) (hdg : decode c.code g.pc = .ok (.invokevirtual index, 3))
    (hpre : ∀ vm₁, s.WarmedH vm₁ → Pre ⟨T.setVm vm₁, locs, cells, slots⟩ (Value.ref b :: argsL).toArray) :
    (∃ (v : Option Value) (vm₁ : Vm) (B : Pt), s.WarmedH vm₁ ∧ Stand p l e R s m args below meth c B.U B.locs B.cells B.slots ∧ Post ⟨T.setVm vm₁, locs, cells, slots⟩ (Value.ref b :: argsL).toArray v B ∧
      ∀ target, Steps p.tables e below (B.U.setTop { g with pc := g.pc + 3, stack := v.toList ++ rest }) target → Steps p.tables e below (T.setTop g) target) ∨
    (∃ (q : Addr) (vm₁ : Vm) (B : Pt), s.WarmedH vm₁ ∧ Stand p l e R s m args below meth c B.U B.locs B.cells B.slots ∧ PostX ⟨T.setVm vm₁, locs, cells, slots⟩ (Value.ref b :: argsL).toArray q B ∧
      Steps p.tables e below (T.setTop g) ((B.U.setTop { g with stack := rest }).pushFrame (.throwing q))) := by
  obtain ⟨mk, methM, hnamed, hmethM, hstM, habM⟩ := Cond.instanceMethod_spec hinst
  obtain ⟨methM', cM, hmethM', -, -, -, -, -, -, hsigM⟩ := Cond.code_spec hnamed hcode
  cases hmethM.symm.trans hmethM'
  obtain ⟨c2, r2, m2, q1, q2, q3, q4, kP, hkP, hkPi⟩ := Cond.selects_spec hsel
  cases hcls.symm.trans q1
  cases (State.methodFound?_of_named hnamed hy).symm.trans q2
  cases hnamed.symm.trans q3
  have hselP : selectMethod e.platform s.vm cellB.cls mk = .method mk := by rw [Launch.admits_selectMethod X.admits]; exact q4
  obtain ⟨vm₁, X₁, hstep₁⟩ := X.invokevirtual hexec hown hlink hnamed hmethM hstM hkP hkPi hy (a := b) (cell := cellB) hcell
    (fun z h => by rw [h] at hobj; cases hobj) hselP hmethM habM hkP hkPi (g := g) hg (argsL := argsL) (rest := rest) (hlen _ hsigM) hstack hdg
  rcases hK m meth c ⟨T.setVm vm₁, locs, cells, slots⟩ { g with stack := rest } (.invokevirtual index) mk (Value.ref b :: argsL).toArray X₁ hg hsize hdg hW (X₁.named hnamed) (hpre vm₁ X₁.warmed) with ⟨v, B, X', hpost, hsteps⟩ | ⟨q, B, X', hpost, hsteps⟩
  · exact Or.inl ⟨v, vm₁, B, X₁.warmed, X', hpost, fun target h => hstep₁ _ fun acts => by rw [doInvoke_state]; exact hsteps.trans h⟩
  · exact Or.inr ⟨q, vm₁, B, X₁.warmed, X', hpost, hstep₁ _ fun acts => by rw [doInvoke_state]; exact hsteps⟩
theorem vx_callS (X : Stand p l e R s m args below meth c T locs cells slots) (hexec : p.tables.exec = Jvm.exec) {own : String} {index : Nat} {y : MethodName} {bytes : ByteArray} {maxL : Nat} {ret : Option FieldType}
    (hown : s.vm.findClass own = some m.cls) (hlink : (Cond.methodLink own index y).before args s = true) (hstat : (Cond.static y).before args s = true) (hinit : (Cond.initialized y.cls).before args s = true)
    (hcode : (Cond.code y bytes maxL ret).before args s = true) (hy : y.cls ≠ "java/lang/invoke/MethodHandle" ∧ y.cls ≠ "java/lang/invoke/VarHandle")
    {W9 : Nat} {Pre : Pt → Array Value → Prop} {Post : Pt → Array Value → Option Value → Pt → Prop} {PostX : Pt → Array Value → Addr → Pt → Prop} (hK : vx_Back l R p e below s args y 3 W9 Pre Post PostX)
    {g : JFrame} (hg : g.method = m) (hsize : g.locals.size = c.maxLocals) {argsL rest : List Value} (hlen : ∀ sig, parseMethodDescriptor y.desc = some sig → argsL.length = sig.parameters.length)
    (hstack : g.stack = argsL.reverse ++ rest) (hW : 2 * g.monitorRoom + (rest.map fun v => v.category).sum ≤ W9) (hdg : decode c.code g.pc = .ok (.invokestatic index, 3))
    (hpre : ∀ vm₁, s.WarmedH vm₁ → Pre ⟨T.setVm vm₁, locs, cells, slots⟩ argsL.toArray) :
    (∃ (v : Option Value) (vm₁ : Vm) (B : Pt), s.WarmedH vm₁ ∧ Stand p l e R s m args below meth c B.U B.locs B.cells B.slots ∧ Post ⟨T.setVm vm₁, locs, cells, slots⟩ argsL.toArray v B ∧
      ∀ target, Steps p.tables e below (B.U.setTop { g with pc := g.pc + 3, stack := v.toList ++ rest }) target → Steps p.tables e below (T.setTop g) target) ∨
    (∃ (q : Addr) (vm₁ : Vm) (B : Pt), s.WarmedH vm₁ ∧ Stand p l e R s m args below meth c B.U B.locs B.cells B.slots ∧ PostX ⟨T.setVm vm₁, locs, cells, slots⟩ argsL.toArray q B ∧
      Steps p.tables e below (T.setTop g) ((B.U.setTop { g with stack := rest }).pushFrame (.throwing q))) := by
  obtain ⟨mk, hnamed⟩ := Cond.code_named hcode
  obtain ⟨methM, cM, hmethM, -, -, -, -, -, -, hsigM⟩ := Cond.code_spec hnamed hcode
  have hstatic : methM.isStatic = true := Cond.static_spec hnamed hmethM hstat
  obtain ⟨kP, hkP, -⟩ := className_of_methodNamed hnamed
  have hinitP : kP.init = .initialized := Cond.initialized_spec (findClass_of_methodNamed hnamed) hkP hinit
  obtain ⟨vm₁, X₁, hstep₁⟩ := X.invokestatic hexec hown hlink hnamed hmethM hstatic hkP hinitP hy (g := g) hg (argsL := argsL) (rest := rest) (hlen _ hsigM) hstack hdg
  rcases hK m meth c ⟨T.setVm vm₁, locs, cells, slots⟩ { g with stack := rest } (.invokestatic index) mk argsL.toArray X₁ hg hsize hdg hW (X₁.named hnamed) (hpre vm₁ X₁.warmed) with ⟨v, B, X', hpost, hsteps⟩ | ⟨q, B, X', hpost, hsteps⟩
  · exact Or.inl ⟨v, vm₁, B, X₁.warmed, X', hpost, fun target h => hstep₁ _ fun acts => by rw [doInvoke_state]; exact hsteps.trans h⟩
  · exact Or.inr ⟨q, vm₁, B, X₁.warmed, X', hpost, hstep₁ _ fun acts => by rw [doInvoke_state]; exact hsteps⟩
end Calls
theorem vx_cls {s : State} {T : State} {vm₁ : Vm} {E : String} {k : ClassId} (hW : s.WarmedH vm₁) (h : (T.setVm vm₁).vm.findClass E = some k) : s.vm.findClass E = some k := by
  have h1 : vm₁.findClass E = some k := h
  rw [hW.alike.findClass] at h1
  exact h1
/-- the method's frame g, with q thrown over it -/
def vx_W (p : Program) (l : Launch) (e : Env) (R : Room) (s : State) (m : MethodId) (args : Array Value) (below : List Frame) (meth : Method) (c : Code) (H : Heap) (locs : List Loc) (cells slots : Nat) (Q : State → Prop) (g : JFrame) (q : Addr) : Prop :=
  ∀ T : State, T.heap = H → Stand p l e R s m args below meth c T locs cells slots → ∃ t, Steps p.tables e below ((T.setTop g).pushFrame (.throwing q)) t ∧ Q t
def vx_Run (p : Program) (l : Launch) (e : Env) (R : Room) (s : State) (m : MethodId) (args : Array Value) (below : List Frame) (meth : Method) (c : Code) (H : Heap) (locs : List Loc) (cells slots mc ms : Nat) (g : JFrame) (rest : List Value) (Qa : State → Outcome → State → Prop) (XC : String → State → State → Prop) (free : Addr → Prop) : Prop :=
  ∀ T : State, T.heap = H → Stand p l e R s m args below meth c T locs cells slots →
    (∃ (v : Option Value) (st₀ t T' : State) (L : List Loc), st₀.heap = H ∧ Stand p l e R s m args below meth c T' (locs ++ L) (cells + mc) (slots + ms) ∧ (∀ q ∈ L, free q.base) ∧ T'.heap = t.heap ∧ T'.vm = t.vm ∧ Qa st₀ (.returned v) t ∧
      Goes p e below T g T' { g with pc := g.pc + 3, stack := v.toList ++ rest }) ∨
    (∃ (q : Addr) (st₀ t T' : State) (L : List Loc) (E : String) (ce : Cell), st₀.heap = H ∧ Stand p l e R s m args below meth c T' (locs ++ L) (cells + mc) (slots + ms) ∧ (∀ z ∈ L, free z.base) ∧ T'.heap = t.heap ∧ T'.vm = t.vm ∧ XC E st₀ t ∧ t.heap[q]? = some ce ∧ ce.vm = .none ∧ s.vm.findClass E = some ce.cls ∧
      Steps p.tables e below (T.setTop g) ((T'.setTop { g with stack := rest }).pushFrame (.throwing q)))
def vx_X {S : Type} (px : S → Prop) (B : String → S → State → Prop) (A : Nat → Prop) : String → State → State → Prop := fun E st t => ∃ u : S, px u ∧ B E u t ∧ va_F A st t
section Runs
variable {p : Program} {l : Launch} {e : Env} {R : Room} {s : State} {m : MethodId} {args : Array Value} {below : List Frame} {meth : Method} {c : Code} {H : Heap} {locs : List Loc} {cells slots : Nat}
variable {y : MethodName} {bytes cc : ByteArray} {maxL nL mc ms n index : Nat} {ret : Option FieldType} {ws : List Cond} {rm : Room} {Pc : Array Value → State → Prop} {Qc : Array Value → State → Outcome → State → Prop} {XC : String → State → State → Prop} {free : Addr → Prop} {Ts : List Cond} {own C : String} {b : Addr} {As rest : List Value} {g : JFrame}
theorem vx_callBack (cb : CallB R s args own index y bytes maxL ret ws rm mc ms n) (hM : vx_Met l y ws rm Pc Qc XC mc ms free) (hbl : FrameBlind Pc) : vx_Back l R p e below s args y 3 8 (PreOf R mc ms Pc) (PostOf Qc mc ms free) (vx_Post XC mc ms free) := by
  obtain ⟨hrc, hrs, hfr, hlo, hws, hcw, -, hini, -⟩ := cb
  exact vx_back (bytes := bytes) (maxL := maxL) (ret := ret) hM hbl hrc hrs hfr hlo hws hcw (fun a' U hW => word_at hW (Or.inl (by first | rfl | simp [Cond.onTables, Cond.keeps, Cond.steady])) hini)
theorem vx_runV (S : CallFix p m c cc nL s args Ts own) (hM : vx_Met l y ws rm Pc Qc XC mc ms free) (cw : CallW R s args own C index y bytes maxL ret ws rm mc ms n) (hp : PreV s H C b Pc As)
    (hg : g.method = m) (hn : As.length = n) (hsize : g.locals.size = nL) (hstack : g.stack = As.reverse ++ .ref b :: rest) (hW : 2 * g.monitorRoom + (rest.map fun v => v.category).sum ≤ 8) (hdg : decode cc g.pc = .ok (.invokevirtual index, 3)) (hf : cells + mc ≤ R.cells ∧ slots + ms ≤ R.slots) :
    vx_Run p l e R s m args below meth c H locs cells slots mc ms g rest (Qc (Value.ref b :: As).toArray) XC free := by
  have hK : vx_Back l R p e below s args y 3 8 (PreOf R mc ms Pc) (PostOf Qc mc ms free) (vx_Post XC mc ms free) := vx_callBack cw.1 hM hp.1
  obtain ⟨⟨-, -, -, -, -, -, hcode, -, hy, hlen, hl⟩, hin, hse⟩ := cw
  obtain ⟨hx, hb, hml, ho, -⟩ := S
  obtain ⟨-, ⟨cellB, hcB, hoB, hclB⟩, hPc⟩ := hp
  intro T hT X
  rcases vx_callV X hx (C := C) (bytes := bytes) (maxL := maxL) (ret := ret) ho hl hin hse hcode hy hK (by rw [hT]; exact hcB) hoB hclB hg (hsize.trans hml.symm) (argsL := As) (rest := rest) (fun sig h => hn.trans (hlen sig h)) hstack hW (by rw [hb]; exact hdg)
    (fun vm₁ hW₁ => ⟨hf.1, hf.2, hPc (T.setVm vm₁) hT hW₁⟩) with ⟨v, vm₁, ⟨U', l2, c2, s2⟩, hW₁, X', ⟨g', mk, t, L, e1, e2, hq, h1, hL, h2, h3⟩, st⟩ | ⟨q, vm₁, ⟨U', l2, c2, s2⟩, hW₁, X', ⟨g', mk, t, L, E, ce, e1, e2, hq, hce, hcv, hcl, h1, hL, h2, h3⟩, st⟩
  · dsimp only [Pt.U, Pt.locs, Pt.cells, Pt.slots] at X' e1 e2 h1 h2 h3 st
    subst h1; subst h2; subst h3
    exact Or.inl ⟨v, (T.setVm vm₁).calling g' mk (Value.ref b :: As).toArray, t, U', L, hT, X', hL, e1, e2, hq, st⟩
  · dsimp only [Pt.U, Pt.locs, Pt.cells, Pt.slots] at X' e1 e2 h1 h2 h3 st hcl
    subst h1; subst h2; subst h3
    exact Or.inr ⟨q, (T.setVm vm₁).calling g' mk (Value.ref b :: As).toArray, t, U', L, E, ce, hT, X', hL, e1, e2, hq, hce, hcv, vx_cls hW₁ hcl, st⟩
theorem vx_runS (S : CallFix p m c cc nL s args Ts own) (hM : vx_Met l y ws rm Pc Qc XC mc ms free) (cw : CallB R s args own index y bytes maxL ret ws rm mc ms n ∧ (Cond.static y).before args s = true) (hp : PreS s H Pc As)
    (hg : g.method = m) (hn : As.length = n) (hsize : g.locals.size = nL) (hstack : g.stack = As.reverse ++ rest) (hW : 2 * g.monitorRoom + (rest.map fun v => v.category).sum ≤ 8) (hdg : decode cc g.pc = .ok (.invokestatic index, 3)) (hf : cells + mc ≤ R.cells ∧ slots + ms ≤ R.slots) :
    vx_Run p l e R s m args below meth c H locs cells slots mc ms g rest (Qc As.toArray) XC free := by
  have hK : vx_Back l R p e below s args y 3 8 (PreOf R mc ms Pc) (PostOf Qc mc ms free) (vx_Post XC mc ms free) := vx_callBack cw.1 hM hp.1
  obtain ⟨⟨-, -, -, -, -, -, hcode, hini, hy, hlen, hl⟩, hstt⟩ := cw
  obtain ⟨hx, hb, hml, ho, -⟩ := S
  intro T hT X
  rcases vx_callS X hx (bytes := bytes) (maxL := maxL) (ret := ret) ho hl hstt hini hcode hy hK hg (hsize.trans hml.symm) (argsL := As) (rest := rest) (fun sig h => hn.trans (hlen sig h)) hstack hW (by rw [hb]; exact hdg)
    (fun vm₁ hW₁ => ⟨hf.1, hf.2, hp.2 (T.setVm vm₁) hT hW₁⟩) with ⟨v, vm₁, ⟨U', l2, c2, s2⟩, hW₁, X', ⟨g', mk, t, L, e1, e2, hq, h1, hL, h2, h3⟩, st⟩ | ⟨q, vm₁, ⟨U', l2, c2, s2⟩, hW₁, X', ⟨g', mk, t, L, E, ce, e1, e2, hq, hce, hcv, hcl, h1, hL, h2, h3⟩, st⟩
  · dsimp only [Pt.U, Pt.locs, Pt.cells, Pt.slots] at X' e1 e2 h1 h2 h3 st
    subst h1; subst h2; subst h3
    exact Or.inl ⟨v, (T.setVm vm₁).calling g' mk As.toArray, t, U', L, hT, X', hL, e1, e2, hq, st⟩
  · dsimp only [Pt.U, Pt.locs, Pt.cells, Pt.slots] at X' e1 e2 h1 h2 h3 st hcl
    subst h1; subst h2; subst h3
    exact Or.inr ⟨q, (T.setVm vm₁).calling g' mk As.toArray, t, U', L, E, ce, hT, X', hL, e1, e2, hq, hce, hcv, vx_cls hW₁ hcl, st⟩
end Runs
section Rows
variable {p : Program} {l : Launch} {e : Env} {R : Room} {s : State} {m : MethodId} {args : Array Value} {below : List Frame} {meth : Method} {c : Code} {H : Heap} {locs : List Loc} {cells slots : Nat} {Q : State → Prop}
variable {mc ms : Nat} {free : Addr → Prop} {A0 A1 : Nat → Prop} {H0 : Heap} {a : Array Value} {pc : Nat} {ls : Array Slot} {st0 rest : List Value}
theorem vx_keep {st₀ t T' : State} {L : List Loc} (h0 : st₀.heap = H) (e1 : T'.heap = t.heap) (hS : va_S A0 H0 H locs) (hA : ∀ q, q < H.size → A1 q → A0 q) (hf : ∀ q, free q → A0 q) (hL : ∀ q ∈ L, free q.base) (hF : va_F A1 st₀ t) :
    H.size ≤ T'.heap.size ∧ (∀ q : Nat, q < H.size → ¬ A1 q → T'.heap[q]? = H[q]?) ∧ va_S A0 H0 T'.heap (locs ++ L) := by
  obtain ⟨hz, hk⟩ := hF
  rw [h0] at hz hk
  exact ⟨by rw [e1]; exact hz, fun q h1 h2 => by rw [e1]; exact hk q h1 h2,
    ⟨Nat.le_trans hS.1 (by rw [e1]; exact hz), fun q h1 h2 => by rw [e1, hk q (Nat.lt_of_lt_of_le h1 hS.1) (fun z => h2 (hA q (Nat.lt_of_lt_of_le h1 hS.1) z))]; exact hS.2.1 q h1 h2, fun q hq => by
      rcases List.mem_append.mp hq with h | h
      · exact hS.2.2 q h
      · exact hf _ (hL q h)⟩⟩
theorem vx_calli {S SX : Type} {post : Int32 → S → Prop} {px : SX → Prop} {B : S → State → Prop} {BX : String → SX → State → Prop} {AX : Nat → Prop} (hr : vx_Run p l e R s m args below meth c H locs cells slots mc ms (F0 m pc ls st0) rest (va_Qi post B A1 a) (vx_X px BX AX) free) (hS : va_S A0 H0 H locs) (hA : ∀ q, q < H.size → A1 q → A0 q) (hf : ∀ q, free q → A0 q) (hAX : ∀ q, q < H.size → AX q → A0 q)
    (kx : ∀ (E : String) (ce : Cell) (q9 : Addr) (u : SX) (t : State) (H1 : Heap) (locs1 : List Loc), t.heap = H1 → s.vm.Alike t.vm → px u → BX E u t → H.size ≤ H1.size → (∀ q : Nat, q < H.size → ¬ AX q → H1[q]? = H[q]?) → va_S A0 H0 H1 locs1 → H1[q9]? = some ce → ce.vm = .none → s.vm.findClass E = some ce.cls → vx_W p l e R s m args below meth c H1 locs1 (cells + mc) (slots + ms) Q (F0 m pc ls rest) q9)
    (kk : ∀ (r : Int32) (u : S) (t : State) (H1 : Heap) (locs1 : List Loc), t.heap = H1 → s.vm.Alike t.vm → post r u → B u t → H.size ≤ H1.size → (∀ q : Nat, q < H.size → ¬ A1 q → H1[q]? = H[q]?) → va_S A0 H0 H1 locs1 → W p l e R s m args below meth c H1 locs1 (cells + mc) (slots + ms) Q (F0 m (pc + 3) ls (.int r :: rest))) : W p l e R s m args below meth c H locs cells slots Q (F0 m pc ls st0) := by
  intro T hT X
  rcases hr T hT X with ⟨v, st₀, t, T', L, h0, X', hL, e1, e2, ⟨⟨r, u, hv, hp, hb⟩, hF⟩, st⟩ | ⟨q, st₀, t, T', L, E, ce, h0, X', hL, e1, e2, ⟨u, hp, hb, hF⟩, hce, hcv, hcl, st⟩
  · cases hv
    obtain ⟨k1, k2, k3⟩ := vx_keep h0 e1 hS hA hf hL hF
    obtain ⟨t2, a1, b1⟩ := kk r u t T'.heap (locs ++ L) e1.symm (by rw [← e2]; exact X'.warmed.alike) hp hb k1 k2 k3 T' rfl X'
    exact ⟨t2, st t2 a1, b1⟩
  · obtain ⟨k1, k2, k3⟩ := vx_keep h0 e1 hS hAX hf hL hF
    obtain ⟨t2, a1, b1⟩ := kx E ce q u t T'.heap (locs ++ L) e1.symm (by rw [← e2]; exact X'.warmed.alike) hp hb k1 k2 k3 (by rw [e1]; exact hce) hcv hcl T' rfl X'
    exact ⟨t2, st.trans a1, b1⟩
theorem vx_calll {S SX : Type} {post : Int64 → S → Prop} {px : SX → Prop} {B : S → State → Prop} {BX : String → SX → State → Prop} {AX : Nat → Prop} (hr : vx_Run p l e R s m args below meth c H locs cells slots mc ms (F0 m pc ls st0) rest (va_Ql post B A1 a) (vx_X px BX AX) free) (hS : va_S A0 H0 H locs) (hA : ∀ q, q < H.size → A1 q → A0 q) (hf : ∀ q, free q → A0 q) (hAX : ∀ q, q < H.size → AX q → A0 q)
    (kx : ∀ (E : String) (ce : Cell) (q9 : Addr) (u : SX) (t : State) (H1 : Heap) (locs1 : List Loc), t.heap = H1 → s.vm.Alike t.vm → px u → BX E u t → H.size ≤ H1.size → (∀ q : Nat, q < H.size → ¬ AX q → H1[q]? = H[q]?) → va_S A0 H0 H1 locs1 → H1[q9]? = some ce → ce.vm = .none → s.vm.findClass E = some ce.cls → vx_W p l e R s m args below meth c H1 locs1 (cells + mc) (slots + ms) Q (F0 m pc ls rest) q9)
    (kk : ∀ (r : Int64) (u : S) (t : State) (H1 : Heap) (locs1 : List Loc), t.heap = H1 → s.vm.Alike t.vm → post r u → B u t → H.size ≤ H1.size → (∀ q : Nat, q < H.size → ¬ A1 q → H1[q]? = H[q]?) → va_S A0 H0 H1 locs1 → W p l e R s m args below meth c H1 locs1 (cells + mc) (slots + ms) Q (F0 m (pc + 3) ls (.long r :: rest))) : W p l e R s m args below meth c H locs cells slots Q (F0 m pc ls st0) := by
  intro T hT X
  rcases hr T hT X with ⟨v, st₀, t, T', L, h0, X', hL, e1, e2, ⟨⟨r, u, hv, hp, hb⟩, hF⟩, st⟩ | ⟨q, st₀, t, T', L, E, ce, h0, X', hL, e1, e2, ⟨u, hp, hb, hF⟩, hce, hcv, hcl, st⟩
  · cases hv
    obtain ⟨k1, k2, k3⟩ := vx_keep h0 e1 hS hA hf hL hF
    obtain ⟨t2, a1, b1⟩ := kk r u t T'.heap (locs ++ L) e1.symm (by rw [← e2]; exact X'.warmed.alike) hp hb k1 k2 k3 T' rfl X'
    exact ⟨t2, st t2 a1, b1⟩
  · obtain ⟨k1, k2, k3⟩ := vx_keep h0 e1 hS hAX hf hL hF
    obtain ⟨t2, a1, b1⟩ := kx E ce q u t T'.heap (locs ++ L) e1.symm (by rw [← e2]; exact X'.warmed.alike) hp hb k1 k2 k3 (by rw [e1]; exact hce) hcv hcl T' rfl X'
    exact ⟨t2, st.trans a1, b1⟩
theorem vx_callf {S SX : Type} {post : UInt32 → S → Prop} {px : SX → Prop} {B : S → State → Prop} {BX : String → SX → State → Prop} {AX : Nat → Prop} (hr : vx_Run p l e R s m args below meth c H locs cells slots mc ms (F0 m pc ls st0) rest (va_Qf post B A1 a) (vx_X px BX AX) free) (hS : va_S A0 H0 H locs) (hA : ∀ q, q < H.size → A1 q → A0 q) (hf : ∀ q, free q → A0 q) (hAX : ∀ q, q < H.size → AX q → A0 q)
    (kx : ∀ (E : String) (ce : Cell) (q9 : Addr) (u : SX) (t : State) (H1 : Heap) (locs1 : List Loc), t.heap = H1 → s.vm.Alike t.vm → px u → BX E u t → H.size ≤ H1.size → (∀ q : Nat, q < H.size → ¬ AX q → H1[q]? = H[q]?) → va_S A0 H0 H1 locs1 → H1[q9]? = some ce → ce.vm = .none → s.vm.findClass E = some ce.cls → vx_W p l e R s m args below meth c H1 locs1 (cells + mc) (slots + ms) Q (F0 m pc ls rest) q9)
    (kk : ∀ (r : UInt32) (u : S) (t : State) (H1 : Heap) (locs1 : List Loc), t.heap = H1 → s.vm.Alike t.vm → post r u → B u t → H.size ≤ H1.size → (∀ q : Nat, q < H.size → ¬ A1 q → H1[q]? = H[q]?) → va_S A0 H0 H1 locs1 → W p l e R s m args below meth c H1 locs1 (cells + mc) (slots + ms) Q (F0 m (pc + 3) ls (.float r :: rest))) : W p l e R s m args below meth c H locs cells slots Q (F0 m pc ls st0) := by
  intro T hT X
  rcases hr T hT X with ⟨v, st₀, t, T', L, h0, X', hL, e1, e2, ⟨⟨r, u, hv, hp, hb⟩, hF⟩, st⟩ | ⟨q, st₀, t, T', L, E, ce, h0, X', hL, e1, e2, ⟨u, hp, hb, hF⟩, hce, hcv, hcl, st⟩
  · cases hv
    obtain ⟨k1, k2, k3⟩ := vx_keep h0 e1 hS hA hf hL hF
    obtain ⟨t2, a1, b1⟩ := kk r u t T'.heap (locs ++ L) e1.symm (by rw [← e2]; exact X'.warmed.alike) hp hb k1 k2 k3 T' rfl X'
    exact ⟨t2, st t2 a1, b1⟩
  · obtain ⟨k1, k2, k3⟩ := vx_keep h0 e1 hS hAX hf hL hF
    obtain ⟨t2, a1, b1⟩ := kx E ce q u t T'.heap (locs ++ L) e1.symm (by rw [← e2]; exact X'.warmed.alike) hp hb k1 k2 k3 (by rw [e1]; exact hce) hcv hcl T' rfl X'
    exact ⟨t2, st.trans a1, b1⟩
theorem vx_calld {S SX : Type} {post : UInt64 → S → Prop} {px : SX → Prop} {B : S → State → Prop} {BX : String → SX → State → Prop} {AX : Nat → Prop} (hr : vx_Run p l e R s m args below meth c H locs cells slots mc ms (F0 m pc ls st0) rest (va_Qd post B A1 a) (vx_X px BX AX) free) (hS : va_S A0 H0 H locs) (hA : ∀ q, q < H.size → A1 q → A0 q) (hf : ∀ q, free q → A0 q) (hAX : ∀ q, q < H.size → AX q → A0 q)
    (kx : ∀ (E : String) (ce : Cell) (q9 : Addr) (u : SX) (t : State) (H1 : Heap) (locs1 : List Loc), t.heap = H1 → s.vm.Alike t.vm → px u → BX E u t → H.size ≤ H1.size → (∀ q : Nat, q < H.size → ¬ AX q → H1[q]? = H[q]?) → va_S A0 H0 H1 locs1 → H1[q9]? = some ce → ce.vm = .none → s.vm.findClass E = some ce.cls → vx_W p l e R s m args below meth c H1 locs1 (cells + mc) (slots + ms) Q (F0 m pc ls rest) q9)
    (kk : ∀ (r : UInt64) (u : S) (t : State) (H1 : Heap) (locs1 : List Loc), t.heap = H1 → s.vm.Alike t.vm → post r u → B u t → H.size ≤ H1.size → (∀ q : Nat, q < H.size → ¬ A1 q → H1[q]? = H[q]?) → va_S A0 H0 H1 locs1 → W p l e R s m args below meth c H1 locs1 (cells + mc) (slots + ms) Q (F0 m (pc + 3) ls (.double r :: rest))) : W p l e R s m args below meth c H locs cells slots Q (F0 m pc ls st0) := by
  intro T hT X
  rcases hr T hT X with ⟨v, st₀, t, T', L, h0, X', hL, e1, e2, ⟨⟨r, u, hv, hp, hb⟩, hF⟩, st⟩ | ⟨q, st₀, t, T', L, E, ce, h0, X', hL, e1, e2, ⟨u, hp, hb, hF⟩, hce, hcv, hcl, st⟩
  · cases hv
    obtain ⟨k1, k2, k3⟩ := vx_keep h0 e1 hS hA hf hL hF
    obtain ⟨t2, a1, b1⟩ := kk r u t T'.heap (locs ++ L) e1.symm (by rw [← e2]; exact X'.warmed.alike) hp hb k1 k2 k3 T' rfl X'
    exact ⟨t2, st t2 a1, b1⟩
  · obtain ⟨k1, k2, k3⟩ := vx_keep h0 e1 hS hAX hf hL hF
    obtain ⟨t2, a1, b1⟩ := kx E ce q u t T'.heap (locs ++ L) e1.symm (by rw [← e2]; exact X'.warmed.alike) hp hb k1 k2 k3 (by rw [e1]; exact hce) hcv hcl T' rfl X'
    exact ⟨t2, st.trans a1, b1⟩
theorem vx_callv {S SX : Type} {post : S → Prop} {px : SX → Prop} {B : S → State → Prop} {BX : String → SX → State → Prop} {AX : Nat → Prop} (hr : vx_Run p l e R s m args below meth c H locs cells slots mc ms (F0 m pc ls st0) rest (va_Qv post B A1 a) (vx_X px BX AX) free) (hS : va_S A0 H0 H locs) (hA : ∀ q, q < H.size → A1 q → A0 q) (hf : ∀ q, free q → A0 q) (hAX : ∀ q, q < H.size → AX q → A0 q)
    (kx : ∀ (E : String) (ce : Cell) (q9 : Addr) (u : SX) (t : State) (H1 : Heap) (locs1 : List Loc), t.heap = H1 → s.vm.Alike t.vm → px u → BX E u t → H.size ≤ H1.size → (∀ q : Nat, q < H.size → ¬ AX q → H1[q]? = H[q]?) → va_S A0 H0 H1 locs1 → H1[q9]? = some ce → ce.vm = .none → s.vm.findClass E = some ce.cls → vx_W p l e R s m args below meth c H1 locs1 (cells + mc) (slots + ms) Q (F0 m pc ls rest) q9)
    (kk : ∀ (u : S) (t : State) (H1 : Heap) (locs1 : List Loc), t.heap = H1 → s.vm.Alike t.vm → post u → B u t → H.size ≤ H1.size → (∀ q : Nat, q < H.size → ¬ A1 q → H1[q]? = H[q]?) → va_S A0 H0 H1 locs1 → W p l e R s m args below meth c H1 locs1 (cells + mc) (slots + ms) Q (F0 m (pc + 3) ls (rest))) : W p l e R s m args below meth c H locs cells slots Q (F0 m pc ls st0) := by
  intro T hT X
  rcases hr T hT X with ⟨v, st₀, t, T', L, h0, X', hL, e1, e2, ⟨⟨u, hv, hp, hb⟩, hF⟩, st⟩ | ⟨q, st₀, t, T', L, E, ce, h0, X', hL, e1, e2, ⟨u, hp, hb, hF⟩, hce, hcv, hcl, st⟩
  · cases hv
    obtain ⟨k1, k2, k3⟩ := vx_keep h0 e1 hS hA hf hL hF
    obtain ⟨t2, a1, b1⟩ := kk u t T'.heap (locs ++ L) e1.symm (by rw [← e2]; exact X'.warmed.alike) hp hb k1 k2 k3 T' rfl X'
    exact ⟨t2, st t2 a1, b1⟩
  · obtain ⟨k1, k2, k3⟩ := vx_keep h0 e1 hS hAX hf hL hF
    obtain ⟨t2, a1, b1⟩ := kx E ce q u t T'.heap (locs ++ L) e1.symm (by rw [← e2]; exact X'.warmed.alike) hp hb k1 k2 k3 (by rw [e1]; exact hce) hcv hcl T' rfl X'
    exact ⟨t2, st.trans a1, b1⟩
/-- caught by the row x of this method's table; the rows ahead don't take it -/
theorem vx_catch {own name : String} {E : String} {ce : Cell} {q : Addr} (hown : s.vm.findClass own = some m.cls) (pre : List ExceptionTableEntry) (x : ExceptionTableEntry) (suf : List ExceptionTableEntry) (hsplit : c.exceptionTable.toList = pre ++ x :: suf)
    (hpass : ∀ z ∈ pre, covers z pc = false ∨ (z.catchType ≠ 0 ∧ ∃ nm : String, (Cond.classLink own z.catchType nm).before args s = true ∧ va_Nc E nm s)) (hx : covers x pc = true) (h0 : x.catchType ≠ 0)
    (hlink : (Cond.classLink own x.catchType name).before args s = true) (hcast : (Cond.castable E name).before args s = true) (hcell : H[q]? = some ce) (hv : ce.vm = .none) (hcl : s.vm.findClass E = some ce.cls)
    (kk : W p l e R s m args below meth c H locs cells slots Q (F0 m x.handlerPc ls [.ref q])) : vx_W p l e R s m args below meth c H locs cells slots Q (F0 m pc ls rest) q := by
  intro T hT X
  have hpl : e.platform.magicAccessors = ({} : Platform).magicAccessors := by rw [X.admits.platform]
  obtain ⟨c3, c4, hc3, hc4, hasg⟩ := Cond.castable_spec hcast
  cases Option.some.inj (hc3.symm.trans hcl)
  obtain ⟨c5, hc5, hcl5⟩ := Cond.classLink_spec hown hlink e.platform hpl
  cases Option.some.inj (hc4.symm.trans hc5)
  obtain ⟨vm', X', st⟩ := X.thenCaughtThrough q (g := F0 m pc ls rest) rfl (Steps.refl _) (by rw [hT]; exact hcell) (by rw [hv]; rfl) (by obtain ⟨k9, h9, -⟩ := Vm.findClass_spec hcl; exact ⟨k9, h9⟩) pre x suf hsplit
    (fun z hz => by
      rcases hpass z hz with h | ⟨hz0, nm, hl1, hn1⟩
      · exact Or.inl h
      · obtain ⟨c6, hc6, hcl6⟩ := Cond.classLink_spec hown hl1 e.platform hpl
        obtain ⟨a8, b8, h1, h2, h3⟩ := hn1
        cases Option.some.inj (h1.symm.trans hcl)
        cases Option.some.inj (h2.symm.trans hc6)
        exact Or.inr ⟨hz0, _, hcl6, h3⟩) hx (Or.inr ⟨h0, c4, hcl5, hasg⟩)
  obtain ⟨t, a1, b1⟩ := kk (T.setVm vm') hT X'
  exact ⟨t, st.trans a1, b1⟩
end Rows
section Ends
variable {p : Program} {l : Launch} {e : Env} {R : Room} {s : State} {m : MethodId} {args : Array Value} {below : List Frame} {meth : Method} {c : Code} {H : Heap} {locs : List Loc} {cells slots : Nat} {Q : State → Prop}
variable {mc ms : Nat} {free : Addr → Prop} {A0 A1 : Nat → Prop} {H0 : Heap} {a : Array Value} {ls : Array Slot} {st0 rest : List Value}
variable {Qc : Array Value → State → Outcome → State → Prop} {XC : String → State → State → Prop}
/-- what a body that may throw owes at its end -/
def vx_MQ (below : List Frame) (Qc : Array Value → State → Outcome → State → Prop) (XC : String → State → State → Prop) (a : Array Value) (s : State) (mc ms : Nat) (free : Addr → Prop) : State → Prop := fun t =>
  ∃ o, t.status = .running ∧ Ended t below o ∧ vx_Q Qc XC mc ms free a s o t
theorem vx_ret {g : JFrame} {mc ms : Nat} (k : W p l e R s m args below meth c H locs cells slots (MQ below Qc args s mc ms free) g) : W p l e R s m args below meth c H locs cells slots (vx_MQ below Qc XC args s mc ms free) g := by
  intro T hT X
  obtain ⟨t, a1, o, b1, b2, b3, b4⟩ := k T hT X
  exact ⟨t, a1, o, b1, b2, Or.inl ⟨b3, b4⟩⟩
/-- not caught here: it goes on to the caller -/
theorem vx_widen {g : JFrame} {q : Addr} {k n : Nat} (h1 : cells ≤ k) (h2 : slots ≤ n) (kk : vx_W p l e R s m args below meth c H locs k n Q g q) : vx_W p l e R s m args below meth c H locs cells slots Q g q := fun T hT X => kk T hT (stand_widen X h1 h2)
theorem vx_out {pc : Nat} {E : String} {ce : Cell} {q : Addr} {mc ms : Nat} (hout : ∀ x ∈ c.exceptionTable.toList, covers x pc = false) (hlocks : meth.locks = false) (hcell : H[q]? = some ce) (hv : ce.vm = .none) (hcl : s.vm.findClass E = some ce.cls)
    (hx : ∀ t : State, t.heap = H → s.vm.Alike t.vm → XC E s t) (hf : ∀ z ∈ locs, free z.base) (hc : cells ≤ mc) (hs : slots ≤ ms) :
    vx_W p l e R s m args below meth c H locs cells slots (vx_MQ below Qc XC args s mc ms free) (F0 m pc ls rest) q := by
  intro T hT X
  obtain ⟨st1, hrun, hend, hW, hsm⟩ := X.leaveThrown q (g := F0 m pc ls rest) rfl rfl rfl hout hlocks
  have hcell9 : (T.setFrames (.throwing q :: below)).heap[q]? = some ce := by
    show T.heap[q]? = some ce
    rw [hT]; exact hcell
  exact ⟨_, st1, .threw q, hrun, hend, Or.inr ⟨q, rfl, E, ce, locs, hx _ hT hW.alike, hcell9, hv, hcl, hW, hsm.mono hc hs, hf⟩⟩
theorem vx_frame {U : State} {k n : Nat} (h : s.sameButNew ({ U with vm := s.vm } : State) locs k n) : s.heap.size ≤ U.heap.size ∧ ∀ q : Nat, q < s.heap.size → (∀ z ∈ locs, z.base ≠ q) → U.heap[q]? = s.heap[q]? := by
  obtain ⟨-, h2, -, -, -, h6⟩ := h
  refine ⟨h2, fun q hq hz => ?_⟩
  obtain ⟨c9, e1, e2, e3, e4⟩ := h6 q _ (Array.getElem?_eq_getElem hq)
  have hs : c9.slots = (s.heap[q]).slots := Array.ext_getElem? fun i => e4 i fun hm => hz _ hm rfl
  have h9 : c9 = s.heap[q] := by
    rw [hs] at e2
    exact e2
  have e5 : U.heap[q]? = some c9 := e1
  rw [e5, h9, Array.getElem?_eq_getElem hq]
/-- the words of a throw but the four that speak of the heap -/
def vx_no (w : Cond) : Bool := decide (w ≠ .isRef (.static Bundle.tN "UNASSIGNED_STACK" Bundle.steD)) && decide (w ≠ .isRef (.static Bundle.tN "SUPPRESSED_SENTINEL" Bundle.listD)) && decide (w ≠ .laysStatic Bundle.tN "UNASSIGNED_STACK" Bundle.steD) && decide (w ≠ .laysStatic Bundle.tN "SUPPRESSED_SENTINEL" Bundle.listD)
def vx_at0 (own : String) (ic : Nat) (X : String) (names : List String) : List Cond := (Bundle.ownAtoms0 own ic X names).filter vx_no
def vx_atS (own : String) (ic : Nat) (X : String) (names : List String) : List Cond := (Bundle.ownAtoms own ic X names).filter vx_no
/-- a word that the tables alone decide, or a good one -/
def vx_ot (w : Cond) : Bool := w.onTables || goodWord w
theorem vx_ot_at {args a' : Array Value} {s U : State} {w : Cond} (hW : s.WarmedH U.vm) (hvm : s.vm = U.vm) (hg : vx_ot w = true) (h : w.before args s = true) : w.before a' U = true := by
  simp only [vx_ot, Bool.or_eq_true] at hg
  rcases hg with hg | hg
  · exact va_tabs hg hvm h
  · exact word_at hW (good_of_word hg) h
/-- a list's words: the good ones out of the method's own list, the others by premises of their own -/
theorem vx_hat {args : Array Value} {s : State} {L B : List Cond} (h1 : ∀ w ∈ L.filter goodWord, w.before args s = true) (h2 : ∀ w ∈ L.filter (fun w => !goodWord w), w ∈ B) (h3 : ∀ w ∈ B, w.before args s = true) : ∀ w ∈ L, w.before args s = true := by
  intro w hw
  by_cases g : goodWord w = true
  · exact h1 w (List.mem_filter.mpr ⟨hw, g⟩)
  · refine h3 w (h2 w (List.mem_filter.mpr ⟨hw, ?_⟩))
    show (!goodWord w) = true
    cases hgw : goodWord w
    · rfl
    · exact absurd hgw g
theorem vx_c {args : Array Value} {s : State} {w : Cond} {B : List Cond} (h : w.before args s = true) (t : ∀ w ∈ B, w.before args s = true) : ∀ w' ∈ w :: B, w'.before args s = true := fun w' h' => (List.mem_cons.mp h').elim (fun e => by rw [e]; exact h) (t w')
theorem vx_n {args : Array Value} {s : State} : ∀ w ∈ ([] : List Cond), w.before args s = true := fun _ h => nomatch h
theorem vx_own {args : Array Value} {s : State} {L : List Cond} (h1 : ∀ w ∈ L.filter vx_no, w.before args s = true)
    (hU : (Cond.isRef (.static Bundle.tN "UNASSIGNED_STACK" Bundle.steD)).before args s = true) (hN : (Cond.isRef (.static Bundle.tN "SUPPRESSED_SENTINEL" Bundle.listD)).before args s = true)
    (lU : (Cond.laysStatic Bundle.tN "UNASSIGNED_STACK" Bundle.steD).before args s = true) (lN : (Cond.laysStatic Bundle.tN "SUPPRESSED_SENTINEL" Bundle.listD).before args s = true) : ∀ w ∈ L, w.before args s = true := by
  intro w hw
  by_cases e1 : w = .isRef (.static Bundle.tN "UNASSIGNED_STACK" Bundle.steD)
  · rw [e1]; exact hU
  · by_cases e2 : w = .isRef (.static Bundle.tN "SUPPRESSED_SENTINEL" Bundle.listD)
    · rw [e2]; exact hN
    · by_cases e3 : w = .laysStatic Bundle.tN "UNASSIGNED_STACK" Bundle.steD
      · rw [e3]; exact lU
      · by_cases e4 : w = .laysStatic Bundle.tN "SUPPRESSED_SENTINEL" Bundle.listD
        · rw [e4]; exact lN
        · exact h1 w (List.mem_filter.mpr ⟨hw, by unfold vx_no; rw [decide_eq_true e1, decide_eq_true e2, decide_eq_true e3, decide_eq_true e4]; rfl⟩)
/-- where a static field lies, its class's statics cell in H -/
def vx_L (C n d : String) (A : Nat → Prop) (U : State) (H : Heap) : Prop := ∃ (c : ClassId) (k : Class) (i : Nat) (f : Field) (a : Nat) (cell : Cell), U.vm.findClass C = some c ∧ U.fieldFound? C n d = some (c, k, i, f) ∧ f.isStatic = true ∧ k.statics = some a ∧ H[a]? = some cell ∧ cell.vm.isStatics = true ∧ cell.cls = c ∧ f.slot < cell.slots.size ∧ k.staticTypes[f.slot]? = some f.type ∧ ¬ A a
theorem vx_L.moved {C n d : String} {A : Nat → Prop} {u U : State} {H : Heap} (hvm : u.vm.Alike U.vm) (h : vx_L C n d A u H) : vx_L C n d A U H := by
  obtain ⟨c, k, i, f, a, cell, h1, h2, h3, h4, h5, h6, h7, h8, h9, h10⟩ := h
  obtain ⟨k', hi', he⟩ := State.fieldFound?_setVm hvm h2
  exact ⟨c, k', i, f, a, cell, by rw [hvm.findClass]; exact h1, hi', h3, by rw [he]; exact h4, h5, h6, h7, h8, by rw [he]; exact h9, h10⟩
theorem vx_L.kept {C n d : String} {A : Nat → Prop} {U : State} {H H1 : Heap} (h : vx_L C n d A U H) (hq : ∀ a : Nat, a < H.size → ¬ A a → H1[a]? = H[a]?) : vx_L C n d A U H1 := by
  obtain ⟨c, k, i, f, a, cell, h1, h2, h3, h4, h5, h6, h7, h8, h9, h10⟩ := h
  exact ⟨c, k, i, f, a, cell, h1, h2, h3, h4, by rw [hq a (Array.getElem?_eq_some_iff.mp h5).1 h10]; exact h5, h6, h7, h8, h9, h10⟩
theorem vx_L.narrow {C n d : String} {A B : Nat → Prop} {U : State} {H : Heap} (h : vx_L C n d A U H) (hAB : ∀ q, B q → A q) : vx_L C n d B U H := by
  obtain ⟨c, k, i, f, a, cell, h1, h2, h3, h4, h5, h6, h7, h8, h9, h10⟩ := h
  exact ⟨c, k, i, f, a, cell, h1, h2, h3, h4, h5, h6, h7, h8, h9, fun z => h10 (hAB _ z)⟩
theorem vx_L.word {C n d : String} {A : Nat → Prop} {s : State} {args : Array Value} (h : vx_L C n d A s s.heap) : (Cond.laysStatic C n d).before args s = true := by
  obtain ⟨c, k, i, f, a, cell, h1, h2, h3, h4, h5, h6, h7, h8, h9, -⟩ := h
  show (Cond.laysStatic C n d).holds args s none s [] = true
  exact Cond.laysStatic_of h1 h2 h3 h4 h5 h6 h7 h8 h9
/-- .. and what it holds: null or some reference -/
def vx_Zq (C n d : String) (A : Nat → Prop) (U : State) (H : Heap) : Prop := va_Zq C n d A U H ∧ vx_L C n d A U H
theorem vx_Zq.moved {C n d : String} {A : Nat → Prop} {u U : State} {H : Heap} (hvm : u.vm.Alike U.vm) (h : vx_Zq C n d A u H) : vx_Zq C n d A U H := ⟨va_Zq.moved hvm h.1, vx_L.moved hvm h.2⟩
theorem vx_Zq.kept {C n d : String} {A : Nat → Prop} {U : State} {H H1 : Heap} (h : vx_Zq C n d A U H) (hq : ∀ a : Nat, a < H.size → ¬ A a → H1[a]? = H[a]?) : vx_Zq C n d A U H1 := ⟨va_Zq.kept h.1 hq, vx_L.kept h.2 hq⟩
theorem vx_Zq.narrow {C n d : String} {A B : Nat → Prop} {U : State} {H : Heap} (h : vx_Zq C n d A U H) (hAB : ∀ q, B q → A q) : vx_Zq C n d B U H := ⟨va_Zq.narrow h.1 hAB, vx_L.narrow h.2 hAB⟩
theorem vx_Zqof {args : Array Value} {s : State} {C n d : String} {A : Nat → Prop} (hl : (Cond.laysStatic C n d).before args s = true) (hini : (Cond.initialized C).before args s = true) (h : (Cond.isRef (.static C n d)).before args s = true) (hA : ∀ a : Nat, a < s.heap.size → ¬ A a) : vx_Zq C n d A s s.heap := by
  refine ⟨va_Zqof hl hini h hA, ?_⟩
  obtain ⟨c, k, i, f, a, cell, h1, h2, h3, h4, h5, h6, h7, h8, h9⟩ := Cond.laysStatic_spec hl
  exact ⟨c, k, i, f, a, cell, h1, h2, h3, h4, h5, h6, h7, h8, h9, hA a (Array.getElem?_eq_some_iff.mp h5).1⟩
theorem vx_isRef {C n d : String} {v : Value} {A : Nat → Prop} {s : State} {args : Array Value} (h : va_Z C n d v A s s.heap) (hv : v.isRef = true) : (Cond.isRef (.static C n d)).before args s = true := by
  obtain ⟨cf, kf, fi, f, a, cell, h1, h2, h3, h4, h5, h6, h7, -⟩ := h
  have he : (Term.static C n d).eval args s none [] s = some v := by
    simp [Term.eval, State.fieldNamed?, h1, h2, h4, h5, h6, h7]
  simp only [Cond.before, Cond.holds, Cond.value, he]
  cases v <;> simp_all [Value.isRef]
theorem vx_isRefq {C n d : String} {A : Nat → Prop} {s : State} {args : Array Value} (h : va_Zq C n d A s s.heap) : (Cond.isRef (.static C n d)).before args s = true := by
  rcases h with h | ⟨t, h⟩
  · exact vx_isRef h rfl
  · exact vx_isRef h rfl
/-- the same frame, seen from here: as if the method were called anew in this heap -/
theorem vx_rebase {T : State} (X : Stand p l e R s m args below meth c T locs cells slots) {R' : Room} (hf : R'.frames ≤ R.frames) (hl : R'.locals ≤ R.locals) (hc : cells + R'.cells ≤ R.cells) (hs : slots + R'.slots ≤ R.slots) :
    Stand p l e R' ((T.setVm s.vm).setFrames (.invoking m args :: below)) m args below meth c T [] 0 0 := by
  have htop : (T.setVm s.vm).topJava?.isSome := X.here.top
  have hF : ((T.setVm s.vm).setFrames (.invoking m args :: below)).frames = .invoking m args :: below := State.frames_setFrames _ (State.cur_lt_of_top htop)
  obtain ⟨g₀, hg0⟩ := Option.isSome_iff_exists.mp htop
  obtain ⟨r, hr⟩ := State.topJava?_eq_some.mp hg0
  have hl9 : e.platform.stackLimits (T.setVm s.vm).me = e.platform.stackLimits s.me := X.limits
  have hb9 : (T.setVm s.vm).me.stackBytes = s.me.stackBytes := X.bytes
  refine ⟨X.admits, X.cas, X.clock, hF, ?_, X.hears, X.method, X.code, X.here, X.tail, X.warmed, ?_, ?_, ?_⟩
  · have h := X.room
    have hU : ((T.setVm s.vm).setFrames (.invoking m args :: below)).localsInUse = s.localsInUse := by
      rw [State.localsInUse_invoking hF (meth := meth) (c := c) X.method X.code, State.localsInUse_invoking X.frames X.method X.code]
    simp only [State.hasRoom, Bool.and_eq_true, decide_eq_true_eq] at h ⊢
    obtain ⟨⟨⟨⟨h1, h2, h3, h4, h5, h6⟩, h7⟩, h8⟩, h9⟩ := h
    rw [X.frames, List.length_cons] at h2 h3
    have q1 := X.heapSize
    have q2 := X.used
    simp only [hF, hU, List.length_cons, State.stackLimits_setFrames, State.stackBytes_setFrames, hl9, hb9]
    refine ⟨⟨⟨⟨by omega, by omega, by omega, by omega, by omega, h6⟩, ?_⟩, ?_⟩, X.book⟩
    · show T.heap.size + R'.cells ≤ e.platform.maxCells
      omega
    · show T.slotsUsed + R'.slots ≤ e.platform.maxSlots
      omega
  · rw [State.stackLimits_setFrames]; rfl
  · rw [State.stackBytes_setFrames]; rfl
  · refine ⟨?_, Nat.le_refl _, Nat.le_refl _, ?_, ?_, fun a c9 h9 => ⟨c9, h9, rfl, rfl, fun _ _ => rfl⟩⟩
    · obtain ⟨t, ht, -⟩ := State.frames_cons hr
      show T.setVm s.vm = { ((T.setVm s.vm).setFrames (.invoking m args :: below)).setFrames (T.setVm s.vm).frames with heap := T.heap, slotsUsed := T.slotsUsed }
      rw [State.setFrames_setFrames, State.setFrames_self ht]
      rfl
    · show T.slotsUsed = T.slotsUsed + ((T.heap.toList.drop T.heap.size).map (·.slots.size)).sum
      rw [List.drop_eq_nil_of_le (Nat.le_of_eq Array.length_toList)]
      rfl
    · show ((T.heap.toList.drop T.heap.size).map (·.slots.size)).sum ≤ 0
      rw [List.drop_eq_nil_of_le (Nat.le_of_eq Array.length_toList)]
      exact Nat.le_refl _
/-- 'throw new E()': new; dup; invokespecial; athrow -/
theorem vx_throw0 {cc : ByteArray} {pc : Nat} (hexec : p.tables.exec = Jvm.exec) (hb : c.code = cc) (hl : l.stackTraces = false) {own cls : String} {names : List String} {ik ic mc ms : Nat} {A : Nat → Prop}
    (hown : s.vm.findClass own = some m.cls) (hcls : Bundle.fit cls = true) (hnames : ∀ n ∈ names, Bundle.fit n = true)
    (hk : (Cond.classLink own ik cls).before args s = true) (hini : (Cond.initialized cls).before args s = true) (hat : ∀ w ∈ vx_at0 own ic cls names, w.before args s = true)
    (hgood : ∀ w ∈ Cond.classLink own ik cls :: Cond.initialized cls :: vx_at0 own ic cls names, vx_ot w = true)
    (hU : vx_Zq Bundle.tN "UNASSIGNED_STACK" Bundle.steD A s s.heap) (hN : vx_Zq Bundle.tN "SUPPRESSED_SENTINEL" Bundle.listD A s s.heap) (hS : va_S A s.heap H locs) (hsize : ls.size = c.maxLocals)
    (d0 : decode cc pc = .ok (.new ik, 3)) (d3 : decode cc (pc + 3) = .ok (.dup, 1)) (d4 : decode cc (pc + 4) = .ok (.invokespecial ic, 3)) (d7 : decode cc (pc + 7) = .ok (.athrow, 1))
    (hout : ∀ x ∈ c.exceptionTable.toList, covers x (pc + 7) = false)
    (hRframes : names.length + 3 < R.frames) (hRlocals : (rest.map fun v => v.category).sum + (13 * (names.length + 1) + 42) ≤ R.locals) (hRcells : cells + 1 ≤ R.cells) (hRslots : slots + 6 ≤ R.slots) (hlocks : meth.locks = false)
    (hx : ∀ t : State, s.vm.Alike t.vm → H.size ≤ t.heap.size → (∀ q : Nat, q < H.size → t.heap[q]? = H[q]?) → XC cls s t)
    (hf : ∀ z ∈ locs, free z.base) (hc : cells + 1 ≤ mc) (hs : slots + 6 ≤ ms) :
    W p l e R s m args below meth c H locs cells slots (vx_MQ below Qc XC args s mc ms free) (F0 m pc ls rest) := by
  intro T hT X
  have htr : e.platform.stackTraces = false := (show e.platform.stackTraces = l.stackTraces by rw [X.admits.platform]).trans hl
  have Y := vx_rebase X (R' := { frames := R.frames, locals := R.locals, cells := 1, slots := 6 }) (Nat.le_refl _) (Nat.le_refl _) hRcells hRslots
  obtain ⟨s', hA⟩ : ∃ z, z = (T.setVm s.vm).setFrames (.invoking m args :: below) := ⟨_, rfl⟩
  rw [← hA] at Y
  have hvm : s'.vm = s.vm := by rw [hA]; rfl
  have hhp : s'.heap = H := by rw [hA]; exact hT
  have hW0 : s.WarmedH s'.vm := by rw [hvm]; exact State.WarmedH.refl s
  have hat' : ∀ w ∈ vx_at0 own ic cls names, w.before args s' = true := fun w hw => vx_ot_at hW0 hvm.symm (hgood w (List.mem_cons_of_mem _ (List.mem_cons_of_mem _ hw))) (hat w hw)
  have hk' : (Cond.classLink own ik cls).before args s' = true := vx_ot_at hW0 hvm.symm (hgood _ List.mem_cons_self) hk
  have hini' : (Cond.initialized cls).before args s' = true := vx_ot_at hW0 hvm.symm (hgood _ (List.mem_cons_of_mem _ List.mem_cons_self)) hini
  have hU' : vx_Zq Bundle.tN "UNASSIGNED_STACK" Bundle.steD A s' s'.heap := by rw [hhp]; exact vx_Zq.moved hW0.alike (hU.kept hS.2.1)
  have hN' : vx_Zq Bundle.tN "SUPPRESSED_SENTINEL" Bundle.listD A s' s'.heap := by rw [hhp]; exact vx_Zq.moved hW0.alike (hN.kept hS.2.1)
  have h : ∀ w ∈ Bundle.ownAtoms0 own ic cls names, w.before args s' = true := vx_own hat' (vx_isRefq hU'.1) (vx_isRefq hN'.1) hU'.2.word hN'.2.word
  have hown' : s'.vm.findClass own = some m.cls := by rw [hvm]; exact hown
  have hins : (Cond.instantiable cls 6).before args s' = true := h _ (by simp [Bundle.ownAtoms0])
  obtain ⟨vm₁, cX, kX, hfX, hkX, -, -, X₁, st1⟩ := Y.newCold hexec (own := own) (C := cls) (index := ik) (n := 6) hown' hk' hins hini'
    (g := F0 m pc ls rest) rfl (by rw [hb]; exact d0) (Nat.le_refl _) (Nat.le_refl _)
  generalize hT1 : (T.setVm vm₁).pushCell { cls := cX, slots := kX.instanceTypes.map defaultValue, vm := .none } = T1 at X₁ st1
  have hcat : (Value.ref T.heap.size).category = 1 := rfl
  have hcellA : T1.heap[T.heap.size]? = some (freshCell cX kX) := by rw [← hT1]; exact State.heap_pushCell_size _ _
  have d3' : decode c.code (pc + 3) = .ok (.dup, 1) := by rw [hb]; exact d3
  obtain ⟨U, hsteps, hrun, hend, hW, hsame, ce, hce, hO⟩ := X₁.ctorThrow0 hexec htr (own := own) (cls := cls) (names := names) (ic := ic) hown' hcls hnames h (fun x hx => nomatch hx) hfX hkX hcellA (by rw [hhp, hT]; exact Nat.le_refl _)
    (g := { method := m, pc := pc + 4, locals := ls, stack := .ref T.heap.size :: .ref T.heap.size :: rest, locked := none }) rfl hsize rfl rfl (rest := rest) rfl
    (by rw [hb]; exact d4) (by rw [hb]; exact d7) hout hRframes (by simp only [List.map_cons, List.sum_cons, hcat]; omega) hlocks
  obtain ⟨f1, f2⟩ := vx_frame hsame
  rw [hhp] at f1 f2
  have hWs : s.WarmedH U.vm := State.WarmedH.trans hW0 hW
  have hcl : s.vm.findClass cls = some ce.cls := by
    have h9 := hO.cls
    rw [hvm] at h9
    exact h9
  have hall : s.sameButNew ({ U with vm := s.vm } : State) locs mc ms := by
    subst hA
    obtain ⟨e1, e2⟩ := hsame
    rw [State.setFrames_setFrames] at e1
    have h2 : (T.setVm s.vm).sameButNew ({ U with vm := s.vm } : State) [] (0 + 1) (0 + 6) := ⟨e1, e2⟩
    have h3 := X.same.trans h2
    rw [List.append_nil] at h3
    exact h3.mono hc hs
  refine ⟨U, ?_, .threw T.heap.size, hrun, hend, Or.inr ⟨T.heap.size, rfl, cls, ce, locs, hx U hWs.alike f1 (fun q hq => f2 q hq (fun z hz => nomatch hz)), hce, hO.vm, hcl, hWs, hall, hf⟩⟩
  refine st1 _ ?_
  show Steps p.tables e below (T1.setTop { method := m, pc := pc + 3, locals := ls, stack := .ref T.heap.size :: rest, locked := none }) _
  jvm_step X₁.here [X₁.here.top, hexec, d3', Value.category]
  exact hsteps
/-- 'throw new E("text")': new; dup; ldc; invokespecial; athrow -/
theorem vx_throwS {cc : ByteArray} {pc : Nat} (hexec : p.tables.exec = Jvm.exec) (hb : c.code = cc) (hl : l.stackTraces = false) {own cls text : String} {names : List String} {ik is ic mc ms sa : Nat} {A : Nat → Prop}
    (hown : s.vm.findClass own = some m.cls) (hcls : Bundle.fit cls = true) (hnames : ∀ n ∈ names, Bundle.fit n = true)
    (hk : (Cond.classLink own ik cls).before args s = true) (hini : (Cond.initialized cls).before args s = true) (hstr : vk_R own is text sa s) (hat : ∀ w ∈ vx_atS own ic cls names, w.before args s = true)
    (hgood : ∀ w ∈ Cond.classLink own ik cls :: Cond.initialized cls :: vx_atS own ic cls names, vx_ot w = true)
    (hU : vx_Zq Bundle.tN "UNASSIGNED_STACK" Bundle.steD A s s.heap) (hN : vx_Zq Bundle.tN "SUPPRESSED_SENTINEL" Bundle.listD A s s.heap) (hS : va_S A s.heap H locs) (hsize : ls.size = c.maxLocals)
    (d0 : decode cc pc = .ok (.new ik, 3)) (d3 : decode cc (pc + 3) = .ok (.dup, 1)) (d4 : decode cc (pc + 4) = .ok (.ldc is, 2)) (d6 : decode cc (pc + 6) = .ok (.invokespecial ic, 3)) (d9 : decode cc (pc + 9) = .ok (.athrow, 1))
    (hout : ∀ x ∈ c.exceptionTable.toList, covers x (pc + 9) = false)
    (hRframes : names.length + 3 < R.frames) (hRlocals : (rest.map fun v => v.category).sum + (13 * (names.length + 1) + 43) ≤ R.locals) (hRcells : cells + 1 ≤ R.cells) (hRslots : slots + 6 ≤ R.slots) (hlocks : meth.locks = false)
    (hx : ∀ t : State, s.vm.Alike t.vm → H.size ≤ t.heap.size → (∀ q : Nat, q < H.size → t.heap[q]? = H[q]?) → XC cls s t)
    (hf : ∀ z ∈ locs, free z.base) (hc : cells + 1 ≤ mc) (hs : slots + 6 ≤ ms) :
    W p l e R s m args below meth c H locs cells slots (vx_MQ below Qc XC args s mc ms free) (F0 m pc ls rest) := by
  intro T hT X
  have htr : e.platform.stackTraces = false := (show e.platform.stackTraces = l.stackTraces by rw [X.admits.platform]).trans hl
  have Y := vx_rebase X (R' := { frames := R.frames, locals := R.locals, cells := 1, slots := 6 }) (Nat.le_refl _) (Nat.le_refl _) hRcells hRslots
  obtain ⟨s', hA⟩ : ∃ z, z = (T.setVm s.vm).setFrames (.invoking m args :: below) := ⟨_, rfl⟩
  rw [← hA] at Y
  have hvm : s'.vm = s.vm := by rw [hA]; rfl
  have hhp : s'.heap = H := by rw [hA]; exact hT
  have hW0 : s.WarmedH s'.vm := by rw [hvm]; exact State.WarmedH.refl s
  have hat' : ∀ w ∈ vx_atS own ic cls names, w.before args s' = true := fun w hw => vx_ot_at hW0 hvm.symm (hgood w (List.mem_cons_of_mem _ (List.mem_cons_of_mem _ hw))) (hat w hw)
  have hk' : (Cond.classLink own ik cls).before args s' = true := vx_ot_at hW0 hvm.symm (hgood _ List.mem_cons_self) hk
  have hini' : (Cond.initialized cls).before args s' = true := vx_ot_at hW0 hvm.symm (hgood _ (List.mem_cons_of_mem _ List.mem_cons_self)) hini
  have hU' : vx_Zq Bundle.tN "UNASSIGNED_STACK" Bundle.steD A s' s'.heap := by rw [hhp]; exact vx_Zq.moved hW0.alike (hU.kept hS.2.1)
  have hN' : vx_Zq Bundle.tN "SUPPRESSED_SENTINEL" Bundle.listD A s' s'.heap := by rw [hhp]; exact vx_Zq.moved hW0.alike (hN.kept hS.2.1)
  have h : ∀ w ∈ Bundle.ownAtoms own ic cls names, w.before args s' = true := vx_own hat' (vx_isRefq hU'.1) (vx_isRefq hN'.1) hU'.2.word hN'.2.word
  have hown' : s'.vm.findClass own = some m.cls := by rw [hvm]; exact hown
  have hins : (Cond.instantiable cls 6).before args s' = true := h _ (by simp [Bundle.ownAtoms])
  obtain ⟨vm₁, cX, kX, hfX, hkX, -, -, X₁, st1⟩ := Y.newCold hexec (own := own) (C := cls) (index := ik) (n := 6) hown' hk' hins hini'
    (g := F0 m pc ls rest) rfl (by rw [hb]; exact d0) (Nat.le_refl _) (Nat.le_refl _)
  generalize hT1 : (T.setVm vm₁).pushCell { cls := cX, slots := kX.instanceTypes.map defaultValue, vm := .none } = T1 at X₁ st1
  have hcat : (Value.ref T.heap.size).category = 1 := rfl
  have hcellA : T1.heap[T.heap.size]? = some (freshCell cX kX) := by rw [← hT1]; exact State.heap_pushCell_size _ _
  have d3' : decode c.code (pc + 3) = .ok (.dup, 1) := by rw [hb]; exact d3
  have d4' : decode c.code (pc + 4) = .ok (.ldc is, 2) := by rw [hb]; exact d4
  have hstr' : vk_R own is text sa s' := vk_R.warm hW0 hstr
  obtain ⟨U, hsteps, hrun, hend, hW, hsame, ce, hce, hO⟩ := X₁.ctorThrowS hexec htr (own := own) (cls := cls) (names := names) (ic := ic) hown' hcls hnames h (fun x hx => nomatch hx) hfX hkX hcellA (by rw [hhp, hT]; exact Nat.le_refl _) (msg := .ref sa) rfl
    (g := { method := m, pc := pc + 6, locals := ls, stack := .ref sa :: .ref T.heap.size :: .ref T.heap.size :: rest, locked := none }) rfl hsize rfl rfl (rest := rest) rfl
    (by rw [hb]; exact d6) (by rw [hb]; exact d9) hout hRframes (by simp only [List.map_cons, List.sum_cons, hcat]; omega) hlocks
  obtain ⟨f1, f2⟩ := vx_frame hsame
  rw [hhp] at f1 f2
  have hWs : s.WarmedH U.vm := State.WarmedH.trans hW0 hW
  have hcl : s.vm.findClass cls = some ce.cls := by
    have h9 := hO.cls
    rw [hvm] at h9
    exact h9
  have hall : s.sameButNew ({ U with vm := s.vm } : State) locs mc ms := by
    subst hA
    obtain ⟨e1, e2⟩ := hsame
    rw [State.setFrames_setFrames] at e1
    have h2 : (T.setVm s.vm).sameButNew ({ U with vm := s.vm } : State) [] (0 + 1) (0 + 6) := ⟨e1, e2⟩
    have h3 := X.same.trans h2
    rw [List.append_nil] at h3
    exact h3.mono hc hs
  refine ⟨U, ?_, .threw T.heap.size, hrun, hend, Or.inr ⟨T.heap.size, rfl, cls, ce, locs, hx U hWs.alike f1 (fun q hq => f2 q hq (fun z hz => nomatch hz)), hce, hO.vm, hcl, hWs, hall, hf⟩⟩
  refine st1 _ ?_
  show Steps p.tables e below (T1.setTop { method := m, pc := pc + 3, locals := ls, stack := .ref T.heap.size :: rest, locked := none }) _
  jvm_step X₁.here [X₁.here.top, hexec, d3', Value.category]
  exact X₁.ldcString hexec (own := own) (text := text) (index := is) (a := sa) hown' hstr'.1 hstr'.2
    (g := { method := m, pc := pc + 4, locals := ls, stack := .ref T.heap.size :: .ref T.heap.size :: rest, locked := none }) rfl d4' _ hsteps
/-- 'throw new E("text")', the text by a wide index -/
theorem vx_throwSW {cc : ByteArray} {pc : Nat} (hexec : p.tables.exec = Jvm.exec) (hb : c.code = cc) (hl : l.stackTraces = false) {own cls text : String} {names : List String} {ik is ic mc ms sa : Nat} {A : Nat → Prop}
    (hown : s.vm.findClass own = some m.cls) (hcls : Bundle.fit cls = true) (hnames : ∀ n ∈ names, Bundle.fit n = true)
    (hk : (Cond.classLink own ik cls).before args s = true) (hini : (Cond.initialized cls).before args s = true) (hstr : vk_R own is text sa s) (hat : ∀ w ∈ vx_atS own ic cls names, w.before args s = true)
    (hgood : ∀ w ∈ Cond.classLink own ik cls :: Cond.initialized cls :: vx_atS own ic cls names, vx_ot w = true)
    (hU : vx_Zq Bundle.tN "UNASSIGNED_STACK" Bundle.steD A s s.heap) (hN : vx_Zq Bundle.tN "SUPPRESSED_SENTINEL" Bundle.listD A s s.heap) (hS : va_S A s.heap H locs) (hsize : ls.size = c.maxLocals)
    (d0 : decode cc pc = .ok (.new ik, 3)) (d3 : decode cc (pc + 3) = .ok (.dup, 1)) (d4 : decode cc (pc + 4) = .ok (.ldc_w is, 3)) (d7 : decode cc (pc + 7) = .ok (.invokespecial ic, 3)) (d10 : decode cc (pc + 10) = .ok (.athrow, 1))
    (hout : ∀ x ∈ c.exceptionTable.toList, covers x (pc + 10) = false)
    (hRframes : names.length + 3 < R.frames) (hRlocals : (rest.map fun v => v.category).sum + (13 * (names.length + 1) + 43) ≤ R.locals) (hRcells : cells + 1 ≤ R.cells) (hRslots : slots + 6 ≤ R.slots) (hlocks : meth.locks = false)
    (hx : ∀ t : State, s.vm.Alike t.vm → H.size ≤ t.heap.size → (∀ q : Nat, q < H.size → t.heap[q]? = H[q]?) → XC cls s t)
    (hf : ∀ z ∈ locs, free z.base) (hc : cells + 1 ≤ mc) (hs : slots + 6 ≤ ms) :
    W p l e R s m args below meth c H locs cells slots (vx_MQ below Qc XC args s mc ms free) (F0 m pc ls rest) := by
  intro T hT X
  have htr : e.platform.stackTraces = false := (show e.platform.stackTraces = l.stackTraces by rw [X.admits.platform]).trans hl
  have Y := vx_rebase X (R' := { frames := R.frames, locals := R.locals, cells := 1, slots := 6 }) (Nat.le_refl _) (Nat.le_refl _) hRcells hRslots
  obtain ⟨s', hA⟩ : ∃ z, z = (T.setVm s.vm).setFrames (.invoking m args :: below) := ⟨_, rfl⟩
  rw [← hA] at Y
  have hvm : s'.vm = s.vm := by rw [hA]; rfl
  have hhp : s'.heap = H := by rw [hA]; exact hT
  have hW0 : s.WarmedH s'.vm := by rw [hvm]; exact State.WarmedH.refl s
  have hat' : ∀ w ∈ vx_atS own ic cls names, w.before args s' = true := fun w hw => vx_ot_at hW0 hvm.symm (hgood w (List.mem_cons_of_mem _ (List.mem_cons_of_mem _ hw))) (hat w hw)
  have hk' : (Cond.classLink own ik cls).before args s' = true := vx_ot_at hW0 hvm.symm (hgood _ List.mem_cons_self) hk
  have hini' : (Cond.initialized cls).before args s' = true := vx_ot_at hW0 hvm.symm (hgood _ (List.mem_cons_of_mem _ List.mem_cons_self)) hini
  have hU' : vx_Zq Bundle.tN "UNASSIGNED_STACK" Bundle.steD A s' s'.heap := by rw [hhp]; exact vx_Zq.moved hW0.alike (hU.kept hS.2.1)
  have hN' : vx_Zq Bundle.tN "SUPPRESSED_SENTINEL" Bundle.listD A s' s'.heap := by rw [hhp]; exact vx_Zq.moved hW0.alike (hN.kept hS.2.1)
  have h : ∀ w ∈ Bundle.ownAtoms own ic cls names, w.before args s' = true := vx_own hat' (vx_isRefq hU'.1) (vx_isRefq hN'.1) hU'.2.word hN'.2.word
  have hown' : s'.vm.findClass own = some m.cls := by rw [hvm]; exact hown
  have hins : (Cond.instantiable cls 6).before args s' = true := h _ (by simp [Bundle.ownAtoms])
  obtain ⟨vm₁, cX, kX, hfX, hkX, -, -, X₁, st1⟩ := Y.newCold hexec (own := own) (C := cls) (index := ik) (n := 6) hown' hk' hins hini'
    (g := F0 m pc ls rest) rfl (by rw [hb]; exact d0) (Nat.le_refl _) (Nat.le_refl _)
  generalize hT1 : (T.setVm vm₁).pushCell { cls := cX, slots := kX.instanceTypes.map defaultValue, vm := .none } = T1 at X₁ st1
  have hcat : (Value.ref T.heap.size).category = 1 := rfl
  have hcellA : T1.heap[T.heap.size]? = some (freshCell cX kX) := by rw [← hT1]; exact State.heap_pushCell_size _ _
  have d3' : decode c.code (pc + 3) = .ok (.dup, 1) := by rw [hb]; exact d3
  have d4' : decode c.code (pc + 4) = .ok (.ldc_w is, 3) := by rw [hb]; exact d4
  have hstr' : vk_R own is text sa s' := vk_R.warm hW0 hstr
  obtain ⟨U, hsteps, hrun, hend, hW, hsame, ce, hce, hO⟩ := X₁.ctorThrowS hexec htr (own := own) (cls := cls) (names := names) (ic := ic) hown' hcls hnames h (fun x hx => nomatch hx) hfX hkX hcellA (by rw [hhp, hT]; exact Nat.le_refl _) (msg := .ref sa) rfl
    (g := { method := m, pc := pc + 7, locals := ls, stack := .ref sa :: .ref T.heap.size :: .ref T.heap.size :: rest, locked := none }) rfl hsize rfl rfl (rest := rest) rfl
    (by rw [hb]; exact d7) (by rw [hb]; exact d10) hout hRframes (by simp only [List.map_cons, List.sum_cons, hcat]; omega) hlocks
  obtain ⟨f1, f2⟩ := vx_frame hsame
  rw [hhp] at f1 f2
  have hWs : s.WarmedH U.vm := State.WarmedH.trans hW0 hW
  have hcl : s.vm.findClass cls = some ce.cls := by
    have h9 := hO.cls
    rw [hvm] at h9
    exact h9
  have hall : s.sameButNew ({ U with vm := s.vm } : State) locs mc ms := by
    subst hA
    obtain ⟨e1, e2⟩ := hsame
    rw [State.setFrames_setFrames] at e1
    have h2 : (T.setVm s.vm).sameButNew ({ U with vm := s.vm } : State) [] (0 + 1) (0 + 6) := ⟨e1, e2⟩
    have h3 := X.same.trans h2
    rw [List.append_nil] at h3
    exact h3.mono hc hs
  refine ⟨U, ?_, .threw T.heap.size, hrun, hend, Or.inr ⟨T.heap.size, rfl, cls, ce, locs, hx U hWs.alike f1 (fun q hq => f2 q hq (fun z hz => nomatch hz)), hce, hO.vm, hcl, hWs, hall, hf⟩⟩
  refine st1 _ ?_
  show Steps p.tables e below (T1.setTop { method := m, pc := pc + 3, locals := ls, stack := .ref T.heap.size :: rest, locked := none }) _
  jvm_step X₁.here [X₁.here.top, hexec, d3', Value.category]
  exact X₁.ldcStringW hexec (own := own) (text := text) (index := is) (a := sa) hown' hstr'.1 hstr'.2
    (g := { method := m, pc := pc + 4, locals := ls, stack := .ref T.heap.size :: .ref T.heap.size :: rest, locked := none }) rfl d4' _ hsteps
end Ends
section Bodies
variable {l : Launch}
theorem vx_ofW {y : MethodName} {ws ws' : List Cond} {rm : Room} {Pc : Array Value → State → Prop} {Qc : Array Value → State → Outcome → State → Prop} {XC : String → State → State → Prop} {mc ms : Nat} {free : Addr → Prop} {cc : ByteArray} {maxL : Nat} {ret : Option FieldType}
    (hy : plainName y.cls = true) (hw : ws = Cond.code y cc maxL ret :: ws')
    (body : ∀ p e s m args below meth c s₁, BodyLoose p l y (headSpec ws rm) cc maxL ret e s m args below meth c s₁ → c.maxLocals = maxL → (∀ x ∈ c.exceptionTable.toList, False) → Pc args s →
      W p l e (headSpec ws rm).room s m args below meth c s.heap [] 0 0 (vx_MQ below Qc XC args s mc ms free) (entryFrame m args maxL)) : vx_Met l y ws rm Pc Qc XC mc ms free := by
  refine MetFree.of_bodyS (code := cc) (maxLocals := maxL) (ret := ret) hy ?_ ?_
  · intro args s m h hn
    obtain ⟨meth, c, h1, h2, h3, h4, h5, h6, -, -⟩ := Cond.code_spec hn (atoms_spec (ws := ws) h _ (by rw [hw]; exact List.mem_cons_self))
    exact ⟨meth, c, h1, h2, h3, h4, h5, h6⟩
  · intro p e s m args below meth c s₁ B hml hP _
    have hh0 : s₁.heap = s.heap := by rw [B.state]; rfl
    have ht : ∀ x ∈ c.exceptionTable.toList, False := by
      obtain ⟨meth9, c9, h1, h2, -, -, -, -, h7, -⟩ := Cond.code_spec B.named (atoms_spec (ws := ws) B.pre _ (by rw [hw]; exact List.mem_cons_self))
      cases Option.some.inj (h1.symm.trans B.method)
      cases Option.some.inj (h2.symm.trans (Stand.of_body B).code)
      intro x hx
      rw [Array.isEmpty_iff.mp h7] at hx
      cases hx
    obtain ⟨t, a1, o, b1, b2, b3⟩ := body p e s m args below meth c s₁ B hml ht hP s₁ hh0 (Stand.of_body B)
    exact ⟨t, o, a1, b1, b2, b3⟩
/-- the table of a body with handlers -/
theorem vx_table {p : Program} {x y : MethodName} {S : Spec} {cc bytes : ByteArray} {maxL maxL' : Nat} {ret ret' : Option FieldType} {e : Env} {s s₁ : State} {m : MethodId} {args : Array Value} {below : List Frame} {meth : Method} {c : Code} {hh : List (Nat × Nat × Nat × Nat)}
    (B : BodyLoose p l y S cc maxL ret e s m args below meth c s₁) (h : (Cond.codeWith y bytes maxL' ret' hh).before args s = true) : c.exceptionTable.toList = tableOf hh := by
  obtain ⟨m9, meth9, c9, hn9, h1, h2, -, -, h6, -⟩ := Cond.codeWith_spec h
  cases Option.some.inj (hn9.symm.trans B.named)
  cases Option.some.inj (h1.symm.trans B.method)
  cases Option.some.inj (h2.symm.trans (Stand.of_body B).code)
  rw [← h6, table_eq]
end Bodies
end VXA
/-! ===== END ===== -/
/-! ===== BEGIN a static call of a method with an exception table ===== -/
section VXS
variable {p : Program} {l : Launch} {e : Env} {R : Room} {s : State} {m : MethodId} {args : Array Value} {below : List Frame} {meth : Method} {c : Code} {T : State} {H : Heap} {locs : List Loc} {cells slots : Nat}
abbrev vx_CSW (R : Room) (s : State) (args : Array Value) (own : String) (index : Nat) (y : MethodName) (bytes : ByteArray) (maxL : Nat) (ret : Option FieldType) (hh : List (Nat × Nat × Nat × Nat)) (ws : List Cond) (rm : Room) (mc ms n : Nat) : Prop :=
  (rm.cells = mc ∧ rm.slots = ms ∧ rm.frames + 1 ≤ R.frames ∧ 8 + (maxL + 11) + rm.locals ≤ R.locals ∧ (∀ w ∈ ws, ∀ (a' : Array Value) (U : State), s.WarmedH U.vm → w.before a' U = true) ∧ Cond.codeWith y bytes maxL ret hh ∈ ws) ∧
  (Cond.codeWith y bytes maxL ret hh).before args s = true ∧ (Cond.initialized y.cls).before args s = true ∧ (y.cls ≠ "java/lang/invoke/MethodHandle" ∧ y.cls ≠ "java/lang/invoke/VarHandle") ∧
  (∀ sig, parseMethodDescriptor y.desc = some sig → n = sig.parameters.length) ∧ (Cond.methodLink own index y).before args s = true ∧ (Cond.static y).before args s = true
theorem vx_cwSW {own : String} {index maxL mc ms : Nat} {y : MethodName} {bytes : ByteArray} {ret : Option FieldType} {hh : List (Nat × Nat × Nat × Nat)} {Ts ws ws' : List Cond} {rm : Room} (n : Nat) (ht : ∀ w ∈ Ts, w.before args s = true) (hT : GoodIn Ts (va_wsS own index y ws)) (hw : ws = Cond.codeWith y bytes maxL ret hh :: ws') (hrc : rm.cells = mc) (hrs : rm.slots = ms)
    (hd : y.cls ≠ "java/lang/invoke/MethodHandle" ∧ y.cls ≠ "java/lang/invoke/VarHandle" ∧ (parseMethodDescriptor y.desc).map (fun d => d.parameters.length) = some n) (hR : rm.frames + 1 ≤ R.frames ∧ 8 + (maxL + 11) + rm.locals ≤ R.locals) :
    vx_CSW R s args own index y bytes maxL ret hh ws rm mc ms n := by
  have ok : ∀ w ∈ va_wsS own index y ws, w.before args s = true := fun w h => ht w (hT w h).1
  have hG : GoodIn Ts ws := fun w h => hT w (by unfold va_wsS; exact List.mem_append_right _ h)
  have hc : Cond.codeWith y bytes maxL ret hh ∈ ws := by rw [hw]; exact List.mem_cons_self
  refine ⟨⟨hrc, hrs, hR.1, hR.2, pay_in ht hG, hc⟩, ht _ (hG _ hc).1, ok _ (by simp [va_wsS]), ⟨hd.1, hd.2.1⟩, fun sig h => ?_, ok _ (by simp [va_wsS]), ok _ (by simp [va_wsS])⟩
  have h2 := hd.2.2
  rw [h] at h2
  exact (Option.some.inj h2).symm
theorem vx_callSW (X : Stand p l e R s m args below meth c T locs cells slots) (hexec : p.tables.exec = Jvm.exec) {own : String} {index : Nat} {y : MethodName} {bytes : ByteArray} {maxL : Nat} {ret : Option FieldType} {hh : List (Nat × Nat × Nat × Nat)}
    (hown : s.vm.findClass own = some m.cls) (hlink : (Cond.methodLink own index y).before args s = true) (hstat : (Cond.static y).before args s = true) (hinit : (Cond.initialized y.cls).before args s = true)
    (hcode : (Cond.codeWith y bytes maxL ret hh).before args s = true) (hy : y.cls ≠ "java/lang/invoke/MethodHandle" ∧ y.cls ≠ "java/lang/invoke/VarHandle")
    {W9 : Nat} {Pre : Pt → Array Value → Prop} {Post : Pt → Array Value → Option Value → Pt → Prop} (hK : Back l R p e below s args y 3 W9 Pre Post)
    {g : JFrame} (hg : g.method = m) (hsize : g.locals.size = c.maxLocals) {argsL rest : List Value} (hlen : ∀ sig, parseMethodDescriptor y.desc = some sig → argsL.length = sig.parameters.length)
    (hstack : g.stack = argsL.reverse ++ rest) (hW : 2 * g.monitorRoom + (rest.map fun v => v.category).sum ≤ W9) (hdg : decode c.code g.pc = .ok (.invokestatic index, 3))
    (hpre : ∀ vm₁, s.WarmedH vm₁ → Pre ⟨T.setVm vm₁, locs, cells, slots⟩ argsL.toArray) :
    ∃ (v : Option Value) (vm₁ : Vm) (B : Pt), s.WarmedH vm₁ ∧ Stand p l e R s m args below meth c B.U B.locs B.cells B.slots ∧ Post ⟨T.setVm vm₁, locs, cells, slots⟩ argsL.toArray v B ∧
      ∀ target, Steps p.tables e below (B.U.setTop { g with pc := g.pc + 3, stack := v.toList ++ rest }) target → Steps p.tables e below (T.setTop g) target := by
  obtain ⟨mk, methM, cM, hnamed, hmethM, -, -, -, -, -, -, hsigM⟩ := Cond.codeWith_spec hcode
  have hstatic : methM.isStatic = true := Cond.static_spec hnamed hmethM hstat
  obtain ⟨kP, hkP, -⟩ := className_of_methodNamed hnamed
  have hinitP : kP.init = .initialized := Cond.initialized_spec (findClass_of_methodNamed hnamed) hkP hinit
  obtain ⟨vm₁, X₁, hstep₁⟩ := X.invokestatic hexec hown hlink hnamed hmethM hstatic hkP hinitP hy (g := g) hg (argsL := argsL) (rest := rest) (hlen _ hsigM) hstack hdg
  obtain ⟨v, B, X', hpost, hsteps⟩ := hK m meth c ⟨T.setVm vm₁, locs, cells, slots⟩ { g with stack := rest } (.invokestatic index) mk argsL.toArray X₁ hg hsize hdg hW (X₁.named hnamed) (hpre vm₁ X₁.warmed)
  exact ⟨v, vm₁, B, X₁.warmed, X', hpost, fun target h => hstep₁ _ fun acts => by rw [doInvoke_state]; exact hsteps.trans h⟩
theorem vx_runSW {y : MethodName} {bytes cc : ByteArray} {maxL nL mc ms n index : Nat} {ret : Option FieldType} {hh : List (Nat × Nat × Nat × Nat)} {ws : List Cond} {rm : Room} {Pc : Array Value → State → Prop} {Qc : Array Value → State → Outcome → State → Prop} {free : Addr → Prop} {Ts : List Cond} {own : String} {As rest : List Value} {g : JFrame}
    (S : CallFix p m c cc nL s args Ts own) (hM : Met l y ws rm Pc Qc mc ms free) (cw : vx_CSW R s args own index y bytes maxL ret hh ws rm mc ms n) (hp : PreS s H Pc As)
    (hg : g.method = m) (hn : As.length = n) (hsize : g.locals.size = nL) (hstack : g.stack = As.reverse ++ rest) (hW : 2 * g.monitorRoom + (rest.map fun v => v.category).sum ≤ 8) (hdg : decode cc g.pc = .ok (.invokestatic index, 3)) (hf : cells + mc ≤ R.cells ∧ slots + ms ≤ R.slots) :
    va_Run p l e R s m args below meth c H locs cells slots mc ms g rest (Qc As.toArray) (free) := by
  obtain ⟨⟨hrc, hrs, hfr, hlo, hws, hcw⟩, hcode, hini, hy, hlen, hl, hstt⟩ := cw
  have hK : Back l R p e below s args y 3 8 (PreOf R mc ms Pc) (PostOf Qc mc ms free) := va_backW (hh := hh) (bytes := bytes) (maxL := maxL) (ret := ret) hM hp.1 hrc hrs hfr hlo hws hcw (fun a' U hW => word_at hW (Or.inl (by first | rfl | simp [Cond.onTables, Cond.keeps, Cond.steady])) hini)
  obtain ⟨hx, hb, hml, ho, -⟩ := S
  intro T hT X
  obtain ⟨v, vm₁, ⟨U', l2, c2, s2⟩, hW₁, X', ⟨g', mk, t, L, e1, e2, hq, h1, hL, h2, h3⟩, st⟩ := vx_callSW X hx (hh := hh) (bytes := bytes) (maxL := maxL) (ret := ret) ho hl hstt hini hcode hy hK hg (hsize.trans hml.symm) (argsL := As) (rest := rest) (fun sig h => hn.trans (hlen sig h)) hstack hW (by rw [hb]; exact hdg)
    (fun vm₁ hW₁ => ⟨hf.1, hf.2, hp.2 (T.setVm vm₁) hT hW₁⟩)
  dsimp only [Pt.U, Pt.locs, Pt.cells, Pt.slots] at X' e1 e2 h1 h2 h3 st
  subst h1; subst h2; subst h3
  exact ⟨v, (T.setVm vm₁).calling g' mk As.toArray, t, U', L, hT, X', hL, e1, e2, hq, st⟩
/-- not caught here, past rows that name other classes: it goes on to the caller -/
theorem vx_outP {p : Program} {l : Launch} {e : Env} {R : Room} {s : State} {m : MethodId} {args : Array Value} {below : List Frame} {meth : Method} {c : Code} {H : Heap} {locs : List Loc} {cells slots : Nat} {free : Addr → Prop} {ls : Array Slot} {rest : List Value} {Qc : Array Value → State → Outcome → State → Prop} {XC : String → State → State → Prop}
    {pc : Nat} {own E : String} {ce : Cell} {q : Addr} {mc ms : Nat} (hown : s.vm.findClass own = some m.cls) (hlocks : meth.locks = false)
    (hpass : ∀ z ∈ c.exceptionTable.toList, covers z pc = false ∨ (z.catchType ≠ 0 ∧ ∃ nm : String, (Cond.classLink own z.catchType nm).before args s = true ∧ va_Nc E nm s)) (hcell : H[q]? = some ce) (hv : ce.vm = .none) (hcl : s.vm.findClass E = some ce.cls)
    (hx : ∀ t : State, t.heap = H → s.vm.Alike t.vm → XC E s t) (hf : ∀ z ∈ locs, free z.base) (hc : cells ≤ mc) (hs : slots ≤ ms) :
    vx_W p l e R s m args below meth c H locs cells slots (vx_MQ below Qc XC args s mc ms free) (F0 m pc ls rest) q := by
  intro T hT X
  have hpl : e.platform.magicAccessors = ({} : Platform).magicAccessors := by rw [X.admits.platform]
  obtain ⟨vm', hW', X', st⟩ := X.outThrough hlocks q (g := F0 m pc ls rest) rfl rfl rfl (cell := ce) (by rw [hT]; exact hcell) (by rw [hv]; rfl)
    (by obtain ⟨k9, h9, -⟩ := Vm.findClass_spec hcl; exact ⟨k9, h9⟩) (fun z hz => by
      rcases hpass z hz with h | ⟨hz0, nm, hl1, hn1⟩
      · exact Or.inl h
      · obtain ⟨c6, hc6, hcl6⟩ := Cond.classLink_spec hown hl1 e.platform hpl
        obtain ⟨a8, b8, h1, h2, h3⟩ := hn1
        cases Option.some.inj (h1.symm.trans hcl)
        cases Option.some.inj (h2.symm.trans hc6)
        exact Or.inr ⟨hz0, _, hcl6, h3⟩)
  obtain ⟨g₀, hfr⟩ := X'.frames_eq
  have hcell9 : ((T.setVm vm').setFrames (.throwing q :: below)).heap[q]? = some ce := by
    show T.heap[q]? = some ce
    rw [hT]; exact hcell
  have hend : Ended ((T.setVm vm').setFrames (.throwing q :: below)) below (.threw q) := State.frames_setFrames _ (State.cur_lt_of_frames hfr)
  refine ⟨(T.setVm vm').setFrames (.throwing q :: below), ?_, .threw q, X'.here.running, hend, Or.inr ⟨q, rfl, E, ce, locs, hx _ hT (X'.ends _).1.alike, hcell9, hv, hcl, (X'.ends _).1, (X'.ends _).2.mono hc hs, hf⟩⟩
  rw [X.pushThrowing_eq]
  exact st
/-- a thing of a world lies in the heap -/
theorem vx_lt {D : va_G} {cl : List vw_C} {ws : va_W} {H1 : Heap} (h : va_P D cl ws H1) {k : Nat} {q : Nat × va_E} (hk : ws[k]? = some q) : q.1 < H1.size := (h k q hk).lt
end VXS
/-! ===== END ===== -/
/-! ===== BEGIN methods with a table of their own: called by a name, returning or throwing ===== -/
section VXH
/-! vx_backW, vx_callVX, vx_callSX, vx_callVW, vx_runVW, vx_runVX, vx_runSX, vx_ofWH follow the same proofs as their sisters above (Free/Laws.lean, Shelf42/LK1.lean); vx_outP calls Shelf42/NT130.lean (outThrough). -/
section
variable {l : Launch} {R : Room} {p : Program} {e : Env} {below : List Frame} {s : State} {sargs : Array Value} {y : MethodName} {len W9 : Nat}
theorem vx_backW {ws : List Cond} {rm : Room} {Pc : Array Value → State → Prop} {Qc : Array Value → State → Outcome → State → Prop} {XC : String → State → State → Prop} {mc ms : Nat} {free : Addr → Prop} {bytes : ByteArray} {maxL : Nat} {ret : Option FieldType} {hh : List (Nat × Nat × Nat × Nat)}
    (hM : vx_Met l y ws rm Pc Qc XC mc ms free) (hblind : FrameBlind Pc) (hrc : rm.cells = mc) (hrs : rm.slots = ms)
    (hframes : rm.frames + 1 ≤ R.frames) (hlocals : W9 + (maxL + 11) + rm.locals ≤ R.locals)
    (hws : ∀ w ∈ ws, ∀ a' U, s.WarmedH U.vm → w.before a' U = true) (hcode : Cond.codeWith y bytes maxL ret hh ∈ ws) (hinit : ∀ a' U, s.WarmedH U.vm → (Cond.initialized y.cls).before a' U = true) :
    vx_Back l R p e below s sargs y len W9 (PreOf R mc ms Pc) (PostOf Qc mc ms free) (vx_Post XC mc ms free) := by
  intro m meth c A g ig mk a X hg hsize hdg hW hn hp
  have h1 : (headSpec ws rm).pre.before a A.U = true := atoms_intro fun w hw => hws w hw _ _ X.warmed
  have h2 : (Cond.codeWith y bytes maxL ret hh).before a A.U = true := hws _ hcode _ _ X.warmed
  have h3 : (Cond.initialized y.cls).before a A.U = true := hinit _ _ X.warmed
  have h4 : A.cells + (headSpec ws rm).room.cells ≤ R.cells := by rw [show (headSpec ws rm).room.cells = mc from hrc]; exact hp.1
  have h5 : A.slots + (headSpec ws rm).room.slots ≤ R.slots := by rw [show (headSpec ws rm).room.slots = ms from hrs]; exact hp.2.1
  have hPc : Pc a (A.U.calling g mk a) := hblind _ _ _ _ hp.2.2
  obtain ⟨U, Ls, c0, s0⟩ := A
  dsimp only [Pt.U, Pt.locs, Pt.cells, Pt.slots] at h1 h2 h3 h4 h5 X hn hPc ⊢
  obtain ⟨m9, methY, cY, hn9, hmY, hcY, -, hlY, -⟩ := Cond.codeWith_spec h2
  cases Option.some.inj (hn9.symm.trans hn)
  obtain ⟨kY, hkY, -⟩ := className_of_methodNamed hn
  have hinitY : kY.init = .initialized := Cond.initialized_spec (findClass_of_methodNamed hn) hkY h3
  have h : At U g.method c below := by rw [hg]; exact X.here
  have hlocals9 : W9 + (maxL + 11) + (headSpec ws rm).room.locals ≤ R.locals := hlocals
  have happ : (headSpec ws rm).appliesLoose y e.platform (U.calling g mk a) = true :=
    Spec.appliesLoose_calling (g := g) h hdg hn hkY hinitY
      (X.room_calling (g := g) (R' := (headSpec ws rm).room) hsize hmY hcY hframes (by rw [hlY]; omega) h4 h5) h1
  obtain ⟨mid, hmid⟩ := h.above
  have hfr : (U.setTop g).frames = (.java g :: mid) ++ below := by rw [State.frames_setTop' g h.top, hmid]; rfl
  obtain ⟨o, s₂, hsteps, -, hend, hq⟩ := Steps.callFree hM p X.admits X.cas X.clock (acts := []) hfr happ hPc trivial
  have hq' : vx_Q Qc XC mc ms free a (U.calling g mk a) o s₂ := hq
  rw [State.frames_setTop' g h.top] at hend
  obtain ⟨g₀, hg0⟩ := Option.isSome_iff_exists.mp h.top
  obtain ⟨r, hr⟩ := State.topJava?_eq_some.mp hg0
  have hr' : (({ U with heap := s₂.heap, slotsUsed := s₂.slotsUsed } : State).setVm s₂.vm).frames = .java g₀ :: r := hr
  rcases hq' with ⟨hqc, L, hfe, hL⟩ | ⟨q, rfl, E, ce, L, hx, hce, hcv, hcl, hW₂, hsm, hL⟩
  · obtain ⟨⟨v, rfl⟩, hW₂, e2, q2, q3, q4, q5, q6⟩ := id hfe
    have e3 : s₂ = ({ (U.calling g mk a).setFrames s₂.frames with heap := s₂.heap, slotsUsed := s₂.slotsUsed } : State).setVm s₂.vm := by
      have : s₂ = ({ s₂ with vm := (U.calling g mk a).vm } : State).setVm s₂.vm := rfl
      rw [e2] at this
      exact this
    obtain ⟨c₂, i₂, len₂, hc₂, hd₂, hf₂⟩ := hend
    have hW' : U.WarmedH s₂.vm := hW₂
    have hcc : c₂ = c := by
      have h1 : s₂.code? g.method = U.code? g.method := by
        rw [State.code?_eq, State.code?_eq, hW'.alike.method?]
      exact Option.some.inj (hc₂.symm.trans (h1.trans h.code))
    subst hcc
    have hlen : len₂ = len := by rw [hdg] at hd₂; cases hd₂; rfl
    subst hlen
    have hs₂ : s₂ = (({ U with heap := s₂.heap, slotsUsed := s₂.slotsUsed } : State).setVm s₂.vm).setTop { g with pc := g.pc + len₂, stack := v.toList ++ g.stack } := by
      refine e3.trans ?_
      rw [hf₂, State.calling_eq h.top, State.setFrames_setFrames, State.setTop_of_frames _ hr', hr]
      rfl
    have hsame : U.sameButNew ({ U with heap := s₂.heap, slotsUsed := s₂.slotsUsed } : State) L mc ms := by
      refine ⟨?_, q2, q3, q4, q5, q6⟩
      obtain ⟨t, ht, -⟩ := State.frames_cons hr
      show ({ U with heap := s₂.heap, slotsUsed := s₂.slotsUsed } : State) = { U.setFrames U.frames with heap := s₂.heap, slotsUsed := s₂.slotsUsed }
      rw [State.setFrames_self ht]
    subst hg
    refine Or.inl ⟨v, ⟨(({ U with heap := s₂.heap, slotsUsed := s₂.slotsUsed } : State).setVm s₂.vm), Ls ++ L, c0 + mc, s0 + ms⟩,
      ⟨X.admits, X.cas, X.clock, X.frames, X.room, X.hears, X.method, X.code, (X.here.setHeapUsed s₂.heap s₂.slotsUsed).setVm hW'.alike, X.tail, State.WarmedH.trans X.warmed hW', X.limits, X.bytes, X.same.trans (hsame.setVm s.vm)⟩,
      ⟨g, mk, s₂, L, rfl, rfl, hqc, rfl, hL, rfl, rfl⟩, ?_⟩
    show Steps p.tables e below _ ((({ U with heap := s₂.heap, slotsUsed := s₂.slotsUsed } : State).setVm s₂.vm).setTop { g with pc := g.pc + len₂, stack := v.toList ++ g.stack })
    rw [← hs₂]
    exact hsteps
  · obtain ⟨e2, q2, q3, q4, q5, q6⟩ := id hsm
    have e3 : s₂ = ({ (U.calling g mk a).setFrames s₂.frames with heap := s₂.heap, slotsUsed := s₂.slotsUsed } : State).setVm s₂.vm := by
      have : s₂ = ({ s₂ with vm := (U.calling g mk a).vm } : State).setVm s₂.vm := rfl
      rw [e2] at this
      exact this
    have hf₂ : s₂.frames = .throwing q :: .java g :: U.frames.tail := hend
    have hW' : U.WarmedH s₂.vm := hW₂
    have hs₂ : s₂ = ((({ U with heap := s₂.heap, slotsUsed := s₂.slotsUsed } : State).setVm s₂.vm).setTop g).pushFrame (.throwing q) := by
      refine e3.trans ?_
      rw [hf₂, State.calling_eq h.top, State.setFrames_setFrames, State.pushFrame, State.frames_setTop _ hr', State.setTop_of_frames _ hr', State.setFrames_setFrames, hr]
      rfl
    have hsame : U.sameButNew ({ U with heap := s₂.heap, slotsUsed := s₂.slotsUsed } : State) L mc ms := by
      refine ⟨?_, q2, q3, q4, q5, q6⟩
      obtain ⟨t, ht, -⟩ := State.frames_cons hr
      show ({ U with heap := s₂.heap, slotsUsed := s₂.slotsUsed } : State) = { U.setFrames U.frames with heap := s₂.heap, slotsUsed := s₂.slotsUsed }
      rw [State.setFrames_self ht]
    subst hg
    refine Or.inr ⟨q, ⟨(({ U with heap := s₂.heap, slotsUsed := s₂.slotsUsed } : State).setVm s₂.vm), Ls ++ L, c0 + mc, s0 + ms⟩,
      ⟨X.admits, X.cas, X.clock, X.frames, X.room, X.hears, X.method, X.code, (X.here.setHeapUsed s₂.heap s₂.slotsUsed).setVm hW'.alike, X.tail, State.WarmedH.trans X.warmed hW', X.limits, X.bytes, X.same.trans (hsame.setVm s.vm)⟩,
      ⟨g, mk, s₂, L, E, ce, rfl, rfl, hx, hce, hcv, hcl, rfl, hL, rfl, rfl⟩, ?_⟩
    show Steps p.tables e below _ (((({ U with heap := s₂.heap, slotsUsed := s₂.slotsUsed } : State).setVm s₂.vm).setTop g).pushFrame (.throwing q))
    rw [← hs₂]
    exact hsteps
end
variable {p : Program} {l : Launch} {e : Env} {R : Room} {s : State} {m : MethodId} {args : Array Value} {below : List Frame} {meth : Method} {c : Code} {T : State} {H : Heap} {locs : List Loc} {cells slots : Nat}
theorem vx_callVX (X : Stand p l e R s m args below meth c T locs cells slots) (hexec : p.tables.exec = Jvm.exec) {own C : String} {index : Nat} {y : MethodName} {bytes : ByteArray} {maxL : Nat} {ret : Option FieldType} {hh : List (Nat × Nat × Nat × Nat)}
    (hown : s.vm.findClass own = some m.cls) (hlink : (Cond.methodLink own index y).before args s = true) (hinst : (Cond.instanceMethod y).before args s = true) (hsel : (Cond.selects C y y).before args s = true)
    (hcode : (Cond.codeWith y bytes maxL ret hh).before args s = true) (hy : y.cls ≠ "java/lang/invoke/MethodHandle" ∧ y.cls ≠ "java/lang/invoke/VarHandle")
    {W9 : Nat} {Pre : Pt → Array Value → Prop} {Post : Pt → Array Value → Option Value → Pt → Prop} {PostX : Pt → Array Value → Addr → Pt → Prop} (hK : vx_Back l R p e below s args y 3 W9 Pre Post PostX)
    {b : Addr} {cellB : Cell} (hcell : T.heap[b]? = some cellB) (hobj : cellB.vm.isStatics = false) (hcls : s.vm.findClass C = some cellB.cls)
    {g : JFrame} (hg : g.method = m) (hsize : g.locals.size = c.maxLocals) {argsL rest : List Value} (hlen : ∀ sig, parseMethodDescriptor y.desc = some sig → argsL.length = sig.parameters.length)
    (hstack : g.stack = argsL.reverse ++ .ref b :: rest) (hW : 2 * g.monitorRoom + (rest.map fun v => v.category).sum ≤ W9) (hdg : decode c.code g.pc = .ok (.invokevirtual index, 3))
    (hpre : ∀ vm₁, s.WarmedH vm₁ → Pre ⟨T.setVm vm₁, locs, cells, slots⟩ (Value.ref b :: argsL).toArray) :
    (∃ (v : Option Value) (vm₁ : Vm) (B : Pt), s.WarmedH vm₁ ∧ Stand p l e R s m args below meth c B.U B.locs B.cells B.slots ∧ Post ⟨T.setVm vm₁, locs, cells, slots⟩ (Value.ref b :: argsL).toArray v B ∧
      ∀ target, Steps p.tables e below (B.U.setTop { g with pc := g.pc + 3, stack := v.toList ++ rest }) target → Steps p.tables e below (T.setTop g) target) ∨
    (∃ (q : Addr) (vm₁ : Vm) (B : Pt), s.WarmedH vm₁ ∧ Stand p l e R s m args below meth c B.U B.locs B.cells B.slots ∧ PostX ⟨T.setVm vm₁, locs, cells, slots⟩ (Value.ref b :: argsL).toArray q B ∧
      Steps p.tables e below (T.setTop g) ((B.U.setTop { g with stack := rest }).pushFrame (.throwing q))) := by
  obtain ⟨mk, methM, hnamed, hmethM, hstM, habM⟩ := Cond.instanceMethod_spec hinst
  obtain ⟨m8, methM', cM, hn8, hmethM', -, -, -, -, -, -, hsigM⟩ := Cond.codeWith_spec hcode
  cases Option.some.inj (hn8.symm.trans hnamed)
  cases hmethM.symm.trans hmethM'
  obtain ⟨c2, r2, m2, q1, q2, q3, q4, kP, hkP, hkPi⟩ := Cond.selects_spec hsel
  cases hcls.symm.trans q1
  cases (State.methodFound?_of_named hnamed hy).symm.trans q2
  cases hnamed.symm.trans q3
  have hselP : selectMethod e.platform s.vm cellB.cls mk = .method mk := by rw [Launch.admits_selectMethod X.admits]; exact q4
  obtain ⟨vm₁, X₁, hstep₁⟩ := X.invokevirtual hexec hown hlink hnamed hmethM hstM hkP hkPi hy (a := b) (cell := cellB) hcell
    (fun z h => by rw [h] at hobj; cases hobj) hselP hmethM habM hkP hkPi (g := g) hg (argsL := argsL) (rest := rest) (hlen _ hsigM) hstack hdg
  rcases hK m meth c ⟨T.setVm vm₁, locs, cells, slots⟩ { g with stack := rest } (.invokevirtual index) mk (Value.ref b :: argsL).toArray X₁ hg hsize hdg hW (X₁.named hnamed) (hpre vm₁ X₁.warmed) with ⟨v, B, X', hpost, hsteps⟩ | ⟨q, B, X', hpost, hsteps⟩
  · exact Or.inl ⟨v, vm₁, B, X₁.warmed, X', hpost, fun target h => hstep₁ _ fun acts => by rw [doInvoke_state]; exact hsteps.trans h⟩
  · exact Or.inr ⟨q, vm₁, B, X₁.warmed, X', hpost, hstep₁ _ fun acts => by rw [doInvoke_state]; exact hsteps⟩
theorem vx_callSX (X : Stand p l e R s m args below meth c T locs cells slots) (hexec : p.tables.exec = Jvm.exec) {own : String} {index : Nat} {y : MethodName} {bytes : ByteArray} {maxL : Nat} {ret : Option FieldType} {hh : List (Nat × Nat × Nat × Nat)}
    (hown : s.vm.findClass own = some m.cls) (hlink : (Cond.methodLink own index y).before args s = true) (hstat : (Cond.static y).before args s = true) (hinit : (Cond.initialized y.cls).before args s = true)
    (hcode : (Cond.codeWith y bytes maxL ret hh).before args s = true) (hy : y.cls ≠ "java/lang/invoke/MethodHandle" ∧ y.cls ≠ "java/lang/invoke/VarHandle")
    {W9 : Nat} {Pre : Pt → Array Value → Prop} {Post : Pt → Array Value → Option Value → Pt → Prop} {PostX : Pt → Array Value → Addr → Pt → Prop} (hK : vx_Back l R p e below s args y 3 W9 Pre Post PostX)
    {g : JFrame} (hg : g.method = m) (hsize : g.locals.size = c.maxLocals) {argsL rest : List Value} (hlen : ∀ sig, parseMethodDescriptor y.desc = some sig → argsL.length = sig.parameters.length)
    (hstack : g.stack = argsL.reverse ++ rest) (hW : 2 * g.monitorRoom + (rest.map fun v => v.category).sum ≤ W9) (hdg : decode c.code g.pc = .ok (.invokestatic index, 3))
    (hpre : ∀ vm₁, s.WarmedH vm₁ → Pre ⟨T.setVm vm₁, locs, cells, slots⟩ argsL.toArray) :
    (∃ (v : Option Value) (vm₁ : Vm) (B : Pt), s.WarmedH vm₁ ∧ Stand p l e R s m args below meth c B.U B.locs B.cells B.slots ∧ Post ⟨T.setVm vm₁, locs, cells, slots⟩ argsL.toArray v B ∧
      ∀ target, Steps p.tables e below (B.U.setTop { g with pc := g.pc + 3, stack := v.toList ++ rest }) target → Steps p.tables e below (T.setTop g) target) ∨
    (∃ (q : Addr) (vm₁ : Vm) (B : Pt), s.WarmedH vm₁ ∧ Stand p l e R s m args below meth c B.U B.locs B.cells B.slots ∧ PostX ⟨T.setVm vm₁, locs, cells, slots⟩ argsL.toArray q B ∧
      Steps p.tables e below (T.setTop g) ((B.U.setTop { g with stack := rest }).pushFrame (.throwing q))) := by
  obtain ⟨mk, methM, cM, hnamed, hmethM, -, -, -, -, -, -, hsigM⟩ := Cond.codeWith_spec hcode
  have hstatic : methM.isStatic = true := Cond.static_spec hnamed hmethM hstat
  obtain ⟨kP, hkP, -⟩ := className_of_methodNamed hnamed
  have hinitP : kP.init = .initialized := Cond.initialized_spec (findClass_of_methodNamed hnamed) hkP hinit
  obtain ⟨vm₁, X₁, hstep₁⟩ := X.invokestatic hexec hown hlink hnamed hmethM hstatic hkP hinitP hy (g := g) hg (argsL := argsL) (rest := rest) (hlen _ hsigM) hstack hdg
  rcases hK m meth c ⟨T.setVm vm₁, locs, cells, slots⟩ { g with stack := rest } (.invokestatic index) mk argsL.toArray X₁ hg hsize hdg hW (X₁.named hnamed) (hpre vm₁ X₁.warmed) with ⟨v, B, X', hpost, hsteps⟩ | ⟨q, B, X', hpost, hsteps⟩
  · exact Or.inl ⟨v, vm₁, B, X₁.warmed, X', hpost, fun target h => hstep₁ _ fun acts => by rw [doInvoke_state]; exact hsteps.trans h⟩
  · exact Or.inr ⟨q, vm₁, B, X₁.warmed, X', hpost, hstep₁ _ fun acts => by rw [doInvoke_state]; exact hsteps⟩
theorem vx_callVW (X : Stand p l e R s m args below meth c T locs cells slots) (hexec : p.tables.exec = Jvm.exec) {own C : String} {index : Nat} {y : MethodName} {bytes : ByteArray} {maxL : Nat} {ret : Option FieldType} {hh : List (Nat × Nat × Nat × Nat)}
    (hown : s.vm.findClass own = some m.cls) (hlink : (Cond.methodLink own index y).before args s = true) (hinst : (Cond.instanceMethod y).before args s = true) (hsel : (Cond.selects C y y).before args s = true)
    (hcode : (Cond.codeWith y bytes maxL ret hh).before args s = true) (hy : y.cls ≠ "java/lang/invoke/MethodHandle" ∧ y.cls ≠ "java/lang/invoke/VarHandle")
    {W9 : Nat} {Pre : Pt → Array Value → Prop} {Post : Pt → Array Value → Option Value → Pt → Prop} (hK : Back l R p e below s args y 3 W9 Pre Post)
    {b : Addr} {cellB : Cell} (hcell : T.heap[b]? = some cellB) (hobj : cellB.vm.isStatics = false) (hcls : s.vm.findClass C = some cellB.cls)
    {g : JFrame} (hg : g.method = m) (hsize : g.locals.size = c.maxLocals) {argsL rest : List Value} (hlen : ∀ sig, parseMethodDescriptor y.desc = some sig → argsL.length = sig.parameters.length)
    (hstack : g.stack = argsL.reverse ++ .ref b :: rest) (hW : 2 * g.monitorRoom + (rest.map fun v => v.category).sum ≤ W9) (hdg : decode c.code g.pc = .ok (.invokevirtual index, 3))
    (hpre : ∀ vm₁, s.WarmedH vm₁ → Pre ⟨T.setVm vm₁, locs, cells, slots⟩ (Value.ref b :: argsL).toArray) :
    ∃ (v : Option Value) (vm₁ : Vm) (B : Pt), s.WarmedH vm₁ ∧ Stand p l e R s m args below meth c B.U B.locs B.cells B.slots ∧ Post ⟨T.setVm vm₁, locs, cells, slots⟩ (Value.ref b :: argsL).toArray v B ∧
      ∀ target, Steps p.tables e below (B.U.setTop { g with pc := g.pc + 3, stack := v.toList ++ rest }) target → Steps p.tables e below (T.setTop g) target := by
  obtain ⟨mk, methM, hnamed, hmethM, hstM, habM⟩ := Cond.instanceMethod_spec hinst
  obtain ⟨m8, methM', cM, hn8, hmethM', -, -, -, -, -, -, hsigM⟩ := Cond.codeWith_spec hcode
  cases Option.some.inj (hn8.symm.trans hnamed)
  cases hmethM.symm.trans hmethM'
  obtain ⟨c2, r2, m2, q1, q2, q3, q4, kP, hkP, hkPi⟩ := Cond.selects_spec hsel
  cases hcls.symm.trans q1
  cases (State.methodFound?_of_named hnamed hy).symm.trans q2
  cases hnamed.symm.trans q3
  have hselP : selectMethod e.platform s.vm cellB.cls mk = .method mk := by rw [Launch.admits_selectMethod X.admits]; exact q4
  obtain ⟨vm₁, X₁, hstep₁⟩ := X.invokevirtual hexec hown hlink hnamed hmethM hstM hkP hkPi hy (a := b) (cell := cellB) hcell
    (fun z h => by rw [h] at hobj; cases hobj) hselP hmethM habM hkP hkPi (g := g) hg (argsL := argsL) (rest := rest) (hlen _ hsigM) hstack hdg
  obtain ⟨v, B, X', hpost, hsteps⟩ := hK m meth c ⟨T.setVm vm₁, locs, cells, slots⟩ { g with stack := rest } (.invokevirtual index) mk (Value.ref b :: argsL).toArray X₁ hg hsize hdg hW (X₁.named hnamed) (hpre vm₁ X₁.warmed)
  exact ⟨v, vm₁, B, X₁.warmed, X', hpost, fun target h => hstep₁ _ fun acts => by rw [doInvoke_state]; exact hsteps.trans h⟩
abbrev vx_CVW (R : Room) (s : State) (args : Array Value) (own C : String) (index : Nat) (y : MethodName) (bytes : ByteArray) (maxL : Nat) (ret : Option FieldType) (hh : List (Nat × Nat × Nat × Nat)) (ws : List Cond) (rm : Room) (mc ms n : Nat) : Prop :=
  (rm.cells = mc ∧ rm.slots = ms ∧ rm.frames + 1 ≤ R.frames ∧ 8 + (maxL + 11) + rm.locals ≤ R.locals ∧ (∀ w ∈ ws, ∀ (a' : Array Value) (U : State), s.WarmedH U.vm → w.before a' U = true) ∧ Cond.codeWith y bytes maxL ret hh ∈ ws) ∧
  (Cond.codeWith y bytes maxL ret hh).before args s = true ∧ (Cond.initialized y.cls).before args s = true ∧ (y.cls ≠ "java/lang/invoke/MethodHandle" ∧ y.cls ≠ "java/lang/invoke/VarHandle") ∧
  (∀ sig, parseMethodDescriptor y.desc = some sig → n = sig.parameters.length) ∧ (Cond.methodLink own index y).before args s = true ∧ (Cond.instanceMethod y).before args s = true ∧ (Cond.selects C y y).before args s = true
theorem vx_cwVW {own C : String} {index maxL mc ms : Nat} {y : MethodName} {bytes : ByteArray} {ret : Option FieldType} {hh : List (Nat × Nat × Nat × Nat)} {Ts ws ws' : List Cond} {rm : Room} (n : Nat) (ht : ∀ w ∈ Ts, w.before args s = true) (hT : GoodIn Ts (wsV own index C y ws)) (hw : ws = Cond.codeWith y bytes maxL ret hh :: ws') (hrc : rm.cells = mc) (hrs : rm.slots = ms)
    (hd : y.cls = C ∧ y.cls ≠ "java/lang/invoke/MethodHandle" ∧ y.cls ≠ "java/lang/invoke/VarHandle" ∧ (parseMethodDescriptor y.desc).map (fun d => d.parameters.length) = some n) (hR : rm.frames + 1 ≤ R.frames ∧ 8 + (maxL + 11) + rm.locals ≤ R.locals) :
    vx_CVW R s args own C index y bytes maxL ret hh ws rm mc ms n := by
  obtain ⟨hC, hd⟩ := hd
  subst hC
  have ok : ∀ w ∈ wsV own index y.cls y ws, w.before args s = true := fun w h => ht w (hT w h).1
  have hG : GoodIn Ts ws := fun w h => hT w (by unfold wsV; exact List.mem_append_right _ h)
  have hc : Cond.codeWith y bytes maxL ret hh ∈ ws := by rw [hw]; exact List.mem_cons_self
  refine ⟨⟨hrc, hrs, hR.1, hR.2, pay_in ht hG, hc⟩, ht _ (hG _ hc).1, ok _ (by simp [wsV]), ⟨hd.1, hd.2.1⟩, fun sig h => ?_, ok _ (by simp [wsV]), ok _ (by simp [wsV]), ok _ (by simp [wsV])⟩
  have h2 := hd.2.2
  rw [h] at h2
  exact (Option.some.inj h2).symm
theorem vx_runVW {y : MethodName} {bytes cc : ByteArray} {maxL nL mc ms n index : Nat} {ret : Option FieldType} {hh : List (Nat × Nat × Nat × Nat)} {ws : List Cond} {rm : Room} {Pc : Array Value → State → Prop} {Qc : Array Value → State → Outcome → State → Prop} {free : Addr → Prop} {Ts : List Cond} {own C : String} {b : Addr} {As rest : List Value} {g : JFrame}
    (S : CallFix p m c cc nL s args Ts own) (hM : Met l y ws rm Pc Qc mc ms free) (cw : vx_CVW R s args own C index y bytes maxL ret hh ws rm mc ms n) (hp : PreV s H C b Pc As)
    (hg : g.method = m) (hn : As.length = n) (hsize : g.locals.size = nL) (hstack : g.stack = As.reverse ++ .ref b :: rest) (hW : 2 * g.monitorRoom + (rest.map fun v => v.category).sum ≤ 8) (hdg : decode cc g.pc = .ok (.invokevirtual index, 3)) (hf : cells + mc ≤ R.cells ∧ slots + ms ≤ R.slots) :
    va_Run p l e R s m args below meth c H locs cells slots mc ms g rest (Qc (Value.ref b :: As).toArray) free := by
  obtain ⟨⟨hrc, hrs, hfr, hlo, hws, hcw⟩, hcode, hini, hy, hlen, hl, hin, hse⟩ := cw
  have hK : Back l R p e below s args y 3 8 (PreOf R mc ms Pc) (PostOf Qc mc ms free) := va_backW (hh := hh) (bytes := bytes) (maxL := maxL) (ret := ret) hM hp.1 hrc hrs hfr hlo hws hcw (fun a' U hW => word_at hW (Or.inl (by first | rfl | simp [Cond.onTables, Cond.keeps, Cond.steady])) hini)
  obtain ⟨hx, hb, hml, ho, -⟩ := S
  obtain ⟨-, ⟨cellB, hcB, hoB, hclB⟩, hPc⟩ := hp
  intro T hT X
  obtain ⟨v, vm₁, ⟨U', l2, c2, s2⟩, hW₁, X', ⟨g', mk, t, L, e1, e2, hq, h1, hL, h2, h3⟩, st⟩ := vx_callVW X hx (C := C) (hh := hh) (bytes := bytes) (maxL := maxL) (ret := ret) ho hl hin hse hcode hy hK (by rw [hT]; exact hcB) hoB hclB hg (hsize.trans hml.symm) (argsL := As) (rest := rest) (fun sig h => hn.trans (hlen sig h)) hstack hW (by rw [hb]; exact hdg)
    (fun vm₁ hW₁ => ⟨hf.1, hf.2, hPc (T.setVm vm₁) hT hW₁⟩)
  dsimp only [Pt.U, Pt.locs, Pt.cells, Pt.slots] at X' e1 e2 h1 h2 h3 st
  subst h1; subst h2; subst h3
  exact ⟨v, (T.setVm vm₁).calling g' mk (Value.ref b :: As).toArray, t, U', L, hT, X', hL, e1, e2, hq, st⟩
section
variable {y : MethodName} {bytes cc : ByteArray} {maxL nL mc ms n index : Nat} {ret : Option FieldType} {ws : List Cond} {rm : Room} {Pc : Array Value → State → Prop} {Qc : Array Value → State → Outcome → State → Prop} {XC : String → State → State → Prop} {free : Addr → Prop} {Ts : List Cond} {own C : String} {b : Addr} {As rest : List Value} {g : JFrame}
theorem vx_runVX {hh : List (Nat × Nat × Nat × Nat)} (S : CallFix p m c cc nL s args Ts own) (hM : vx_Met l y ws rm Pc Qc XC mc ms free) (cw : vx_CVW R s args own C index y bytes maxL ret hh ws rm mc ms n) (hp : PreV s H C b Pc As)
    (hg : g.method = m) (hn : As.length = n) (hsize : g.locals.size = nL) (hstack : g.stack = As.reverse ++ .ref b :: rest) (hW : 2 * g.monitorRoom + (rest.map fun v => v.category).sum ≤ 8) (hdg : decode cc g.pc = .ok (.invokevirtual index, 3)) (hf : cells + mc ≤ R.cells ∧ slots + ms ≤ R.slots) :
    vx_Run p l e R s m args below meth c H locs cells slots mc ms g rest (Qc (Value.ref b :: As).toArray) XC free := by
  obtain ⟨⟨hrc, hrs, hfr, hlo, hws, hcw⟩, hcode, hini, hy, hlen, hl, hin, hse⟩ := cw
  have hK : vx_Back l R p e below s args y 3 8 (PreOf R mc ms Pc) (PostOf Qc mc ms free) (vx_Post XC mc ms free) := vx_backW (hh := hh) (bytes := bytes) (maxL := maxL) (ret := ret) hM hp.1 hrc hrs hfr hlo hws hcw (fun a' U hW => word_at hW (Or.inl (by first | rfl | simp [Cond.onTables, Cond.keeps, Cond.steady])) hini)
  obtain ⟨hx, hb, hml, ho, -⟩ := S
  obtain ⟨-, ⟨cellB, hcB, hoB, hclB⟩, hPc⟩ := hp
  intro T hT X
  rcases vx_callVX X hx (C := C) (hh := hh) (bytes := bytes) (maxL := maxL) (ret := ret) ho hl hin hse hcode hy hK (by rw [hT]; exact hcB) hoB hclB hg (hsize.trans hml.symm) (argsL := As) (rest := rest) (fun sig h => hn.trans (hlen sig h)) hstack hW (by rw [hb]; exact hdg)
    (fun vm₁ hW₁ => ⟨hf.1, hf.2, hPc (T.setVm vm₁) hT hW₁⟩) with ⟨v, vm₁, ⟨U', l2, c2, s2⟩, hW₁, X', ⟨g', mk, t, L, e1, e2, hq, h1, hL, h2, h3⟩, st⟩ | ⟨q, vm₁, ⟨U', l2, c2, s2⟩, hW₁, X', ⟨g', mk, t, L, E, ce, e1, e2, hq, hce, hcv, hcl, h1, hL, h2, h3⟩, st⟩
  · dsimp only [Pt.U, Pt.locs, Pt.cells, Pt.slots] at X' e1 e2 h1 h2 h3 st
    subst h1; subst h2; subst h3
    exact Or.inl ⟨v, (T.setVm vm₁).calling g' mk (Value.ref b :: As).toArray, t, U', L, hT, X', hL, e1, e2, hq, st⟩
  · dsimp only [Pt.U, Pt.locs, Pt.cells, Pt.slots] at X' e1 e2 h1 h2 h3 st hcl
    subst h1; subst h2; subst h3
    exact Or.inr ⟨q, (T.setVm vm₁).calling g' mk (Value.ref b :: As).toArray, t, U', L, E, ce, hT, X', hL, e1, e2, hq, hce, hcv, vx_cls hW₁ hcl, st⟩
theorem vx_runSX {hh : List (Nat × Nat × Nat × Nat)} (S : CallFix p m c cc nL s args Ts own) (hM : vx_Met l y ws rm Pc Qc XC mc ms free) (cw : vx_CSW R s args own index y bytes maxL ret hh ws rm mc ms n) (hp : PreS s H Pc As)
    (hg : g.method = m) (hn : As.length = n) (hsize : g.locals.size = nL) (hstack : g.stack = As.reverse ++ rest) (hW : 2 * g.monitorRoom + (rest.map fun v => v.category).sum ≤ 8) (hdg : decode cc g.pc = .ok (.invokestatic index, 3)) (hf : cells + mc ≤ R.cells ∧ slots + ms ≤ R.slots) :
    vx_Run p l e R s m args below meth c H locs cells slots mc ms g rest (Qc As.toArray) XC free := by
  obtain ⟨⟨hrc, hrs, hfr, hlo, hws, hcw⟩, hcode, hini, hy, hlen, hl, hstt⟩ := cw
  have hK : vx_Back l R p e below s args y 3 8 (PreOf R mc ms Pc) (PostOf Qc mc ms free) (vx_Post XC mc ms free) := vx_backW (hh := hh) (bytes := bytes) (maxL := maxL) (ret := ret) hM hp.1 hrc hrs hfr hlo hws hcw (fun a' U hW => word_at hW (Or.inl (by first | rfl | simp [Cond.onTables, Cond.keeps, Cond.steady])) hini)
  obtain ⟨hx, hb, hml, ho, -⟩ := S
  intro T hT X
  rcases vx_callSX X hx (hh := hh) (bytes := bytes) (maxL := maxL) (ret := ret) ho hl hstt hini hcode hy hK hg (hsize.trans hml.symm) (argsL := As) (rest := rest) (fun sig h => hn.trans (hlen sig h)) hstack hW (by rw [hb]; exact hdg)
    (fun vm₁ hW₁ => ⟨hf.1, hf.2, hp.2 (T.setVm vm₁) hT hW₁⟩) with ⟨v, vm₁, ⟨U', l2, c2, s2⟩, hW₁, X', ⟨g', mk, t, L, e1, e2, hq, h1, hL, h2, h3⟩, st⟩ | ⟨q, vm₁, ⟨U', l2, c2, s2⟩, hW₁, X', ⟨g', mk, t, L, E, ce, e1, e2, hq, hce, hcv, hcl, h1, hL, h2, h3⟩, st⟩
  · dsimp only [Pt.U, Pt.locs, Pt.cells, Pt.slots] at X' e1 e2 h1 h2 h3 st
    subst h1; subst h2; subst h3
    exact Or.inl ⟨v, (T.setVm vm₁).calling g' mk As.toArray, t, U', L, hT, X', hL, e1, e2, hq, st⟩
  · dsimp only [Pt.U, Pt.locs, Pt.cells, Pt.slots] at X' e1 e2 h1 h2 h3 st hcl
    subst h1; subst h2; subst h3
    exact Or.inr ⟨q, (T.setVm vm₁).calling g' mk As.toArray, t, U', L, E, ce, hT, X', hL, e1, e2, hq, hce, hcv, vx_cls hW₁ hcl, st⟩
end
end VXH
theorem vx_ofWH {l : Launch} {y : MethodName} {ws ws' : List Cond} {rm : Room} {Pc : Array Value → State → Prop} {Qc : Array Value → State → Outcome → State → Prop} {XC : String → State → State → Prop} {mc ms : Nat} {free : Addr → Prop} {cc : ByteArray} {maxL : Nat} {ret : Option FieldType} {hh : List (Nat × Nat × Nat × Nat)}
    (hy : plainName y.cls = true) (hw : ws = Cond.codeWith y cc maxL ret hh :: ws')
    (body : ∀ p e s m args below meth c s₁, BodyLoose p l y (headSpec ws rm) cc maxL ret e s m args below meth c s₁ → c.maxLocals = maxL → Pc args s →
      W p l e (headSpec ws rm).room s m args below meth c s.heap [] 0 0 (vx_MQ below Qc XC args s mc ms free) (entryFrame m args maxL)) : vx_Met l y ws rm Pc Qc XC mc ms free := by
  refine MetFree.of_bodyS (code := cc) (maxLocals := maxL) (ret := ret) hy ?_ ?_
  · intro args s m h hn
    obtain ⟨m9, meth, c, hn9, h1, h2, h3, h4, -, h5, h6, -⟩ := Cond.codeWith_spec (atoms_spec (ws := ws) h _ (by rw [hw]; exact List.mem_cons_self))
    cases hn.symm.trans hn9
    exact ⟨meth, c, h1, h2, h3, h4, h5, h6⟩
  · intro p e s m args below meth c s₁ B hml hP _
    have hh0 : s₁.heap = s.heap := by rw [B.state]; rfl
    obtain ⟨t, a1, o, b1, b2, b3⟩ := body p e s m args below meth c s₁ B hml hP s₁ hh0 (Stand.of_body B)
    exact ⟨t, o, a1, b1, b2, b3⟩
/-! ===== END ===== -/
end
section
/-! ===== BEGIN printed: names, fields, word lists, decode rows ===== -/
def RX0 : String := "RoomNumbers$HouseFile"
def TX0 : u_T := fun k => match k with
  | 0 => ("RoomNumbers$HouseFile", "owner", "I", false)
  | _ => ("RoomNumbers$HouseFile", "mode", "I", true)
def tyX0 : Nat → FieldType := fun k => match k with
  | 0 => .int
  | _ => .int
abbrev wsX00 : List Cond := u_ws RX0 TX0 2
theorem nmX0 : ∀ a, a < 2 → ∀ b, b < 2 → a ≠ b → (TX0 a).2.1 ≠ (TX0 b).2.1 := by decide +kernel
theorem tyX0_ok : ∀ k, k < 2 → parseFieldDescriptor (TX0 k).2.2.1 = some (tyX0 k) := by decide +kernel
abbrev cX0_init : ByteArray := prog_2_method_1_code
def yX0_init : MethodName := ⟨RX0, "<init>", "(II)V"⟩
abbrev cX0_allows : ByteArray := prog_2_method_2_code
def yX0_allows : MethodName := ⟨RX0, "allows", "(IZ)Z"⟩
def RX1 : String := "RoomNumbers$HouseProcess"
def TX1 : u_T := fun k => match k with
  | 0 => ("RoomNumbers$HouseProcess", "room", "LRoomNumbers$Room;", false)
  | 1 => ("RoomNumbers$HouseProcess", "number", "I", false)
  | _ => ("RoomNumbers$HouseProcess", "rights", "I", false)
def tyX1 : Nat → FieldType := fun k => match k with
  | 0 => .object "RoomNumbers$Room"
  | 1 => .int
  | _ => .int
abbrev wsX10 : List Cond := u_ws RX1 TX1 3
theorem nmX1 : ∀ a, a < 3 → ∀ b, b < 3 → a ≠ b → (TX1 a).2.1 ≠ (TX1 b).2.1 := by decide +kernel
theorem tyX1_ok : ∀ k, k < 3 → parseFieldDescriptor (TX1 k).2.2.1 = some (tyX1 k) := by decide +kernel
abbrev cX1_init : ByteArray := prog_3_method_1_code
def yX1_init : MethodName := ⟨RX1, "<init>", "(LRoomNumbers$Room;II)V"⟩
abbrev cX1_moveInto : ByteArray := prog_3_method_2_code
def yX1_moveInto : MethodName := ⟨RX1, "moveInto", "(LRoomNumbers$Room;)V"⟩
abbrev cX1_rightsHeldIn : ByteArray := prog_3_method_3_code
def yX1_rightsHeldIn : MethodName := ⟨RX1, "rightsHeldIn", "(LRoomNumbers$Room;)I"⟩
abbrev cX1_hasRight : ByteArray := prog_3_method_4_code
def yX1_hasRight : MethodName := ⟨RX1, "hasRight", "(ILRoomNumbers$Room;)Z"⟩
abbrev cX1_ownsRoomAround : ByteArray := prog_3_method_5_code
def yX1_ownsRoomAround : MethodName := ⟨RX1, "ownsRoomAround", "(LRoomNumbers$Room;)Z"⟩
def RX2 : String := "RoomNumbers$Line"
def TX2 : u_T := fun k => match k with
  | 0 => ("RoomNumbers$Line", "first", "I", true)
  | 1 => ("RoomNumbers$Line", "outer", "I", true)
  | 2 => ("RoomNumbers$Line", "length", "I", true)
  | _ => ("RoomNumbers$Line", "next", "LRoomNumbers$Line;", true)
def tyX2 : Nat → FieldType := fun k => match k with
  | 0 => .int
  | 1 => .int
  | 2 => .int
  | _ => .object "RoomNumbers$Line"
abbrev wsX20 : List Cond := u_ws RX2 TX2 4
theorem nmX2 : ∀ a, a < 4 → ∀ b, b < 4 → a ≠ b → (TX2 a).2.1 ≠ (TX2 b).2.1 := by decide +kernel
theorem tyX2_ok : ∀ k, k < 4 → parseFieldDescriptor (TX2 k).2.2.1 = some (tyX2 k) := by decide +kernel
abbrev cX2_init : ByteArray := prog_4_method_1_code
def yX2_init : MethodName := ⟨RX2, "<init>", "(IIILRoomNumbers$Line;)V"⟩
abbrev cX2_isOfOneNumber : ByteArray := prog_4_method_2_code
def yX2_isOfOneNumber : MethodName := ⟨RX2, "isOfOneNumber", "()Z"⟩
abbrev cX2_meets : ByteArray := prog_4_method_3_code
def yX2_meets : MethodName := ⟨RX2, "meets", "(LRoomNumbers$Line;)Z"⟩
abbrev cX2_rangesMeet : ByteArray := prog_4_method_4_code
def yX2_rangesMeet : MethodName := ⟨RX2, "rangesMeet", "(IIII)Z"⟩
def RX3 : String := "RoomNumbers$Room"
def TX3 : u_T := fun k => match k with
  | 0 => ("RoomNumbers$Room", "number", "I", true)
  | 1 => ("RoomNumbers$Room", "outer", "LRoomNumbers$Room;", true)
  | 2 => ("RoomNumbers$Room", "owner", "I", true)
  | _ => ("RoomNumbers$Room", "map", "LRoomNumbers$Line;", false)
def tyX3 : Nat → FieldType := fun k => match k with
  | 0 => .int
  | 1 => .object "RoomNumbers$Room"
  | 2 => .int
  | _ => .object "RoomNumbers$Line"
abbrev wsX30 : List Cond := u_ws RX3 TX3 4
theorem nmX3 : ∀ a, a < 4 → ∀ b, b < 4 → a ≠ b → (TX3 a).2.1 ≠ (TX3 b).2.1 := by decide +kernel
theorem tyX3_ok : ∀ k, k < 4 → parseFieldDescriptor (TX3 k).2.2.1 = some (tyX3 k) := by decide +kernel
abbrev cX3_init : ByteArray := prog_5_method_1_code
def yX3_init : MethodName := ⟨RX3, "<init>", "(ILRoomNumbers$Room;I)V"⟩
abbrev cX3_toOuter : ByteArray := prog_5_method_2_code
def yX3_toOuter : MethodName := ⟨RX3, "toOuter", "(I)I"⟩
abbrev cX3_fromOuter : ByteArray := prog_5_method_3_code
def yX3_fromOuter : MethodName := ⟨RX3, "fromOuter", "(I)I"⟩
def RX4 : String := "RoomNumbers"
def TX4 : u_T := fun k => match k with
  | 0 => ("RoomNumbers", "roomRow", "[LRoomNumbers$Room;", true)
  | 1 => ("RoomNumbers", "roomCount", "I", false)
  | 2 => ("RoomNumbers", "processRow", "[LRoomNumbers$HouseProcess;", true)
  | 3 => ("RoomNumbers", "processCount", "I", false)
  | 4 => ("RoomNumbers", "fileRow", "[LRoomNumbers$HouseFile;", true)
  | 5 => ("RoomNumbers", "fileCount", "I", false)
  | 6 => ("RoomNumbers", "draft", "LRoomNumbers$Line;", false)
  | 7 => ("RoomNumbers", "refusalCount", "I", false)
  | _ => ("RoomNumbers", "latestRefusal", "I", false)
def tyX4 : Nat → FieldType := fun k => match k with
  | 0 => .array (.object "RoomNumbers$Room")
  | 1 => .int
  | 2 => .array (.object "RoomNumbers$HouseProcess")
  | 3 => .int
  | 4 => .array (.object "RoomNumbers$HouseFile")
  | 5 => .int
  | 6 => .object "RoomNumbers$Line"
  | 7 => .int
  | _ => .int
abbrev wsX40 : List Cond := u_ws RX4 TX4 9
theorem nmX4 : ∀ a, a < 9 → ∀ b, b < 9 → a ≠ b → (TX4 a).2.1 ≠ (TX4 b).2.1 := by decide +kernel
theorem tyX4_ok : ∀ k, k < 9 → parseFieldDescriptor (TX4 k).2.2.1 = some (tyX4 k) := by decide +kernel
abbrev cX4_init : ByteArray := prog_1_method_1_code
def yX4_init : MethodName := ⟨RX4, "<init>", "()V"⟩
abbrev cX4_makeRoom : ByteArray := prog_1_method_2_code
def yX4_makeRoom : MethodName := ⟨RX4, "makeRoom", "(I)I"⟩
abbrev cX4_line : ByteArray := prog_1_method_3_code
def yX4_line : MethodName := ⟨RX4, "line", "(III)I"⟩
abbrev cX4_writeMap : ByteArray := prog_1_method_4_code
def yX4_writeMap : MethodName := ⟨RX4, "writeMap", "(II)I"⟩
abbrev cX4_rooms : ByteArray := prog_1_method_5_code
def yX4_rooms : MethodName := ⟨RX4, "rooms", "()I"⟩
abbrev cX4_outerOf : ByteArray := prog_1_method_6_code
def yX4_outerOf : MethodName := ⟨RX4, "outerOf", "(I)I"⟩
abbrev cX4_leadsTo : ByteArray := prog_1_method_7_code
def yX4_leadsTo : MethodName := ⟨RX4, "leadsTo", "(II)I"⟩
abbrev cX4_seenAs : ByteArray := prog_1_method_8_code
def yX4_seenAs : MethodName := ⟨RX4, "seenAs", "(II)I"⟩
abbrev cX4_seenByLeading : ByteArray := prog_1_method_9_code
def yX4_seenByLeading : MethodName := ⟨RX4, "seenByLeading", "(II)I"⟩
abbrev cX4_fork : ByteArray := prog_1_method_10_code
def yX4_fork : MethodName := ⟨RX4, "fork", "(I)I"⟩
abbrev cX4_drop : ByteArray := prog_1_method_11_code
def yX4_drop : MethodName := ⟨RX4, "drop", "(II)I"⟩
abbrev cX4_enter : ByteArray := prog_1_method_12_code
def yX4_enter : MethodName := ⟨RX4, "enter", "(II)I"⟩
abbrev cX4_setNumber : ByteArray := prog_1_method_13_code
def yX4_setNumber : MethodName := ⟨RX4, "setNumber", "(II)I"⟩
abbrev cX4_processes : ByteArray := prog_1_method_14_code
def yX4_processes : MethodName := ⟨RX4, "processes", "()I"⟩
abbrev cX4_roomOf : ByteArray := prog_1_method_15_code
def yX4_roomOf : MethodName := ⟨RX4, "roomOf", "(I)I"⟩
abbrev cX4_numberOf : ByteArray := prog_1_method_16_code
def yX4_numberOf : MethodName := ⟨RX4, "numberOf", "(I)I"⟩
abbrev cX4_rightsIn : ByteArray := prog_1_method_17_code
def yX4_rightsIn : MethodName := ⟨RX4, "rightsIn", "(II)I"⟩
abbrev cX4_makeFile : ByteArray := prog_1_method_18_code
def yX4_makeFile : MethodName := ⟨RX4, "makeFile", "(II)I"⟩
abbrev cX4_handOver : ByteArray := prog_1_method_19_code
def yX4_handOver : MethodName := ⟨RX4, "handOver", "(III)I"⟩
abbrev cX4_open : ByteArray := prog_1_method_20_code
def yX4_open : MethodName := ⟨RX4, "open", "(IIZ)I"⟩
abbrev cX4_ownerSeenBy : ByteArray := prog_1_method_21_code
def yX4_ownerSeenBy : MethodName := ⟨RX4, "ownerSeenBy", "(II)I"⟩
abbrev cX4_files : ByteArray := prog_1_method_22_code
def yX4_files : MethodName := ⟨RX4, "files", "()I"⟩
abbrev cX4_refusals : ByteArray := prog_1_method_23_code
def yX4_refusals : MethodName := ⟨RX4, "refusals", "()I"⟩
abbrev cX4_lastRefusal : ByteArray := prog_1_method_24_code
def yX4_lastRefusal : MethodName := ⟨RX4, "lastRefusal", "()I"⟩
abbrev cX4_roomAt : ByteArray := prog_1_method_25_code
def yX4_roomAt : MethodName := ⟨RX4, "roomAt", "(I)LRoomNumbers$Room;"⟩
abbrev cX4_processAt : ByteArray := prog_1_method_26_code
def yX4_processAt : MethodName := ⟨RX4, "processAt", "(I)LRoomNumbers$HouseProcess;"⟩
abbrev cX4_fileAt : ByteArray := prog_1_method_27_code
def yX4_fileAt : MethodName := ⟨RX4, "fileAt", "(I)LRoomNumbers$HouseFile;"⟩
abbrev cX4_requireNumber : ByteArray := prog_1_method_28_code
def yX4_requireNumber : MethodName := ⟨RX4, "requireNumber", "(I)V"⟩
abbrev cX4_refuse : ByteArray := prog_1_method_29_code
def yX4_refuse : MethodName := ⟨RX4, "refuse", "(I)I"⟩
abbrev cX4_seenFrom : ByteArray := prog_1_method_30_code
def yX4_seenFrom : MethodName := ⟨RX4, "seenFrom", "(LRoomNumbers$Room;I)I"⟩
abbrev cX4_countOf : ByteArray := prog_1_method_31_code
def yX4_countOf : MethodName := ⟨RX4, "countOf", "(LRoomNumbers$Line;)I"⟩
abbrev cX4_anyMeet : ByteArray := prog_1_method_32_code
def yX4_anyMeet : MethodName := ⟨RX4, "anyMeet", "(LRoomNumbers$Line;)Z"⟩
abbrev cX4_allLeadOut : ByteArray := prog_1_method_33_code
def yX4_allLeadOut : MethodName := ⟨RX4, "allLeadOut", "(LRoomNumbers$Line;LRoomNumbers$Room;)Z"⟩
abbrev cX4_leadOut : ByteArray := prog_1_method_34_code
def yX4_leadOut : MethodName := ⟨RX4, "leadOut", "(LRoomNumbers$Room;I)I"⟩
abbrev cX4_isOrIsInside : ByteArray := prog_1_method_35_code
def yX4_isOrIsInside : MethodName := ⟨RX4, "isOrIsInside", "(LRoomNumbers$Room;LRoomNumbers$Room;)Z"⟩
abbrev cX4_numberOrNone : ByteArray := prog_1_method_36_code
def yX4_numberOrNone : MethodName := ⟨RX4, "numberOrNone", "(LRoomNumbers$Room;)I"⟩
def RX5 : String := "RoomNumbersModel"
def TX5 : u_T := fun k => match k with
  | 0 => ("RoomNumbersModel", "refusal", "I", false)
  | 1 => ("RoomNumbersModel", "rooms", "I", false)
  | 2 => ("RoomNumbersModel", "outers", "[I", true)
  | 3 => ("RoomNumbersModel", "owners", "[I", true)
  | 4 => ("RoomNumbersModel", "lines", "[I", true)
  | 5 => ("RoomNumbersModel", "firsts", "[I", true)
  | 6 => ("RoomNumbersModel", "outerFirsts", "[I", true)
  | 7 => ("RoomNumbersModel", "lengths", "[I", true)
  | 8 => ("RoomNumbersModel", "drafted", "I", false)
  | 9 => ("RoomNumbersModel", "processes", "I", false)
  | 10 => ("RoomNumbersModel", "places", "[I", true)
  | 11 => ("RoomNumbersModel", "numbers", "[I", true)
  | 12 => ("RoomNumbersModel", "rights", "[I", true)
  | 13 => ("RoomNumbersModel", "files", "I", false)
  | 14 => ("RoomNumbersModel", "fileOwners", "[I", true)
  | 15 => ("RoomNumbersModel", "modes", "[I", true)
  | 16 => ("RoomNumbersModel", "refusals", "I", false)
  | _ => ("RoomNumbersModel", "last", "I", false)
def tyX5 : Nat → FieldType := fun k => match k with
  | 0 => .int
  | 1 => .int
  | 2 => .array .int
  | 3 => .array .int
  | 4 => .array .int
  | 5 => .array .int
  | 6 => .array .int
  | 7 => .array .int
  | 8 => .int
  | 9 => .int
  | 10 => .array .int
  | 11 => .array .int
  | 12 => .array .int
  | 13 => .int
  | 14 => .array .int
  | 15 => .array .int
  | 16 => .int
  | _ => .int
abbrev wsX50 : List Cond := u_ws RX5 TX5 18
theorem nmX5 : ∀ a, a < 18 → ∀ b, b < 18 → a ≠ b → (TX5 a).2.1 ≠ (TX5 b).2.1 := by decide +kernel
theorem tyX5_ok : ∀ k, k < 18 → parseFieldDescriptor (TX5 k).2.2.1 = some (tyX5 k) := by decide +kernel
abbrev cX5_init : ByteArray := prog_7_method_1_code
def yX5_init : MethodName := ⟨RX5, "<init>", "()V"⟩
abbrev cX5_thrown : ByteArray := prog_7_method_2_code
def yX5_thrown : MethodName := ⟨RX5, "thrown", "()I"⟩
abbrev cX5_refused : ByteArray := prog_7_method_3_code
def yX5_refused : MethodName := ⟨RX5, "refused", "(I)Z"⟩
abbrev cX5_fine : ByteArray := prog_7_method_4_code
def yX5_fine : MethodName := ⟨RX5, "fine", "(I)I"⟩
abbrev cX5_told : ByteArray := prog_7_method_5_code
def yX5_told : MethodName := ⟨RX5, "told", "(I)I"⟩
abbrev cX5_in : ByteArray := prog_7_method_6_code
def yX5_in : MethodName := ⟨RX5, "in", "(III)Z"⟩
abbrev cX5_isRoom : ByteArray := prog_7_method_7_code
def yX5_isRoom : MethodName := ⟨RX5, "isRoom", "(I)Z"⟩
abbrev cX5_isProcess : ByteArray := prog_7_method_8_code
def yX5_isProcess : MethodName := ⟨RX5, "isProcess", "(I)Z"⟩
abbrev cX5_isFile : ByteArray := prog_7_method_9_code
def yX5_isFile : MethodName := ⟨RX5, "isFile", "(I)Z"⟩
abbrev cX5_isNumber : ByteArray := prog_7_method_10_code
def yX5_isNumber : MethodName := ⟨RX5, "isNumber", "(I)Z"⟩
abbrev cX5_makeRoom : ByteArray := prog_7_method_11_code
def yX5_makeRoom : MethodName := ⟨RX5, "makeRoom", "(I)I"⟩
abbrev cX5_line : ByteArray := prog_7_method_12_code
def yX5_line : MethodName := ⟨RX5, "line", "(III)I"⟩
abbrev cX5_mapped : ByteArray := prog_7_method_13_code
def yX5_mapped : MethodName := ⟨RX5, "mapped", "(II)I"⟩
abbrev cX5_led : ByteArray := prog_7_method_14_code
def yX5_led : MethodName := ⟨RX5, "led", "(II)I"⟩
abbrev cX5_meet : ByteArray := prog_7_method_15_code
def yX5_meet : MethodName := ⟨RX5, "meet", "(IIII)Z"⟩
abbrev cX5_isDraftBad : ByteArray := prog_7_method_16_code
def yX5_isDraftBad : MethodName := ⟨RX5, "isDraftBad", "()Z"⟩
abbrev cX5_isDraftLost : ByteArray := prog_7_method_17_code
def yX5_isDraftLost : MethodName := ⟨RX5, "isDraftLost", "(I)Z"⟩
abbrev cX5_mayWrite : ByteArray := prog_7_method_18_code
def yX5_mayWrite : MethodName := ⟨RX5, "mayWrite", "(II)Z"⟩
abbrev cX5_writeMap : ByteArray := prog_7_method_19_code
def yX5_writeMap : MethodName := ⟨RX5, "writeMap", "(II)I"⟩
abbrev cX5_rooms : ByteArray := prog_7_method_20_code
def yX5_rooms : MethodName := ⟨RX5, "rooms", "()I"⟩
abbrev cX5_outerOf : ByteArray := prog_7_method_21_code
def yX5_outerOf : MethodName := ⟨RX5, "outerOf", "(I)I"⟩
abbrev cX5_noNumber : ByteArray := prog_7_method_22_code
def yX5_noNumber : MethodName := ⟨RX5, "noNumber", "(II)Z"⟩
abbrev cX5_leadsTo : ByteArray := prog_7_method_23_code
def yX5_leadsTo : MethodName := ⟨RX5, "leadsTo", "(II)I"⟩
abbrev cX5_seen : ByteArray := prog_7_method_24_code
def yX5_seen : MethodName := ⟨RX5, "seen", "(II)I"⟩
abbrev cX5_seenAs : ByteArray := prog_7_method_25_code
def yX5_seenAs : MethodName := ⟨RX5, "seenAs", "(II)I"⟩
abbrev cX5_seenByLeading : ByteArray := prog_7_method_26_code
def yX5_seenByLeading : MethodName := ⟨RX5, "seenByLeading", "(II)I"⟩
abbrev cX5_isInside : ByteArray := prog_7_method_27_code
def yX5_isInside : MethodName := ⟨RX5, "isInside", "(II)Z"⟩
abbrev cX5_held : ByteArray := prog_7_method_28_code
def yX5_held : MethodName := ⟨RX5, "held", "(II)I"⟩
abbrev cX5_fork : ByteArray := prog_7_method_29_code
def yX5_fork : MethodName := ⟨RX5, "fork", "(I)I"⟩
abbrev cX5_drop : ByteArray := prog_7_method_30_code
def yX5_drop : MethodName := ⟨RX5, "drop", "(II)I"⟩
abbrev cX5_enter : ByteArray := prog_7_method_31_code
def yX5_enter : MethodName := ⟨RX5, "enter", "(II)I"⟩
abbrev cX5_setNumber : ByteArray := prog_7_method_32_code
def yX5_setNumber : MethodName := ⟨RX5, "setNumber", "(II)I"⟩
abbrev cX5_processes : ByteArray := prog_7_method_33_code
def yX5_processes : MethodName := ⟨RX5, "processes", "()I"⟩
abbrev cX5_noProcess : ByteArray := prog_7_method_34_code
def yX5_noProcess : MethodName := ⟨RX5, "noProcess", "(I)Z"⟩
abbrev cX5_roomOf : ByteArray := prog_7_method_35_code
def yX5_roomOf : MethodName := ⟨RX5, "roomOf", "(I)I"⟩
abbrev cX5_numberOf : ByteArray := prog_7_method_36_code
def yX5_numberOf : MethodName := ⟨RX5, "numberOf", "(I)I"⟩
abbrev cX5_rightsIn : ByteArray := prog_7_method_37_code
def yX5_rightsIn : MethodName := ⟨RX5, "rightsIn", "(II)I"⟩
abbrev cX5_makeFile : ByteArray := prog_7_method_38_code
def yX5_makeFile : MethodName := ⟨RX5, "makeFile", "(II)I"⟩
abbrev cX5_handOver : ByteArray := prog_7_method_39_code
def yX5_handOver : MethodName := ⟨RX5, "handOver", "(III)I"⟩
abbrev cX5_open : ByteArray := prog_7_method_40_code
def yX5_open : MethodName := ⟨RX5, "open", "(IIZ)I"⟩
abbrev cX5_ownerSeenBy : ByteArray := prog_7_method_41_code
def yX5_ownerSeenBy : MethodName := ⟨RX5, "ownerSeenBy", "(II)I"⟩
abbrev cX5_files : ByteArray := prog_7_method_42_code
def yX5_files : MethodName := ⟨RX5, "files", "()I"⟩
abbrev cX5_refusals : ByteArray := prog_7_method_43_code
def yX5_refusals : MethodName := ⟨RX5, "refusals", "()I"⟩
abbrev cX5_lastRefusal : ByteArray := prog_7_method_44_code
def yX5_lastRefusal : MethodName := ⟨RX5, "lastRefusal", "()I"⟩
def RJ0 : String := "java/lang/String"
def TJ0 : u_T := fun k => match k with
  | _ => ("", "", "", false)
def tyJ0 : Nat → FieldType := fun k => match k with
  | _ => .int
abbrev wsJ00 : List Cond := u_ws RJ0 TJ0 0
theorem nmJ0 : ∀ a, a < 0 → ∀ b, b < 0 → a ≠ b → (TJ0 a).2.1 ≠ (TJ0 b).2.1 := by decide +kernel
theorem tyJ0_ok : ∀ k, k < 0 → parseFieldDescriptor (TJ0 k).2.2.1 = some (tyJ0 k) := by decide +kernel
def RL : String := "RoomNumbersLaw"
abbrev cL_makeRoom : ByteArray := method_3_code
def yL_makeRoom : MethodName := ⟨RL, "makeRoom", "(LRoomNumbers;I[J)I"⟩
abbrev cL_line : ByteArray := method_4_code
def yL_line : MethodName := ⟨RL, "line", "(LRoomNumbers;III[J)I"⟩
abbrev cL_writeMap : ByteArray := method_5_code
def yL_writeMap : MethodName := ⟨RL, "writeMap", "(LRoomNumbers;II[J)I"⟩
abbrev cL_outerOf : ByteArray := method_6_code
def yL_outerOf : MethodName := ⟨RL, "outerOf", "(LRoomNumbers;I[J)I"⟩
abbrev cL_leadsTo : ByteArray := method_7_code
def yL_leadsTo : MethodName := ⟨RL, "leadsTo", "(LRoomNumbers;II[J)I"⟩
abbrev cL_seenAs : ByteArray := method_8_code
def yL_seenAs : MethodName := ⟨RL, "seenAs", "(LRoomNumbers;II[J)I"⟩
abbrev cL_seenByLeading : ByteArray := method_9_code
def yL_seenByLeading : MethodName := ⟨RL, "seenByLeading", "(LRoomNumbers;II[J)I"⟩
abbrev cL_fork : ByteArray := method_10_code
def yL_fork : MethodName := ⟨RL, "fork", "(LRoomNumbers;I[J)I"⟩
abbrev cL_drop : ByteArray := method_11_code
def yL_drop : MethodName := ⟨RL, "drop", "(LRoomNumbers;II[J)I"⟩
abbrev cL_enter : ByteArray := method_12_code
def yL_enter : MethodName := ⟨RL, "enter", "(LRoomNumbers;II[J)I"⟩
abbrev cL_setNumber : ByteArray := method_13_code
def yL_setNumber : MethodName := ⟨RL, "setNumber", "(LRoomNumbers;II[J)I"⟩
abbrev cL_roomOf : ByteArray := method_14_code
def yL_roomOf : MethodName := ⟨RL, "roomOf", "(LRoomNumbers;I[J)I"⟩
abbrev cL_numberOf : ByteArray := method_15_code
def yL_numberOf : MethodName := ⟨RL, "numberOf", "(LRoomNumbers;I[J)I"⟩
abbrev cL_rightsIn : ByteArray := method_16_code
def yL_rightsIn : MethodName := ⟨RL, "rightsIn", "(LRoomNumbers;II[J)I"⟩
abbrev cL_makeFile : ByteArray := method_17_code
def yL_makeFile : MethodName := ⟨RL, "makeFile", "(LRoomNumbers;II[J)I"⟩
abbrev cL_handOver : ByteArray := method_18_code
def yL_handOver : MethodName := ⟨RL, "handOver", "(LRoomNumbers;III[J)I"⟩
abbrev cL_open : ByteArray := method_19_code
def yL_open : MethodName := ⟨RL, "open", "(LRoomNumbers;IIZ[J)I"⟩
abbrev cL_ownerSeenBy : ByteArray := method_20_code
def yL_ownerSeenBy : MethodName := ⟨RL, "ownerSeenBy", "(LRoomNumbers;II[J)I"⟩
abbrev cL_law : ByteArray := code
def yL_law : MethodName := ⟨RL, "law", "([I)Z"⟩
def wsX0_init : List Cond := .code yX0_init cX0_init 3 none :: ([.methodLink RX0 3 objectInit, .instanceMethod objectInit, .code objectInit ⟨#[0xb1]⟩ 1 none, .fieldLink RX0 9 "RoomNumbers$HouseFile" "owner" "I", .fieldLink RX0 15 "RoomNumbers$HouseFile" "mode" "I"] ++ wsX00)
def wsX0_allows : List Cond := .code yX0_allows cX0_allows 5 (some .boolean) :: ([.fieldLink RX0 15 "RoomNumbers$HouseFile" "mode" "I", .fieldLink RX0 9 "RoomNumbers$HouseFile" "owner" "I"] ++ wsX00)
def wsX1_init : List Cond := .code yX1_init cX1_init 4 none :: ([.methodLink RX1 3 objectInit, .instanceMethod objectInit, .code objectInit ⟨#[0xb1]⟩ 1 none, .fieldLink RX1 9 "RoomNumbers$HouseProcess" "room" "LRoomNumbers$Room;", .fieldLink RX1 15 "RoomNumbers$HouseProcess" "number" "I", .fieldLink RX1 19 "RoomNumbers$HouseProcess" "rights" "I"] ++ wsX10)
def wsX1_moveInto : List Cond := .code yX1_moveInto cX1_moveInto 2 none :: ([.fieldLink RX1 9 "RoomNumbers$HouseProcess" "room" "LRoomNumbers$Room;", .fieldLink RX1 19 "RoomNumbers$HouseProcess" "rights" "I"] ++ wsX10)
def wsX1_ownsRoomAround : List Cond := .code yX1_ownsRoomAround cX1_ownsRoomAround 3 (some .boolean) :: ([.fieldLink RX1 34 "RoomNumbers$Room" "outer" "LRoomNumbers$Room;", .fieldLink RX1 9 "RoomNumbers$HouseProcess" "room" "LRoomNumbers$Room;", .fieldLink RX1 39 "RoomNumbers$Room" "owner" "I", .fieldLink RX1 15 "RoomNumbers$HouseProcess" "number" "I"] ++ wsX30 ++ wsX10)
def wsX4_isOrIsInside : List Cond := .code yX4_isOrIsInside cX4_isOrIsInside 3 (some .boolean) :: ([.fieldLink RX4 100 "RoomNumbers$Room" "outer" "LRoomNumbers$Room;"] ++ wsX30)
def wsX1_rightsHeldIn : List Cond := .code yX1_rightsHeldIn cX1_rightsHeldIn 2 (some .int) :: ([.fieldLink RX1 9 "RoomNumbers$HouseProcess" "room" "LRoomNumbers$Room;", .fieldLink RX1 19 "RoomNumbers$HouseProcess" "rights" "I", .methodLink RX1 22 yX1_ownsRoomAround, .instanceMethod yX1_ownsRoomAround, .selects RX1 yX1_ownsRoomAround yX1_ownsRoomAround, .initialized RX1, .code yX1_ownsRoomAround cX1_ownsRoomAround 3 (some .boolean), .fieldLink RX1 34 "RoomNumbers$Room" "outer" "LRoomNumbers$Room;", .fieldLink RX1 39 "RoomNumbers$Room" "owner" "I", .fieldLink RX1 15 "RoomNumbers$HouseProcess" "number" "I", .static yX4_isOrIsInside, .initialized RX4, .code yX4_isOrIsInside cX4_isOrIsInside 3 (some .boolean), .fieldLink RX4 100 "RoomNumbers$Room" "outer" "LRoomNumbers$Room;"] ++ wsX10 ++ wsX30)
def wsX1_hasRight : List Cond := .code yX1_hasRight cX1_hasRight 3 (some .boolean) :: ([.methodLink RX1 30 yX1_rightsHeldIn, .instanceMethod yX1_rightsHeldIn, .selects RX1 yX1_rightsHeldIn yX1_rightsHeldIn, .initialized RX1, .code yX1_rightsHeldIn cX1_rightsHeldIn 2 (some .int), .fieldLink RX1 9 "RoomNumbers$HouseProcess" "room" "LRoomNumbers$Room;", .fieldLink RX1 19 "RoomNumbers$HouseProcess" "rights" "I", .methodLink RX1 22 yX1_ownsRoomAround, .instanceMethod yX1_ownsRoomAround, .selects RX1 yX1_ownsRoomAround yX1_ownsRoomAround, .code yX1_ownsRoomAround cX1_ownsRoomAround 3 (some .boolean), .fieldLink RX1 34 "RoomNumbers$Room" "outer" "LRoomNumbers$Room;", .fieldLink RX1 39 "RoomNumbers$Room" "owner" "I", .fieldLink RX1 15 "RoomNumbers$HouseProcess" "number" "I", .static yX4_isOrIsInside, .initialized RX4, .code yX4_isOrIsInside cX4_isOrIsInside 3 (some .boolean), .fieldLink RX4 100 "RoomNumbers$Room" "outer" "LRoomNumbers$Room;"] ++ wsX10 ++ wsX30)
def wsX2_init : List Cond := .code yX2_init cX2_init 5 none :: ([.methodLink RX2 1 objectInit, .instanceMethod objectInit, .code objectInit ⟨#[0xb1]⟩ 1 none, .fieldLink RX2 7 "RoomNumbers$Line" "first" "I", .fieldLink RX2 13 "RoomNumbers$Line" "outer" "I", .fieldLink RX2 16 "RoomNumbers$Line" "length" "I", .fieldLink RX2 19 "RoomNumbers$Line" "next" "LRoomNumbers$Line;"] ++ wsX20)
def wsX2_isOfOneNumber : List Cond := .code yX2_isOfOneNumber cX2_isOfOneNumber 1 (some .boolean) :: ([.fieldLink RX2 19 "RoomNumbers$Line" "next" "LRoomNumbers$Line;", .fieldLink RX2 16 "RoomNumbers$Line" "length" "I"] ++ wsX20)
def wsX2_rangesMeet : List Cond := .code yX2_rangesMeet cX2_rangesMeet 4 (some .boolean) :: ([])
def wsX2_meets : List Cond := .code yX2_meets cX2_meets 2 (some .boolean) :: ([.fieldLink RX2 7 "RoomNumbers$Line" "first" "I", .fieldLink RX2 16 "RoomNumbers$Line" "length" "I", .fieldLink RX2 13 "RoomNumbers$Line" "outer" "I", .methodLink RX2 23 yX2_rangesMeet, .static yX2_rangesMeet, .initialized RX2, .code yX2_rangesMeet cX2_rangesMeet 4 (some .boolean)] ++ wsX20)
def wsX3_init : List Cond := .code yX3_init cX3_init 4 none :: ([.methodLink RX3 3 objectInit, .instanceMethod objectInit, .code objectInit ⟨#[0xb1]⟩ 1 none, .fieldLink RX3 9 "RoomNumbers$Room" "number" "I", .fieldLink RX3 15 "RoomNumbers$Room" "outer" "LRoomNumbers$Room;", .fieldLink RX3 19 "RoomNumbers$Room" "owner" "I", .fieldLink RX3 22 "RoomNumbers$Room" "map" "LRoomNumbers$Line;"] ++ wsX30)
def wsX3_toOuter : List Cond := .code yX3_toOuter cX3_toOuter 3 (some .int) :: ([.fieldLink RX3 15 "RoomNumbers$Room" "outer" "LRoomNumbers$Room;", .fieldLink RX3 22 "RoomNumbers$Room" "map" "LRoomNumbers$Line;", .fieldLink RX3 26 "RoomNumbers$Line" "first" "I", .fieldLink RX3 31 "RoomNumbers$Line" "length" "I", .fieldLink RX3 34 "RoomNumbers$Line" "outer" "I", .fieldLink RX3 36 "RoomNumbers$Line" "next" "LRoomNumbers$Line;"] ++ wsX30 ++ wsX20)
def wsX3_fromOuter : List Cond := .code yX3_fromOuter cX3_fromOuter 3 (some .int) :: ([.fieldLink RX3 15 "RoomNumbers$Room" "outer" "LRoomNumbers$Room;", .fieldLink RX3 22 "RoomNumbers$Room" "map" "LRoomNumbers$Line;", .fieldLink RX3 34 "RoomNumbers$Line" "outer" "I", .fieldLink RX3 31 "RoomNumbers$Line" "length" "I", .fieldLink RX3 26 "RoomNumbers$Line" "first" "I", .fieldLink RX3 36 "RoomNumbers$Line" "next" "LRoomNumbers$Line;"] ++ wsX30 ++ wsX20)
def wsX4_init_r1 : List Cond := [Cond.methodLink RX4 1 objectInit, Cond.instanceMethod objectInit, Cond.code objectInit ⟨#[0xb1]⟩ 1 none, Cond.classLink RX4 7 RX3, Cond.instantiable RX3 4, Cond.initialized RX3, Cond.fieldLink RX4 14 "RoomNumbers" "roomRow" "[LRoomNumbers$Room;", Cond.fieldLink RX4 18 "RoomNumbers" "roomCount" "I", Cond.classLink RX4 22 RX1, Cond.fieldLink RX4 24 "RoomNumbers" "processRow" "[LRoomNumbers$HouseProcess;", Cond.instantiable RX1 3, Cond.initialized RX1, Cond.fieldLink RX4 31 "RoomNumbers" "processCount" "I", Cond.classLink RX4 34 RX0, Cond.fieldLink RX4 36 "RoomNumbers" "fileRow" "[LRoomNumbers$HouseFile;", Cond.fieldLink RX4 40 "RoomNumbers" "fileCount" "I", Cond.fieldLink RX4 43 "RoomNumbers" "draft" "LRoomNumbers$Line;", Cond.fieldLink RX4 47 "RoomNumbers" "refusalCount" "I", Cond.fieldLink RX4 50 "RoomNumbers" "latestRefusal" "I", Cond.methodLink RX4 11 yX3_init, Cond.instanceMethod yX3_init, Cond.code yX3_init cX3_init 4 none, Cond.methodLink RX3 3 objectInit, Cond.fieldLink RX3 9 "RoomNumbers$Room" "number" "I"]
def wsX4_init_r2 : List Cond := [Cond.fieldLink RX3 15 "RoomNumbers$Room" "outer" "LRoomNumbers$Room;", Cond.fieldLink RX3 19 "RoomNumbers$Room" "owner" "I", Cond.fieldLink RX3 22 "RoomNumbers$Room" "map" "LRoomNumbers$Line;", Cond.methodLink RX4 28 yX1_init, Cond.instanceMethod yX1_init, Cond.code yX1_init cX1_init 4 none, Cond.methodLink RX1 3 objectInit, Cond.fieldLink RX1 9 "RoomNumbers$HouseProcess" "room" "LRoomNumbers$Room;", Cond.fieldLink RX1 15 "RoomNumbers$HouseProcess" "number" "I", Cond.fieldLink RX1 19 "RoomNumbers$HouseProcess" "rights" "I"]
def wsX4_init : List Cond := .code yX4_init cX4_init 2 none :: ((wsX4_init_r1 ++ wsX4_init_r2) ++ wsX30 ++ wsX40 ++ wsX10)
def wsX4_processAt : List Cond := .code yX4_processAt cX4_processAt 3 (some (.object "RoomNumbers$HouseProcess")) :: ([.classLink RX4 103 "java/lang/IndexOutOfBoundsException", .initialized "java/lang/IndexOutOfBoundsException", .fieldLink RX4 24 "RoomNumbers" "processRow" "[LRoomNumbers$HouseProcess;"] ++ wsX40 ++ (vx_atS RX4 107 "java/lang/IndexOutOfBoundsException" ["java/lang/RuntimeException", "java/lang/Exception"]).filter goodWord)
def wsX4_makeRoom_r1 : List Cond := [Cond.classLink RX4 57 "java/lang/IllegalStateException", Cond.initialized "java/lang/IllegalStateException", Cond.fieldLink RX4 18 "RoomNumbers" "roomCount" "I", Cond.fieldLink RX4 14 "RoomNumbers" "roomRow" "[LRoomNumbers$Room;", Cond.classLink RX4 7 RX3, Cond.instantiable RX3 4, Cond.initialized RX3, Cond.fieldLink RX4 64 "RoomNumbers$HouseProcess" "room" "LRoomNumbers$Room;", Cond.fieldLink RX4 68 "RoomNumbers$HouseProcess" "number" "I", Cond.fieldLink RX4 75 "RoomNumbers$Room" "number" "I", Cond.methodLink RX4 53 yX4_processAt, Cond.instanceMethod yX4_processAt, Cond.selects RX4 yX4_processAt yX4_processAt, Cond.initialized RX4, Cond.code yX4_processAt cX4_processAt 3 (some (.object "RoomNumbers$HouseProcess")), Cond.classLink RX4 103 "java/lang/IndexOutOfBoundsException", Cond.initialized "java/lang/IndexOutOfBoundsException", Cond.fieldLink RX4 24 "RoomNumbers" "processRow" "[LRoomNumbers$HouseProcess;", Cond.methodLink RX4 11 yX3_init, Cond.instanceMethod yX3_init, Cond.code yX3_init cX3_init 4 none, Cond.methodLink RX3 3 objectInit, Cond.instanceMethod objectInit, Cond.code objectInit ⟨#[0xb1]⟩ 1 none]
def wsX4_makeRoom_r2 : List Cond := [Cond.fieldLink RX3 9 "RoomNumbers$Room" "number" "I", Cond.fieldLink RX3 15 "RoomNumbers$Room" "outer" "LRoomNumbers$Room;", Cond.fieldLink RX3 19 "RoomNumbers$Room" "owner" "I", Cond.fieldLink RX3 22 "RoomNumbers$Room" "map" "LRoomNumbers$Line;", Cond.methodLink RX4 71 yX1_moveInto, Cond.instanceMethod yX1_moveInto, Cond.selects RX1 yX1_moveInto yX1_moveInto, Cond.initialized RX1, Cond.code yX1_moveInto cX1_moveInto 2 none, Cond.fieldLink RX1 9 "RoomNumbers$HouseProcess" "room" "LRoomNumbers$Room;", Cond.fieldLink RX1 19 "RoomNumbers$HouseProcess" "rights" "I"]
def wsX4_makeRoom : List Cond := .code yX4_makeRoom cX4_makeRoom 4 (some .int) :: ((wsX4_makeRoom_r1 ++ wsX4_makeRoom_r2) ++ wsX40 ++ wsX30 ++ wsX10 ++ (vx_atS RX4 61 "java/lang/IllegalStateException" ["java/lang/RuntimeException", "java/lang/Exception"]).filter goodWord ++ (vx_atS RX4 107 "java/lang/IndexOutOfBoundsException" ["java/lang/RuntimeException", "java/lang/Exception"]).filter goodWord)
def wsX4_requireNumber : List Cond := .code yX4_requireNumber cX4_requireNumber 1 none :: ([.classLink RX4 80 "java/lang/IllegalArgumentException", .initialized "java/lang/IllegalArgumentException"] ++ (vx_atS RX4 84 "java/lang/IllegalArgumentException" ["java/lang/RuntimeException", "java/lang/Exception"]).filter goodWord)
def wsX4_countOf : List Cond := .code yX4_countOf cX4_countOf 3 (some .int) :: ([.fieldLink RX4 188 "RoomNumbers$Line" "next" "LRoomNumbers$Line;"] ++ wsX20)
def wsX4_line_r1 : List Cond := [Cond.classLink RX4 80 "java/lang/IllegalArgumentException", Cond.initialized "java/lang/IllegalArgumentException", Cond.classLink RX4 57 "java/lang/IllegalStateException", Cond.initialized "java/lang/IllegalStateException", Cond.fieldLink RX4 43 "RoomNumbers" "draft" "LRoomNumbers$Line;", Cond.classLink RX4 91 RX2, Cond.instantiable RX2 4, Cond.initialized RX2, Cond.methodLink RX4 76 yX4_requireNumber, Cond.static yX4_requireNumber, Cond.initialized RX4, Cond.code yX4_requireNumber cX4_requireNumber 1 none, Cond.methodLink RX4 85 yX4_countOf, Cond.static yX4_countOf, Cond.code yX4_countOf cX4_countOf 3 (some .int), Cond.fieldLink RX4 188 "RoomNumbers$Line" "next" "LRoomNumbers$Line;", Cond.methodLink RX4 93 yX2_init, Cond.instanceMethod yX2_init, Cond.code yX2_init cX2_init 5 none, Cond.methodLink RX2 1 objectInit, Cond.instanceMethod objectInit, Cond.code objectInit ⟨#[0xb1]⟩ 1 none, Cond.fieldLink RX2 7 "RoomNumbers$Line" "first" "I", Cond.fieldLink RX2 13 "RoomNumbers$Line" "outer" "I"]
def wsX4_line_r2 : List Cond := [Cond.fieldLink RX2 16 "RoomNumbers$Line" "length" "I", Cond.fieldLink RX2 19 "RoomNumbers$Line" "next" "LRoomNumbers$Line;"]
def wsX4_line : List Cond := .code yX4_line cX4_line 5 (some .int) :: ((wsX4_line_r1 ++ wsX4_line_r2) ++ wsX40 ++ wsX20 ++ (vx_atS RX4 84 "java/lang/IllegalArgumentException" ["java/lang/RuntimeException", "java/lang/Exception"]).filter goodWord ++ (vx_atS RX4 61 "java/lang/IllegalStateException" ["java/lang/RuntimeException", "java/lang/Exception"]).filter goodWord)
def wsX4_roomAt : List Cond := .code yX4_roomAt cX4_roomAt 3 (some (.object "RoomNumbers$Room")) :: ([.classLink RX4 103 "java/lang/IndexOutOfBoundsException", .initialized "java/lang/IndexOutOfBoundsException", .fieldLink RX4 14 "RoomNumbers" "roomRow" "[LRoomNumbers$Room;"] ++ wsX40 ++ (vx_atS RX4 107 "java/lang/IndexOutOfBoundsException" ["java/lang/RuntimeException", "java/lang/Exception"]).filter goodWord)
def wsX4_refuse : List Cond := .code yX4_refuse cX4_refuse 2 (some .int) :: ([.fieldLink RX4 47 "RoomNumbers" "refusalCount" "I", .fieldLink RX4 50 "RoomNumbers" "latestRefusal" "I"] ++ wsX40)
def wsX4_anyMeet : List Cond := .code yX4_anyMeet cX4_anyMeet 3 (some .boolean) :: ([.fieldLink RX4 188 "RoomNumbers$Line" "next" "LRoomNumbers$Line;", .methodLink RX4 191 yX2_meets, .instanceMethod yX2_meets, .selects RX2 yX2_meets yX2_meets, .initialized RX2, .code yX2_meets cX2_meets 2 (some .boolean), .fieldLink RX2 7 "RoomNumbers$Line" "first" "I", .fieldLink RX2 16 "RoomNumbers$Line" "length" "I", .fieldLink RX2 13 "RoomNumbers$Line" "outer" "I", .methodLink RX2 23 yX2_rangesMeet, .static yX2_rangesMeet, .code yX2_rangesMeet cX2_rangesMeet 4 (some .boolean)] ++ wsX20)
def wsX4_leadOut : List Cond := .code yX4_leadOut cX4_leadOut 4 (some .int) :: ([.fieldLink RX4 100 "RoomNumbers$Room" "outer" "LRoomNumbers$Room;", .methodLink RX4 197 yX3_toOuter, .instanceMethod yX3_toOuter, .selects RX3 yX3_toOuter yX3_toOuter, .initialized RX3, .code yX3_toOuter cX3_toOuter 3 (some .int), .fieldLink RX3 15 "RoomNumbers$Room" "outer" "LRoomNumbers$Room;", .fieldLink RX3 22 "RoomNumbers$Room" "map" "LRoomNumbers$Line;", .fieldLink RX3 26 "RoomNumbers$Line" "first" "I", .fieldLink RX3 31 "RoomNumbers$Line" "length" "I", .fieldLink RX3 34 "RoomNumbers$Line" "outer" "I", .fieldLink RX3 36 "RoomNumbers$Line" "next" "LRoomNumbers$Line;"] ++ wsX30 ++ wsX20)
def wsX4_allLeadOut : List Cond := .code yX4_allLeadOut cX4_allLeadOut 4 (some .boolean) :: ([.fieldLink RX4 194 "RoomNumbers$Line" "length" "I", .fieldLink RX4 130 "RoomNumbers$Line" "outer" "I", .fieldLink RX4 188 "RoomNumbers$Line" "next" "LRoomNumbers$Line;", .methodLink RX4 132 yX4_leadOut, .static yX4_leadOut, .initialized RX4, .code yX4_leadOut cX4_leadOut 4 (some .int), .fieldLink RX4 100 "RoomNumbers$Room" "outer" "LRoomNumbers$Room;", .methodLink RX4 197 yX3_toOuter, .instanceMethod yX3_toOuter, .selects RX3 yX3_toOuter yX3_toOuter, .initialized RX3, .code yX3_toOuter cX3_toOuter 3 (some .int), .fieldLink RX3 15 "RoomNumbers$Room" "outer" "LRoomNumbers$Room;", .fieldLink RX3 22 "RoomNumbers$Room" "map" "LRoomNumbers$Line;", .fieldLink RX3 26 "RoomNumbers$Line" "first" "I", .fieldLink RX3 31 "RoomNumbers$Line" "length" "I", .fieldLink RX3 34 "RoomNumbers$Line" "outer" "I", .fieldLink RX3 36 "RoomNumbers$Line" "next" "LRoomNumbers$Line;"] ++ wsX20 ++ wsX30)
def wsX4_writeMap_r1 : List Cond := [Cond.classLink RX4 103 "java/lang/IndexOutOfBoundsException", Cond.initialized "java/lang/IndexOutOfBoundsException", Cond.fieldLink RX4 100 "RoomNumbers$Room" "outer" "LRoomNumbers$Room;", Cond.fieldLink RX4 43 "RoomNumbers" "draft" "LRoomNumbers$Line;", Cond.fieldLink RX4 108 "RoomNumbers$Room" "map" "LRoomNumbers$Line;", Cond.fieldLink RX4 68 "RoomNumbers$HouseProcess" "number" "I", Cond.fieldLink RX4 127 "RoomNumbers$Room" "owner" "I", Cond.fieldLink RX4 130 "RoomNumbers$Line" "outer" "I", Cond.methodLink RX4 53 yX4_processAt, Cond.instanceMethod yX4_processAt, Cond.selects RX4 yX4_processAt yX4_processAt, Cond.initialized RX4, Cond.code yX4_processAt cX4_processAt 3 (some (.object "RoomNumbers$HouseProcess")), Cond.fieldLink RX4 24 "RoomNumbers" "processRow" "[LRoomNumbers$HouseProcess;", Cond.methodLink RX4 96 yX4_roomAt, Cond.instanceMethod yX4_roomAt, Cond.selects RX4 yX4_roomAt yX4_roomAt, Cond.code yX4_roomAt cX4_roomAt 3 (some (.object "RoomNumbers$Room")), Cond.fieldLink RX4 14 "RoomNumbers" "roomRow" "[LRoomNumbers$Room;", Cond.methodLink RX4 111 yX4_refuse, Cond.instanceMethod yX4_refuse, Cond.selects RX4 yX4_refuse yX4_refuse, Cond.code yX4_refuse cX4_refuse 2 (some .int), Cond.fieldLink RX4 47 "RoomNumbers" "refusalCount" "I"]
def wsX4_writeMap_r2 : List Cond := [Cond.fieldLink RX4 50 "RoomNumbers" "latestRefusal" "I", Cond.methodLink RX4 115 yX4_anyMeet, Cond.static yX4_anyMeet, Cond.code yX4_anyMeet cX4_anyMeet 3 (some .boolean), Cond.fieldLink RX4 188 "RoomNumbers$Line" "next" "LRoomNumbers$Line;", Cond.methodLink RX4 191 yX2_meets, Cond.instanceMethod yX2_meets, Cond.selects RX2 yX2_meets yX2_meets, Cond.initialized RX2, Cond.code yX2_meets cX2_meets 2 (some .boolean), Cond.fieldLink RX2 7 "RoomNumbers$Line" "first" "I", Cond.fieldLink RX2 16 "RoomNumbers$Line" "length" "I", Cond.fieldLink RX2 13 "RoomNumbers$Line" "outer" "I", Cond.methodLink RX2 23 yX2_rangesMeet, Cond.static yX2_rangesMeet, Cond.code yX2_rangesMeet cX2_rangesMeet 4 (some .boolean), Cond.methodLink RX4 119 yX4_allLeadOut, Cond.static yX4_allLeadOut, Cond.code yX4_allLeadOut cX4_allLeadOut 4 (some .boolean), Cond.fieldLink RX4 194 "RoomNumbers$Line" "length" "I", Cond.methodLink RX4 132 yX4_leadOut, Cond.static yX4_leadOut, Cond.code yX4_leadOut cX4_leadOut 4 (some .int), Cond.methodLink RX4 197 yX3_toOuter]
def wsX4_writeMap_r3 : List Cond := [Cond.instanceMethod yX3_toOuter, Cond.selects RX3 yX3_toOuter yX3_toOuter, Cond.initialized RX3, Cond.code yX3_toOuter cX3_toOuter 3 (some .int), Cond.fieldLink RX3 15 "RoomNumbers$Room" "outer" "LRoomNumbers$Room;", Cond.fieldLink RX3 22 "RoomNumbers$Room" "map" "LRoomNumbers$Line;", Cond.fieldLink RX3 26 "RoomNumbers$Line" "first" "I", Cond.fieldLink RX3 31 "RoomNumbers$Line" "length" "I", Cond.fieldLink RX3 34 "RoomNumbers$Line" "outer" "I", Cond.fieldLink RX3 36 "RoomNumbers$Line" "next" "LRoomNumbers$Line;", Cond.methodLink RX4 123 yX2_isOfOneNumber, Cond.instanceMethod yX2_isOfOneNumber, Cond.selects RX2 yX2_isOfOneNumber yX2_isOfOneNumber, Cond.code yX2_isOfOneNumber cX2_isOfOneNumber 1 (some .boolean), Cond.fieldLink RX2 19 "RoomNumbers$Line" "next" "LRoomNumbers$Line;", Cond.methodLink RX4 136 yX1_hasRight, Cond.instanceMethod yX1_hasRight, Cond.selects RX1 yX1_hasRight yX1_hasRight, Cond.initialized RX1, Cond.code yX1_hasRight cX1_hasRight 3 (some .boolean), Cond.methodLink RX1 30 yX1_rightsHeldIn, Cond.instanceMethod yX1_rightsHeldIn, Cond.selects RX1 yX1_rightsHeldIn yX1_rightsHeldIn, Cond.code yX1_rightsHeldIn cX1_rightsHeldIn 2 (some .int)]
def wsX4_writeMap_r4 : List Cond := [Cond.fieldLink RX1 9 "RoomNumbers$HouseProcess" "room" "LRoomNumbers$Room;", Cond.fieldLink RX1 19 "RoomNumbers$HouseProcess" "rights" "I", Cond.methodLink RX1 22 yX1_ownsRoomAround, Cond.instanceMethod yX1_ownsRoomAround, Cond.selects RX1 yX1_ownsRoomAround yX1_ownsRoomAround, Cond.code yX1_ownsRoomAround cX1_ownsRoomAround 3 (some .boolean), Cond.fieldLink RX1 34 "RoomNumbers$Room" "outer" "LRoomNumbers$Room;", Cond.fieldLink RX1 39 "RoomNumbers$Room" "owner" "I", Cond.fieldLink RX1 15 "RoomNumbers$HouseProcess" "number" "I", Cond.static yX4_isOrIsInside, Cond.code yX4_isOrIsInside cX4_isOrIsInside 3 (some .boolean), Cond.methodLink RX4 85 yX4_countOf, Cond.static yX4_countOf, Cond.code yX4_countOf cX4_countOf 3 (some .int)]
def wsX4_writeMap : List Cond := .code yX4_writeMap cX4_writeMap 8 (some .int) :: ((wsX4_writeMap_r1 ++ (wsX4_writeMap_r2 ++ (wsX4_writeMap_r3 ++ wsX4_writeMap_r4))) ++ wsX30 ++ wsX40 ++ wsX10 ++ wsX20 ++ (vx_atS RX4 107 "java/lang/IndexOutOfBoundsException" ["java/lang/RuntimeException", "java/lang/Exception"]).filter goodWord)
def wsX4_rooms : List Cond := .code yX4_rooms cX4_rooms 1 (some .int) :: ([.fieldLink RX4 18 "RoomNumbers" "roomCount" "I"] ++ wsX40)
def wsX4_numberOrNone : List Cond := .code yX4_numberOrNone cX4_numberOrNone 1 (some .int) :: ([.fieldLink RX4 75 "RoomNumbers$Room" "number" "I"] ++ wsX30)
def wsX4_outerOf : List Cond := .code yX4_outerOf cX4_outerOf 2 (some .int) :: ([.fieldLink RX4 100 "RoomNumbers$Room" "outer" "LRoomNumbers$Room;", .methodLink RX4 96 yX4_roomAt, .instanceMethod yX4_roomAt, .selects RX4 yX4_roomAt yX4_roomAt, .initialized RX4, .code yX4_roomAt cX4_roomAt 3 (some (.object "RoomNumbers$Room")), .classLink RX4 103 "java/lang/IndexOutOfBoundsException", .initialized "java/lang/IndexOutOfBoundsException", .fieldLink RX4 14 "RoomNumbers" "roomRow" "[LRoomNumbers$Room;", .methodLink RX4 140 yX4_numberOrNone, .static yX4_numberOrNone, .code yX4_numberOrNone cX4_numberOrNone 1 (some .int), .fieldLink RX4 75 "RoomNumbers$Room" "number" "I"] ++ wsX30 ++ wsX40 ++ (vx_atS RX4 107 "java/lang/IndexOutOfBoundsException" ["java/lang/RuntimeException", "java/lang/Exception"]).filter goodWord)
def wsX4_leadsTo_r1 : List Cond := [Cond.methodLink RX4 96 yX4_roomAt, Cond.instanceMethod yX4_roomAt, Cond.selects RX4 yX4_roomAt yX4_roomAt, Cond.initialized RX4, Cond.code yX4_roomAt cX4_roomAt 3 (some (.object "RoomNumbers$Room")), Cond.classLink RX4 103 "java/lang/IndexOutOfBoundsException", Cond.initialized "java/lang/IndexOutOfBoundsException", Cond.fieldLink RX4 14 "RoomNumbers" "roomRow" "[LRoomNumbers$Room;", Cond.methodLink RX4 76 yX4_requireNumber, Cond.static yX4_requireNumber, Cond.code yX4_requireNumber cX4_requireNumber 1 none, Cond.classLink RX4 80 "java/lang/IllegalArgumentException", Cond.initialized "java/lang/IllegalArgumentException", Cond.methodLink RX4 132 yX4_leadOut, Cond.static yX4_leadOut, Cond.code yX4_leadOut cX4_leadOut 4 (some .int), Cond.fieldLink RX4 100 "RoomNumbers$Room" "outer" "LRoomNumbers$Room;", Cond.methodLink RX4 197 yX3_toOuter, Cond.instanceMethod yX3_toOuter, Cond.selects RX3 yX3_toOuter yX3_toOuter, Cond.initialized RX3, Cond.code yX3_toOuter cX3_toOuter 3 (some .int), Cond.fieldLink RX3 15 "RoomNumbers$Room" "outer" "LRoomNumbers$Room;", Cond.fieldLink RX3 22 "RoomNumbers$Room" "map" "LRoomNumbers$Line;"]
def wsX4_leadsTo_r2 : List Cond := [Cond.fieldLink RX3 26 "RoomNumbers$Line" "first" "I", Cond.fieldLink RX3 31 "RoomNumbers$Line" "length" "I", Cond.fieldLink RX3 34 "RoomNumbers$Line" "outer" "I", Cond.fieldLink RX3 36 "RoomNumbers$Line" "next" "LRoomNumbers$Line;"]
def wsX4_leadsTo : List Cond := .code yX4_leadsTo cX4_leadsTo 4 (some .int) :: ((wsX4_leadsTo_r1 ++ wsX4_leadsTo_r2) ++ wsX40 ++ wsX30 ++ wsX20 ++ (vx_atS RX4 107 "java/lang/IndexOutOfBoundsException" ["java/lang/RuntimeException", "java/lang/Exception"]).filter goodWord ++ (vx_atS RX4 84 "java/lang/IllegalArgumentException" ["java/lang/RuntimeException", "java/lang/Exception"]).filter goodWord)
def wsX4_seenFrom : List Cond := .code yX4_seenFrom cX4_seenFrom 8 (some .int) :: ([.fieldLink RX4 14 "RoomNumbers" "roomRow" "[LRoomNumbers$Room;", .methodLink RX4 154 yX4_isOrIsInside, .static yX4_isOrIsInside, .initialized RX4, .code yX4_isOrIsInside cX4_isOrIsInside 3 (some .boolean), .fieldLink RX4 100 "RoomNumbers$Room" "outer" "LRoomNumbers$Room;", .methodLink RX4 185 yX3_fromOuter, .instanceMethod yX3_fromOuter, .selects RX3 yX3_fromOuter yX3_fromOuter, .initialized RX3, .code yX3_fromOuter cX3_fromOuter 3 (some .int), .fieldLink RX3 15 "RoomNumbers$Room" "outer" "LRoomNumbers$Room;", .fieldLink RX3 22 "RoomNumbers$Room" "map" "LRoomNumbers$Line;", .fieldLink RX3 34 "RoomNumbers$Line" "outer" "I", .fieldLink RX3 31 "RoomNumbers$Line" "length" "I", .fieldLink RX3 26 "RoomNumbers$Line" "first" "I", .fieldLink RX3 36 "RoomNumbers$Line" "next" "LRoomNumbers$Line;"] ++ wsX40 ++ wsX30 ++ wsX20)
def wsX4_seenAs_r1 : List Cond := [Cond.methodLink RX4 96 yX4_roomAt, Cond.instanceMethod yX4_roomAt, Cond.selects RX4 yX4_roomAt yX4_roomAt, Cond.initialized RX4, Cond.code yX4_roomAt cX4_roomAt 3 (some (.object "RoomNumbers$Room")), Cond.classLink RX4 103 "java/lang/IndexOutOfBoundsException", Cond.initialized "java/lang/IndexOutOfBoundsException", Cond.fieldLink RX4 14 "RoomNumbers" "roomRow" "[LRoomNumbers$Room;", Cond.methodLink RX4 76 yX4_requireNumber, Cond.static yX4_requireNumber, Cond.code yX4_requireNumber cX4_requireNumber 1 none, Cond.classLink RX4 80 "java/lang/IllegalArgumentException", Cond.initialized "java/lang/IllegalArgumentException", Cond.methodLink RX4 144 yX4_seenFrom, Cond.instanceMethod yX4_seenFrom, Cond.selects RX4 yX4_seenFrom yX4_seenFrom, Cond.code yX4_seenFrom cX4_seenFrom 8 (some .int), Cond.methodLink RX4 154 yX4_isOrIsInside, Cond.static yX4_isOrIsInside, Cond.code yX4_isOrIsInside cX4_isOrIsInside 3 (some .boolean), Cond.fieldLink RX4 100 "RoomNumbers$Room" "outer" "LRoomNumbers$Room;", Cond.methodLink RX4 185 yX3_fromOuter, Cond.instanceMethod yX3_fromOuter, Cond.selects RX3 yX3_fromOuter yX3_fromOuter]
def wsX4_seenAs_r2 : List Cond := [Cond.initialized RX3, Cond.code yX3_fromOuter cX3_fromOuter 3 (some .int), Cond.fieldLink RX3 15 "RoomNumbers$Room" "outer" "LRoomNumbers$Room;", Cond.fieldLink RX3 22 "RoomNumbers$Room" "map" "LRoomNumbers$Line;", Cond.fieldLink RX3 34 "RoomNumbers$Line" "outer" "I", Cond.fieldLink RX3 31 "RoomNumbers$Line" "length" "I", Cond.fieldLink RX3 26 "RoomNumbers$Line" "first" "I", Cond.fieldLink RX3 36 "RoomNumbers$Line" "next" "LRoomNumbers$Line;"]
def wsX4_seenAs : List Cond := .code yX4_seenAs cX4_seenAs 4 (some .int) :: ((wsX4_seenAs_r1 ++ wsX4_seenAs_r2) ++ wsX40 ++ wsX30 ++ wsX20 ++ (vx_atS RX4 107 "java/lang/IndexOutOfBoundsException" ["java/lang/RuntimeException", "java/lang/Exception"]).filter goodWord ++ (vx_atS RX4 84 "java/lang/IllegalArgumentException" ["java/lang/RuntimeException", "java/lang/Exception"]).filter goodWord)
def wsX4_seenByLeading_r1 : List Cond := [Cond.methodLink RX4 96 yX4_roomAt, Cond.instanceMethod yX4_roomAt, Cond.selects RX4 yX4_roomAt yX4_roomAt, Cond.initialized RX4, Cond.code yX4_roomAt cX4_roomAt 3 (some (.object "RoomNumbers$Room")), Cond.classLink RX4 103 "java/lang/IndexOutOfBoundsException", Cond.initialized "java/lang/IndexOutOfBoundsException", Cond.fieldLink RX4 14 "RoomNumbers" "roomRow" "[LRoomNumbers$Room;", Cond.methodLink RX4 76 yX4_requireNumber, Cond.static yX4_requireNumber, Cond.code yX4_requireNumber cX4_requireNumber 1 none, Cond.classLink RX4 80 "java/lang/IllegalArgumentException", Cond.initialized "java/lang/IllegalArgumentException", Cond.methodLink RX4 132 yX4_leadOut, Cond.static yX4_leadOut, Cond.code yX4_leadOut cX4_leadOut 4 (some .int), Cond.fieldLink RX4 100 "RoomNumbers$Room" "outer" "LRoomNumbers$Room;", Cond.methodLink RX4 197 yX3_toOuter, Cond.instanceMethod yX3_toOuter, Cond.selects RX3 yX3_toOuter yX3_toOuter, Cond.initialized RX3, Cond.code yX3_toOuter cX3_toOuter 3 (some .int), Cond.fieldLink RX3 15 "RoomNumbers$Room" "outer" "LRoomNumbers$Room;", Cond.fieldLink RX3 22 "RoomNumbers$Room" "map" "LRoomNumbers$Line;"]
def wsX4_seenByLeading_r2 : List Cond := [Cond.fieldLink RX3 26 "RoomNumbers$Line" "first" "I", Cond.fieldLink RX3 31 "RoomNumbers$Line" "length" "I", Cond.fieldLink RX3 34 "RoomNumbers$Line" "outer" "I", Cond.fieldLink RX3 36 "RoomNumbers$Line" "next" "LRoomNumbers$Line;"]
def wsX4_seenByLeading : List Cond := .code yX4_seenByLeading cX4_seenByLeading 5 (some .int) :: ((wsX4_seenByLeading_r1 ++ wsX4_seenByLeading_r2) ++ wsX40 ++ wsX30 ++ wsX20 ++ (vx_atS RX4 107 "java/lang/IndexOutOfBoundsException" ["java/lang/RuntimeException", "java/lang/Exception"]).filter goodWord ++ (vx_atS RX4 84 "java/lang/IllegalArgumentException" ["java/lang/RuntimeException", "java/lang/Exception"]).filter goodWord)
def wsX4_fork_r1 : List Cond := [Cond.classLink RX4 57 "java/lang/IllegalStateException", Cond.initialized "java/lang/IllegalStateException", Cond.fieldLink RX4 31 "RoomNumbers" "processCount" "I", Cond.fieldLink RX4 24 "RoomNumbers" "processRow" "[LRoomNumbers$HouseProcess;", Cond.classLink RX4 22 RX1, Cond.instantiable RX1 3, Cond.initialized RX1, Cond.fieldLink RX4 64 "RoomNumbers$HouseProcess" "room" "LRoomNumbers$Room;", Cond.fieldLink RX4 68 "RoomNumbers$HouseProcess" "number" "I", Cond.fieldLink RX4 149 "RoomNumbers$HouseProcess" "rights" "I", Cond.methodLink RX4 53 yX4_processAt, Cond.instanceMethod yX4_processAt, Cond.selects RX4 yX4_processAt yX4_processAt, Cond.initialized RX4, Cond.code yX4_processAt cX4_processAt 3 (some (.object "RoomNumbers$HouseProcess")), Cond.classLink RX4 103 "java/lang/IndexOutOfBoundsException", Cond.initialized "java/lang/IndexOutOfBoundsException", Cond.methodLink RX4 28 yX1_init, Cond.instanceMethod yX1_init, Cond.code yX1_init cX1_init 4 none, Cond.methodLink RX1 3 objectInit, Cond.instanceMethod objectInit, Cond.code objectInit ⟨#[0xb1]⟩ 1 none, Cond.fieldLink RX1 9 "RoomNumbers$HouseProcess" "room" "LRoomNumbers$Room;"]
def wsX4_fork_r2 : List Cond := [Cond.fieldLink RX1 15 "RoomNumbers$HouseProcess" "number" "I", Cond.fieldLink RX1 19 "RoomNumbers$HouseProcess" "rights" "I"]
def wsX4_fork : List Cond := .code yX4_fork cX4_fork 4 (some .int) :: ((wsX4_fork_r1 ++ wsX4_fork_r2) ++ wsX40 ++ wsX10 ++ (vx_atS RX4 61 "java/lang/IllegalStateException" ["java/lang/RuntimeException", "java/lang/Exception"]).filter goodWord ++ (vx_atS RX4 107 "java/lang/IndexOutOfBoundsException" ["java/lang/RuntimeException", "java/lang/Exception"]).filter goodWord)
def wsX4_drop : List Cond := .code yX4_drop cX4_drop 4 (some .int) :: ([.classLink RX4 80 "java/lang/IllegalArgumentException", .initialized "java/lang/IllegalArgumentException", .fieldLink RX4 149 "RoomNumbers$HouseProcess" "rights" "I", .methodLink RX4 53 yX4_processAt, .instanceMethod yX4_processAt, .selects RX4 yX4_processAt yX4_processAt, .initialized RX4, .code yX4_processAt cX4_processAt 3 (some (.object "RoomNumbers$HouseProcess")), .classLink RX4 103 "java/lang/IndexOutOfBoundsException", .initialized "java/lang/IndexOutOfBoundsException", .fieldLink RX4 24 "RoomNumbers" "processRow" "[LRoomNumbers$HouseProcess;"] ++ wsX10 ++ wsX40 ++ (vx_atS RX4 84 "java/lang/IllegalArgumentException" ["java/lang/RuntimeException", "java/lang/Exception"]).filter goodWord ++ (vx_atS RX4 107 "java/lang/IndexOutOfBoundsException" ["java/lang/RuntimeException", "java/lang/Exception"]).filter goodWord)
def wsX4_enter_r1 : List Cond := [Cond.fieldLink RX4 100 "RoomNumbers$Room" "outer" "LRoomNumbers$Room;", Cond.fieldLink RX4 64 "RoomNumbers$HouseProcess" "room" "LRoomNumbers$Room;", Cond.fieldLink RX4 149 "RoomNumbers$HouseProcess" "rights" "I", Cond.methodLink RX4 53 yX4_processAt, Cond.instanceMethod yX4_processAt, Cond.selects RX4 yX4_processAt yX4_processAt, Cond.initialized RX4, Cond.code yX4_processAt cX4_processAt 3 (some (.object "RoomNumbers$HouseProcess")), Cond.classLink RX4 103 "java/lang/IndexOutOfBoundsException", Cond.initialized "java/lang/IndexOutOfBoundsException", Cond.fieldLink RX4 24 "RoomNumbers" "processRow" "[LRoomNumbers$HouseProcess;", Cond.methodLink RX4 96 yX4_roomAt, Cond.instanceMethod yX4_roomAt, Cond.selects RX4 yX4_roomAt yX4_roomAt, Cond.code yX4_roomAt cX4_roomAt 3 (some (.object "RoomNumbers$Room")), Cond.fieldLink RX4 14 "RoomNumbers" "roomRow" "[LRoomNumbers$Room;", Cond.methodLink RX4 154 yX4_isOrIsInside, Cond.static yX4_isOrIsInside, Cond.code yX4_isOrIsInside cX4_isOrIsInside 3 (some .boolean), Cond.methodLink RX4 111 yX4_refuse, Cond.instanceMethod yX4_refuse, Cond.selects RX4 yX4_refuse yX4_refuse, Cond.code yX4_refuse cX4_refuse 2 (some .int), Cond.fieldLink RX4 47 "RoomNumbers" "refusalCount" "I"]
def wsX4_enter_r2 : List Cond := [Cond.fieldLink RX4 50 "RoomNumbers" "latestRefusal" "I", Cond.methodLink RX4 136 yX1_hasRight, Cond.instanceMethod yX1_hasRight, Cond.selects RX1 yX1_hasRight yX1_hasRight, Cond.initialized RX1, Cond.code yX1_hasRight cX1_hasRight 3 (some .boolean), Cond.methodLink RX1 30 yX1_rightsHeldIn, Cond.instanceMethod yX1_rightsHeldIn, Cond.selects RX1 yX1_rightsHeldIn yX1_rightsHeldIn, Cond.code yX1_rightsHeldIn cX1_rightsHeldIn 2 (some .int), Cond.fieldLink RX1 9 "RoomNumbers$HouseProcess" "room" "LRoomNumbers$Room;", Cond.fieldLink RX1 19 "RoomNumbers$HouseProcess" "rights" "I", Cond.methodLink RX1 22 yX1_ownsRoomAround, Cond.instanceMethod yX1_ownsRoomAround, Cond.selects RX1 yX1_ownsRoomAround yX1_ownsRoomAround, Cond.code yX1_ownsRoomAround cX1_ownsRoomAround 3 (some .boolean), Cond.fieldLink RX1 34 "RoomNumbers$Room" "outer" "LRoomNumbers$Room;", Cond.fieldLink RX1 39 "RoomNumbers$Room" "owner" "I", Cond.fieldLink RX1 15 "RoomNumbers$HouseProcess" "number" "I", Cond.methodLink RX4 71 yX1_moveInto, Cond.instanceMethod yX1_moveInto, Cond.selects RX1 yX1_moveInto yX1_moveInto, Cond.code yX1_moveInto cX1_moveInto 2 none]
def wsX4_enter : List Cond := .code yX4_enter cX4_enter 5 (some .int) :: ((wsX4_enter_r1 ++ wsX4_enter_r2) ++ wsX30 ++ wsX10 ++ wsX40 ++ (vx_atS RX4 107 "java/lang/IndexOutOfBoundsException" ["java/lang/RuntimeException", "java/lang/Exception"]).filter goodWord)
def wsX4_setNumber_r1 : List Cond := [Cond.fieldLink RX4 64 "RoomNumbers$HouseProcess" "room" "LRoomNumbers$Room;", Cond.fieldLink RX4 68 "RoomNumbers$HouseProcess" "number" "I", Cond.fieldLink RX4 149 "RoomNumbers$HouseProcess" "rights" "I", Cond.methodLink RX4 53 yX4_processAt, Cond.instanceMethod yX4_processAt, Cond.selects RX4 yX4_processAt yX4_processAt, Cond.initialized RX4, Cond.code yX4_processAt cX4_processAt 3 (some (.object "RoomNumbers$HouseProcess")), Cond.classLink RX4 103 "java/lang/IndexOutOfBoundsException", Cond.initialized "java/lang/IndexOutOfBoundsException", Cond.fieldLink RX4 24 "RoomNumbers" "processRow" "[LRoomNumbers$HouseProcess;", Cond.methodLink RX4 76 yX4_requireNumber, Cond.static yX4_requireNumber, Cond.code yX4_requireNumber cX4_requireNumber 1 none, Cond.classLink RX4 80 "java/lang/IllegalArgumentException", Cond.initialized "java/lang/IllegalArgumentException", Cond.methodLink RX4 132 yX4_leadOut, Cond.static yX4_leadOut, Cond.code yX4_leadOut cX4_leadOut 4 (some .int), Cond.fieldLink RX4 100 "RoomNumbers$Room" "outer" "LRoomNumbers$Room;", Cond.methodLink RX4 197 yX3_toOuter, Cond.instanceMethod yX3_toOuter, Cond.selects RX3 yX3_toOuter yX3_toOuter, Cond.initialized RX3]
def wsX4_setNumber_r2 : List Cond := [Cond.code yX3_toOuter cX3_toOuter 3 (some .int), Cond.fieldLink RX3 15 "RoomNumbers$Room" "outer" "LRoomNumbers$Room;", Cond.fieldLink RX3 22 "RoomNumbers$Room" "map" "LRoomNumbers$Line;", Cond.fieldLink RX3 26 "RoomNumbers$Line" "first" "I", Cond.fieldLink RX3 31 "RoomNumbers$Line" "length" "I", Cond.fieldLink RX3 34 "RoomNumbers$Line" "outer" "I", Cond.fieldLink RX3 36 "RoomNumbers$Line" "next" "LRoomNumbers$Line;", Cond.methodLink RX4 111 yX4_refuse, Cond.instanceMethod yX4_refuse, Cond.selects RX4 yX4_refuse yX4_refuse, Cond.code yX4_refuse cX4_refuse 2 (some .int), Cond.fieldLink RX4 47 "RoomNumbers" "refusalCount" "I", Cond.fieldLink RX4 50 "RoomNumbers" "latestRefusal" "I", Cond.methodLink RX4 136 yX1_hasRight, Cond.instanceMethod yX1_hasRight, Cond.selects RX1 yX1_hasRight yX1_hasRight, Cond.initialized RX1, Cond.code yX1_hasRight cX1_hasRight 3 (some .boolean), Cond.methodLink RX1 30 yX1_rightsHeldIn, Cond.instanceMethod yX1_rightsHeldIn, Cond.selects RX1 yX1_rightsHeldIn yX1_rightsHeldIn, Cond.code yX1_rightsHeldIn cX1_rightsHeldIn 2 (some .int), Cond.fieldLink RX1 9 "RoomNumbers$HouseProcess" "room" "LRoomNumbers$Room;", Cond.fieldLink RX1 19 "RoomNumbers$HouseProcess" "rights" "I"]
def wsX4_setNumber_r3 : List Cond := [Cond.methodLink RX1 22 yX1_ownsRoomAround, Cond.instanceMethod yX1_ownsRoomAround, Cond.selects RX1 yX1_ownsRoomAround yX1_ownsRoomAround, Cond.code yX1_ownsRoomAround cX1_ownsRoomAround 3 (some .boolean), Cond.fieldLink RX1 34 "RoomNumbers$Room" "outer" "LRoomNumbers$Room;", Cond.fieldLink RX1 39 "RoomNumbers$Room" "owner" "I", Cond.fieldLink RX1 15 "RoomNumbers$HouseProcess" "number" "I", Cond.static yX4_isOrIsInside, Cond.code yX4_isOrIsInside cX4_isOrIsInside 3 (some .boolean), Cond.methodLink RX4 144 yX4_seenFrom, Cond.instanceMethod yX4_seenFrom, Cond.selects RX4 yX4_seenFrom yX4_seenFrom, Cond.code yX4_seenFrom cX4_seenFrom 8 (some .int), Cond.fieldLink RX4 14 "RoomNumbers" "roomRow" "[LRoomNumbers$Room;", Cond.methodLink RX4 154 yX4_isOrIsInside, Cond.methodLink RX4 185 yX3_fromOuter, Cond.instanceMethod yX3_fromOuter, Cond.selects RX3 yX3_fromOuter yX3_fromOuter, Cond.code yX3_fromOuter cX3_fromOuter 3 (some .int)]
def wsX4_setNumber : List Cond := .code yX4_setNumber cX4_setNumber 5 (some .int) :: ((wsX4_setNumber_r1 ++ (wsX4_setNumber_r2 ++ wsX4_setNumber_r3)) ++ wsX10 ++ wsX40 ++ wsX30 ++ wsX20 ++ (vx_atS RX4 107 "java/lang/IndexOutOfBoundsException" ["java/lang/RuntimeException", "java/lang/Exception"]).filter goodWord ++ (vx_atS RX4 84 "java/lang/IllegalArgumentException" ["java/lang/RuntimeException", "java/lang/Exception"]).filter goodWord)
def wsX4_processes : List Cond := .code yX4_processes cX4_processes 1 (some .int) :: ([.fieldLink RX4 31 "RoomNumbers" "processCount" "I"] ++ wsX40)
def wsX4_roomOf : List Cond := .code yX4_roomOf cX4_roomOf 2 (some .int) :: ([.fieldLink RX4 64 "RoomNumbers$HouseProcess" "room" "LRoomNumbers$Room;", .methodLink RX4 53 yX4_processAt, .instanceMethod yX4_processAt, .selects RX4 yX4_processAt yX4_processAt, .initialized RX4, .code yX4_processAt cX4_processAt 3 (some (.object "RoomNumbers$HouseProcess")), .classLink RX4 103 "java/lang/IndexOutOfBoundsException", .initialized "java/lang/IndexOutOfBoundsException", .fieldLink RX4 24 "RoomNumbers" "processRow" "[LRoomNumbers$HouseProcess;", .methodLink RX4 140 yX4_numberOrNone, .static yX4_numberOrNone, .code yX4_numberOrNone cX4_numberOrNone 1 (some .int), .fieldLink RX4 75 "RoomNumbers$Room" "number" "I"] ++ wsX10 ++ wsX40 ++ wsX30 ++ (vx_atS RX4 107 "java/lang/IndexOutOfBoundsException" ["java/lang/RuntimeException", "java/lang/Exception"]).filter goodWord)
def wsX4_numberOf : List Cond := .code yX4_numberOf cX4_numberOf 2 (some .int) :: ([.fieldLink RX4 68 "RoomNumbers$HouseProcess" "number" "I", .methodLink RX4 53 yX4_processAt, .instanceMethod yX4_processAt, .selects RX4 yX4_processAt yX4_processAt, .initialized RX4, .code yX4_processAt cX4_processAt 3 (some (.object "RoomNumbers$HouseProcess")), .classLink RX4 103 "java/lang/IndexOutOfBoundsException", .initialized "java/lang/IndexOutOfBoundsException", .fieldLink RX4 24 "RoomNumbers" "processRow" "[LRoomNumbers$HouseProcess;"] ++ wsX10 ++ wsX40 ++ (vx_atS RX4 107 "java/lang/IndexOutOfBoundsException" ["java/lang/RuntimeException", "java/lang/Exception"]).filter goodWord)
def wsX4_rightsIn_r1 : List Cond := [Cond.methodLink RX4 53 yX4_processAt, Cond.instanceMethod yX4_processAt, Cond.selects RX4 yX4_processAt yX4_processAt, Cond.initialized RX4, Cond.code yX4_processAt cX4_processAt 3 (some (.object "RoomNumbers$HouseProcess")), Cond.classLink RX4 103 "java/lang/IndexOutOfBoundsException", Cond.initialized "java/lang/IndexOutOfBoundsException", Cond.fieldLink RX4 24 "RoomNumbers" "processRow" "[LRoomNumbers$HouseProcess;", Cond.methodLink RX4 96 yX4_roomAt, Cond.instanceMethod yX4_roomAt, Cond.selects RX4 yX4_roomAt yX4_roomAt, Cond.code yX4_roomAt cX4_roomAt 3 (some (.object "RoomNumbers$Room")), Cond.fieldLink RX4 14 "RoomNumbers" "roomRow" "[LRoomNumbers$Room;", Cond.methodLink RX4 158 yX1_rightsHeldIn, Cond.instanceMethod yX1_rightsHeldIn, Cond.selects RX1 yX1_rightsHeldIn yX1_rightsHeldIn, Cond.initialized RX1, Cond.code yX1_rightsHeldIn cX1_rightsHeldIn 2 (some .int), Cond.fieldLink RX1 9 "RoomNumbers$HouseProcess" "room" "LRoomNumbers$Room;", Cond.fieldLink RX1 19 "RoomNumbers$HouseProcess" "rights" "I", Cond.methodLink RX1 22 yX1_ownsRoomAround, Cond.instanceMethod yX1_ownsRoomAround, Cond.selects RX1 yX1_ownsRoomAround yX1_ownsRoomAround, Cond.code yX1_ownsRoomAround cX1_ownsRoomAround 3 (some .boolean)]
def wsX4_rightsIn_r2 : List Cond := [Cond.fieldLink RX1 34 "RoomNumbers$Room" "outer" "LRoomNumbers$Room;", Cond.fieldLink RX1 39 "RoomNumbers$Room" "owner" "I", Cond.fieldLink RX1 15 "RoomNumbers$HouseProcess" "number" "I", Cond.static yX4_isOrIsInside, Cond.code yX4_isOrIsInside cX4_isOrIsInside 3 (some .boolean), Cond.fieldLink RX4 100 "RoomNumbers$Room" "outer" "LRoomNumbers$Room;"]
def wsX4_rightsIn : List Cond := .code yX4_rightsIn cX4_rightsIn 4 (some .int) :: ((wsX4_rightsIn_r1 ++ wsX4_rightsIn_r2) ++ wsX40 ++ wsX10 ++ wsX30 ++ (vx_atS RX4 107 "java/lang/IndexOutOfBoundsException" ["java/lang/RuntimeException", "java/lang/Exception"]).filter goodWord)
def wsX4_makeFile_r1 : List Cond := [Cond.classLink RX4 80 "java/lang/IllegalArgumentException", Cond.initialized "java/lang/IllegalArgumentException", Cond.classLink RX4 57 "java/lang/IllegalStateException", Cond.initialized "java/lang/IllegalStateException", Cond.fieldLink RX4 40 "RoomNumbers" "fileCount" "I", Cond.fieldLink RX4 36 "RoomNumbers" "fileRow" "[LRoomNumbers$HouseFile;", Cond.fieldLink RX4 64 "RoomNumbers$HouseProcess" "room" "LRoomNumbers$Room;", Cond.fieldLink RX4 68 "RoomNumbers$HouseProcess" "number" "I", Cond.classLink RX4 34 RX0, Cond.instantiable RX0 2, Cond.initialized RX0, Cond.methodLink RX4 53 yX4_processAt, Cond.instanceMethod yX4_processAt, Cond.selects RX4 yX4_processAt yX4_processAt, Cond.initialized RX4, Cond.code yX4_processAt cX4_processAt 3 (some (.object "RoomNumbers$HouseProcess")), Cond.classLink RX4 103 "java/lang/IndexOutOfBoundsException", Cond.initialized "java/lang/IndexOutOfBoundsException", Cond.fieldLink RX4 24 "RoomNumbers" "processRow" "[LRoomNumbers$HouseProcess;", Cond.methodLink RX4 144 yX4_seenFrom, Cond.instanceMethod yX4_seenFrom, Cond.selects RX4 yX4_seenFrom yX4_seenFrom, Cond.code yX4_seenFrom cX4_seenFrom 8 (some .int), Cond.fieldLink RX4 14 "RoomNumbers" "roomRow" "[LRoomNumbers$Room;"]
def wsX4_makeFile_r2 : List Cond := [Cond.methodLink RX4 154 yX4_isOrIsInside, Cond.static yX4_isOrIsInside, Cond.code yX4_isOrIsInside cX4_isOrIsInside 3 (some .boolean), Cond.fieldLink RX4 100 "RoomNumbers$Room" "outer" "LRoomNumbers$Room;", Cond.methodLink RX4 185 yX3_fromOuter, Cond.instanceMethod yX3_fromOuter, Cond.selects RX3 yX3_fromOuter yX3_fromOuter, Cond.initialized RX3, Cond.code yX3_fromOuter cX3_fromOuter 3 (some .int), Cond.fieldLink RX3 15 "RoomNumbers$Room" "outer" "LRoomNumbers$Room;", Cond.fieldLink RX3 22 "RoomNumbers$Room" "map" "LRoomNumbers$Line;", Cond.fieldLink RX3 34 "RoomNumbers$Line" "outer" "I", Cond.fieldLink RX3 31 "RoomNumbers$Line" "length" "I", Cond.fieldLink RX3 26 "RoomNumbers$Line" "first" "I", Cond.fieldLink RX3 36 "RoomNumbers$Line" "next" "LRoomNumbers$Line;", Cond.methodLink RX4 111 yX4_refuse, Cond.instanceMethod yX4_refuse, Cond.selects RX4 yX4_refuse yX4_refuse, Cond.code yX4_refuse cX4_refuse 2 (some .int), Cond.fieldLink RX4 47 "RoomNumbers" "refusalCount" "I", Cond.fieldLink RX4 50 "RoomNumbers" "latestRefusal" "I", Cond.methodLink RX4 165 yX0_init, Cond.instanceMethod yX0_init, Cond.code yX0_init cX0_init 3 none]
def wsX4_makeFile_r3 : List Cond := [Cond.methodLink RX0 3 objectInit, Cond.instanceMethod objectInit, Cond.code objectInit ⟨#[0xb1]⟩ 1 none, Cond.fieldLink RX0 9 "RoomNumbers$HouseFile" "owner" "I", Cond.fieldLink RX0 15 "RoomNumbers$HouseFile" "mode" "I"]
def wsX4_makeFile : List Cond := .code yX4_makeFile cX4_makeFile 5 (some .int) :: ((wsX4_makeFile_r1 ++ (wsX4_makeFile_r2 ++ wsX4_makeFile_r3)) ++ wsX40 ++ wsX10 ++ wsX00 ++ wsX30 ++ wsX20 ++ (vx_atS RX4 84 "java/lang/IllegalArgumentException" ["java/lang/RuntimeException", "java/lang/Exception"]).filter goodWord ++ (vx_atS RX4 61 "java/lang/IllegalStateException" ["java/lang/RuntimeException", "java/lang/Exception"]).filter goodWord ++ (vx_atS RX4 107 "java/lang/IndexOutOfBoundsException" ["java/lang/RuntimeException", "java/lang/Exception"]).filter goodWord)
def wsX4_fileAt : List Cond := .code yX4_fileAt cX4_fileAt 3 (some (.object "RoomNumbers$HouseFile")) :: ([.classLink RX4 103 "java/lang/IndexOutOfBoundsException", .initialized "java/lang/IndexOutOfBoundsException", .fieldLink RX4 36 "RoomNumbers" "fileRow" "[LRoomNumbers$HouseFile;"] ++ wsX40 ++ (vx_atS RX4 107 "java/lang/IndexOutOfBoundsException" ["java/lang/RuntimeException", "java/lang/Exception"]).filter goodWord)
def wsX4_handOver_r1 : List Cond := [Cond.fieldLink RX4 64 "RoomNumbers$HouseProcess" "room" "LRoomNumbers$Room;", Cond.fieldLink RX4 172 "RoomNumbers$HouseFile" "owner" "I", Cond.methodLink RX4 53 yX4_processAt, Cond.instanceMethod yX4_processAt, Cond.selects RX4 yX4_processAt yX4_processAt, Cond.initialized RX4, Cond.code yX4_processAt cX4_processAt 3 (some (.object "RoomNumbers$HouseProcess")), Cond.classLink RX4 103 "java/lang/IndexOutOfBoundsException", Cond.initialized "java/lang/IndexOutOfBoundsException", Cond.fieldLink RX4 24 "RoomNumbers" "processRow" "[LRoomNumbers$HouseProcess;", Cond.methodLink RX4 168 yX4_fileAt, Cond.instanceMethod yX4_fileAt, Cond.selects RX4 yX4_fileAt yX4_fileAt, Cond.code yX4_fileAt cX4_fileAt 3 (some (.object "RoomNumbers$HouseFile")), Cond.fieldLink RX4 36 "RoomNumbers" "fileRow" "[LRoomNumbers$HouseFile;", Cond.methodLink RX4 76 yX4_requireNumber, Cond.static yX4_requireNumber, Cond.code yX4_requireNumber cX4_requireNumber 1 none, Cond.classLink RX4 80 "java/lang/IllegalArgumentException", Cond.initialized "java/lang/IllegalArgumentException", Cond.methodLink RX4 132 yX4_leadOut, Cond.static yX4_leadOut, Cond.code yX4_leadOut cX4_leadOut 4 (some .int), Cond.fieldLink RX4 100 "RoomNumbers$Room" "outer" "LRoomNumbers$Room;"]
def wsX4_handOver_r2 : List Cond := [Cond.methodLink RX4 197 yX3_toOuter, Cond.instanceMethod yX3_toOuter, Cond.selects RX3 yX3_toOuter yX3_toOuter, Cond.initialized RX3, Cond.code yX3_toOuter cX3_toOuter 3 (some .int), Cond.fieldLink RX3 15 "RoomNumbers$Room" "outer" "LRoomNumbers$Room;", Cond.fieldLink RX3 22 "RoomNumbers$Room" "map" "LRoomNumbers$Line;", Cond.fieldLink RX3 26 "RoomNumbers$Line" "first" "I", Cond.fieldLink RX3 31 "RoomNumbers$Line" "length" "I", Cond.fieldLink RX3 34 "RoomNumbers$Line" "outer" "I", Cond.fieldLink RX3 36 "RoomNumbers$Line" "next" "LRoomNumbers$Line;", Cond.methodLink RX4 144 yX4_seenFrom, Cond.instanceMethod yX4_seenFrom, Cond.selects RX4 yX4_seenFrom yX4_seenFrom, Cond.code yX4_seenFrom cX4_seenFrom 8 (some .int), Cond.fieldLink RX4 14 "RoomNumbers" "roomRow" "[LRoomNumbers$Room;", Cond.methodLink RX4 154 yX4_isOrIsInside, Cond.static yX4_isOrIsInside, Cond.code yX4_isOrIsInside cX4_isOrIsInside 3 (some .boolean), Cond.methodLink RX4 185 yX3_fromOuter, Cond.instanceMethod yX3_fromOuter, Cond.selects RX3 yX3_fromOuter yX3_fromOuter, Cond.code yX3_fromOuter cX3_fromOuter 3 (some .int), Cond.methodLink RX4 111 yX4_refuse]
def wsX4_handOver_r3 : List Cond := [Cond.instanceMethod yX4_refuse, Cond.selects RX4 yX4_refuse yX4_refuse, Cond.code yX4_refuse cX4_refuse 2 (some .int), Cond.fieldLink RX4 47 "RoomNumbers" "refusalCount" "I", Cond.fieldLink RX4 50 "RoomNumbers" "latestRefusal" "I", Cond.methodLink RX4 136 yX1_hasRight, Cond.instanceMethod yX1_hasRight, Cond.selects RX1 yX1_hasRight yX1_hasRight, Cond.initialized RX1, Cond.code yX1_hasRight cX1_hasRight 3 (some .boolean), Cond.methodLink RX1 30 yX1_rightsHeldIn, Cond.instanceMethod yX1_rightsHeldIn, Cond.selects RX1 yX1_rightsHeldIn yX1_rightsHeldIn, Cond.code yX1_rightsHeldIn cX1_rightsHeldIn 2 (some .int), Cond.fieldLink RX1 9 "RoomNumbers$HouseProcess" "room" "LRoomNumbers$Room;", Cond.fieldLink RX1 19 "RoomNumbers$HouseProcess" "rights" "I", Cond.methodLink RX1 22 yX1_ownsRoomAround, Cond.instanceMethod yX1_ownsRoomAround, Cond.selects RX1 yX1_ownsRoomAround yX1_ownsRoomAround, Cond.code yX1_ownsRoomAround cX1_ownsRoomAround 3 (some .boolean), Cond.fieldLink RX1 34 "RoomNumbers$Room" "outer" "LRoomNumbers$Room;", Cond.fieldLink RX1 39 "RoomNumbers$Room" "owner" "I", Cond.fieldLink RX1 15 "RoomNumbers$HouseProcess" "number" "I"]
def wsX4_handOver : List Cond := .code yX4_handOver cX4_handOver 7 (some .int) :: ((wsX4_handOver_r1 ++ (wsX4_handOver_r2 ++ wsX4_handOver_r3)) ++ wsX10 ++ wsX00 ++ wsX40 ++ wsX30 ++ wsX20 ++ (vx_atS RX4 107 "java/lang/IndexOutOfBoundsException" ["java/lang/RuntimeException", "java/lang/Exception"]).filter goodWord ++ (vx_atS RX4 84 "java/lang/IllegalArgumentException" ["java/lang/RuntimeException", "java/lang/Exception"]).filter goodWord)
def wsX4_open_r1 : List Cond := [Cond.fieldLink RX4 68 "RoomNumbers$HouseProcess" "number" "I", Cond.fieldLink RX4 64 "RoomNumbers$HouseProcess" "room" "LRoomNumbers$Room;", Cond.fieldLink RX4 172 "RoomNumbers$HouseFile" "owner" "I", Cond.methodLink RX4 53 yX4_processAt, Cond.instanceMethod yX4_processAt, Cond.selects RX4 yX4_processAt yX4_processAt, Cond.initialized RX4, Cond.code yX4_processAt cX4_processAt 3 (some (.object "RoomNumbers$HouseProcess")), Cond.classLink RX4 103 "java/lang/IndexOutOfBoundsException", Cond.initialized "java/lang/IndexOutOfBoundsException", Cond.fieldLink RX4 24 "RoomNumbers" "processRow" "[LRoomNumbers$HouseProcess;", Cond.methodLink RX4 168 yX4_fileAt, Cond.instanceMethod yX4_fileAt, Cond.selects RX4 yX4_fileAt yX4_fileAt, Cond.code yX4_fileAt cX4_fileAt 3 (some (.object "RoomNumbers$HouseFile")), Cond.fieldLink RX4 36 "RoomNumbers" "fileRow" "[LRoomNumbers$HouseFile;", Cond.methodLink RX4 173 yX0_allows, Cond.instanceMethod yX0_allows, Cond.selects RX0 yX0_allows yX0_allows, Cond.initialized RX0, Cond.code yX0_allows cX0_allows 5 (some .boolean), Cond.fieldLink RX0 15 "RoomNumbers$HouseFile" "mode" "I", Cond.fieldLink RX0 9 "RoomNumbers$HouseFile" "owner" "I", Cond.methodLink RX4 136 yX1_hasRight]
def wsX4_open_r2 : List Cond := [Cond.instanceMethod yX1_hasRight, Cond.selects RX1 yX1_hasRight yX1_hasRight, Cond.initialized RX1, Cond.code yX1_hasRight cX1_hasRight 3 (some .boolean), Cond.methodLink RX1 30 yX1_rightsHeldIn, Cond.instanceMethod yX1_rightsHeldIn, Cond.selects RX1 yX1_rightsHeldIn yX1_rightsHeldIn, Cond.code yX1_rightsHeldIn cX1_rightsHeldIn 2 (some .int), Cond.fieldLink RX1 9 "RoomNumbers$HouseProcess" "room" "LRoomNumbers$Room;", Cond.fieldLink RX1 19 "RoomNumbers$HouseProcess" "rights" "I", Cond.methodLink RX1 22 yX1_ownsRoomAround, Cond.instanceMethod yX1_ownsRoomAround, Cond.selects RX1 yX1_ownsRoomAround yX1_ownsRoomAround, Cond.code yX1_ownsRoomAround cX1_ownsRoomAround 3 (some .boolean), Cond.fieldLink RX1 34 "RoomNumbers$Room" "outer" "LRoomNumbers$Room;", Cond.fieldLink RX1 39 "RoomNumbers$Room" "owner" "I", Cond.fieldLink RX1 15 "RoomNumbers$HouseProcess" "number" "I", Cond.static yX4_isOrIsInside, Cond.code yX4_isOrIsInside cX4_isOrIsInside 3 (some .boolean), Cond.fieldLink RX4 100 "RoomNumbers$Room" "outer" "LRoomNumbers$Room;", Cond.methodLink RX4 111 yX4_refuse, Cond.instanceMethod yX4_refuse, Cond.selects RX4 yX4_refuse yX4_refuse, Cond.code yX4_refuse cX4_refuse 2 (some .int)]
def wsX4_open_r3 : List Cond := [Cond.fieldLink RX4 47 "RoomNumbers" "refusalCount" "I", Cond.fieldLink RX4 50 "RoomNumbers" "latestRefusal" "I", Cond.methodLink RX4 144 yX4_seenFrom, Cond.instanceMethod yX4_seenFrom, Cond.selects RX4 yX4_seenFrom yX4_seenFrom, Cond.code yX4_seenFrom cX4_seenFrom 8 (some .int), Cond.fieldLink RX4 14 "RoomNumbers" "roomRow" "[LRoomNumbers$Room;", Cond.methodLink RX4 154 yX4_isOrIsInside, Cond.methodLink RX4 185 yX3_fromOuter, Cond.instanceMethod yX3_fromOuter, Cond.selects RX3 yX3_fromOuter yX3_fromOuter, Cond.initialized RX3, Cond.code yX3_fromOuter cX3_fromOuter 3 (some .int), Cond.fieldLink RX3 15 "RoomNumbers$Room" "outer" "LRoomNumbers$Room;", Cond.fieldLink RX3 22 "RoomNumbers$Room" "map" "LRoomNumbers$Line;", Cond.fieldLink RX3 34 "RoomNumbers$Line" "outer" "I", Cond.fieldLink RX3 31 "RoomNumbers$Line" "length" "I", Cond.fieldLink RX3 26 "RoomNumbers$Line" "first" "I", Cond.fieldLink RX3 36 "RoomNumbers$Line" "next" "LRoomNumbers$Line;"]
def wsX4_open : List Cond := .code yX4_open cX4_open 6 (some .int) :: ((wsX4_open_r1 ++ (wsX4_open_r2 ++ wsX4_open_r3)) ++ wsX10 ++ wsX00 ++ wsX40 ++ wsX30 ++ wsX20 ++ (vx_atS RX4 107 "java/lang/IndexOutOfBoundsException" ["java/lang/RuntimeException", "java/lang/Exception"]).filter goodWord)
def wsX4_ownerSeenBy_r1 : List Cond := [Cond.fieldLink RX4 64 "RoomNumbers$HouseProcess" "room" "LRoomNumbers$Room;", Cond.fieldLink RX4 172 "RoomNumbers$HouseFile" "owner" "I", Cond.methodLink RX4 53 yX4_processAt, Cond.instanceMethod yX4_processAt, Cond.selects RX4 yX4_processAt yX4_processAt, Cond.initialized RX4, Cond.code yX4_processAt cX4_processAt 3 (some (.object "RoomNumbers$HouseProcess")), Cond.classLink RX4 103 "java/lang/IndexOutOfBoundsException", Cond.initialized "java/lang/IndexOutOfBoundsException", Cond.fieldLink RX4 24 "RoomNumbers" "processRow" "[LRoomNumbers$HouseProcess;", Cond.methodLink RX4 168 yX4_fileAt, Cond.instanceMethod yX4_fileAt, Cond.selects RX4 yX4_fileAt yX4_fileAt, Cond.code yX4_fileAt cX4_fileAt 3 (some (.object "RoomNumbers$HouseFile")), Cond.fieldLink RX4 36 "RoomNumbers" "fileRow" "[LRoomNumbers$HouseFile;", Cond.methodLink RX4 144 yX4_seenFrom, Cond.instanceMethod yX4_seenFrom, Cond.selects RX4 yX4_seenFrom yX4_seenFrom, Cond.code yX4_seenFrom cX4_seenFrom 8 (some .int), Cond.fieldLink RX4 14 "RoomNumbers" "roomRow" "[LRoomNumbers$Room;", Cond.methodLink RX4 154 yX4_isOrIsInside, Cond.static yX4_isOrIsInside, Cond.code yX4_isOrIsInside cX4_isOrIsInside 3 (some .boolean), Cond.fieldLink RX4 100 "RoomNumbers$Room" "outer" "LRoomNumbers$Room;"]
def wsX4_ownerSeenBy_r2 : List Cond := [Cond.methodLink RX4 185 yX3_fromOuter, Cond.instanceMethod yX3_fromOuter, Cond.selects RX3 yX3_fromOuter yX3_fromOuter, Cond.initialized RX3, Cond.code yX3_fromOuter cX3_fromOuter 3 (some .int), Cond.fieldLink RX3 15 "RoomNumbers$Room" "outer" "LRoomNumbers$Room;", Cond.fieldLink RX3 22 "RoomNumbers$Room" "map" "LRoomNumbers$Line;", Cond.fieldLink RX3 34 "RoomNumbers$Line" "outer" "I", Cond.fieldLink RX3 31 "RoomNumbers$Line" "length" "I", Cond.fieldLink RX3 26 "RoomNumbers$Line" "first" "I", Cond.fieldLink RX3 36 "RoomNumbers$Line" "next" "LRoomNumbers$Line;"]
def wsX4_ownerSeenBy : List Cond := .code yX4_ownerSeenBy cX4_ownerSeenBy 4 (some .int) :: ((wsX4_ownerSeenBy_r1 ++ wsX4_ownerSeenBy_r2) ++ wsX10 ++ wsX00 ++ wsX40 ++ wsX30 ++ wsX20 ++ (vx_atS RX4 107 "java/lang/IndexOutOfBoundsException" ["java/lang/RuntimeException", "java/lang/Exception"]).filter goodWord)
def wsX4_files : List Cond := .code yX4_files cX4_files 1 (some .int) :: ([.fieldLink RX4 40 "RoomNumbers" "fileCount" "I"] ++ wsX40)
def wsX4_refusals : List Cond := .code yX4_refusals cX4_refusals 1 (some .int) :: ([.fieldLink RX4 47 "RoomNumbers" "refusalCount" "I"] ++ wsX40)
def wsX4_lastRefusal : List Cond := .code yX4_lastRefusal cX4_lastRefusal 1 (some .int) :: ([.fieldLink RX4 50 "RoomNumbers" "latestRefusal" "I"] ++ wsX40)
def wsX5_init : List Cond := .code yX5_init cX5_init 1 none :: ([.methodLink RX5 1 objectInit, .instanceMethod objectInit, .code objectInit ⟨#[0xb1]⟩ 1 none, .fieldLink RX5 7 "RoomNumbersModel" "rooms" "I", .arrayClass .int, .fieldLink RX5 13 "RoomNumbersModel" "outers" "[I", .fieldLink RX5 17 "RoomNumbersModel" "owners" "[I", .fieldLink RX5 20 "RoomNumbersModel" "lines" "[I", .fieldLink RX5 23 "RoomNumbersModel" "firsts" "[I", .fieldLink RX5 26 "RoomNumbersModel" "outerFirsts" "[I", .fieldLink RX5 29 "RoomNumbersModel" "lengths" "[I", .fieldLink RX5 32 "RoomNumbersModel" "processes" "I", .fieldLink RX5 35 "RoomNumbersModel" "places" "[I", .fieldLink RX5 38 "RoomNumbersModel" "numbers" "[I", .fieldLink RX5 41 "RoomNumbersModel" "rights" "[I", .fieldLink RX5 44 "RoomNumbersModel" "fileOwners" "[I", .fieldLink RX5 47 "RoomNumbersModel" "modes" "[I"] ++ wsX50)
def wsX5_thrown : List Cond := .code yX5_thrown cX5_thrown 1 (some .int) :: ([.fieldLink RX5 50 "RoomNumbersModel" "refusal" "I"] ++ wsX50)
def wsX5_refused : List Cond := .code yX5_refused cX5_refused 2 (some .boolean) :: ([.fieldLink RX5 50 "RoomNumbersModel" "refusal" "I"] ++ wsX50)
def wsX5_fine : List Cond := .code yX5_fine cX5_fine 2 (some .int) :: ([.fieldLink RX5 50 "RoomNumbersModel" "refusal" "I"] ++ wsX50)
def wsX5_told : List Cond := .code yX5_told cX5_told 2 (some .int) :: ([.fieldLink RX5 53 "RoomNumbersModel" "refusals" "I", .fieldLink RX5 56 "RoomNumbersModel" "last" "I"] ++ wsX50)
def wsX5_in : List Cond := .code yX5_in cX5_in 3 (some .boolean) :: ([])
def wsX5_isRoom : List Cond := .code yX5_isRoom cX5_isRoom 2 (some .boolean) :: ([.fieldLink RX5 7 "RoomNumbersModel" "rooms" "I", .methodLink RX5 59 yX5_in, .static yX5_in, .initialized RX5, .code yX5_in cX5_in 3 (some .boolean)] ++ wsX50)
def wsX5_isProcess : List Cond := .code yX5_isProcess cX5_isProcess 2 (some .boolean) :: ([.fieldLink RX5 32 "RoomNumbersModel" "processes" "I", .methodLink RX5 59 yX5_in, .static yX5_in, .initialized RX5, .code yX5_in cX5_in 3 (some .boolean)] ++ wsX50)
def wsX5_isFile : List Cond := .code yX5_isFile cX5_isFile 2 (some .boolean) :: ([.fieldLink RX5 63 "RoomNumbersModel" "files" "I", .methodLink RX5 59 yX5_in, .static yX5_in, .initialized RX5, .code yX5_in cX5_in 3 (some .boolean)] ++ wsX50)
def wsX5_isNumber : List Cond := .code yX5_isNumber cX5_isNumber 1 (some .boolean) :: ([.methodLink RX5 59 yX5_in, .static yX5_in, .initialized RX5, .code yX5_in cX5_in 3 (some .boolean)])
def wsX5_makeRoom : List Cond := .code yX5_makeRoom cX5_makeRoom 2 (some .int) :: ([.fieldLink RX5 7 "RoomNumbersModel" "rooms" "I", .fieldLink RX5 13 "RoomNumbersModel" "outers" "[I", .fieldLink RX5 35 "RoomNumbersModel" "places" "[I", .fieldLink RX5 17 "RoomNumbersModel" "owners" "[I", .fieldLink RX5 38 "RoomNumbersModel" "numbers" "[I", .fieldLink RX5 41 "RoomNumbersModel" "rights" "[I", .methodLink RX5 66 yX5_isProcess, .instanceMethod yX5_isProcess, .selects RX5 yX5_isProcess yX5_isProcess, .initialized RX5, .code yX5_isProcess cX5_isProcess 2 (some .boolean), .fieldLink RX5 32 "RoomNumbersModel" "processes" "I", .methodLink RX5 59 yX5_in, .static yX5_in, .code yX5_in cX5_in 3 (some .boolean), .methodLink RX5 70 yX5_refused, .instanceMethod yX5_refused, .selects RX5 yX5_refused yX5_refused, .code yX5_refused cX5_refused 2 (some .boolean), .fieldLink RX5 50 "RoomNumbersModel" "refusal" "I"] ++ wsX50)
def wsX5_line : List Cond := .code yX5_line cX5_line 7 (some .int) :: ([.fieldLink RX5 76 "RoomNumbersModel" "drafted" "I", .fieldLink RX5 23 "RoomNumbersModel" "firsts" "[I", .fieldLink RX5 26 "RoomNumbersModel" "outerFirsts" "[I", .fieldLink RX5 29 "RoomNumbersModel" "lengths" "[I", .methodLink RX5 73 yX5_isNumber, .static yX5_isNumber, .initialized RX5, .code yX5_isNumber cX5_isNumber 1 (some .boolean), .methodLink RX5 59 yX5_in, .static yX5_in, .code yX5_in cX5_in 3 (some .boolean), .methodLink RX5 70 yX5_refused, .instanceMethod yX5_refused, .selects RX5 yX5_refused yX5_refused, .code yX5_refused cX5_refused 2 (some .boolean), .fieldLink RX5 50 "RoomNumbersModel" "refusal" "I"] ++ wsX50)
def wsX5_mapped : List Cond := .code yX5_mapped cX5_mapped 6 (some .int) :: ([.fieldLink RX5 20 "RoomNumbersModel" "lines" "[I", .fieldLink RX5 23 "RoomNumbersModel" "firsts" "[I", .fieldLink RX5 29 "RoomNumbersModel" "lengths" "[I", .fieldLink RX5 26 "RoomNumbersModel" "outerFirsts" "[I", .methodLink RX5 59 yX5_in, .static yX5_in, .initialized RX5, .code yX5_in cX5_in 3 (some .boolean)] ++ wsX50)
def wsX5_led : List Cond := .code yX5_led cX5_led 5 (some .int) :: ([.fieldLink RX5 13 "RoomNumbersModel" "outers" "[I", .methodLink RX5 79 yX5_mapped, .instanceMethod yX5_mapped, .selects RX5 yX5_mapped yX5_mapped, .initialized RX5, .code yX5_mapped cX5_mapped 6 (some .int), .fieldLink RX5 20 "RoomNumbersModel" "lines" "[I", .fieldLink RX5 23 "RoomNumbersModel" "firsts" "[I", .fieldLink RX5 29 "RoomNumbersModel" "lengths" "[I", .fieldLink RX5 26 "RoomNumbersModel" "outerFirsts" "[I", .methodLink RX5 59 yX5_in, .static yX5_in, .code yX5_in cX5_in 3 (some .boolean)] ++ wsX50)
def wsX5_meet : List Cond := .code yX5_meet cX5_meet 4 (some .boolean) :: ([])
def wsX5_isDraftBad : List Cond := .code yX5_isDraftBad cX5_isDraftBad 5 (some .boolean) :: ([.fieldLink RX5 76 "RoomNumbersModel" "drafted" "I", .fieldLink RX5 23 "RoomNumbersModel" "firsts" "[I", .fieldLink RX5 29 "RoomNumbersModel" "lengths" "[I", .fieldLink RX5 26 "RoomNumbersModel" "outerFirsts" "[I", .methodLink RX5 83 yX5_meet, .static yX5_meet, .initialized RX5, .code yX5_meet cX5_meet 4 (some .boolean)] ++ wsX50)
def wsX5_isDraftLost : List Cond := .code yX5_isDraftLost cX5_isDraftLost 6 (some .boolean) :: ([.fieldLink RX5 76 "RoomNumbersModel" "drafted" "I", .fieldLink RX5 26 "RoomNumbersModel" "outerFirsts" "[I", .fieldLink RX5 29 "RoomNumbersModel" "lengths" "[I", .methodLink RX5 87 yX5_led, .instanceMethod yX5_led, .selects RX5 yX5_led yX5_led, .initialized RX5, .code yX5_led cX5_led 5 (some .int), .fieldLink RX5 13 "RoomNumbersModel" "outers" "[I", .methodLink RX5 79 yX5_mapped, .instanceMethod yX5_mapped, .selects RX5 yX5_mapped yX5_mapped, .code yX5_mapped cX5_mapped 6 (some .int), .fieldLink RX5 20 "RoomNumbersModel" "lines" "[I", .fieldLink RX5 23 "RoomNumbersModel" "firsts" "[I", .methodLink RX5 59 yX5_in, .static yX5_in, .code yX5_in cX5_in 3 (some .boolean)] ++ wsX50)
def wsX5_isInside : List Cond := .code yX5_isInside cX5_isInside 4 (some .boolean) :: ([.fieldLink RX5 13 "RoomNumbersModel" "outers" "[I"] ++ wsX50)
def wsX5_held : List Cond := .code yX5_held cX5_held 5 (some .int) :: ([.fieldLink RX5 7 "RoomNumbersModel" "rooms" "I", .fieldLink RX5 17 "RoomNumbersModel" "owners" "[I", .fieldLink RX5 38 "RoomNumbersModel" "numbers" "[I", .fieldLink RX5 13 "RoomNumbersModel" "outers" "[I", .fieldLink RX5 35 "RoomNumbersModel" "places" "[I", .fieldLink RX5 41 "RoomNumbersModel" "rights" "[I", .methodLink RX5 123 yX5_isInside, .instanceMethod yX5_isInside, .selects RX5 yX5_isInside yX5_isInside, .initialized RX5, .code yX5_isInside cX5_isInside 4 (some .boolean)] ++ wsX50)
def wsX5_mayWrite_r1 : List Cond := [Cond.fieldLink RX5 76 "RoomNumbersModel" "drafted" "I", Cond.fieldLink RX5 29 "RoomNumbersModel" "lengths" "[I", Cond.fieldLink RX5 38 "RoomNumbersModel" "numbers" "[I", Cond.fieldLink RX5 17 "RoomNumbersModel" "owners" "[I", Cond.fieldLink RX5 13 "RoomNumbersModel" "outers" "[I", Cond.fieldLink RX5 26 "RoomNumbersModel" "outerFirsts" "[I", Cond.methodLink RX5 87 yX5_led, Cond.instanceMethod yX5_led, Cond.selects RX5 yX5_led yX5_led, Cond.initialized RX5, Cond.code yX5_led cX5_led 5 (some .int), Cond.methodLink RX5 79 yX5_mapped, Cond.instanceMethod yX5_mapped, Cond.selects RX5 yX5_mapped yX5_mapped, Cond.code yX5_mapped cX5_mapped 6 (some .int), Cond.fieldLink RX5 20 "RoomNumbersModel" "lines" "[I", Cond.fieldLink RX5 23 "RoomNumbersModel" "firsts" "[I", Cond.methodLink RX5 59 yX5_in, Cond.static yX5_in, Cond.code yX5_in cX5_in 3 (some .boolean), Cond.methodLink RX5 90 yX5_held, Cond.instanceMethod yX5_held, Cond.selects RX5 yX5_held yX5_held, Cond.code yX5_held cX5_held 5 (some .int)]
def wsX5_mayWrite_r2 : List Cond := [Cond.fieldLink RX5 7 "RoomNumbersModel" "rooms" "I", Cond.fieldLink RX5 35 "RoomNumbersModel" "places" "[I", Cond.fieldLink RX5 41 "RoomNumbersModel" "rights" "[I", Cond.methodLink RX5 123 yX5_isInside, Cond.instanceMethod yX5_isInside, Cond.selects RX5 yX5_isInside yX5_isInside, Cond.code yX5_isInside cX5_isInside 4 (some .boolean)]
def wsX5_mayWrite : List Cond := .code yX5_mayWrite cX5_mayWrite 5 (some .boolean) :: ((wsX5_mayWrite_r1 ++ wsX5_mayWrite_r2) ++ wsX50)
def wsX5_writeMap_r1 : List Cond := [Cond.fieldLink RX5 20 "RoomNumbersModel" "lines" "[I", Cond.fieldLink RX5 13 "RoomNumbersModel" "outers" "[I", Cond.fieldLink RX5 76 "RoomNumbersModel" "drafted" "I", Cond.fieldLink RX5 23 "RoomNumbersModel" "firsts" "[I", Cond.fieldLink RX5 26 "RoomNumbersModel" "outerFirsts" "[I", Cond.fieldLink RX5 29 "RoomNumbersModel" "lengths" "[I", Cond.methodLink RX5 66 yX5_isProcess, Cond.instanceMethod yX5_isProcess, Cond.selects RX5 yX5_isProcess yX5_isProcess, Cond.initialized RX5, Cond.code yX5_isProcess cX5_isProcess 2 (some .boolean), Cond.fieldLink RX5 32 "RoomNumbersModel" "processes" "I", Cond.methodLink RX5 59 yX5_in, Cond.static yX5_in, Cond.code yX5_in cX5_in 3 (some .boolean), Cond.methodLink RX5 93 yX5_isRoom, Cond.instanceMethod yX5_isRoom, Cond.selects RX5 yX5_isRoom yX5_isRoom, Cond.code yX5_isRoom cX5_isRoom 2 (some .boolean), Cond.fieldLink RX5 7 "RoomNumbersModel" "rooms" "I", Cond.methodLink RX5 70 yX5_refused, Cond.instanceMethod yX5_refused, Cond.selects RX5 yX5_refused yX5_refused, Cond.code yX5_refused cX5_refused 2 (some .boolean)]
def wsX5_writeMap_r2 : List Cond := [Cond.fieldLink RX5 50 "RoomNumbersModel" "refusal" "I", Cond.methodLink RX5 96 yX5_isDraftBad, Cond.instanceMethod yX5_isDraftBad, Cond.selects RX5 yX5_isDraftBad yX5_isDraftBad, Cond.code yX5_isDraftBad cX5_isDraftBad 5 (some .boolean), Cond.methodLink RX5 83 yX5_meet, Cond.static yX5_meet, Cond.code yX5_meet cX5_meet 4 (some .boolean), Cond.methodLink RX5 100 yX5_isDraftLost, Cond.instanceMethod yX5_isDraftLost, Cond.selects RX5 yX5_isDraftLost yX5_isDraftLost, Cond.code yX5_isDraftLost cX5_isDraftLost 6 (some .boolean), Cond.methodLink RX5 87 yX5_led, Cond.instanceMethod yX5_led, Cond.selects RX5 yX5_led yX5_led, Cond.code yX5_led cX5_led 5 (some .int), Cond.methodLink RX5 79 yX5_mapped, Cond.instanceMethod yX5_mapped, Cond.selects RX5 yX5_mapped yX5_mapped, Cond.code yX5_mapped cX5_mapped 6 (some .int), Cond.methodLink RX5 103 yX5_mayWrite, Cond.instanceMethod yX5_mayWrite, Cond.selects RX5 yX5_mayWrite yX5_mayWrite, Cond.code yX5_mayWrite cX5_mayWrite 5 (some .boolean)]
def wsX5_writeMap_r3 : List Cond := [Cond.fieldLink RX5 38 "RoomNumbersModel" "numbers" "[I", Cond.fieldLink RX5 17 "RoomNumbersModel" "owners" "[I", Cond.methodLink RX5 90 yX5_held, Cond.instanceMethod yX5_held, Cond.selects RX5 yX5_held yX5_held, Cond.code yX5_held cX5_held 5 (some .int), Cond.fieldLink RX5 35 "RoomNumbersModel" "places" "[I", Cond.fieldLink RX5 41 "RoomNumbersModel" "rights" "[I", Cond.methodLink RX5 123 yX5_isInside, Cond.instanceMethod yX5_isInside, Cond.selects RX5 yX5_isInside yX5_isInside, Cond.code yX5_isInside cX5_isInside 4 (some .boolean), Cond.methodLink RX5 107 yX5_told, Cond.instanceMethod yX5_told, Cond.selects RX5 yX5_told yX5_told, Cond.code yX5_told cX5_told 2 (some .int), Cond.fieldLink RX5 53 "RoomNumbersModel" "refusals" "I", Cond.fieldLink RX5 56 "RoomNumbersModel" "last" "I"]
def wsX5_writeMap : List Cond := .code yX5_writeMap cX5_writeMap 7 (some .int) :: ((wsX5_writeMap_r1 ++ (wsX5_writeMap_r2 ++ wsX5_writeMap_r3)) ++ wsX50)
def wsX5_rooms : List Cond := .code yX5_rooms cX5_rooms 1 (some .int) :: ([.fieldLink RX5 7 "RoomNumbersModel" "rooms" "I", .methodLink RX5 111 yX5_fine, .instanceMethod yX5_fine, .selects RX5 yX5_fine yX5_fine, .initialized RX5, .code yX5_fine cX5_fine 2 (some .int), .fieldLink RX5 50 "RoomNumbersModel" "refusal" "I"] ++ wsX50)
def wsX5_outerOf : List Cond := .code yX5_outerOf cX5_outerOf 2 (some .int) :: ([.fieldLink RX5 13 "RoomNumbersModel" "outers" "[I", .methodLink RX5 93 yX5_isRoom, .instanceMethod yX5_isRoom, .selects RX5 yX5_isRoom yX5_isRoom, .initialized RX5, .code yX5_isRoom cX5_isRoom 2 (some .boolean), .fieldLink RX5 7 "RoomNumbersModel" "rooms" "I", .methodLink RX5 59 yX5_in, .static yX5_in, .code yX5_in cX5_in 3 (some .boolean), .methodLink RX5 70 yX5_refused, .instanceMethod yX5_refused, .selects RX5 yX5_refused yX5_refused, .code yX5_refused cX5_refused 2 (some .boolean), .fieldLink RX5 50 "RoomNumbersModel" "refusal" "I"] ++ wsX50)
def wsX5_noNumber : List Cond := .code yX5_noNumber cX5_noNumber 3 (some .boolean) :: ([.methodLink RX5 93 yX5_isRoom, .instanceMethod yX5_isRoom, .selects RX5 yX5_isRoom yX5_isRoom, .initialized RX5, .code yX5_isRoom cX5_isRoom 2 (some .boolean), .fieldLink RX5 7 "RoomNumbersModel" "rooms" "I", .methodLink RX5 59 yX5_in, .static yX5_in, .code yX5_in cX5_in 3 (some .boolean), .methodLink RX5 73 yX5_isNumber, .static yX5_isNumber, .code yX5_isNumber cX5_isNumber 1 (some .boolean), .methodLink RX5 70 yX5_refused, .instanceMethod yX5_refused, .selects RX5 yX5_refused yX5_refused, .code yX5_refused cX5_refused 2 (some .boolean), .fieldLink RX5 50 "RoomNumbersModel" "refusal" "I"] ++ wsX50)
def wsX5_leadsTo_r1 : List Cond := [Cond.methodLink RX5 114 yX5_noNumber, Cond.instanceMethod yX5_noNumber, Cond.selects RX5 yX5_noNumber yX5_noNumber, Cond.initialized RX5, Cond.code yX5_noNumber cX5_noNumber 3 (some .boolean), Cond.methodLink RX5 93 yX5_isRoom, Cond.instanceMethod yX5_isRoom, Cond.selects RX5 yX5_isRoom yX5_isRoom, Cond.code yX5_isRoom cX5_isRoom 2 (some .boolean), Cond.fieldLink RX5 7 "RoomNumbersModel" "rooms" "I", Cond.methodLink RX5 59 yX5_in, Cond.static yX5_in, Cond.code yX5_in cX5_in 3 (some .boolean), Cond.methodLink RX5 73 yX5_isNumber, Cond.static yX5_isNumber, Cond.code yX5_isNumber cX5_isNumber 1 (some .boolean), Cond.methodLink RX5 70 yX5_refused, Cond.instanceMethod yX5_refused, Cond.selects RX5 yX5_refused yX5_refused, Cond.code yX5_refused cX5_refused 2 (some .boolean), Cond.fieldLink RX5 50 "RoomNumbersModel" "refusal" "I", Cond.methodLink RX5 87 yX5_led, Cond.instanceMethod yX5_led, Cond.selects RX5 yX5_led yX5_led]
def wsX5_leadsTo_r2 : List Cond := [Cond.code yX5_led cX5_led 5 (some .int), Cond.fieldLink RX5 13 "RoomNumbersModel" "outers" "[I", Cond.methodLink RX5 79 yX5_mapped, Cond.instanceMethod yX5_mapped, Cond.selects RX5 yX5_mapped yX5_mapped, Cond.code yX5_mapped cX5_mapped 6 (some .int), Cond.fieldLink RX5 20 "RoomNumbersModel" "lines" "[I", Cond.fieldLink RX5 23 "RoomNumbersModel" "firsts" "[I", Cond.fieldLink RX5 29 "RoomNumbersModel" "lengths" "[I", Cond.fieldLink RX5 26 "RoomNumbersModel" "outerFirsts" "[I"]
def wsX5_leadsTo : List Cond := .code yX5_leadsTo cX5_leadsTo 3 (some .int) :: ((wsX5_leadsTo_r1 ++ wsX5_leadsTo_r2) ++ wsX50)
def wsX5_seen : List Cond := .code yX5_seen cX5_seen 5 (some .int) :: ([.methodLink RX5 87 yX5_led, .instanceMethod yX5_led, .selects RX5 yX5_led yX5_led, .initialized RX5, .code yX5_led cX5_led 5 (some .int), .fieldLink RX5 13 "RoomNumbersModel" "outers" "[I", .methodLink RX5 79 yX5_mapped, .instanceMethod yX5_mapped, .selects RX5 yX5_mapped yX5_mapped, .code yX5_mapped cX5_mapped 6 (some .int), .fieldLink RX5 20 "RoomNumbersModel" "lines" "[I", .fieldLink RX5 23 "RoomNumbersModel" "firsts" "[I", .fieldLink RX5 29 "RoomNumbersModel" "lengths" "[I", .fieldLink RX5 26 "RoomNumbersModel" "outerFirsts" "[I", .methodLink RX5 59 yX5_in, .static yX5_in, .code yX5_in cX5_in 3 (some .boolean)] ++ wsX50)
def wsX5_seenAs_r1 : List Cond := [Cond.methodLink RX5 114 yX5_noNumber, Cond.instanceMethod yX5_noNumber, Cond.selects RX5 yX5_noNumber yX5_noNumber, Cond.initialized RX5, Cond.code yX5_noNumber cX5_noNumber 3 (some .boolean), Cond.methodLink RX5 93 yX5_isRoom, Cond.instanceMethod yX5_isRoom, Cond.selects RX5 yX5_isRoom yX5_isRoom, Cond.code yX5_isRoom cX5_isRoom 2 (some .boolean), Cond.fieldLink RX5 7 "RoomNumbersModel" "rooms" "I", Cond.methodLink RX5 59 yX5_in, Cond.static yX5_in, Cond.code yX5_in cX5_in 3 (some .boolean), Cond.methodLink RX5 73 yX5_isNumber, Cond.static yX5_isNumber, Cond.code yX5_isNumber cX5_isNumber 1 (some .boolean), Cond.methodLink RX5 70 yX5_refused, Cond.instanceMethod yX5_refused, Cond.selects RX5 yX5_refused yX5_refused, Cond.code yX5_refused cX5_refused 2 (some .boolean), Cond.fieldLink RX5 50 "RoomNumbersModel" "refusal" "I", Cond.methodLink RX5 117 yX5_seen, Cond.instanceMethod yX5_seen, Cond.selects RX5 yX5_seen yX5_seen]
def wsX5_seenAs_r2 : List Cond := [Cond.code yX5_seen cX5_seen 5 (some .int), Cond.methodLink RX5 87 yX5_led, Cond.instanceMethod yX5_led, Cond.selects RX5 yX5_led yX5_led, Cond.code yX5_led cX5_led 5 (some .int), Cond.fieldLink RX5 13 "RoomNumbersModel" "outers" "[I", Cond.methodLink RX5 79 yX5_mapped, Cond.instanceMethod yX5_mapped, Cond.selects RX5 yX5_mapped yX5_mapped, Cond.code yX5_mapped cX5_mapped 6 (some .int), Cond.fieldLink RX5 20 "RoomNumbersModel" "lines" "[I", Cond.fieldLink RX5 23 "RoomNumbersModel" "firsts" "[I", Cond.fieldLink RX5 29 "RoomNumbersModel" "lengths" "[I", Cond.fieldLink RX5 26 "RoomNumbersModel" "outerFirsts" "[I"]
def wsX5_seenAs : List Cond := .code yX5_seenAs cX5_seenAs 3 (some .int) :: ((wsX5_seenAs_r1 ++ wsX5_seenAs_r2) ++ wsX50)
def wsX5_seenByLeading_r1 : List Cond := [Cond.methodLink RX5 120 yX5_seenAs, Cond.instanceMethod yX5_seenAs, Cond.selects RX5 yX5_seenAs yX5_seenAs, Cond.initialized RX5, Cond.code yX5_seenAs cX5_seenAs 3 (some .int), Cond.methodLink RX5 114 yX5_noNumber, Cond.instanceMethod yX5_noNumber, Cond.selects RX5 yX5_noNumber yX5_noNumber, Cond.code yX5_noNumber cX5_noNumber 3 (some .boolean), Cond.methodLink RX5 93 yX5_isRoom, Cond.instanceMethod yX5_isRoom, Cond.selects RX5 yX5_isRoom yX5_isRoom, Cond.code yX5_isRoom cX5_isRoom 2 (some .boolean), Cond.fieldLink RX5 7 "RoomNumbersModel" "rooms" "I", Cond.methodLink RX5 59 yX5_in, Cond.static yX5_in, Cond.code yX5_in cX5_in 3 (some .boolean), Cond.methodLink RX5 73 yX5_isNumber, Cond.static yX5_isNumber, Cond.code yX5_isNumber cX5_isNumber 1 (some .boolean), Cond.methodLink RX5 70 yX5_refused, Cond.instanceMethod yX5_refused, Cond.selects RX5 yX5_refused yX5_refused, Cond.code yX5_refused cX5_refused 2 (some .boolean)]
def wsX5_seenByLeading_r2 : List Cond := [Cond.fieldLink RX5 50 "RoomNumbersModel" "refusal" "I", Cond.methodLink RX5 117 yX5_seen, Cond.instanceMethod yX5_seen, Cond.selects RX5 yX5_seen yX5_seen, Cond.code yX5_seen cX5_seen 5 (some .int), Cond.methodLink RX5 87 yX5_led, Cond.instanceMethod yX5_led, Cond.selects RX5 yX5_led yX5_led, Cond.code yX5_led cX5_led 5 (some .int), Cond.fieldLink RX5 13 "RoomNumbersModel" "outers" "[I", Cond.methodLink RX5 79 yX5_mapped, Cond.instanceMethod yX5_mapped, Cond.selects RX5 yX5_mapped yX5_mapped, Cond.code yX5_mapped cX5_mapped 6 (some .int), Cond.fieldLink RX5 20 "RoomNumbersModel" "lines" "[I", Cond.fieldLink RX5 23 "RoomNumbersModel" "firsts" "[I", Cond.fieldLink RX5 29 "RoomNumbersModel" "lengths" "[I", Cond.fieldLink RX5 26 "RoomNumbersModel" "outerFirsts" "[I"]
def wsX5_seenByLeading : List Cond := .code yX5_seenByLeading cX5_seenByLeading 3 (some .int) :: ((wsX5_seenByLeading_r1 ++ wsX5_seenByLeading_r2) ++ wsX50)
def wsX5_fork : List Cond := .code yX5_fork cX5_fork 2 (some .int) :: ([.fieldLink RX5 32 "RoomNumbersModel" "processes" "I", .fieldLink RX5 35 "RoomNumbersModel" "places" "[I", .fieldLink RX5 38 "RoomNumbersModel" "numbers" "[I", .fieldLink RX5 41 "RoomNumbersModel" "rights" "[I", .methodLink RX5 66 yX5_isProcess, .instanceMethod yX5_isProcess, .selects RX5 yX5_isProcess yX5_isProcess, .initialized RX5, .code yX5_isProcess cX5_isProcess 2 (some .boolean), .methodLink RX5 59 yX5_in, .static yX5_in, .code yX5_in cX5_in 3 (some .boolean), .methodLink RX5 70 yX5_refused, .instanceMethod yX5_refused, .selects RX5 yX5_refused yX5_refused, .code yX5_refused cX5_refused 2 (some .boolean), .fieldLink RX5 50 "RoomNumbersModel" "refusal" "I"] ++ wsX50)
def wsX5_drop : List Cond := .code yX5_drop cX5_drop 3 (some .int) :: ([.fieldLink RX5 41 "RoomNumbersModel" "rights" "[I", .methodLink RX5 66 yX5_isProcess, .instanceMethod yX5_isProcess, .selects RX5 yX5_isProcess yX5_isProcess, .initialized RX5, .code yX5_isProcess cX5_isProcess 2 (some .boolean), .fieldLink RX5 32 "RoomNumbersModel" "processes" "I", .methodLink RX5 59 yX5_in, .static yX5_in, .code yX5_in cX5_in 3 (some .boolean), .methodLink RX5 70 yX5_refused, .instanceMethod yX5_refused, .selects RX5 yX5_refused yX5_refused, .code yX5_refused cX5_refused 2 (some .boolean), .fieldLink RX5 50 "RoomNumbersModel" "refusal" "I"] ++ wsX50)
def wsX5_enter_r1 : List Cond := [Cond.fieldLink RX5 35 "RoomNumbersModel" "places" "[I", Cond.fieldLink RX5 41 "RoomNumbersModel" "rights" "[I", Cond.methodLink RX5 66 yX5_isProcess, Cond.instanceMethod yX5_isProcess, Cond.selects RX5 yX5_isProcess yX5_isProcess, Cond.initialized RX5, Cond.code yX5_isProcess cX5_isProcess 2 (some .boolean), Cond.fieldLink RX5 32 "RoomNumbersModel" "processes" "I", Cond.methodLink RX5 59 yX5_in, Cond.static yX5_in, Cond.code yX5_in cX5_in 3 (some .boolean), Cond.methodLink RX5 93 yX5_isRoom, Cond.instanceMethod yX5_isRoom, Cond.selects RX5 yX5_isRoom yX5_isRoom, Cond.code yX5_isRoom cX5_isRoom 2 (some .boolean), Cond.fieldLink RX5 7 "RoomNumbersModel" "rooms" "I", Cond.methodLink RX5 70 yX5_refused, Cond.instanceMethod yX5_refused, Cond.selects RX5 yX5_refused yX5_refused, Cond.code yX5_refused cX5_refused 2 (some .boolean), Cond.fieldLink RX5 50 "RoomNumbersModel" "refusal" "I", Cond.methodLink RX5 123 yX5_isInside, Cond.instanceMethod yX5_isInside, Cond.selects RX5 yX5_isInside yX5_isInside]
def wsX5_enter_r2 : List Cond := [Cond.code yX5_isInside cX5_isInside 4 (some .boolean), Cond.fieldLink RX5 13 "RoomNumbersModel" "outers" "[I", Cond.methodLink RX5 90 yX5_held, Cond.instanceMethod yX5_held, Cond.selects RX5 yX5_held yX5_held, Cond.code yX5_held cX5_held 5 (some .int), Cond.fieldLink RX5 17 "RoomNumbersModel" "owners" "[I", Cond.fieldLink RX5 38 "RoomNumbersModel" "numbers" "[I", Cond.methodLink RX5 107 yX5_told, Cond.instanceMethod yX5_told, Cond.selects RX5 yX5_told yX5_told, Cond.code yX5_told cX5_told 2 (some .int), Cond.fieldLink RX5 53 "RoomNumbersModel" "refusals" "I", Cond.fieldLink RX5 56 "RoomNumbersModel" "last" "I"]
def wsX5_enter : List Cond := .code yX5_enter cX5_enter 4 (some .int) :: ((wsX5_enter_r1 ++ wsX5_enter_r2) ++ wsX50)
def wsX5_setNumber_r1 : List Cond := [Cond.fieldLink RX5 35 "RoomNumbersModel" "places" "[I", Cond.fieldLink RX5 38 "RoomNumbersModel" "numbers" "[I", Cond.fieldLink RX5 41 "RoomNumbersModel" "rights" "[I", Cond.methodLink RX5 66 yX5_isProcess, Cond.instanceMethod yX5_isProcess, Cond.selects RX5 yX5_isProcess yX5_isProcess, Cond.initialized RX5, Cond.code yX5_isProcess cX5_isProcess 2 (some .boolean), Cond.fieldLink RX5 32 "RoomNumbersModel" "processes" "I", Cond.methodLink RX5 59 yX5_in, Cond.static yX5_in, Cond.code yX5_in cX5_in 3 (some .boolean), Cond.methodLink RX5 73 yX5_isNumber, Cond.static yX5_isNumber, Cond.code yX5_isNumber cX5_isNumber 1 (some .boolean), Cond.methodLink RX5 70 yX5_refused, Cond.instanceMethod yX5_refused, Cond.selects RX5 yX5_refused yX5_refused, Cond.code yX5_refused cX5_refused 2 (some .boolean), Cond.fieldLink RX5 50 "RoomNumbersModel" "refusal" "I", Cond.methodLink RX5 87 yX5_led, Cond.instanceMethod yX5_led, Cond.selects RX5 yX5_led yX5_led, Cond.code yX5_led cX5_led 5 (some .int)]
def wsX5_setNumber_r2 : List Cond := [Cond.fieldLink RX5 13 "RoomNumbersModel" "outers" "[I", Cond.methodLink RX5 79 yX5_mapped, Cond.instanceMethod yX5_mapped, Cond.selects RX5 yX5_mapped yX5_mapped, Cond.code yX5_mapped cX5_mapped 6 (some .int), Cond.fieldLink RX5 20 "RoomNumbersModel" "lines" "[I", Cond.fieldLink RX5 23 "RoomNumbersModel" "firsts" "[I", Cond.fieldLink RX5 29 "RoomNumbersModel" "lengths" "[I", Cond.fieldLink RX5 26 "RoomNumbersModel" "outerFirsts" "[I", Cond.methodLink RX5 107 yX5_told, Cond.instanceMethod yX5_told, Cond.selects RX5 yX5_told yX5_told, Cond.code yX5_told cX5_told 2 (some .int), Cond.fieldLink RX5 53 "RoomNumbersModel" "refusals" "I", Cond.fieldLink RX5 56 "RoomNumbersModel" "last" "I", Cond.methodLink RX5 117 yX5_seen, Cond.instanceMethod yX5_seen, Cond.selects RX5 yX5_seen yX5_seen, Cond.code yX5_seen cX5_seen 5 (some .int)]
def wsX5_setNumber : List Cond := .code yX5_setNumber cX5_setNumber 6 (some .int) :: ((wsX5_setNumber_r1 ++ wsX5_setNumber_r2) ++ wsX50)
def wsX5_processes : List Cond := .code yX5_processes cX5_processes 1 (some .int) :: ([.fieldLink RX5 32 "RoomNumbersModel" "processes" "I", .methodLink RX5 111 yX5_fine, .instanceMethod yX5_fine, .selects RX5 yX5_fine yX5_fine, .initialized RX5, .code yX5_fine cX5_fine 2 (some .int), .fieldLink RX5 50 "RoomNumbersModel" "refusal" "I"] ++ wsX50)
def wsX5_noProcess : List Cond := .code yX5_noProcess cX5_noProcess 2 (some .boolean) :: ([.methodLink RX5 66 yX5_isProcess, .instanceMethod yX5_isProcess, .selects RX5 yX5_isProcess yX5_isProcess, .initialized RX5, .code yX5_isProcess cX5_isProcess 2 (some .boolean), .fieldLink RX5 32 "RoomNumbersModel" "processes" "I", .methodLink RX5 59 yX5_in, .static yX5_in, .code yX5_in cX5_in 3 (some .boolean), .methodLink RX5 70 yX5_refused, .instanceMethod yX5_refused, .selects RX5 yX5_refused yX5_refused, .code yX5_refused cX5_refused 2 (some .boolean), .fieldLink RX5 50 "RoomNumbersModel" "refusal" "I"] ++ wsX50)
def wsX5_roomOf : List Cond := .code yX5_roomOf cX5_roomOf 2 (some .int) :: ([.fieldLink RX5 35 "RoomNumbersModel" "places" "[I", .methodLink RX5 126 yX5_noProcess, .instanceMethod yX5_noProcess, .selects RX5 yX5_noProcess yX5_noProcess, .initialized RX5, .code yX5_noProcess cX5_noProcess 2 (some .boolean), .methodLink RX5 66 yX5_isProcess, .instanceMethod yX5_isProcess, .selects RX5 yX5_isProcess yX5_isProcess, .code yX5_isProcess cX5_isProcess 2 (some .boolean), .fieldLink RX5 32 "RoomNumbersModel" "processes" "I", .methodLink RX5 59 yX5_in, .static yX5_in, .code yX5_in cX5_in 3 (some .boolean), .methodLink RX5 70 yX5_refused, .instanceMethod yX5_refused, .selects RX5 yX5_refused yX5_refused, .code yX5_refused cX5_refused 2 (some .boolean), .fieldLink RX5 50 "RoomNumbersModel" "refusal" "I"] ++ wsX50)
def wsX5_numberOf : List Cond := .code yX5_numberOf cX5_numberOf 2 (some .int) :: ([.fieldLink RX5 38 "RoomNumbersModel" "numbers" "[I", .methodLink RX5 126 yX5_noProcess, .instanceMethod yX5_noProcess, .selects RX5 yX5_noProcess yX5_noProcess, .initialized RX5, .code yX5_noProcess cX5_noProcess 2 (some .boolean), .methodLink RX5 66 yX5_isProcess, .instanceMethod yX5_isProcess, .selects RX5 yX5_isProcess yX5_isProcess, .code yX5_isProcess cX5_isProcess 2 (some .boolean), .fieldLink RX5 32 "RoomNumbersModel" "processes" "I", .methodLink RX5 59 yX5_in, .static yX5_in, .code yX5_in cX5_in 3 (some .boolean), .methodLink RX5 70 yX5_refused, .instanceMethod yX5_refused, .selects RX5 yX5_refused yX5_refused, .code yX5_refused cX5_refused 2 (some .boolean), .fieldLink RX5 50 "RoomNumbersModel" "refusal" "I"] ++ wsX50)
def wsX5_rightsIn_r1 : List Cond := [Cond.methodLink RX5 66 yX5_isProcess, Cond.instanceMethod yX5_isProcess, Cond.selects RX5 yX5_isProcess yX5_isProcess, Cond.initialized RX5, Cond.code yX5_isProcess cX5_isProcess 2 (some .boolean), Cond.fieldLink RX5 32 "RoomNumbersModel" "processes" "I", Cond.methodLink RX5 59 yX5_in, Cond.static yX5_in, Cond.code yX5_in cX5_in 3 (some .boolean), Cond.methodLink RX5 93 yX5_isRoom, Cond.instanceMethod yX5_isRoom, Cond.selects RX5 yX5_isRoom yX5_isRoom, Cond.code yX5_isRoom cX5_isRoom 2 (some .boolean), Cond.fieldLink RX5 7 "RoomNumbersModel" "rooms" "I", Cond.methodLink RX5 70 yX5_refused, Cond.instanceMethod yX5_refused, Cond.selects RX5 yX5_refused yX5_refused, Cond.code yX5_refused cX5_refused 2 (some .boolean), Cond.fieldLink RX5 50 "RoomNumbersModel" "refusal" "I", Cond.methodLink RX5 90 yX5_held, Cond.instanceMethod yX5_held, Cond.selects RX5 yX5_held yX5_held, Cond.code yX5_held cX5_held 5 (some .int), Cond.fieldLink RX5 17 "RoomNumbersModel" "owners" "[I"]
def wsX5_rightsIn_r2 : List Cond := [Cond.fieldLink RX5 38 "RoomNumbersModel" "numbers" "[I", Cond.fieldLink RX5 13 "RoomNumbersModel" "outers" "[I", Cond.fieldLink RX5 35 "RoomNumbersModel" "places" "[I", Cond.fieldLink RX5 41 "RoomNumbersModel" "rights" "[I", Cond.methodLink RX5 123 yX5_isInside, Cond.instanceMethod yX5_isInside, Cond.selects RX5 yX5_isInside yX5_isInside, Cond.code yX5_isInside cX5_isInside 4 (some .boolean)]
def wsX5_rightsIn : List Cond := .code yX5_rightsIn cX5_rightsIn 3 (some .int) :: ((wsX5_rightsIn_r1 ++ wsX5_rightsIn_r2) ++ wsX50)
def wsX5_makeFile_r1 : List Cond := [Cond.fieldLink RX5 63 "RoomNumbersModel" "files" "I", Cond.fieldLink RX5 35 "RoomNumbersModel" "places" "[I", Cond.fieldLink RX5 38 "RoomNumbersModel" "numbers" "[I", Cond.fieldLink RX5 44 "RoomNumbersModel" "fileOwners" "[I", Cond.fieldLink RX5 47 "RoomNumbersModel" "modes" "[I", Cond.methodLink RX5 66 yX5_isProcess, Cond.instanceMethod yX5_isProcess, Cond.selects RX5 yX5_isProcess yX5_isProcess, Cond.initialized RX5, Cond.code yX5_isProcess cX5_isProcess 2 (some .boolean), Cond.fieldLink RX5 32 "RoomNumbersModel" "processes" "I", Cond.methodLink RX5 59 yX5_in, Cond.static yX5_in, Cond.code yX5_in cX5_in 3 (some .boolean), Cond.methodLink RX5 70 yX5_refused, Cond.instanceMethod yX5_refused, Cond.selects RX5 yX5_refused yX5_refused, Cond.code yX5_refused cX5_refused 2 (some .boolean), Cond.fieldLink RX5 50 "RoomNumbersModel" "refusal" "I", Cond.methodLink RX5 117 yX5_seen, Cond.instanceMethod yX5_seen, Cond.selects RX5 yX5_seen yX5_seen, Cond.code yX5_seen cX5_seen 5 (some .int), Cond.methodLink RX5 87 yX5_led]
def wsX5_makeFile_r2 : List Cond := [Cond.instanceMethod yX5_led, Cond.selects RX5 yX5_led yX5_led, Cond.code yX5_led cX5_led 5 (some .int), Cond.fieldLink RX5 13 "RoomNumbersModel" "outers" "[I", Cond.methodLink RX5 79 yX5_mapped, Cond.instanceMethod yX5_mapped, Cond.selects RX5 yX5_mapped yX5_mapped, Cond.code yX5_mapped cX5_mapped 6 (some .int), Cond.fieldLink RX5 20 "RoomNumbersModel" "lines" "[I", Cond.fieldLink RX5 23 "RoomNumbersModel" "firsts" "[I", Cond.fieldLink RX5 29 "RoomNumbersModel" "lengths" "[I", Cond.fieldLink RX5 26 "RoomNumbersModel" "outerFirsts" "[I", Cond.methodLink RX5 107 yX5_told, Cond.instanceMethod yX5_told, Cond.selects RX5 yX5_told yX5_told, Cond.code yX5_told cX5_told 2 (some .int), Cond.fieldLink RX5 53 "RoomNumbersModel" "refusals" "I", Cond.fieldLink RX5 56 "RoomNumbersModel" "last" "I"]
def wsX5_makeFile : List Cond := .code yX5_makeFile cX5_makeFile 3 (some .int) :: ((wsX5_makeFile_r1 ++ wsX5_makeFile_r2) ++ wsX50)
def wsX5_handOver_r1 : List Cond := [Cond.fieldLink RX5 35 "RoomNumbersModel" "places" "[I", Cond.fieldLink RX5 44 "RoomNumbersModel" "fileOwners" "[I", Cond.fieldLink RX5 41 "RoomNumbersModel" "rights" "[I", Cond.methodLink RX5 66 yX5_isProcess, Cond.instanceMethod yX5_isProcess, Cond.selects RX5 yX5_isProcess yX5_isProcess, Cond.initialized RX5, Cond.code yX5_isProcess cX5_isProcess 2 (some .boolean), Cond.fieldLink RX5 32 "RoomNumbersModel" "processes" "I", Cond.methodLink RX5 59 yX5_in, Cond.static yX5_in, Cond.code yX5_in cX5_in 3 (some .boolean), Cond.methodLink RX5 129 yX5_isFile, Cond.instanceMethod yX5_isFile, Cond.selects RX5 yX5_isFile yX5_isFile, Cond.code yX5_isFile cX5_isFile 2 (some .boolean), Cond.fieldLink RX5 63 "RoomNumbersModel" "files" "I", Cond.methodLink RX5 73 yX5_isNumber, Cond.static yX5_isNumber, Cond.code yX5_isNumber cX5_isNumber 1 (some .boolean), Cond.methodLink RX5 70 yX5_refused, Cond.instanceMethod yX5_refused, Cond.selects RX5 yX5_refused yX5_refused, Cond.code yX5_refused cX5_refused 2 (some .boolean)]
def wsX5_handOver_r2 : List Cond := [Cond.fieldLink RX5 50 "RoomNumbersModel" "refusal" "I", Cond.methodLink RX5 87 yX5_led, Cond.instanceMethod yX5_led, Cond.selects RX5 yX5_led yX5_led, Cond.code yX5_led cX5_led 5 (some .int), Cond.fieldLink RX5 13 "RoomNumbersModel" "outers" "[I", Cond.methodLink RX5 79 yX5_mapped, Cond.instanceMethod yX5_mapped, Cond.selects RX5 yX5_mapped yX5_mapped, Cond.code yX5_mapped cX5_mapped 6 (some .int), Cond.fieldLink RX5 20 "RoomNumbersModel" "lines" "[I", Cond.fieldLink RX5 23 "RoomNumbersModel" "firsts" "[I", Cond.fieldLink RX5 29 "RoomNumbersModel" "lengths" "[I", Cond.fieldLink RX5 26 "RoomNumbersModel" "outerFirsts" "[I", Cond.methodLink RX5 117 yX5_seen, Cond.instanceMethod yX5_seen, Cond.selects RX5 yX5_seen yX5_seen, Cond.code yX5_seen cX5_seen 5 (some .int), Cond.methodLink RX5 107 yX5_told, Cond.instanceMethod yX5_told, Cond.selects RX5 yX5_told yX5_told, Cond.code yX5_told cX5_told 2 (some .int), Cond.fieldLink RX5 53 "RoomNumbersModel" "refusals" "I", Cond.fieldLink RX5 56 "RoomNumbersModel" "last" "I"]
def wsX5_handOver : List Cond := .code yX5_handOver cX5_handOver 7 (some .int) :: ((wsX5_handOver_r1 ++ wsX5_handOver_r2) ++ wsX50)
def wsX5_open_r1 : List Cond := [Cond.fieldLink RX5 38 "RoomNumbersModel" "numbers" "[I", Cond.fieldLink RX5 44 "RoomNumbersModel" "fileOwners" "[I", Cond.fieldLink RX5 47 "RoomNumbersModel" "modes" "[I", Cond.fieldLink RX5 41 "RoomNumbersModel" "rights" "[I", Cond.fieldLink RX5 35 "RoomNumbersModel" "places" "[I", Cond.methodLink RX5 66 yX5_isProcess, Cond.instanceMethod yX5_isProcess, Cond.selects RX5 yX5_isProcess yX5_isProcess, Cond.initialized RX5, Cond.code yX5_isProcess cX5_isProcess 2 (some .boolean), Cond.fieldLink RX5 32 "RoomNumbersModel" "processes" "I", Cond.methodLink RX5 59 yX5_in, Cond.static yX5_in, Cond.code yX5_in cX5_in 3 (some .boolean), Cond.methodLink RX5 129 yX5_isFile, Cond.instanceMethod yX5_isFile, Cond.selects RX5 yX5_isFile yX5_isFile, Cond.code yX5_isFile cX5_isFile 2 (some .boolean), Cond.fieldLink RX5 63 "RoomNumbersModel" "files" "I", Cond.methodLink RX5 70 yX5_refused, Cond.instanceMethod yX5_refused, Cond.selects RX5 yX5_refused yX5_refused, Cond.code yX5_refused cX5_refused 2 (some .boolean), Cond.fieldLink RX5 50 "RoomNumbersModel" "refusal" "I"]
def wsX5_open_r2 : List Cond := [Cond.methodLink RX5 107 yX5_told, Cond.instanceMethod yX5_told, Cond.selects RX5 yX5_told yX5_told, Cond.code yX5_told cX5_told 2 (some .int), Cond.fieldLink RX5 53 "RoomNumbersModel" "refusals" "I", Cond.fieldLink RX5 56 "RoomNumbersModel" "last" "I", Cond.methodLink RX5 117 yX5_seen, Cond.instanceMethod yX5_seen, Cond.selects RX5 yX5_seen yX5_seen, Cond.code yX5_seen cX5_seen 5 (some .int), Cond.methodLink RX5 87 yX5_led, Cond.instanceMethod yX5_led, Cond.selects RX5 yX5_led yX5_led, Cond.code yX5_led cX5_led 5 (some .int), Cond.fieldLink RX5 13 "RoomNumbersModel" "outers" "[I", Cond.methodLink RX5 79 yX5_mapped, Cond.instanceMethod yX5_mapped, Cond.selects RX5 yX5_mapped yX5_mapped, Cond.code yX5_mapped cX5_mapped 6 (some .int), Cond.fieldLink RX5 20 "RoomNumbersModel" "lines" "[I", Cond.fieldLink RX5 23 "RoomNumbersModel" "firsts" "[I", Cond.fieldLink RX5 29 "RoomNumbersModel" "lengths" "[I", Cond.fieldLink RX5 26 "RoomNumbersModel" "outerFirsts" "[I"]
def wsX5_open : List Cond := .code yX5_open cX5_open 5 (some .int) :: ((wsX5_open_r1 ++ wsX5_open_r2) ++ wsX50)
def wsX5_ownerSeenBy_r1 : List Cond := [Cond.fieldLink RX5 35 "RoomNumbersModel" "places" "[I", Cond.fieldLink RX5 44 "RoomNumbersModel" "fileOwners" "[I", Cond.methodLink RX5 66 yX5_isProcess, Cond.instanceMethod yX5_isProcess, Cond.selects RX5 yX5_isProcess yX5_isProcess, Cond.initialized RX5, Cond.code yX5_isProcess cX5_isProcess 2 (some .boolean), Cond.fieldLink RX5 32 "RoomNumbersModel" "processes" "I", Cond.methodLink RX5 59 yX5_in, Cond.static yX5_in, Cond.code yX5_in cX5_in 3 (some .boolean), Cond.methodLink RX5 129 yX5_isFile, Cond.instanceMethod yX5_isFile, Cond.selects RX5 yX5_isFile yX5_isFile, Cond.code yX5_isFile cX5_isFile 2 (some .boolean), Cond.fieldLink RX5 63 "RoomNumbersModel" "files" "I", Cond.methodLink RX5 70 yX5_refused, Cond.instanceMethod yX5_refused, Cond.selects RX5 yX5_refused yX5_refused, Cond.code yX5_refused cX5_refused 2 (some .boolean), Cond.fieldLink RX5 50 "RoomNumbersModel" "refusal" "I", Cond.methodLink RX5 117 yX5_seen, Cond.instanceMethod yX5_seen, Cond.selects RX5 yX5_seen yX5_seen]
def wsX5_ownerSeenBy_r2 : List Cond := [Cond.code yX5_seen cX5_seen 5 (some .int), Cond.methodLink RX5 87 yX5_led, Cond.instanceMethod yX5_led, Cond.selects RX5 yX5_led yX5_led, Cond.code yX5_led cX5_led 5 (some .int), Cond.fieldLink RX5 13 "RoomNumbersModel" "outers" "[I", Cond.methodLink RX5 79 yX5_mapped, Cond.instanceMethod yX5_mapped, Cond.selects RX5 yX5_mapped yX5_mapped, Cond.code yX5_mapped cX5_mapped 6 (some .int), Cond.fieldLink RX5 20 "RoomNumbersModel" "lines" "[I", Cond.fieldLink RX5 23 "RoomNumbersModel" "firsts" "[I", Cond.fieldLink RX5 29 "RoomNumbersModel" "lengths" "[I", Cond.fieldLink RX5 26 "RoomNumbersModel" "outerFirsts" "[I"]
def wsX5_ownerSeenBy : List Cond := .code yX5_ownerSeenBy cX5_ownerSeenBy 3 (some .int) :: ((wsX5_ownerSeenBy_r1 ++ wsX5_ownerSeenBy_r2) ++ wsX50)
def wsX5_files : List Cond := .code yX5_files cX5_files 1 (some .int) :: ([.fieldLink RX5 63 "RoomNumbersModel" "files" "I", .methodLink RX5 111 yX5_fine, .instanceMethod yX5_fine, .selects RX5 yX5_fine yX5_fine, .initialized RX5, .code yX5_fine cX5_fine 2 (some .int), .fieldLink RX5 50 "RoomNumbersModel" "refusal" "I"] ++ wsX50)
def wsX5_refusals : List Cond := .code yX5_refusals cX5_refusals 1 (some .int) :: ([.fieldLink RX5 53 "RoomNumbersModel" "refusals" "I", .methodLink RX5 111 yX5_fine, .instanceMethod yX5_fine, .selects RX5 yX5_fine yX5_fine, .initialized RX5, .code yX5_fine cX5_fine 2 (some .int), .fieldLink RX5 50 "RoomNumbersModel" "refusal" "I"] ++ wsX50)
def wsX5_lastRefusal : List Cond := .code yX5_lastRefusal cX5_lastRefusal 1 (some .int) :: ([.fieldLink RX5 56 "RoomNumbersModel" "last" "I", .methodLink RX5 111 yX5_fine, .instanceMethod yX5_fine, .selects RX5 yX5_fine yX5_fine, .initialized RX5, .code yX5_fine cX5_fine 2 (some .int), .fieldLink RX5 50 "RoomNumbersModel" "refusal" "I"] ++ wsX50)
def wsL_makeRoom_r1 : List Cond := [Cond.classLink RL 13 "java/lang/IndexOutOfBoundsException", Cond.classLink RL 15 "java/lang/IllegalStateException", Cond.methodLink RL 7 yX4_makeRoom, Cond.instanceMethod yX4_makeRoom, Cond.selects RX4 yX4_makeRoom yX4_makeRoom, Cond.initialized RX4, Cond.code yX4_makeRoom cX4_makeRoom 4 (some .int), Cond.classLink RX4 57 "java/lang/IllegalStateException", Cond.initialized "java/lang/IllegalStateException", Cond.fieldLink RX4 18 "RoomNumbers" "roomCount" "I", Cond.fieldLink RX4 14 "RoomNumbers" "roomRow" "[LRoomNumbers$Room;", Cond.classLink RX4 7 RX3, Cond.instantiable RX3 4, Cond.initialized RX3, Cond.fieldLink RX4 64 "RoomNumbers$HouseProcess" "room" "LRoomNumbers$Room;", Cond.fieldLink RX4 68 "RoomNumbers$HouseProcess" "number" "I", Cond.fieldLink RX4 75 "RoomNumbers$Room" "number" "I", Cond.methodLink RX4 53 yX4_processAt, Cond.instanceMethod yX4_processAt, Cond.selects RX4 yX4_processAt yX4_processAt, Cond.code yX4_processAt cX4_processAt 3 (some (.object "RoomNumbers$HouseProcess")), Cond.classLink RX4 103 "java/lang/IndexOutOfBoundsException", Cond.initialized "java/lang/IndexOutOfBoundsException", Cond.fieldLink RX4 24 "RoomNumbers" "processRow" "[LRoomNumbers$HouseProcess;"]
def wsL_makeRoom_r2 : List Cond := [Cond.methodLink RX4 11 yX3_init, Cond.instanceMethod yX3_init, Cond.code yX3_init cX3_init 4 none, Cond.methodLink RX3 3 objectInit, Cond.instanceMethod objectInit, Cond.code objectInit ⟨#[0xb1]⟩ 1 none, Cond.fieldLink RX3 9 "RoomNumbers$Room" "number" "I", Cond.fieldLink RX3 15 "RoomNumbers$Room" "outer" "LRoomNumbers$Room;", Cond.fieldLink RX3 19 "RoomNumbers$Room" "owner" "I", Cond.fieldLink RX3 22 "RoomNumbers$Room" "map" "LRoomNumbers$Line;", Cond.methodLink RX4 71 yX1_moveInto, Cond.instanceMethod yX1_moveInto, Cond.selects RX1 yX1_moveInto yX1_moveInto, Cond.initialized RX1, Cond.code yX1_moveInto cX1_moveInto 2 none, Cond.fieldLink RX1 9 "RoomNumbers$HouseProcess" "room" "LRoomNumbers$Room;", Cond.fieldLink RX1 19 "RoomNumbers$HouseProcess" "rights" "I"]
def wsL_makeRoom : List Cond := .codeWith yL_makeRoom cL_makeRoom 4 (some .int) [(0, 9, 12, 13), (0, 9, 15, 15)] :: ((wsL_makeRoom_r1 ++ wsL_makeRoom_r2) ++ wsX40 ++ wsX30 ++ wsX10 ++ (vx_atS RX4 61 "java/lang/IllegalStateException" ["java/lang/RuntimeException", "java/lang/Exception"]).filter goodWord ++ (vx_atS RX4 107 "java/lang/IndexOutOfBoundsException" ["java/lang/RuntimeException", "java/lang/Exception"]).filter goodWord)
def wsL_line_r1 : List Cond := [Cond.classLink RL 21 "java/lang/IllegalArgumentException", Cond.classLink RL 15 "java/lang/IllegalStateException", Cond.methodLink RL 17 yX4_line, Cond.instanceMethod yX4_line, Cond.selects RX4 yX4_line yX4_line, Cond.initialized RX4, Cond.code yX4_line cX4_line 5 (some .int), Cond.classLink RX4 80 "java/lang/IllegalArgumentException", Cond.initialized "java/lang/IllegalArgumentException", Cond.classLink RX4 57 "java/lang/IllegalStateException", Cond.initialized "java/lang/IllegalStateException", Cond.fieldLink RX4 43 "RoomNumbers" "draft" "LRoomNumbers$Line;", Cond.classLink RX4 91 RX2, Cond.instantiable RX2 4, Cond.initialized RX2, Cond.methodLink RX4 76 yX4_requireNumber, Cond.static yX4_requireNumber, Cond.code yX4_requireNumber cX4_requireNumber 1 none, Cond.methodLink RX4 85 yX4_countOf, Cond.static yX4_countOf, Cond.code yX4_countOf cX4_countOf 3 (some .int), Cond.fieldLink RX4 188 "RoomNumbers$Line" "next" "LRoomNumbers$Line;", Cond.methodLink RX4 93 yX2_init, Cond.instanceMethod yX2_init]
def wsL_line_r2 : List Cond := [Cond.code yX2_init cX2_init 5 none, Cond.methodLink RX2 1 objectInit, Cond.instanceMethod objectInit, Cond.code objectInit ⟨#[0xb1]⟩ 1 none, Cond.fieldLink RX2 7 "RoomNumbers$Line" "first" "I", Cond.fieldLink RX2 13 "RoomNumbers$Line" "outer" "I", Cond.fieldLink RX2 16 "RoomNumbers$Line" "length" "I", Cond.fieldLink RX2 19 "RoomNumbers$Line" "next" "LRoomNumbers$Line;"]
def wsL_line : List Cond := .codeWith yL_line cL_line 6 (some .int) [(0, 12, 15, 21), (0, 12, 19, 15)] :: ((wsL_line_r1 ++ wsL_line_r2) ++ wsX40 ++ wsX20 ++ (vx_atS RX4 84 "java/lang/IllegalArgumentException" ["java/lang/RuntimeException", "java/lang/Exception"]).filter goodWord ++ (vx_atS RX4 61 "java/lang/IllegalStateException" ["java/lang/RuntimeException", "java/lang/Exception"]).filter goodWord)
def wsL_writeMap_r1 : List Cond := [Cond.classLink RL 13 "java/lang/IndexOutOfBoundsException", Cond.methodLink RL 23 yX4_writeMap, Cond.instanceMethod yX4_writeMap, Cond.selects RX4 yX4_writeMap yX4_writeMap, Cond.initialized RX4, Cond.code yX4_writeMap cX4_writeMap 8 (some .int), Cond.classLink RX4 103 "java/lang/IndexOutOfBoundsException", Cond.initialized "java/lang/IndexOutOfBoundsException", Cond.fieldLink RX4 100 "RoomNumbers$Room" "outer" "LRoomNumbers$Room;", Cond.fieldLink RX4 43 "RoomNumbers" "draft" "LRoomNumbers$Line;", Cond.fieldLink RX4 108 "RoomNumbers$Room" "map" "LRoomNumbers$Line;", Cond.fieldLink RX4 68 "RoomNumbers$HouseProcess" "number" "I", Cond.fieldLink RX4 127 "RoomNumbers$Room" "owner" "I", Cond.fieldLink RX4 130 "RoomNumbers$Line" "outer" "I", Cond.methodLink RX4 53 yX4_processAt, Cond.instanceMethod yX4_processAt, Cond.selects RX4 yX4_processAt yX4_processAt, Cond.code yX4_processAt cX4_processAt 3 (some (.object "RoomNumbers$HouseProcess")), Cond.fieldLink RX4 24 "RoomNumbers" "processRow" "[LRoomNumbers$HouseProcess;", Cond.methodLink RX4 96 yX4_roomAt, Cond.instanceMethod yX4_roomAt, Cond.selects RX4 yX4_roomAt yX4_roomAt, Cond.code yX4_roomAt cX4_roomAt 3 (some (.object "RoomNumbers$Room")), Cond.fieldLink RX4 14 "RoomNumbers" "roomRow" "[LRoomNumbers$Room;"]
def wsL_writeMap_r2 : List Cond := [Cond.methodLink RX4 111 yX4_refuse, Cond.instanceMethod yX4_refuse, Cond.selects RX4 yX4_refuse yX4_refuse, Cond.code yX4_refuse cX4_refuse 2 (some .int), Cond.fieldLink RX4 47 "RoomNumbers" "refusalCount" "I", Cond.fieldLink RX4 50 "RoomNumbers" "latestRefusal" "I", Cond.methodLink RX4 115 yX4_anyMeet, Cond.static yX4_anyMeet, Cond.code yX4_anyMeet cX4_anyMeet 3 (some .boolean), Cond.fieldLink RX4 188 "RoomNumbers$Line" "next" "LRoomNumbers$Line;", Cond.methodLink RX4 191 yX2_meets, Cond.instanceMethod yX2_meets, Cond.selects RX2 yX2_meets yX2_meets, Cond.initialized RX2, Cond.code yX2_meets cX2_meets 2 (some .boolean), Cond.fieldLink RX2 7 "RoomNumbers$Line" "first" "I", Cond.fieldLink RX2 16 "RoomNumbers$Line" "length" "I", Cond.fieldLink RX2 13 "RoomNumbers$Line" "outer" "I", Cond.methodLink RX2 23 yX2_rangesMeet, Cond.static yX2_rangesMeet, Cond.code yX2_rangesMeet cX2_rangesMeet 4 (some .boolean), Cond.methodLink RX4 119 yX4_allLeadOut, Cond.static yX4_allLeadOut, Cond.code yX4_allLeadOut cX4_allLeadOut 4 (some .boolean)]
def wsL_writeMap_r3 : List Cond := [Cond.fieldLink RX4 194 "RoomNumbers$Line" "length" "I", Cond.methodLink RX4 132 yX4_leadOut, Cond.static yX4_leadOut, Cond.code yX4_leadOut cX4_leadOut 4 (some .int), Cond.methodLink RX4 197 yX3_toOuter, Cond.instanceMethod yX3_toOuter, Cond.selects RX3 yX3_toOuter yX3_toOuter, Cond.initialized RX3, Cond.code yX3_toOuter cX3_toOuter 3 (some .int), Cond.fieldLink RX3 15 "RoomNumbers$Room" "outer" "LRoomNumbers$Room;", Cond.fieldLink RX3 22 "RoomNumbers$Room" "map" "LRoomNumbers$Line;", Cond.fieldLink RX3 26 "RoomNumbers$Line" "first" "I", Cond.fieldLink RX3 31 "RoomNumbers$Line" "length" "I", Cond.fieldLink RX3 34 "RoomNumbers$Line" "outer" "I", Cond.fieldLink RX3 36 "RoomNumbers$Line" "next" "LRoomNumbers$Line;", Cond.methodLink RX4 123 yX2_isOfOneNumber, Cond.instanceMethod yX2_isOfOneNumber, Cond.selects RX2 yX2_isOfOneNumber yX2_isOfOneNumber, Cond.code yX2_isOfOneNumber cX2_isOfOneNumber 1 (some .boolean), Cond.fieldLink RX2 19 "RoomNumbers$Line" "next" "LRoomNumbers$Line;", Cond.methodLink RX4 136 yX1_hasRight, Cond.instanceMethod yX1_hasRight, Cond.selects RX1 yX1_hasRight yX1_hasRight, Cond.initialized RX1]
def wsL_writeMap_r4 : List Cond := [Cond.code yX1_hasRight cX1_hasRight 3 (some .boolean), Cond.methodLink RX1 30 yX1_rightsHeldIn, Cond.instanceMethod yX1_rightsHeldIn, Cond.selects RX1 yX1_rightsHeldIn yX1_rightsHeldIn, Cond.code yX1_rightsHeldIn cX1_rightsHeldIn 2 (some .int), Cond.fieldLink RX1 9 "RoomNumbers$HouseProcess" "room" "LRoomNumbers$Room;", Cond.fieldLink RX1 19 "RoomNumbers$HouseProcess" "rights" "I", Cond.methodLink RX1 22 yX1_ownsRoomAround, Cond.instanceMethod yX1_ownsRoomAround, Cond.selects RX1 yX1_ownsRoomAround yX1_ownsRoomAround, Cond.code yX1_ownsRoomAround cX1_ownsRoomAround 3 (some .boolean), Cond.fieldLink RX1 34 "RoomNumbers$Room" "outer" "LRoomNumbers$Room;", Cond.fieldLink RX1 39 "RoomNumbers$Room" "owner" "I", Cond.fieldLink RX1 15 "RoomNumbers$HouseProcess" "number" "I", Cond.static yX4_isOrIsInside, Cond.code yX4_isOrIsInside cX4_isOrIsInside 3 (some .boolean), Cond.methodLink RX4 85 yX4_countOf, Cond.static yX4_countOf, Cond.code yX4_countOf cX4_countOf 3 (some .int)]
def wsL_writeMap : List Cond := .codeWith yL_writeMap cL_writeMap 5 (some .int) [(0, 10, 13, 13)] :: ((wsL_writeMap_r1 ++ (wsL_writeMap_r2 ++ (wsL_writeMap_r3 ++ wsL_writeMap_r4))) ++ wsX30 ++ wsX40 ++ wsX10 ++ wsX20 ++ (vx_atS RX4 107 "java/lang/IndexOutOfBoundsException" ["java/lang/RuntimeException", "java/lang/Exception"]).filter goodWord)
def wsL_outerOf : List Cond := .codeWith yL_outerOf cL_outerOf 4 (some .int) [(0, 9, 12, 13)] :: ([.classLink RL 13 "java/lang/IndexOutOfBoundsException", .methodLink RL 27 yX4_outerOf, .instanceMethod yX4_outerOf, .selects RX4 yX4_outerOf yX4_outerOf, .initialized RX4, .code yX4_outerOf cX4_outerOf 2 (some .int), .fieldLink RX4 100 "RoomNumbers$Room" "outer" "LRoomNumbers$Room;", .methodLink RX4 96 yX4_roomAt, .instanceMethod yX4_roomAt, .selects RX4 yX4_roomAt yX4_roomAt, .code yX4_roomAt cX4_roomAt 3 (some (.object "RoomNumbers$Room")), .classLink RX4 103 "java/lang/IndexOutOfBoundsException", .initialized "java/lang/IndexOutOfBoundsException", .fieldLink RX4 14 "RoomNumbers" "roomRow" "[LRoomNumbers$Room;", .methodLink RX4 140 yX4_numberOrNone, .static yX4_numberOrNone, .code yX4_numberOrNone cX4_numberOrNone 1 (some .int), .fieldLink RX4 75 "RoomNumbers$Room" "number" "I"] ++ wsX30 ++ wsX40 ++ (vx_atS RX4 107 "java/lang/IndexOutOfBoundsException" ["java/lang/RuntimeException", "java/lang/Exception"]).filter goodWord)
def wsL_leadsTo_r1 : List Cond := [Cond.classLink RL 13 "java/lang/IndexOutOfBoundsException", Cond.classLink RL 21 "java/lang/IllegalArgumentException", Cond.methodLink RL 30 yX4_leadsTo, Cond.instanceMethod yX4_leadsTo, Cond.selects RX4 yX4_leadsTo yX4_leadsTo, Cond.initialized RX4, Cond.code yX4_leadsTo cX4_leadsTo 4 (some .int), Cond.methodLink RX4 96 yX4_roomAt, Cond.instanceMethod yX4_roomAt, Cond.selects RX4 yX4_roomAt yX4_roomAt, Cond.code yX4_roomAt cX4_roomAt 3 (some (.object "RoomNumbers$Room")), Cond.classLink RX4 103 "java/lang/IndexOutOfBoundsException", Cond.initialized "java/lang/IndexOutOfBoundsException", Cond.fieldLink RX4 14 "RoomNumbers" "roomRow" "[LRoomNumbers$Room;", Cond.methodLink RX4 76 yX4_requireNumber, Cond.static yX4_requireNumber, Cond.code yX4_requireNumber cX4_requireNumber 1 none, Cond.classLink RX4 80 "java/lang/IllegalArgumentException", Cond.initialized "java/lang/IllegalArgumentException", Cond.methodLink RX4 132 yX4_leadOut, Cond.static yX4_leadOut, Cond.code yX4_leadOut cX4_leadOut 4 (some .int), Cond.fieldLink RX4 100 "RoomNumbers$Room" "outer" "LRoomNumbers$Room;", Cond.methodLink RX4 197 yX3_toOuter]
def wsL_leadsTo_r2 : List Cond := [Cond.instanceMethod yX3_toOuter, Cond.selects RX3 yX3_toOuter yX3_toOuter, Cond.initialized RX3, Cond.code yX3_toOuter cX3_toOuter 3 (some .int), Cond.fieldLink RX3 15 "RoomNumbers$Room" "outer" "LRoomNumbers$Room;", Cond.fieldLink RX3 22 "RoomNumbers$Room" "map" "LRoomNumbers$Line;", Cond.fieldLink RX3 26 "RoomNumbers$Line" "first" "I", Cond.fieldLink RX3 31 "RoomNumbers$Line" "length" "I", Cond.fieldLink RX3 34 "RoomNumbers$Line" "outer" "I", Cond.fieldLink RX3 36 "RoomNumbers$Line" "next" "LRoomNumbers$Line;"]
def wsL_leadsTo : List Cond := .codeWith yL_leadsTo cL_leadsTo 5 (some .int) [(0, 10, 13, 13), (0, 10, 17, 21)] :: ((wsL_leadsTo_r1 ++ wsL_leadsTo_r2) ++ wsX40 ++ wsX30 ++ wsX20 ++ (vx_atS RX4 107 "java/lang/IndexOutOfBoundsException" ["java/lang/RuntimeException", "java/lang/Exception"]).filter goodWord ++ (vx_atS RX4 84 "java/lang/IllegalArgumentException" ["java/lang/RuntimeException", "java/lang/Exception"]).filter goodWord)
def wsL_seenAs_r1 : List Cond := [Cond.classLink RL 13 "java/lang/IndexOutOfBoundsException", Cond.classLink RL 21 "java/lang/IllegalArgumentException", Cond.methodLink RL 33 yX4_seenAs, Cond.instanceMethod yX4_seenAs, Cond.selects RX4 yX4_seenAs yX4_seenAs, Cond.initialized RX4, Cond.code yX4_seenAs cX4_seenAs 4 (some .int), Cond.methodLink RX4 96 yX4_roomAt, Cond.instanceMethod yX4_roomAt, Cond.selects RX4 yX4_roomAt yX4_roomAt, Cond.code yX4_roomAt cX4_roomAt 3 (some (.object "RoomNumbers$Room")), Cond.classLink RX4 103 "java/lang/IndexOutOfBoundsException", Cond.initialized "java/lang/IndexOutOfBoundsException", Cond.fieldLink RX4 14 "RoomNumbers" "roomRow" "[LRoomNumbers$Room;", Cond.methodLink RX4 76 yX4_requireNumber, Cond.static yX4_requireNumber, Cond.code yX4_requireNumber cX4_requireNumber 1 none, Cond.classLink RX4 80 "java/lang/IllegalArgumentException", Cond.initialized "java/lang/IllegalArgumentException", Cond.methodLink RX4 144 yX4_seenFrom, Cond.instanceMethod yX4_seenFrom, Cond.selects RX4 yX4_seenFrom yX4_seenFrom, Cond.code yX4_seenFrom cX4_seenFrom 8 (some .int), Cond.methodLink RX4 154 yX4_isOrIsInside]
def wsL_seenAs_r2 : List Cond := [Cond.static yX4_isOrIsInside, Cond.code yX4_isOrIsInside cX4_isOrIsInside 3 (some .boolean), Cond.fieldLink RX4 100 "RoomNumbers$Room" "outer" "LRoomNumbers$Room;", Cond.methodLink RX4 185 yX3_fromOuter, Cond.instanceMethod yX3_fromOuter, Cond.selects RX3 yX3_fromOuter yX3_fromOuter, Cond.initialized RX3, Cond.code yX3_fromOuter cX3_fromOuter 3 (some .int), Cond.fieldLink RX3 15 "RoomNumbers$Room" "outer" "LRoomNumbers$Room;", Cond.fieldLink RX3 22 "RoomNumbers$Room" "map" "LRoomNumbers$Line;", Cond.fieldLink RX3 34 "RoomNumbers$Line" "outer" "I", Cond.fieldLink RX3 31 "RoomNumbers$Line" "length" "I", Cond.fieldLink RX3 26 "RoomNumbers$Line" "first" "I", Cond.fieldLink RX3 36 "RoomNumbers$Line" "next" "LRoomNumbers$Line;"]
def wsL_seenAs : List Cond := .codeWith yL_seenAs cL_seenAs 5 (some .int) [(0, 10, 13, 13), (0, 10, 17, 21)] :: ((wsL_seenAs_r1 ++ wsL_seenAs_r2) ++ wsX40 ++ wsX30 ++ wsX20 ++ (vx_atS RX4 107 "java/lang/IndexOutOfBoundsException" ["java/lang/RuntimeException", "java/lang/Exception"]).filter goodWord ++ (vx_atS RX4 84 "java/lang/IllegalArgumentException" ["java/lang/RuntimeException", "java/lang/Exception"]).filter goodWord)
def wsL_seenByLeading_r1 : List Cond := [Cond.classLink RL 13 "java/lang/IndexOutOfBoundsException", Cond.classLink RL 21 "java/lang/IllegalArgumentException", Cond.methodLink RL 36 yX4_seenByLeading, Cond.instanceMethod yX4_seenByLeading, Cond.selects RX4 yX4_seenByLeading yX4_seenByLeading, Cond.initialized RX4, Cond.code yX4_seenByLeading cX4_seenByLeading 5 (some .int), Cond.methodLink RX4 96 yX4_roomAt, Cond.instanceMethod yX4_roomAt, Cond.selects RX4 yX4_roomAt yX4_roomAt, Cond.code yX4_roomAt cX4_roomAt 3 (some (.object "RoomNumbers$Room")), Cond.classLink RX4 103 "java/lang/IndexOutOfBoundsException", Cond.initialized "java/lang/IndexOutOfBoundsException", Cond.fieldLink RX4 14 "RoomNumbers" "roomRow" "[LRoomNumbers$Room;", Cond.methodLink RX4 76 yX4_requireNumber, Cond.static yX4_requireNumber, Cond.code yX4_requireNumber cX4_requireNumber 1 none, Cond.classLink RX4 80 "java/lang/IllegalArgumentException", Cond.initialized "java/lang/IllegalArgumentException", Cond.methodLink RX4 132 yX4_leadOut, Cond.static yX4_leadOut, Cond.code yX4_leadOut cX4_leadOut 4 (some .int), Cond.fieldLink RX4 100 "RoomNumbers$Room" "outer" "LRoomNumbers$Room;", Cond.methodLink RX4 197 yX3_toOuter]
def wsL_seenByLeading_r2 : List Cond := [Cond.instanceMethod yX3_toOuter, Cond.selects RX3 yX3_toOuter yX3_toOuter, Cond.initialized RX3, Cond.code yX3_toOuter cX3_toOuter 3 (some .int), Cond.fieldLink RX3 15 "RoomNumbers$Room" "outer" "LRoomNumbers$Room;", Cond.fieldLink RX3 22 "RoomNumbers$Room" "map" "LRoomNumbers$Line;", Cond.fieldLink RX3 26 "RoomNumbers$Line" "first" "I", Cond.fieldLink RX3 31 "RoomNumbers$Line" "length" "I", Cond.fieldLink RX3 34 "RoomNumbers$Line" "outer" "I", Cond.fieldLink RX3 36 "RoomNumbers$Line" "next" "LRoomNumbers$Line;"]
def wsL_seenByLeading : List Cond := .codeWith yL_seenByLeading cL_seenByLeading 5 (some .int) [(0, 10, 13, 13), (0, 10, 17, 21)] :: ((wsL_seenByLeading_r1 ++ wsL_seenByLeading_r2) ++ wsX40 ++ wsX30 ++ wsX20 ++ (vx_atS RX4 107 "java/lang/IndexOutOfBoundsException" ["java/lang/RuntimeException", "java/lang/Exception"]).filter goodWord ++ (vx_atS RX4 84 "java/lang/IllegalArgumentException" ["java/lang/RuntimeException", "java/lang/Exception"]).filter goodWord)
def wsL_fork_r1 : List Cond := [Cond.classLink RL 13 "java/lang/IndexOutOfBoundsException", Cond.classLink RL 15 "java/lang/IllegalStateException", Cond.methodLink RL 39 yX4_fork, Cond.instanceMethod yX4_fork, Cond.selects RX4 yX4_fork yX4_fork, Cond.initialized RX4, Cond.code yX4_fork cX4_fork 4 (some .int), Cond.classLink RX4 57 "java/lang/IllegalStateException", Cond.initialized "java/lang/IllegalStateException", Cond.fieldLink RX4 31 "RoomNumbers" "processCount" "I", Cond.fieldLink RX4 24 "RoomNumbers" "processRow" "[LRoomNumbers$HouseProcess;", Cond.classLink RX4 22 RX1, Cond.instantiable RX1 3, Cond.initialized RX1, Cond.fieldLink RX4 64 "RoomNumbers$HouseProcess" "room" "LRoomNumbers$Room;", Cond.fieldLink RX4 68 "RoomNumbers$HouseProcess" "number" "I", Cond.fieldLink RX4 149 "RoomNumbers$HouseProcess" "rights" "I", Cond.methodLink RX4 53 yX4_processAt, Cond.instanceMethod yX4_processAt, Cond.selects RX4 yX4_processAt yX4_processAt, Cond.code yX4_processAt cX4_processAt 3 (some (.object "RoomNumbers$HouseProcess")), Cond.classLink RX4 103 "java/lang/IndexOutOfBoundsException", Cond.initialized "java/lang/IndexOutOfBoundsException", Cond.methodLink RX4 28 yX1_init]
def wsL_fork_r2 : List Cond := [Cond.instanceMethod yX1_init, Cond.code yX1_init cX1_init 4 none, Cond.methodLink RX1 3 objectInit, Cond.instanceMethod objectInit, Cond.code objectInit ⟨#[0xb1]⟩ 1 none, Cond.fieldLink RX1 9 "RoomNumbers$HouseProcess" "room" "LRoomNumbers$Room;", Cond.fieldLink RX1 15 "RoomNumbers$HouseProcess" "number" "I", Cond.fieldLink RX1 19 "RoomNumbers$HouseProcess" "rights" "I"]
def wsL_fork : List Cond := .codeWith yL_fork cL_fork 4 (some .int) [(0, 9, 12, 13), (0, 9, 15, 15)] :: ((wsL_fork_r1 ++ wsL_fork_r2) ++ wsX40 ++ wsX10 ++ (vx_atS RX4 61 "java/lang/IllegalStateException" ["java/lang/RuntimeException", "java/lang/Exception"]).filter goodWord ++ (vx_atS RX4 107 "java/lang/IndexOutOfBoundsException" ["java/lang/RuntimeException", "java/lang/Exception"]).filter goodWord)
def wsL_drop : List Cond := .codeWith yL_drop cL_drop 5 (some .int) [(0, 10, 13, 13), (0, 10, 17, 21)] :: ([.classLink RL 13 "java/lang/IndexOutOfBoundsException", .classLink RL 21 "java/lang/IllegalArgumentException", .methodLink RL 42 yX4_drop, .instanceMethod yX4_drop, .selects RX4 yX4_drop yX4_drop, .initialized RX4, .code yX4_drop cX4_drop 4 (some .int), .classLink RX4 80 "java/lang/IllegalArgumentException", .initialized "java/lang/IllegalArgumentException", .fieldLink RX4 149 "RoomNumbers$HouseProcess" "rights" "I", .methodLink RX4 53 yX4_processAt, .instanceMethod yX4_processAt, .selects RX4 yX4_processAt yX4_processAt, .code yX4_processAt cX4_processAt 3 (some (.object "RoomNumbers$HouseProcess")), .classLink RX4 103 "java/lang/IndexOutOfBoundsException", .initialized "java/lang/IndexOutOfBoundsException", .fieldLink RX4 24 "RoomNumbers" "processRow" "[LRoomNumbers$HouseProcess;"] ++ wsX10 ++ wsX40 ++ (vx_atS RX4 84 "java/lang/IllegalArgumentException" ["java/lang/RuntimeException", "java/lang/Exception"]).filter goodWord ++ (vx_atS RX4 107 "java/lang/IndexOutOfBoundsException" ["java/lang/RuntimeException", "java/lang/Exception"]).filter goodWord)
def wsL_enter_r1 : List Cond := [Cond.classLink RL 13 "java/lang/IndexOutOfBoundsException", Cond.methodLink RL 45 yX4_enter, Cond.instanceMethod yX4_enter, Cond.selects RX4 yX4_enter yX4_enter, Cond.initialized RX4, Cond.code yX4_enter cX4_enter 5 (some .int), Cond.fieldLink RX4 100 "RoomNumbers$Room" "outer" "LRoomNumbers$Room;", Cond.fieldLink RX4 64 "RoomNumbers$HouseProcess" "room" "LRoomNumbers$Room;", Cond.fieldLink RX4 149 "RoomNumbers$HouseProcess" "rights" "I", Cond.methodLink RX4 53 yX4_processAt, Cond.instanceMethod yX4_processAt, Cond.selects RX4 yX4_processAt yX4_processAt, Cond.code yX4_processAt cX4_processAt 3 (some (.object "RoomNumbers$HouseProcess")), Cond.classLink RX4 103 "java/lang/IndexOutOfBoundsException", Cond.initialized "java/lang/IndexOutOfBoundsException", Cond.fieldLink RX4 24 "RoomNumbers" "processRow" "[LRoomNumbers$HouseProcess;", Cond.methodLink RX4 96 yX4_roomAt, Cond.instanceMethod yX4_roomAt, Cond.selects RX4 yX4_roomAt yX4_roomAt, Cond.code yX4_roomAt cX4_roomAt 3 (some (.object "RoomNumbers$Room")), Cond.fieldLink RX4 14 "RoomNumbers" "roomRow" "[LRoomNumbers$Room;", Cond.methodLink RX4 154 yX4_isOrIsInside, Cond.static yX4_isOrIsInside, Cond.code yX4_isOrIsInside cX4_isOrIsInside 3 (some .boolean)]
def wsL_enter_r2 : List Cond := [Cond.methodLink RX4 111 yX4_refuse, Cond.instanceMethod yX4_refuse, Cond.selects RX4 yX4_refuse yX4_refuse, Cond.code yX4_refuse cX4_refuse 2 (some .int), Cond.fieldLink RX4 47 "RoomNumbers" "refusalCount" "I", Cond.fieldLink RX4 50 "RoomNumbers" "latestRefusal" "I", Cond.methodLink RX4 136 yX1_hasRight, Cond.instanceMethod yX1_hasRight, Cond.selects RX1 yX1_hasRight yX1_hasRight, Cond.initialized RX1, Cond.code yX1_hasRight cX1_hasRight 3 (some .boolean), Cond.methodLink RX1 30 yX1_rightsHeldIn, Cond.instanceMethod yX1_rightsHeldIn, Cond.selects RX1 yX1_rightsHeldIn yX1_rightsHeldIn, Cond.code yX1_rightsHeldIn cX1_rightsHeldIn 2 (some .int), Cond.fieldLink RX1 9 "RoomNumbers$HouseProcess" "room" "LRoomNumbers$Room;", Cond.fieldLink RX1 19 "RoomNumbers$HouseProcess" "rights" "I", Cond.methodLink RX1 22 yX1_ownsRoomAround, Cond.instanceMethod yX1_ownsRoomAround, Cond.selects RX1 yX1_ownsRoomAround yX1_ownsRoomAround, Cond.code yX1_ownsRoomAround cX1_ownsRoomAround 3 (some .boolean), Cond.fieldLink RX1 34 "RoomNumbers$Room" "outer" "LRoomNumbers$Room;", Cond.fieldLink RX1 39 "RoomNumbers$Room" "owner" "I", Cond.fieldLink RX1 15 "RoomNumbers$HouseProcess" "number" "I"]
def wsL_enter_r3 : List Cond := [Cond.methodLink RX4 71 yX1_moveInto, Cond.instanceMethod yX1_moveInto, Cond.selects RX1 yX1_moveInto yX1_moveInto, Cond.code yX1_moveInto cX1_moveInto 2 none]
def wsL_enter : List Cond := .codeWith yL_enter cL_enter 5 (some .int) [(0, 10, 13, 13)] :: ((wsL_enter_r1 ++ (wsL_enter_r2 ++ wsL_enter_r3)) ++ wsX30 ++ wsX10 ++ wsX40 ++ (vx_atS RX4 107 "java/lang/IndexOutOfBoundsException" ["java/lang/RuntimeException", "java/lang/Exception"]).filter goodWord)
def wsL_setNumber_r1 : List Cond := [Cond.classLink RL 13 "java/lang/IndexOutOfBoundsException", Cond.classLink RL 21 "java/lang/IllegalArgumentException", Cond.methodLink RL 48 yX4_setNumber, Cond.instanceMethod yX4_setNumber, Cond.selects RX4 yX4_setNumber yX4_setNumber, Cond.initialized RX4, Cond.code yX4_setNumber cX4_setNumber 5 (some .int), Cond.fieldLink RX4 64 "RoomNumbers$HouseProcess" "room" "LRoomNumbers$Room;", Cond.fieldLink RX4 68 "RoomNumbers$HouseProcess" "number" "I", Cond.fieldLink RX4 149 "RoomNumbers$HouseProcess" "rights" "I", Cond.methodLink RX4 53 yX4_processAt, Cond.instanceMethod yX4_processAt, Cond.selects RX4 yX4_processAt yX4_processAt, Cond.code yX4_processAt cX4_processAt 3 (some (.object "RoomNumbers$HouseProcess")), Cond.classLink RX4 103 "java/lang/IndexOutOfBoundsException", Cond.initialized "java/lang/IndexOutOfBoundsException", Cond.fieldLink RX4 24 "RoomNumbers" "processRow" "[LRoomNumbers$HouseProcess;", Cond.methodLink RX4 76 yX4_requireNumber, Cond.static yX4_requireNumber, Cond.code yX4_requireNumber cX4_requireNumber 1 none, Cond.classLink RX4 80 "java/lang/IllegalArgumentException", Cond.initialized "java/lang/IllegalArgumentException", Cond.methodLink RX4 132 yX4_leadOut, Cond.static yX4_leadOut]
def wsL_setNumber_r2 : List Cond := [Cond.code yX4_leadOut cX4_leadOut 4 (some .int), Cond.fieldLink RX4 100 "RoomNumbers$Room" "outer" "LRoomNumbers$Room;", Cond.methodLink RX4 197 yX3_toOuter, Cond.instanceMethod yX3_toOuter, Cond.selects RX3 yX3_toOuter yX3_toOuter, Cond.initialized RX3, Cond.code yX3_toOuter cX3_toOuter 3 (some .int), Cond.fieldLink RX3 15 "RoomNumbers$Room" "outer" "LRoomNumbers$Room;", Cond.fieldLink RX3 22 "RoomNumbers$Room" "map" "LRoomNumbers$Line;", Cond.fieldLink RX3 26 "RoomNumbers$Line" "first" "I", Cond.fieldLink RX3 31 "RoomNumbers$Line" "length" "I", Cond.fieldLink RX3 34 "RoomNumbers$Line" "outer" "I", Cond.fieldLink RX3 36 "RoomNumbers$Line" "next" "LRoomNumbers$Line;", Cond.methodLink RX4 111 yX4_refuse, Cond.instanceMethod yX4_refuse, Cond.selects RX4 yX4_refuse yX4_refuse, Cond.code yX4_refuse cX4_refuse 2 (some .int), Cond.fieldLink RX4 47 "RoomNumbers" "refusalCount" "I", Cond.fieldLink RX4 50 "RoomNumbers" "latestRefusal" "I", Cond.methodLink RX4 136 yX1_hasRight, Cond.instanceMethod yX1_hasRight, Cond.selects RX1 yX1_hasRight yX1_hasRight, Cond.initialized RX1, Cond.code yX1_hasRight cX1_hasRight 3 (some .boolean)]
def wsL_setNumber_r3 : List Cond := [Cond.methodLink RX1 30 yX1_rightsHeldIn, Cond.instanceMethod yX1_rightsHeldIn, Cond.selects RX1 yX1_rightsHeldIn yX1_rightsHeldIn, Cond.code yX1_rightsHeldIn cX1_rightsHeldIn 2 (some .int), Cond.fieldLink RX1 9 "RoomNumbers$HouseProcess" "room" "LRoomNumbers$Room;", Cond.fieldLink RX1 19 "RoomNumbers$HouseProcess" "rights" "I", Cond.methodLink RX1 22 yX1_ownsRoomAround, Cond.instanceMethod yX1_ownsRoomAround, Cond.selects RX1 yX1_ownsRoomAround yX1_ownsRoomAround, Cond.code yX1_ownsRoomAround cX1_ownsRoomAround 3 (some .boolean), Cond.fieldLink RX1 34 "RoomNumbers$Room" "outer" "LRoomNumbers$Room;", Cond.fieldLink RX1 39 "RoomNumbers$Room" "owner" "I", Cond.fieldLink RX1 15 "RoomNumbers$HouseProcess" "number" "I", Cond.static yX4_isOrIsInside, Cond.code yX4_isOrIsInside cX4_isOrIsInside 3 (some .boolean), Cond.methodLink RX4 144 yX4_seenFrom, Cond.instanceMethod yX4_seenFrom, Cond.selects RX4 yX4_seenFrom yX4_seenFrom, Cond.code yX4_seenFrom cX4_seenFrom 8 (some .int), Cond.fieldLink RX4 14 "RoomNumbers" "roomRow" "[LRoomNumbers$Room;", Cond.methodLink RX4 154 yX4_isOrIsInside, Cond.methodLink RX4 185 yX3_fromOuter, Cond.instanceMethod yX3_fromOuter, Cond.selects RX3 yX3_fromOuter yX3_fromOuter]
def wsL_setNumber_r4 : List Cond := [Cond.code yX3_fromOuter cX3_fromOuter 3 (some .int)]
def wsL_setNumber : List Cond := .codeWith yL_setNumber cL_setNumber 5 (some .int) [(0, 10, 13, 13), (0, 10, 17, 21)] :: ((wsL_setNumber_r1 ++ (wsL_setNumber_r2 ++ (wsL_setNumber_r3 ++ wsL_setNumber_r4))) ++ wsX10 ++ wsX40 ++ wsX30 ++ wsX20 ++ (vx_atS RX4 107 "java/lang/IndexOutOfBoundsException" ["java/lang/RuntimeException", "java/lang/Exception"]).filter goodWord ++ (vx_atS RX4 84 "java/lang/IllegalArgumentException" ["java/lang/RuntimeException", "java/lang/Exception"]).filter goodWord)
def wsL_roomOf : List Cond := .codeWith yL_roomOf cL_roomOf 4 (some .int) [(0, 9, 12, 13)] :: ([.classLink RL 13 "java/lang/IndexOutOfBoundsException", .methodLink RL 51 yX4_roomOf, .instanceMethod yX4_roomOf, .selects RX4 yX4_roomOf yX4_roomOf, .initialized RX4, .code yX4_roomOf cX4_roomOf 2 (some .int), .fieldLink RX4 64 "RoomNumbers$HouseProcess" "room" "LRoomNumbers$Room;", .methodLink RX4 53 yX4_processAt, .instanceMethod yX4_processAt, .selects RX4 yX4_processAt yX4_processAt, .code yX4_processAt cX4_processAt 3 (some (.object "RoomNumbers$HouseProcess")), .classLink RX4 103 "java/lang/IndexOutOfBoundsException", .initialized "java/lang/IndexOutOfBoundsException", .fieldLink RX4 24 "RoomNumbers" "processRow" "[LRoomNumbers$HouseProcess;", .methodLink RX4 140 yX4_numberOrNone, .static yX4_numberOrNone, .code yX4_numberOrNone cX4_numberOrNone 1 (some .int), .fieldLink RX4 75 "RoomNumbers$Room" "number" "I"] ++ wsX10 ++ wsX40 ++ wsX30 ++ (vx_atS RX4 107 "java/lang/IndexOutOfBoundsException" ["java/lang/RuntimeException", "java/lang/Exception"]).filter goodWord)
def wsL_numberOf : List Cond := .codeWith yL_numberOf cL_numberOf 4 (some .int) [(0, 9, 12, 13)] :: ([.classLink RL 13 "java/lang/IndexOutOfBoundsException", .methodLink RL 54 yX4_numberOf, .instanceMethod yX4_numberOf, .selects RX4 yX4_numberOf yX4_numberOf, .initialized RX4, .code yX4_numberOf cX4_numberOf 2 (some .int), .fieldLink RX4 68 "RoomNumbers$HouseProcess" "number" "I", .methodLink RX4 53 yX4_processAt, .instanceMethod yX4_processAt, .selects RX4 yX4_processAt yX4_processAt, .code yX4_processAt cX4_processAt 3 (some (.object "RoomNumbers$HouseProcess")), .classLink RX4 103 "java/lang/IndexOutOfBoundsException", .initialized "java/lang/IndexOutOfBoundsException", .fieldLink RX4 24 "RoomNumbers" "processRow" "[LRoomNumbers$HouseProcess;"] ++ wsX10 ++ wsX40 ++ (vx_atS RX4 107 "java/lang/IndexOutOfBoundsException" ["java/lang/RuntimeException", "java/lang/Exception"]).filter goodWord)
def wsL_rightsIn_r1 : List Cond := [Cond.classLink RL 13 "java/lang/IndexOutOfBoundsException", Cond.methodLink RL 57 yX4_rightsIn, Cond.instanceMethod yX4_rightsIn, Cond.selects RX4 yX4_rightsIn yX4_rightsIn, Cond.initialized RX4, Cond.code yX4_rightsIn cX4_rightsIn 4 (some .int), Cond.methodLink RX4 53 yX4_processAt, Cond.instanceMethod yX4_processAt, Cond.selects RX4 yX4_processAt yX4_processAt, Cond.code yX4_processAt cX4_processAt 3 (some (.object "RoomNumbers$HouseProcess")), Cond.classLink RX4 103 "java/lang/IndexOutOfBoundsException", Cond.initialized "java/lang/IndexOutOfBoundsException", Cond.fieldLink RX4 24 "RoomNumbers" "processRow" "[LRoomNumbers$HouseProcess;", Cond.methodLink RX4 96 yX4_roomAt, Cond.instanceMethod yX4_roomAt, Cond.selects RX4 yX4_roomAt yX4_roomAt, Cond.code yX4_roomAt cX4_roomAt 3 (some (.object "RoomNumbers$Room")), Cond.fieldLink RX4 14 "RoomNumbers" "roomRow" "[LRoomNumbers$Room;", Cond.methodLink RX4 158 yX1_rightsHeldIn, Cond.instanceMethod yX1_rightsHeldIn, Cond.selects RX1 yX1_rightsHeldIn yX1_rightsHeldIn, Cond.initialized RX1, Cond.code yX1_rightsHeldIn cX1_rightsHeldIn 2 (some .int), Cond.fieldLink RX1 9 "RoomNumbers$HouseProcess" "room" "LRoomNumbers$Room;"]
def wsL_rightsIn_r2 : List Cond := [Cond.fieldLink RX1 19 "RoomNumbers$HouseProcess" "rights" "I", Cond.methodLink RX1 22 yX1_ownsRoomAround, Cond.instanceMethod yX1_ownsRoomAround, Cond.selects RX1 yX1_ownsRoomAround yX1_ownsRoomAround, Cond.code yX1_ownsRoomAround cX1_ownsRoomAround 3 (some .boolean), Cond.fieldLink RX1 34 "RoomNumbers$Room" "outer" "LRoomNumbers$Room;", Cond.fieldLink RX1 39 "RoomNumbers$Room" "owner" "I", Cond.fieldLink RX1 15 "RoomNumbers$HouseProcess" "number" "I", Cond.static yX4_isOrIsInside, Cond.code yX4_isOrIsInside cX4_isOrIsInside 3 (some .boolean), Cond.fieldLink RX4 100 "RoomNumbers$Room" "outer" "LRoomNumbers$Room;"]
def wsL_rightsIn : List Cond := .codeWith yL_rightsIn cL_rightsIn 5 (some .int) [(0, 10, 13, 13)] :: ((wsL_rightsIn_r1 ++ wsL_rightsIn_r2) ++ wsX40 ++ wsX10 ++ wsX30 ++ (vx_atS RX4 107 "java/lang/IndexOutOfBoundsException" ["java/lang/RuntimeException", "java/lang/Exception"]).filter goodWord)
def wsL_makeFile_r1 : List Cond := [Cond.classLink RL 13 "java/lang/IndexOutOfBoundsException", Cond.classLink RL 21 "java/lang/IllegalArgumentException", Cond.classLink RL 15 "java/lang/IllegalStateException", Cond.methodLink RL 60 yX4_makeFile, Cond.instanceMethod yX4_makeFile, Cond.selects RX4 yX4_makeFile yX4_makeFile, Cond.initialized RX4, Cond.code yX4_makeFile cX4_makeFile 5 (some .int), Cond.classLink RX4 80 "java/lang/IllegalArgumentException", Cond.initialized "java/lang/IllegalArgumentException", Cond.classLink RX4 57 "java/lang/IllegalStateException", Cond.initialized "java/lang/IllegalStateException", Cond.fieldLink RX4 40 "RoomNumbers" "fileCount" "I", Cond.fieldLink RX4 36 "RoomNumbers" "fileRow" "[LRoomNumbers$HouseFile;", Cond.fieldLink RX4 64 "RoomNumbers$HouseProcess" "room" "LRoomNumbers$Room;", Cond.fieldLink RX4 68 "RoomNumbers$HouseProcess" "number" "I", Cond.classLink RX4 34 RX0, Cond.instantiable RX0 2, Cond.initialized RX0, Cond.methodLink RX4 53 yX4_processAt, Cond.instanceMethod yX4_processAt, Cond.selects RX4 yX4_processAt yX4_processAt, Cond.code yX4_processAt cX4_processAt 3 (some (.object "RoomNumbers$HouseProcess")), Cond.classLink RX4 103 "java/lang/IndexOutOfBoundsException"]
def wsL_makeFile_r2 : List Cond := [Cond.initialized "java/lang/IndexOutOfBoundsException", Cond.fieldLink RX4 24 "RoomNumbers" "processRow" "[LRoomNumbers$HouseProcess;", Cond.methodLink RX4 144 yX4_seenFrom, Cond.instanceMethod yX4_seenFrom, Cond.selects RX4 yX4_seenFrom yX4_seenFrom, Cond.code yX4_seenFrom cX4_seenFrom 8 (some .int), Cond.fieldLink RX4 14 "RoomNumbers" "roomRow" "[LRoomNumbers$Room;", Cond.methodLink RX4 154 yX4_isOrIsInside, Cond.static yX4_isOrIsInside, Cond.code yX4_isOrIsInside cX4_isOrIsInside 3 (some .boolean), Cond.fieldLink RX4 100 "RoomNumbers$Room" "outer" "LRoomNumbers$Room;", Cond.methodLink RX4 185 yX3_fromOuter, Cond.instanceMethod yX3_fromOuter, Cond.selects RX3 yX3_fromOuter yX3_fromOuter, Cond.initialized RX3, Cond.code yX3_fromOuter cX3_fromOuter 3 (some .int), Cond.fieldLink RX3 15 "RoomNumbers$Room" "outer" "LRoomNumbers$Room;", Cond.fieldLink RX3 22 "RoomNumbers$Room" "map" "LRoomNumbers$Line;", Cond.fieldLink RX3 34 "RoomNumbers$Line" "outer" "I", Cond.fieldLink RX3 31 "RoomNumbers$Line" "length" "I", Cond.fieldLink RX3 26 "RoomNumbers$Line" "first" "I", Cond.fieldLink RX3 36 "RoomNumbers$Line" "next" "LRoomNumbers$Line;", Cond.methodLink RX4 111 yX4_refuse, Cond.instanceMethod yX4_refuse]
def wsL_makeFile_r3 : List Cond := [Cond.selects RX4 yX4_refuse yX4_refuse, Cond.code yX4_refuse cX4_refuse 2 (some .int), Cond.fieldLink RX4 47 "RoomNumbers" "refusalCount" "I", Cond.fieldLink RX4 50 "RoomNumbers" "latestRefusal" "I", Cond.methodLink RX4 165 yX0_init, Cond.instanceMethod yX0_init, Cond.code yX0_init cX0_init 3 none, Cond.methodLink RX0 3 objectInit, Cond.instanceMethod objectInit, Cond.code objectInit ⟨#[0xb1]⟩ 1 none, Cond.fieldLink RX0 9 "RoomNumbers$HouseFile" "owner" "I", Cond.fieldLink RX0 15 "RoomNumbers$HouseFile" "mode" "I"]
def wsL_makeFile : List Cond := .codeWith yL_makeFile cL_makeFile 5 (some .int) [(0, 10, 13, 13), (0, 10, 17, 21), (0, 10, 21, 15)] :: ((wsL_makeFile_r1 ++ (wsL_makeFile_r2 ++ wsL_makeFile_r3)) ++ wsX40 ++ wsX10 ++ wsX00 ++ wsX30 ++ wsX20 ++ (vx_atS RX4 84 "java/lang/IllegalArgumentException" ["java/lang/RuntimeException", "java/lang/Exception"]).filter goodWord ++ (vx_atS RX4 61 "java/lang/IllegalStateException" ["java/lang/RuntimeException", "java/lang/Exception"]).filter goodWord ++ (vx_atS RX4 107 "java/lang/IndexOutOfBoundsException" ["java/lang/RuntimeException", "java/lang/Exception"]).filter goodWord)
def wsL_handOver_r1 : List Cond := [Cond.classLink RL 13 "java/lang/IndexOutOfBoundsException", Cond.classLink RL 21 "java/lang/IllegalArgumentException", Cond.methodLink RL 63 yX4_handOver, Cond.instanceMethod yX4_handOver, Cond.selects RX4 yX4_handOver yX4_handOver, Cond.initialized RX4, Cond.code yX4_handOver cX4_handOver 7 (some .int), Cond.fieldLink RX4 64 "RoomNumbers$HouseProcess" "room" "LRoomNumbers$Room;", Cond.fieldLink RX4 172 "RoomNumbers$HouseFile" "owner" "I", Cond.methodLink RX4 53 yX4_processAt, Cond.instanceMethod yX4_processAt, Cond.selects RX4 yX4_processAt yX4_processAt, Cond.code yX4_processAt cX4_processAt 3 (some (.object "RoomNumbers$HouseProcess")), Cond.classLink RX4 103 "java/lang/IndexOutOfBoundsException", Cond.initialized "java/lang/IndexOutOfBoundsException", Cond.fieldLink RX4 24 "RoomNumbers" "processRow" "[LRoomNumbers$HouseProcess;", Cond.methodLink RX4 168 yX4_fileAt, Cond.instanceMethod yX4_fileAt, Cond.selects RX4 yX4_fileAt yX4_fileAt, Cond.code yX4_fileAt cX4_fileAt 3 (some (.object "RoomNumbers$HouseFile")), Cond.fieldLink RX4 36 "RoomNumbers" "fileRow" "[LRoomNumbers$HouseFile;", Cond.methodLink RX4 76 yX4_requireNumber, Cond.static yX4_requireNumber, Cond.code yX4_requireNumber cX4_requireNumber 1 none]
def wsL_handOver_r2 : List Cond := [Cond.classLink RX4 80 "java/lang/IllegalArgumentException", Cond.initialized "java/lang/IllegalArgumentException", Cond.methodLink RX4 132 yX4_leadOut, Cond.static yX4_leadOut, Cond.code yX4_leadOut cX4_leadOut 4 (some .int), Cond.fieldLink RX4 100 "RoomNumbers$Room" "outer" "LRoomNumbers$Room;", Cond.methodLink RX4 197 yX3_toOuter, Cond.instanceMethod yX3_toOuter, Cond.selects RX3 yX3_toOuter yX3_toOuter, Cond.initialized RX3, Cond.code yX3_toOuter cX3_toOuter 3 (some .int), Cond.fieldLink RX3 15 "RoomNumbers$Room" "outer" "LRoomNumbers$Room;", Cond.fieldLink RX3 22 "RoomNumbers$Room" "map" "LRoomNumbers$Line;", Cond.fieldLink RX3 26 "RoomNumbers$Line" "first" "I", Cond.fieldLink RX3 31 "RoomNumbers$Line" "length" "I", Cond.fieldLink RX3 34 "RoomNumbers$Line" "outer" "I", Cond.fieldLink RX3 36 "RoomNumbers$Line" "next" "LRoomNumbers$Line;", Cond.methodLink RX4 144 yX4_seenFrom, Cond.instanceMethod yX4_seenFrom, Cond.selects RX4 yX4_seenFrom yX4_seenFrom, Cond.code yX4_seenFrom cX4_seenFrom 8 (some .int), Cond.fieldLink RX4 14 "RoomNumbers" "roomRow" "[LRoomNumbers$Room;", Cond.methodLink RX4 154 yX4_isOrIsInside, Cond.static yX4_isOrIsInside]
def wsL_handOver_r3 : List Cond := [Cond.code yX4_isOrIsInside cX4_isOrIsInside 3 (some .boolean), Cond.methodLink RX4 185 yX3_fromOuter, Cond.instanceMethod yX3_fromOuter, Cond.selects RX3 yX3_fromOuter yX3_fromOuter, Cond.code yX3_fromOuter cX3_fromOuter 3 (some .int), Cond.methodLink RX4 111 yX4_refuse, Cond.instanceMethod yX4_refuse, Cond.selects RX4 yX4_refuse yX4_refuse, Cond.code yX4_refuse cX4_refuse 2 (some .int), Cond.fieldLink RX4 47 "RoomNumbers" "refusalCount" "I", Cond.fieldLink RX4 50 "RoomNumbers" "latestRefusal" "I", Cond.methodLink RX4 136 yX1_hasRight, Cond.instanceMethod yX1_hasRight, Cond.selects RX1 yX1_hasRight yX1_hasRight, Cond.initialized RX1, Cond.code yX1_hasRight cX1_hasRight 3 (some .boolean), Cond.methodLink RX1 30 yX1_rightsHeldIn, Cond.instanceMethod yX1_rightsHeldIn, Cond.selects RX1 yX1_rightsHeldIn yX1_rightsHeldIn, Cond.code yX1_rightsHeldIn cX1_rightsHeldIn 2 (some .int), Cond.fieldLink RX1 9 "RoomNumbers$HouseProcess" "room" "LRoomNumbers$Room;", Cond.fieldLink RX1 19 "RoomNumbers$HouseProcess" "rights" "I", Cond.methodLink RX1 22 yX1_ownsRoomAround, Cond.instanceMethod yX1_ownsRoomAround]
def wsL_handOver_r4 : List Cond := [Cond.selects RX1 yX1_ownsRoomAround yX1_ownsRoomAround, Cond.code yX1_ownsRoomAround cX1_ownsRoomAround 3 (some .boolean), Cond.fieldLink RX1 34 "RoomNumbers$Room" "outer" "LRoomNumbers$Room;", Cond.fieldLink RX1 39 "RoomNumbers$Room" "owner" "I", Cond.fieldLink RX1 15 "RoomNumbers$HouseProcess" "number" "I"]
def wsL_handOver : List Cond := .codeWith yL_handOver cL_handOver 6 (some .int) [(0, 12, 15, 13), (0, 12, 19, 21)] :: ((wsL_handOver_r1 ++ (wsL_handOver_r2 ++ (wsL_handOver_r3 ++ wsL_handOver_r4))) ++ wsX10 ++ wsX00 ++ wsX40 ++ wsX30 ++ wsX20 ++ (vx_atS RX4 107 "java/lang/IndexOutOfBoundsException" ["java/lang/RuntimeException", "java/lang/Exception"]).filter goodWord ++ (vx_atS RX4 84 "java/lang/IllegalArgumentException" ["java/lang/RuntimeException", "java/lang/Exception"]).filter goodWord)
def wsL_open_r1 : List Cond := [Cond.classLink RL 13 "java/lang/IndexOutOfBoundsException", Cond.methodLink RL 66 yX4_open, Cond.instanceMethod yX4_open, Cond.selects RX4 yX4_open yX4_open, Cond.initialized RX4, Cond.code yX4_open cX4_open 6 (some .int), Cond.fieldLink RX4 68 "RoomNumbers$HouseProcess" "number" "I", Cond.fieldLink RX4 64 "RoomNumbers$HouseProcess" "room" "LRoomNumbers$Room;", Cond.fieldLink RX4 172 "RoomNumbers$HouseFile" "owner" "I", Cond.methodLink RX4 53 yX4_processAt, Cond.instanceMethod yX4_processAt, Cond.selects RX4 yX4_processAt yX4_processAt, Cond.code yX4_processAt cX4_processAt 3 (some (.object "RoomNumbers$HouseProcess")), Cond.classLink RX4 103 "java/lang/IndexOutOfBoundsException", Cond.initialized "java/lang/IndexOutOfBoundsException", Cond.fieldLink RX4 24 "RoomNumbers" "processRow" "[LRoomNumbers$HouseProcess;", Cond.methodLink RX4 168 yX4_fileAt, Cond.instanceMethod yX4_fileAt, Cond.selects RX4 yX4_fileAt yX4_fileAt, Cond.code yX4_fileAt cX4_fileAt 3 (some (.object "RoomNumbers$HouseFile")), Cond.fieldLink RX4 36 "RoomNumbers" "fileRow" "[LRoomNumbers$HouseFile;", Cond.methodLink RX4 173 yX0_allows, Cond.instanceMethod yX0_allows, Cond.selects RX0 yX0_allows yX0_allows]
def wsL_open_r2 : List Cond := [Cond.initialized RX0, Cond.code yX0_allows cX0_allows 5 (some .boolean), Cond.fieldLink RX0 15 "RoomNumbers$HouseFile" "mode" "I", Cond.fieldLink RX0 9 "RoomNumbers$HouseFile" "owner" "I", Cond.methodLink RX4 136 yX1_hasRight, Cond.instanceMethod yX1_hasRight, Cond.selects RX1 yX1_hasRight yX1_hasRight, Cond.initialized RX1, Cond.code yX1_hasRight cX1_hasRight 3 (some .boolean), Cond.methodLink RX1 30 yX1_rightsHeldIn, Cond.instanceMethod yX1_rightsHeldIn, Cond.selects RX1 yX1_rightsHeldIn yX1_rightsHeldIn, Cond.code yX1_rightsHeldIn cX1_rightsHeldIn 2 (some .int), Cond.fieldLink RX1 9 "RoomNumbers$HouseProcess" "room" "LRoomNumbers$Room;", Cond.fieldLink RX1 19 "RoomNumbers$HouseProcess" "rights" "I", Cond.methodLink RX1 22 yX1_ownsRoomAround, Cond.instanceMethod yX1_ownsRoomAround, Cond.selects RX1 yX1_ownsRoomAround yX1_ownsRoomAround, Cond.code yX1_ownsRoomAround cX1_ownsRoomAround 3 (some .boolean), Cond.fieldLink RX1 34 "RoomNumbers$Room" "outer" "LRoomNumbers$Room;", Cond.fieldLink RX1 39 "RoomNumbers$Room" "owner" "I", Cond.fieldLink RX1 15 "RoomNumbers$HouseProcess" "number" "I", Cond.static yX4_isOrIsInside, Cond.code yX4_isOrIsInside cX4_isOrIsInside 3 (some .boolean)]
def wsL_open_r3 : List Cond := [Cond.fieldLink RX4 100 "RoomNumbers$Room" "outer" "LRoomNumbers$Room;", Cond.methodLink RX4 111 yX4_refuse, Cond.instanceMethod yX4_refuse, Cond.selects RX4 yX4_refuse yX4_refuse, Cond.code yX4_refuse cX4_refuse 2 (some .int), Cond.fieldLink RX4 47 "RoomNumbers" "refusalCount" "I", Cond.fieldLink RX4 50 "RoomNumbers" "latestRefusal" "I", Cond.methodLink RX4 144 yX4_seenFrom, Cond.instanceMethod yX4_seenFrom, Cond.selects RX4 yX4_seenFrom yX4_seenFrom, Cond.code yX4_seenFrom cX4_seenFrom 8 (some .int), Cond.fieldLink RX4 14 "RoomNumbers" "roomRow" "[LRoomNumbers$Room;", Cond.methodLink RX4 154 yX4_isOrIsInside, Cond.methodLink RX4 185 yX3_fromOuter, Cond.instanceMethod yX3_fromOuter, Cond.selects RX3 yX3_fromOuter yX3_fromOuter, Cond.initialized RX3, Cond.code yX3_fromOuter cX3_fromOuter 3 (some .int), Cond.fieldLink RX3 15 "RoomNumbers$Room" "outer" "LRoomNumbers$Room;", Cond.fieldLink RX3 22 "RoomNumbers$Room" "map" "LRoomNumbers$Line;", Cond.fieldLink RX3 34 "RoomNumbers$Line" "outer" "I", Cond.fieldLink RX3 31 "RoomNumbers$Line" "length" "I", Cond.fieldLink RX3 26 "RoomNumbers$Line" "first" "I", Cond.fieldLink RX3 36 "RoomNumbers$Line" "next" "LRoomNumbers$Line;"]
def wsL_open : List Cond := .codeWith yL_open cL_open 6 (some .int) [(0, 12, 15, 13)] :: ((wsL_open_r1 ++ (wsL_open_r2 ++ wsL_open_r3)) ++ wsX10 ++ wsX00 ++ wsX40 ++ wsX30 ++ wsX20 ++ (vx_atS RX4 107 "java/lang/IndexOutOfBoundsException" ["java/lang/RuntimeException", "java/lang/Exception"]).filter goodWord)
def wsL_ownerSeenBy_r1 : List Cond := [Cond.classLink RL 13 "java/lang/IndexOutOfBoundsException", Cond.methodLink RL 70 yX4_ownerSeenBy, Cond.instanceMethod yX4_ownerSeenBy, Cond.selects RX4 yX4_ownerSeenBy yX4_ownerSeenBy, Cond.initialized RX4, Cond.code yX4_ownerSeenBy cX4_ownerSeenBy 4 (some .int), Cond.fieldLink RX4 64 "RoomNumbers$HouseProcess" "room" "LRoomNumbers$Room;", Cond.fieldLink RX4 172 "RoomNumbers$HouseFile" "owner" "I", Cond.methodLink RX4 53 yX4_processAt, Cond.instanceMethod yX4_processAt, Cond.selects RX4 yX4_processAt yX4_processAt, Cond.code yX4_processAt cX4_processAt 3 (some (.object "RoomNumbers$HouseProcess")), Cond.classLink RX4 103 "java/lang/IndexOutOfBoundsException", Cond.initialized "java/lang/IndexOutOfBoundsException", Cond.fieldLink RX4 24 "RoomNumbers" "processRow" "[LRoomNumbers$HouseProcess;", Cond.methodLink RX4 168 yX4_fileAt, Cond.instanceMethod yX4_fileAt, Cond.selects RX4 yX4_fileAt yX4_fileAt, Cond.code yX4_fileAt cX4_fileAt 3 (some (.object "RoomNumbers$HouseFile")), Cond.fieldLink RX4 36 "RoomNumbers" "fileRow" "[LRoomNumbers$HouseFile;", Cond.methodLink RX4 144 yX4_seenFrom, Cond.instanceMethod yX4_seenFrom, Cond.selects RX4 yX4_seenFrom yX4_seenFrom, Cond.code yX4_seenFrom cX4_seenFrom 8 (some .int)]
def wsL_ownerSeenBy_r2 : List Cond := [Cond.fieldLink RX4 14 "RoomNumbers" "roomRow" "[LRoomNumbers$Room;", Cond.methodLink RX4 154 yX4_isOrIsInside, Cond.static yX4_isOrIsInside, Cond.code yX4_isOrIsInside cX4_isOrIsInside 3 (some .boolean), Cond.fieldLink RX4 100 "RoomNumbers$Room" "outer" "LRoomNumbers$Room;", Cond.methodLink RX4 185 yX3_fromOuter, Cond.instanceMethod yX3_fromOuter, Cond.selects RX3 yX3_fromOuter yX3_fromOuter, Cond.initialized RX3, Cond.code yX3_fromOuter cX3_fromOuter 3 (some .int), Cond.fieldLink RX3 15 "RoomNumbers$Room" "outer" "LRoomNumbers$Room;", Cond.fieldLink RX3 22 "RoomNumbers$Room" "map" "LRoomNumbers$Line;", Cond.fieldLink RX3 34 "RoomNumbers$Line" "outer" "I", Cond.fieldLink RX3 31 "RoomNumbers$Line" "length" "I", Cond.fieldLink RX3 26 "RoomNumbers$Line" "first" "I", Cond.fieldLink RX3 36 "RoomNumbers$Line" "next" "LRoomNumbers$Line;"]
def wsL_ownerSeenBy : List Cond := .codeWith yL_ownerSeenBy cL_ownerSeenBy 5 (some .int) [(0, 10, 13, 13)] :: ((wsL_ownerSeenBy_r1 ++ wsL_ownerSeenBy_r2) ++ wsX10 ++ wsX00 ++ wsX40 ++ wsX30 ++ wsX20 ++ (vx_atS RX4 107 "java/lang/IndexOutOfBoundsException" ["java/lang/RuntimeException", "java/lang/Exception"]).filter goodWord)
def wsL_law0_r1 : List Cond := [Cond.classLink RL 8 RX4, Cond.instantiable RX4 9, Cond.initialized RX4, Cond.classLink RL 74 RX5, Cond.instantiable RX5 18, Cond.initialized RX5, Cond.arrayClass .long, Cond.methodLink RL 73 yX4_init, Cond.instanceMethod yX4_init, Cond.code yX4_init cX4_init 2 none, Cond.methodLink RX4 1 objectInit, Cond.instanceMethod objectInit, Cond.code objectInit ⟨#[0xb1]⟩ 1 none, Cond.classLink RX4 7 RX3, Cond.instantiable RX3 4, Cond.initialized RX3, Cond.fieldLink RX4 14 "RoomNumbers" "roomRow" "[LRoomNumbers$Room;", Cond.fieldLink RX4 18 "RoomNumbers" "roomCount" "I", Cond.classLink RX4 22 RX1, Cond.fieldLink RX4 24 "RoomNumbers" "processRow" "[LRoomNumbers$HouseProcess;", Cond.instantiable RX1 3, Cond.initialized RX1, Cond.fieldLink RX4 31 "RoomNumbers" "processCount" "I", Cond.classLink RX4 34 RX0]
def wsL_law0_r2 : List Cond := [Cond.fieldLink RX4 36 "RoomNumbers" "fileRow" "[LRoomNumbers$HouseFile;", Cond.fieldLink RX4 40 "RoomNumbers" "fileCount" "I", Cond.fieldLink RX4 43 "RoomNumbers" "draft" "LRoomNumbers$Line;", Cond.fieldLink RX4 47 "RoomNumbers" "refusalCount" "I", Cond.fieldLink RX4 50 "RoomNumbers" "latestRefusal" "I", Cond.methodLink RX4 11 yX3_init, Cond.instanceMethod yX3_init, Cond.code yX3_init cX3_init 4 none, Cond.methodLink RX3 3 objectInit, Cond.fieldLink RX3 9 "RoomNumbers$Room" "number" "I", Cond.fieldLink RX3 15 "RoomNumbers$Room" "outer" "LRoomNumbers$Room;", Cond.fieldLink RX3 19 "RoomNumbers$Room" "owner" "I", Cond.fieldLink RX3 22 "RoomNumbers$Room" "map" "LRoomNumbers$Line;", Cond.methodLink RX4 28 yX1_init, Cond.instanceMethod yX1_init, Cond.code yX1_init cX1_init 4 none, Cond.methodLink RX1 3 objectInit, Cond.fieldLink RX1 9 "RoomNumbers$HouseProcess" "room" "LRoomNumbers$Room;", Cond.fieldLink RX1 15 "RoomNumbers$HouseProcess" "number" "I", Cond.fieldLink RX1 19 "RoomNumbers$HouseProcess" "rights" "I", Cond.methodLink RL 76 yX5_init, Cond.instanceMethod yX5_init, Cond.code yX5_init cX5_init 1 none, Cond.methodLink RX5 1 objectInit]
def wsL_law0_r3 : List Cond := [Cond.fieldLink RX5 7 "RoomNumbersModel" "rooms" "I", Cond.arrayClass .int, Cond.fieldLink RX5 13 "RoomNumbersModel" "outers" "[I", Cond.fieldLink RX5 17 "RoomNumbersModel" "owners" "[I", Cond.fieldLink RX5 20 "RoomNumbersModel" "lines" "[I", Cond.fieldLink RX5 23 "RoomNumbersModel" "firsts" "[I", Cond.fieldLink RX5 26 "RoomNumbersModel" "outerFirsts" "[I", Cond.fieldLink RX5 29 "RoomNumbersModel" "lengths" "[I", Cond.fieldLink RX5 32 "RoomNumbersModel" "processes" "I", Cond.fieldLink RX5 35 "RoomNumbersModel" "places" "[I", Cond.fieldLink RX5 38 "RoomNumbersModel" "numbers" "[I", Cond.fieldLink RX5 41 "RoomNumbersModel" "rights" "[I", Cond.fieldLink RX5 44 "RoomNumbersModel" "fileOwners" "[I", Cond.fieldLink RX5 47 "RoomNumbersModel" "modes" "[I", Cond.methodLink RL 77 yL_makeRoom, Cond.static yL_makeRoom, Cond.initialized RL, Cond.codeWith yL_makeRoom cL_makeRoom 4 (some .int) [(0, 9, 12, 13), (0, 9, 15, 15)], Cond.classLink RL 13 "java/lang/IndexOutOfBoundsException", Cond.classLink RL 15 "java/lang/IllegalStateException", Cond.methodLink RL 7 yX4_makeRoom, Cond.instanceMethod yX4_makeRoom, Cond.selects RX4 yX4_makeRoom yX4_makeRoom, Cond.code yX4_makeRoom cX4_makeRoom 4 (some .int)]
def wsL_law0_r4 : List Cond := [Cond.classLink RX4 57 "java/lang/IllegalStateException", Cond.initialized "java/lang/IllegalStateException", Cond.fieldLink RX4 64 "RoomNumbers$HouseProcess" "room" "LRoomNumbers$Room;", Cond.fieldLink RX4 68 "RoomNumbers$HouseProcess" "number" "I", Cond.fieldLink RX4 75 "RoomNumbers$Room" "number" "I", Cond.methodLink RX4 53 yX4_processAt, Cond.instanceMethod yX4_processAt, Cond.selects RX4 yX4_processAt yX4_processAt, Cond.code yX4_processAt cX4_processAt 3 (some (.object "RoomNumbers$HouseProcess")), Cond.classLink RX4 103 "java/lang/IndexOutOfBoundsException", Cond.initialized "java/lang/IndexOutOfBoundsException", Cond.methodLink RX4 71 yX1_moveInto, Cond.instanceMethod yX1_moveInto, Cond.selects RX1 yX1_moveInto yX1_moveInto, Cond.code yX1_moveInto cX1_moveInto 2 none, Cond.methodLink RL 82 yX5_makeRoom, Cond.instanceMethod yX5_makeRoom, Cond.selects RX5 yX5_makeRoom yX5_makeRoom, Cond.code yX5_makeRoom cX5_makeRoom 2 (some .int), Cond.methodLink RX5 66 yX5_isProcess, Cond.instanceMethod yX5_isProcess, Cond.selects RX5 yX5_isProcess yX5_isProcess, Cond.code yX5_isProcess cX5_isProcess 2 (some .boolean), Cond.methodLink RX5 59 yX5_in]
def wsL_law0_r5 : List Cond := [Cond.static yX5_in, Cond.code yX5_in cX5_in 3 (some .boolean), Cond.methodLink RX5 70 yX5_refused, Cond.instanceMethod yX5_refused, Cond.selects RX5 yX5_refused yX5_refused, Cond.code yX5_refused cX5_refused 2 (some .boolean), Cond.fieldLink RX5 50 "RoomNumbersModel" "refusal" "I", Cond.methodLink RL 83 yX5_thrown, Cond.instanceMethod yX5_thrown, Cond.selects RX5 yX5_thrown yX5_thrown, Cond.code yX5_thrown cX5_thrown 1 (some .int), Cond.methodLink RL 87 yL_line, Cond.static yL_line, Cond.codeWith yL_line cL_line 6 (some .int) [(0, 12, 15, 21), (0, 12, 19, 15)], Cond.classLink RL 21 "java/lang/IllegalArgumentException", Cond.methodLink RL 17 yX4_line, Cond.instanceMethod yX4_line, Cond.selects RX4 yX4_line yX4_line, Cond.code yX4_line cX4_line 5 (some .int), Cond.classLink RX4 80 "java/lang/IllegalArgumentException", Cond.initialized "java/lang/IllegalArgumentException", Cond.classLink RX4 91 RX2, Cond.instantiable RX2 4, Cond.initialized RX2]
def wsL_law0_r6 : List Cond := [Cond.methodLink RX4 76 yX4_requireNumber, Cond.static yX4_requireNumber, Cond.code yX4_requireNumber cX4_requireNumber 1 none, Cond.methodLink RX4 85 yX4_countOf, Cond.static yX4_countOf, Cond.code yX4_countOf cX4_countOf 3 (some .int), Cond.fieldLink RX4 188 "RoomNumbers$Line" "next" "LRoomNumbers$Line;", Cond.methodLink RX4 93 yX2_init, Cond.instanceMethod yX2_init, Cond.code yX2_init cX2_init 5 none, Cond.methodLink RX2 1 objectInit, Cond.fieldLink RX2 7 "RoomNumbers$Line" "first" "I", Cond.fieldLink RX2 13 "RoomNumbers$Line" "outer" "I", Cond.fieldLink RX2 16 "RoomNumbers$Line" "length" "I", Cond.fieldLink RX2 19 "RoomNumbers$Line" "next" "LRoomNumbers$Line;", Cond.methodLink RL 90 yX5_line, Cond.instanceMethod yX5_line, Cond.selects RX5 yX5_line yX5_line, Cond.code yX5_line cX5_line 7 (some .int), Cond.fieldLink RX5 76 "RoomNumbersModel" "drafted" "I", Cond.methodLink RX5 73 yX5_isNumber, Cond.static yX5_isNumber, Cond.code yX5_isNumber cX5_isNumber 1 (some .boolean), Cond.methodLink RL 91 yL_writeMap]
def wsL_law0_r7 : List Cond := [Cond.static yL_writeMap, Cond.codeWith yL_writeMap cL_writeMap 5 (some .int) [(0, 10, 13, 13)], Cond.methodLink RL 23 yX4_writeMap, Cond.instanceMethod yX4_writeMap, Cond.selects RX4 yX4_writeMap yX4_writeMap, Cond.code yX4_writeMap cX4_writeMap 8 (some .int), Cond.fieldLink RX4 100 "RoomNumbers$Room" "outer" "LRoomNumbers$Room;", Cond.fieldLink RX4 108 "RoomNumbers$Room" "map" "LRoomNumbers$Line;", Cond.fieldLink RX4 127 "RoomNumbers$Room" "owner" "I", Cond.fieldLink RX4 130 "RoomNumbers$Line" "outer" "I", Cond.methodLink RX4 96 yX4_roomAt, Cond.instanceMethod yX4_roomAt, Cond.selects RX4 yX4_roomAt yX4_roomAt, Cond.code yX4_roomAt cX4_roomAt 3 (some (.object "RoomNumbers$Room")), Cond.methodLink RX4 111 yX4_refuse, Cond.instanceMethod yX4_refuse, Cond.selects RX4 yX4_refuse yX4_refuse, Cond.code yX4_refuse cX4_refuse 2 (some .int), Cond.methodLink RX4 115 yX4_anyMeet, Cond.static yX4_anyMeet, Cond.code yX4_anyMeet cX4_anyMeet 3 (some .boolean), Cond.methodLink RX4 191 yX2_meets, Cond.instanceMethod yX2_meets, Cond.selects RX2 yX2_meets yX2_meets]
def wsL_law0_r8 : List Cond := [Cond.code yX2_meets cX2_meets 2 (some .boolean), Cond.methodLink RX2 23 yX2_rangesMeet, Cond.static yX2_rangesMeet, Cond.code yX2_rangesMeet cX2_rangesMeet 4 (some .boolean), Cond.methodLink RX4 119 yX4_allLeadOut, Cond.static yX4_allLeadOut, Cond.code yX4_allLeadOut cX4_allLeadOut 4 (some .boolean), Cond.fieldLink RX4 194 "RoomNumbers$Line" "length" "I", Cond.methodLink RX4 132 yX4_leadOut, Cond.static yX4_leadOut, Cond.code yX4_leadOut cX4_leadOut 4 (some .int), Cond.methodLink RX4 197 yX3_toOuter, Cond.instanceMethod yX3_toOuter, Cond.selects RX3 yX3_toOuter yX3_toOuter, Cond.code yX3_toOuter cX3_toOuter 3 (some .int), Cond.fieldLink RX3 26 "RoomNumbers$Line" "first" "I", Cond.fieldLink RX3 31 "RoomNumbers$Line" "length" "I", Cond.fieldLink RX3 34 "RoomNumbers$Line" "outer" "I", Cond.fieldLink RX3 36 "RoomNumbers$Line" "next" "LRoomNumbers$Line;", Cond.methodLink RX4 123 yX2_isOfOneNumber, Cond.instanceMethod yX2_isOfOneNumber, Cond.selects RX2 yX2_isOfOneNumber yX2_isOfOneNumber, Cond.code yX2_isOfOneNumber cX2_isOfOneNumber 1 (some .boolean), Cond.methodLink RX4 136 yX1_hasRight]
def wsL_law0_r9 : List Cond := [Cond.instanceMethod yX1_hasRight, Cond.selects RX1 yX1_hasRight yX1_hasRight, Cond.code yX1_hasRight cX1_hasRight 3 (some .boolean), Cond.methodLink RX1 30 yX1_rightsHeldIn, Cond.instanceMethod yX1_rightsHeldIn, Cond.selects RX1 yX1_rightsHeldIn yX1_rightsHeldIn, Cond.code yX1_rightsHeldIn cX1_rightsHeldIn 2 (some .int), Cond.methodLink RX1 22 yX1_ownsRoomAround, Cond.instanceMethod yX1_ownsRoomAround, Cond.selects RX1 yX1_ownsRoomAround yX1_ownsRoomAround, Cond.code yX1_ownsRoomAround cX1_ownsRoomAround 3 (some .boolean), Cond.fieldLink RX1 34 "RoomNumbers$Room" "outer" "LRoomNumbers$Room;", Cond.fieldLink RX1 39 "RoomNumbers$Room" "owner" "I", Cond.static yX4_isOrIsInside, Cond.code yX4_isOrIsInside cX4_isOrIsInside 3 (some .boolean), Cond.methodLink RL 94 yX5_writeMap, Cond.instanceMethod yX5_writeMap, Cond.selects RX5 yX5_writeMap yX5_writeMap, Cond.code yX5_writeMap cX5_writeMap 7 (some .int), Cond.methodLink RX5 93 yX5_isRoom, Cond.instanceMethod yX5_isRoom, Cond.selects RX5 yX5_isRoom yX5_isRoom, Cond.code yX5_isRoom cX5_isRoom 2 (some .boolean), Cond.methodLink RX5 96 yX5_isDraftBad]
def wsL_law0_r10 : List Cond := [Cond.instanceMethod yX5_isDraftBad, Cond.selects RX5 yX5_isDraftBad yX5_isDraftBad, Cond.code yX5_isDraftBad cX5_isDraftBad 5 (some .boolean), Cond.methodLink RX5 83 yX5_meet, Cond.static yX5_meet, Cond.code yX5_meet cX5_meet 4 (some .boolean), Cond.methodLink RX5 100 yX5_isDraftLost, Cond.instanceMethod yX5_isDraftLost, Cond.selects RX5 yX5_isDraftLost yX5_isDraftLost, Cond.code yX5_isDraftLost cX5_isDraftLost 6 (some .boolean), Cond.methodLink RX5 87 yX5_led, Cond.instanceMethod yX5_led, Cond.selects RX5 yX5_led yX5_led, Cond.code yX5_led cX5_led 5 (some .int), Cond.methodLink RX5 79 yX5_mapped, Cond.instanceMethod yX5_mapped, Cond.selects RX5 yX5_mapped yX5_mapped, Cond.code yX5_mapped cX5_mapped 6 (some .int), Cond.methodLink RX5 103 yX5_mayWrite, Cond.instanceMethod yX5_mayWrite, Cond.selects RX5 yX5_mayWrite yX5_mayWrite, Cond.code yX5_mayWrite cX5_mayWrite 5 (some .boolean), Cond.methodLink RX5 90 yX5_held, Cond.instanceMethod yX5_held]
def wsL_law0_r11 : List Cond := [Cond.selects RX5 yX5_held yX5_held, Cond.code yX5_held cX5_held 5 (some .int), Cond.methodLink RX5 123 yX5_isInside, Cond.instanceMethod yX5_isInside, Cond.selects RX5 yX5_isInside yX5_isInside, Cond.code yX5_isInside cX5_isInside 4 (some .boolean), Cond.methodLink RX5 107 yX5_told, Cond.instanceMethod yX5_told, Cond.selects RX5 yX5_told yX5_told, Cond.code yX5_told cX5_told 2 (some .int), Cond.fieldLink RX5 53 "RoomNumbersModel" "refusals" "I", Cond.fieldLink RX5 56 "RoomNumbersModel" "last" "I", Cond.methodLink RL 95 yX4_rooms, Cond.instanceMethod yX4_rooms, Cond.selects RX4 yX4_rooms yX4_rooms, Cond.code yX4_rooms cX4_rooms 1 (some .int), Cond.methodLink RL 98 yX5_rooms, Cond.instanceMethod yX5_rooms, Cond.selects RX5 yX5_rooms yX5_rooms, Cond.code yX5_rooms cX5_rooms 1 (some .int), Cond.methodLink RX5 111 yX5_fine, Cond.instanceMethod yX5_fine, Cond.selects RX5 yX5_fine yX5_fine, Cond.code yX5_fine cX5_fine 2 (some .int)]
def wsL_law0_r12 : List Cond := [Cond.methodLink RL 99 yL_outerOf, Cond.static yL_outerOf, Cond.codeWith yL_outerOf cL_outerOf 4 (some .int) [(0, 9, 12, 13)], Cond.methodLink RL 27 yX4_outerOf, Cond.instanceMethod yX4_outerOf, Cond.selects RX4 yX4_outerOf yX4_outerOf, Cond.code yX4_outerOf cX4_outerOf 2 (some .int), Cond.methodLink RX4 140 yX4_numberOrNone, Cond.static yX4_numberOrNone, Cond.code yX4_numberOrNone cX4_numberOrNone 1 (some .int), Cond.methodLink RL 101 yX5_outerOf, Cond.instanceMethod yX5_outerOf, Cond.selects RX5 yX5_outerOf yX5_outerOf, Cond.code yX5_outerOf cX5_outerOf 2 (some .int), Cond.methodLink RL 102 yL_leadsTo, Cond.static yL_leadsTo, Cond.codeWith yL_leadsTo cL_leadsTo 5 (some .int) [(0, 10, 13, 13), (0, 10, 17, 21)], Cond.methodLink RL 30 yX4_leadsTo, Cond.instanceMethod yX4_leadsTo, Cond.selects RX4 yX4_leadsTo yX4_leadsTo, Cond.code yX4_leadsTo cX4_leadsTo 4 (some .int), Cond.methodLink RL 104 yX5_leadsTo, Cond.instanceMethod yX5_leadsTo, Cond.selects RX5 yX5_leadsTo yX5_leadsTo]
def wsL_law0_r13 : List Cond := [Cond.code yX5_leadsTo cX5_leadsTo 3 (some .int), Cond.methodLink RX5 114 yX5_noNumber, Cond.instanceMethod yX5_noNumber, Cond.selects RX5 yX5_noNumber yX5_noNumber, Cond.code yX5_noNumber cX5_noNumber 3 (some .boolean), Cond.methodLink RL 105 yL_seenAs, Cond.static yL_seenAs, Cond.codeWith yL_seenAs cL_seenAs 5 (some .int) [(0, 10, 13, 13), (0, 10, 17, 21)], Cond.methodLink RL 33 yX4_seenAs, Cond.instanceMethod yX4_seenAs, Cond.selects RX4 yX4_seenAs yX4_seenAs, Cond.code yX4_seenAs cX4_seenAs 4 (some .int), Cond.methodLink RX4 144 yX4_seenFrom, Cond.instanceMethod yX4_seenFrom, Cond.selects RX4 yX4_seenFrom yX4_seenFrom, Cond.code yX4_seenFrom cX4_seenFrom 8 (some .int), Cond.methodLink RX4 154 yX4_isOrIsInside, Cond.methodLink RX4 185 yX3_fromOuter, Cond.instanceMethod yX3_fromOuter, Cond.selects RX3 yX3_fromOuter yX3_fromOuter, Cond.code yX3_fromOuter cX3_fromOuter 3 (some .int), Cond.methodLink RL 107 yX5_seenAs, Cond.instanceMethod yX5_seenAs, Cond.selects RX5 yX5_seenAs yX5_seenAs]
def wsL_law0_r14 : List Cond := [Cond.code yX5_seenAs cX5_seenAs 3 (some .int), Cond.methodLink RX5 117 yX5_seen, Cond.instanceMethod yX5_seen, Cond.selects RX5 yX5_seen yX5_seen, Cond.code yX5_seen cX5_seen 5 (some .int), Cond.methodLink RL 108 yL_seenByLeading, Cond.static yL_seenByLeading, Cond.codeWith yL_seenByLeading cL_seenByLeading 5 (some .int) [(0, 10, 13, 13), (0, 10, 17, 21)], Cond.methodLink RL 36 yX4_seenByLeading, Cond.instanceMethod yX4_seenByLeading, Cond.selects RX4 yX4_seenByLeading yX4_seenByLeading, Cond.code yX4_seenByLeading cX4_seenByLeading 5 (some .int), Cond.methodLink RL 110 yX5_seenByLeading, Cond.instanceMethod yX5_seenByLeading, Cond.selects RX5 yX5_seenByLeading yX5_seenByLeading, Cond.code yX5_seenByLeading cX5_seenByLeading 3 (some .int), Cond.methodLink RX5 120 yX5_seenAs, Cond.methodLink RL 111 yL_fork, Cond.static yL_fork, Cond.codeWith yL_fork cL_fork 4 (some .int) [(0, 9, 12, 13), (0, 9, 15, 15)], Cond.methodLink RL 39 yX4_fork, Cond.instanceMethod yX4_fork, Cond.selects RX4 yX4_fork yX4_fork, Cond.code yX4_fork cX4_fork 4 (some .int)]
def wsL_law0_r15 : List Cond := [Cond.fieldLink RX4 149 "RoomNumbers$HouseProcess" "rights" "I", Cond.methodLink RL 113 yX5_fork, Cond.instanceMethod yX5_fork, Cond.selects RX5 yX5_fork yX5_fork, Cond.code yX5_fork cX5_fork 2 (some .int), Cond.methodLink RL 114 yL_drop, Cond.static yL_drop, Cond.codeWith yL_drop cL_drop 5 (some .int) [(0, 10, 13, 13), (0, 10, 17, 21)], Cond.methodLink RL 42 yX4_drop, Cond.instanceMethod yX4_drop, Cond.selects RX4 yX4_drop yX4_drop, Cond.code yX4_drop cX4_drop 4 (some .int), Cond.methodLink RL 116 yX5_drop, Cond.instanceMethod yX5_drop, Cond.selects RX5 yX5_drop yX5_drop, Cond.code yX5_drop cX5_drop 3 (some .int), Cond.methodLink RL 117 yL_enter, Cond.static yL_enter, Cond.codeWith yL_enter cL_enter 5 (some .int) [(0, 10, 13, 13)], Cond.methodLink RL 45 yX4_enter, Cond.instanceMethod yX4_enter, Cond.selects RX4 yX4_enter yX4_enter, Cond.code yX4_enter cX4_enter 5 (some .int), Cond.methodLink RL 119 yX5_enter]
def wsL_law0_r16 : List Cond := [Cond.instanceMethod yX5_enter, Cond.selects RX5 yX5_enter yX5_enter, Cond.code yX5_enter cX5_enter 4 (some .int), Cond.methodLink RL 120 yL_setNumber, Cond.static yL_setNumber, Cond.codeWith yL_setNumber cL_setNumber 5 (some .int) [(0, 10, 13, 13), (0, 10, 17, 21)], Cond.methodLink RL 48 yX4_setNumber, Cond.instanceMethod yX4_setNumber, Cond.selects RX4 yX4_setNumber yX4_setNumber, Cond.code yX4_setNumber cX4_setNumber 5 (some .int), Cond.methodLink RL 122 yX5_setNumber, Cond.instanceMethod yX5_setNumber, Cond.selects RX5 yX5_setNumber yX5_setNumber, Cond.code yX5_setNumber cX5_setNumber 6 (some .int), Cond.methodLink RL 123 yX4_processes, Cond.instanceMethod yX4_processes, Cond.selects RX4 yX4_processes yX4_processes, Cond.code yX4_processes cX4_processes 1 (some .int), Cond.methodLink RL 126 yX5_processes, Cond.instanceMethod yX5_processes, Cond.selects RX5 yX5_processes yX5_processes, Cond.code yX5_processes cX5_processes 1 (some .int), Cond.methodLink RL 127 yL_roomOf, Cond.static yL_roomOf]
def wsL_law0_r17 : List Cond := [Cond.codeWith yL_roomOf cL_roomOf 4 (some .int) [(0, 9, 12, 13)], Cond.methodLink RL 51 yX4_roomOf, Cond.instanceMethod yX4_roomOf, Cond.selects RX4 yX4_roomOf yX4_roomOf, Cond.code yX4_roomOf cX4_roomOf 2 (some .int), Cond.methodLink RL 129 yX5_roomOf, Cond.instanceMethod yX5_roomOf, Cond.selects RX5 yX5_roomOf yX5_roomOf, Cond.code yX5_roomOf cX5_roomOf 2 (some .int), Cond.methodLink RX5 126 yX5_noProcess, Cond.instanceMethod yX5_noProcess, Cond.selects RX5 yX5_noProcess yX5_noProcess, Cond.code yX5_noProcess cX5_noProcess 2 (some .boolean), Cond.methodLink RL 130 yL_numberOf, Cond.static yL_numberOf, Cond.codeWith yL_numberOf cL_numberOf 4 (some .int) [(0, 9, 12, 13)], Cond.methodLink RL 54 yX4_numberOf, Cond.instanceMethod yX4_numberOf, Cond.selects RX4 yX4_numberOf yX4_numberOf, Cond.code yX4_numberOf cX4_numberOf 2 (some .int), Cond.methodLink RL 132 yX5_numberOf, Cond.instanceMethod yX5_numberOf, Cond.selects RX5 yX5_numberOf yX5_numberOf, Cond.code yX5_numberOf cX5_numberOf 2 (some .int)]
def wsL_law0_r18 : List Cond := [Cond.methodLink RL 133 yL_rightsIn, Cond.static yL_rightsIn, Cond.codeWith yL_rightsIn cL_rightsIn 5 (some .int) [(0, 10, 13, 13)], Cond.methodLink RL 57 yX4_rightsIn, Cond.instanceMethod yX4_rightsIn, Cond.selects RX4 yX4_rightsIn yX4_rightsIn, Cond.code yX4_rightsIn cX4_rightsIn 4 (some .int), Cond.methodLink RX4 158 yX1_rightsHeldIn, Cond.methodLink RL 135 yX5_rightsIn, Cond.instanceMethod yX5_rightsIn, Cond.selects RX5 yX5_rightsIn yX5_rightsIn, Cond.code yX5_rightsIn cX5_rightsIn 3 (some .int), Cond.methodLink RL 136 yL_makeFile, Cond.static yL_makeFile, Cond.codeWith yL_makeFile cL_makeFile 5 (some .int) [(0, 10, 13, 13), (0, 10, 17, 21), (0, 10, 21, 15)], Cond.methodLink RL 60 yX4_makeFile, Cond.instanceMethod yX4_makeFile, Cond.selects RX4 yX4_makeFile yX4_makeFile, Cond.code yX4_makeFile cX4_makeFile 5 (some .int), Cond.instantiable RX0 2, Cond.initialized RX0, Cond.methodLink RX4 165 yX0_init, Cond.instanceMethod yX0_init, Cond.code yX0_init cX0_init 3 none]
def wsL_law0_r19 : List Cond := [Cond.methodLink RX0 3 objectInit, Cond.fieldLink RX0 9 "RoomNumbers$HouseFile" "owner" "I", Cond.fieldLink RX0 15 "RoomNumbers$HouseFile" "mode" "I", Cond.methodLink RL 138 yX5_makeFile, Cond.instanceMethod yX5_makeFile, Cond.selects RX5 yX5_makeFile yX5_makeFile, Cond.code yX5_makeFile cX5_makeFile 3 (some .int), Cond.fieldLink RX5 63 "RoomNumbersModel" "files" "I", Cond.methodLink RL 139 yL_handOver, Cond.static yL_handOver, Cond.codeWith yL_handOver cL_handOver 6 (some .int) [(0, 12, 15, 13), (0, 12, 19, 21)], Cond.methodLink RL 63 yX4_handOver, Cond.instanceMethod yX4_handOver, Cond.selects RX4 yX4_handOver yX4_handOver, Cond.code yX4_handOver cX4_handOver 7 (some .int), Cond.fieldLink RX4 172 "RoomNumbers$HouseFile" "owner" "I", Cond.methodLink RX4 168 yX4_fileAt, Cond.instanceMethod yX4_fileAt, Cond.selects RX4 yX4_fileAt yX4_fileAt, Cond.code yX4_fileAt cX4_fileAt 3 (some (.object "RoomNumbers$HouseFile")), Cond.methodLink RL 141 yX5_handOver, Cond.instanceMethod yX5_handOver, Cond.selects RX5 yX5_handOver yX5_handOver, Cond.code yX5_handOver cX5_handOver 7 (some .int)]
def wsL_law0_r20 : List Cond := [Cond.methodLink RX5 129 yX5_isFile, Cond.instanceMethod yX5_isFile, Cond.selects RX5 yX5_isFile yX5_isFile, Cond.code yX5_isFile cX5_isFile 2 (some .boolean), Cond.methodLink RL 142 yL_open, Cond.static yL_open, Cond.codeWith yL_open cL_open 6 (some .int) [(0, 12, 15, 13)], Cond.methodLink RL 66 yX4_open, Cond.instanceMethod yX4_open, Cond.selects RX4 yX4_open yX4_open, Cond.code yX4_open cX4_open 6 (some .int), Cond.methodLink RX4 173 yX0_allows, Cond.instanceMethod yX0_allows, Cond.selects RX0 yX0_allows yX0_allows, Cond.code yX0_allows cX0_allows 5 (some .boolean), Cond.methodLink RL 145 yX5_open, Cond.instanceMethod yX5_open, Cond.selects RX5 yX5_open yX5_open, Cond.code yX5_open cX5_open 5 (some .int), Cond.methodLink RL 146 yL_ownerSeenBy, Cond.static yL_ownerSeenBy, Cond.codeWith yL_ownerSeenBy cL_ownerSeenBy 5 (some .int) [(0, 10, 13, 13)], Cond.methodLink RL 70 yX4_ownerSeenBy, Cond.instanceMethod yX4_ownerSeenBy]
def wsL_law0_r21 : List Cond := [Cond.selects RX4 yX4_ownerSeenBy yX4_ownerSeenBy, Cond.code yX4_ownerSeenBy cX4_ownerSeenBy 4 (some .int), Cond.methodLink RL 148 yX5_ownerSeenBy, Cond.instanceMethod yX5_ownerSeenBy, Cond.selects RX5 yX5_ownerSeenBy yX5_ownerSeenBy, Cond.code yX5_ownerSeenBy cX5_ownerSeenBy 3 (some .int), Cond.methodLink RL 149 yX4_files, Cond.instanceMethod yX4_files, Cond.selects RX4 yX4_files yX4_files, Cond.code yX4_files cX4_files 1 (some .int), Cond.methodLink RL 152 yX5_files, Cond.instanceMethod yX5_files, Cond.selects RX5 yX5_files yX5_files, Cond.code yX5_files cX5_files 1 (some .int), Cond.methodLink RL 153 yX4_refusals, Cond.instanceMethod yX4_refusals, Cond.selects RX4 yX4_refusals yX4_refusals, Cond.code yX4_refusals cX4_refusals 1 (some .int), Cond.methodLink RL 156 yX5_refusals, Cond.instanceMethod yX5_refusals, Cond.selects RX5 yX5_refusals yX5_refusals, Cond.code yX5_refusals cX5_refusals 1 (some .int), Cond.methodLink RL 157 yX4_lastRefusal, Cond.instanceMethod yX4_lastRefusal]
def wsL_law0_r22 : List Cond := [Cond.selects RX4 yX4_lastRefusal yX4_lastRefusal, Cond.code yX4_lastRefusal cX4_lastRefusal 1 (some .int), Cond.methodLink RL 160 yX5_lastRefusal, Cond.instanceMethod yX5_lastRefusal, Cond.selects RX5 yX5_lastRefusal yX5_lastRefusal, Cond.code yX5_lastRefusal cX5_lastRefusal 1 (some .int)]
def wsL_law0 : List Cond := (wsL_law0_r1 ++ (wsL_law0_r2 ++ (wsL_law0_r3 ++ (wsL_law0_r4 ++ (wsL_law0_r5 ++ (wsL_law0_r6 ++ (wsL_law0_r7 ++ (wsL_law0_r8 ++ (wsL_law0_r9 ++ (wsL_law0_r10 ++ (wsL_law0_r11 ++ (wsL_law0_r12 ++ (wsL_law0_r13 ++ (wsL_law0_r14 ++ (wsL_law0_r15 ++ (wsL_law0_r16 ++ (wsL_law0_r17 ++ (wsL_law0_r18 ++ (wsL_law0_r19 ++ (wsL_law0_r20 ++ (wsL_law0_r21 ++ wsL_law0_r22))))))))))))))))))))) ++ wsX40 ++ wsX50 ++ wsX30 ++ wsX10 ++ wsX20 ++ wsX00 ++ ([] : List Cond)
def wsL_law : List Cond := wsL_law0 ++ (vx_atS RX4 61 "java/lang/IllegalStateException" ["java/lang/RuntimeException", "java/lang/Exception"]).filter goodWord ++ (vx_atS RX4 107 "java/lang/IndexOutOfBoundsException" ["java/lang/RuntimeException", "java/lang/Exception"]).filter goodWord ++ (vx_atS RX4 84 "java/lang/IllegalArgumentException" ["java/lang/RuntimeException", "java/lang/Exception"]).filter goodWord
abbrev vwCl : List vw_C := [(RX0, TX0, 2), (RX1, TX1, 3), (RX2, TX2, 4), (RX3, TX3, 4), (RX4, TX4, 9), (RX5, TX5, 18)]
end
section
theorem rn_by_places {big : List Cond} (ws : List Cond) (ps : List Nat) (hp : ws = ps.filterMap (fun i => big[i]?)) : ∀ w ∈ ws, w ∈ big := by
  intro w hw
  rw [hp] at hw
  obtain ⟨i, -, hi⟩ := List.mem_filterMap.mp hw
  exact List.mem_of_getElem? hi
theorem rn_app {big a b : List Cond} (ha : ∀ w ∈ a, w ∈ big) (hb : ∀ w ∈ b, w ∈ big) : ∀ w ∈ a ++ b, w ∈ big := fun w h => (List.mem_append.mp h).elim (ha w) (hb w)
set_option maxRecDepth 20000 in
theorem wsL_law0_r1_in : ∀ w ∈ wsL_law0_r1, w ∈ lw_tbl := fun w h => rn_by_places wsL_law0_r1 [36, 37, 24, 499, 500, 27, 731, 38, 39, 40, 41, 42, 43, 44, 45, 25, 92, 93, 70, 94, 72, 26, 95, 90] (by decide +kernel) w h
set_option maxRecDepth 20000 in
theorem wsL_law0_r2_in : ∀ w ∈ wsL_law0_r2, w ∈ lw_tbl := fun w h => rn_by_places wsL_law0_r2 [96, 97, 98, 99, 100, 46, 47, 48, 49, 50, 52, 55, 58, 73, 74, 75, 76, 77, 79, 81, 501, 502, 503, 504] (by decide +kernel) w h
set_option maxRecDepth 20000 in
theorem wsL_law0_r3_in : ∀ w ∈ wsL_law0_r3, w ∈ lw_tbl := fun w h => rn_by_places wsL_law0_r3 [506, 560, 507, 508, 509, 510, 511, 512, 514, 515, 516, 517, 519, 520, 140, 141, 23, 142, 143, 144, 145, 146, 147, 148] (by decide +kernel) w h
set_option maxRecDepth 20000 in
theorem wsL_law0_r4_in : ∀ w ∈ wsL_law0_r4, w ∈ lw_tbl := fun w h => rn_by_places wsL_law0_r4 [221, 32, 78, 80, 51, 149, 151, 0, 152, 153, 31, 237, 238, 239, 240, 565, 566, 567, 568, 569, 571, 7, 572, 573] (by decide +kernel) w h
set_option maxRecDepth 20000 in
theorem wsL_law0_r5_in : ∀ w ∈ wsL_law0_r5, w ∈ lw_tbl := fun w h => rn_by_places wsL_law0_r5 [574, 575, 576, 578, 8, 579, 505, 561, 562, 563, 564, 241, 242, 243, 244, 245, 246, 247, 248, 252, 33, 273, 274, 34] (by decide +kernel) w h
set_option maxRecDepth 20000 in
theorem wsL_law0_r6_in : ∀ w ∈ wsL_law0_r6, w ∈ lw_tbl := fun w h => rn_by_places wsL_law0_r6 [249, 250, 251, 269, 270, 271, 289, 275, 276, 277, 278, 279, 281, 284, 287, 580, 581, 582, 583, 513, 584, 585, 586, 299] (by decide +kernel) w h
set_option maxRecDepth 20000 in
theorem wsL_law0_r7_in : ∀ w ∈ wsL_law0_r7, w ∈ lw_tbl := fun w h => rn_by_places wsL_law0_r7 [300, 301, 302, 303, 304, 305, 53, 59, 56, 283, 306, 308, 2, 309, 312, 314, 3, 315, 316, 317, 318, 319, 320, 321] (by decide +kernel) w h
set_option maxRecDepth 20000 in
theorem wsL_law0_r8_in : ∀ w ∈ wsL_law0_r8, w ∈ lw_tbl := fun w h => rn_by_places wsL_law0_r8 [322, 323, 324, 325, 326, 327, 328, 286, 329, 330, 331, 332, 333, 334, 335, 280, 285, 282, 288, 336, 337, 338, 339, 340] (by decide +kernel) w h
set_option maxRecDepth 20000 in
theorem wsL_law0_r9_in : ∀ w ∈ wsL_law0_r9, w ∈ lw_tbl := fun w h => rn_by_places wsL_law0_r9 [341, 342, 343, 344, 345, 346, 347, 348, 350, 4, 351, 54, 57, 353, 354, 587, 588, 589, 590, 591, 593, 9, 594, 595] (by decide +kernel) w h
set_option maxRecDepth 20000 in
theorem wsL_law0_r10_in : ∀ w ∈ wsL_law0_r10, w ∈ lw_tbl := fun w h => rn_by_places wsL_law0_r10 [597, 10, 598, 599, 600, 601, 602, 604, 11, 605, 606, 608, 12, 609, 610, 612, 13, 613, 614, 616, 14, 617, 618, 620] (by decide +kernel) w h
set_option maxRecDepth 20000 in
theorem wsL_law0_r11_in : ∀ w ∈ wsL_law0_r11, w ∈ lw_tbl := fun w h => rn_by_places wsL_law0_r11 [15, 621, 622, 624, 16, 625, 626, 628, 17, 629, 521, 522, 120, 121, 122, 123, 630, 631, 632, 633, 634, 636, 18, 637] (by decide +kernel) w h
set_option maxRecDepth 20000 in
theorem wsL_law0_r12_in : ∀ w ∈ wsL_law0_r12, w ∈ lw_tbl := fun w h => rn_by_places wsL_law0_r12 [355, 356, 357, 358, 359, 360, 361, 362, 363, 364, 638, 639, 640, 641, 365, 366, 367, 368, 369, 370, 371, 642, 643, 644] (by decide +kernel) w h
set_option maxRecDepth 20000 in
theorem wsL_law0_r13_in : ∀ w ∈ wsL_law0_r13, w ∈ lw_tbl := fun w h => rn_by_places wsL_law0_r13 [645, 646, 648, 19, 649, 372, 373, 374, 375, 376, 377, 378, 379, 381, 5, 382, 383, 384, 385, 386, 387, 650, 651, 652] (by decide +kernel) w h
set_option maxRecDepth 20000 in
theorem wsL_law0_r14_in : ∀ w ∈ wsL_law0_r14, w ∈ lw_tbl := fun w h => rn_by_places wsL_law0_r14 [653, 654, 656, 20, 657, 388, 389, 390, 391, 392, 393, 394, 658, 659, 660, 661, 662, 395, 396, 397, 398, 399, 400, 401] (by decide +kernel) w h
set_option maxRecDepth 20000 in
theorem wsL_law0_r15_in : ∀ w ∈ wsL_law0_r15, w ∈ lw_tbl := fun w h => rn_by_places wsL_law0_r15 [82, 663, 664, 665, 666, 403, 404, 405, 406, 407, 408, 409, 667, 668, 669, 670, 411, 412, 413, 414, 415, 416, 417, 671] (by decide +kernel) w h
set_option maxRecDepth 20000 in
theorem wsL_law0_r16_in : ∀ w ∈ wsL_law0_r16, w ∈ lw_tbl := fun w h => rn_by_places wsL_law0_r16 [672, 673, 674, 418, 419, 420, 421, 422, 423, 424, 675, 676, 677, 678, 124, 125, 126, 127, 679, 680, 681, 682, 425, 426] (by decide +kernel) w h
set_option maxRecDepth 20000 in
theorem wsL_law0_r17_in : ∀ w ∈ wsL_law0_r17, w ∈ lw_tbl := fun w h => rn_by_places wsL_law0_r17 [427, 428, 429, 430, 431, 683, 684, 685, 686, 687, 689, 21, 690, 432, 433, 434, 435, 436, 437, 438, 691, 692, 693, 694] (by decide +kernel) w h
set_option maxRecDepth 20000 in
theorem wsL_law0_r18_in : ∀ w ∈ wsL_law0_r18, w ∈ lw_tbl := fun w h => rn_by_places wsL_law0_r18 [439, 440, 441, 442, 443, 444, 445, 446, 695, 696, 697, 698, 447, 448, 449, 450, 451, 452, 453, 456, 35, 457, 458, 459] (by decide +kernel) w h
set_option maxRecDepth 20000 in
theorem wsL_law0_r19_in : ∀ w ∈ wsL_law0_r19, w ∈ lw_tbl := fun w h => rn_by_places wsL_law0_r19 [460, 461, 463, 699, 700, 701, 702, 518, 469, 470, 471, 472, 473, 474, 475, 462, 476, 478, 6, 479, 703, 704, 705, 706] (by decide +kernel) w h
set_option maxRecDepth 20000 in
theorem wsL_law0_r20_in : ∀ w ∈ wsL_law0_r20, w ∈ lw_tbl := fun w h => rn_by_places wsL_law0_r20 [707, 709, 22, 710, 481, 482, 483, 484, 485, 486, 487, 488, 489, 490, 491, 711, 712, 713, 714, 492, 493, 494, 495, 496] (by decide +kernel) w h
set_option maxRecDepth 20000 in
theorem wsL_law0_r21_in : ∀ w ∈ wsL_law0_r21, w ∈ lw_tbl := fun w h => rn_by_places wsL_law0_r21 [497, 498, 715, 716, 717, 718, 128, 129, 130, 131, 719, 720, 721, 722, 132, 133, 134, 135, 723, 724, 725, 726, 136, 137] (by decide +kernel) w h
set_option maxRecDepth 20000 in
theorem wsL_law0_r22_in : ∀ w ∈ wsL_law0_r22, w ∈ lw_tbl := fun w h => rn_by_places wsL_law0_r22 [138, 139, 727, 728, 729, 730] (by decide +kernel) w h
set_option maxRecDepth 20000 in
theorem wsX00_inT : ∀ w ∈ wsX00, w ∈ lw_tbl := fun w h => rn_by_places wsX00 [464, 466] (by decide +kernel) w h
set_option maxRecDepth 20000 in
theorem wsX10_inT : ∀ w ∈ wsX10, w ∈ lw_tbl := fun w h => rn_by_places wsX10 [83, 85, 87] (by decide +kernel) w h
set_option maxRecDepth 20000 in
theorem wsX20_inT : ∀ w ∈ wsX20, w ∈ lw_tbl := fun w h => rn_by_places wsX20 [290, 292, 294, 296] (by decide +kernel) w h
set_option maxRecDepth 20000 in
theorem wsX30_inT : ∀ w ∈ wsX30, w ∈ lw_tbl := fun w h => rn_by_places wsX30 [60, 62, 64, 66] (by decide +kernel) w h
set_option maxRecDepth 20000 in
theorem wsX40_inT : ∀ w ∈ wsX40, w ∈ lw_tbl := fun w h => rn_by_places wsX40 [101, 103, 105, 107, 109, 111, 113, 115, 117] (by decide +kernel) w h
set_option maxRecDepth 20000 in
theorem wsX50_inT : ∀ w ∈ wsX50, w ∈ lw_tbl := fun w h => rn_by_places wsX50 [523, 525, 527, 529, 531, 533, 535, 537, 539, 541, 543, 545, 547, 549, 551, 553, 555, 557] (by decide +kernel) w h
theorem wsL_law_in0 : ∀ w ∈ wsL_law0, w ∈ lw_tbl := rn_app (rn_app (rn_app (rn_app (rn_app (rn_app (rn_app (rn_app wsL_law0_r1_in (rn_app wsL_law0_r2_in (rn_app wsL_law0_r3_in (rn_app wsL_law0_r4_in (rn_app wsL_law0_r5_in (rn_app wsL_law0_r6_in (rn_app wsL_law0_r7_in (rn_app wsL_law0_r8_in (rn_app wsL_law0_r9_in (rn_app wsL_law0_r10_in (rn_app wsL_law0_r11_in (rn_app wsL_law0_r12_in (rn_app wsL_law0_r13_in (rn_app wsL_law0_r14_in (rn_app wsL_law0_r15_in (rn_app wsL_law0_r16_in (rn_app wsL_law0_r17_in (rn_app wsL_law0_r18_in (rn_app wsL_law0_r19_in (rn_app wsL_law0_r20_in (rn_app wsL_law0_r21_in (wsL_law0_r22_in)))))))))))))))))))))) wsX40_inT) wsX50_inT) wsX30_inT) wsX10_inT) wsX20_inT) wsX00_inT) (fun _ h => nomatch h)
theorem wsL_law_x0 : ∀ w ∈ (vx_atS RX4 61 "java/lang/IllegalStateException" ["java/lang/RuntimeException", "java/lang/Exception"]).filter goodWord, w ∈ lw_tbl := by decide +kernel
theorem wsL_law_x1 : ∀ w ∈ (vx_atS RX4 107 "java/lang/IndexOutOfBoundsException" ["java/lang/RuntimeException", "java/lang/Exception"]).filter goodWord, w ∈ lw_tbl := by decide +kernel
theorem wsL_law_x2 : ∀ w ∈ (vx_atS RX4 84 "java/lang/IllegalArgumentException" ["java/lang/RuntimeException", "java/lang/Exception"]).filter goodWord, w ∈ lw_tbl := by decide +kernel
theorem wsL_law_in : ∀ w ∈ wsL_law, w ∈ lw_tbl := fun w h => (List.mem_append.mp h).elim (fun h => (List.mem_append.mp h).elim (fun h => (List.mem_append.mp h).elim (fun h => wsL_law_in0 w h) (fun h => wsL_law_x0 w h)) (fun h => wsL_law_x1 w h)) (fun h => wsL_law_x2 w h)
theorem inlX0 : ∀ w ∈ wsX00, w ∈ wsL_law := fun _ h => List.mem_append_left _ (List.mem_append_left _ (List.mem_append_left _ (List.mem_append_left _ (List.mem_append_right _ h))))
theorem inX0 : ∀ w ∈ wsX00, w ∈ lw_tbl := fun w h => wsL_law_in w (inlX0 w h)
theorem inlX1 : ∀ w ∈ wsX10, w ∈ wsL_law := fun _ h => List.mem_append_left _ (List.mem_append_left _ (List.mem_append_left _ (List.mem_append_left _ (List.mem_append_left _ (List.mem_append_left _ (List.mem_append_right _ h))))))
theorem inX1 : ∀ w ∈ wsX10, w ∈ lw_tbl := fun w h => wsL_law_in w (inlX1 w h)
theorem inlX2 : ∀ w ∈ wsX20, w ∈ wsL_law := fun _ h => List.mem_append_left _ (List.mem_append_left _ (List.mem_append_left _ (List.mem_append_left _ (List.mem_append_left _ (List.mem_append_right _ h)))))
theorem inX2 : ∀ w ∈ wsX20, w ∈ lw_tbl := fun w h => wsL_law_in w (inlX2 w h)
theorem inlX3 : ∀ w ∈ wsX30, w ∈ wsL_law := fun _ h => List.mem_append_left _ (List.mem_append_left _ (List.mem_append_left _ (List.mem_append_left _ (List.mem_append_left _ (List.mem_append_left _ (List.mem_append_left _ (List.mem_append_right _ h)))))))
theorem inX3 : ∀ w ∈ wsX30, w ∈ lw_tbl := fun w h => wsL_law_in w (inlX3 w h)
theorem inlX4 : ∀ w ∈ wsX40, w ∈ wsL_law := fun _ h => List.mem_append_left _ (List.mem_append_left _ (List.mem_append_left _ (List.mem_append_left _ (List.mem_append_left _ (List.mem_append_left _ (List.mem_append_left _ (List.mem_append_left _ (List.mem_append_left _ (List.mem_append_right _ h)))))))))
theorem inX4 : ∀ w ∈ wsX40, w ∈ lw_tbl := fun w h => wsL_law_in w (inlX4 w h)
theorem inlX5 : ∀ w ∈ wsX50, w ∈ wsL_law := fun _ h => List.mem_append_left _ (List.mem_append_left _ (List.mem_append_left _ (List.mem_append_left _ (List.mem_append_left _ (List.mem_append_left _ (List.mem_append_left _ (List.mem_append_left _ (List.mem_append_right _ h))))))))
theorem inX5 : ∀ w ∈ wsX50, w ∈ lw_tbl := fun w h => wsL_law_in w (inlX5 w h)
theorem inJ0 : ∀ w ∈ wsJ00, w ∈ lw_tbl := by decide +kernel
end
section
set_option maxRecDepth 20000 in
theorem ggX1_rightsHeldIn_X1_ownsRoomAround : GoodIn wsX1_rightsHeldIn wsX1_ownsRoomAround := goodIn_r _ [7, 8, 1, 9, 10, 18, 19, 20, 21, 15, 16, 17] (by decide +kernel) (by decide +kernel)
set_option maxRecDepth 20000 in
theorem gX1_rightsHeldIn_X1_ownsRoomAround : GoodIn wsX1_rightsHeldIn (wsV RX1 22 RX1 yX1_ownsRoomAround wsX1_ownsRoomAround) := goodIn_app (goodIn_of _ (by decide +kernel)) ggX1_rightsHeldIn_X1_ownsRoomAround
set_option maxRecDepth 20000 in
theorem ggX1_rightsHeldIn_X4_isOrIsInside : GoodIn wsX1_rightsHeldIn wsX4_isOrIsInside := goodIn_r _ [13, 14, 18, 19, 20, 21] (by decide +kernel) (by decide +kernel)
set_option maxRecDepth 20000 in
theorem gX1_rightsHeldIn_X4_isOrIsInside_n26 : GoodIn wsX1_rightsHeldIn (wsX4_isOrIsInside) := ggX1_rightsHeldIn_X4_isOrIsInside
set_option maxRecDepth 20000 in
theorem ggX1_hasRight_X1_rightsHeldIn : GoodIn wsX1_hasRight wsX1_rightsHeldIn := goodIn_r _ [5, 6, 7, 8, 9, 10, 4, 11, 12, 13, 14, 15, 16, 17, 18, 19, 20, 21, 22, 23, 24, 25] (by decide +kernel) (by decide +kernel)
set_option maxRecDepth 20000 in
theorem gX1_hasRight_X1_rightsHeldIn : GoodIn wsX1_hasRight (wsV RX1 30 RX1 yX1_rightsHeldIn wsX1_rightsHeldIn) := goodIn_app (goodIn_of _ (by decide +kernel)) ggX1_hasRight_X1_rightsHeldIn
set_option maxRecDepth 20000 in
theorem ggX2_meets_X2_rangesMeet : GoodIn wsX2_meets wsX2_rangesMeet := goodIn_r _ [7] (by decide +kernel) (by decide +kernel)
set_option maxRecDepth 20000 in
theorem gX2_meets_X2_rangesMeet : GoodIn wsX2_meets (va_wsS RX2 23 yX2_rangesMeet wsX2_rangesMeet) := goodIn_app (goodIn_of _ (by decide +kernel)) ggX2_meets_X2_rangesMeet
set_option maxRecDepth 20000 in
theorem ggX4_init_X3_init : GoodIn wsX4_init wsX3_init := goodIn_r _ [22, 23, 2, 3, 24, 25, 26, 27, 35, 36, 37, 38] (by decide +kernel) (by decide +kernel)
set_option maxRecDepth 20000 in
theorem gX4_init_X3_init : GoodIn wsX4_init (wsX3_init) := ggX4_init_X3_init
set_option maxRecDepth 20000 in
theorem ggX4_init_X1_init : GoodIn wsX4_init wsX1_init := goodIn_r _ [30, 31, 2, 3, 32, 33, 34, 48, 49, 50] (by decide +kernel) (by decide +kernel)
set_option maxRecDepth 20000 in
theorem gX4_init_X1_init : GoodIn wsX4_init (wsX1_init) := ggX4_init_X1_init
set_option maxRecDepth 20000 in
theorem ggX4_makeRoom_X4_processAt : GoodIn wsX4_makeRoom wsX4_processAt := goodIn_ca (goodIn_r _ [15, 16, 17, 18, 36, 37, 38, 39, 40, 41, 42, 43, 44] (by decide +kernel) (by decide +kernel)) (goodIn_sub (fun _ h => List.mem_cons_of_mem _ (List.mem_append_right _ h)) (by decide +kernel))
set_option maxRecDepth 20000 in
theorem gX4_makeRoom_X4_processAt : GoodIn wsX4_makeRoom (wsV RX4 53 RX4 yX4_processAt wsX4_processAt) := goodIn_app (goodIn_of _ (by decide +kernel)) ggX4_makeRoom_X4_processAt
set_option maxRecDepth 20000 in
theorem ggX4_makeRoom_X3_init : GoodIn wsX4_makeRoom wsX3_init := goodIn_r _ [21, 22, 23, 24, 25, 26, 27, 28, 45, 46, 47, 48] (by decide +kernel) (by decide +kernel)
set_option maxRecDepth 20000 in
theorem gX4_makeRoom_X3_init : GoodIn wsX4_makeRoom (wsX3_init) := ggX4_makeRoom_X3_init
set_option maxRecDepth 20000 in
theorem ggX4_makeRoom_X1_moveInto : GoodIn wsX4_makeRoom wsX1_moveInto := goodIn_r _ [33, 34, 35, 49, 50, 51] (by decide +kernel) (by decide +kernel)
set_option maxRecDepth 20000 in
theorem gX4_makeRoom_X1_moveInto : GoodIn wsX4_makeRoom (wsV RX4 71 RX1 yX1_moveInto wsX1_moveInto) := goodIn_app (goodIn_of _ (by decide +kernel)) ggX4_makeRoom_X1_moveInto
set_option maxRecDepth 20000 in
theorem ggX4_line_X4_requireNumber : GoodIn wsX4_line wsX4_requireNumber := goodIn_ca (goodIn_r _ [12, 1, 2] (by decide +kernel) (by decide +kernel)) (goodIn_sub (fun _ h => List.mem_cons_of_mem _ (List.mem_append_left _ (List.mem_append_right _ h))) (by decide +kernel))
set_option maxRecDepth 20000 in
theorem gX4_line_X4_requireNumber : GoodIn wsX4_line (va_wsS RX4 76 yX4_requireNumber wsX4_requireNumber) := goodIn_app (goodIn_of _ (by decide +kernel)) ggX4_line_X4_requireNumber
set_option maxRecDepth 20000 in
theorem ggX4_line_X4_countOf : GoodIn wsX4_line wsX4_countOf := goodIn_r _ [15, 16, 36, 37, 38, 39] (by decide +kernel) (by decide +kernel)
set_option maxRecDepth 20000 in
theorem gX4_line_X4_countOf : GoodIn wsX4_line (va_wsS RX4 85 yX4_countOf wsX4_countOf) := goodIn_app (goodIn_of _ (by decide +kernel)) ggX4_line_X4_countOf
set_option maxRecDepth 20000 in
theorem ggX4_line_X2_init : GoodIn wsX4_line wsX2_init := goodIn_r _ [19, 20, 21, 22, 23, 24, 25, 26, 36, 37, 38, 39] (by decide +kernel) (by decide +kernel)
set_option maxRecDepth 20000 in
theorem gX4_line_X2_init : GoodIn wsX4_line (wsX2_init) := ggX4_line_X2_init
set_option maxRecDepth 20000 in
theorem ggX4_writeMap_X4_processAt : GoodIn wsX4_writeMap wsX4_processAt := goodIn_ca (goodIn_r _ [13, 1, 2, 14, 91, 92, 93, 94, 95, 96, 97, 98, 99] (by decide +kernel) (by decide +kernel)) (goodIn_sub (fun _ h => List.mem_cons_of_mem _ (List.mem_append_right _ h)) (by decide +kernel))
set_option maxRecDepth 20000 in
theorem gX4_writeMap_X4_processAt : GoodIn wsX4_writeMap (wsV RX4 53 RX4 yX4_processAt wsX4_processAt) := goodIn_app (goodIn_of _ (by decide +kernel)) ggX4_writeMap_X4_processAt
set_option maxRecDepth 20000 in
theorem ggX4_writeMap_X4_roomAt : GoodIn wsX4_writeMap wsX4_roomAt := goodIn_ca (goodIn_r _ [18, 1, 2, 19, 91, 92, 93, 94, 95, 96, 97, 98, 99] (by decide +kernel) (by decide +kernel)) (goodIn_sub (fun _ h => List.mem_cons_of_mem _ (List.mem_append_right _ h)) (by decide +kernel))
set_option maxRecDepth 20000 in
theorem gX4_writeMap_X4_roomAt : GoodIn wsX4_writeMap (wsV RX4 96 RX4 yX4_roomAt wsX4_roomAt) := goodIn_app (goodIn_of _ (by decide +kernel)) ggX4_writeMap_X4_roomAt
set_option maxRecDepth 20000 in
theorem ggX4_writeMap_X4_refuse : GoodIn wsX4_writeMap wsX4_refuse := goodIn_r _ [23, 24, 25, 91, 92, 93, 94, 95, 96, 97, 98, 99] (by decide +kernel) (by decide +kernel)
set_option maxRecDepth 20000 in
theorem gX4_writeMap_X4_refuse : GoodIn wsX4_writeMap (wsV RX4 111 RX4 yX4_refuse wsX4_refuse) := goodIn_app (goodIn_of _ (by decide +kernel)) ggX4_writeMap_X4_refuse
set_option maxRecDepth 20000 in
theorem ggX4_writeMap_X4_anyMeet : GoodIn wsX4_writeMap wsX4_anyMeet := goodIn_r _ [28, 29, 30, 31, 32, 33, 34, 35, 36, 37, 38, 39, 40, 103, 104, 105, 106] (by decide +kernel) (by decide +kernel)
set_option maxRecDepth 20000 in
theorem gX4_writeMap_X4_anyMeet : GoodIn wsX4_writeMap (va_wsS RX4 115 yX4_anyMeet wsX4_anyMeet) := goodIn_app (goodIn_of _ (by decide +kernel)) ggX4_writeMap_X4_anyMeet
set_option maxRecDepth 20000 in
theorem ggX4_writeMap_X4_allLeadOut : GoodIn wsX4_writeMap wsX4_allLeadOut := goodIn_r _ [43, 44, 8, 29, 45, 46, 12, 47, 3, 48, 49, 50, 51, 52, 53, 54, 55, 56, 57, 58, 103, 104, 105, 106, 87, 88, 89, 90] (by decide +kernel) (by decide +kernel)
set_option maxRecDepth 20000 in
theorem gX4_writeMap_X4_allLeadOut : GoodIn wsX4_writeMap (va_wsS RX4 119 yX4_allLeadOut wsX4_allLeadOut) := goodIn_app (goodIn_of _ (by decide +kernel)) ggX4_writeMap_X4_allLeadOut
set_option maxRecDepth 20000 in
theorem ggX4_writeMap_X2_isOfOneNumber : GoodIn wsX4_writeMap wsX2_isOfOneNumber := goodIn_r _ [62, 63, 36, 103, 104, 105, 106] (by decide +kernel) (by decide +kernel)
set_option maxRecDepth 20000 in
theorem gX4_writeMap_X2_isOfOneNumber : GoodIn wsX4_writeMap (wsV RX4 123 RX2 yX2_isOfOneNumber wsX2_isOfOneNumber) := goodIn_app (goodIn_of _ (by decide +kernel)) ggX4_writeMap_X2_isOfOneNumber
set_option maxRecDepth 20000 in
theorem ggX4_writeMap_X4_leadOut : GoodIn wsX4_writeMap wsX4_leadOut := goodIn_r _ [47, 3, 48, 49, 50, 51, 52, 53, 54, 55, 56, 57, 58, 87, 88, 89, 90, 103, 104, 105, 106] (by decide +kernel) (by decide +kernel)
set_option maxRecDepth 20000 in
theorem gX4_writeMap_X4_leadOut : GoodIn wsX4_writeMap (va_wsS RX4 132 yX4_leadOut wsX4_leadOut) := goodIn_app (goodIn_of _ (by decide +kernel)) ggX4_writeMap_X4_leadOut
set_option maxRecDepth 20000 in
theorem ggX4_writeMap_X1_hasRight : GoodIn wsX4_writeMap wsX1_hasRight := goodIn_r _ [68, 69, 70, 71, 67, 72, 73, 74, 75, 76, 77, 78, 79, 80, 81, 82, 12, 83, 3, 100, 101, 102, 87, 88, 89, 90] (by decide +kernel) (by decide +kernel)
set_option maxRecDepth 20000 in
theorem gX4_writeMap_X1_hasRight : GoodIn wsX4_writeMap (wsV RX4 136 RX1 yX1_hasRight wsX1_hasRight) := goodIn_app (goodIn_of _ (by decide +kernel)) ggX4_writeMap_X1_hasRight
set_option maxRecDepth 20000 in
theorem ggX4_writeMap_X4_countOf : GoodIn wsX4_writeMap wsX4_countOf := goodIn_r _ [86, 29, 103, 104, 105, 106] (by decide +kernel) (by decide +kernel)
set_option maxRecDepth 20000 in
theorem gX4_writeMap_X4_countOf : GoodIn wsX4_writeMap (va_wsS RX4 85 yX4_countOf wsX4_countOf) := goodIn_app (goodIn_of _ (by decide +kernel)) ggX4_writeMap_X4_countOf
set_option maxRecDepth 20000 in
theorem ggX4_outerOf_X4_roomAt : GoodIn wsX4_outerOf wsX4_roomAt := goodIn_ca (goodIn_r _ [6, 7, 8, 9, 18, 19, 20, 21, 22, 23, 24, 25, 26] (by decide +kernel) (by decide +kernel)) (goodIn_sub (fun _ h => List.mem_cons_of_mem _ (List.mem_append_right _ h)) (by decide +kernel))
set_option maxRecDepth 20000 in
theorem gX4_outerOf_X4_roomAt : GoodIn wsX4_outerOf (wsV RX4 96 RX4 yX4_roomAt wsX4_roomAt) := goodIn_app (goodIn_of _ (by decide +kernel)) ggX4_outerOf_X4_roomAt
set_option maxRecDepth 20000 in
theorem ggX4_outerOf_X4_numberOrNone : GoodIn wsX4_outerOf wsX4_numberOrNone := goodIn_r _ [12, 13, 14, 15, 16, 17] (by decide +kernel) (by decide +kernel)
set_option maxRecDepth 20000 in
theorem gX4_outerOf_X4_numberOrNone : GoodIn wsX4_outerOf (va_wsS RX4 140 yX4_numberOrNone wsX4_numberOrNone) := goodIn_app (goodIn_of _ (by decide +kernel)) ggX4_outerOf_X4_numberOrNone
set_option maxRecDepth 20000 in
theorem ggX4_leadsTo_X4_roomAt : GoodIn wsX4_leadsTo wsX4_roomAt := goodIn_ca (goodIn_r _ [5, 6, 7, 8, 29, 30, 31, 32, 33, 34, 35, 36, 37] (by decide +kernel) (by decide +kernel)) (goodIn_sub (fun _ h => List.mem_cons_of_mem _ (List.mem_append_left _ (List.mem_append_right _ h))) (by decide +kernel))
set_option maxRecDepth 20000 in
theorem gX4_leadsTo_X4_roomAt : GoodIn wsX4_leadsTo (wsV RX4 96 RX4 yX4_roomAt wsX4_roomAt) := goodIn_app (goodIn_of _ (by decide +kernel)) ggX4_leadsTo_X4_roomAt
set_option maxRecDepth 20000 in
theorem ggX4_leadsTo_X4_requireNumber : GoodIn wsX4_leadsTo wsX4_requireNumber := goodIn_ca (goodIn_r _ [11, 12, 13] (by decide +kernel) (by decide +kernel)) (goodIn_sub (fun _ h => List.mem_cons_of_mem _ (List.mem_append_right _ h)) (by decide +kernel))
set_option maxRecDepth 20000 in
theorem gX4_leadsTo_X4_requireNumber : GoodIn wsX4_leadsTo (va_wsS RX4 76 yX4_requireNumber wsX4_requireNumber) := goodIn_app (goodIn_of _ (by decide +kernel)) ggX4_leadsTo_X4_requireNumber
set_option maxRecDepth 20000 in
theorem ggX4_leadsTo_X4_leadOut : GoodIn wsX4_leadsTo wsX4_leadOut := goodIn_r _ [16, 17, 18, 19, 20, 21, 22, 23, 24, 25, 26, 27, 28, 38, 39, 40, 41, 42, 43, 44, 45] (by decide +kernel) (by decide +kernel)
set_option maxRecDepth 20000 in
theorem gX4_leadsTo_X4_leadOut : GoodIn wsX4_leadsTo (va_wsS RX4 132 yX4_leadOut wsX4_leadOut) := goodIn_app (goodIn_of _ (by decide +kernel)) ggX4_leadsTo_X4_leadOut
set_option maxRecDepth 20000 in
theorem ggX4_seenAs_X4_roomAt : GoodIn wsX4_seenAs wsX4_roomAt := goodIn_ca (goodIn_r _ [5, 6, 7, 8, 33, 34, 35, 36, 37, 38, 39, 40, 41] (by decide +kernel) (by decide +kernel)) (goodIn_sub (fun _ h => List.mem_cons_of_mem _ (List.mem_append_left _ (List.mem_append_right _ h))) (by decide +kernel))
set_option maxRecDepth 20000 in
theorem gX4_seenAs_X4_roomAt : GoodIn wsX4_seenAs (wsV RX4 96 RX4 yX4_roomAt wsX4_roomAt) := goodIn_app (goodIn_of _ (by decide +kernel)) ggX4_seenAs_X4_roomAt
set_option maxRecDepth 20000 in
theorem ggX4_seenAs_X4_requireNumber : GoodIn wsX4_seenAs wsX4_requireNumber := goodIn_ca (goodIn_r _ [11, 12, 13] (by decide +kernel) (by decide +kernel)) (goodIn_sub (fun _ h => List.mem_cons_of_mem _ (List.mem_append_right _ h)) (by decide +kernel))
set_option maxRecDepth 20000 in
theorem gX4_seenAs_X4_requireNumber : GoodIn wsX4_seenAs (va_wsS RX4 76 yX4_requireNumber wsX4_requireNumber) := goodIn_app (goodIn_of _ (by decide +kernel)) ggX4_seenAs_X4_requireNumber
set_option maxRecDepth 20000 in
theorem ggX4_seenAs_X4_seenFrom : GoodIn wsX4_seenAs wsX4_seenFrom := goodIn_r _ [17, 8, 18, 19, 4, 20, 21, 22, 23, 24, 25, 26, 27, 28, 29, 30, 31, 32, 33, 34, 35, 36, 37, 38, 39, 40, 41, 42, 43, 44, 45, 46, 47, 48, 49] (by decide +kernel) (by decide +kernel)
set_option maxRecDepth 20000 in
theorem gX4_seenAs_X4_seenFrom : GoodIn wsX4_seenAs (wsV RX4 144 RX4 yX4_seenFrom wsX4_seenFrom) := goodIn_app (goodIn_of _ (by decide +kernel)) ggX4_seenAs_X4_seenFrom
set_option maxRecDepth 20000 in
theorem ggX4_seenByLeading_X4_roomAt : GoodIn wsX4_seenByLeading wsX4_roomAt := goodIn_ca (goodIn_r _ [5, 6, 7, 8, 29, 30, 31, 32, 33, 34, 35, 36, 37] (by decide +kernel) (by decide +kernel)) (goodIn_sub (fun _ h => List.mem_cons_of_mem _ (List.mem_append_left _ (List.mem_append_right _ h))) (by decide +kernel))
set_option maxRecDepth 20000 in
theorem gX4_seenByLeading_X4_roomAt : GoodIn wsX4_seenByLeading (wsV RX4 96 RX4 yX4_roomAt wsX4_roomAt) := goodIn_app (goodIn_of _ (by decide +kernel)) ggX4_seenByLeading_X4_roomAt
set_option maxRecDepth 20000 in
theorem ggX4_seenByLeading_X4_requireNumber : GoodIn wsX4_seenByLeading wsX4_requireNumber := goodIn_ca (goodIn_r _ [11, 12, 13] (by decide +kernel) (by decide +kernel)) (goodIn_sub (fun _ h => List.mem_cons_of_mem _ (List.mem_append_right _ h)) (by decide +kernel))
set_option maxRecDepth 20000 in
theorem gX4_seenByLeading_X4_requireNumber : GoodIn wsX4_seenByLeading (va_wsS RX4 76 yX4_requireNumber wsX4_requireNumber) := goodIn_app (goodIn_of _ (by decide +kernel)) ggX4_seenByLeading_X4_requireNumber
set_option maxRecDepth 20000 in
theorem ggX4_seenByLeading_X4_leadOut : GoodIn wsX4_seenByLeading wsX4_leadOut := goodIn_r _ [16, 17, 18, 19, 20, 21, 22, 23, 24, 25, 26, 27, 28, 38, 39, 40, 41, 42, 43, 44, 45] (by decide +kernel) (by decide +kernel)
set_option maxRecDepth 20000 in
theorem gX4_seenByLeading_X4_leadOut : GoodIn wsX4_seenByLeading (va_wsS RX4 132 yX4_leadOut wsX4_leadOut) := goodIn_app (goodIn_of _ (by decide +kernel)) ggX4_seenByLeading_X4_leadOut
set_option maxRecDepth 20000 in
theorem ggX4_fork_X4_processAt : GoodIn wsX4_fork wsX4_processAt := goodIn_ca (goodIn_r _ [15, 16, 17, 4, 27, 28, 29, 30, 31, 32, 33, 34, 35] (by decide +kernel) (by decide +kernel)) (goodIn_sub (fun _ h => List.mem_cons_of_mem _ (List.mem_append_right _ h)) (by decide +kernel))
set_option maxRecDepth 20000 in
theorem gX4_fork_X4_processAt : GoodIn wsX4_fork (wsV RX4 53 RX4 yX4_processAt wsX4_processAt) := goodIn_app (goodIn_of _ (by decide +kernel)) ggX4_fork_X4_processAt
set_option maxRecDepth 20000 in
theorem ggX4_fork_X1_init : GoodIn wsX4_fork wsX1_init := goodIn_r _ [20, 21, 22, 23, 24, 25, 26, 36, 37, 38] (by decide +kernel) (by decide +kernel)
set_option maxRecDepth 20000 in
theorem gX4_fork_X1_init : GoodIn wsX4_fork (wsX1_init) := ggX4_fork_X1_init
set_option maxRecDepth 20000 in
theorem ggX4_drop_X4_processAt : GoodIn wsX4_drop wsX4_processAt := goodIn_ca (goodIn_r _ [8, 9, 10, 11, 15, 16, 17, 18, 19, 20, 21, 22, 23] (by decide +kernel) (by decide +kernel)) (goodIn_sub (fun _ h => List.mem_cons_of_mem _ (List.mem_append_right _ h)) (by decide +kernel))
set_option maxRecDepth 20000 in
theorem gX4_drop_X4_processAt : GoodIn wsX4_drop (wsV RX4 53 RX4 yX4_processAt wsX4_processAt) := goodIn_app (goodIn_of _ (by decide +kernel)) ggX4_drop_X4_processAt
set_option maxRecDepth 20000 in
theorem ggX4_enter_X4_processAt : GoodIn wsX4_enter wsX4_processAt := goodIn_ca (goodIn_r _ [8, 9, 10, 11, 55, 56, 57, 58, 59, 60, 61, 62, 63] (by decide +kernel) (by decide +kernel)) (goodIn_sub (fun _ h => List.mem_cons_of_mem _ (List.mem_append_right _ h)) (by decide +kernel))
set_option maxRecDepth 20000 in
theorem gX4_enter_X4_processAt : GoodIn wsX4_enter (wsV RX4 53 RX4 yX4_processAt wsX4_processAt) := goodIn_app (goodIn_of _ (by decide +kernel)) ggX4_enter_X4_processAt
set_option maxRecDepth 20000 in
theorem ggX4_enter_X4_roomAt : GoodIn wsX4_enter wsX4_roomAt := goodIn_ca (goodIn_r _ [15, 9, 10, 16, 55, 56, 57, 58, 59, 60, 61, 62, 63] (by decide +kernel) (by decide +kernel)) (goodIn_sub (fun _ h => List.mem_cons_of_mem _ (List.mem_append_right _ h)) (by decide +kernel))
set_option maxRecDepth 20000 in
theorem gX4_enter_X4_roomAt : GoodIn wsX4_enter (wsV RX4 96 RX4 yX4_roomAt wsX4_roomAt) := goodIn_app (goodIn_of _ (by decide +kernel)) ggX4_enter_X4_roomAt
set_option maxRecDepth 20000 in
theorem ggX4_enter_X4_isOrIsInside : GoodIn wsX4_enter wsX4_isOrIsInside := goodIn_r _ [19, 1, 48, 49, 50, 51] (by decide +kernel) (by decide +kernel)
set_option maxRecDepth 20000 in
theorem gX4_enter_X4_isOrIsInside : GoodIn wsX4_enter (va_wsS RX4 154 yX4_isOrIsInside wsX4_isOrIsInside) := goodIn_app (goodIn_of _ (by decide +kernel)) ggX4_enter_X4_isOrIsInside
set_option maxRecDepth 20000 in
theorem ggX4_enter_X4_refuse : GoodIn wsX4_enter wsX4_refuse := goodIn_r _ [23, 24, 25, 55, 56, 57, 58, 59, 60, 61, 62, 63] (by decide +kernel) (by decide +kernel)
set_option maxRecDepth 20000 in
theorem gX4_enter_X4_refuse : GoodIn wsX4_enter (wsV RX4 111 RX4 yX4_refuse wsX4_refuse) := goodIn_app (goodIn_of _ (by decide +kernel)) ggX4_enter_X4_refuse
set_option maxRecDepth 20000 in
theorem ggX4_enter_X1_hasRight : GoodIn wsX4_enter wsX1_hasRight := goodIn_r _ [30, 31, 32, 33, 29, 34, 35, 36, 37, 38, 39, 40, 41, 42, 43, 18, 7, 19, 1, 52, 53, 54, 48, 49, 50, 51] (by decide +kernel) (by decide +kernel)
set_option maxRecDepth 20000 in
theorem gX4_enter_X1_hasRight : GoodIn wsX4_enter (wsV RX4 136 RX1 yX1_hasRight wsX1_hasRight) := goodIn_app (goodIn_of _ (by decide +kernel)) ggX4_enter_X1_hasRight
set_option maxRecDepth 20000 in
theorem ggX4_enter_X1_moveInto : GoodIn wsX4_enter wsX1_moveInto := goodIn_r _ [47, 35, 36, 52, 53, 54] (by decide +kernel) (by decide +kernel)
set_option maxRecDepth 20000 in
theorem gX4_enter_X1_moveInto : GoodIn wsX4_enter (wsV RX4 71 RX1 yX1_moveInto wsX1_moveInto) := goodIn_app (goodIn_of _ (by decide +kernel)) ggX4_enter_X1_moveInto
set_option maxRecDepth 20000 in
theorem ggX4_setNumber_X4_processAt : GoodIn wsX4_setNumber wsX4_processAt := goodIn_ca (goodIn_r _ [8, 9, 10, 11, 71, 72, 73, 74, 75, 76, 77, 78, 79] (by decide +kernel) (by decide +kernel)) (goodIn_sub (fun _ h => List.mem_cons_of_mem _ (List.mem_append_left _ (List.mem_append_right _ h))) (by decide +kernel))
set_option maxRecDepth 20000 in
theorem gX4_setNumber_X4_processAt : GoodIn wsX4_setNumber (wsV RX4 53 RX4 yX4_processAt wsX4_processAt) := goodIn_app (goodIn_of _ (by decide +kernel)) ggX4_setNumber_X4_processAt
set_option maxRecDepth 20000 in
theorem ggX4_setNumber_X4_requireNumber : GoodIn wsX4_setNumber wsX4_requireNumber := goodIn_ca (goodIn_r _ [14, 15, 16] (by decide +kernel) (by decide +kernel)) (goodIn_sub (fun _ h => List.mem_cons_of_mem _ (List.mem_append_right _ h)) (by decide +kernel))
set_option maxRecDepth 20000 in
theorem gX4_setNumber_X4_requireNumber : GoodIn wsX4_setNumber (va_wsS RX4 76 yX4_requireNumber wsX4_requireNumber) := goodIn_app (goodIn_of _ (by decide +kernel)) ggX4_setNumber_X4_requireNumber
set_option maxRecDepth 20000 in
theorem ggX4_setNumber_X4_leadOut : GoodIn wsX4_setNumber wsX4_leadOut := goodIn_r _ [19, 20, 21, 22, 23, 24, 25, 26, 27, 28, 29, 30, 31, 80, 81, 82, 83, 84, 85, 86, 87] (by decide +kernel) (by decide +kernel)
set_option maxRecDepth 20000 in
theorem gX4_setNumber_X4_leadOut : GoodIn wsX4_setNumber (va_wsS RX4 132 yX4_leadOut wsX4_leadOut) := goodIn_app (goodIn_of _ (by decide +kernel)) ggX4_setNumber_X4_leadOut
set_option maxRecDepth 20000 in
theorem ggX4_setNumber_X4_refuse : GoodIn wsX4_setNumber wsX4_refuse := goodIn_r _ [35, 36, 37, 71, 72, 73, 74, 75, 76, 77, 78, 79] (by decide +kernel) (by decide +kernel)
set_option maxRecDepth 20000 in
theorem gX4_setNumber_X4_refuse : GoodIn wsX4_setNumber (wsV RX4 111 RX4 yX4_refuse wsX4_refuse) := goodIn_app (goodIn_of _ (by decide +kernel)) ggX4_setNumber_X4_refuse
set_option maxRecDepth 20000 in
theorem ggX4_setNumber_X1_hasRight : GoodIn wsX4_setNumber wsX1_hasRight := goodIn_r _ [42, 43, 44, 45, 41, 46, 47, 48, 49, 50, 51, 52, 53, 54, 55, 56, 7, 57, 20, 68, 69, 70, 80, 81, 82, 83] (by decide +kernel) (by decide +kernel)
set_option maxRecDepth 20000 in
theorem gX4_setNumber_X1_hasRight : GoodIn wsX4_setNumber (wsV RX4 136 RX1 yX1_hasRight wsX1_hasRight) := goodIn_app (goodIn_of _ (by decide +kernel)) ggX4_setNumber_X1_hasRight
set_option maxRecDepth 20000 in
theorem ggX4_setNumber_X4_seenFrom : GoodIn wsX4_setNumber wsX4_seenFrom := goodIn_r _ [61, 62, 63, 56, 7, 57, 20, 64, 65, 66, 24, 67, 26, 27, 30, 29, 28, 31, 71, 72, 73, 74, 75, 76, 77, 78, 79, 80, 81, 82, 83, 84, 85, 86, 87] (by decide +kernel) (by decide +kernel)
set_option maxRecDepth 20000 in
theorem gX4_setNumber_X4_seenFrom : GoodIn wsX4_setNumber (wsV RX4 144 RX4 yX4_seenFrom wsX4_seenFrom) := goodIn_app (goodIn_of _ (by decide +kernel)) ggX4_setNumber_X4_seenFrom
set_option maxRecDepth 20000 in
theorem ggX4_roomOf_X4_processAt : GoodIn wsX4_roomOf wsX4_processAt := goodIn_ca (goodIn_r _ [6, 7, 8, 9, 17, 18, 19, 20, 21, 22, 23, 24, 25] (by decide +kernel) (by decide +kernel)) (goodIn_sub (fun _ h => List.mem_cons_of_mem _ (List.mem_append_right _ h)) (by decide +kernel))
set_option maxRecDepth 20000 in
theorem gX4_roomOf_X4_processAt : GoodIn wsX4_roomOf (wsV RX4 53 RX4 yX4_processAt wsX4_processAt) := goodIn_app (goodIn_of _ (by decide +kernel)) ggX4_roomOf_X4_processAt
set_option maxRecDepth 20000 in
theorem ggX4_roomOf_X4_numberOrNone : GoodIn wsX4_roomOf wsX4_numberOrNone := goodIn_r _ [12, 13, 26, 27, 28, 29] (by decide +kernel) (by decide +kernel)
set_option maxRecDepth 20000 in
theorem gX4_roomOf_X4_numberOrNone : GoodIn wsX4_roomOf (va_wsS RX4 140 yX4_numberOrNone wsX4_numberOrNone) := goodIn_app (goodIn_of _ (by decide +kernel)) ggX4_roomOf_X4_numberOrNone
set_option maxRecDepth 20000 in
theorem ggX4_numberOf_X4_processAt : GoodIn wsX4_numberOf wsX4_processAt := goodIn_ca (goodIn_r _ [6, 7, 8, 9, 13, 14, 15, 16, 17, 18, 19, 20, 21] (by decide +kernel) (by decide +kernel)) (goodIn_sub (fun _ h => List.mem_cons_of_mem _ (List.mem_append_right _ h)) (by decide +kernel))
set_option maxRecDepth 20000 in
theorem gX4_numberOf_X4_processAt : GoodIn wsX4_numberOf (wsV RX4 53 RX4 yX4_processAt wsX4_processAt) := goodIn_app (goodIn_of _ (by decide +kernel)) ggX4_numberOf_X4_processAt
set_option maxRecDepth 20000 in
theorem ggX4_rightsIn_X4_processAt : GoodIn wsX4_rightsIn wsX4_processAt := goodIn_ca (goodIn_r _ [5, 6, 7, 8, 31, 32, 33, 34, 35, 36, 37, 38, 39] (by decide +kernel) (by decide +kernel)) (goodIn_sub (fun _ h => List.mem_cons_of_mem _ (List.mem_append_right _ h)) (by decide +kernel))
set_option maxRecDepth 20000 in
theorem gX4_rightsIn_X4_processAt : GoodIn wsX4_rightsIn (wsV RX4 53 RX4 yX4_processAt wsX4_processAt) := goodIn_app (goodIn_of _ (by decide +kernel)) ggX4_rightsIn_X4_processAt
set_option maxRecDepth 20000 in
theorem ggX4_rightsIn_X4_roomAt : GoodIn wsX4_rightsIn wsX4_roomAt := goodIn_ca (goodIn_r _ [12, 6, 7, 13, 31, 32, 33, 34, 35, 36, 37, 38, 39] (by decide +kernel) (by decide +kernel)) (goodIn_sub (fun _ h => List.mem_cons_of_mem _ (List.mem_append_right _ h)) (by decide +kernel))
set_option maxRecDepth 20000 in
theorem gX4_rightsIn_X4_roomAt : GoodIn wsX4_rightsIn (wsV RX4 96 RX4 yX4_roomAt wsX4_roomAt) := goodIn_app (goodIn_of _ (by decide +kernel)) ggX4_rightsIn_X4_roomAt
set_option maxRecDepth 20000 in
theorem ggX4_rightsIn_X1_rightsHeldIn : GoodIn wsX4_rightsIn wsX1_rightsHeldIn := goodIn_r _ [18, 19, 20, 21, 22, 23, 17, 24, 25, 26, 27, 28, 4, 29, 30, 40, 41, 42, 43, 44, 45, 46] (by decide +kernel) (by decide +kernel)
set_option maxRecDepth 20000 in
theorem gX4_rightsIn_X1_rightsHeldIn : GoodIn wsX4_rightsIn (wsV RX4 158 RX1 yX1_rightsHeldIn wsX1_rightsHeldIn) := goodIn_app (goodIn_of _ (by decide +kernel)) ggX4_rightsIn_X1_rightsHeldIn
set_option maxRecDepth 20000 in
theorem ggX4_makeFile_X4_processAt : GoodIn wsX4_makeFile wsX4_processAt := goodIn_ca (goodIn_r _ [16, 17, 18, 19, 54, 55, 56, 57, 58, 59, 60, 61, 62] (by decide +kernel) (by decide +kernel)) (goodIn_sub (fun _ h => List.mem_cons_of_mem _ (List.mem_append_right _ h)) (by decide +kernel))
set_option maxRecDepth 20000 in
theorem gX4_makeFile_X4_processAt : GoodIn wsX4_makeFile (wsV RX4 53 RX4 yX4_processAt wsX4_processAt) := goodIn_app (goodIn_of _ (by decide +kernel)) ggX4_makeFile_X4_processAt
set_option maxRecDepth 20000 in
theorem ggX4_makeFile_X4_seenFrom : GoodIn wsX4_makeFile wsX4_seenFrom := goodIn_r _ [23, 24, 25, 26, 15, 27, 28, 29, 30, 31, 32, 33, 34, 35, 36, 37, 38, 39, 54, 55, 56, 57, 58, 59, 60, 61, 62, 68, 69, 70, 71, 72, 73, 74, 75] (by decide +kernel) (by decide +kernel)
set_option maxRecDepth 20000 in
theorem gX4_makeFile_X4_seenFrom : GoodIn wsX4_makeFile (wsV RX4 144 RX4 yX4_seenFrom wsX4_seenFrom) := goodIn_app (goodIn_of _ (by decide +kernel)) ggX4_makeFile_X4_seenFrom
set_option maxRecDepth 20000 in
theorem ggX4_makeFile_X4_refuse : GoodIn wsX4_makeFile wsX4_refuse := goodIn_r _ [43, 44, 45, 54, 55, 56, 57, 58, 59, 60, 61, 62] (by decide +kernel) (by decide +kernel)
set_option maxRecDepth 20000 in
theorem gX4_makeFile_X4_refuse : GoodIn wsX4_makeFile (wsV RX4 111 RX4 yX4_refuse wsX4_refuse) := goodIn_app (goodIn_of _ (by decide +kernel)) ggX4_makeFile_X4_refuse
set_option maxRecDepth 20000 in
theorem ggX4_makeFile_X0_init : GoodIn wsX4_makeFile wsX0_init := goodIn_r _ [48, 49, 50, 51, 52, 53, 66, 67] (by decide +kernel) (by decide +kernel)
set_option maxRecDepth 20000 in
theorem gX4_makeFile_X0_init : GoodIn wsX4_makeFile (wsX0_init) := ggX4_makeFile_X0_init
set_option maxRecDepth 20000 in
theorem ggX4_handOver_X4_processAt : GoodIn wsX4_handOver wsX4_processAt := goodIn_ca (goodIn_r _ [7, 8, 9, 10, 77, 78, 79, 80, 81, 82, 83, 84, 85] (by decide +kernel) (by decide +kernel)) (goodIn_sub (fun _ h => List.mem_cons_of_mem _ (List.mem_append_left _ (List.mem_append_right _ h))) (by decide +kernel))
set_option maxRecDepth 20000 in
theorem gX4_handOver_X4_processAt : GoodIn wsX4_handOver (wsV RX4 53 RX4 yX4_processAt wsX4_processAt) := goodIn_app (goodIn_of _ (by decide +kernel)) ggX4_handOver_X4_processAt
set_option maxRecDepth 20000 in
theorem ggX4_handOver_X4_fileAt : GoodIn wsX4_handOver wsX4_fileAt := goodIn_ca (goodIn_r _ [14, 8, 9, 15, 77, 78, 79, 80, 81, 82, 83, 84, 85] (by decide +kernel) (by decide +kernel)) (goodIn_sub (fun _ h => List.mem_cons_of_mem _ (List.mem_append_left _ (List.mem_append_right _ h))) (by decide +kernel))
set_option maxRecDepth 20000 in
theorem gX4_handOver_X4_fileAt : GoodIn wsX4_handOver (wsV RX4 168 RX4 yX4_fileAt wsX4_fileAt) := goodIn_app (goodIn_of _ (by decide +kernel)) ggX4_handOver_X4_fileAt
set_option maxRecDepth 20000 in
theorem ggX4_handOver_X4_requireNumber : GoodIn wsX4_handOver wsX4_requireNumber := goodIn_ca (goodIn_r _ [18, 19, 20] (by decide +kernel) (by decide +kernel)) (goodIn_sub (fun _ h => List.mem_cons_of_mem _ (List.mem_append_right _ h)) (by decide +kernel))
set_option maxRecDepth 20000 in
theorem gX4_handOver_X4_requireNumber : GoodIn wsX4_handOver (va_wsS RX4 76 yX4_requireNumber wsX4_requireNumber) := goodIn_app (goodIn_of _ (by decide +kernel)) ggX4_handOver_X4_requireNumber
set_option maxRecDepth 20000 in
theorem ggX4_handOver_X4_leadOut : GoodIn wsX4_handOver wsX4_leadOut := goodIn_r _ [23, 24, 25, 26, 27, 28, 29, 30, 31, 32, 33, 34, 35, 86, 87, 88, 89, 90, 91, 92, 93] (by decide +kernel) (by decide +kernel)
set_option maxRecDepth 20000 in
theorem gX4_handOver_X4_leadOut : GoodIn wsX4_handOver (va_wsS RX4 132 yX4_leadOut wsX4_leadOut) := goodIn_app (goodIn_of _ (by decide +kernel)) ggX4_handOver_X4_leadOut
set_option maxRecDepth 20000 in
theorem ggX4_handOver_X4_seenFrom : GoodIn wsX4_handOver wsX4_seenFrom := goodIn_r _ [39, 40, 41, 42, 6, 43, 24, 44, 45, 46, 28, 47, 30, 31, 34, 33, 32, 35, 77, 78, 79, 80, 81, 82, 83, 84, 85, 86, 87, 88, 89, 90, 91, 92, 93] (by decide +kernel) (by decide +kernel)
set_option maxRecDepth 20000 in
theorem gX4_handOver_X4_seenFrom : GoodIn wsX4_handOver (wsV RX4 144 RX4 yX4_seenFrom wsX4_seenFrom) := goodIn_app (goodIn_of _ (by decide +kernel)) ggX4_handOver_X4_seenFrom
set_option maxRecDepth 20000 in
theorem ggX4_handOver_X4_refuse : GoodIn wsX4_handOver wsX4_refuse := goodIn_r _ [51, 52, 53, 77, 78, 79, 80, 81, 82, 83, 84, 85] (by decide +kernel) (by decide +kernel)
set_option maxRecDepth 20000 in
theorem gX4_handOver_X4_refuse : GoodIn wsX4_handOver (wsV RX4 111 RX4 yX4_refuse wsX4_refuse) := goodIn_app (goodIn_of _ (by decide +kernel)) ggX4_handOver_X4_refuse
set_option maxRecDepth 20000 in
theorem ggX4_handOver_X1_hasRight : GoodIn wsX4_handOver wsX1_hasRight := goodIn_r _ [58, 59, 60, 61, 57, 62, 63, 64, 65, 66, 67, 68, 69, 70, 71, 42, 6, 43, 24, 72, 73, 74, 86, 87, 88, 89] (by decide +kernel) (by decide +kernel)
set_option maxRecDepth 20000 in
theorem gX4_handOver_X1_hasRight : GoodIn wsX4_handOver (wsV RX4 136 RX1 yX1_hasRight wsX1_hasRight) := goodIn_app (goodIn_of _ (by decide +kernel)) ggX4_handOver_X1_hasRight
set_option maxRecDepth 20000 in
theorem ggX4_open_X4_processAt : GoodIn wsX4_open wsX4_processAt := goodIn_ca (goodIn_r _ [8, 9, 10, 11, 73, 74, 75, 76, 77, 78, 79, 80, 81] (by decide +kernel) (by decide +kernel)) (goodIn_sub (fun _ h => List.mem_cons_of_mem _ (List.mem_append_right _ h)) (by decide +kernel))
set_option maxRecDepth 20000 in
theorem gX4_open_X4_processAt : GoodIn wsX4_open (wsV RX4 53 RX4 yX4_processAt wsX4_processAt) := goodIn_app (goodIn_of _ (by decide +kernel)) ggX4_open_X4_processAt
set_option maxRecDepth 20000 in
theorem ggX4_open_X4_fileAt : GoodIn wsX4_open wsX4_fileAt := goodIn_ca (goodIn_r _ [15, 9, 10, 16, 73, 74, 75, 76, 77, 78, 79, 80, 81] (by decide +kernel) (by decide +kernel)) (goodIn_sub (fun _ h => List.mem_cons_of_mem _ (List.mem_append_right _ h)) (by decide +kernel))
set_option maxRecDepth 20000 in
theorem gX4_open_X4_fileAt : GoodIn wsX4_open (wsV RX4 168 RX4 yX4_fileAt wsX4_fileAt) := goodIn_app (goodIn_of _ (by decide +kernel)) ggX4_open_X4_fileAt
set_option maxRecDepth 20000 in
theorem ggX4_open_X0_allows : GoodIn wsX4_open wsX0_allows := goodIn_r _ [21, 22, 23, 71, 72] (by decide +kernel) (by decide +kernel)
set_option maxRecDepth 20000 in
theorem gX4_open_X0_allows : GoodIn wsX4_open (wsV RX4 173 RX0 yX0_allows wsX0_allows) := goodIn_app (goodIn_of _ (by decide +kernel)) ggX4_open_X0_allows
set_option maxRecDepth 20000 in
theorem ggX4_open_X1_hasRight : GoodIn wsX4_open wsX1_hasRight := goodIn_r _ [28, 29, 30, 31, 27, 32, 33, 34, 35, 36, 37, 38, 39, 40, 41, 42, 7, 43, 44, 68, 69, 70, 82, 83, 84, 85] (by decide +kernel) (by decide +kernel)
set_option maxRecDepth 20000 in
theorem gX4_open_X1_hasRight : GoodIn wsX4_open (wsV RX4 136 RX1 yX1_hasRight wsX1_hasRight) := goodIn_app (goodIn_of _ (by decide +kernel)) ggX4_open_X1_hasRight
set_option maxRecDepth 20000 in
theorem ggX4_open_X4_refuse : GoodIn wsX4_open wsX4_refuse := goodIn_r _ [48, 49, 50, 73, 74, 75, 76, 77, 78, 79, 80, 81] (by decide +kernel) (by decide +kernel)
set_option maxRecDepth 20000 in
theorem gX4_open_X4_refuse : GoodIn wsX4_open (wsV RX4 111 RX4 yX4_refuse wsX4_refuse) := goodIn_app (goodIn_of _ (by decide +kernel)) ggX4_open_X4_refuse
set_option maxRecDepth 20000 in
theorem ggX4_open_X4_seenFrom : GoodIn wsX4_open wsX4_seenFrom := goodIn_r _ [54, 55, 56, 42, 7, 43, 44, 57, 58, 59, 60, 61, 62, 63, 64, 65, 66, 67, 73, 74, 75, 76, 77, 78, 79, 80, 81, 82, 83, 84, 85, 86, 87, 88, 89] (by decide +kernel) (by decide +kernel)
set_option maxRecDepth 20000 in
theorem gX4_open_X4_seenFrom : GoodIn wsX4_open (wsV RX4 144 RX4 yX4_seenFrom wsX4_seenFrom) := goodIn_app (goodIn_of _ (by decide +kernel)) ggX4_open_X4_seenFrom
set_option maxRecDepth 20000 in
theorem ggX4_ownerSeenBy_X4_processAt : GoodIn wsX4_ownerSeenBy wsX4_processAt := goodIn_ca (goodIn_r _ [7, 8, 9, 10, 41, 42, 43, 44, 45, 46, 47, 48, 49] (by decide +kernel) (by decide +kernel)) (goodIn_sub (fun _ h => List.mem_cons_of_mem _ (List.mem_append_right _ h)) (by decide +kernel))
set_option maxRecDepth 20000 in
theorem gX4_ownerSeenBy_X4_processAt : GoodIn wsX4_ownerSeenBy (wsV RX4 53 RX4 yX4_processAt wsX4_processAt) := goodIn_app (goodIn_of _ (by decide +kernel)) ggX4_ownerSeenBy_X4_processAt
set_option maxRecDepth 20000 in
theorem ggX4_ownerSeenBy_X4_fileAt : GoodIn wsX4_ownerSeenBy wsX4_fileAt := goodIn_ca (goodIn_r _ [14, 8, 9, 15, 41, 42, 43, 44, 45, 46, 47, 48, 49] (by decide +kernel) (by decide +kernel)) (goodIn_sub (fun _ h => List.mem_cons_of_mem _ (List.mem_append_right _ h)) (by decide +kernel))
set_option maxRecDepth 20000 in
theorem gX4_ownerSeenBy_X4_fileAt : GoodIn wsX4_ownerSeenBy (wsV RX4 168 RX4 yX4_fileAt wsX4_fileAt) := goodIn_app (goodIn_of _ (by decide +kernel)) ggX4_ownerSeenBy_X4_fileAt
set_option maxRecDepth 20000 in
theorem ggX4_ownerSeenBy_X4_seenFrom : GoodIn wsX4_ownerSeenBy wsX4_seenFrom := goodIn_r _ [19, 20, 21, 22, 6, 23, 24, 25, 26, 27, 28, 29, 30, 31, 32, 33, 34, 35, 41, 42, 43, 44, 45, 46, 47, 48, 49, 50, 51, 52, 53, 54, 55, 56, 57] (by decide +kernel) (by decide +kernel)
set_option maxRecDepth 20000 in
theorem gX4_ownerSeenBy_X4_seenFrom : GoodIn wsX4_ownerSeenBy (wsV RX4 144 RX4 yX4_seenFrom wsX4_seenFrom) := goodIn_app (goodIn_of _ (by decide +kernel)) ggX4_ownerSeenBy_X4_seenFrom
set_option maxRecDepth 20000 in
theorem ggX4_seenFrom_X4_isOrIsInside : GoodIn wsX4_seenFrom wsX4_isOrIsInside := goodIn_r _ [5, 6, 27, 28, 29, 30] (by decide +kernel) (by decide +kernel)
set_option maxRecDepth 20000 in
theorem gX4_seenFrom_X4_isOrIsInside : GoodIn wsX4_seenFrom (va_wsS RX4 154 yX4_isOrIsInside wsX4_isOrIsInside) := goodIn_app (goodIn_of _ (by decide +kernel)) ggX4_seenFrom_X4_isOrIsInside
set_option maxRecDepth 20000 in
theorem ggX4_seenFrom_X3_fromOuter : GoodIn wsX4_seenFrom wsX3_fromOuter := goodIn_r _ [11, 12, 13, 14, 15, 16, 17, 27, 28, 29, 30, 31, 32, 33, 34] (by decide +kernel) (by decide +kernel)
set_option maxRecDepth 20000 in
theorem gX4_seenFrom_X3_fromOuter : GoodIn wsX4_seenFrom (wsV RX4 185 RX3 yX3_fromOuter wsX3_fromOuter) := goodIn_app (goodIn_of _ (by decide +kernel)) ggX4_seenFrom_X3_fromOuter
set_option maxRecDepth 20000 in
theorem ggX4_anyMeet_X2_meets : GoodIn wsX4_anyMeet wsX2_meets := goodIn_r _ [6, 7, 8, 9, 10, 11, 5, 12, 13, 14, 15, 16] (by decide +kernel) (by decide +kernel)
set_option maxRecDepth 20000 in
theorem gX4_anyMeet_X2_meets : GoodIn wsX4_anyMeet (wsV RX4 191 RX2 yX2_meets wsX2_meets) := goodIn_app (goodIn_of _ (by decide +kernel)) ggX4_anyMeet_X2_meets
set_option maxRecDepth 20000 in
theorem ggX4_allLeadOut_X4_leadOut : GoodIn wsX4_allLeadOut wsX4_leadOut := goodIn_r _ [7, 8, 9, 10, 11, 12, 13, 14, 15, 16, 17, 18, 19, 24, 25, 26, 27, 20, 21, 22, 23] (by decide +kernel) (by decide +kernel)
set_option maxRecDepth 20000 in
theorem gX4_allLeadOut_X4_leadOut : GoodIn wsX4_allLeadOut (va_wsS RX4 132 yX4_leadOut wsX4_leadOut) := goodIn_app (goodIn_of _ (by decide +kernel)) ggX4_allLeadOut_X4_leadOut
set_option maxRecDepth 20000 in
theorem ggX4_leadOut_X3_toOuter : GoodIn wsX4_leadOut wsX3_toOuter := goodIn_r _ [6, 7, 8, 9, 10, 11, 12, 13, 14, 15, 16, 17, 18, 19, 20] (by decide +kernel) (by decide +kernel)
set_option maxRecDepth 20000 in
theorem gX4_leadOut_X3_toOuter : GoodIn wsX4_leadOut (wsV RX4 197 RX3 yX3_toOuter wsX3_toOuter) := goodIn_app (goodIn_of _ (by decide +kernel)) ggX4_leadOut_X3_toOuter
set_option maxRecDepth 20000 in
theorem ggX5_isRoom_X5_in : GoodIn wsX5_isRoom wsX5_in := goodIn_r _ [5] (by decide +kernel) (by decide +kernel)
set_option maxRecDepth 20000 in
theorem gX5_isRoom_X5_in : GoodIn wsX5_isRoom (va_wsS RX5 59 yX5_in wsX5_in) := goodIn_app (goodIn_of _ (by decide +kernel)) ggX5_isRoom_X5_in
set_option maxRecDepth 20000 in
theorem ggX5_isProcess_X5_in : GoodIn wsX5_isProcess wsX5_in := goodIn_r _ [5] (by decide +kernel) (by decide +kernel)
set_option maxRecDepth 20000 in
theorem gX5_isProcess_X5_in : GoodIn wsX5_isProcess (va_wsS RX5 59 yX5_in wsX5_in) := goodIn_app (goodIn_of _ (by decide +kernel)) ggX5_isProcess_X5_in
set_option maxRecDepth 20000 in
theorem ggX5_isFile_X5_in : GoodIn wsX5_isFile wsX5_in := goodIn_r _ [5] (by decide +kernel) (by decide +kernel)
set_option maxRecDepth 20000 in
theorem gX5_isFile_X5_in : GoodIn wsX5_isFile (va_wsS RX5 59 yX5_in wsX5_in) := goodIn_app (goodIn_of _ (by decide +kernel)) ggX5_isFile_X5_in
set_option maxRecDepth 20000 in
theorem ggX5_isNumber_X5_in : GoodIn wsX5_isNumber wsX5_in := goodIn_r _ [4] (by decide +kernel) (by decide +kernel)
set_option maxRecDepth 20000 in
theorem gX5_isNumber_X5_in : GoodIn wsX5_isNumber (va_wsS RX5 59 yX5_in wsX5_in) := goodIn_app (goodIn_of _ (by decide +kernel)) ggX5_isNumber_X5_in
set_option maxRecDepth 20000 in
theorem ggX5_makeRoom_X5_isProcess : GoodIn wsX5_makeRoom wsX5_isProcess := goodIn_r _ [11, 12, 13, 14, 10, 15, 21, 22, 23, 24, 25, 26, 27, 28, 29, 30, 31, 32, 33, 34, 35, 36, 37, 38] (by decide +kernel) (by decide +kernel)
set_option maxRecDepth 20000 in
theorem gX5_makeRoom_X5_isProcess : GoodIn wsX5_makeRoom (wsV RX5 66 RX5 yX5_isProcess wsX5_isProcess) := goodIn_app (goodIn_of _ (by decide +kernel)) ggX5_makeRoom_X5_isProcess
set_option maxRecDepth 20000 in
theorem ggX5_makeRoom_X5_refused : GoodIn wsX5_makeRoom wsX5_refused := goodIn_r _ [19, 20, 21, 22, 23, 24, 25, 26, 27, 28, 29, 30, 31, 32, 33, 34, 35, 36, 37, 38] (by decide +kernel) (by decide +kernel)
set_option maxRecDepth 20000 in
theorem gX5_makeRoom_X5_refused : GoodIn wsX5_makeRoom (wsV RX5 70 RX5 yX5_refused wsX5_refused) := goodIn_app (goodIn_of _ (by decide +kernel)) ggX5_makeRoom_X5_refused
set_option maxRecDepth 20000 in
theorem ggX5_line_X5_isNumber : GoodIn wsX5_line wsX5_isNumber := goodIn_r _ [8, 9, 10, 7, 11] (by decide +kernel) (by decide +kernel)
set_option maxRecDepth 20000 in
theorem gX5_line_X5_isNumber : GoodIn wsX5_line (va_wsS RX5 73 yX5_isNumber wsX5_isNumber) := goodIn_app (goodIn_of _ (by decide +kernel)) ggX5_line_X5_isNumber
set_option maxRecDepth 20000 in
theorem ggX5_line_X5_in : GoodIn wsX5_line wsX5_in := goodIn_r _ [11] (by decide +kernel) (by decide +kernel)
set_option maxRecDepth 20000 in
theorem gX5_line_X5_in : GoodIn wsX5_line (va_wsS RX5 59 yX5_in wsX5_in) := goodIn_app (goodIn_of _ (by decide +kernel)) ggX5_line_X5_in
set_option maxRecDepth 20000 in
theorem ggX5_line_X5_refused : GoodIn wsX5_line wsX5_refused := goodIn_r _ [15, 16, 17, 18, 19, 20, 21, 22, 23, 24, 25, 26, 27, 28, 29, 30, 31, 32, 33, 34] (by decide +kernel) (by decide +kernel)
set_option maxRecDepth 20000 in
theorem gX5_line_X5_refused : GoodIn wsX5_line (wsV RX5 70 RX5 yX5_refused wsX5_refused) := goodIn_app (goodIn_of _ (by decide +kernel)) ggX5_line_X5_refused
set_option maxRecDepth 20000 in
theorem ggX5_mapped_X5_in : GoodIn wsX5_mapped wsX5_in := goodIn_r _ [8] (by decide +kernel) (by decide +kernel)
set_option maxRecDepth 20000 in
theorem gX5_mapped_X5_in : GoodIn wsX5_mapped (va_wsS RX5 59 yX5_in wsX5_in) := goodIn_app (goodIn_of _ (by decide +kernel)) ggX5_mapped_X5_in
set_option maxRecDepth 20000 in
theorem ggX5_led_X5_mapped : GoodIn wsX5_led wsX5_mapped := goodIn_r _ [6, 7, 8, 9, 10, 11, 12, 5, 13, 14, 15, 16, 17, 18, 19, 20, 21, 22, 23, 24, 25, 26, 27, 28, 29, 30, 31] (by decide +kernel) (by decide +kernel)
set_option maxRecDepth 20000 in
theorem gX5_led_X5_mapped : GoodIn wsX5_led (wsV RX5 79 RX5 yX5_mapped wsX5_mapped) := goodIn_app (goodIn_of _ (by decide +kernel)) ggX5_led_X5_mapped
set_option maxRecDepth 20000 in
theorem ggX5_isDraftBad_X5_meet : GoodIn wsX5_isDraftBad wsX5_meet := goodIn_r _ [8] (by decide +kernel) (by decide +kernel)
set_option maxRecDepth 20000 in
theorem gX5_isDraftBad_X5_meet : GoodIn wsX5_isDraftBad (va_wsS RX5 83 yX5_meet wsX5_meet) := goodIn_app (goodIn_of _ (by decide +kernel)) ggX5_isDraftBad_X5_meet
set_option maxRecDepth 20000 in
theorem ggX5_isDraftLost_X5_led : GoodIn wsX5_isDraftLost wsX5_led := goodIn_r _ [8, 9, 10, 11, 12, 7, 13, 14, 15, 3, 2, 16, 17, 18, 19, 20, 21, 22, 23, 24, 25, 26, 27, 28, 29, 30, 31, 32, 33, 34, 35, 36] (by decide +kernel) (by decide +kernel)
set_option maxRecDepth 20000 in
theorem gX5_isDraftLost_X5_led : GoodIn wsX5_isDraftLost (wsV RX5 87 RX5 yX5_led wsX5_led) := goodIn_app (goodIn_of _ (by decide +kernel)) ggX5_isDraftLost_X5_led
set_option maxRecDepth 20000 in
theorem ggX5_mayWrite_X5_led : GoodIn wsX5_mayWrite wsX5_led := goodIn_r _ [11, 5, 12, 13, 14, 10, 15, 16, 17, 2, 6, 18, 19, 20, 32, 33, 34, 35, 36, 37, 38, 39, 40, 41, 42, 43, 44, 45, 46, 47, 48, 49] (by decide +kernel) (by decide +kernel)
set_option maxRecDepth 20000 in
theorem gX5_mayWrite_X5_led : GoodIn wsX5_mayWrite (wsV RX5 87 RX5 yX5_led wsX5_led) := goodIn_app (goodIn_of _ (by decide +kernel)) ggX5_mayWrite_X5_led
set_option maxRecDepth 20000 in
theorem ggX5_mayWrite_X5_held : GoodIn wsX5_mayWrite wsX5_held := goodIn_r _ [24, 25, 4, 3, 5, 26, 27, 28, 29, 30, 10, 31, 32, 33, 34, 35, 36, 37, 38, 39, 40, 41, 42, 43, 44, 45, 46, 47, 48, 49] (by decide +kernel) (by decide +kernel)
set_option maxRecDepth 20000 in
theorem gX5_mayWrite_X5_held : GoodIn wsX5_mayWrite (wsV RX5 90 RX5 yX5_held wsX5_held) := goodIn_app (goodIn_of _ (by decide +kernel)) ggX5_mayWrite_X5_held
set_option maxRecDepth 20000 in
theorem ggX5_writeMap_X5_isProcess : GoodIn wsX5_writeMap wsX5_isProcess := goodIn_r _ [11, 12, 13, 14, 10, 15, 67, 68, 69, 70, 71, 72, 73, 74, 75, 76, 77, 78, 79, 80, 81, 82, 83, 84] (by decide +kernel) (by decide +kernel)
set_option maxRecDepth 20000 in
theorem gX5_writeMap_X5_isProcess : GoodIn wsX5_writeMap (wsV RX5 66 RX5 yX5_isProcess wsX5_isProcess) := goodIn_app (goodIn_of _ (by decide +kernel)) ggX5_writeMap_X5_isProcess
set_option maxRecDepth 20000 in
theorem ggX5_writeMap_X5_isRoom : GoodIn wsX5_writeMap wsX5_isRoom := goodIn_r _ [19, 20, 13, 14, 10, 15, 67, 68, 69, 70, 71, 72, 73, 74, 75, 76, 77, 78, 79, 80, 81, 82, 83, 84] (by decide +kernel) (by decide +kernel)
set_option maxRecDepth 20000 in
theorem gX5_writeMap_X5_isRoom : GoodIn wsX5_writeMap (wsV RX5 93 RX5 yX5_isRoom wsX5_isRoom) := goodIn_app (goodIn_of _ (by decide +kernel)) ggX5_writeMap_X5_isRoom
set_option maxRecDepth 20000 in
theorem ggX5_writeMap_X5_refused : GoodIn wsX5_writeMap wsX5_refused := goodIn_r _ [24, 25, 67, 68, 69, 70, 71, 72, 73, 74, 75, 76, 77, 78, 79, 80, 81, 82, 83, 84] (by decide +kernel) (by decide +kernel)
set_option maxRecDepth 20000 in
theorem gX5_writeMap_X5_refused : GoodIn wsX5_writeMap (wsV RX5 70 RX5 yX5_refused wsX5_refused) := goodIn_app (goodIn_of _ (by decide +kernel)) ggX5_writeMap_X5_refused
set_option maxRecDepth 20000 in
theorem ggX5_writeMap_X5_isDraftBad : GoodIn wsX5_writeMap wsX5_isDraftBad := goodIn_r _ [29, 3, 4, 6, 5, 30, 31, 10, 32, 67, 68, 69, 70, 71, 72, 73, 74, 75, 76, 77, 78, 79, 80, 81, 82, 83, 84] (by decide +kernel) (by decide +kernel)
set_option maxRecDepth 20000 in
theorem gX5_writeMap_X5_isDraftBad : GoodIn wsX5_writeMap (wsV RX5 96 RX5 yX5_isDraftBad wsX5_isDraftBad) := goodIn_app (goodIn_of _ (by decide +kernel)) ggX5_writeMap_X5_isDraftBad
set_option maxRecDepth 20000 in
theorem ggX5_writeMap_X5_isDraftLost : GoodIn wsX5_writeMap wsX5_isDraftLost := goodIn_r _ [36, 3, 5, 6, 37, 38, 39, 10, 40, 2, 41, 42, 43, 44, 1, 4, 13, 14, 15, 67, 68, 69, 70, 71, 72, 73, 74, 75, 76, 77, 78, 79, 80, 81, 82, 83, 84] (by decide +kernel) (by decide +kernel)
set_option maxRecDepth 20000 in
theorem gX5_writeMap_X5_isDraftLost : GoodIn wsX5_writeMap (wsV RX5 100 RX5 yX5_isDraftLost wsX5_isDraftLost) := goodIn_app (goodIn_of _ (by decide +kernel)) ggX5_writeMap_X5_isDraftLost
set_option maxRecDepth 20000 in
theorem ggX5_writeMap_X5_mayWrite : GoodIn wsX5_writeMap wsX5_mayWrite := goodIn_r _ [48, 3, 6, 49, 50, 2, 5, 37, 38, 39, 10, 40, 41, 42, 43, 44, 1, 4, 13, 14, 15, 51, 52, 53, 54, 20, 55, 56, 57, 58, 59, 60, 67, 68, 69, 70, 71, 72, 73, 74, 75, 76, 77, 78, 79, 80, 81, 82, 83, 84] (by decide +kernel) (by decide +kernel)
set_option maxRecDepth 20000 in
theorem gX5_writeMap_X5_mayWrite : GoodIn wsX5_writeMap (wsV RX5 103 RX5 yX5_mayWrite wsX5_mayWrite) := goodIn_app (goodIn_of _ (by decide +kernel)) ggX5_writeMap_X5_mayWrite
set_option maxRecDepth 20000 in
theorem ggX5_writeMap_X5_told : GoodIn wsX5_writeMap wsX5_told := goodIn_r _ [64, 65, 66, 67, 68, 69, 70, 71, 72, 73, 74, 75, 76, 77, 78, 79, 80, 81, 82, 83, 84] (by decide +kernel) (by decide +kernel)
set_option maxRecDepth 20000 in
theorem gX5_writeMap_X5_told : GoodIn wsX5_writeMap (wsV RX5 107 RX5 yX5_told wsX5_told) := goodIn_app (goodIn_of _ (by decide +kernel)) ggX5_writeMap_X5_told
set_option maxRecDepth 20000 in
theorem ggX5_rooms_X5_fine : GoodIn wsX5_rooms wsX5_fine := goodIn_r _ [6, 7, 8, 9, 10, 11, 12, 13, 14, 15, 16, 17, 18, 19, 20, 21, 22, 23, 24, 25] (by decide +kernel) (by decide +kernel)
set_option maxRecDepth 20000 in
theorem gX5_rooms_X5_fine : GoodIn wsX5_rooms (wsV RX5 111 RX5 yX5_fine wsX5_fine) := goodIn_app (goodIn_of _ (by decide +kernel)) ggX5_rooms_X5_fine
set_option maxRecDepth 20000 in
theorem ggX5_outerOf_X5_isRoom : GoodIn wsX5_outerOf wsX5_isRoom := goodIn_r _ [6, 7, 8, 9, 5, 10, 16, 17, 18, 19, 20, 21, 22, 23, 24, 25, 26, 27, 28, 29, 30, 31, 32, 33] (by decide +kernel) (by decide +kernel)
set_option maxRecDepth 20000 in
theorem gX5_outerOf_X5_isRoom : GoodIn wsX5_outerOf (wsV RX5 93 RX5 yX5_isRoom wsX5_isRoom) := goodIn_app (goodIn_of _ (by decide +kernel)) ggX5_outerOf_X5_isRoom
set_option maxRecDepth 20000 in
theorem ggX5_outerOf_X5_refused : GoodIn wsX5_outerOf wsX5_refused := goodIn_r _ [14, 15, 16, 17, 18, 19, 20, 21, 22, 23, 24, 25, 26, 27, 28, 29, 30, 31, 32, 33] (by decide +kernel) (by decide +kernel)
set_option maxRecDepth 20000 in
theorem gX5_outerOf_X5_refused : GoodIn wsX5_outerOf (wsV RX5 70 RX5 yX5_refused wsX5_refused) := goodIn_app (goodIn_of _ (by decide +kernel)) ggX5_outerOf_X5_refused
set_option maxRecDepth 20000 in
theorem ggX5_noNumber_X5_isRoom : GoodIn wsX5_noNumber wsX5_isRoom := goodIn_r _ [5, 6, 7, 8, 4, 9, 18, 19, 20, 21, 22, 23, 24, 25, 26, 27, 28, 29, 30, 31, 32, 33, 34, 35] (by decide +kernel) (by decide +kernel)
set_option maxRecDepth 20000 in
theorem gX5_noNumber_X5_isRoom : GoodIn wsX5_noNumber (wsV RX5 93 RX5 yX5_isRoom wsX5_isRoom) := goodIn_app (goodIn_of _ (by decide +kernel)) ggX5_noNumber_X5_isRoom
set_option maxRecDepth 20000 in
theorem ggX5_noNumber_X5_isNumber : GoodIn wsX5_noNumber wsX5_isNumber := goodIn_r _ [12, 7, 8, 4, 9] (by decide +kernel) (by decide +kernel)
set_option maxRecDepth 20000 in
theorem gX5_noNumber_X5_isNumber : GoodIn wsX5_noNumber (va_wsS RX5 73 yX5_isNumber wsX5_isNumber) := goodIn_app (goodIn_of _ (by decide +kernel)) ggX5_noNumber_X5_isNumber
set_option maxRecDepth 20000 in
theorem ggX5_noNumber_X5_refused : GoodIn wsX5_noNumber wsX5_refused := goodIn_r _ [16, 17, 18, 19, 20, 21, 22, 23, 24, 25, 26, 27, 28, 29, 30, 31, 32, 33, 34, 35] (by decide +kernel) (by decide +kernel)
set_option maxRecDepth 20000 in
theorem gX5_noNumber_X5_refused : GoodIn wsX5_noNumber (wsV RX5 70 RX5 yX5_refused wsX5_refused) := goodIn_app (goodIn_of _ (by decide +kernel)) ggX5_noNumber_X5_refused
set_option maxRecDepth 20000 in
theorem ggX5_leadsTo_X5_noNumber : GoodIn wsX5_leadsTo wsX5_noNumber := goodIn_r _ [5, 6, 7, 8, 4, 9, 10, 11, 12, 13, 14, 15, 16, 17, 18, 19, 20, 21, 35, 36, 37, 38, 39, 40, 41, 42, 43, 44, 45, 46, 47, 48, 49, 50, 51, 52] (by decide +kernel) (by decide +kernel)
set_option maxRecDepth 20000 in
theorem gX5_leadsTo_X5_noNumber : GoodIn wsX5_leadsTo (wsV RX5 114 RX5 yX5_noNumber wsX5_noNumber) := goodIn_app (goodIn_of _ (by decide +kernel)) ggX5_leadsTo_X5_noNumber
set_option maxRecDepth 20000 in
theorem ggX5_leadsTo_X5_led : GoodIn wsX5_leadsTo wsX5_led := goodIn_r _ [25, 26, 27, 28, 29, 4, 30, 31, 32, 33, 34, 11, 12, 13, 35, 36, 37, 38, 39, 40, 41, 42, 43, 44, 45, 46, 47, 48, 49, 50, 51, 52] (by decide +kernel) (by decide +kernel)
set_option maxRecDepth 20000 in
theorem gX5_leadsTo_X5_led : GoodIn wsX5_leadsTo (wsV RX5 87 RX5 yX5_led wsX5_led) := goodIn_app (goodIn_of _ (by decide +kernel)) ggX5_leadsTo_X5_led
set_option maxRecDepth 20000 in
theorem ggX5_seen_X5_led : GoodIn wsX5_seen wsX5_led := goodIn_r _ [5, 6, 7, 8, 9, 4, 10, 11, 12, 13, 14, 15, 16, 17, 18, 19, 20, 21, 22, 23, 24, 25, 26, 27, 28, 29, 30, 31, 32, 33, 34, 35] (by decide +kernel) (by decide +kernel)
set_option maxRecDepth 20000 in
theorem gX5_seen_X5_led : GoodIn wsX5_seen (wsV RX5 87 RX5 yX5_led wsX5_led) := goodIn_app (goodIn_of _ (by decide +kernel)) ggX5_seen_X5_led
set_option maxRecDepth 20000 in
theorem ggX5_seenAs_X5_noNumber : GoodIn wsX5_seenAs wsX5_noNumber := goodIn_r _ [5, 6, 7, 8, 4, 9, 10, 11, 12, 13, 14, 15, 16, 17, 18, 19, 20, 21, 39, 40, 41, 42, 43, 44, 45, 46, 47, 48, 49, 50, 51, 52, 53, 54, 55, 56] (by decide +kernel) (by decide +kernel)
set_option maxRecDepth 20000 in
theorem gX5_seenAs_X5_noNumber : GoodIn wsX5_seenAs (wsV RX5 114 RX5 yX5_noNumber wsX5_noNumber) := goodIn_app (goodIn_of _ (by decide +kernel)) ggX5_seenAs_X5_noNumber
set_option maxRecDepth 20000 in
theorem ggX5_seenAs_X5_seen : GoodIn wsX5_seenAs wsX5_seen := goodIn_r _ [25, 26, 27, 28, 4, 29, 30, 31, 32, 33, 34, 35, 36, 37, 38, 11, 12, 13, 39, 40, 41, 42, 43, 44, 45, 46, 47, 48, 49, 50, 51, 52, 53, 54, 55, 56] (by decide +kernel) (by decide +kernel)
set_option maxRecDepth 20000 in
theorem gX5_seenAs_X5_seen : GoodIn wsX5_seenAs (wsV RX5 117 RX5 yX5_seen wsX5_seen) := goodIn_app (goodIn_of _ (by decide +kernel)) ggX5_seenAs_X5_seen
set_option maxRecDepth 20000 in
theorem ggX5_seenByLeading_X5_seenAs : GoodIn wsX5_seenByLeading wsX5_seenAs := goodIn_r _ [5, 6, 7, 8, 4, 9, 10, 11, 12, 13, 14, 15, 16, 17, 18, 19, 20, 21, 22, 23, 24, 25, 26, 27, 28, 29, 30, 31, 32, 33, 34, 35, 36, 37, 38, 39, 40, 41, 42, 43, 44, 45, 46, 47, 48, 49, 50, 51, 52, 53, 54, 55, 56, 57, 58, 59, 60] (by decide +kernel) (by decide +kernel)
set_option maxRecDepth 20000 in
theorem gX5_seenByLeading_X5_seenAs : GoodIn wsX5_seenByLeading (wsV RX5 120 RX5 yX5_seenAs wsX5_seenAs) := goodIn_app (goodIn_of _ (by decide +kernel)) ggX5_seenByLeading_X5_seenAs
set_option maxRecDepth 20000 in
theorem ggX5_held_X5_isInside : GoodIn wsX5_held wsX5_isInside := goodIn_r _ [11, 4, 12, 13, 14, 15, 16, 17, 18, 19, 20, 21, 22, 23, 24, 25, 26, 27, 28, 29] (by decide +kernel) (by decide +kernel)
set_option maxRecDepth 20000 in
theorem gX5_held_X5_isInside : GoodIn wsX5_held (wsV RX5 123 RX5 yX5_isInside wsX5_isInside) := goodIn_app (goodIn_of _ (by decide +kernel)) ggX5_held_X5_isInside
set_option maxRecDepth 20000 in
theorem ggX5_fork_X5_isProcess : GoodIn wsX5_fork wsX5_isProcess := goodIn_r _ [9, 1, 10, 11, 8, 12, 18, 19, 20, 21, 22, 23, 24, 25, 26, 27, 28, 29, 30, 31, 32, 33, 34, 35] (by decide +kernel) (by decide +kernel)
set_option maxRecDepth 20000 in
theorem gX5_fork_X5_isProcess : GoodIn wsX5_fork (wsV RX5 66 RX5 yX5_isProcess wsX5_isProcess) := goodIn_app (goodIn_of _ (by decide +kernel)) ggX5_fork_X5_isProcess
set_option maxRecDepth 20000 in
theorem ggX5_fork_X5_refused : GoodIn wsX5_fork wsX5_refused := goodIn_r _ [16, 17, 18, 19, 20, 21, 22, 23, 24, 25, 26, 27, 28, 29, 30, 31, 32, 33, 34, 35] (by decide +kernel) (by decide +kernel)
set_option maxRecDepth 20000 in
theorem gX5_fork_X5_refused : GoodIn wsX5_fork (wsV RX5 70 RX5 yX5_refused wsX5_refused) := goodIn_app (goodIn_of _ (by decide +kernel)) ggX5_fork_X5_refused
set_option maxRecDepth 20000 in
theorem ggX5_drop_X5_isProcess : GoodIn wsX5_drop wsX5_isProcess := goodIn_r _ [6, 7, 8, 9, 5, 10, 16, 17, 18, 19, 20, 21, 22, 23, 24, 25, 26, 27, 28, 29, 30, 31, 32, 33] (by decide +kernel) (by decide +kernel)
set_option maxRecDepth 20000 in
theorem gX5_drop_X5_isProcess : GoodIn wsX5_drop (wsV RX5 66 RX5 yX5_isProcess wsX5_isProcess) := goodIn_app (goodIn_of _ (by decide +kernel)) ggX5_drop_X5_isProcess
set_option maxRecDepth 20000 in
theorem ggX5_drop_X5_in : GoodIn wsX5_drop wsX5_in := goodIn_r _ [10] (by decide +kernel) (by decide +kernel)
set_option maxRecDepth 20000 in
theorem gX5_drop_X5_in : GoodIn wsX5_drop (va_wsS RX5 59 yX5_in wsX5_in) := goodIn_app (goodIn_of _ (by decide +kernel)) ggX5_drop_X5_in
set_option maxRecDepth 20000 in
theorem ggX5_drop_X5_refused : GoodIn wsX5_drop wsX5_refused := goodIn_r _ [14, 15, 16, 17, 18, 19, 20, 21, 22, 23, 24, 25, 26, 27, 28, 29, 30, 31, 32, 33] (by decide +kernel) (by decide +kernel)
set_option maxRecDepth 20000 in
theorem gX5_drop_X5_refused : GoodIn wsX5_drop (wsV RX5 70 RX5 yX5_refused wsX5_refused) := goodIn_app (goodIn_of _ (by decide +kernel)) ggX5_drop_X5_refused
set_option maxRecDepth 20000 in
theorem ggX5_enter_X5_isProcess : GoodIn wsX5_enter wsX5_isProcess := goodIn_r _ [7, 8, 9, 10, 6, 11, 39, 40, 41, 42, 43, 44, 45, 46, 47, 48, 49, 50, 51, 52, 53, 54, 55, 56] (by decide +kernel) (by decide +kernel)
set_option maxRecDepth 20000 in
theorem gX5_enter_X5_isProcess : GoodIn wsX5_enter (wsV RX5 66 RX5 yX5_isProcess wsX5_isProcess) := goodIn_app (goodIn_of _ (by decide +kernel)) ggX5_enter_X5_isProcess
set_option maxRecDepth 20000 in
theorem ggX5_enter_X5_isRoom : GoodIn wsX5_enter wsX5_isRoom := goodIn_r _ [15, 16, 9, 10, 6, 11, 39, 40, 41, 42, 43, 44, 45, 46, 47, 48, 49, 50, 51, 52, 53, 54, 55, 56] (by decide +kernel) (by decide +kernel)
set_option maxRecDepth 20000 in
theorem gX5_enter_X5_isRoom : GoodIn wsX5_enter (wsV RX5 93 RX5 yX5_isRoom wsX5_isRoom) := goodIn_app (goodIn_of _ (by decide +kernel)) ggX5_enter_X5_isRoom
set_option maxRecDepth 20000 in
theorem ggX5_enter_X5_refused : GoodIn wsX5_enter wsX5_refused := goodIn_r _ [20, 21, 39, 40, 41, 42, 43, 44, 45, 46, 47, 48, 49, 50, 51, 52, 53, 54, 55, 56] (by decide +kernel) (by decide +kernel)
set_option maxRecDepth 20000 in
theorem gX5_enter_X5_refused : GoodIn wsX5_enter (wsV RX5 70 RX5 yX5_refused wsX5_refused) := goodIn_app (goodIn_of _ (by decide +kernel)) ggX5_enter_X5_refused
set_option maxRecDepth 20000 in
theorem ggX5_enter_X5_isInside : GoodIn wsX5_enter wsX5_isInside := goodIn_r _ [25, 26, 39, 40, 41, 42, 43, 44, 45, 46, 47, 48, 49, 50, 51, 52, 53, 54, 55, 56] (by decide +kernel) (by decide +kernel)
set_option maxRecDepth 20000 in
theorem gX5_enter_X5_isInside : GoodIn wsX5_enter (wsV RX5 123 RX5 yX5_isInside wsX5_isInside) := goodIn_app (goodIn_of _ (by decide +kernel)) ggX5_enter_X5_isInside
set_option maxRecDepth 20000 in
theorem ggX5_enter_X5_held : GoodIn wsX5_enter wsX5_held := goodIn_r _ [30, 16, 31, 32, 26, 1, 2, 22, 23, 24, 6, 25, 39, 40, 41, 42, 43, 44, 45, 46, 47, 48, 49, 50, 51, 52, 53, 54, 55, 56] (by decide +kernel) (by decide +kernel)
set_option maxRecDepth 20000 in
theorem gX5_enter_X5_held : GoodIn wsX5_enter (wsV RX5 90 RX5 yX5_held wsX5_held) := goodIn_app (goodIn_of _ (by decide +kernel)) ggX5_enter_X5_held
set_option maxRecDepth 20000 in
theorem ggX5_enter_X5_told : GoodIn wsX5_enter wsX5_told := goodIn_r _ [36, 37, 38, 39, 40, 41, 42, 43, 44, 45, 46, 47, 48, 49, 50, 51, 52, 53, 54, 55, 56] (by decide +kernel) (by decide +kernel)
set_option maxRecDepth 20000 in
theorem gX5_enter_X5_told : GoodIn wsX5_enter (wsV RX5 107 RX5 yX5_told wsX5_told) := goodIn_app (goodIn_of _ (by decide +kernel)) ggX5_enter_X5_told
set_option maxRecDepth 20000 in
theorem ggX5_setNumber_X5_isProcess : GoodIn wsX5_setNumber wsX5_isProcess := goodIn_r _ [8, 9, 10, 11, 7, 12, 44, 45, 46, 47, 48, 49, 50, 51, 52, 53, 54, 55, 56, 57, 58, 59, 60, 61] (by decide +kernel) (by decide +kernel)
set_option maxRecDepth 20000 in
theorem gX5_setNumber_X5_isProcess : GoodIn wsX5_setNumber (wsV RX5 66 RX5 yX5_isProcess wsX5_isProcess) := goodIn_app (goodIn_of _ (by decide +kernel)) ggX5_setNumber_X5_isProcess
set_option maxRecDepth 20000 in
theorem ggX5_setNumber_X5_isNumber : GoodIn wsX5_setNumber wsX5_isNumber := goodIn_r _ [15, 10, 11, 7, 12] (by decide +kernel) (by decide +kernel)
set_option maxRecDepth 20000 in
theorem gX5_setNumber_X5_isNumber : GoodIn wsX5_setNumber (va_wsS RX5 73 yX5_isNumber wsX5_isNumber) := goodIn_app (goodIn_of _ (by decide +kernel)) ggX5_setNumber_X5_isNumber
set_option maxRecDepth 20000 in
theorem ggX5_setNumber_X5_refused : GoodIn wsX5_setNumber wsX5_refused := goodIn_r _ [19, 20, 44, 45, 46, 47, 48, 49, 50, 51, 52, 53, 54, 55, 56, 57, 58, 59, 60, 61] (by decide +kernel) (by decide +kernel)
set_option maxRecDepth 20000 in
theorem gX5_setNumber_X5_refused : GoodIn wsX5_setNumber (wsV RX5 70 RX5 yX5_refused wsX5_refused) := goodIn_app (goodIn_of _ (by decide +kernel)) ggX5_setNumber_X5_refused
set_option maxRecDepth 20000 in
theorem ggX5_setNumber_X5_led : GoodIn wsX5_setNumber wsX5_led := goodIn_r _ [24, 25, 26, 27, 28, 7, 29, 30, 31, 32, 33, 10, 11, 12, 44, 45, 46, 47, 48, 49, 50, 51, 52, 53, 54, 55, 56, 57, 58, 59, 60, 61] (by decide +kernel) (by decide +kernel)
set_option maxRecDepth 20000 in
theorem gX5_setNumber_X5_led : GoodIn wsX5_setNumber (wsV RX5 87 RX5 yX5_led wsX5_led) := goodIn_app (goodIn_of _ (by decide +kernel)) ggX5_setNumber_X5_led
set_option maxRecDepth 20000 in
theorem ggX5_setNumber_X5_told : GoodIn wsX5_setNumber wsX5_told := goodIn_r _ [37, 38, 39, 44, 45, 46, 47, 48, 49, 50, 51, 52, 53, 54, 55, 56, 57, 58, 59, 60, 61] (by decide +kernel) (by decide +kernel)
set_option maxRecDepth 20000 in
theorem gX5_setNumber_X5_told : GoodIn wsX5_setNumber (wsV RX5 107 RX5 yX5_told wsX5_told) := goodIn_app (goodIn_of _ (by decide +kernel)) ggX5_setNumber_X5_told
set_option maxRecDepth 20000 in
theorem ggX5_setNumber_X5_seen : GoodIn wsX5_setNumber wsX5_seen := goodIn_r _ [43, 21, 22, 23, 7, 24, 25, 26, 27, 28, 29, 30, 31, 32, 33, 10, 11, 12, 44, 45, 46, 47, 48, 49, 50, 51, 52, 53, 54, 55, 56, 57, 58, 59, 60, 61] (by decide +kernel) (by decide +kernel)
set_option maxRecDepth 20000 in
theorem gX5_setNumber_X5_seen : GoodIn wsX5_setNumber (wsV RX5 117 RX5 yX5_seen wsX5_seen) := goodIn_app (goodIn_of _ (by decide +kernel)) ggX5_setNumber_X5_seen
set_option maxRecDepth 20000 in
theorem ggX5_processes_X5_fine : GoodIn wsX5_processes wsX5_fine := goodIn_r _ [6, 7, 8, 9, 10, 11, 12, 13, 14, 15, 16, 17, 18, 19, 20, 21, 22, 23, 24, 25] (by decide +kernel) (by decide +kernel)
set_option maxRecDepth 20000 in
theorem gX5_processes_X5_fine : GoodIn wsX5_processes (wsV RX5 111 RX5 yX5_fine wsX5_fine) := goodIn_app (goodIn_of _ (by decide +kernel)) ggX5_processes_X5_fine
set_option maxRecDepth 20000 in
theorem ggX5_noProcess_X5_isProcess : GoodIn wsX5_noProcess wsX5_isProcess := goodIn_r _ [5, 6, 7, 8, 4, 9, 15, 16, 17, 18, 19, 20, 21, 22, 23, 24, 25, 26, 27, 28, 29, 30, 31, 32] (by decide +kernel) (by decide +kernel)
set_option maxRecDepth 20000 in
theorem gX5_noProcess_X5_isProcess : GoodIn wsX5_noProcess (wsV RX5 66 RX5 yX5_isProcess wsX5_isProcess) := goodIn_app (goodIn_of _ (by decide +kernel)) ggX5_noProcess_X5_isProcess
set_option maxRecDepth 20000 in
theorem ggX5_noProcess_X5_refused : GoodIn wsX5_noProcess wsX5_refused := goodIn_r _ [13, 14, 15, 16, 17, 18, 19, 20, 21, 22, 23, 24, 25, 26, 27, 28, 29, 30, 31, 32] (by decide +kernel) (by decide +kernel)
set_option maxRecDepth 20000 in
theorem gX5_noProcess_X5_refused : GoodIn wsX5_noProcess (wsV RX5 70 RX5 yX5_refused wsX5_refused) := goodIn_app (goodIn_of _ (by decide +kernel)) ggX5_noProcess_X5_refused
set_option maxRecDepth 20000 in
theorem ggX5_roomOf_X5_noProcess : GoodIn wsX5_roomOf wsX5_noProcess := goodIn_r _ [6, 7, 8, 9, 5, 10, 11, 12, 13, 14, 15, 16, 17, 18, 19, 20, 21, 22, 23, 24, 25, 26, 27, 28, 29, 30, 31, 32, 33, 34, 35, 36, 37] (by decide +kernel) (by decide +kernel)
set_option maxRecDepth 20000 in
theorem gX5_roomOf_X5_noProcess : GoodIn wsX5_roomOf (wsV RX5 126 RX5 yX5_noProcess wsX5_noProcess) := goodIn_app (goodIn_of _ (by decide +kernel)) ggX5_roomOf_X5_noProcess
set_option maxRecDepth 20000 in
theorem ggX5_numberOf_X5_noProcess : GoodIn wsX5_numberOf wsX5_noProcess := goodIn_r _ [6, 7, 8, 9, 5, 10, 11, 12, 13, 14, 15, 16, 17, 18, 19, 20, 21, 22, 23, 24, 25, 26, 27, 28, 29, 30, 31, 32, 33, 34, 35, 36, 37] (by decide +kernel) (by decide +kernel)
set_option maxRecDepth 20000 in
theorem gX5_numberOf_X5_noProcess : GoodIn wsX5_numberOf (wsV RX5 126 RX5 yX5_noProcess wsX5_noProcess) := goodIn_app (goodIn_of _ (by decide +kernel)) ggX5_numberOf_X5_noProcess
set_option maxRecDepth 20000 in
theorem ggX5_rightsIn_X5_isProcess : GoodIn wsX5_rightsIn wsX5_isProcess := goodIn_r _ [5, 6, 7, 8, 4, 9, 33, 34, 35, 36, 37, 38, 39, 40, 41, 42, 43, 44, 45, 46, 47, 48, 49, 50] (by decide +kernel) (by decide +kernel)
set_option maxRecDepth 20000 in
theorem gX5_rightsIn_X5_isProcess : GoodIn wsX5_rightsIn (wsV RX5 66 RX5 yX5_isProcess wsX5_isProcess) := goodIn_app (goodIn_of _ (by decide +kernel)) ggX5_rightsIn_X5_isProcess
set_option maxRecDepth 20000 in
theorem ggX5_rightsIn_X5_isRoom : GoodIn wsX5_rightsIn wsX5_isRoom := goodIn_r _ [13, 14, 7, 8, 4, 9, 33, 34, 35, 36, 37, 38, 39, 40, 41, 42, 43, 44, 45, 46, 47, 48, 49, 50] (by decide +kernel) (by decide +kernel)
set_option maxRecDepth 20000 in
theorem gX5_rightsIn_X5_isRoom : GoodIn wsX5_rightsIn (wsV RX5 93 RX5 yX5_isRoom wsX5_isRoom) := goodIn_app (goodIn_of _ (by decide +kernel)) ggX5_rightsIn_X5_isRoom
set_option maxRecDepth 20000 in
theorem ggX5_rightsIn_X5_refused : GoodIn wsX5_rightsIn wsX5_refused := goodIn_r _ [18, 19, 33, 34, 35, 36, 37, 38, 39, 40, 41, 42, 43, 44, 45, 46, 47, 48, 49, 50] (by decide +kernel) (by decide +kernel)
set_option maxRecDepth 20000 in
theorem gX5_rightsIn_X5_refused : GoodIn wsX5_rightsIn (wsV RX5 70 RX5 yX5_refused wsX5_refused) := goodIn_app (goodIn_of _ (by decide +kernel)) ggX5_rightsIn_X5_refused
set_option maxRecDepth 20000 in
theorem ggX5_rightsIn_X5_held : GoodIn wsX5_rightsIn wsX5_held := goodIn_r _ [23, 14, 24, 25, 26, 27, 28, 29, 30, 31, 4, 32, 33, 34, 35, 36, 37, 38, 39, 40, 41, 42, 43, 44, 45, 46, 47, 48, 49, 50] (by decide +kernel) (by decide +kernel)
set_option maxRecDepth 20000 in
theorem gX5_rightsIn_X5_held : GoodIn wsX5_rightsIn (wsV RX5 90 RX5 yX5_held wsX5_held) := goodIn_app (goodIn_of _ (by decide +kernel)) ggX5_rightsIn_X5_held
set_option maxRecDepth 20000 in
theorem ggX5_makeFile_X5_isProcess : GoodIn wsX5_makeFile wsX5_isProcess := goodIn_r _ [10, 11, 12, 13, 9, 14, 43, 44, 45, 46, 47, 48, 49, 50, 51, 52, 53, 54, 55, 56, 57, 58, 59, 60] (by decide +kernel) (by decide +kernel)
set_option maxRecDepth 20000 in
theorem gX5_makeFile_X5_isProcess : GoodIn wsX5_makeFile (wsV RX5 66 RX5 yX5_isProcess wsX5_isProcess) := goodIn_app (goodIn_of _ (by decide +kernel)) ggX5_makeFile_X5_isProcess
set_option maxRecDepth 20000 in
theorem ggX5_makeFile_X5_in : GoodIn wsX5_makeFile wsX5_in := goodIn_r _ [14] (by decide +kernel) (by decide +kernel)
set_option maxRecDepth 20000 in
theorem gX5_makeFile_X5_in : GoodIn wsX5_makeFile (va_wsS RX5 59 yX5_in wsX5_in) := goodIn_app (goodIn_of _ (by decide +kernel)) ggX5_makeFile_X5_in
set_option maxRecDepth 20000 in
theorem ggX5_makeFile_X5_refused : GoodIn wsX5_makeFile wsX5_refused := goodIn_r _ [18, 19, 43, 44, 45, 46, 47, 48, 49, 50, 51, 52, 53, 54, 55, 56, 57, 58, 59, 60] (by decide +kernel) (by decide +kernel)
set_option maxRecDepth 20000 in
theorem gX5_makeFile_X5_refused : GoodIn wsX5_makeFile (wsV RX5 70 RX5 yX5_refused wsX5_refused) := goodIn_app (goodIn_of _ (by decide +kernel)) ggX5_makeFile_X5_refused
set_option maxRecDepth 20000 in
theorem ggX5_makeFile_X5_seen : GoodIn wsX5_makeFile wsX5_seen := goodIn_r _ [23, 24, 25, 26, 9, 27, 28, 29, 30, 31, 32, 33, 34, 35, 36, 12, 13, 14, 43, 44, 45, 46, 47, 48, 49, 50, 51, 52, 53, 54, 55, 56, 57, 58, 59, 60] (by decide +kernel) (by decide +kernel)
set_option maxRecDepth 20000 in
theorem gX5_makeFile_X5_seen : GoodIn wsX5_makeFile (wsV RX5 117 RX5 yX5_seen wsX5_seen) := goodIn_app (goodIn_of _ (by decide +kernel)) ggX5_makeFile_X5_seen
set_option maxRecDepth 20000 in
theorem ggX5_makeFile_X5_told : GoodIn wsX5_makeFile wsX5_told := goodIn_r _ [40, 41, 42, 43, 44, 45, 46, 47, 48, 49, 50, 51, 52, 53, 54, 55, 56, 57, 58, 59, 60] (by decide +kernel) (by decide +kernel)
set_option maxRecDepth 20000 in
theorem gX5_makeFile_X5_told : GoodIn wsX5_makeFile (wsV RX5 107 RX5 yX5_told wsX5_told) := goodIn_app (goodIn_of _ (by decide +kernel)) ggX5_makeFile_X5_told
set_option maxRecDepth 20000 in
theorem ggX5_handOver_X5_isProcess : GoodIn wsX5_handOver wsX5_isProcess := goodIn_r _ [8, 9, 10, 11, 7, 12, 49, 50, 51, 52, 53, 54, 55, 56, 57, 58, 59, 60, 61, 62, 63, 64, 65, 66] (by decide +kernel) (by decide +kernel)
set_option maxRecDepth 20000 in
theorem gX5_handOver_X5_isProcess : GoodIn wsX5_handOver (wsV RX5 66 RX5 yX5_isProcess wsX5_isProcess) := goodIn_app (goodIn_of _ (by decide +kernel)) ggX5_handOver_X5_isProcess
set_option maxRecDepth 20000 in
theorem ggX5_handOver_X5_isFile : GoodIn wsX5_handOver wsX5_isFile := goodIn_r _ [16, 17, 10, 11, 7, 12, 49, 50, 51, 52, 53, 54, 55, 56, 57, 58, 59, 60, 61, 62, 63, 64, 65, 66] (by decide +kernel) (by decide +kernel)
set_option maxRecDepth 20000 in
theorem gX5_handOver_X5_isFile : GoodIn wsX5_handOver (wsV RX5 129 RX5 yX5_isFile wsX5_isFile) := goodIn_app (goodIn_of _ (by decide +kernel)) ggX5_handOver_X5_isFile
set_option maxRecDepth 20000 in
theorem ggX5_handOver_X5_isNumber : GoodIn wsX5_handOver wsX5_isNumber := goodIn_r _ [20, 10, 11, 7, 12] (by decide +kernel) (by decide +kernel)
set_option maxRecDepth 20000 in
theorem gX5_handOver_X5_isNumber : GoodIn wsX5_handOver (va_wsS RX5 73 yX5_isNumber wsX5_isNumber) := goodIn_app (goodIn_of _ (by decide +kernel)) ggX5_handOver_X5_isNumber
set_option maxRecDepth 20000 in
theorem ggX5_handOver_X5_refused : GoodIn wsX5_handOver wsX5_refused := goodIn_r _ [24, 25, 49, 50, 51, 52, 53, 54, 55, 56, 57, 58, 59, 60, 61, 62, 63, 64, 65, 66] (by decide +kernel) (by decide +kernel)
set_option maxRecDepth 20000 in
theorem gX5_handOver_X5_refused : GoodIn wsX5_handOver (wsV RX5 70 RX5 yX5_refused wsX5_refused) := goodIn_app (goodIn_of _ (by decide +kernel)) ggX5_handOver_X5_refused
set_option maxRecDepth 20000 in
theorem ggX5_handOver_X5_led : GoodIn wsX5_handOver wsX5_led := goodIn_r _ [29, 30, 31, 32, 33, 7, 34, 35, 36, 37, 38, 10, 11, 12, 49, 50, 51, 52, 53, 54, 55, 56, 57, 58, 59, 60, 61, 62, 63, 64, 65, 66] (by decide +kernel) (by decide +kernel)
set_option maxRecDepth 20000 in
theorem gX5_handOver_X5_led : GoodIn wsX5_handOver (wsV RX5 87 RX5 yX5_led wsX5_led) := goodIn_app (goodIn_of _ (by decide +kernel)) ggX5_handOver_X5_led
set_option maxRecDepth 20000 in
theorem ggX5_handOver_X5_seen : GoodIn wsX5_handOver wsX5_seen := goodIn_r _ [42, 26, 27, 28, 7, 29, 30, 31, 32, 33, 34, 35, 36, 37, 38, 10, 11, 12, 49, 50, 51, 52, 53, 54, 55, 56, 57, 58, 59, 60, 61, 62, 63, 64, 65, 66] (by decide +kernel) (by decide +kernel)
set_option maxRecDepth 20000 in
theorem gX5_handOver_X5_seen : GoodIn wsX5_handOver (wsV RX5 117 RX5 yX5_seen wsX5_seen) := goodIn_app (goodIn_of _ (by decide +kernel)) ggX5_handOver_X5_seen
set_option maxRecDepth 20000 in
theorem ggX5_handOver_X5_told : GoodIn wsX5_handOver wsX5_told := goodIn_r _ [46, 47, 48, 49, 50, 51, 52, 53, 54, 55, 56, 57, 58, 59, 60, 61, 62, 63, 64, 65, 66] (by decide +kernel) (by decide +kernel)
set_option maxRecDepth 20000 in
theorem gX5_handOver_X5_told : GoodIn wsX5_handOver (wsV RX5 107 RX5 yX5_told wsX5_told) := goodIn_app (goodIn_of _ (by decide +kernel)) ggX5_handOver_X5_told
set_option maxRecDepth 20000 in
theorem ggX5_open_X5_isProcess : GoodIn wsX5_open wsX5_isProcess := goodIn_r _ [10, 11, 12, 13, 9, 14, 48, 49, 50, 51, 52, 53, 54, 55, 56, 57, 58, 59, 60, 61, 62, 63, 64, 65] (by decide +kernel) (by decide +kernel)
set_option maxRecDepth 20000 in
theorem gX5_open_X5_isProcess : GoodIn wsX5_open (wsV RX5 66 RX5 yX5_isProcess wsX5_isProcess) := goodIn_app (goodIn_of _ (by decide +kernel)) ggX5_open_X5_isProcess
set_option maxRecDepth 20000 in
theorem ggX5_open_X5_isFile : GoodIn wsX5_open wsX5_isFile := goodIn_r _ [18, 19, 12, 13, 9, 14, 48, 49, 50, 51, 52, 53, 54, 55, 56, 57, 58, 59, 60, 61, 62, 63, 64, 65] (by decide +kernel) (by decide +kernel)
set_option maxRecDepth 20000 in
theorem gX5_open_X5_isFile : GoodIn wsX5_open (wsV RX5 129 RX5 yX5_isFile wsX5_isFile) := goodIn_app (goodIn_of _ (by decide +kernel)) ggX5_open_X5_isFile
set_option maxRecDepth 20000 in
theorem ggX5_open_X5_refused : GoodIn wsX5_open wsX5_refused := goodIn_r _ [23, 24, 48, 49, 50, 51, 52, 53, 54, 55, 56, 57, 58, 59, 60, 61, 62, 63, 64, 65] (by decide +kernel) (by decide +kernel)
set_option maxRecDepth 20000 in
theorem gX5_open_X5_refused : GoodIn wsX5_open (wsV RX5 70 RX5 yX5_refused wsX5_refused) := goodIn_app (goodIn_of _ (by decide +kernel)) ggX5_open_X5_refused
set_option maxRecDepth 20000 in
theorem ggX5_open_X5_told : GoodIn wsX5_open wsX5_told := goodIn_r _ [28, 29, 30, 48, 49, 50, 51, 52, 53, 54, 55, 56, 57, 58, 59, 60, 61, 62, 63, 64, 65] (by decide +kernel) (by decide +kernel)
set_option maxRecDepth 20000 in
theorem gX5_open_X5_told : GoodIn wsX5_open (wsV RX5 107 RX5 yX5_told wsX5_told) := goodIn_app (goodIn_of _ (by decide +kernel)) ggX5_open_X5_told
set_option maxRecDepth 20000 in
theorem ggX5_open_X5_seen : GoodIn wsX5_open wsX5_seen := goodIn_r _ [34, 35, 36, 37, 9, 38, 39, 40, 41, 42, 43, 44, 45, 46, 47, 12, 13, 14, 48, 49, 50, 51, 52, 53, 54, 55, 56, 57, 58, 59, 60, 61, 62, 63, 64, 65] (by decide +kernel) (by decide +kernel)
set_option maxRecDepth 20000 in
theorem gX5_open_X5_seen : GoodIn wsX5_open (wsV RX5 117 RX5 yX5_seen wsX5_seen) := goodIn_app (goodIn_of _ (by decide +kernel)) ggX5_open_X5_seen
set_option maxRecDepth 20000 in
theorem ggX5_ownerSeenBy_X5_isProcess : GoodIn wsX5_ownerSeenBy wsX5_isProcess := goodIn_r _ [7, 8, 9, 10, 6, 11, 39, 40, 41, 42, 43, 44, 45, 46, 47, 48, 49, 50, 51, 52, 53, 54, 55, 56] (by decide +kernel) (by decide +kernel)
set_option maxRecDepth 20000 in
theorem gX5_ownerSeenBy_X5_isProcess : GoodIn wsX5_ownerSeenBy (wsV RX5 66 RX5 yX5_isProcess wsX5_isProcess) := goodIn_app (goodIn_of _ (by decide +kernel)) ggX5_ownerSeenBy_X5_isProcess
set_option maxRecDepth 20000 in
theorem ggX5_ownerSeenBy_X5_isFile : GoodIn wsX5_ownerSeenBy wsX5_isFile := goodIn_r _ [15, 16, 9, 10, 6, 11, 39, 40, 41, 42, 43, 44, 45, 46, 47, 48, 49, 50, 51, 52, 53, 54, 55, 56] (by decide +kernel) (by decide +kernel)
set_option maxRecDepth 20000 in
theorem gX5_ownerSeenBy_X5_isFile : GoodIn wsX5_ownerSeenBy (wsV RX5 129 RX5 yX5_isFile wsX5_isFile) := goodIn_app (goodIn_of _ (by decide +kernel)) ggX5_ownerSeenBy_X5_isFile
set_option maxRecDepth 20000 in
theorem ggX5_ownerSeenBy_X5_refused : GoodIn wsX5_ownerSeenBy wsX5_refused := goodIn_r _ [20, 21, 39, 40, 41, 42, 43, 44, 45, 46, 47, 48, 49, 50, 51, 52, 53, 54, 55, 56] (by decide +kernel) (by decide +kernel)
set_option maxRecDepth 20000 in
theorem gX5_ownerSeenBy_X5_refused : GoodIn wsX5_ownerSeenBy (wsV RX5 70 RX5 yX5_refused wsX5_refused) := goodIn_app (goodIn_of _ (by decide +kernel)) ggX5_ownerSeenBy_X5_refused
set_option maxRecDepth 20000 in
theorem ggX5_ownerSeenBy_X5_seen : GoodIn wsX5_ownerSeenBy wsX5_seen := goodIn_r _ [25, 26, 27, 28, 6, 29, 30, 31, 32, 33, 34, 35, 36, 37, 38, 9, 10, 11, 39, 40, 41, 42, 43, 44, 45, 46, 47, 48, 49, 50, 51, 52, 53, 54, 55, 56] (by decide +kernel) (by decide +kernel)
set_option maxRecDepth 20000 in
theorem gX5_ownerSeenBy_X5_seen : GoodIn wsX5_ownerSeenBy (wsV RX5 117 RX5 yX5_seen wsX5_seen) := goodIn_app (goodIn_of _ (by decide +kernel)) ggX5_ownerSeenBy_X5_seen
set_option maxRecDepth 20000 in
theorem ggX5_files_X5_fine : GoodIn wsX5_files wsX5_fine := goodIn_r _ [6, 7, 8, 9, 10, 11, 12, 13, 14, 15, 16, 17, 18, 19, 20, 21, 22, 23, 24, 25] (by decide +kernel) (by decide +kernel)
set_option maxRecDepth 20000 in
theorem gX5_files_X5_fine : GoodIn wsX5_files (wsV RX5 111 RX5 yX5_fine wsX5_fine) := goodIn_app (goodIn_of _ (by decide +kernel)) ggX5_files_X5_fine
set_option maxRecDepth 20000 in
theorem ggX5_refusals_X5_fine : GoodIn wsX5_refusals wsX5_fine := goodIn_r _ [6, 7, 8, 9, 10, 11, 12, 13, 14, 15, 16, 17, 18, 19, 20, 21, 22, 23, 24, 25] (by decide +kernel) (by decide +kernel)
set_option maxRecDepth 20000 in
theorem gX5_refusals_X5_fine : GoodIn wsX5_refusals (wsV RX5 111 RX5 yX5_fine wsX5_fine) := goodIn_app (goodIn_of _ (by decide +kernel)) ggX5_refusals_X5_fine
set_option maxRecDepth 20000 in
theorem ggX5_lastRefusal_X5_fine : GoodIn wsX5_lastRefusal wsX5_fine := goodIn_r _ [6, 7, 8, 9, 10, 11, 12, 13, 14, 15, 16, 17, 18, 19, 20, 21, 22, 23, 24, 25] (by decide +kernel) (by decide +kernel)
set_option maxRecDepth 20000 in
theorem gX5_lastRefusal_X5_fine : GoodIn wsX5_lastRefusal (wsV RX5 111 RX5 yX5_fine wsX5_fine) := goodIn_app (goodIn_of _ (by decide +kernel)) ggX5_lastRefusal_X5_fine
set_option maxRecDepth 20000 in
theorem ggL_makeRoom_X4_makeRoom : GoodIn wsL_makeRoom wsX4_makeRoom := goodIn_ca (goodIn_ca (goodIn_r _ [7, 8, 9, 10, 11, 12, 13, 14, 15, 16, 17, 18, 19, 20, 6, 21, 22, 23, 24, 25, 26, 27, 28, 29, 30, 31, 32, 33, 34, 35, 36, 37, 38, 39, 40, 41, 42, 43, 44, 45, 46, 47, 48, 49, 50, 51, 52, 53, 54, 55, 56, 57] (by decide +kernel) (by decide +kernel)) (goodIn_sub (fun _ h => List.mem_cons_of_mem _ (List.mem_append_left _ (List.mem_append_right _ h))) (by decide +kernel))) (goodIn_sub (fun _ h => List.mem_cons_of_mem _ (List.mem_append_right _ h)) (by decide +kernel))
set_option maxRecDepth 20000 in
theorem gL_makeRoom_X4_makeRoom : GoodIn wsL_makeRoom (wsV RL 7 RX4 yX4_makeRoom wsX4_makeRoom) := goodIn_app (goodIn_of _ (by decide +kernel)) ggL_makeRoom_X4_makeRoom
set_option maxRecDepth 20000 in
theorem ggL_line_X4_line : GoodIn wsL_line wsX4_line := goodIn_ca (goodIn_ca (goodIn_r _ [7, 8, 9, 10, 11, 12, 13, 14, 15, 16, 17, 6, 18, 19, 20, 21, 22, 23, 24, 25, 26, 27, 28, 29, 30, 31, 32, 33, 34, 35, 36, 37, 38, 39, 40, 41, 42, 43, 44, 45] (by decide +kernel) (by decide +kernel)) (goodIn_sub (fun _ h => List.mem_cons_of_mem _ (List.mem_append_left _ (List.mem_append_right _ h))) (by decide +kernel))) (goodIn_sub (fun _ h => List.mem_cons_of_mem _ (List.mem_append_right _ h)) (by decide +kernel))
set_option maxRecDepth 20000 in
theorem gL_line_X4_line : GoodIn wsL_line (wsV RL 17 RX4 yX4_line wsX4_line) := goodIn_app (goodIn_of _ (by decide +kernel)) ggL_line_X4_line
set_option maxRecDepth 20000 in
theorem ggL_writeMap_X4_writeMap : GoodIn wsL_writeMap wsX4_writeMap := goodIn_ca (goodIn_r _ [6, 7, 8, 9, 10, 11, 12, 13, 14, 15, 16, 17, 5, 18, 19, 20, 21, 22, 23, 24, 25, 26, 27, 28, 29, 30, 31, 32, 33, 34, 35, 36, 37, 38, 39, 40, 41, 42, 43, 44, 45, 46, 47, 48, 49, 50, 51, 52, 53, 54, 55, 56, 57, 58, 59, 60, 61, 62, 63, 64, 65, 66, 67, 68, 69, 70, 71, 72, 73, 74, 75, 76, 77, 78, 79, 80, 81, 82, 83, 84, 85, 86, 87, 88, 89, 90, 91, 92, 93, 94, 95, 96, 97, 98, 99, 100, 101, 102, 103, 104, 105, 106, 107, 108, 109, 110, 111] (by decide +kernel) (by decide +kernel)) (goodIn_sub (fun _ h => List.mem_cons_of_mem _ (List.mem_append_right _ h)) (by decide +kernel))
set_option maxRecDepth 20000 in
theorem gL_writeMap_X4_writeMap : GoodIn wsL_writeMap (wsV RL 23 RX4 yX4_writeMap wsX4_writeMap) := goodIn_app (goodIn_of _ (by decide +kernel)) ggL_writeMap_X4_writeMap
set_option maxRecDepth 20000 in
theorem ggL_outerOf_X4_outerOf : GoodIn wsL_outerOf wsX4_outerOf := goodIn_ca (goodIn_r _ [6, 7, 8, 9, 10, 5, 11, 12, 13, 14, 15, 16, 17, 18, 19, 20, 21, 22, 23, 24, 25, 26, 27, 28, 29, 30, 31] (by decide +kernel) (by decide +kernel)) (goodIn_sub (fun _ h => List.mem_cons_of_mem _ (List.mem_append_right _ h)) (by decide +kernel))
set_option maxRecDepth 20000 in
theorem gL_outerOf_X4_outerOf : GoodIn wsL_outerOf (wsV RL 27 RX4 yX4_outerOf wsX4_outerOf) := goodIn_app (goodIn_of _ (by decide +kernel)) ggL_outerOf_X4_outerOf
set_option maxRecDepth 20000 in
theorem ggL_leadsTo_X4_leadsTo : GoodIn wsL_leadsTo wsX4_leadsTo := goodIn_ca (goodIn_ca (goodIn_r _ [7, 8, 9, 10, 6, 11, 12, 13, 14, 15, 16, 17, 18, 19, 20, 21, 22, 23, 24, 25, 26, 27, 28, 29, 30, 31, 32, 33, 34, 35, 36, 37, 38, 39, 40, 41, 42, 43, 44, 45, 46, 47, 48, 49, 50, 51] (by decide +kernel) (by decide +kernel)) (goodIn_sub (fun _ h => List.mem_cons_of_mem _ (List.mem_append_left _ (List.mem_append_right _ h))) (by decide +kernel))) (goodIn_sub (fun _ h => List.mem_cons_of_mem _ (List.mem_append_right _ h)) (by decide +kernel))
set_option maxRecDepth 20000 in
theorem gL_leadsTo_X4_leadsTo : GoodIn wsL_leadsTo (wsV RL 30 RX4 yX4_leadsTo wsX4_leadsTo) := goodIn_app (goodIn_of _ (by decide +kernel)) ggL_leadsTo_X4_leadsTo
set_option maxRecDepth 20000 in
theorem ggL_seenAs_X4_seenAs : GoodIn wsL_seenAs wsX4_seenAs := goodIn_ca (goodIn_ca (goodIn_r _ [7, 8, 9, 10, 6, 11, 12, 13, 14, 15, 16, 17, 18, 19, 20, 21, 22, 23, 24, 25, 26, 27, 28, 29, 30, 31, 32, 33, 34, 35, 36, 37, 38, 39, 40, 41, 42, 43, 44, 45, 46, 47, 48, 49, 50, 51, 52, 53, 54, 55] (by decide +kernel) (by decide +kernel)) (goodIn_sub (fun _ h => List.mem_cons_of_mem _ (List.mem_append_left _ (List.mem_append_right _ h))) (by decide +kernel))) (goodIn_sub (fun _ h => List.mem_cons_of_mem _ (List.mem_append_right _ h)) (by decide +kernel))
set_option maxRecDepth 20000 in
theorem gL_seenAs_X4_seenAs : GoodIn wsL_seenAs (wsV RL 33 RX4 yX4_seenAs wsX4_seenAs) := goodIn_app (goodIn_of _ (by decide +kernel)) ggL_seenAs_X4_seenAs
set_option maxRecDepth 20000 in
theorem ggL_seenByLeading_X4_seenByLeading : GoodIn wsL_seenByLeading wsX4_seenByLeading := goodIn_ca (goodIn_ca (goodIn_r _ [7, 8, 9, 10, 6, 11, 12, 13, 14, 15, 16, 17, 18, 19, 20, 21, 22, 23, 24, 25, 26, 27, 28, 29, 30, 31, 32, 33, 34, 35, 36, 37, 38, 39, 40, 41, 42, 43, 44, 45, 46, 47, 48, 49, 50, 51] (by decide +kernel) (by decide +kernel)) (goodIn_sub (fun _ h => List.mem_cons_of_mem _ (List.mem_append_left _ (List.mem_append_right _ h))) (by decide +kernel))) (goodIn_sub (fun _ h => List.mem_cons_of_mem _ (List.mem_append_right _ h)) (by decide +kernel))
set_option maxRecDepth 20000 in
theorem gL_seenByLeading_X4_seenByLeading : GoodIn wsL_seenByLeading (wsV RL 36 RX4 yX4_seenByLeading wsX4_seenByLeading) := goodIn_app (goodIn_of _ (by decide +kernel)) ggL_seenByLeading_X4_seenByLeading
set_option maxRecDepth 20000 in
theorem ggL_fork_X4_fork : GoodIn wsL_fork wsX4_fork := goodIn_ca (goodIn_ca (goodIn_r _ [7, 8, 9, 10, 11, 12, 13, 14, 15, 16, 17, 18, 19, 20, 6, 21, 22, 23, 24, 25, 26, 27, 28, 29, 30, 31, 32, 33, 34, 35, 36, 37, 38, 39, 40, 41, 42, 43, 44] (by decide +kernel) (by decide +kernel)) (goodIn_sub (fun _ h => List.mem_cons_of_mem _ (List.mem_append_left _ (List.mem_append_right _ h))) (by decide +kernel))) (goodIn_sub (fun _ h => List.mem_cons_of_mem _ (List.mem_append_right _ h)) (by decide +kernel))
set_option maxRecDepth 20000 in
theorem gL_fork_X4_fork : GoodIn wsL_fork (wsV RL 39 RX4 yX4_fork wsX4_fork) := goodIn_app (goodIn_of _ (by decide +kernel)) ggL_fork_X4_fork
set_option maxRecDepth 20000 in
theorem ggL_drop_X4_drop : GoodIn wsL_drop wsX4_drop := goodIn_ca (goodIn_ca (goodIn_r _ [7, 8, 9, 10, 11, 12, 13, 6, 14, 15, 16, 17, 18, 19, 20, 21, 22, 23, 24, 25, 26, 27, 28, 29] (by decide +kernel) (by decide +kernel)) (goodIn_sub (fun _ h => List.mem_cons_of_mem _ (List.mem_append_left _ (List.mem_append_right _ h))) (by decide +kernel))) (goodIn_sub (fun _ h => List.mem_cons_of_mem _ (List.mem_append_right _ h)) (by decide +kernel))
set_option maxRecDepth 20000 in
theorem gL_drop_X4_drop : GoodIn wsL_drop (wsV RL 42 RX4 yX4_drop wsX4_drop) := goodIn_app (goodIn_of _ (by decide +kernel)) ggL_drop_X4_drop
set_option maxRecDepth 20000 in
theorem ggL_enter_X4_enter : GoodIn wsL_enter wsX4_enter := goodIn_ca (goodIn_r _ [6, 7, 8, 9, 10, 11, 12, 5, 13, 14, 15, 16, 17, 18, 19, 20, 21, 22, 23, 24, 25, 26, 27, 28, 29, 30, 31, 32, 33, 34, 35, 36, 37, 38, 39, 40, 41, 42, 43, 44, 45, 46, 47, 48, 49, 50, 51, 52, 53, 54, 55, 56, 57, 58, 59, 60, 61, 62, 63, 64, 65, 66, 67, 68] (by decide +kernel) (by decide +kernel)) (goodIn_sub (fun _ h => List.mem_cons_of_mem _ (List.mem_append_right _ h)) (by decide +kernel))
set_option maxRecDepth 20000 in
theorem gL_enter_X4_enter : GoodIn wsL_enter (wsV RL 45 RX4 yX4_enter wsX4_enter) := goodIn_app (goodIn_of _ (by decide +kernel)) ggL_enter_X4_enter
set_option maxRecDepth 20000 in
theorem ggL_setNumber_X4_setNumber : GoodIn wsL_setNumber wsX4_setNumber := goodIn_ca (goodIn_ca (goodIn_r _ [7, 8, 9, 10, 11, 12, 13, 6, 14, 15, 16, 17, 18, 19, 20, 21, 22, 23, 24, 25, 26, 27, 28, 29, 30, 31, 32, 33, 34, 35, 36, 37, 38, 39, 40, 41, 42, 43, 44, 45, 46, 47, 48, 49, 50, 51, 52, 53, 54, 55, 56, 57, 58, 59, 60, 61, 62, 63, 64, 65, 66, 67, 68, 69, 70, 71, 72, 73, 74, 75, 76, 77, 78, 79, 80, 81, 82, 83, 84, 85, 86, 87, 88, 89, 90, 91, 92, 93] (by decide +kernel) (by decide +kernel)) (goodIn_sub (fun _ h => List.mem_cons_of_mem _ (List.mem_append_left _ (List.mem_append_right _ h))) (by decide +kernel))) (goodIn_sub (fun _ h => List.mem_cons_of_mem _ (List.mem_append_right _ h)) (by decide +kernel))
set_option maxRecDepth 20000 in
theorem gL_setNumber_X4_setNumber : GoodIn wsL_setNumber (wsV RL 48 RX4 yX4_setNumber wsX4_setNumber) := goodIn_app (goodIn_of _ (by decide +kernel)) ggL_setNumber_X4_setNumber
set_option maxRecDepth 20000 in
theorem ggL_roomOf_X4_roomOf : GoodIn wsL_roomOf wsX4_roomOf := goodIn_ca (goodIn_r _ [6, 7, 8, 9, 10, 5, 11, 12, 13, 14, 15, 16, 17, 18, 19, 20, 21, 22, 23, 24, 25, 26, 27, 28, 29, 30, 31, 32, 33, 34] (by decide +kernel) (by decide +kernel)) (goodIn_sub (fun _ h => List.mem_cons_of_mem _ (List.mem_append_right _ h)) (by decide +kernel))
set_option maxRecDepth 20000 in
theorem gL_roomOf_X4_roomOf : GoodIn wsL_roomOf (wsV RL 51 RX4 yX4_roomOf wsX4_roomOf) := goodIn_app (goodIn_of _ (by decide +kernel)) ggL_roomOf_X4_roomOf
set_option maxRecDepth 20000 in
theorem ggL_numberOf_X4_numberOf : GoodIn wsL_numberOf wsX4_numberOf := goodIn_ca (goodIn_r _ [6, 7, 8, 9, 10, 5, 11, 12, 13, 14, 15, 16, 17, 18, 19, 20, 21, 22, 23, 24, 25, 26] (by decide +kernel) (by decide +kernel)) (goodIn_sub (fun _ h => List.mem_cons_of_mem _ (List.mem_append_right _ h)) (by decide +kernel))
set_option maxRecDepth 20000 in
theorem gL_numberOf_X4_numberOf : GoodIn wsL_numberOf (wsV RL 54 RX4 yX4_numberOf wsX4_numberOf) := goodIn_app (goodIn_of _ (by decide +kernel)) ggL_numberOf_X4_numberOf
set_option maxRecDepth 20000 in
theorem ggL_rightsIn_X4_rightsIn : GoodIn wsL_rightsIn wsX4_rightsIn := goodIn_ca (goodIn_r _ [6, 7, 8, 9, 5, 10, 11, 12, 13, 14, 15, 16, 17, 18, 19, 20, 21, 22, 23, 24, 25, 26, 27, 28, 29, 30, 31, 32, 33, 34, 35, 36, 37, 38, 39, 40, 41, 42, 43, 44, 45, 46, 47, 48, 49, 50, 51] (by decide +kernel) (by decide +kernel)) (goodIn_sub (fun _ h => List.mem_cons_of_mem _ (List.mem_append_right _ h)) (by decide +kernel))
set_option maxRecDepth 20000 in
theorem gL_rightsIn_X4_rightsIn : GoodIn wsL_rightsIn (wsV RL 57 RX4 yX4_rightsIn wsX4_rightsIn) := goodIn_app (goodIn_of _ (by decide +kernel)) ggL_rightsIn_X4_rightsIn
set_option maxRecDepth 20000 in
theorem ggL_makeFile_X4_makeFile : GoodIn wsL_makeFile wsX4_makeFile := goodIn_ca (goodIn_ca (goodIn_ca (goodIn_r _ [8, 9, 10, 11, 12, 13, 14, 15, 16, 17, 18, 19, 20, 21, 22, 7, 23, 24, 25, 26, 27, 28, 29, 30, 31, 32, 33, 34, 35, 36, 37, 38, 39, 40, 41, 42, 43, 44, 45, 46, 47, 48, 49, 50, 51, 52, 53, 54, 55, 56, 57, 58, 59, 60, 61, 62, 63, 64, 65, 66, 67, 68, 69, 70, 71, 72, 73, 74, 75, 76, 77, 78, 79, 80, 81, 82] (by decide +kernel) (by decide +kernel)) (goodIn_sub (fun _ h => List.mem_cons_of_mem _ (List.mem_append_left _ (List.mem_append_left _ (List.mem_append_right _ h)))) (by decide +kernel))) (goodIn_sub (fun _ h => List.mem_cons_of_mem _ (List.mem_append_left _ (List.mem_append_right _ h))) (by decide +kernel))) (goodIn_sub (fun _ h => List.mem_cons_of_mem _ (List.mem_append_right _ h)) (by decide +kernel))
set_option maxRecDepth 20000 in
theorem gL_makeFile_X4_makeFile : GoodIn wsL_makeFile (wsV RL 60 RX4 yX4_makeFile wsX4_makeFile) := goodIn_app (goodIn_of _ (by decide +kernel)) ggL_makeFile_X4_makeFile
set_option maxRecDepth 20000 in
theorem ggL_handOver_X4_handOver : GoodIn wsL_handOver wsX4_handOver := goodIn_ca (goodIn_ca (goodIn_r _ [7, 8, 9, 10, 11, 12, 6, 13, 14, 15, 16, 17, 18, 19, 20, 21, 22, 23, 24, 25, 26, 27, 28, 29, 30, 31, 32, 33, 34, 35, 36, 37, 38, 39, 40, 41, 42, 43, 44, 45, 46, 47, 48, 49, 50, 51, 52, 53, 54, 55, 56, 57, 58, 59, 60, 61, 62, 63, 64, 65, 66, 67, 68, 69, 70, 71, 72, 73, 74, 75, 76, 77, 78, 79, 80, 81, 82, 83, 84, 85, 86, 87, 88, 89, 90, 91, 92, 93, 94, 95, 96, 97, 98, 99] (by decide +kernel) (by decide +kernel)) (goodIn_sub (fun _ h => List.mem_cons_of_mem _ (List.mem_append_left _ (List.mem_append_right _ h))) (by decide +kernel))) (goodIn_sub (fun _ h => List.mem_cons_of_mem _ (List.mem_append_right _ h)) (by decide +kernel))
set_option maxRecDepth 20000 in
theorem gL_handOver_X4_handOver : GoodIn wsL_handOver (wsV RL 63 RX4 yX4_handOver wsX4_handOver) := goodIn_app (goodIn_of _ (by decide +kernel)) ggL_handOver_X4_handOver
set_option maxRecDepth 20000 in
theorem ggL_open_X4_open : GoodIn wsL_open wsX4_open := goodIn_ca (goodIn_r _ [6, 7, 8, 9, 10, 11, 12, 5, 13, 14, 15, 16, 17, 18, 19, 20, 21, 22, 23, 24, 25, 26, 27, 28, 29, 30, 31, 32, 33, 34, 35, 36, 37, 38, 39, 40, 41, 42, 43, 44, 45, 46, 47, 48, 49, 50, 51, 52, 53, 54, 55, 56, 57, 58, 59, 60, 61, 62, 63, 64, 65, 66, 67, 68, 69, 70, 71, 72, 73, 74, 75, 76, 77, 78, 79, 80, 81, 82, 83, 84, 85, 86, 87, 88, 89, 90, 91, 92, 93, 94] (by decide +kernel) (by decide +kernel)) (goodIn_sub (fun _ h => List.mem_cons_of_mem _ (List.mem_append_right _ h)) (by decide +kernel))
set_option maxRecDepth 20000 in
theorem gL_open_X4_open : GoodIn wsL_open (wsV RL 66 RX4 yX4_open wsX4_open) := goodIn_app (goodIn_of _ (by decide +kernel)) ggL_open_X4_open
set_option maxRecDepth 20000 in
theorem ggL_ownerSeenBy_X4_ownerSeenBy : GoodIn wsL_ownerSeenBy wsX4_ownerSeenBy := goodIn_ca (goodIn_r _ [6, 7, 8, 9, 10, 11, 5, 12, 13, 14, 15, 16, 17, 18, 19, 20, 21, 22, 23, 24, 25, 26, 27, 28, 29, 30, 31, 32, 33, 34, 35, 36, 37, 38, 39, 40, 41, 42, 43, 44, 45, 46, 47, 48, 49, 50, 51, 52, 53, 54, 55, 56, 57, 58, 59, 60, 61, 62] (by decide +kernel) (by decide +kernel)) (goodIn_sub (fun _ h => List.mem_cons_of_mem _ (List.mem_append_right _ h)) (by decide +kernel))
set_option maxRecDepth 20000 in
theorem gL_ownerSeenBy_X4_ownerSeenBy : GoodIn wsL_ownerSeenBy (wsV RL 70 RX4 yX4_ownerSeenBy wsX4_ownerSeenBy) := goodIn_app (goodIn_of _ (by decide +kernel)) ggL_ownerSeenBy_X4_ownerSeenBy
end
section
set_option maxRecDepth 20000 in
theorem ggL_law_X4_init : GoodIn wsL_law wsX4_init := goodIn_r _ [9, 10, 11, 12, 13, 14, 15, 16, 17, 18, 19, 20, 21, 22, 23, 24, 25, 26, 27, 28, 29, 30, 31, 32, 33, 34, 35, 36, 37, 38, 39, 40, 41, 42, 43, 537, 538, 539, 540, 510, 511, 512, 513, 514, 515, 516, 517, 518, 541, 542, 543] (by decide +kernel) (by decide +kernel)
set_option maxRecDepth 20000 in
theorem gL_law_X4_init : GoodIn wsL_law (wsX4_init) := ggL_law_X4_init
set_option maxRecDepth 20000 in
theorem ggL_law_X5_init : GoodIn wsL_law wsX5_init := goodIn_r _ [46, 47, 11, 12, 48, 49, 50, 51, 52, 53, 54, 55, 56, 57, 58, 59, 60, 61, 519, 520, 521, 522, 523, 524, 525, 526, 527, 528, 529, 530, 531, 532, 533, 534, 535, 536] (by decide +kernel) (by decide +kernel)
set_option maxRecDepth 20000 in
theorem gL_law_X5_init : GoodIn wsL_law (wsX5_init) := ggL_law_X5_init
set_option maxRecDepth 20000 in
theorem ggL_law_L_makeRoom : GoodIn wsL_law wsL_makeRoom := goodIn_ca (goodIn_ca (goodIn_r _ [65, 66, 67, 68, 69, 70, 2, 71, 72, 73, 17, 16, 13, 14, 15, 74, 75, 76, 77, 78, 79, 80, 81, 82, 19, 29, 30, 31, 32, 11, 12, 33, 34, 35, 36, 83, 84, 85, 21, 86, 41, 43, 510, 511, 512, 513, 514, 515, 516, 517, 518, 537, 538, 539, 540, 541, 542, 543] (by decide +kernel) (by decide +kernel)) (goodIn_sub (fun _ h => List.mem_append_left _ (List.mem_append_left _ (List.mem_append_right _ h))) (by decide +kernel))) (goodIn_sub (fun _ h => List.mem_append_left _ (List.mem_append_right _ h)) (by decide +kernel))
set_option maxRecDepth 20000 in
theorem gL_law_L_makeRoom : GoodIn wsL_law (va_wsS RL 77 yL_makeRoom wsL_makeRoom) := goodIn_app (goodIn_of _ (by decide +kernel)) ggL_law_L_makeRoom
set_option maxRecDepth 20000 in
theorem ggL_law_X5_makeRoom : GoodIn wsL_law wsX5_makeRoom := goodIn_r _ [90, 48, 50, 57, 51, 58, 59, 91, 92, 93, 5, 94, 56, 95, 96, 97, 98, 99, 100, 101, 102, 519, 520, 521, 522, 523, 524, 525, 526, 527, 528, 529, 530, 531, 532, 533, 534, 535, 536] (by decide +kernel) (by decide +kernel)
set_option maxRecDepth 20000 in
theorem gL_law_X5_makeRoom : GoodIn wsL_law (wsV RL 82 RX5 yX5_makeRoom wsX5_makeRoom) := goodIn_app (goodIn_of _ (by decide +kernel)) ggL_law_X5_makeRoom
set_option maxRecDepth 20000 in
theorem ggL_law_X5_thrown : GoodIn wsL_law wsX5_thrown := goodIn_r _ [106, 102, 519, 520, 521, 522, 523, 524, 525, 526, 527, 528, 529, 530, 531, 532, 533, 534, 535, 536] (by decide +kernel) (by decide +kernel)
set_option maxRecDepth 20000 in
theorem gL_law_X5_thrown : GoodIn wsL_law (wsV RL 83 RX5 yX5_thrown wsX5_thrown) := goodIn_app (goodIn_of _ (by decide +kernel)) ggL_law_X5_thrown
set_option maxRecDepth 20000 in
theorem ggL_law_L_line : GoodIn wsL_law wsL_line := goodIn_ca (goodIn_ca (goodIn_r _ [109, 110, 67, 111, 112, 113, 2, 114, 115, 116, 72, 73, 26, 117, 118, 119, 120, 121, 122, 123, 124, 125, 126, 127, 128, 129, 130, 11, 12, 131, 132, 133, 134, 510, 511, 512, 513, 514, 515, 516, 517, 518, 544, 545, 546, 547] (by decide +kernel) (by decide +kernel)) (goodIn_sub (fun _ h => List.mem_append_right _ h) (by decide +kernel))) (goodIn_sub (fun _ h => List.mem_append_left _ (List.mem_append_left _ (List.mem_append_right _ h))) (by decide +kernel))
set_option maxRecDepth 20000 in
theorem gL_law_L_line : GoodIn wsL_law (va_wsS RL 87 yL_line wsL_line) := goodIn_app (goodIn_of _ (by decide +kernel)) ggL_law_L_line
set_option maxRecDepth 20000 in
theorem ggL_law_X5_line : GoodIn wsL_law wsX5_line := goodIn_r _ [138, 139, 53, 54, 55, 140, 141, 5, 142, 95, 96, 97, 98, 99, 100, 101, 102, 519, 520, 521, 522, 523, 524, 525, 526, 527, 528, 529, 530, 531, 532, 533, 534, 535, 536] (by decide +kernel) (by decide +kernel)
set_option maxRecDepth 20000 in
theorem gL_law_X5_line : GoodIn wsL_law (wsV RL 90 RX5 yX5_line wsX5_line) := goodIn_app (goodIn_of _ (by decide +kernel)) ggL_law_X5_line
set_option maxRecDepth 20000 in
theorem ggL_law_L_writeMap : GoodIn wsL_law wsL_writeMap := goodIn_ca (goodIn_r _ [145, 66, 146, 147, 148, 2, 149, 81, 82, 150, 26, 151, 75, 152, 153, 77, 78, 79, 80, 19, 154, 155, 156, 157, 16, 158, 159, 160, 161, 27, 28, 162, 163, 164, 126, 165, 166, 167, 119, 168, 131, 133, 132, 169, 170, 171, 172, 173, 174, 175, 176, 177, 178, 179, 180, 181, 15, 182, 34, 36, 183, 184, 185, 186, 187, 188, 189, 190, 134, 191, 192, 193, 21, 194, 195, 196, 197, 198, 41, 43, 199, 200, 201, 202, 203, 204, 42, 205, 206, 123, 124, 125, 537, 538, 539, 540, 510, 511, 512, 513, 514, 515, 516, 517, 518, 541, 542, 543, 544, 545, 546, 547] (by decide +kernel) (by decide +kernel)) (goodIn_sub (fun _ h => List.mem_append_left _ (List.mem_append_right _ h)) (by decide +kernel))
set_option maxRecDepth 20000 in
theorem gL_law_L_writeMap : GoodIn wsL_law (va_wsS RL 91 yL_writeMap wsL_writeMap) := goodIn_app (goodIn_of _ (by decide +kernel)) ggL_law_L_writeMap
set_option maxRecDepth 20000 in
theorem ggL_law_X5_writeMap : GoodIn wsL_law wsX5_writeMap := goodIn_r _ [210, 52, 50, 139, 53, 54, 55, 91, 92, 93, 5, 94, 56, 95, 96, 97, 211, 212, 213, 214, 48, 98, 99, 100, 101, 102, 215, 216, 217, 218, 219, 220, 221, 222, 223, 224, 225, 226, 227, 228, 229, 230, 231, 232, 233, 234, 235, 236, 237, 58, 51, 238, 239, 240, 241, 57, 59, 242, 243, 244, 245, 246, 247, 248, 249, 250, 251, 519, 520, 521, 522, 523, 524, 525, 526, 527, 528, 529, 530, 531, 532, 533, 534, 535, 536] (by decide +kernel) (by decide +kernel)
set_option maxRecDepth 20000 in
theorem gL_law_X5_writeMap : GoodIn wsL_law (wsV RL 94 RX5 yX5_writeMap wsX5_writeMap) := goodIn_app (goodIn_of _ (by decide +kernel)) ggL_law_X5_writeMap
set_option maxRecDepth 20000 in
theorem ggL_law_X4_rooms : GoodIn wsL_law wsX4_rooms := goodIn_r _ [255, 17, 510, 511, 512, 513, 514, 515, 516, 517, 518] (by decide +kernel) (by decide +kernel)
set_option maxRecDepth 20000 in
theorem gL_law_X4_rooms : GoodIn wsL_law (wsV RL 95 RX4 yX4_rooms wsX4_rooms) := goodIn_app (goodIn_of _ (by decide +kernel)) ggL_law_X4_rooms
set_option maxRecDepth 20000 in
theorem ggL_law_X5_rooms : GoodIn wsL_law wsX5_rooms := goodIn_r _ [259, 48, 260, 261, 262, 5, 263, 102, 519, 520, 521, 522, 523, 524, 525, 526, 527, 528, 529, 530, 531, 532, 533, 534, 535, 536] (by decide +kernel) (by decide +kernel)
set_option maxRecDepth 20000 in
theorem gL_law_X5_rooms : GoodIn wsL_law (wsV RL 98 RX5 yX5_rooms wsX5_rooms) := goodIn_app (goodIn_of _ (by decide +kernel)) ggL_law_X5_rooms
set_option maxRecDepth 20000 in
theorem ggL_law_L_outerOf : GoodIn wsL_law wsL_outerOf := goodIn_ca (goodIn_r _ [266, 66, 267, 268, 269, 2, 270, 150, 154, 155, 156, 157, 81, 82, 16, 271, 272, 273, 76, 537, 538, 539, 540, 510, 511, 512, 513, 514, 515, 516, 517, 518] (by decide +kernel) (by decide +kernel)) (goodIn_sub (fun _ h => List.mem_append_left _ (List.mem_append_right _ h)) (by decide +kernel))
set_option maxRecDepth 20000 in
theorem gL_law_L_outerOf : GoodIn wsL_law (va_wsS RL 99 yL_outerOf wsL_outerOf) := goodIn_app (goodIn_of _ (by decide +kernel)) ggL_law_L_outerOf
set_option maxRecDepth 20000 in
theorem ggL_law_X5_outerOf : GoodIn wsL_law wsX5_outerOf := goodIn_r _ [277, 50, 211, 212, 213, 5, 214, 48, 95, 96, 97, 98, 99, 100, 101, 102, 519, 520, 521, 522, 523, 524, 525, 526, 527, 528, 529, 530, 531, 532, 533, 534, 535, 536] (by decide +kernel) (by decide +kernel)
set_option maxRecDepth 20000 in
theorem gL_law_X5_outerOf : GoodIn wsL_law (wsV RL 101 RX5 yX5_outerOf wsX5_outerOf) := goodIn_app (goodIn_of _ (by decide +kernel)) ggL_law_X5_outerOf
set_option maxRecDepth 20000 in
theorem ggL_law_L_leadsTo : GoodIn wsL_law wsL_leadsTo := goodIn_ca (goodIn_ca (goodIn_r _ [280, 66, 110, 281, 282, 283, 2, 284, 154, 155, 156, 157, 81, 82, 16, 120, 121, 122, 115, 116, 176, 177, 178, 150, 179, 180, 181, 15, 182, 34, 36, 183, 184, 185, 186, 510, 511, 512, 513, 514, 515, 516, 517, 518, 537, 538, 539, 540, 544, 545, 546, 547] (by decide +kernel) (by decide +kernel)) (goodIn_sub (fun _ h => List.mem_append_left _ (List.mem_append_right _ h)) (by decide +kernel))) (goodIn_sub (fun _ h => List.mem_append_right _ h) (by decide +kernel))
set_option maxRecDepth 20000 in
theorem gL_law_L_leadsTo : GoodIn wsL_law (va_wsS RL 102 yL_leadsTo wsL_leadsTo) := goodIn_app (goodIn_of _ (by decide +kernel)) ggL_law_L_leadsTo
set_option maxRecDepth 20000 in
theorem ggL_law_X5_leadsTo : GoodIn wsL_law wsX5_leadsTo := goodIn_r _ [288, 289, 290, 291, 5, 292, 211, 212, 213, 214, 48, 95, 96, 97, 140, 141, 142, 98, 99, 100, 101, 102, 226, 227, 228, 229, 50, 230, 231, 232, 233, 52, 53, 55, 54, 519, 520, 521, 522, 523, 524, 525, 526, 527, 528, 529, 530, 531, 532, 533, 534, 535, 536] (by decide +kernel) (by decide +kernel)
set_option maxRecDepth 20000 in
theorem gL_law_X5_leadsTo : GoodIn wsL_law (wsV RL 104 RX5 yX5_leadsTo wsX5_leadsTo) := goodIn_app (goodIn_of _ (by decide +kernel)) ggL_law_X5_leadsTo
set_option maxRecDepth 20000 in
theorem ggL_law_L_seenAs : GoodIn wsL_law wsL_seenAs := goodIn_ca (goodIn_ca (goodIn_r _ [295, 66, 110, 296, 297, 298, 2, 299, 154, 155, 156, 157, 81, 82, 16, 120, 121, 122, 115, 116, 300, 301, 302, 303, 304, 205, 206, 150, 305, 306, 307, 15, 308, 34, 36, 185, 184, 183, 186, 510, 511, 512, 513, 514, 515, 516, 517, 518, 537, 538, 539, 540, 544, 545, 546, 547] (by decide +kernel) (by decide +kernel)) (goodIn_sub (fun _ h => List.mem_append_left _ (List.mem_append_right _ h)) (by decide +kernel))) (goodIn_sub (fun _ h => List.mem_append_right _ h) (by decide +kernel))
set_option maxRecDepth 20000 in
theorem gL_law_L_seenAs : GoodIn wsL_law (va_wsS RL 105 yL_seenAs wsL_seenAs) := goodIn_app (goodIn_of _ (by decide +kernel)) ggL_law_L_seenAs
set_option maxRecDepth 20000 in
theorem ggL_law_X5_seenAs : GoodIn wsL_law wsX5_seenAs := goodIn_r _ [312, 289, 290, 291, 5, 292, 211, 212, 213, 214, 48, 95, 96, 97, 140, 141, 142, 98, 99, 100, 101, 102, 313, 314, 315, 316, 226, 227, 228, 229, 50, 230, 231, 232, 233, 52, 53, 55, 54, 519, 520, 521, 522, 523, 524, 525, 526, 527, 528, 529, 530, 531, 532, 533, 534, 535, 536] (by decide +kernel) (by decide +kernel)
set_option maxRecDepth 20000 in
theorem gL_law_X5_seenAs : GoodIn wsL_law (wsV RL 107 RX5 yX5_seenAs wsX5_seenAs) := goodIn_app (goodIn_of _ (by decide +kernel)) ggL_law_X5_seenAs
set_option maxRecDepth 20000 in
theorem ggL_law_L_seenByLeading : GoodIn wsL_law wsL_seenByLeading := goodIn_ca (goodIn_ca (goodIn_r _ [319, 66, 110, 320, 321, 322, 2, 323, 154, 155, 156, 157, 81, 82, 16, 120, 121, 122, 115, 116, 176, 177, 178, 150, 179, 180, 181, 15, 182, 34, 36, 183, 184, 185, 186, 510, 511, 512, 513, 514, 515, 516, 517, 518, 537, 538, 539, 540, 544, 545, 546, 547] (by decide +kernel) (by decide +kernel)) (goodIn_sub (fun _ h => List.mem_append_left _ (List.mem_append_right _ h)) (by decide +kernel))) (goodIn_sub (fun _ h => List.mem_append_right _ h) (by decide +kernel))
set_option maxRecDepth 20000 in
theorem gL_law_L_seenByLeading : GoodIn wsL_law (va_wsS RL 108 yL_seenByLeading wsL_seenByLeading) := goodIn_app (goodIn_of _ (by decide +kernel)) ggL_law_L_seenByLeading
set_option maxRecDepth 20000 in
theorem ggL_law_X5_seenByLeading : GoodIn wsL_law wsX5_seenByLeading := goodIn_r _ [327, 328, 310, 311, 5, 312, 289, 290, 291, 292, 211, 212, 213, 214, 48, 95, 96, 97, 140, 141, 142, 98, 99, 100, 101, 102, 313, 314, 315, 316, 226, 227, 228, 229, 50, 230, 231, 232, 233, 52, 53, 55, 54, 519, 520, 521, 522, 523, 524, 525, 526, 527, 528, 529, 530, 531, 532, 533, 534, 535, 536] (by decide +kernel) (by decide +kernel)
set_option maxRecDepth 20000 in
theorem gL_law_X5_seenByLeading : GoodIn wsL_law (wsV RL 110 RX5 yX5_seenByLeading wsX5_seenByLeading) := goodIn_app (goodIn_of _ (by decide +kernel)) ggL_law_X5_seenByLeading
set_option maxRecDepth 20000 in
theorem ggL_law_L_fork : GoodIn wsL_law wsL_fork := goodIn_ca (goodIn_ca (goodIn_r _ [331, 66, 67, 332, 333, 334, 2, 335, 72, 73, 22, 19, 18, 20, 21, 74, 75, 336, 77, 78, 79, 80, 81, 82, 37, 38, 39, 40, 11, 12, 41, 42, 43, 510, 511, 512, 513, 514, 515, 516, 517, 518, 541, 542, 543] (by decide +kernel) (by decide +kernel)) (goodIn_sub (fun _ h => List.mem_append_left _ (List.mem_append_left _ (List.mem_append_right _ h))) (by decide +kernel))) (goodIn_sub (fun _ h => List.mem_append_left _ (List.mem_append_right _ h)) (by decide +kernel))
set_option maxRecDepth 20000 in
theorem gL_law_L_fork : GoodIn wsL_law (va_wsS RL 111 yL_fork wsL_fork) := goodIn_app (goodIn_of _ (by decide +kernel)) ggL_law_L_fork
set_option maxRecDepth 20000 in
theorem ggL_law_X5_fork : GoodIn wsL_law wsX5_fork := goodIn_r _ [340, 56, 57, 58, 59, 91, 92, 93, 5, 94, 95, 96, 97, 98, 99, 100, 101, 102, 519, 520, 521, 522, 523, 524, 525, 526, 527, 528, 529, 530, 531, 532, 533, 534, 535, 536] (by decide +kernel) (by decide +kernel)
set_option maxRecDepth 20000 in
theorem gL_law_X5_fork : GoodIn wsL_law (wsV RL 113 RX5 yX5_fork wsX5_fork) := goodIn_app (goodIn_of _ (by decide +kernel)) ggL_law_X5_fork
set_option maxRecDepth 20000 in
theorem ggL_law_L_drop : GoodIn wsL_law wsL_drop := goodIn_ca (goodIn_ca (goodIn_r _ [343, 66, 110, 344, 345, 346, 2, 347, 115, 116, 336, 77, 78, 79, 80, 81, 82, 19, 541, 542, 543, 510, 511, 512, 513, 514, 515, 516, 517, 518] (by decide +kernel) (by decide +kernel)) (goodIn_sub (fun _ h => List.mem_append_right _ h) (by decide +kernel))) (goodIn_sub (fun _ h => List.mem_append_left _ (List.mem_append_right _ h)) (by decide +kernel))
set_option maxRecDepth 20000 in
theorem gL_law_L_drop : GoodIn wsL_law (va_wsS RL 114 yL_drop wsL_drop) := goodIn_app (goodIn_of _ (by decide +kernel)) ggL_law_L_drop
set_option maxRecDepth 20000 in
theorem ggL_law_X5_drop : GoodIn wsL_law wsX5_drop := goodIn_r _ [351, 59, 91, 92, 93, 5, 94, 56, 95, 96, 97, 98, 99, 100, 101, 102, 519, 520, 521, 522, 523, 524, 525, 526, 527, 528, 529, 530, 531, 532, 533, 534, 535, 536] (by decide +kernel) (by decide +kernel)
set_option maxRecDepth 20000 in
theorem gL_law_X5_drop : GoodIn wsL_law (wsV RL 116 RX5 yX5_drop wsX5_drop) := goodIn_app (goodIn_of _ (by decide +kernel)) ggL_law_X5_drop
set_option maxRecDepth 20000 in
theorem ggL_law_L_enter : GoodIn wsL_law wsL_enter := goodIn_ca (goodIn_r _ [354, 66, 355, 356, 357, 2, 358, 150, 74, 336, 77, 78, 79, 80, 81, 82, 19, 154, 155, 156, 157, 16, 304, 205, 206, 158, 159, 160, 161, 27, 28, 191, 192, 193, 21, 194, 195, 196, 197, 198, 41, 43, 199, 200, 201, 202, 203, 204, 42, 83, 84, 85, 86, 537, 538, 539, 540, 541, 542, 543, 510, 511, 512, 513, 514, 515, 516, 517, 518] (by decide +kernel) (by decide +kernel)) (goodIn_sub (fun _ h => List.mem_append_left _ (List.mem_append_right _ h)) (by decide +kernel))
set_option maxRecDepth 20000 in
theorem gL_law_L_enter : GoodIn wsL_law (va_wsS RL 117 yL_enter wsL_enter) := goodIn_app (goodIn_of _ (by decide +kernel)) ggL_law_L_enter
set_option maxRecDepth 20000 in
theorem ggL_law_X5_enter : GoodIn wsL_law wsX5_enter := goodIn_r _ [362, 57, 59, 91, 92, 93, 5, 94, 56, 95, 96, 97, 211, 212, 213, 214, 48, 98, 99, 100, 101, 102, 242, 243, 244, 245, 50, 238, 239, 240, 241, 51, 58, 246, 247, 248, 249, 250, 251, 519, 520, 521, 522, 523, 524, 525, 526, 527, 528, 529, 530, 531, 532, 533, 534, 535, 536] (by decide +kernel) (by decide +kernel)
set_option maxRecDepth 20000 in
theorem gL_law_X5_enter : GoodIn wsL_law (wsV RL 119 RX5 yX5_enter wsX5_enter) := goodIn_app (goodIn_of _ (by decide +kernel)) ggL_law_X5_enter
set_option maxRecDepth 20000 in
theorem ggL_law_L_setNumber : GoodIn wsL_law wsL_setNumber := goodIn_ca (goodIn_ca (goodIn_r _ [365, 66, 110, 366, 367, 368, 2, 369, 74, 75, 336, 77, 78, 79, 80, 81, 82, 19, 120, 121, 122, 115, 116, 176, 177, 178, 150, 179, 180, 181, 15, 182, 34, 36, 183, 184, 185, 186, 158, 159, 160, 161, 27, 28, 191, 192, 193, 21, 194, 195, 196, 197, 198, 41, 43, 199, 200, 201, 202, 203, 204, 42, 205, 206, 300, 301, 302, 303, 16, 304, 305, 306, 307, 308, 541, 542, 543, 510, 511, 512, 513, 514, 515, 516, 517, 518, 537, 538, 539, 540, 544, 545, 546, 547] (by decide +kernel) (by decide +kernel)) (goodIn_sub (fun _ h => List.mem_append_left _ (List.mem_append_right _ h)) (by decide +kernel))) (goodIn_sub (fun _ h => List.mem_append_right _ h) (by decide +kernel))
set_option maxRecDepth 20000 in
theorem gL_law_L_setNumber : GoodIn wsL_law (va_wsS RL 120 yL_setNumber wsL_setNumber) := goodIn_app (goodIn_of _ (by decide +kernel)) ggL_law_L_setNumber
set_option maxRecDepth 20000 in
theorem ggL_law_X5_setNumber : GoodIn wsL_law wsX5_setNumber := goodIn_r _ [373, 57, 58, 59, 91, 92, 93, 5, 94, 56, 95, 96, 97, 140, 141, 142, 98, 99, 100, 101, 102, 226, 227, 228, 229, 50, 230, 231, 232, 233, 52, 53, 55, 54, 246, 247, 248, 249, 250, 251, 313, 314, 315, 316, 519, 520, 521, 522, 523, 524, 525, 526, 527, 528, 529, 530, 531, 532, 533, 534, 535, 536] (by decide +kernel) (by decide +kernel)
set_option maxRecDepth 20000 in
theorem gL_law_X5_setNumber : GoodIn wsL_law (wsV RL 122 RX5 yX5_setNumber wsX5_setNumber) := goodIn_app (goodIn_of _ (by decide +kernel)) ggL_law_X5_setNumber
set_option maxRecDepth 20000 in
theorem ggL_law_X4_processes : GoodIn wsL_law wsX4_processes := goodIn_r _ [377, 22, 510, 511, 512, 513, 514, 515, 516, 517, 518] (by decide +kernel) (by decide +kernel)
set_option maxRecDepth 20000 in
theorem gL_law_X4_processes : GoodIn wsL_law (wsV RL 123 RX4 yX4_processes wsX4_processes) := goodIn_app (goodIn_of _ (by decide +kernel)) ggL_law_X4_processes
set_option maxRecDepth 20000 in
theorem ggL_law_X5_processes : GoodIn wsL_law wsX5_processes := goodIn_r _ [381, 56, 260, 261, 262, 5, 263, 102, 519, 520, 521, 522, 523, 524, 525, 526, 527, 528, 529, 530, 531, 532, 533, 534, 535, 536] (by decide +kernel) (by decide +kernel)
set_option maxRecDepth 20000 in
theorem gL_law_X5_processes : GoodIn wsL_law (wsV RL 126 RX5 yX5_processes wsX5_processes) := goodIn_app (goodIn_of _ (by decide +kernel)) ggL_law_X5_processes
set_option maxRecDepth 20000 in
theorem ggL_law_L_roomOf : GoodIn wsL_law wsL_roomOf := goodIn_ca (goodIn_r _ [384, 66, 385, 386, 387, 2, 388, 74, 77, 78, 79, 80, 81, 82, 19, 271, 272, 273, 76, 541, 542, 543, 510, 511, 512, 513, 514, 515, 516, 517, 518, 537, 538, 539, 540] (by decide +kernel) (by decide +kernel)) (goodIn_sub (fun _ h => List.mem_append_left _ (List.mem_append_right _ h)) (by decide +kernel))
set_option maxRecDepth 20000 in
theorem gL_law_L_roomOf : GoodIn wsL_law (va_wsS RL 127 yL_roomOf wsL_roomOf) := goodIn_app (goodIn_of _ (by decide +kernel)) ggL_law_L_roomOf
set_option maxRecDepth 20000 in
theorem ggL_law_X5_roomOf : GoodIn wsL_law wsX5_roomOf := goodIn_r _ [392, 57, 393, 394, 395, 5, 396, 91, 92, 93, 94, 56, 95, 96, 97, 98, 99, 100, 101, 102, 519, 520, 521, 522, 523, 524, 525, 526, 527, 528, 529, 530, 531, 532, 533, 534, 535, 536] (by decide +kernel) (by decide +kernel)
set_option maxRecDepth 20000 in
theorem gL_law_X5_roomOf : GoodIn wsL_law (wsV RL 129 RX5 yX5_roomOf wsX5_roomOf) := goodIn_app (goodIn_of _ (by decide +kernel)) ggL_law_X5_roomOf
set_option maxRecDepth 20000 in
theorem ggL_law_L_numberOf : GoodIn wsL_law wsL_numberOf := goodIn_ca (goodIn_r _ [399, 66, 400, 401, 402, 2, 403, 75, 77, 78, 79, 80, 81, 82, 19, 541, 542, 543, 510, 511, 512, 513, 514, 515, 516, 517, 518] (by decide +kernel) (by decide +kernel)) (goodIn_sub (fun _ h => List.mem_append_left _ (List.mem_append_right _ h)) (by decide +kernel))
set_option maxRecDepth 20000 in
theorem gL_law_L_numberOf : GoodIn wsL_law (va_wsS RL 130 yL_numberOf wsL_numberOf) := goodIn_app (goodIn_of _ (by decide +kernel)) ggL_law_L_numberOf
set_option maxRecDepth 20000 in
theorem ggL_law_X5_numberOf : GoodIn wsL_law wsX5_numberOf := goodIn_r _ [407, 58, 393, 394, 395, 5, 396, 91, 92, 93, 94, 56, 95, 96, 97, 98, 99, 100, 101, 102, 519, 520, 521, 522, 523, 524, 525, 526, 527, 528, 529, 530, 531, 532, 533, 534, 535, 536] (by decide +kernel) (by decide +kernel)
set_option maxRecDepth 20000 in
theorem gL_law_X5_numberOf : GoodIn wsL_law (wsV RL 132 RX5 yX5_numberOf wsX5_numberOf) := goodIn_app (goodIn_of _ (by decide +kernel)) ggL_law_X5_numberOf
set_option maxRecDepth 20000 in
theorem ggL_law_L_rightsIn : GoodIn wsL_law wsL_rightsIn := goodIn_ca (goodIn_r _ [410, 66, 411, 412, 413, 2, 414, 77, 78, 79, 80, 81, 82, 19, 154, 155, 156, 157, 16, 415, 196, 197, 21, 198, 41, 43, 199, 200, 201, 202, 203, 204, 42, 205, 206, 150, 510, 511, 512, 513, 514, 515, 516, 517, 518, 541, 542, 543, 537, 538, 539, 540] (by decide +kernel) (by decide +kernel)) (goodIn_sub (fun _ h => List.mem_append_left _ (List.mem_append_right _ h)) (by decide +kernel))
set_option maxRecDepth 20000 in
theorem gL_law_L_rightsIn : GoodIn wsL_law (va_wsS RL 133 yL_rightsIn wsL_rightsIn) := goodIn_app (goodIn_of _ (by decide +kernel)) ggL_law_L_rightsIn
set_option maxRecDepth 20000 in
theorem ggL_law_X5_rightsIn : GoodIn wsL_law wsX5_rightsIn := goodIn_r _ [419, 91, 92, 93, 5, 94, 56, 95, 96, 97, 211, 212, 213, 214, 48, 98, 99, 100, 101, 102, 238, 239, 240, 241, 51, 58, 50, 57, 59, 242, 243, 244, 245, 519, 520, 521, 522, 523, 524, 525, 526, 527, 528, 529, 530, 531, 532, 533, 534, 535, 536] (by decide +kernel) (by decide +kernel)
set_option maxRecDepth 20000 in
theorem gL_law_X5_rightsIn : GoodIn wsL_law (wsV RL 135 RX5 yX5_rightsIn wsX5_rightsIn) := goodIn_app (goodIn_of _ (by decide +kernel)) ggL_law_X5_rightsIn
set_option maxRecDepth 20000 in
theorem ggL_law_L_makeFile : GoodIn wsL_law wsL_makeFile := goodIn_ca (goodIn_ca (goodIn_ca (goodIn_r _ [422, 66, 110, 67, 423, 424, 425, 2, 426, 115, 116, 72, 73, 25, 24, 74, 75, 23, 427, 428, 77, 78, 79, 80, 81, 82, 19, 300, 301, 302, 303, 16, 304, 205, 206, 150, 305, 306, 307, 15, 308, 34, 36, 185, 184, 183, 186, 158, 159, 160, 161, 27, 28, 429, 430, 431, 432, 11, 12, 433, 434, 510, 511, 512, 513, 514, 515, 516, 517, 518, 541, 542, 543, 548, 549, 537, 538, 539, 540, 544, 545, 546, 547] (by decide +kernel) (by decide +kernel)) (goodIn_sub (fun _ h => List.mem_append_right _ h) (by decide +kernel))) (goodIn_sub (fun _ h => List.mem_append_left _ (List.mem_append_left _ (List.mem_append_right _ h))) (by decide +kernel))) (goodIn_sub (fun _ h => List.mem_append_left _ (List.mem_append_right _ h)) (by decide +kernel))
set_option maxRecDepth 20000 in
theorem gL_law_L_makeFile : GoodIn wsL_law (va_wsS RL 136 yL_makeFile wsL_makeFile) := goodIn_app (goodIn_of _ (by decide +kernel)) ggL_law_L_makeFile
set_option maxRecDepth 20000 in
theorem ggL_law_X5_makeFile : GoodIn wsL_law wsX5_makeFile := goodIn_r _ [438, 439, 57, 58, 60, 61, 91, 92, 93, 5, 94, 56, 95, 96, 97, 98, 99, 100, 101, 102, 313, 314, 315, 316, 226, 227, 228, 229, 50, 230, 231, 232, 233, 52, 53, 55, 54, 246, 247, 248, 249, 250, 251, 519, 520, 521, 522, 523, 524, 525, 526, 527, 528, 529, 530, 531, 532, 533, 534, 535, 536] (by decide +kernel) (by decide +kernel)
set_option maxRecDepth 20000 in
theorem gL_law_X5_makeFile : GoodIn wsL_law (wsV RL 138 RX5 yX5_makeFile wsX5_makeFile) := goodIn_app (goodIn_of _ (by decide +kernel)) ggL_law_X5_makeFile
set_option maxRecDepth 20000 in
theorem ggL_law_L_handOver : GoodIn wsL_law wsL_handOver := goodIn_ca (goodIn_ca (goodIn_r _ [442, 66, 110, 443, 444, 445, 2, 446, 74, 447, 77, 78, 79, 80, 81, 82, 19, 448, 449, 450, 451, 24, 120, 121, 122, 115, 116, 176, 177, 178, 150, 179, 180, 181, 15, 182, 34, 36, 183, 184, 185, 186, 300, 301, 302, 303, 16, 304, 205, 206, 305, 306, 307, 308, 158, 159, 160, 161, 27, 28, 191, 192, 193, 21, 194, 195, 196, 197, 198, 41, 43, 199, 200, 201, 202, 203, 204, 42, 541, 542, 543, 548, 549, 510, 511, 512, 513, 514, 515, 516, 517, 518, 537, 538, 539, 540, 544, 545, 546, 547] (by decide +kernel) (by decide +kernel)) (goodIn_sub (fun _ h => List.mem_append_left _ (List.mem_append_right _ h)) (by decide +kernel))) (goodIn_sub (fun _ h => List.mem_append_right _ h) (by decide +kernel))
set_option maxRecDepth 20000 in
theorem gL_law_L_handOver : GoodIn wsL_law (va_wsS RL 139 yL_handOver wsL_handOver) := goodIn_app (goodIn_of _ (by decide +kernel)) ggL_law_L_handOver
set_option maxRecDepth 20000 in
theorem ggL_law_X5_handOver : GoodIn wsL_law wsX5_handOver := goodIn_r _ [455, 57, 60, 59, 91, 92, 93, 5, 94, 56, 95, 96, 97, 456, 457, 458, 459, 439, 140, 141, 142, 98, 99, 100, 101, 102, 226, 227, 228, 229, 50, 230, 231, 232, 233, 52, 53, 55, 54, 313, 314, 315, 316, 246, 247, 248, 249, 250, 251, 519, 520, 521, 522, 523, 524, 525, 526, 527, 528, 529, 530, 531, 532, 533, 534, 535, 536] (by decide +kernel) (by decide +kernel)
set_option maxRecDepth 20000 in
theorem gL_law_X5_handOver : GoodIn wsL_law (wsV RL 141 RX5 yX5_handOver wsX5_handOver) := goodIn_app (goodIn_of _ (by decide +kernel)) ggL_law_X5_handOver
set_option maxRecDepth 20000 in
theorem ggL_law_L_open : GoodIn wsL_law wsL_open := goodIn_ca (goodIn_r _ [462, 66, 463, 464, 465, 2, 466, 75, 74, 447, 77, 78, 79, 80, 81, 82, 19, 448, 449, 450, 451, 24, 467, 468, 469, 428, 470, 434, 433, 191, 192, 193, 21, 194, 195, 196, 197, 198, 41, 43, 199, 200, 201, 202, 203, 204, 42, 205, 206, 150, 158, 159, 160, 161, 27, 28, 300, 301, 302, 303, 16, 304, 305, 306, 307, 15, 308, 34, 36, 185, 184, 183, 186, 541, 542, 543, 548, 549, 510, 511, 512, 513, 514, 515, 516, 517, 518, 537, 538, 539, 540, 544, 545, 546, 547] (by decide +kernel) (by decide +kernel)) (goodIn_sub (fun _ h => List.mem_append_left _ (List.mem_append_right _ h)) (by decide +kernel))
set_option maxRecDepth 20000 in
theorem gL_law_L_open : GoodIn wsL_law (va_wsS RL 142 yL_open wsL_open) := goodIn_app (goodIn_of _ (by decide +kernel)) ggL_law_L_open
set_option maxRecDepth 20000 in
theorem ggL_law_X5_open : GoodIn wsL_law wsX5_open := goodIn_r _ [474, 58, 60, 61, 59, 57, 91, 92, 93, 5, 94, 56, 95, 96, 97, 456, 457, 458, 459, 439, 98, 99, 100, 101, 102, 246, 247, 248, 249, 250, 251, 313, 314, 315, 316, 226, 227, 228, 229, 50, 230, 231, 232, 233, 52, 53, 55, 54, 519, 520, 521, 522, 523, 524, 525, 526, 527, 528, 529, 530, 531, 532, 533, 534, 535, 536] (by decide +kernel) (by decide +kernel)
set_option maxRecDepth 20000 in
theorem gL_law_X5_open : GoodIn wsL_law (wsV RL 145 RX5 yX5_open wsX5_open) := goodIn_app (goodIn_of _ (by decide +kernel)) ggL_law_X5_open
set_option maxRecDepth 20000 in
theorem ggL_law_L_ownerSeenBy : GoodIn wsL_law wsL_ownerSeenBy := goodIn_ca (goodIn_r _ [477, 66, 478, 479, 480, 2, 481, 74, 447, 77, 78, 79, 80, 81, 82, 19, 448, 449, 450, 451, 24, 300, 301, 302, 303, 16, 304, 205, 206, 150, 305, 306, 307, 15, 308, 34, 36, 185, 184, 183, 186, 541, 542, 543, 548, 549, 510, 511, 512, 513, 514, 515, 516, 517, 518, 537, 538, 539, 540, 544, 545, 546, 547] (by decide +kernel) (by decide +kernel)) (goodIn_sub (fun _ h => List.mem_append_left _ (List.mem_append_right _ h)) (by decide +kernel))
set_option maxRecDepth 20000 in
theorem gL_law_L_ownerSeenBy : GoodIn wsL_law (va_wsS RL 146 yL_ownerSeenBy wsL_ownerSeenBy) := goodIn_app (goodIn_of _ (by decide +kernel)) ggL_law_L_ownerSeenBy
set_option maxRecDepth 20000 in
theorem ggL_law_X5_ownerSeenBy : GoodIn wsL_law wsX5_ownerSeenBy := goodIn_r _ [485, 57, 60, 91, 92, 93, 5, 94, 56, 95, 96, 97, 456, 457, 458, 459, 439, 98, 99, 100, 101, 102, 313, 314, 315, 316, 226, 227, 228, 229, 50, 230, 231, 232, 233, 52, 53, 55, 54, 519, 520, 521, 522, 523, 524, 525, 526, 527, 528, 529, 530, 531, 532, 533, 534, 535, 536] (by decide +kernel) (by decide +kernel)
set_option maxRecDepth 20000 in
theorem gL_law_X5_ownerSeenBy : GoodIn wsL_law (wsV RL 148 RX5 yX5_ownerSeenBy wsX5_ownerSeenBy) := goodIn_app (goodIn_of _ (by decide +kernel)) ggL_law_X5_ownerSeenBy
set_option maxRecDepth 20000 in
theorem ggL_law_X4_files : GoodIn wsL_law wsX4_files := goodIn_r _ [489, 25, 510, 511, 512, 513, 514, 515, 516, 517, 518] (by decide +kernel) (by decide +kernel)
set_option maxRecDepth 20000 in
theorem gL_law_X4_files : GoodIn wsL_law (wsV RL 149 RX4 yX4_files wsX4_files) := goodIn_app (goodIn_of _ (by decide +kernel)) ggL_law_X4_files
set_option maxRecDepth 20000 in
theorem ggL_law_X5_files : GoodIn wsL_law wsX5_files := goodIn_r _ [493, 439, 260, 261, 262, 5, 263, 102, 519, 520, 521, 522, 523, 524, 525, 526, 527, 528, 529, 530, 531, 532, 533, 534, 535, 536] (by decide +kernel) (by decide +kernel)
set_option maxRecDepth 20000 in
theorem gL_law_X5_files : GoodIn wsL_law (wsV RL 152 RX5 yX5_files wsX5_files) := goodIn_app (goodIn_of _ (by decide +kernel)) ggL_law_X5_files
set_option maxRecDepth 20000 in
theorem ggL_law_X4_refusals : GoodIn wsL_law wsX4_refusals := goodIn_r _ [497, 27, 510, 511, 512, 513, 514, 515, 516, 517, 518] (by decide +kernel) (by decide +kernel)
set_option maxRecDepth 20000 in
theorem gL_law_X4_refusals : GoodIn wsL_law (wsV RL 153 RX4 yX4_refusals wsX4_refusals) := goodIn_app (goodIn_of _ (by decide +kernel)) ggL_law_X4_refusals
set_option maxRecDepth 20000 in
theorem ggL_law_X5_refusals : GoodIn wsL_law wsX5_refusals := goodIn_r _ [501, 250, 260, 261, 262, 5, 263, 102, 519, 520, 521, 522, 523, 524, 525, 526, 527, 528, 529, 530, 531, 532, 533, 534, 535, 536] (by decide +kernel) (by decide +kernel)
set_option maxRecDepth 20000 in
theorem gL_law_X5_refusals : GoodIn wsL_law (wsV RL 156 RX5 yX5_refusals wsX5_refusals) := goodIn_app (goodIn_of _ (by decide +kernel)) ggL_law_X5_refusals
set_option maxRecDepth 20000 in
theorem ggL_law_X4_lastRefusal : GoodIn wsL_law wsX4_lastRefusal := goodIn_r _ [505, 28, 510, 511, 512, 513, 514, 515, 516, 517, 518] (by decide +kernel) (by decide +kernel)
set_option maxRecDepth 20000 in
theorem gL_law_X4_lastRefusal : GoodIn wsL_law (wsV RL 157 RX4 yX4_lastRefusal wsX4_lastRefusal) := goodIn_app (goodIn_of _ (by decide +kernel)) ggL_law_X4_lastRefusal
set_option maxRecDepth 20000 in
theorem ggL_law_X5_lastRefusal : GoodIn wsL_law wsX5_lastRefusal := goodIn_r _ [509, 251, 260, 261, 262, 5, 263, 102, 519, 520, 521, 522, 523, 524, 525, 526, 527, 528, 529, 530, 531, 532, 533, 534, 535, 536] (by decide +kernel) (by decide +kernel)
set_option maxRecDepth 20000 in
theorem gL_law_X5_lastRefusal : GoodIn wsL_law (wsV RL 160 RX5 yX5_lastRefusal wsX5_lastRefusal) := goodIn_app (goodIn_of _ (by decide +kernel)) ggL_law_X5_lastRefusal
end
section
theorem dX0_init_0 : decode cX0_init 0 = .ok (.aload_n 0, 1) := by decide +kernel
theorem dX0_init_1 : decode cX0_init 1 = .ok (.invokespecial 3, 3) := by decide +kernel
theorem dX0_init_4 : decode cX0_init 4 = .ok (.aload_n 0, 1) := by decide +kernel
theorem dX0_init_5 : decode cX0_init 5 = .ok (.iload_n 1, 1) := by decide +kernel
theorem dX0_init_6 : decode cX0_init 6 = .ok (.putfield 9, 3) := by decide +kernel
theorem dX0_init_9 : decode cX0_init 9 = .ok (.aload_n 0, 1) := by decide +kernel
theorem dX0_init_10 : decode cX0_init 10 = .ok (.iload_n 2, 1) := by decide +kernel
theorem dX0_init_11 : decode cX0_init 11 = .ok (.putfield 15, 3) := by decide +kernel
theorem dX0_init_14 : decode cX0_init 14 = .ok (.return_, 1) := by decide +kernel
theorem dX0_allows_0 : decode cX0_allows 0 = .ok (.iload_n 2, 1) := by decide +kernel
theorem dX0_allows_1 : decode cX0_allows 1 = .ok (.ifCond .eq 7, 3) := by decide +kernel
theorem dX0_allows_4 : decode cX0_allows 4 = .ok (.iconst 2, 1) := by decide +kernel
theorem dX0_allows_5 : decode cX0_allows 5 = .ok (.goto 4, 3) := by decide +kernel
theorem dX0_allows_8 : decode cX0_allows 8 = .ok (.iconst 1, 1) := by decide +kernel
theorem dX0_allows_9 : decode cX0_allows 9 = .ok (.istore_n 3, 1) := by decide +kernel
theorem dX0_allows_10 : decode cX0_allows 10 = .ok (.iload_n 2, 1) := by decide +kernel
theorem dX0_allows_11 : decode cX0_allows 11 = .ok (.ifCond .eq 8, 3) := by decide +kernel
theorem dX0_allows_14 : decode cX0_allows 14 = .ok (.bipush 8, 2) := by decide +kernel
theorem dX0_allows_16 : decode cX0_allows 16 = .ok (.goto 4, 3) := by decide +kernel
theorem dX0_allows_19 : decode cX0_allows 19 = .ok (.iconst 4, 1) := by decide +kernel
theorem dX0_allows_20 : decode cX0_allows 20 = .ok (.istore 4, 2) := by decide +kernel
theorem dX0_allows_22 : decode cX0_allows 22 = .ok (.aload_n 0, 1) := by decide +kernel
theorem dX0_allows_23 : decode cX0_allows 23 = .ok (.getfield 15, 3) := by decide +kernel
theorem dX0_allows_26 : decode cX0_allows 26 = .ok (.iload_n 1, 1) := by decide +kernel
theorem dX0_allows_27 : decode cX0_allows 27 = .ok (.aload_n 0, 1) := by decide +kernel
theorem dX0_allows_28 : decode cX0_allows 28 = .ok (.getfield 9, 3) := by decide +kernel
theorem dX0_allows_31 : decode cX0_allows 31 = .ok (.if_icmp .ne 7, 3) := by decide +kernel
theorem dX0_allows_34 : decode cX0_allows 34 = .ok (.iload_n 3, 1) := by decide +kernel
theorem dX0_allows_35 : decode cX0_allows 35 = .ok (.goto 5, 3) := by decide +kernel
theorem dX0_allows_38 : decode cX0_allows 38 = .ok (.iload 4, 2) := by decide +kernel
theorem dX0_allows_40 : decode cX0_allows 40 = .ok (.iand, 1) := by decide +kernel
theorem dX0_allows_41 : decode cX0_allows 41 = .ok (.ifCond .eq 7, 3) := by decide +kernel
theorem dX0_allows_44 : decode cX0_allows 44 = .ok (.iconst 1, 1) := by decide +kernel
theorem dX0_allows_45 : decode cX0_allows 45 = .ok (.goto 4, 3) := by decide +kernel
theorem dX0_allows_48 : decode cX0_allows 48 = .ok (.iconst 0, 1) := by decide +kernel
theorem dX0_allows_49 : decode cX0_allows 49 = .ok (.ireturn, 1) := by decide +kernel
theorem dX1_init_0 : decode cX1_init 0 = .ok (.aload_n 0, 1) := by decide +kernel
theorem dX1_init_1 : decode cX1_init 1 = .ok (.invokespecial 3, 3) := by decide +kernel
theorem dX1_init_4 : decode cX1_init 4 = .ok (.aload_n 0, 1) := by decide +kernel
theorem dX1_init_5 : decode cX1_init 5 = .ok (.aload_n 1, 1) := by decide +kernel
theorem dX1_init_6 : decode cX1_init 6 = .ok (.putfield 9, 3) := by decide +kernel
theorem dX1_init_9 : decode cX1_init 9 = .ok (.aload_n 0, 1) := by decide +kernel
theorem dX1_init_10 : decode cX1_init 10 = .ok (.iload_n 2, 1) := by decide +kernel
theorem dX1_init_11 : decode cX1_init 11 = .ok (.putfield 15, 3) := by decide +kernel
theorem dX1_init_14 : decode cX1_init 14 = .ok (.aload_n 0, 1) := by decide +kernel
theorem dX1_init_15 : decode cX1_init 15 = .ok (.iload_n 3, 1) := by decide +kernel
theorem dX1_init_16 : decode cX1_init 16 = .ok (.putfield 19, 3) := by decide +kernel
theorem dX1_init_19 : decode cX1_init 19 = .ok (.return_, 1) := by decide +kernel
theorem dX1_moveInto_0 : decode cX1_moveInto 0 = .ok (.aload_n 0, 1) := by decide +kernel
theorem dX1_moveInto_1 : decode cX1_moveInto 1 = .ok (.aload_n 1, 1) := by decide +kernel
theorem dX1_moveInto_2 : decode cX1_moveInto 2 = .ok (.putfield 9, 3) := by decide +kernel
theorem dX1_moveInto_5 : decode cX1_moveInto 5 = .ok (.aload_n 0, 1) := by decide +kernel
theorem dX1_moveInto_6 : decode cX1_moveInto 6 = .ok (.bipush 15, 2) := by decide +kernel
theorem dX1_moveInto_8 : decode cX1_moveInto 8 = .ok (.putfield 19, 3) := by decide +kernel
theorem dX1_moveInto_11 : decode cX1_moveInto 11 = .ok (.return_, 1) := by decide +kernel
theorem dX1_rightsHeldIn_0 : decode cX1_rightsHeldIn 0 = .ok (.aload_n 0, 1) := by decide +kernel
theorem dX1_rightsHeldIn_1 : decode cX1_rightsHeldIn 1 = .ok (.aload_n 1, 1) := by decide +kernel
theorem dX1_rightsHeldIn_2 : decode cX1_rightsHeldIn 2 = .ok (.invokevirtual 22, 3) := by decide +kernel
theorem dX1_rightsHeldIn_5 : decode cX1_rightsHeldIn 5 = .ok (.ifCond .eq 6, 3) := by decide +kernel
theorem dX1_rightsHeldIn_8 : decode cX1_rightsHeldIn 8 = .ok (.bipush 15, 2) := by decide +kernel
theorem dX1_rightsHeldIn_10 : decode cX1_rightsHeldIn 10 = .ok (.ireturn, 1) := by decide +kernel
theorem dX1_rightsHeldIn_11 : decode cX1_rightsHeldIn 11 = .ok (.aload_n 1, 1) := by decide +kernel
theorem dX1_rightsHeldIn_12 : decode cX1_rightsHeldIn 12 = .ok (.aload_n 0, 1) := by decide +kernel
theorem dX1_rightsHeldIn_13 : decode cX1_rightsHeldIn 13 = .ok (.getfield 9, 3) := by decide +kernel
theorem dX1_rightsHeldIn_16 : decode cX1_rightsHeldIn 16 = .ok (.invokestatic 26, 3) := by decide +kernel
theorem dX1_rightsHeldIn_19 : decode cX1_rightsHeldIn 19 = .ok (.ifCond .eq 10, 3) := by decide +kernel
theorem dX1_rightsHeldIn_22 : decode cX1_rightsHeldIn 22 = .ok (.aload_n 0, 1) := by decide +kernel
theorem dX1_rightsHeldIn_23 : decode cX1_rightsHeldIn 23 = .ok (.getfield 19, 3) := by decide +kernel
theorem dX1_rightsHeldIn_26 : decode cX1_rightsHeldIn 26 = .ok (.goto 4, 3) := by decide +kernel
theorem dX1_rightsHeldIn_29 : decode cX1_rightsHeldIn 29 = .ok (.iconst 0, 1) := by decide +kernel
theorem dX1_rightsHeldIn_30 : decode cX1_rightsHeldIn 30 = .ok (.ireturn, 1) := by decide +kernel
theorem dX1_hasRight_0 : decode cX1_hasRight 0 = .ok (.aload_n 0, 1) := by decide +kernel
theorem dX1_hasRight_1 : decode cX1_hasRight 1 = .ok (.aload_n 2, 1) := by decide +kernel
theorem dX1_hasRight_2 : decode cX1_hasRight 2 = .ok (.invokevirtual 30, 3) := by decide +kernel
theorem dX1_hasRight_5 : decode cX1_hasRight 5 = .ok (.iload_n 1, 1) := by decide +kernel
theorem dX1_hasRight_6 : decode cX1_hasRight 6 = .ok (.iand, 1) := by decide +kernel
theorem dX1_hasRight_7 : decode cX1_hasRight 7 = .ok (.ifCond .eq 7, 3) := by decide +kernel
theorem dX1_hasRight_10 : decode cX1_hasRight 10 = .ok (.iconst 1, 1) := by decide +kernel
theorem dX1_hasRight_11 : decode cX1_hasRight 11 = .ok (.goto 4, 3) := by decide +kernel
theorem dX1_hasRight_14 : decode cX1_hasRight 14 = .ok (.iconst 0, 1) := by decide +kernel
theorem dX1_hasRight_15 : decode cX1_hasRight 15 = .ok (.ireturn, 1) := by decide +kernel
theorem dX1_ownsRoomAround_0 : decode cX1_ownsRoomAround 0 = .ok (.aload_n 1, 1) := by decide +kernel
theorem dX1_ownsRoomAround_1 : decode cX1_ownsRoomAround 1 = .ok (.astore_n 2, 1) := by decide +kernel
theorem dX1_ownsRoomAround_2 : decode cX1_ownsRoomAround 2 = .ok (.aload_n 2, 1) := by decide +kernel
theorem dX1_ownsRoomAround_3 : decode cX1_ownsRoomAround 3 = .ok (.ifnull 35, 3) := by decide +kernel
theorem dX1_ownsRoomAround_6 : decode cX1_ownsRoomAround 6 = .ok (.aload_n 2, 1) := by decide +kernel
theorem dX1_ownsRoomAround_7 : decode cX1_ownsRoomAround 7 = .ok (.getfield 34, 3) := by decide +kernel
theorem dX1_ownsRoomAround_10 : decode cX1_ownsRoomAround 10 = .ok (.aload_n 0, 1) := by decide +kernel
theorem dX1_ownsRoomAround_11 : decode cX1_ownsRoomAround 11 = .ok (.getfield 9, 3) := by decide +kernel
theorem dX1_ownsRoomAround_14 : decode cX1_ownsRoomAround 14 = .ok (.if_acmp .ne 16, 3) := by decide +kernel
theorem dX1_ownsRoomAround_17 : decode cX1_ownsRoomAround 17 = .ok (.aload_n 2, 1) := by decide +kernel
theorem dX1_ownsRoomAround_18 : decode cX1_ownsRoomAround 18 = .ok (.getfield 39, 3) := by decide +kernel
theorem dX1_ownsRoomAround_21 : decode cX1_ownsRoomAround 21 = .ok (.aload_n 0, 1) := by decide +kernel
theorem dX1_ownsRoomAround_22 : decode cX1_ownsRoomAround 22 = .ok (.getfield 15, 3) := by decide +kernel
theorem dX1_ownsRoomAround_25 : decode cX1_ownsRoomAround 25 = .ok (.if_icmp .ne 5, 3) := by decide +kernel
theorem dX1_ownsRoomAround_28 : decode cX1_ownsRoomAround 28 = .ok (.iconst 1, 1) := by decide +kernel
theorem dX1_ownsRoomAround_29 : decode cX1_ownsRoomAround 29 = .ok (.ireturn, 1) := by decide +kernel
theorem dX1_ownsRoomAround_30 : decode cX1_ownsRoomAround 30 = .ok (.aload_n 2, 1) := by decide +kernel
theorem dX1_ownsRoomAround_31 : decode cX1_ownsRoomAround 31 = .ok (.getfield 34, 3) := by decide +kernel
theorem dX1_ownsRoomAround_34 : decode cX1_ownsRoomAround 34 = .ok (.astore_n 2, 1) := by decide +kernel
theorem dX1_ownsRoomAround_35 : decode cX1_ownsRoomAround 35 = .ok (.goto (-33), 3) := by decide +kernel
theorem dX1_ownsRoomAround_38 : decode cX1_ownsRoomAround 38 = .ok (.iconst 0, 1) := by decide +kernel
theorem dX1_ownsRoomAround_39 : decode cX1_ownsRoomAround 39 = .ok (.ireturn, 1) := by decide +kernel
theorem dX2_init_0 : decode cX2_init 0 = .ok (.aload_n 0, 1) := by decide +kernel
theorem dX2_init_1 : decode cX2_init 1 = .ok (.invokespecial 1, 3) := by decide +kernel
theorem dX2_init_4 : decode cX2_init 4 = .ok (.aload_n 0, 1) := by decide +kernel
theorem dX2_init_5 : decode cX2_init 5 = .ok (.iload_n 1, 1) := by decide +kernel
theorem dX2_init_6 : decode cX2_init 6 = .ok (.putfield 7, 3) := by decide +kernel
theorem dX2_init_9 : decode cX2_init 9 = .ok (.aload_n 0, 1) := by decide +kernel
theorem dX2_init_10 : decode cX2_init 10 = .ok (.iload_n 2, 1) := by decide +kernel
theorem dX2_init_11 : decode cX2_init 11 = .ok (.putfield 13, 3) := by decide +kernel
theorem dX2_init_14 : decode cX2_init 14 = .ok (.aload_n 0, 1) := by decide +kernel
theorem dX2_init_15 : decode cX2_init 15 = .ok (.iload_n 3, 1) := by decide +kernel
theorem dX2_init_16 : decode cX2_init 16 = .ok (.putfield 16, 3) := by decide +kernel
theorem dX2_init_19 : decode cX2_init 19 = .ok (.aload_n 0, 1) := by decide +kernel
theorem dX2_init_20 : decode cX2_init 20 = .ok (.aload 4, 2) := by decide +kernel
theorem dX2_init_22 : decode cX2_init 22 = .ok (.putfield 19, 3) := by decide +kernel
theorem dX2_init_25 : decode cX2_init 25 = .ok (.return_, 1) := by decide +kernel
theorem dX2_isOfOneNumber_0 : decode cX2_isOfOneNumber 0 = .ok (.aload_n 0, 1) := by decide +kernel
theorem dX2_isOfOneNumber_1 : decode cX2_isOfOneNumber 1 = .ok (.getfield 19, 3) := by decide +kernel
theorem dX2_isOfOneNumber_4 : decode cX2_isOfOneNumber 4 = .ok (.ifnonnull 15, 3) := by decide +kernel
theorem dX2_isOfOneNumber_7 : decode cX2_isOfOneNumber 7 = .ok (.aload_n 0, 1) := by decide +kernel
theorem dX2_isOfOneNumber_8 : decode cX2_isOfOneNumber 8 = .ok (.getfield 16, 3) := by decide +kernel
theorem dX2_isOfOneNumber_11 : decode cX2_isOfOneNumber 11 = .ok (.iconst 1, 1) := by decide +kernel
theorem dX2_isOfOneNumber_12 : decode cX2_isOfOneNumber 12 = .ok (.if_icmp .ne 7, 3) := by decide +kernel
theorem dX2_isOfOneNumber_15 : decode cX2_isOfOneNumber 15 = .ok (.iconst 1, 1) := by decide +kernel
theorem dX2_isOfOneNumber_16 : decode cX2_isOfOneNumber 16 = .ok (.goto 4, 3) := by decide +kernel
theorem dX2_isOfOneNumber_19 : decode cX2_isOfOneNumber 19 = .ok (.iconst 0, 1) := by decide +kernel
theorem dX2_isOfOneNumber_20 : decode cX2_isOfOneNumber 20 = .ok (.ireturn, 1) := by decide +kernel
theorem dX2_meets_0 : decode cX2_meets 0 = .ok (.aload_n 0, 1) := by decide +kernel
theorem dX2_meets_1 : decode cX2_meets 1 = .ok (.getfield 7, 3) := by decide +kernel
theorem dX2_meets_4 : decode cX2_meets 4 = .ok (.aload_n 0, 1) := by decide +kernel
theorem dX2_meets_5 : decode cX2_meets 5 = .ok (.getfield 16, 3) := by decide +kernel
theorem dX2_meets_8 : decode cX2_meets 8 = .ok (.aload_n 1, 1) := by decide +kernel
theorem dX2_meets_9 : decode cX2_meets 9 = .ok (.getfield 7, 3) := by decide +kernel
theorem dX2_meets_12 : decode cX2_meets 12 = .ok (.aload_n 1, 1) := by decide +kernel
theorem dX2_meets_13 : decode cX2_meets 13 = .ok (.getfield 16, 3) := by decide +kernel
theorem dX2_meets_16 : decode cX2_meets 16 = .ok (.invokestatic 23, 3) := by decide +kernel
theorem dX2_meets_19 : decode cX2_meets 19 = .ok (.ifCond .ne 25, 3) := by decide +kernel
theorem dX2_meets_22 : decode cX2_meets 22 = .ok (.aload_n 0, 1) := by decide +kernel
theorem dX2_meets_23 : decode cX2_meets 23 = .ok (.getfield 13, 3) := by decide +kernel
theorem dX2_meets_26 : decode cX2_meets 26 = .ok (.aload_n 0, 1) := by decide +kernel
theorem dX2_meets_27 : decode cX2_meets 27 = .ok (.getfield 16, 3) := by decide +kernel
theorem dX2_meets_30 : decode cX2_meets 30 = .ok (.aload_n 1, 1) := by decide +kernel
theorem dX2_meets_31 : decode cX2_meets 31 = .ok (.getfield 13, 3) := by decide +kernel
theorem dX2_meets_34 : decode cX2_meets 34 = .ok (.aload_n 1, 1) := by decide +kernel
theorem dX2_meets_35 : decode cX2_meets 35 = .ok (.getfield 16, 3) := by decide +kernel
theorem dX2_meets_38 : decode cX2_meets 38 = .ok (.invokestatic 23, 3) := by decide +kernel
theorem dX2_meets_41 : decode cX2_meets 41 = .ok (.ifCond .eq 7, 3) := by decide +kernel
theorem dX2_meets_44 : decode cX2_meets 44 = .ok (.iconst 1, 1) := by decide +kernel
theorem dX2_meets_45 : decode cX2_meets 45 = .ok (.goto 4, 3) := by decide +kernel
theorem dX2_meets_48 : decode cX2_meets 48 = .ok (.iconst 0, 1) := by decide +kernel
theorem dX2_meets_49 : decode cX2_meets 49 = .ok (.ireturn, 1) := by decide +kernel
theorem dX2_rangesMeet_0 : decode cX2_rangesMeet 0 = .ok (.iload_n 0, 1) := by decide +kernel
theorem dX2_rangesMeet_1 : decode cX2_rangesMeet 1 = .ok (.iload_n 2, 1) := by decide +kernel
theorem dX2_rangesMeet_2 : decode cX2_rangesMeet 2 = .ok (.iload_n 3, 1) := by decide +kernel
theorem dX2_rangesMeet_3 : decode cX2_rangesMeet 3 = .ok (.iadd, 1) := by decide +kernel
theorem dX2_rangesMeet_4 : decode cX2_rangesMeet 4 = .ok (.if_icmp .ge 14, 3) := by decide +kernel
theorem dX2_rangesMeet_7 : decode cX2_rangesMeet 7 = .ok (.iload_n 2, 1) := by decide +kernel
theorem dX2_rangesMeet_8 : decode cX2_rangesMeet 8 = .ok (.iload_n 0, 1) := by decide +kernel
theorem dX2_rangesMeet_9 : decode cX2_rangesMeet 9 = .ok (.iload_n 1, 1) := by decide +kernel
theorem dX2_rangesMeet_10 : decode cX2_rangesMeet 10 = .ok (.iadd, 1) := by decide +kernel
theorem dX2_rangesMeet_11 : decode cX2_rangesMeet 11 = .ok (.if_icmp .ge 7, 3) := by decide +kernel
theorem dX2_rangesMeet_14 : decode cX2_rangesMeet 14 = .ok (.iconst 1, 1) := by decide +kernel
theorem dX2_rangesMeet_15 : decode cX2_rangesMeet 15 = .ok (.goto 4, 3) := by decide +kernel
theorem dX2_rangesMeet_18 : decode cX2_rangesMeet 18 = .ok (.iconst 0, 1) := by decide +kernel
theorem dX2_rangesMeet_19 : decode cX2_rangesMeet 19 = .ok (.ireturn, 1) := by decide +kernel
theorem dX3_init_0 : decode cX3_init 0 = .ok (.aload_n 0, 1) := by decide +kernel
theorem dX3_init_1 : decode cX3_init 1 = .ok (.invokespecial 3, 3) := by decide +kernel
theorem dX3_init_4 : decode cX3_init 4 = .ok (.aload_n 0, 1) := by decide +kernel
theorem dX3_init_5 : decode cX3_init 5 = .ok (.iload_n 1, 1) := by decide +kernel
theorem dX3_init_6 : decode cX3_init 6 = .ok (.putfield 9, 3) := by decide +kernel
theorem dX3_init_9 : decode cX3_init 9 = .ok (.aload_n 0, 1) := by decide +kernel
theorem dX3_init_10 : decode cX3_init 10 = .ok (.aload_n 2, 1) := by decide +kernel
theorem dX3_init_11 : decode cX3_init 11 = .ok (.putfield 15, 3) := by decide +kernel
theorem dX3_init_14 : decode cX3_init 14 = .ok (.aload_n 0, 1) := by decide +kernel
theorem dX3_init_15 : decode cX3_init 15 = .ok (.iload_n 3, 1) := by decide +kernel
theorem dX3_init_16 : decode cX3_init 16 = .ok (.putfield 19, 3) := by decide +kernel
theorem dX3_init_19 : decode cX3_init 19 = .ok (.aload_n 0, 1) := by decide +kernel
theorem dX3_init_20 : decode cX3_init 20 = .ok (.aconst_null, 1) := by decide +kernel
theorem dX3_init_21 : decode cX3_init 21 = .ok (.putfield 22, 3) := by decide +kernel
theorem dX3_init_24 : decode cX3_init 24 = .ok (.return_, 1) := by decide +kernel
theorem dX3_toOuter_0 : decode cX3_toOuter 0 = .ok (.aload_n 0, 1) := by decide +kernel
theorem dX3_toOuter_1 : decode cX3_toOuter 1 = .ok (.getfield 15, 3) := by decide +kernel
theorem dX3_toOuter_4 : decode cX3_toOuter 4 = .ok (.ifnonnull 5, 3) := by decide +kernel
theorem dX3_toOuter_7 : decode cX3_toOuter 7 = .ok (.iload_n 1, 1) := by decide +kernel
theorem dX3_toOuter_8 : decode cX3_toOuter 8 = .ok (.ireturn, 1) := by decide +kernel
theorem dX3_toOuter_9 : decode cX3_toOuter 9 = .ok (.aload_n 0, 1) := by decide +kernel
theorem dX3_toOuter_10 : decode cX3_toOuter 10 = .ok (.getfield 22, 3) := by decide +kernel
theorem dX3_toOuter_13 : decode cX3_toOuter 13 = .ok (.astore_n 2, 1) := by decide +kernel
theorem dX3_toOuter_14 : decode cX3_toOuter 14 = .ok (.aload_n 2, 1) := by decide +kernel
theorem dX3_toOuter_15 : decode cX3_toOuter 15 = .ok (.ifnull 44, 3) := by decide +kernel
theorem dX3_toOuter_18 : decode cX3_toOuter 18 = .ok (.iload_n 1, 1) := by decide +kernel
theorem dX3_toOuter_19 : decode cX3_toOuter 19 = .ok (.aload_n 2, 1) := by decide +kernel
theorem dX3_toOuter_20 : decode cX3_toOuter 20 = .ok (.getfield 26, 3) := by decide +kernel
theorem dX3_toOuter_23 : decode cX3_toOuter 23 = .ok (.if_icmp .lt 28, 3) := by decide +kernel
theorem dX3_toOuter_26 : decode cX3_toOuter 26 = .ok (.iload_n 1, 1) := by decide +kernel
theorem dX3_toOuter_27 : decode cX3_toOuter 27 = .ok (.aload_n 2, 1) := by decide +kernel
theorem dX3_toOuter_28 : decode cX3_toOuter 28 = .ok (.getfield 26, 3) := by decide +kernel
theorem dX3_toOuter_31 : decode cX3_toOuter 31 = .ok (.aload_n 2, 1) := by decide +kernel
theorem dX3_toOuter_32 : decode cX3_toOuter 32 = .ok (.getfield 31, 3) := by decide +kernel
theorem dX3_toOuter_35 : decode cX3_toOuter 35 = .ok (.iadd, 1) := by decide +kernel
theorem dX3_toOuter_36 : decode cX3_toOuter 36 = .ok (.if_icmp .ge 15, 3) := by decide +kernel
theorem dX3_toOuter_39 : decode cX3_toOuter 39 = .ok (.aload_n 2, 1) := by decide +kernel
theorem dX3_toOuter_40 : decode cX3_toOuter 40 = .ok (.getfield 34, 3) := by decide +kernel
theorem dX3_toOuter_43 : decode cX3_toOuter 43 = .ok (.iload_n 1, 1) := by decide +kernel
theorem dX3_toOuter_44 : decode cX3_toOuter 44 = .ok (.aload_n 2, 1) := by decide +kernel
theorem dX3_toOuter_45 : decode cX3_toOuter 45 = .ok (.getfield 26, 3) := by decide +kernel
theorem dX3_toOuter_48 : decode cX3_toOuter 48 = .ok (.isub, 1) := by decide +kernel
theorem dX3_toOuter_49 : decode cX3_toOuter 49 = .ok (.iadd, 1) := by decide +kernel
theorem dX3_toOuter_50 : decode cX3_toOuter 50 = .ok (.ireturn, 1) := by decide +kernel
theorem dX3_toOuter_51 : decode cX3_toOuter 51 = .ok (.aload_n 2, 1) := by decide +kernel
theorem dX3_toOuter_52 : decode cX3_toOuter 52 = .ok (.getfield 36, 3) := by decide +kernel
theorem dX3_toOuter_55 : decode cX3_toOuter 55 = .ok (.astore_n 2, 1) := by decide +kernel
theorem dX3_toOuter_56 : decode cX3_toOuter 56 = .ok (.goto (-42), 3) := by decide +kernel
theorem dX3_toOuter_59 : decode cX3_toOuter 59 = .ok (.iconst (-1), 1) := by decide +kernel
theorem dX3_toOuter_60 : decode cX3_toOuter 60 = .ok (.ireturn, 1) := by decide +kernel
theorem dX3_fromOuter_0 : decode cX3_fromOuter 0 = .ok (.aload_n 0, 1) := by decide +kernel
theorem dX3_fromOuter_1 : decode cX3_fromOuter 1 = .ok (.getfield 15, 3) := by decide +kernel
theorem dX3_fromOuter_4 : decode cX3_fromOuter 4 = .ok (.ifnonnull 5, 3) := by decide +kernel
theorem dX3_fromOuter_7 : decode cX3_fromOuter 7 = .ok (.iload_n 1, 1) := by decide +kernel
theorem dX3_fromOuter_8 : decode cX3_fromOuter 8 = .ok (.ireturn, 1) := by decide +kernel
theorem dX3_fromOuter_9 : decode cX3_fromOuter 9 = .ok (.aload_n 0, 1) := by decide +kernel
theorem dX3_fromOuter_10 : decode cX3_fromOuter 10 = .ok (.getfield 22, 3) := by decide +kernel
theorem dX3_fromOuter_13 : decode cX3_fromOuter 13 = .ok (.astore_n 2, 1) := by decide +kernel
theorem dX3_fromOuter_14 : decode cX3_fromOuter 14 = .ok (.aload_n 2, 1) := by decide +kernel
theorem dX3_fromOuter_15 : decode cX3_fromOuter 15 = .ok (.ifnull 44, 3) := by decide +kernel
theorem dX3_fromOuter_18 : decode cX3_fromOuter 18 = .ok (.iload_n 1, 1) := by decide +kernel
theorem dX3_fromOuter_19 : decode cX3_fromOuter 19 = .ok (.aload_n 2, 1) := by decide +kernel
theorem dX3_fromOuter_20 : decode cX3_fromOuter 20 = .ok (.getfield 34, 3) := by decide +kernel
theorem dX3_fromOuter_23 : decode cX3_fromOuter 23 = .ok (.if_icmp .lt 28, 3) := by decide +kernel
theorem dX3_fromOuter_26 : decode cX3_fromOuter 26 = .ok (.iload_n 1, 1) := by decide +kernel
theorem dX3_fromOuter_27 : decode cX3_fromOuter 27 = .ok (.aload_n 2, 1) := by decide +kernel
theorem dX3_fromOuter_28 : decode cX3_fromOuter 28 = .ok (.getfield 34, 3) := by decide +kernel
theorem dX3_fromOuter_31 : decode cX3_fromOuter 31 = .ok (.aload_n 2, 1) := by decide +kernel
theorem dX3_fromOuter_32 : decode cX3_fromOuter 32 = .ok (.getfield 31, 3) := by decide +kernel
theorem dX3_fromOuter_35 : decode cX3_fromOuter 35 = .ok (.iadd, 1) := by decide +kernel
theorem dX3_fromOuter_36 : decode cX3_fromOuter 36 = .ok (.if_icmp .ge 15, 3) := by decide +kernel
theorem dX3_fromOuter_39 : decode cX3_fromOuter 39 = .ok (.aload_n 2, 1) := by decide +kernel
theorem dX3_fromOuter_40 : decode cX3_fromOuter 40 = .ok (.getfield 26, 3) := by decide +kernel
theorem dX3_fromOuter_43 : decode cX3_fromOuter 43 = .ok (.iload_n 1, 1) := by decide +kernel
theorem dX3_fromOuter_44 : decode cX3_fromOuter 44 = .ok (.aload_n 2, 1) := by decide +kernel
theorem dX3_fromOuter_45 : decode cX3_fromOuter 45 = .ok (.getfield 34, 3) := by decide +kernel
theorem dX3_fromOuter_48 : decode cX3_fromOuter 48 = .ok (.isub, 1) := by decide +kernel
theorem dX3_fromOuter_49 : decode cX3_fromOuter 49 = .ok (.iadd, 1) := by decide +kernel
theorem dX3_fromOuter_50 : decode cX3_fromOuter 50 = .ok (.ireturn, 1) := by decide +kernel
theorem dX3_fromOuter_51 : decode cX3_fromOuter 51 = .ok (.aload_n 2, 1) := by decide +kernel
theorem dX3_fromOuter_52 : decode cX3_fromOuter 52 = .ok (.getfield 36, 3) := by decide +kernel
theorem dX3_fromOuter_55 : decode cX3_fromOuter 55 = .ok (.astore_n 2, 1) := by decide +kernel
theorem dX3_fromOuter_56 : decode cX3_fromOuter 56 = .ok (.goto (-42), 3) := by decide +kernel
theorem dX3_fromOuter_59 : decode cX3_fromOuter 59 = .ok (.sipush 999, 3) := by decide +kernel
theorem dX3_fromOuter_62 : decode cX3_fromOuter 62 = .ok (.ireturn, 1) := by decide +kernel
theorem dX4_init_0 : decode cX4_init 0 = .ok (.aload_n 0, 1) := by decide +kernel
theorem dX4_init_1 : decode cX4_init 1 = .ok (.invokespecial 1, 3) := by decide +kernel
theorem dX4_init_4 : decode cX4_init 4 = .ok (.new 7, 3) := by decide +kernel
theorem dX4_init_7 : decode cX4_init 7 = .ok (.dup, 1) := by decide +kernel
theorem dX4_init_8 : decode cX4_init 8 = .ok (.iconst 0, 1) := by decide +kernel
theorem dX4_init_9 : decode cX4_init 9 = .ok (.aconst_null, 1) := by decide +kernel
theorem dX4_init_10 : decode cX4_init 10 = .ok (.iconst (-1), 1) := by decide +kernel
theorem dX4_init_11 : decode cX4_init 11 = .ok (.invokespecial 11, 3) := by decide +kernel
theorem dX4_init_14 : decode cX4_init 14 = .ok (.astore_n 1, 1) := by decide +kernel
theorem dX4_init_15 : decode cX4_init 15 = .ok (.aload_n 0, 1) := by decide +kernel
theorem dX4_init_16 : decode cX4_init 16 = .ok (.bipush 10, 2) := by decide +kernel
theorem dX4_init_18 : decode cX4_init 18 = .ok (.anewarray 7, 3) := by decide +kernel
theorem dX4_init_21 : decode cX4_init 21 = .ok (.putfield 14, 3) := by decide +kernel
theorem dX4_init_24 : decode cX4_init 24 = .ok (.aload_n 0, 1) := by decide +kernel
theorem dX4_init_25 : decode cX4_init 25 = .ok (.getfield 14, 3) := by decide +kernel
theorem dX4_init_28 : decode cX4_init 28 = .ok (.iconst 0, 1) := by decide +kernel
theorem dX4_init_29 : decode cX4_init 29 = .ok (.aload_n 1, 1) := by decide +kernel
theorem dX4_init_30 : decode cX4_init 30 = .ok (.aastore, 1) := by decide +kernel
theorem dX4_init_31 : decode cX4_init 31 = .ok (.aload_n 0, 1) := by decide +kernel
theorem dX4_init_32 : decode cX4_init 32 = .ok (.iconst 1, 1) := by decide +kernel
theorem dX4_init_33 : decode cX4_init 33 = .ok (.putfield 18, 3) := by decide +kernel
theorem dX4_init_36 : decode cX4_init 36 = .ok (.aload_n 0, 1) := by decide +kernel
theorem dX4_init_37 : decode cX4_init 37 = .ok (.bipush 12, 2) := by decide +kernel
theorem dX4_init_39 : decode cX4_init 39 = .ok (.anewarray 22, 3) := by decide +kernel
theorem dX4_init_42 : decode cX4_init 42 = .ok (.putfield 24, 3) := by decide +kernel
theorem dX4_init_45 : decode cX4_init 45 = .ok (.aload_n 0, 1) := by decide +kernel
theorem dX4_init_46 : decode cX4_init 46 = .ok (.getfield 24, 3) := by decide +kernel
theorem dX4_init_49 : decode cX4_init 49 = .ok (.iconst 0, 1) := by decide +kernel
theorem dX4_init_50 : decode cX4_init 50 = .ok (.new 22, 3) := by decide +kernel
theorem dX4_init_53 : decode cX4_init 53 = .ok (.dup, 1) := by decide +kernel
theorem dX4_init_54 : decode cX4_init 54 = .ok (.aload_n 1, 1) := by decide +kernel
theorem dX4_init_55 : decode cX4_init 55 = .ok (.iconst 0, 1) := by decide +kernel
theorem dX4_init_56 : decode cX4_init 56 = .ok (.bipush 15, 2) := by decide +kernel
theorem dX4_init_58 : decode cX4_init 58 = .ok (.invokespecial 28, 3) := by decide +kernel
theorem dX4_init_61 : decode cX4_init 61 = .ok (.aastore, 1) := by decide +kernel
theorem dX4_init_62 : decode cX4_init 62 = .ok (.aload_n 0, 1) := by decide +kernel
theorem dX4_init_63 : decode cX4_init 63 = .ok (.iconst 1, 1) := by decide +kernel
theorem dX4_init_64 : decode cX4_init 64 = .ok (.putfield 31, 3) := by decide +kernel
theorem dX4_init_67 : decode cX4_init 67 = .ok (.aload_n 0, 1) := by decide +kernel
theorem dX4_init_68 : decode cX4_init 68 = .ok (.bipush 20, 2) := by decide +kernel
theorem dX4_init_70 : decode cX4_init 70 = .ok (.anewarray 34, 3) := by decide +kernel
theorem dX4_init_73 : decode cX4_init 73 = .ok (.putfield 36, 3) := by decide +kernel
theorem dX4_init_76 : decode cX4_init 76 = .ok (.aload_n 0, 1) := by decide +kernel
theorem dX4_init_77 : decode cX4_init 77 = .ok (.iconst 0, 1) := by decide +kernel
theorem dX4_init_78 : decode cX4_init 78 = .ok (.putfield 40, 3) := by decide +kernel
theorem dX4_init_81 : decode cX4_init 81 = .ok (.aload_n 0, 1) := by decide +kernel
theorem dX4_init_82 : decode cX4_init 82 = .ok (.aconst_null, 1) := by decide +kernel
theorem dX4_init_83 : decode cX4_init 83 = .ok (.putfield 43, 3) := by decide +kernel
theorem dX4_init_86 : decode cX4_init 86 = .ok (.aload_n 0, 1) := by decide +kernel
theorem dX4_init_87 : decode cX4_init 87 = .ok (.iconst 0, 1) := by decide +kernel
theorem dX4_init_88 : decode cX4_init 88 = .ok (.putfield 47, 3) := by decide +kernel
theorem dX4_init_91 : decode cX4_init 91 = .ok (.aload_n 0, 1) := by decide +kernel
theorem dX4_init_92 : decode cX4_init 92 = .ok (.iconst 0, 1) := by decide +kernel
theorem dX4_init_93 : decode cX4_init 93 = .ok (.putfield 50, 3) := by decide +kernel
theorem dX4_init_96 : decode cX4_init 96 = .ok (.return_, 1) := by decide +kernel
theorem dX4_makeRoom_0 : decode cX4_makeRoom 0 = .ok (.aload_n 0, 1) := by decide +kernel
theorem dX4_makeRoom_1 : decode cX4_makeRoom 1 = .ok (.iload_n 1, 1) := by decide +kernel
theorem dX4_makeRoom_2 : decode cX4_makeRoom 2 = .ok (.invokevirtual 53, 3) := by decide +kernel
theorem dX4_makeRoom_5 : decode cX4_makeRoom 5 = .ok (.astore_n 2, 1) := by decide +kernel
theorem dX4_makeRoom_6 : decode cX4_makeRoom 6 = .ok (.aload_n 0, 1) := by decide +kernel
theorem dX4_makeRoom_7 : decode cX4_makeRoom 7 = .ok (.getfield 18, 3) := by decide +kernel
theorem dX4_makeRoom_10 : decode cX4_makeRoom 10 = .ok (.aload_n 0, 1) := by decide +kernel
theorem dX4_makeRoom_11 : decode cX4_makeRoom 11 = .ok (.getfield 14, 3) := by decide +kernel
theorem dX4_makeRoom_14 : decode cX4_makeRoom 14 = .ok (.arraylength, 1) := by decide +kernel
theorem dX4_makeRoom_15 : decode cX4_makeRoom 15 = .ok (.if_icmp .lt 13, 3) := by decide +kernel
theorem dX4_makeRoom_18 : decode cX4_makeRoom 18 = .ok (.new 57, 3) := by decide +kernel
theorem dX4_makeRoom_21 : decode cX4_makeRoom 21 = .ok (.dup, 1) := by decide +kernel
theorem dX4_makeRoom_22 : decode cX4_makeRoom 22 = .ok (.ldc 59, 2) := by decide +kernel
theorem dX4_makeRoom_24 : decode cX4_makeRoom 24 = .ok (.invokespecial 61, 3) := by decide +kernel
theorem dX4_makeRoom_27 : decode cX4_makeRoom 27 = .ok (.athrow, 1) := by decide +kernel
theorem dX4_makeRoom_28 : decode cX4_makeRoom 28 = .ok (.new 7, 3) := by decide +kernel
theorem dX4_makeRoom_31 : decode cX4_makeRoom 31 = .ok (.dup, 1) := by decide +kernel
theorem dX4_makeRoom_32 : decode cX4_makeRoom 32 = .ok (.aload_n 0, 1) := by decide +kernel
theorem dX4_makeRoom_33 : decode cX4_makeRoom 33 = .ok (.getfield 18, 3) := by decide +kernel
theorem dX4_makeRoom_36 : decode cX4_makeRoom 36 = .ok (.aload_n 2, 1) := by decide +kernel
theorem dX4_makeRoom_37 : decode cX4_makeRoom 37 = .ok (.getfield 64, 3) := by decide +kernel
theorem dX4_makeRoom_40 : decode cX4_makeRoom 40 = .ok (.aload_n 2, 1) := by decide +kernel
theorem dX4_makeRoom_41 : decode cX4_makeRoom 41 = .ok (.getfield 68, 3) := by decide +kernel
theorem dX4_makeRoom_44 : decode cX4_makeRoom 44 = .ok (.invokespecial 11, 3) := by decide +kernel
theorem dX4_makeRoom_47 : decode cX4_makeRoom 47 = .ok (.astore_n 3, 1) := by decide +kernel
theorem dX4_makeRoom_48 : decode cX4_makeRoom 48 = .ok (.aload_n 0, 1) := by decide +kernel
theorem dX4_makeRoom_49 : decode cX4_makeRoom 49 = .ok (.getfield 14, 3) := by decide +kernel
theorem dX4_makeRoom_52 : decode cX4_makeRoom 52 = .ok (.aload_n 0, 1) := by decide +kernel
theorem dX4_makeRoom_53 : decode cX4_makeRoom 53 = .ok (.getfield 18, 3) := by decide +kernel
theorem dX4_makeRoom_56 : decode cX4_makeRoom 56 = .ok (.aload_n 3, 1) := by decide +kernel
theorem dX4_makeRoom_57 : decode cX4_makeRoom 57 = .ok (.aastore, 1) := by decide +kernel
theorem dX4_makeRoom_58 : decode cX4_makeRoom 58 = .ok (.aload_n 0, 1) := by decide +kernel
theorem dX4_makeRoom_59 : decode cX4_makeRoom 59 = .ok (.dup, 1) := by decide +kernel
theorem dX4_makeRoom_60 : decode cX4_makeRoom 60 = .ok (.getfield 18, 3) := by decide +kernel
theorem dX4_makeRoom_63 : decode cX4_makeRoom 63 = .ok (.iconst 1, 1) := by decide +kernel
theorem dX4_makeRoom_64 : decode cX4_makeRoom 64 = .ok (.iadd, 1) := by decide +kernel
theorem dX4_makeRoom_65 : decode cX4_makeRoom 65 = .ok (.putfield 18, 3) := by decide +kernel
theorem dX4_makeRoom_68 : decode cX4_makeRoom 68 = .ok (.aload_n 2, 1) := by decide +kernel
theorem dX4_makeRoom_69 : decode cX4_makeRoom 69 = .ok (.aload_n 3, 1) := by decide +kernel
theorem dX4_makeRoom_70 : decode cX4_makeRoom 70 = .ok (.invokevirtual 71, 3) := by decide +kernel
theorem dX4_makeRoom_73 : decode cX4_makeRoom 73 = .ok (.aload_n 3, 1) := by decide +kernel
theorem dX4_makeRoom_74 : decode cX4_makeRoom 74 = .ok (.getfield 75, 3) := by decide +kernel
theorem dX4_makeRoom_77 : decode cX4_makeRoom 77 = .ok (.ireturn, 1) := by decide +kernel
theorem dX4_line_0 : decode cX4_line 0 = .ok (.iload_n 1, 1) := by decide +kernel
theorem dX4_line_1 : decode cX4_line 1 = .ok (.invokestatic 76, 3) := by decide +kernel
theorem dX4_line_4 : decode cX4_line 4 = .ok (.iload_n 2, 1) := by decide +kernel
theorem dX4_line_5 : decode cX4_line 5 = .ok (.invokestatic 76, 3) := by decide +kernel
theorem dX4_line_8 : decode cX4_line 8 = .ok (.iload_n 3, 1) := by decide +kernel
theorem dX4_line_9 : decode cX4_line 9 = .ok (.iconst 1, 1) := by decide +kernel
theorem dX4_line_10 : decode cX4_line 10 = .ok (.if_icmp .lt 10, 3) := by decide +kernel
theorem dX4_line_13 : decode cX4_line 13 = .ok (.iload_n 3, 1) := by decide +kernel
theorem dX4_line_14 : decode cX4_line 14 = .ok (.sipush 999, 3) := by decide +kernel
theorem dX4_line_17 : decode cX4_line 17 = .ok (.if_icmp .le 13, 3) := by decide +kernel
theorem dX4_line_20 : decode cX4_line 20 = .ok (.new 80, 3) := by decide +kernel
theorem dX4_line_23 : decode cX4_line 23 = .ok (.dup, 1) := by decide +kernel
theorem dX4_line_24 : decode cX4_line 24 = .ok (.ldc 82, 2) := by decide +kernel
theorem dX4_line_26 : decode cX4_line 26 = .ok (.invokespecial 84, 3) := by decide +kernel
theorem dX4_line_29 : decode cX4_line 29 = .ok (.athrow, 1) := by decide +kernel
theorem dX4_line_30 : decode cX4_line 30 = .ok (.iload_n 1, 1) := by decide +kernel
theorem dX4_line_31 : decode cX4_line 31 = .ok (.iload_n 3, 1) := by decide +kernel
theorem dX4_line_32 : decode cX4_line 32 = .ok (.iadd, 1) := by decide +kernel
theorem dX4_line_33 : decode cX4_line 33 = .ok (.iconst 1, 1) := by decide +kernel
theorem dX4_line_34 : decode cX4_line 34 = .ok (.isub, 1) := by decide +kernel
theorem dX4_line_35 : decode cX4_line 35 = .ok (.invokestatic 76, 3) := by decide +kernel
theorem dX4_line_38 : decode cX4_line 38 = .ok (.iload_n 2, 1) := by decide +kernel
theorem dX4_line_39 : decode cX4_line 39 = .ok (.iload_n 3, 1) := by decide +kernel
theorem dX4_line_40 : decode cX4_line 40 = .ok (.iadd, 1) := by decide +kernel
theorem dX4_line_41 : decode cX4_line 41 = .ok (.iconst 1, 1) := by decide +kernel
theorem dX4_line_42 : decode cX4_line 42 = .ok (.isub, 1) := by decide +kernel
theorem dX4_line_43 : decode cX4_line 43 = .ok (.invokestatic 76, 3) := by decide +kernel
theorem dX4_line_46 : decode cX4_line 46 = .ok (.aload_n 0, 1) := by decide +kernel
theorem dX4_line_47 : decode cX4_line 47 = .ok (.getfield 43, 3) := by decide +kernel
theorem dX4_line_50 : decode cX4_line 50 = .ok (.invokestatic 85, 3) := by decide +kernel
theorem dX4_line_53 : decode cX4_line 53 = .ok (.istore 4, 2) := by decide +kernel
theorem dX4_line_55 : decode cX4_line 55 = .ok (.iload 4, 2) := by decide +kernel
theorem dX4_line_57 : decode cX4_line 57 = .ok (.iconst 3, 1) := by decide +kernel
theorem dX4_line_58 : decode cX4_line 58 = .ok (.if_icmp .lt 13, 3) := by decide +kernel
theorem dX4_line_61 : decode cX4_line 61 = .ok (.new 57, 3) := by decide +kernel
theorem dX4_line_64 : decode cX4_line 64 = .ok (.dup, 1) := by decide +kernel
theorem dX4_line_65 : decode cX4_line 65 = .ok (.ldc 89, 2) := by decide +kernel
theorem dX4_line_67 : decode cX4_line 67 = .ok (.invokespecial 61, 3) := by decide +kernel
theorem dX4_line_70 : decode cX4_line 70 = .ok (.athrow, 1) := by decide +kernel
theorem dX4_line_71 : decode cX4_line 71 = .ok (.aload_n 0, 1) := by decide +kernel
theorem dX4_line_72 : decode cX4_line 72 = .ok (.new 91, 3) := by decide +kernel
theorem dX4_line_75 : decode cX4_line 75 = .ok (.dup, 1) := by decide +kernel
theorem dX4_line_76 : decode cX4_line 76 = .ok (.iload_n 1, 1) := by decide +kernel
theorem dX4_line_77 : decode cX4_line 77 = .ok (.iload_n 2, 1) := by decide +kernel
theorem dX4_line_78 : decode cX4_line 78 = .ok (.iload_n 3, 1) := by decide +kernel
theorem dX4_line_79 : decode cX4_line 79 = .ok (.aload_n 0, 1) := by decide +kernel
theorem dX4_line_80 : decode cX4_line 80 = .ok (.getfield 43, 3) := by decide +kernel
theorem dX4_line_83 : decode cX4_line 83 = .ok (.invokespecial 93, 3) := by decide +kernel
theorem dX4_line_86 : decode cX4_line 86 = .ok (.putfield 43, 3) := by decide +kernel
theorem dX4_line_89 : decode cX4_line 89 = .ok (.iload 4, 2) := by decide +kernel
theorem dX4_line_91 : decode cX4_line 91 = .ok (.iconst 1, 1) := by decide +kernel
theorem dX4_line_92 : decode cX4_line 92 = .ok (.iadd, 1) := by decide +kernel
theorem dX4_line_93 : decode cX4_line 93 = .ok (.ireturn, 1) := by decide +kernel
theorem dX4_writeMap_0 : decode cX4_writeMap 0 = .ok (.aload_n 0, 1) := by decide +kernel
theorem dX4_writeMap_1 : decode cX4_writeMap 1 = .ok (.iload_n 1, 1) := by decide +kernel
theorem dX4_writeMap_2 : decode cX4_writeMap 2 = .ok (.invokevirtual 53, 3) := by decide +kernel
theorem dX4_writeMap_5 : decode cX4_writeMap 5 = .ok (.astore_n 3, 1) := by decide +kernel
theorem dX4_writeMap_6 : decode cX4_writeMap 6 = .ok (.aload_n 0, 1) := by decide +kernel
theorem dX4_writeMap_7 : decode cX4_writeMap 7 = .ok (.iload_n 2, 1) := by decide +kernel
theorem dX4_writeMap_8 : decode cX4_writeMap 8 = .ok (.invokevirtual 96, 3) := by decide +kernel
theorem dX4_writeMap_11 : decode cX4_writeMap 11 = .ok (.astore 4, 2) := by decide +kernel
theorem dX4_writeMap_13 : decode cX4_writeMap 13 = .ok (.aload 4, 2) := by decide +kernel
theorem dX4_writeMap_15 : decode cX4_writeMap 15 = .ok (.getfield 100, 3) := by decide +kernel
theorem dX4_writeMap_18 : decode cX4_writeMap 18 = .ok (.astore 5, 2) := by decide +kernel
theorem dX4_writeMap_20 : decode cX4_writeMap 20 = .ok (.aload 5, 2) := by decide +kernel
theorem dX4_writeMap_22 : decode cX4_writeMap 22 = .ok (.ifnonnull 13, 3) := by decide +kernel
theorem dX4_writeMap_25 : decode cX4_writeMap 25 = .ok (.new 103, 3) := by decide +kernel
theorem dX4_writeMap_28 : decode cX4_writeMap 28 = .ok (.dup, 1) := by decide +kernel
theorem dX4_writeMap_29 : decode cX4_writeMap 29 = .ok (.ldc 105, 2) := by decide +kernel
theorem dX4_writeMap_31 : decode cX4_writeMap 31 = .ok (.invokespecial 107, 3) := by decide +kernel
theorem dX4_writeMap_34 : decode cX4_writeMap 34 = .ok (.athrow, 1) := by decide +kernel
theorem dX4_writeMap_35 : decode cX4_writeMap 35 = .ok (.aload_n 0, 1) := by decide +kernel
theorem dX4_writeMap_36 : decode cX4_writeMap 36 = .ok (.getfield 43, 3) := by decide +kernel
theorem dX4_writeMap_39 : decode cX4_writeMap 39 = .ok (.astore 6, 2) := by decide +kernel
theorem dX4_writeMap_41 : decode cX4_writeMap 41 = .ok (.aload_n 0, 1) := by decide +kernel
theorem dX4_writeMap_42 : decode cX4_writeMap 42 = .ok (.aconst_null, 1) := by decide +kernel
theorem dX4_writeMap_43 : decode cX4_writeMap 43 = .ok (.putfield 43, 3) := by decide +kernel
theorem dX4_writeMap_46 : decode cX4_writeMap 46 = .ok (.aload 4, 2) := by decide +kernel
theorem dX4_writeMap_48 : decode cX4_writeMap 48 = .ok (.getfield 108, 3) := by decide +kernel
theorem dX4_writeMap_51 : decode cX4_writeMap 51 = .ok (.ifnull 10, 3) := by decide +kernel
theorem dX4_writeMap_54 : decode cX4_writeMap 54 = .ok (.aload_n 0, 1) := by decide +kernel
theorem dX4_writeMap_55 : decode cX4_writeMap 55 = .ok (.bipush (-4), 2) := by decide +kernel
theorem dX4_writeMap_57 : decode cX4_writeMap 57 = .ok (.invokevirtual 111, 3) := by decide +kernel
theorem dX4_writeMap_60 : decode cX4_writeMap 60 = .ok (.ireturn, 1) := by decide +kernel
theorem dX4_writeMap_61 : decode cX4_writeMap 61 = .ok (.aload 6, 2) := by decide +kernel
theorem dX4_writeMap_63 : decode cX4_writeMap 63 = .ok (.ifnull 11, 3) := by decide +kernel
theorem dX4_writeMap_66 : decode cX4_writeMap 66 = .ok (.aload 6, 2) := by decide +kernel
theorem dX4_writeMap_68 : decode cX4_writeMap 68 = .ok (.invokestatic 115, 3) := by decide +kernel
theorem dX4_writeMap_71 : decode cX4_writeMap 71 = .ok (.ifCond .eq 10, 3) := by decide +kernel
theorem dX4_writeMap_74 : decode cX4_writeMap 74 = .ok (.aload_n 0, 1) := by decide +kernel
theorem dX4_writeMap_75 : decode cX4_writeMap 75 = .ok (.bipush (-3), 2) := by decide +kernel
theorem dX4_writeMap_77 : decode cX4_writeMap 77 = .ok (.invokevirtual 111, 3) := by decide +kernel
theorem dX4_writeMap_80 : decode cX4_writeMap 80 = .ok (.ireturn, 1) := by decide +kernel
theorem dX4_writeMap_81 : decode cX4_writeMap 81 = .ok (.aload 6, 2) := by decide +kernel
theorem dX4_writeMap_83 : decode cX4_writeMap 83 = .ok (.aload 5, 2) := by decide +kernel
theorem dX4_writeMap_85 : decode cX4_writeMap 85 = .ok (.invokestatic 119, 3) := by decide +kernel
theorem dX4_writeMap_88 : decode cX4_writeMap 88 = .ok (.ifCond .ne 10, 3) := by decide +kernel
theorem dX4_writeMap_91 : decode cX4_writeMap 91 = .ok (.aload_n 0, 1) := by decide +kernel
theorem dX4_writeMap_92 : decode cX4_writeMap 92 = .ok (.bipush (-2), 2) := by decide +kernel
theorem dX4_writeMap_94 : decode cX4_writeMap 94 = .ok (.invokevirtual 111, 3) := by decide +kernel
theorem dX4_writeMap_97 : decode cX4_writeMap 97 = .ok (.ireturn, 1) := by decide +kernel
theorem dX4_writeMap_98 : decode cX4_writeMap 98 = .ok (.aload 6, 2) := by decide +kernel
theorem dX4_writeMap_100 : decode cX4_writeMap 100 = .ok (.invokevirtual 123, 3) := by decide +kernel
theorem dX4_writeMap_103 : decode cX4_writeMap 103 = .ok (.ifCond .eq 36, 3) := by decide +kernel
theorem dX4_writeMap_106 : decode cX4_writeMap 106 = .ok (.aload_n 3, 1) := by decide +kernel
theorem dX4_writeMap_107 : decode cX4_writeMap 107 = .ok (.getfield 68, 3) := by decide +kernel
theorem dX4_writeMap_110 : decode cX4_writeMap 110 = .ok (.aload 4, 2) := by decide +kernel
theorem dX4_writeMap_112 : decode cX4_writeMap 112 = .ok (.getfield 127, 3) := by decide +kernel
theorem dX4_writeMap_115 : decode cX4_writeMap 115 = .ok (.if_icmp .ne 24, 3) := by decide +kernel
theorem dX4_writeMap_118 : decode cX4_writeMap 118 = .ok (.aload 5, 2) := by decide +kernel
theorem dX4_writeMap_120 : decode cX4_writeMap 120 = .ok (.aload 6, 2) := by decide +kernel
theorem dX4_writeMap_122 : decode cX4_writeMap 122 = .ok (.getfield 130, 3) := by decide +kernel
theorem dX4_writeMap_125 : decode cX4_writeMap 125 = .ok (.invokestatic 132, 3) := by decide +kernel
theorem dX4_writeMap_128 : decode cX4_writeMap 128 = .ok (.aload_n 3, 1) := by decide +kernel
theorem dX4_writeMap_129 : decode cX4_writeMap 129 = .ok (.getfield 68, 3) := by decide +kernel
theorem dX4_writeMap_132 : decode cX4_writeMap 132 = .ok (.if_icmp .ne 7, 3) := by decide +kernel
theorem dX4_writeMap_135 : decode cX4_writeMap 135 = .ok (.iconst 1, 1) := by decide +kernel
theorem dX4_writeMap_136 : decode cX4_writeMap 136 = .ok (.goto 4, 3) := by decide +kernel
theorem dX4_writeMap_139 : decode cX4_writeMap 139 = .ok (.iconst 0, 1) := by decide +kernel
theorem dX4_writeMap_140 : decode cX4_writeMap 140 = .ok (.istore 7, 2) := by decide +kernel
theorem dX4_writeMap_142 : decode cX4_writeMap 142 = .ok (.iload 7, 2) := by decide +kernel
theorem dX4_writeMap_144 : decode cX4_writeMap 144 = .ok (.ifCond .ne 20, 3) := by decide +kernel
theorem dX4_writeMap_147 : decode cX4_writeMap 147 = .ok (.aload_n 3, 1) := by decide +kernel
theorem dX4_writeMap_148 : decode cX4_writeMap 148 = .ok (.bipush 8, 2) := by decide +kernel
theorem dX4_writeMap_150 : decode cX4_writeMap 150 = .ok (.aload 5, 2) := by decide +kernel
theorem dX4_writeMap_152 : decode cX4_writeMap 152 = .ok (.invokevirtual 136, 3) := by decide +kernel
theorem dX4_writeMap_155 : decode cX4_writeMap 155 = .ok (.ifCond .ne 9, 3) := by decide +kernel
theorem dX4_writeMap_158 : decode cX4_writeMap 158 = .ok (.aload_n 0, 1) := by decide +kernel
theorem dX4_writeMap_159 : decode cX4_writeMap 159 = .ok (.iconst (-1), 1) := by decide +kernel
theorem dX4_writeMap_160 : decode cX4_writeMap 160 = .ok (.invokevirtual 111, 3) := by decide +kernel
theorem dX4_writeMap_163 : decode cX4_writeMap 163 = .ok (.ireturn, 1) := by decide +kernel
theorem dX4_writeMap_164 : decode cX4_writeMap 164 = .ok (.aload 4, 2) := by decide +kernel
theorem dX4_writeMap_166 : decode cX4_writeMap 166 = .ok (.aload 6, 2) := by decide +kernel
theorem dX4_writeMap_168 : decode cX4_writeMap 168 = .ok (.putfield 108, 3) := by decide +kernel
theorem dX4_writeMap_171 : decode cX4_writeMap 171 = .ok (.aload 6, 2) := by decide +kernel
theorem dX4_writeMap_173 : decode cX4_writeMap 173 = .ok (.invokestatic 85, 3) := by decide +kernel
theorem dX4_writeMap_176 : decode cX4_writeMap 176 = .ok (.ireturn, 1) := by decide +kernel
theorem dX4_rooms_0 : decode cX4_rooms 0 = .ok (.aload_n 0, 1) := by decide +kernel
theorem dX4_rooms_1 : decode cX4_rooms 1 = .ok (.getfield 18, 3) := by decide +kernel
theorem dX4_rooms_4 : decode cX4_rooms 4 = .ok (.ireturn, 1) := by decide +kernel
theorem dX4_outerOf_0 : decode cX4_outerOf 0 = .ok (.aload_n 0, 1) := by decide +kernel
theorem dX4_outerOf_1 : decode cX4_outerOf 1 = .ok (.iload_n 1, 1) := by decide +kernel
theorem dX4_outerOf_2 : decode cX4_outerOf 2 = .ok (.invokevirtual 96, 3) := by decide +kernel
theorem dX4_outerOf_5 : decode cX4_outerOf 5 = .ok (.getfield 100, 3) := by decide +kernel
theorem dX4_outerOf_8 : decode cX4_outerOf 8 = .ok (.invokestatic 140, 3) := by decide +kernel
theorem dX4_outerOf_11 : decode cX4_outerOf 11 = .ok (.ireturn, 1) := by decide +kernel
theorem dX4_leadsTo_0 : decode cX4_leadsTo 0 = .ok (.aload_n 0, 1) := by decide +kernel
theorem dX4_leadsTo_1 : decode cX4_leadsTo 1 = .ok (.iload_n 1, 1) := by decide +kernel
theorem dX4_leadsTo_2 : decode cX4_leadsTo 2 = .ok (.invokevirtual 96, 3) := by decide +kernel
theorem dX4_leadsTo_5 : decode cX4_leadsTo 5 = .ok (.astore_n 3, 1) := by decide +kernel
theorem dX4_leadsTo_6 : decode cX4_leadsTo 6 = .ok (.iload_n 2, 1) := by decide +kernel
theorem dX4_leadsTo_7 : decode cX4_leadsTo 7 = .ok (.invokestatic 76, 3) := by decide +kernel
theorem dX4_leadsTo_10 : decode cX4_leadsTo 10 = .ok (.aload_n 3, 1) := by decide +kernel
theorem dX4_leadsTo_11 : decode cX4_leadsTo 11 = .ok (.iload_n 2, 1) := by decide +kernel
theorem dX4_leadsTo_12 : decode cX4_leadsTo 12 = .ok (.invokestatic 132, 3) := by decide +kernel
theorem dX4_leadsTo_15 : decode cX4_leadsTo 15 = .ok (.ireturn, 1) := by decide +kernel
theorem dX4_seenAs_0 : decode cX4_seenAs 0 = .ok (.aload_n 0, 1) := by decide +kernel
theorem dX4_seenAs_1 : decode cX4_seenAs 1 = .ok (.iload_n 1, 1) := by decide +kernel
theorem dX4_seenAs_2 : decode cX4_seenAs 2 = .ok (.invokevirtual 96, 3) := by decide +kernel
theorem dX4_seenAs_5 : decode cX4_seenAs 5 = .ok (.astore_n 3, 1) := by decide +kernel
theorem dX4_seenAs_6 : decode cX4_seenAs 6 = .ok (.iload_n 2, 1) := by decide +kernel
theorem dX4_seenAs_7 : decode cX4_seenAs 7 = .ok (.invokestatic 76, 3) := by decide +kernel
theorem dX4_seenAs_10 : decode cX4_seenAs 10 = .ok (.aload_n 0, 1) := by decide +kernel
theorem dX4_seenAs_11 : decode cX4_seenAs 11 = .ok (.aload_n 3, 1) := by decide +kernel
theorem dX4_seenAs_12 : decode cX4_seenAs 12 = .ok (.iload_n 2, 1) := by decide +kernel
theorem dX4_seenAs_13 : decode cX4_seenAs 13 = .ok (.invokevirtual 144, 3) := by decide +kernel
theorem dX4_seenAs_16 : decode cX4_seenAs 16 = .ok (.ireturn, 1) := by decide +kernel
theorem dX4_seenByLeading_0 : decode cX4_seenByLeading 0 = .ok (.aload_n 0, 1) := by decide +kernel
theorem dX4_seenByLeading_1 : decode cX4_seenByLeading 1 = .ok (.iload_n 1, 1) := by decide +kernel
theorem dX4_seenByLeading_2 : decode cX4_seenByLeading 2 = .ok (.invokevirtual 96, 3) := by decide +kernel
theorem dX4_seenByLeading_5 : decode cX4_seenByLeading 5 = .ok (.astore_n 3, 1) := by decide +kernel
theorem dX4_seenByLeading_6 : decode cX4_seenByLeading 6 = .ok (.iload_n 2, 1) := by decide +kernel
theorem dX4_seenByLeading_7 : decode cX4_seenByLeading 7 = .ok (.invokestatic 76, 3) := by decide +kernel
theorem dX4_seenByLeading_10 : decode cX4_seenByLeading 10 = .ok (.iconst 0, 1) := by decide +kernel
theorem dX4_seenByLeading_11 : decode cX4_seenByLeading 11 = .ok (.istore 4, 2) := by decide +kernel
theorem dX4_seenByLeading_13 : decode cX4_seenByLeading 13 = .ok (.iload 4, 2) := by decide +kernel
theorem dX4_seenByLeading_15 : decode cX4_seenByLeading 15 = .ok (.sipush 998, 3) := by decide +kernel
theorem dX4_seenByLeading_18 : decode cX4_seenByLeading 18 = .ok (.if_icmp .gt 22, 3) := by decide +kernel
theorem dX4_seenByLeading_21 : decode cX4_seenByLeading 21 = .ok (.aload_n 3, 1) := by decide +kernel
theorem dX4_seenByLeading_22 : decode cX4_seenByLeading 22 = .ok (.iload 4, 2) := by decide +kernel
theorem dX4_seenByLeading_24 : decode cX4_seenByLeading 24 = .ok (.invokestatic 132, 3) := by decide +kernel
theorem dX4_seenByLeading_27 : decode cX4_seenByLeading 27 = .ok (.iload_n 2, 1) := by decide +kernel
theorem dX4_seenByLeading_28 : decode cX4_seenByLeading 28 = .ok (.if_icmp .ne 6, 3) := by decide +kernel
theorem dX4_seenByLeading_31 : decode cX4_seenByLeading 31 = .ok (.iload 4, 2) := by decide +kernel
theorem dX4_seenByLeading_33 : decode cX4_seenByLeading 33 = .ok (.ireturn, 1) := by decide +kernel
theorem dX4_seenByLeading_34 : decode cX4_seenByLeading 34 = .ok (.iinc 4 1, 3) := by decide +kernel
theorem dX4_seenByLeading_37 : decode cX4_seenByLeading 37 = .ok (.goto (-24), 3) := by decide +kernel
theorem dX4_seenByLeading_40 : decode cX4_seenByLeading 40 = .ok (.sipush 999, 3) := by decide +kernel
theorem dX4_seenByLeading_43 : decode cX4_seenByLeading 43 = .ok (.ireturn, 1) := by decide +kernel
theorem dX4_fork_0 : decode cX4_fork 0 = .ok (.aload_n 0, 1) := by decide +kernel
theorem dX4_fork_1 : decode cX4_fork 1 = .ok (.iload_n 1, 1) := by decide +kernel
theorem dX4_fork_2 : decode cX4_fork 2 = .ok (.invokevirtual 53, 3) := by decide +kernel
theorem dX4_fork_5 : decode cX4_fork 5 = .ok (.astore_n 2, 1) := by decide +kernel
theorem dX4_fork_6 : decode cX4_fork 6 = .ok (.aload_n 0, 1) := by decide +kernel
theorem dX4_fork_7 : decode cX4_fork 7 = .ok (.getfield 31, 3) := by decide +kernel
theorem dX4_fork_10 : decode cX4_fork 10 = .ok (.aload_n 0, 1) := by decide +kernel
theorem dX4_fork_11 : decode cX4_fork 11 = .ok (.getfield 24, 3) := by decide +kernel
theorem dX4_fork_14 : decode cX4_fork 14 = .ok (.arraylength, 1) := by decide +kernel
theorem dX4_fork_15 : decode cX4_fork 15 = .ok (.if_icmp .lt 13, 3) := by decide +kernel
theorem dX4_fork_18 : decode cX4_fork 18 = .ok (.new 57, 3) := by decide +kernel
theorem dX4_fork_21 : decode cX4_fork 21 = .ok (.dup, 1) := by decide +kernel
theorem dX4_fork_22 : decode cX4_fork 22 = .ok (.ldc 147, 2) := by decide +kernel
theorem dX4_fork_24 : decode cX4_fork 24 = .ok (.invokespecial 61, 3) := by decide +kernel
theorem dX4_fork_27 : decode cX4_fork 27 = .ok (.athrow, 1) := by decide +kernel
theorem dX4_fork_28 : decode cX4_fork 28 = .ok (.aload_n 0, 1) := by decide +kernel
theorem dX4_fork_29 : decode cX4_fork 29 = .ok (.getfield 31, 3) := by decide +kernel
theorem dX4_fork_32 : decode cX4_fork 32 = .ok (.istore_n 3, 1) := by decide +kernel
theorem dX4_fork_33 : decode cX4_fork 33 = .ok (.aload_n 0, 1) := by decide +kernel
theorem dX4_fork_34 : decode cX4_fork 34 = .ok (.getfield 24, 3) := by decide +kernel
theorem dX4_fork_37 : decode cX4_fork 37 = .ok (.iload_n 3, 1) := by decide +kernel
theorem dX4_fork_38 : decode cX4_fork 38 = .ok (.new 22, 3) := by decide +kernel
theorem dX4_fork_41 : decode cX4_fork 41 = .ok (.dup, 1) := by decide +kernel
theorem dX4_fork_42 : decode cX4_fork 42 = .ok (.aload_n 2, 1) := by decide +kernel
theorem dX4_fork_43 : decode cX4_fork 43 = .ok (.getfield 64, 3) := by decide +kernel
theorem dX4_fork_46 : decode cX4_fork 46 = .ok (.aload_n 2, 1) := by decide +kernel
theorem dX4_fork_47 : decode cX4_fork 47 = .ok (.getfield 68, 3) := by decide +kernel
theorem dX4_fork_50 : decode cX4_fork 50 = .ok (.aload_n 2, 1) := by decide +kernel
theorem dX4_fork_51 : decode cX4_fork 51 = .ok (.getfield 149, 3) := by decide +kernel
theorem dX4_fork_54 : decode cX4_fork 54 = .ok (.invokespecial 28, 3) := by decide +kernel
theorem dX4_fork_57 : decode cX4_fork 57 = .ok (.aastore, 1) := by decide +kernel
theorem dX4_fork_58 : decode cX4_fork 58 = .ok (.aload_n 0, 1) := by decide +kernel
theorem dX4_fork_59 : decode cX4_fork 59 = .ok (.dup, 1) := by decide +kernel
theorem dX4_fork_60 : decode cX4_fork 60 = .ok (.getfield 31, 3) := by decide +kernel
theorem dX4_fork_63 : decode cX4_fork 63 = .ok (.iconst 1, 1) := by decide +kernel
theorem dX4_fork_64 : decode cX4_fork 64 = .ok (.iadd, 1) := by decide +kernel
theorem dX4_fork_65 : decode cX4_fork 65 = .ok (.putfield 31, 3) := by decide +kernel
theorem dX4_fork_68 : decode cX4_fork 68 = .ok (.iload_n 3, 1) := by decide +kernel
theorem dX4_fork_69 : decode cX4_fork 69 = .ok (.ireturn, 1) := by decide +kernel
theorem dX4_drop_0 : decode cX4_drop 0 = .ok (.aload_n 0, 1) := by decide +kernel
theorem dX4_drop_1 : decode cX4_drop 1 = .ok (.iload_n 1, 1) := by decide +kernel
theorem dX4_drop_2 : decode cX4_drop 2 = .ok (.invokevirtual 53, 3) := by decide +kernel
theorem dX4_drop_5 : decode cX4_drop 5 = .ok (.astore_n 3, 1) := by decide +kernel
theorem dX4_drop_6 : decode cX4_drop 6 = .ok (.iload_n 2, 1) := by decide +kernel
theorem dX4_drop_7 : decode cX4_drop 7 = .ok (.ifCond .lt 9, 3) := by decide +kernel
theorem dX4_drop_10 : decode cX4_drop 10 = .ok (.iload_n 2, 1) := by decide +kernel
theorem dX4_drop_11 : decode cX4_drop 11 = .ok (.bipush 15, 2) := by decide +kernel
theorem dX4_drop_13 : decode cX4_drop 13 = .ok (.if_icmp .le 13, 3) := by decide +kernel
theorem dX4_drop_16 : decode cX4_drop 16 = .ok (.new 80, 3) := by decide +kernel
theorem dX4_drop_19 : decode cX4_drop 19 = .ok (.dup, 1) := by decide +kernel
theorem dX4_drop_20 : decode cX4_drop 20 = .ok (.ldc 152, 2) := by decide +kernel
theorem dX4_drop_22 : decode cX4_drop 22 = .ok (.invokespecial 84, 3) := by decide +kernel
theorem dX4_drop_25 : decode cX4_drop 25 = .ok (.athrow, 1) := by decide +kernel
theorem dX4_drop_26 : decode cX4_drop 26 = .ok (.aload_n 3, 1) := by decide +kernel
theorem dX4_drop_27 : decode cX4_drop 27 = .ok (.dup, 1) := by decide +kernel
theorem dX4_drop_28 : decode cX4_drop 28 = .ok (.getfield 149, 3) := by decide +kernel
theorem dX4_drop_31 : decode cX4_drop 31 = .ok (.iload_n 2, 1) := by decide +kernel
theorem dX4_drop_32 : decode cX4_drop 32 = .ok (.iconst (-1), 1) := by decide +kernel
theorem dX4_drop_33 : decode cX4_drop 33 = .ok (.ixor, 1) := by decide +kernel
theorem dX4_drop_34 : decode cX4_drop 34 = .ok (.iand, 1) := by decide +kernel
theorem dX4_drop_35 : decode cX4_drop 35 = .ok (.putfield 149, 3) := by decide +kernel
theorem dX4_drop_38 : decode cX4_drop 38 = .ok (.aload_n 3, 1) := by decide +kernel
theorem dX4_drop_39 : decode cX4_drop 39 = .ok (.getfield 149, 3) := by decide +kernel
theorem dX4_drop_42 : decode cX4_drop 42 = .ok (.ireturn, 1) := by decide +kernel
theorem dX4_enter_0 : decode cX4_enter 0 = .ok (.aload_n 0, 1) := by decide +kernel
theorem dX4_enter_1 : decode cX4_enter 1 = .ok (.iload_n 1, 1) := by decide +kernel
theorem dX4_enter_2 : decode cX4_enter 2 = .ok (.invokevirtual 53, 3) := by decide +kernel
theorem dX4_enter_5 : decode cX4_enter 5 = .ok (.astore_n 3, 1) := by decide +kernel
theorem dX4_enter_6 : decode cX4_enter 6 = .ok (.aload_n 0, 1) := by decide +kernel
theorem dX4_enter_7 : decode cX4_enter 7 = .ok (.iload_n 2, 1) := by decide +kernel
theorem dX4_enter_8 : decode cX4_enter 8 = .ok (.invokevirtual 96, 3) := by decide +kernel
theorem dX4_enter_11 : decode cX4_enter 11 = .ok (.astore 4, 2) := by decide +kernel
theorem dX4_enter_13 : decode cX4_enter 13 = .ok (.aload 4, 2) := by decide +kernel
theorem dX4_enter_15 : decode cX4_enter 15 = .ok (.getfield 100, 3) := by decide +kernel
theorem dX4_enter_18 : decode cX4_enter 18 = .ok (.aload_n 3, 1) := by decide +kernel
theorem dX4_enter_19 : decode cX4_enter 19 = .ok (.getfield 64, 3) := by decide +kernel
theorem dX4_enter_22 : decode cX4_enter 22 = .ok (.invokestatic 154, 3) := by decide +kernel
theorem dX4_enter_25 : decode cX4_enter 25 = .ok (.ifCond .ne 10, 3) := by decide +kernel
theorem dX4_enter_28 : decode cX4_enter 28 = .ok (.aload_n 0, 1) := by decide +kernel
theorem dX4_enter_29 : decode cX4_enter 29 = .ok (.bipush (-5), 2) := by decide +kernel
theorem dX4_enter_31 : decode cX4_enter 31 = .ok (.invokevirtual 111, 3) := by decide +kernel
theorem dX4_enter_34 : decode cX4_enter 34 = .ok (.ireturn, 1) := by decide +kernel
theorem dX4_enter_35 : decode cX4_enter 35 = .ok (.aload_n 3, 1) := by decide +kernel
theorem dX4_enter_36 : decode cX4_enter 36 = .ok (.iconst 1, 1) := by decide +kernel
theorem dX4_enter_37 : decode cX4_enter 37 = .ok (.aload 4, 2) := by decide +kernel
theorem dX4_enter_39 : decode cX4_enter 39 = .ok (.invokevirtual 136, 3) := by decide +kernel
theorem dX4_enter_42 : decode cX4_enter 42 = .ok (.ifCond .ne 9, 3) := by decide +kernel
theorem dX4_enter_45 : decode cX4_enter 45 = .ok (.aload_n 0, 1) := by decide +kernel
theorem dX4_enter_46 : decode cX4_enter 46 = .ok (.iconst (-1), 1) := by decide +kernel
theorem dX4_enter_47 : decode cX4_enter 47 = .ok (.invokevirtual 111, 3) := by decide +kernel
theorem dX4_enter_50 : decode cX4_enter 50 = .ok (.ireturn, 1) := by decide +kernel
theorem dX4_enter_51 : decode cX4_enter 51 = .ok (.aload_n 3, 1) := by decide +kernel
theorem dX4_enter_52 : decode cX4_enter 52 = .ok (.aload 4, 2) := by decide +kernel
theorem dX4_enter_54 : decode cX4_enter 54 = .ok (.invokevirtual 71, 3) := by decide +kernel
theorem dX4_enter_57 : decode cX4_enter 57 = .ok (.aload_n 3, 1) := by decide +kernel
theorem dX4_enter_58 : decode cX4_enter 58 = .ok (.getfield 149, 3) := by decide +kernel
theorem dX4_enter_61 : decode cX4_enter 61 = .ok (.ireturn, 1) := by decide +kernel
theorem dX4_setNumber_0 : decode cX4_setNumber 0 = .ok (.aload_n 0, 1) := by decide +kernel
theorem dX4_setNumber_1 : decode cX4_setNumber 1 = .ok (.iload_n 1, 1) := by decide +kernel
theorem dX4_setNumber_2 : decode cX4_setNumber 2 = .ok (.invokevirtual 53, 3) := by decide +kernel
theorem dX4_setNumber_5 : decode cX4_setNumber 5 = .ok (.astore_n 3, 1) := by decide +kernel
theorem dX4_setNumber_6 : decode cX4_setNumber 6 = .ok (.iload_n 2, 1) := by decide +kernel
theorem dX4_setNumber_7 : decode cX4_setNumber 7 = .ok (.invokestatic 76, 3) := by decide +kernel
theorem dX4_setNumber_10 : decode cX4_setNumber 10 = .ok (.aload_n 3, 1) := by decide +kernel
theorem dX4_setNumber_11 : decode cX4_setNumber 11 = .ok (.getfield 64, 3) := by decide +kernel
theorem dX4_setNumber_14 : decode cX4_setNumber 14 = .ok (.iload_n 2, 1) := by decide +kernel
theorem dX4_setNumber_15 : decode cX4_setNumber 15 = .ok (.invokestatic 132, 3) := by decide +kernel
theorem dX4_setNumber_18 : decode cX4_setNumber 18 = .ok (.istore 4, 2) := by decide +kernel
theorem dX4_setNumber_20 : decode cX4_setNumber 20 = .ok (.iload 4, 2) := by decide +kernel
theorem dX4_setNumber_22 : decode cX4_setNumber 22 = .ok (.iconst (-1), 1) := by decide +kernel
theorem dX4_setNumber_23 : decode cX4_setNumber 23 = .ok (.if_icmp .ne 10, 3) := by decide +kernel
theorem dX4_setNumber_26 : decode cX4_setNumber 26 = .ok (.aload_n 0, 1) := by decide +kernel
theorem dX4_setNumber_27 : decode cX4_setNumber 27 = .ok (.bipush (-2), 2) := by decide +kernel
theorem dX4_setNumber_29 : decode cX4_setNumber 29 = .ok (.invokevirtual 111, 3) := by decide +kernel
theorem dX4_setNumber_32 : decode cX4_setNumber 32 = .ok (.ireturn, 1) := by decide +kernel
theorem dX4_setNumber_33 : decode cX4_setNumber 33 = .ok (.iload 4, 2) := by decide +kernel
theorem dX4_setNumber_35 : decode cX4_setNumber 35 = .ok (.aload_n 3, 1) := by decide +kernel
theorem dX4_setNumber_36 : decode cX4_setNumber 36 = .ok (.getfield 68, 3) := by decide +kernel
theorem dX4_setNumber_39 : decode cX4_setNumber 39 = .ok (.if_icmp .eq 22, 3) := by decide +kernel
theorem dX4_setNumber_42 : decode cX4_setNumber 42 = .ok (.aload_n 3, 1) := by decide +kernel
theorem dX4_setNumber_43 : decode cX4_setNumber 43 = .ok (.bipush 8, 2) := by decide +kernel
theorem dX4_setNumber_45 : decode cX4_setNumber 45 = .ok (.aload_n 3, 1) := by decide +kernel
theorem dX4_setNumber_46 : decode cX4_setNumber 46 = .ok (.getfield 64, 3) := by decide +kernel
theorem dX4_setNumber_49 : decode cX4_setNumber 49 = .ok (.invokevirtual 136, 3) := by decide +kernel
theorem dX4_setNumber_52 : decode cX4_setNumber 52 = .ok (.ifCond .ne 9, 3) := by decide +kernel
theorem dX4_setNumber_55 : decode cX4_setNumber 55 = .ok (.aload_n 0, 1) := by decide +kernel
theorem dX4_setNumber_56 : decode cX4_setNumber 56 = .ok (.iconst (-1), 1) := by decide +kernel
theorem dX4_setNumber_57 : decode cX4_setNumber 57 = .ok (.invokevirtual 111, 3) := by decide +kernel
theorem dX4_setNumber_60 : decode cX4_setNumber 60 = .ok (.ireturn, 1) := by decide +kernel
theorem dX4_setNumber_61 : decode cX4_setNumber 61 = .ok (.iload_n 2, 1) := by decide +kernel
theorem dX4_setNumber_62 : decode cX4_setNumber 62 = .ok (.ifCond .eq 23, 3) := by decide +kernel
theorem dX4_setNumber_65 : decode cX4_setNumber 65 = .ok (.aload_n 0, 1) := by decide +kernel
theorem dX4_setNumber_66 : decode cX4_setNumber 66 = .ok (.aload_n 3, 1) := by decide +kernel
theorem dX4_setNumber_67 : decode cX4_setNumber 67 = .ok (.getfield 64, 3) := by decide +kernel
theorem dX4_setNumber_70 : decode cX4_setNumber 70 = .ok (.aload_n 3, 1) := by decide +kernel
theorem dX4_setNumber_71 : decode cX4_setNumber 71 = .ok (.getfield 68, 3) := by decide +kernel
theorem dX4_setNumber_74 : decode cX4_setNumber 74 = .ok (.invokevirtual 144, 3) := by decide +kernel
theorem dX4_setNumber_77 : decode cX4_setNumber 77 = .ok (.ifCond .ne 8, 3) := by decide +kernel
theorem dX4_setNumber_80 : decode cX4_setNumber 80 = .ok (.aload_n 3, 1) := by decide +kernel
theorem dX4_setNumber_81 : decode cX4_setNumber 81 = .ok (.iconst 0, 1) := by decide +kernel
theorem dX4_setNumber_82 : decode cX4_setNumber 82 = .ok (.putfield 149, 3) := by decide +kernel
theorem dX4_setNumber_85 : decode cX4_setNumber 85 = .ok (.aload_n 3, 1) := by decide +kernel
theorem dX4_setNumber_86 : decode cX4_setNumber 86 = .ok (.iload 4, 2) := by decide +kernel
theorem dX4_setNumber_88 : decode cX4_setNumber 88 = .ok (.putfield 68, 3) := by decide +kernel
theorem dX4_setNumber_91 : decode cX4_setNumber 91 = .ok (.iload 4, 2) := by decide +kernel
theorem dX4_setNumber_93 : decode cX4_setNumber 93 = .ok (.ireturn, 1) := by decide +kernel
theorem dX4_processes_0 : decode cX4_processes 0 = .ok (.aload_n 0, 1) := by decide +kernel
theorem dX4_processes_1 : decode cX4_processes 1 = .ok (.getfield 31, 3) := by decide +kernel
theorem dX4_processes_4 : decode cX4_processes 4 = .ok (.ireturn, 1) := by decide +kernel
theorem dX4_roomOf_0 : decode cX4_roomOf 0 = .ok (.aload_n 0, 1) := by decide +kernel
theorem dX4_roomOf_1 : decode cX4_roomOf 1 = .ok (.iload_n 1, 1) := by decide +kernel
theorem dX4_roomOf_2 : decode cX4_roomOf 2 = .ok (.invokevirtual 53, 3) := by decide +kernel
theorem dX4_roomOf_5 : decode cX4_roomOf 5 = .ok (.getfield 64, 3) := by decide +kernel
theorem dX4_roomOf_8 : decode cX4_roomOf 8 = .ok (.invokestatic 140, 3) := by decide +kernel
theorem dX4_roomOf_11 : decode cX4_roomOf 11 = .ok (.ireturn, 1) := by decide +kernel
theorem dX4_numberOf_0 : decode cX4_numberOf 0 = .ok (.aload_n 0, 1) := by decide +kernel
theorem dX4_numberOf_1 : decode cX4_numberOf 1 = .ok (.iload_n 1, 1) := by decide +kernel
theorem dX4_numberOf_2 : decode cX4_numberOf 2 = .ok (.invokevirtual 53, 3) := by decide +kernel
theorem dX4_numberOf_5 : decode cX4_numberOf 5 = .ok (.getfield 68, 3) := by decide +kernel
theorem dX4_numberOf_8 : decode cX4_numberOf 8 = .ok (.ireturn, 1) := by decide +kernel
theorem dX4_rightsIn_0 : decode cX4_rightsIn 0 = .ok (.aload_n 0, 1) := by decide +kernel
theorem dX4_rightsIn_1 : decode cX4_rightsIn 1 = .ok (.iload_n 1, 1) := by decide +kernel
theorem dX4_rightsIn_2 : decode cX4_rightsIn 2 = .ok (.invokevirtual 53, 3) := by decide +kernel
theorem dX4_rightsIn_5 : decode cX4_rightsIn 5 = .ok (.astore_n 3, 1) := by decide +kernel
theorem dX4_rightsIn_6 : decode cX4_rightsIn 6 = .ok (.aload_n 3, 1) := by decide +kernel
theorem dX4_rightsIn_7 : decode cX4_rightsIn 7 = .ok (.aload_n 0, 1) := by decide +kernel
theorem dX4_rightsIn_8 : decode cX4_rightsIn 8 = .ok (.iload_n 2, 1) := by decide +kernel
theorem dX4_rightsIn_9 : decode cX4_rightsIn 9 = .ok (.invokevirtual 96, 3) := by decide +kernel
theorem dX4_rightsIn_12 : decode cX4_rightsIn 12 = .ok (.invokevirtual 158, 3) := by decide +kernel
theorem dX4_rightsIn_15 : decode cX4_rightsIn 15 = .ok (.ireturn, 1) := by decide +kernel
theorem dX4_makeFile_0 : decode cX4_makeFile 0 = .ok (.aload_n 0, 1) := by decide +kernel
theorem dX4_makeFile_1 : decode cX4_makeFile 1 = .ok (.iload_n 1, 1) := by decide +kernel
theorem dX4_makeFile_2 : decode cX4_makeFile 2 = .ok (.invokevirtual 53, 3) := by decide +kernel
theorem dX4_makeFile_5 : decode cX4_makeFile 5 = .ok (.astore_n 3, 1) := by decide +kernel
theorem dX4_makeFile_6 : decode cX4_makeFile 6 = .ok (.iload_n 2, 1) := by decide +kernel
theorem dX4_makeFile_7 : decode cX4_makeFile 7 = .ok (.ifCond .lt 9, 3) := by decide +kernel
theorem dX4_makeFile_10 : decode cX4_makeFile 10 = .ok (.iload_n 2, 1) := by decide +kernel
theorem dX4_makeFile_11 : decode cX4_makeFile 11 = .ok (.bipush 15, 2) := by decide +kernel
theorem dX4_makeFile_13 : decode cX4_makeFile 13 = .ok (.if_icmp .le 13, 3) := by decide +kernel
theorem dX4_makeFile_16 : decode cX4_makeFile 16 = .ok (.new 80, 3) := by decide +kernel
theorem dX4_makeFile_19 : decode cX4_makeFile 19 = .ok (.dup, 1) := by decide +kernel
theorem dX4_makeFile_20 : decode cX4_makeFile 20 = .ok (.ldc 161, 2) := by decide +kernel
theorem dX4_makeFile_22 : decode cX4_makeFile 22 = .ok (.invokespecial 84, 3) := by decide +kernel
theorem dX4_makeFile_25 : decode cX4_makeFile 25 = .ok (.athrow, 1) := by decide +kernel
theorem dX4_makeFile_26 : decode cX4_makeFile 26 = .ok (.aload_n 0, 1) := by decide +kernel
theorem dX4_makeFile_27 : decode cX4_makeFile 27 = .ok (.getfield 40, 3) := by decide +kernel
theorem dX4_makeFile_30 : decode cX4_makeFile 30 = .ok (.aload_n 0, 1) := by decide +kernel
theorem dX4_makeFile_31 : decode cX4_makeFile 31 = .ok (.getfield 36, 3) := by decide +kernel
theorem dX4_makeFile_34 : decode cX4_makeFile 34 = .ok (.arraylength, 1) := by decide +kernel
theorem dX4_makeFile_35 : decode cX4_makeFile 35 = .ok (.if_icmp .lt 13, 3) := by decide +kernel
theorem dX4_makeFile_38 : decode cX4_makeFile 38 = .ok (.new 57, 3) := by decide +kernel
theorem dX4_makeFile_41 : decode cX4_makeFile 41 = .ok (.dup, 1) := by decide +kernel
theorem dX4_makeFile_42 : decode cX4_makeFile 42 = .ok (.ldc 163, 2) := by decide +kernel
theorem dX4_makeFile_44 : decode cX4_makeFile 44 = .ok (.invokespecial 61, 3) := by decide +kernel
theorem dX4_makeFile_47 : decode cX4_makeFile 47 = .ok (.athrow, 1) := by decide +kernel
theorem dX4_makeFile_48 : decode cX4_makeFile 48 = .ok (.aload_n 0, 1) := by decide +kernel
theorem dX4_makeFile_49 : decode cX4_makeFile 49 = .ok (.aload_n 3, 1) := by decide +kernel
theorem dX4_makeFile_50 : decode cX4_makeFile 50 = .ok (.getfield 64, 3) := by decide +kernel
theorem dX4_makeFile_53 : decode cX4_makeFile 53 = .ok (.aload_n 3, 1) := by decide +kernel
theorem dX4_makeFile_54 : decode cX4_makeFile 54 = .ok (.getfield 68, 3) := by decide +kernel
theorem dX4_makeFile_57 : decode cX4_makeFile 57 = .ok (.invokevirtual 144, 3) := by decide +kernel
theorem dX4_makeFile_60 : decode cX4_makeFile 60 = .ok (.sipush 999, 3) := by decide +kernel
theorem dX4_makeFile_63 : decode cX4_makeFile 63 = .ok (.if_icmp .ne 10, 3) := by decide +kernel
theorem dX4_makeFile_66 : decode cX4_makeFile 66 = .ok (.aload_n 0, 1) := by decide +kernel
theorem dX4_makeFile_67 : decode cX4_makeFile 67 = .ok (.bipush (-2), 2) := by decide +kernel
theorem dX4_makeFile_69 : decode cX4_makeFile 69 = .ok (.invokevirtual 111, 3) := by decide +kernel
theorem dX4_makeFile_72 : decode cX4_makeFile 72 = .ok (.ireturn, 1) := by decide +kernel
theorem dX4_makeFile_73 : decode cX4_makeFile 73 = .ok (.aload_n 0, 1) := by decide +kernel
theorem dX4_makeFile_74 : decode cX4_makeFile 74 = .ok (.getfield 40, 3) := by decide +kernel
theorem dX4_makeFile_77 : decode cX4_makeFile 77 = .ok (.istore 4, 2) := by decide +kernel
theorem dX4_makeFile_79 : decode cX4_makeFile 79 = .ok (.aload_n 0, 1) := by decide +kernel
theorem dX4_makeFile_80 : decode cX4_makeFile 80 = .ok (.getfield 36, 3) := by decide +kernel
theorem dX4_makeFile_83 : decode cX4_makeFile 83 = .ok (.iload 4, 2) := by decide +kernel
theorem dX4_makeFile_85 : decode cX4_makeFile 85 = .ok (.new 34, 3) := by decide +kernel
theorem dX4_makeFile_88 : decode cX4_makeFile 88 = .ok (.dup, 1) := by decide +kernel
theorem dX4_makeFile_89 : decode cX4_makeFile 89 = .ok (.aload_n 3, 1) := by decide +kernel
theorem dX4_makeFile_90 : decode cX4_makeFile 90 = .ok (.getfield 68, 3) := by decide +kernel
theorem dX4_makeFile_93 : decode cX4_makeFile 93 = .ok (.iload_n 2, 1) := by decide +kernel
theorem dX4_makeFile_94 : decode cX4_makeFile 94 = .ok (.invokespecial 165, 3) := by decide +kernel
theorem dX4_makeFile_97 : decode cX4_makeFile 97 = .ok (.aastore, 1) := by decide +kernel
theorem dX4_makeFile_98 : decode cX4_makeFile 98 = .ok (.aload_n 0, 1) := by decide +kernel
theorem dX4_makeFile_99 : decode cX4_makeFile 99 = .ok (.dup, 1) := by decide +kernel
theorem dX4_makeFile_100 : decode cX4_makeFile 100 = .ok (.getfield 40, 3) := by decide +kernel
theorem dX4_makeFile_103 : decode cX4_makeFile 103 = .ok (.iconst 1, 1) := by decide +kernel
theorem dX4_makeFile_104 : decode cX4_makeFile 104 = .ok (.iadd, 1) := by decide +kernel
theorem dX4_makeFile_105 : decode cX4_makeFile 105 = .ok (.putfield 40, 3) := by decide +kernel
theorem dX4_makeFile_108 : decode cX4_makeFile 108 = .ok (.iload 4, 2) := by decide +kernel
theorem dX4_makeFile_110 : decode cX4_makeFile 110 = .ok (.ireturn, 1) := by decide +kernel
theorem dX4_handOver_0 : decode cX4_handOver 0 = .ok (.aload_n 0, 1) := by decide +kernel
theorem dX4_handOver_1 : decode cX4_handOver 1 = .ok (.iload_n 1, 1) := by decide +kernel
theorem dX4_handOver_2 : decode cX4_handOver 2 = .ok (.invokevirtual 53, 3) := by decide +kernel
theorem dX4_handOver_5 : decode cX4_handOver 5 = .ok (.astore 4, 2) := by decide +kernel
theorem dX4_handOver_7 : decode cX4_handOver 7 = .ok (.aload_n 0, 1) := by decide +kernel
theorem dX4_handOver_8 : decode cX4_handOver 8 = .ok (.iload_n 2, 1) := by decide +kernel
theorem dX4_handOver_9 : decode cX4_handOver 9 = .ok (.invokevirtual 168, 3) := by decide +kernel
theorem dX4_handOver_12 : decode cX4_handOver 12 = .ok (.astore 5, 2) := by decide +kernel
theorem dX4_handOver_14 : decode cX4_handOver 14 = .ok (.iload_n 3, 1) := by decide +kernel
theorem dX4_handOver_15 : decode cX4_handOver 15 = .ok (.invokestatic 76, 3) := by decide +kernel
theorem dX4_handOver_18 : decode cX4_handOver 18 = .ok (.aload 4, 2) := by decide +kernel
theorem dX4_handOver_20 : decode cX4_handOver 20 = .ok (.getfield 64, 3) := by decide +kernel
theorem dX4_handOver_23 : decode cX4_handOver 23 = .ok (.iload_n 3, 1) := by decide +kernel
theorem dX4_handOver_24 : decode cX4_handOver 24 = .ok (.invokestatic 132, 3) := by decide +kernel
theorem dX4_handOver_27 : decode cX4_handOver 27 = .ok (.istore 6, 2) := by decide +kernel
theorem dX4_handOver_29 : decode cX4_handOver 29 = .ok (.iload 6, 2) := by decide +kernel
theorem dX4_handOver_31 : decode cX4_handOver 31 = .ok (.iconst (-1), 1) := by decide +kernel
theorem dX4_handOver_32 : decode cX4_handOver 32 = .ok (.if_icmp .eq 23, 3) := by decide +kernel
theorem dX4_handOver_35 : decode cX4_handOver 35 = .ok (.aload_n 0, 1) := by decide +kernel
theorem dX4_handOver_36 : decode cX4_handOver 36 = .ok (.aload 4, 2) := by decide +kernel
theorem dX4_handOver_38 : decode cX4_handOver 38 = .ok (.getfield 64, 3) := by decide +kernel
theorem dX4_handOver_41 : decode cX4_handOver 41 = .ok (.aload 5, 2) := by decide +kernel
theorem dX4_handOver_43 : decode cX4_handOver 43 = .ok (.getfield 172, 3) := by decide +kernel
theorem dX4_handOver_46 : decode cX4_handOver 46 = .ok (.invokevirtual 144, 3) := by decide +kernel
theorem dX4_handOver_49 : decode cX4_handOver 49 = .ok (.sipush 999, 3) := by decide +kernel
theorem dX4_handOver_52 : decode cX4_handOver 52 = .ok (.if_icmp .ne 10, 3) := by decide +kernel
theorem dX4_handOver_55 : decode cX4_handOver 55 = .ok (.aload_n 0, 1) := by decide +kernel
theorem dX4_handOver_56 : decode cX4_handOver 56 = .ok (.bipush (-2), 2) := by decide +kernel
theorem dX4_handOver_58 : decode cX4_handOver 58 = .ok (.invokevirtual 111, 3) := by decide +kernel
theorem dX4_handOver_61 : decode cX4_handOver 61 = .ok (.ireturn, 1) := by decide +kernel
theorem dX4_handOver_62 : decode cX4_handOver 62 = .ok (.aload 4, 2) := by decide +kernel
theorem dX4_handOver_64 : decode cX4_handOver 64 = .ok (.iconst 2, 1) := by decide +kernel
theorem dX4_handOver_65 : decode cX4_handOver 65 = .ok (.aload 4, 2) := by decide +kernel
theorem dX4_handOver_67 : decode cX4_handOver 67 = .ok (.getfield 64, 3) := by decide +kernel
theorem dX4_handOver_70 : decode cX4_handOver 70 = .ok (.invokevirtual 136, 3) := by decide +kernel
theorem dX4_handOver_73 : decode cX4_handOver 73 = .ok (.ifCond .ne 9, 3) := by decide +kernel
theorem dX4_handOver_76 : decode cX4_handOver 76 = .ok (.aload_n 0, 1) := by decide +kernel
theorem dX4_handOver_77 : decode cX4_handOver 77 = .ok (.iconst (-1), 1) := by decide +kernel
theorem dX4_handOver_78 : decode cX4_handOver 78 = .ok (.invokevirtual 111, 3) := by decide +kernel
theorem dX4_handOver_81 : decode cX4_handOver 81 = .ok (.ireturn, 1) := by decide +kernel
theorem dX4_handOver_82 : decode cX4_handOver 82 = .ok (.aload 5, 2) := by decide +kernel
theorem dX4_handOver_84 : decode cX4_handOver 84 = .ok (.iload 6, 2) := by decide +kernel
theorem dX4_handOver_86 : decode cX4_handOver 86 = .ok (.putfield 172, 3) := by decide +kernel
theorem dX4_handOver_89 : decode cX4_handOver 89 = .ok (.iload 6, 2) := by decide +kernel
theorem dX4_handOver_91 : decode cX4_handOver 91 = .ok (.ireturn, 1) := by decide +kernel
theorem dX4_open_0 : decode cX4_open 0 = .ok (.aload_n 0, 1) := by decide +kernel
theorem dX4_open_1 : decode cX4_open 1 = .ok (.iload_n 1, 1) := by decide +kernel
theorem dX4_open_2 : decode cX4_open 2 = .ok (.invokevirtual 53, 3) := by decide +kernel
theorem dX4_open_5 : decode cX4_open 5 = .ok (.astore 4, 2) := by decide +kernel
theorem dX4_open_7 : decode cX4_open 7 = .ok (.aload_n 0, 1) := by decide +kernel
theorem dX4_open_8 : decode cX4_open 8 = .ok (.iload_n 2, 1) := by decide +kernel
theorem dX4_open_9 : decode cX4_open 9 = .ok (.invokevirtual 168, 3) := by decide +kernel
theorem dX4_open_12 : decode cX4_open 12 = .ok (.astore 5, 2) := by decide +kernel
theorem dX4_open_14 : decode cX4_open 14 = .ok (.aload 5, 2) := by decide +kernel
theorem dX4_open_16 : decode cX4_open 16 = .ok (.aload 4, 2) := by decide +kernel
theorem dX4_open_18 : decode cX4_open 18 = .ok (.getfield 68, 3) := by decide +kernel
theorem dX4_open_21 : decode cX4_open 21 = .ok (.iload_n 3, 1) := by decide +kernel
theorem dX4_open_22 : decode cX4_open 22 = .ok (.invokevirtual 173, 3) := by decide +kernel
theorem dX4_open_25 : decode cX4_open 25 = .ok (.ifCond .eq 5, 3) := by decide +kernel
theorem dX4_open_28 : decode cX4_open 28 = .ok (.iconst 1, 1) := by decide +kernel
theorem dX4_open_29 : decode cX4_open 29 = .ok (.ireturn, 1) := by decide +kernel
theorem dX4_open_30 : decode cX4_open 30 = .ok (.aload 4, 2) := by decide +kernel
theorem dX4_open_32 : decode cX4_open 32 = .ok (.iconst 4, 1) := by decide +kernel
theorem dX4_open_33 : decode cX4_open 33 = .ok (.aload 4, 2) := by decide +kernel
theorem dX4_open_35 : decode cX4_open 35 = .ok (.getfield 64, 3) := by decide +kernel
theorem dX4_open_38 : decode cX4_open 38 = .ok (.invokevirtual 136, 3) := by decide +kernel
theorem dX4_open_41 : decode cX4_open 41 = .ok (.ifCond .ne 10, 3) := by decide +kernel
theorem dX4_open_44 : decode cX4_open 44 = .ok (.aload_n 0, 1) := by decide +kernel
theorem dX4_open_45 : decode cX4_open 45 = .ok (.bipush (-6), 2) := by decide +kernel
theorem dX4_open_47 : decode cX4_open 47 = .ok (.invokevirtual 111, 3) := by decide +kernel
theorem dX4_open_50 : decode cX4_open 50 = .ok (.ireturn, 1) := by decide +kernel
theorem dX4_open_51 : decode cX4_open 51 = .ok (.aload_n 0, 1) := by decide +kernel
theorem dX4_open_52 : decode cX4_open 52 = .ok (.aload 4, 2) := by decide +kernel
theorem dX4_open_54 : decode cX4_open 54 = .ok (.getfield 64, 3) := by decide +kernel
theorem dX4_open_57 : decode cX4_open 57 = .ok (.aload 5, 2) := by decide +kernel
theorem dX4_open_59 : decode cX4_open 59 = .ok (.getfield 172, 3) := by decide +kernel
theorem dX4_open_62 : decode cX4_open 62 = .ok (.invokevirtual 144, 3) := by decide +kernel
theorem dX4_open_65 : decode cX4_open 65 = .ok (.sipush 999, 3) := by decide +kernel
theorem dX4_open_68 : decode cX4_open 68 = .ok (.if_icmp .ne 10, 3) := by decide +kernel
theorem dX4_open_71 : decode cX4_open 71 = .ok (.aload_n 0, 1) := by decide +kernel
theorem dX4_open_72 : decode cX4_open 72 = .ok (.bipush (-2), 2) := by decide +kernel
theorem dX4_open_74 : decode cX4_open 74 = .ok (.invokevirtual 111, 3) := by decide +kernel
theorem dX4_open_77 : decode cX4_open 77 = .ok (.ireturn, 1) := by decide +kernel
theorem dX4_open_78 : decode cX4_open 78 = .ok (.iconst 2, 1) := by decide +kernel
theorem dX4_open_79 : decode cX4_open 79 = .ok (.ireturn, 1) := by decide +kernel
theorem dX4_ownerSeenBy_0 : decode cX4_ownerSeenBy 0 = .ok (.aload_n 0, 1) := by decide +kernel
theorem dX4_ownerSeenBy_1 : decode cX4_ownerSeenBy 1 = .ok (.iload_n 1, 1) := by decide +kernel
theorem dX4_ownerSeenBy_2 : decode cX4_ownerSeenBy 2 = .ok (.invokevirtual 53, 3) := by decide +kernel
theorem dX4_ownerSeenBy_5 : decode cX4_ownerSeenBy 5 = .ok (.astore_n 3, 1) := by decide +kernel
theorem dX4_ownerSeenBy_6 : decode cX4_ownerSeenBy 6 = .ok (.aload_n 0, 1) := by decide +kernel
theorem dX4_ownerSeenBy_7 : decode cX4_ownerSeenBy 7 = .ok (.aload_n 3, 1) := by decide +kernel
theorem dX4_ownerSeenBy_8 : decode cX4_ownerSeenBy 8 = .ok (.getfield 64, 3) := by decide +kernel
theorem dX4_ownerSeenBy_11 : decode cX4_ownerSeenBy 11 = .ok (.aload_n 0, 1) := by decide +kernel
theorem dX4_ownerSeenBy_12 : decode cX4_ownerSeenBy 12 = .ok (.iload_n 2, 1) := by decide +kernel
theorem dX4_ownerSeenBy_13 : decode cX4_ownerSeenBy 13 = .ok (.invokevirtual 168, 3) := by decide +kernel
theorem dX4_ownerSeenBy_16 : decode cX4_ownerSeenBy 16 = .ok (.getfield 172, 3) := by decide +kernel
theorem dX4_ownerSeenBy_19 : decode cX4_ownerSeenBy 19 = .ok (.invokevirtual 144, 3) := by decide +kernel
theorem dX4_ownerSeenBy_22 : decode cX4_ownerSeenBy 22 = .ok (.ireturn, 1) := by decide +kernel
theorem dX4_files_0 : decode cX4_files 0 = .ok (.aload_n 0, 1) := by decide +kernel
theorem dX4_files_1 : decode cX4_files 1 = .ok (.getfield 40, 3) := by decide +kernel
theorem dX4_files_4 : decode cX4_files 4 = .ok (.ireturn, 1) := by decide +kernel
theorem dX4_refusals_0 : decode cX4_refusals 0 = .ok (.aload_n 0, 1) := by decide +kernel
theorem dX4_refusals_1 : decode cX4_refusals 1 = .ok (.getfield 47, 3) := by decide +kernel
theorem dX4_refusals_4 : decode cX4_refusals 4 = .ok (.ireturn, 1) := by decide +kernel
theorem dX4_lastRefusal_0 : decode cX4_lastRefusal 0 = .ok (.aload_n 0, 1) := by decide +kernel
theorem dX4_lastRefusal_1 : decode cX4_lastRefusal 1 = .ok (.getfield 50, 3) := by decide +kernel
theorem dX4_lastRefusal_4 : decode cX4_lastRefusal 4 = .ok (.ireturn, 1) := by decide +kernel
theorem dX4_roomAt_0 : decode cX4_roomAt 0 = .ok (.iload_n 1, 1) := by decide +kernel
theorem dX4_roomAt_1 : decode cX4_roomAt 1 = .ok (.ifCond .lt 12, 3) := by decide +kernel
theorem dX4_roomAt_4 : decode cX4_roomAt 4 = .ok (.iload_n 1, 1) := by decide +kernel
theorem dX4_roomAt_5 : decode cX4_roomAt 5 = .ok (.aload_n 0, 1) := by decide +kernel
theorem dX4_roomAt_6 : decode cX4_roomAt 6 = .ok (.getfield 14, 3) := by decide +kernel
theorem dX4_roomAt_9 : decode cX4_roomAt 9 = .ok (.arraylength, 1) := by decide +kernel
theorem dX4_roomAt_10 : decode cX4_roomAt 10 = .ok (.if_icmp .lt 13, 3) := by decide +kernel
theorem dX4_roomAt_13 : decode cX4_roomAt 13 = .ok (.new 103, 3) := by decide +kernel
theorem dX4_roomAt_16 : decode cX4_roomAt 16 = .ok (.dup, 1) := by decide +kernel
theorem dX4_roomAt_17 : decode cX4_roomAt 17 = .ok (.ldc 177, 2) := by decide +kernel
theorem dX4_roomAt_19 : decode cX4_roomAt 19 = .ok (.invokespecial 107, 3) := by decide +kernel
theorem dX4_roomAt_22 : decode cX4_roomAt 22 = .ok (.athrow, 1) := by decide +kernel
theorem dX4_roomAt_23 : decode cX4_roomAt 23 = .ok (.aload_n 0, 1) := by decide +kernel
theorem dX4_roomAt_24 : decode cX4_roomAt 24 = .ok (.getfield 14, 3) := by decide +kernel
theorem dX4_roomAt_27 : decode cX4_roomAt 27 = .ok (.iload_n 1, 1) := by decide +kernel
theorem dX4_roomAt_28 : decode cX4_roomAt 28 = .ok (.aaload, 1) := by decide +kernel
theorem dX4_roomAt_29 : decode cX4_roomAt 29 = .ok (.astore_n 2, 1) := by decide +kernel
theorem dX4_roomAt_30 : decode cX4_roomAt 30 = .ok (.aload_n 2, 1) := by decide +kernel
theorem dX4_roomAt_31 : decode cX4_roomAt 31 = .ok (.ifnonnull 13, 3) := by decide +kernel
theorem dX4_roomAt_34 : decode cX4_roomAt 34 = .ok (.new 103, 3) := by decide +kernel
theorem dX4_roomAt_37 : decode cX4_roomAt 37 = .ok (.dup, 1) := by decide +kernel
theorem dX4_roomAt_38 : decode cX4_roomAt 38 = .ok (.ldc 177, 2) := by decide +kernel
theorem dX4_roomAt_40 : decode cX4_roomAt 40 = .ok (.invokespecial 107, 3) := by decide +kernel
theorem dX4_roomAt_43 : decode cX4_roomAt 43 = .ok (.athrow, 1) := by decide +kernel
theorem dX4_roomAt_44 : decode cX4_roomAt 44 = .ok (.aload_n 2, 1) := by decide +kernel
theorem dX4_roomAt_45 : decode cX4_roomAt 45 = .ok (.areturn, 1) := by decide +kernel
theorem dX4_processAt_0 : decode cX4_processAt 0 = .ok (.iload_n 1, 1) := by decide +kernel
theorem dX4_processAt_1 : decode cX4_processAt 1 = .ok (.ifCond .lt 12, 3) := by decide +kernel
theorem dX4_processAt_4 : decode cX4_processAt 4 = .ok (.iload_n 1, 1) := by decide +kernel
theorem dX4_processAt_5 : decode cX4_processAt 5 = .ok (.aload_n 0, 1) := by decide +kernel
theorem dX4_processAt_6 : decode cX4_processAt 6 = .ok (.getfield 24, 3) := by decide +kernel
theorem dX4_processAt_9 : decode cX4_processAt 9 = .ok (.arraylength, 1) := by decide +kernel
theorem dX4_processAt_10 : decode cX4_processAt 10 = .ok (.if_icmp .lt 13, 3) := by decide +kernel
theorem dX4_processAt_13 : decode cX4_processAt 13 = .ok (.new 103, 3) := by decide +kernel
theorem dX4_processAt_16 : decode cX4_processAt 16 = .ok (.dup, 1) := by decide +kernel
theorem dX4_processAt_17 : decode cX4_processAt 17 = .ok (.ldc 179, 2) := by decide +kernel
theorem dX4_processAt_19 : decode cX4_processAt 19 = .ok (.invokespecial 107, 3) := by decide +kernel
theorem dX4_processAt_22 : decode cX4_processAt 22 = .ok (.athrow, 1) := by decide +kernel
theorem dX4_processAt_23 : decode cX4_processAt 23 = .ok (.aload_n 0, 1) := by decide +kernel
theorem dX4_processAt_24 : decode cX4_processAt 24 = .ok (.getfield 24, 3) := by decide +kernel
theorem dX4_processAt_27 : decode cX4_processAt 27 = .ok (.iload_n 1, 1) := by decide +kernel
theorem dX4_processAt_28 : decode cX4_processAt 28 = .ok (.aaload, 1) := by decide +kernel
theorem dX4_processAt_29 : decode cX4_processAt 29 = .ok (.astore_n 2, 1) := by decide +kernel
theorem dX4_processAt_30 : decode cX4_processAt 30 = .ok (.aload_n 2, 1) := by decide +kernel
theorem dX4_processAt_31 : decode cX4_processAt 31 = .ok (.ifnonnull 13, 3) := by decide +kernel
theorem dX4_processAt_34 : decode cX4_processAt 34 = .ok (.new 103, 3) := by decide +kernel
theorem dX4_processAt_37 : decode cX4_processAt 37 = .ok (.dup, 1) := by decide +kernel
theorem dX4_processAt_38 : decode cX4_processAt 38 = .ok (.ldc 179, 2) := by decide +kernel
theorem dX4_processAt_40 : decode cX4_processAt 40 = .ok (.invokespecial 107, 3) := by decide +kernel
theorem dX4_processAt_43 : decode cX4_processAt 43 = .ok (.athrow, 1) := by decide +kernel
theorem dX4_processAt_44 : decode cX4_processAt 44 = .ok (.aload_n 2, 1) := by decide +kernel
theorem dX4_processAt_45 : decode cX4_processAt 45 = .ok (.areturn, 1) := by decide +kernel
theorem dX4_fileAt_0 : decode cX4_fileAt 0 = .ok (.iload_n 1, 1) := by decide +kernel
theorem dX4_fileAt_1 : decode cX4_fileAt 1 = .ok (.ifCond .lt 12, 3) := by decide +kernel
theorem dX4_fileAt_4 : decode cX4_fileAt 4 = .ok (.iload_n 1, 1) := by decide +kernel
theorem dX4_fileAt_5 : decode cX4_fileAt 5 = .ok (.aload_n 0, 1) := by decide +kernel
theorem dX4_fileAt_6 : decode cX4_fileAt 6 = .ok (.getfield 36, 3) := by decide +kernel
theorem dX4_fileAt_9 : decode cX4_fileAt 9 = .ok (.arraylength, 1) := by decide +kernel
theorem dX4_fileAt_10 : decode cX4_fileAt 10 = .ok (.if_icmp .lt 13, 3) := by decide +kernel
theorem dX4_fileAt_13 : decode cX4_fileAt 13 = .ok (.new 103, 3) := by decide +kernel
theorem dX4_fileAt_16 : decode cX4_fileAt 16 = .ok (.dup, 1) := by decide +kernel
theorem dX4_fileAt_17 : decode cX4_fileAt 17 = .ok (.ldc 181, 2) := by decide +kernel
theorem dX4_fileAt_19 : decode cX4_fileAt 19 = .ok (.invokespecial 107, 3) := by decide +kernel
theorem dX4_fileAt_22 : decode cX4_fileAt 22 = .ok (.athrow, 1) := by decide +kernel
theorem dX4_fileAt_23 : decode cX4_fileAt 23 = .ok (.aload_n 0, 1) := by decide +kernel
theorem dX4_fileAt_24 : decode cX4_fileAt 24 = .ok (.getfield 36, 3) := by decide +kernel
theorem dX4_fileAt_27 : decode cX4_fileAt 27 = .ok (.iload_n 1, 1) := by decide +kernel
theorem dX4_fileAt_28 : decode cX4_fileAt 28 = .ok (.aaload, 1) := by decide +kernel
theorem dX4_fileAt_29 : decode cX4_fileAt 29 = .ok (.astore_n 2, 1) := by decide +kernel
theorem dX4_fileAt_30 : decode cX4_fileAt 30 = .ok (.aload_n 2, 1) := by decide +kernel
theorem dX4_fileAt_31 : decode cX4_fileAt 31 = .ok (.ifnonnull 13, 3) := by decide +kernel
theorem dX4_fileAt_34 : decode cX4_fileAt 34 = .ok (.new 103, 3) := by decide +kernel
theorem dX4_fileAt_37 : decode cX4_fileAt 37 = .ok (.dup, 1) := by decide +kernel
theorem dX4_fileAt_38 : decode cX4_fileAt 38 = .ok (.ldc 181, 2) := by decide +kernel
theorem dX4_fileAt_40 : decode cX4_fileAt 40 = .ok (.invokespecial 107, 3) := by decide +kernel
theorem dX4_fileAt_43 : decode cX4_fileAt 43 = .ok (.athrow, 1) := by decide +kernel
theorem dX4_fileAt_44 : decode cX4_fileAt 44 = .ok (.aload_n 2, 1) := by decide +kernel
theorem dX4_fileAt_45 : decode cX4_fileAt 45 = .ok (.areturn, 1) := by decide +kernel
theorem dX4_requireNumber_0 : decode cX4_requireNumber 0 = .ok (.iload_n 0, 1) := by decide +kernel
theorem dX4_requireNumber_1 : decode cX4_requireNumber 1 = .ok (.ifCond .lt 10, 3) := by decide +kernel
theorem dX4_requireNumber_4 : decode cX4_requireNumber 4 = .ok (.iload_n 0, 1) := by decide +kernel
theorem dX4_requireNumber_5 : decode cX4_requireNumber 5 = .ok (.sipush 998, 3) := by decide +kernel
theorem dX4_requireNumber_8 : decode cX4_requireNumber 8 = .ok (.if_icmp .le 13, 3) := by decide +kernel
theorem dX4_requireNumber_11 : decode cX4_requireNumber 11 = .ok (.new 80, 3) := by decide +kernel
theorem dX4_requireNumber_14 : decode cX4_requireNumber 14 = .ok (.dup, 1) := by decide +kernel
theorem dX4_requireNumber_15 : decode cX4_requireNumber 15 = .ok (.ldc 183, 2) := by decide +kernel
theorem dX4_requireNumber_17 : decode cX4_requireNumber 17 = .ok (.invokespecial 84, 3) := by decide +kernel
theorem dX4_requireNumber_20 : decode cX4_requireNumber 20 = .ok (.athrow, 1) := by decide +kernel
theorem dX4_requireNumber_21 : decode cX4_requireNumber 21 = .ok (.return_, 1) := by decide +kernel
theorem dX4_refuse_0 : decode cX4_refuse 0 = .ok (.aload_n 0, 1) := by decide +kernel
theorem dX4_refuse_1 : decode cX4_refuse 1 = .ok (.dup, 1) := by decide +kernel
theorem dX4_refuse_2 : decode cX4_refuse 2 = .ok (.getfield 47, 3) := by decide +kernel
theorem dX4_refuse_5 : decode cX4_refuse 5 = .ok (.iconst 1, 1) := by decide +kernel
theorem dX4_refuse_6 : decode cX4_refuse 6 = .ok (.iadd, 1) := by decide +kernel
theorem dX4_refuse_7 : decode cX4_refuse 7 = .ok (.putfield 47, 3) := by decide +kernel
theorem dX4_refuse_10 : decode cX4_refuse 10 = .ok (.aload_n 0, 1) := by decide +kernel
theorem dX4_refuse_11 : decode cX4_refuse 11 = .ok (.iload_n 1, 1) := by decide +kernel
theorem dX4_refuse_12 : decode cX4_refuse 12 = .ok (.putfield 50, 3) := by decide +kernel
theorem dX4_refuse_15 : decode cX4_refuse 15 = .ok (.iload_n 1, 1) := by decide +kernel
theorem dX4_refuse_16 : decode cX4_refuse 16 = .ok (.ireturn, 1) := by decide +kernel
theorem dX4_seenFrom_0 : decode cX4_seenFrom 0 = .ok (.iload_n 2, 1) := by decide +kernel
theorem dX4_seenFrom_1 : decode cX4_seenFrom 1 = .ok (.istore_n 3, 1) := by decide +kernel
theorem dX4_seenFrom_2 : decode cX4_seenFrom 2 = .ok (.aload_n 0, 1) := by decide +kernel
theorem dX4_seenFrom_3 : decode cX4_seenFrom 3 = .ok (.getfield 14, 3) := by decide +kernel
theorem dX4_seenFrom_6 : decode cX4_seenFrom 6 = .ok (.astore 4, 2) := by decide +kernel
theorem dX4_seenFrom_8 : decode cX4_seenFrom 8 = .ok (.aload 4, 2) := by decide +kernel
theorem dX4_seenFrom_10 : decode cX4_seenFrom 10 = .ok (.arraylength, 1) := by decide +kernel
theorem dX4_seenFrom_11 : decode cX4_seenFrom 11 = .ok (.istore 5, 2) := by decide +kernel
theorem dX4_seenFrom_13 : decode cX4_seenFrom 13 = .ok (.iconst 0, 1) := by decide +kernel
theorem dX4_seenFrom_14 : decode cX4_seenFrom 14 = .ok (.istore 6, 2) := by decide +kernel
theorem dX4_seenFrom_16 : decode cX4_seenFrom 16 = .ok (.iload 6, 2) := by decide +kernel
theorem dX4_seenFrom_18 : decode cX4_seenFrom 18 = .ok (.iload 5, 2) := by decide +kernel
theorem dX4_seenFrom_20 : decode cX4_seenFrom 20 = .ok (.if_icmp .ge 37, 3) := by decide +kernel
theorem dX4_seenFrom_23 : decode cX4_seenFrom 23 = .ok (.aload 4, 2) := by decide +kernel
theorem dX4_seenFrom_25 : decode cX4_seenFrom 25 = .ok (.iload 6, 2) := by decide +kernel
theorem dX4_seenFrom_27 : decode cX4_seenFrom 27 = .ok (.aaload, 1) := by decide +kernel
theorem dX4_seenFrom_28 : decode cX4_seenFrom 28 = .ok (.astore 7, 2) := by decide +kernel
theorem dX4_seenFrom_30 : decode cX4_seenFrom 30 = .ok (.aload 7, 2) := by decide +kernel
theorem dX4_seenFrom_32 : decode cX4_seenFrom 32 = .ok (.ifnull 19, 3) := by decide +kernel
theorem dX4_seenFrom_35 : decode cX4_seenFrom 35 = .ok (.aload_n 1, 1) := by decide +kernel
theorem dX4_seenFrom_36 : decode cX4_seenFrom 36 = .ok (.aload 7, 2) := by decide +kernel
theorem dX4_seenFrom_38 : decode cX4_seenFrom 38 = .ok (.invokestatic 154, 3) := by decide +kernel
theorem dX4_seenFrom_41 : decode cX4_seenFrom 41 = .ok (.ifCond .eq 10, 3) := by decide +kernel
theorem dX4_seenFrom_44 : decode cX4_seenFrom 44 = .ok (.aload 7, 2) := by decide +kernel
theorem dX4_seenFrom_46 : decode cX4_seenFrom 46 = .ok (.iload_n 3, 1) := by decide +kernel
theorem dX4_seenFrom_47 : decode cX4_seenFrom 47 = .ok (.invokevirtual 185, 3) := by decide +kernel
theorem dX4_seenFrom_50 : decode cX4_seenFrom 50 = .ok (.istore_n 3, 1) := by decide +kernel
theorem dX4_seenFrom_51 : decode cX4_seenFrom 51 = .ok (.iinc 6 1, 3) := by decide +kernel
theorem dX4_seenFrom_54 : decode cX4_seenFrom 54 = .ok (.goto (-38), 3) := by decide +kernel
theorem dX4_seenFrom_57 : decode cX4_seenFrom 57 = .ok (.iload_n 3, 1) := by decide +kernel
theorem dX4_seenFrom_58 : decode cX4_seenFrom 58 = .ok (.ireturn, 1) := by decide +kernel
theorem dX4_countOf_0 : decode cX4_countOf 0 = .ok (.iconst 0, 1) := by decide +kernel
theorem dX4_countOf_1 : decode cX4_countOf 1 = .ok (.istore_n 1, 1) := by decide +kernel
theorem dX4_countOf_2 : decode cX4_countOf 2 = .ok (.aload_n 0, 1) := by decide +kernel
theorem dX4_countOf_3 : decode cX4_countOf 3 = .ok (.astore_n 2, 1) := by decide +kernel
theorem dX4_countOf_4 : decode cX4_countOf 4 = .ok (.aload_n 2, 1) := by decide +kernel
theorem dX4_countOf_5 : decode cX4_countOf 5 = .ok (.ifnull 14, 3) := by decide +kernel
theorem dX4_countOf_8 : decode cX4_countOf 8 = .ok (.iinc 1 1, 3) := by decide +kernel
theorem dX4_countOf_11 : decode cX4_countOf 11 = .ok (.aload_n 2, 1) := by decide +kernel
theorem dX4_countOf_12 : decode cX4_countOf 12 = .ok (.getfield 188, 3) := by decide +kernel
theorem dX4_countOf_15 : decode cX4_countOf 15 = .ok (.astore_n 2, 1) := by decide +kernel
theorem dX4_countOf_16 : decode cX4_countOf 16 = .ok (.goto (-12), 3) := by decide +kernel
theorem dX4_countOf_19 : decode cX4_countOf 19 = .ok (.iload_n 1, 1) := by decide +kernel
theorem dX4_countOf_20 : decode cX4_countOf 20 = .ok (.ireturn, 1) := by decide +kernel
theorem dX4_anyMeet_0 : decode cX4_anyMeet 0 = .ok (.aload_n 0, 1) := by decide +kernel
theorem dX4_anyMeet_1 : decode cX4_anyMeet 1 = .ok (.astore_n 1, 1) := by decide +kernel
theorem dX4_anyMeet_2 : decode cX4_anyMeet 2 = .ok (.aload_n 1, 1) := by decide +kernel
theorem dX4_anyMeet_3 : decode cX4_anyMeet 3 = .ok (.ifnull 38, 3) := by decide +kernel
theorem dX4_anyMeet_6 : decode cX4_anyMeet 6 = .ok (.aload_n 1, 1) := by decide +kernel
theorem dX4_anyMeet_7 : decode cX4_anyMeet 7 = .ok (.getfield 188, 3) := by decide +kernel
theorem dX4_anyMeet_10 : decode cX4_anyMeet 10 = .ok (.astore_n 2, 1) := by decide +kernel
theorem dX4_anyMeet_11 : decode cX4_anyMeet 11 = .ok (.aload_n 2, 1) := by decide +kernel
theorem dX4_anyMeet_12 : decode cX4_anyMeet 12 = .ok (.ifnull 21, 3) := by decide +kernel
theorem dX4_anyMeet_15 : decode cX4_anyMeet 15 = .ok (.aload_n 1, 1) := by decide +kernel
theorem dX4_anyMeet_16 : decode cX4_anyMeet 16 = .ok (.aload_n 2, 1) := by decide +kernel
theorem dX4_anyMeet_17 : decode cX4_anyMeet 17 = .ok (.invokevirtual 191, 3) := by decide +kernel
theorem dX4_anyMeet_20 : decode cX4_anyMeet 20 = .ok (.ifCond .eq 5, 3) := by decide +kernel
theorem dX4_anyMeet_23 : decode cX4_anyMeet 23 = .ok (.iconst 1, 1) := by decide +kernel
theorem dX4_anyMeet_24 : decode cX4_anyMeet 24 = .ok (.ireturn, 1) := by decide +kernel
theorem dX4_anyMeet_25 : decode cX4_anyMeet 25 = .ok (.aload_n 2, 1) := by decide +kernel
theorem dX4_anyMeet_26 : decode cX4_anyMeet 26 = .ok (.getfield 188, 3) := by decide +kernel
theorem dX4_anyMeet_29 : decode cX4_anyMeet 29 = .ok (.astore_n 2, 1) := by decide +kernel
theorem dX4_anyMeet_30 : decode cX4_anyMeet 30 = .ok (.goto (-19), 3) := by decide +kernel
theorem dX4_anyMeet_33 : decode cX4_anyMeet 33 = .ok (.aload_n 1, 1) := by decide +kernel
theorem dX4_anyMeet_34 : decode cX4_anyMeet 34 = .ok (.getfield 188, 3) := by decide +kernel
theorem dX4_anyMeet_37 : decode cX4_anyMeet 37 = .ok (.astore_n 1, 1) := by decide +kernel
theorem dX4_anyMeet_38 : decode cX4_anyMeet 38 = .ok (.goto (-36), 3) := by decide +kernel
theorem dX4_anyMeet_41 : decode cX4_anyMeet 41 = .ok (.iconst 0, 1) := by decide +kernel
theorem dX4_anyMeet_42 : decode cX4_anyMeet 42 = .ok (.ireturn, 1) := by decide +kernel
theorem dX4_allLeadOut_0 : decode cX4_allLeadOut 0 = .ok (.aload_n 0, 1) := by decide +kernel
theorem dX4_allLeadOut_1 : decode cX4_allLeadOut 1 = .ok (.astore_n 2, 1) := by decide +kernel
theorem dX4_allLeadOut_2 : decode cX4_allLeadOut 2 = .ok (.aload_n 2, 1) := by decide +kernel
theorem dX4_allLeadOut_3 : decode cX4_allLeadOut 3 = .ok (.ifnull 43, 3) := by decide +kernel
theorem dX4_allLeadOut_6 : decode cX4_allLeadOut 6 = .ok (.iconst 0, 1) := by decide +kernel
theorem dX4_allLeadOut_7 : decode cX4_allLeadOut 7 = .ok (.istore_n 3, 1) := by decide +kernel
theorem dX4_allLeadOut_8 : decode cX4_allLeadOut 8 = .ok (.iload_n 3, 1) := by decide +kernel
theorem dX4_allLeadOut_9 : decode cX4_allLeadOut 9 = .ok (.aload_n 2, 1) := by decide +kernel
theorem dX4_allLeadOut_10 : decode cX4_allLeadOut 10 = .ok (.getfield 194, 3) := by decide +kernel
theorem dX4_allLeadOut_13 : decode cX4_allLeadOut 13 = .ok (.if_icmp .ge 25, 3) := by decide +kernel
theorem dX4_allLeadOut_16 : decode cX4_allLeadOut 16 = .ok (.aload_n 1, 1) := by decide +kernel
theorem dX4_allLeadOut_17 : decode cX4_allLeadOut 17 = .ok (.aload_n 2, 1) := by decide +kernel
theorem dX4_allLeadOut_18 : decode cX4_allLeadOut 18 = .ok (.getfield 130, 3) := by decide +kernel
theorem dX4_allLeadOut_21 : decode cX4_allLeadOut 21 = .ok (.iload_n 3, 1) := by decide +kernel
theorem dX4_allLeadOut_22 : decode cX4_allLeadOut 22 = .ok (.iadd, 1) := by decide +kernel
theorem dX4_allLeadOut_23 : decode cX4_allLeadOut 23 = .ok (.invokestatic 132, 3) := by decide +kernel
theorem dX4_allLeadOut_26 : decode cX4_allLeadOut 26 = .ok (.iconst (-1), 1) := by decide +kernel
theorem dX4_allLeadOut_27 : decode cX4_allLeadOut 27 = .ok (.if_icmp .ne 5, 3) := by decide +kernel
theorem dX4_allLeadOut_30 : decode cX4_allLeadOut 30 = .ok (.iconst 0, 1) := by decide +kernel
theorem dX4_allLeadOut_31 : decode cX4_allLeadOut 31 = .ok (.ireturn, 1) := by decide +kernel
theorem dX4_allLeadOut_32 : decode cX4_allLeadOut 32 = .ok (.iinc 3 1, 3) := by decide +kernel
theorem dX4_allLeadOut_35 : decode cX4_allLeadOut 35 = .ok (.goto (-27), 3) := by decide +kernel
theorem dX4_allLeadOut_38 : decode cX4_allLeadOut 38 = .ok (.aload_n 2, 1) := by decide +kernel
theorem dX4_allLeadOut_39 : decode cX4_allLeadOut 39 = .ok (.getfield 188, 3) := by decide +kernel
theorem dX4_allLeadOut_42 : decode cX4_allLeadOut 42 = .ok (.astore_n 2, 1) := by decide +kernel
theorem dX4_allLeadOut_43 : decode cX4_allLeadOut 43 = .ok (.goto (-41), 3) := by decide +kernel
theorem dX4_allLeadOut_46 : decode cX4_allLeadOut 46 = .ok (.iconst 1, 1) := by decide +kernel
theorem dX4_allLeadOut_47 : decode cX4_allLeadOut 47 = .ok (.ireturn, 1) := by decide +kernel
theorem dX4_leadOut_0 : decode cX4_leadOut 0 = .ok (.iload_n 1, 1) := by decide +kernel
theorem dX4_leadOut_1 : decode cX4_leadOut 1 = .ok (.istore_n 2, 1) := by decide +kernel
theorem dX4_leadOut_2 : decode cX4_leadOut 2 = .ok (.aload_n 0, 1) := by decide +kernel
theorem dX4_leadOut_3 : decode cX4_leadOut 3 = .ok (.astore_n 3, 1) := by decide +kernel
theorem dX4_leadOut_4 : decode cX4_leadOut 4 = .ok (.aload_n 3, 1) := by decide +kernel
theorem dX4_leadOut_5 : decode cX4_leadOut 5 = .ok (.ifnull 22, 3) := by decide +kernel
theorem dX4_leadOut_8 : decode cX4_leadOut 8 = .ok (.iload_n 2, 1) := by decide +kernel
theorem dX4_leadOut_9 : decode cX4_leadOut 9 = .ok (.iconst (-1), 1) := by decide +kernel
theorem dX4_leadOut_10 : decode cX4_leadOut 10 = .ok (.if_icmp .eq 17, 3) := by decide +kernel
theorem dX4_leadOut_13 : decode cX4_leadOut 13 = .ok (.aload_n 3, 1) := by decide +kernel
theorem dX4_leadOut_14 : decode cX4_leadOut 14 = .ok (.iload_n 2, 1) := by decide +kernel
theorem dX4_leadOut_15 : decode cX4_leadOut 15 = .ok (.invokevirtual 197, 3) := by decide +kernel
theorem dX4_leadOut_18 : decode cX4_leadOut 18 = .ok (.istore_n 2, 1) := by decide +kernel
theorem dX4_leadOut_19 : decode cX4_leadOut 19 = .ok (.aload_n 3, 1) := by decide +kernel
theorem dX4_leadOut_20 : decode cX4_leadOut 20 = .ok (.getfield 100, 3) := by decide +kernel
theorem dX4_leadOut_23 : decode cX4_leadOut 23 = .ok (.astore_n 3, 1) := by decide +kernel
theorem dX4_leadOut_24 : decode cX4_leadOut 24 = .ok (.goto (-20), 3) := by decide +kernel
theorem dX4_leadOut_27 : decode cX4_leadOut 27 = .ok (.iload_n 2, 1) := by decide +kernel
theorem dX4_leadOut_28 : decode cX4_leadOut 28 = .ok (.ireturn, 1) := by decide +kernel
theorem dX4_isOrIsInside_0 : decode cX4_isOrIsInside 0 = .ok (.aload_n 0, 1) := by decide +kernel
theorem dX4_isOrIsInside_1 : decode cX4_isOrIsInside 1 = .ok (.astore_n 2, 1) := by decide +kernel
theorem dX4_isOrIsInside_2 : decode cX4_isOrIsInside 2 = .ok (.aload_n 2, 1) := by decide +kernel
theorem dX4_isOrIsInside_3 : decode cX4_isOrIsInside 3 = .ok (.ifnull 18, 3) := by decide +kernel
theorem dX4_isOrIsInside_6 : decode cX4_isOrIsInside 6 = .ok (.aload_n 2, 1) := by decide +kernel
theorem dX4_isOrIsInside_7 : decode cX4_isOrIsInside 7 = .ok (.aload_n 1, 1) := by decide +kernel
theorem dX4_isOrIsInside_8 : decode cX4_isOrIsInside 8 = .ok (.if_acmp .ne 5, 3) := by decide +kernel
theorem dX4_isOrIsInside_11 : decode cX4_isOrIsInside 11 = .ok (.iconst 1, 1) := by decide +kernel
theorem dX4_isOrIsInside_12 : decode cX4_isOrIsInside 12 = .ok (.ireturn, 1) := by decide +kernel
theorem dX4_isOrIsInside_13 : decode cX4_isOrIsInside 13 = .ok (.aload_n 2, 1) := by decide +kernel
theorem dX4_isOrIsInside_14 : decode cX4_isOrIsInside 14 = .ok (.getfield 100, 3) := by decide +kernel
theorem dX4_isOrIsInside_17 : decode cX4_isOrIsInside 17 = .ok (.astore_n 2, 1) := by decide +kernel
theorem dX4_isOrIsInside_18 : decode cX4_isOrIsInside 18 = .ok (.goto (-16), 3) := by decide +kernel
theorem dX4_isOrIsInside_21 : decode cX4_isOrIsInside 21 = .ok (.iconst 0, 1) := by decide +kernel
theorem dX4_isOrIsInside_22 : decode cX4_isOrIsInside 22 = .ok (.ireturn, 1) := by decide +kernel
theorem dX4_numberOrNone_0 : decode cX4_numberOrNone 0 = .ok (.aload_n 0, 1) := by decide +kernel
theorem dX4_numberOrNone_1 : decode cX4_numberOrNone 1 = .ok (.ifnonnull 7, 3) := by decide +kernel
theorem dX4_numberOrNone_4 : decode cX4_numberOrNone 4 = .ok (.iconst (-1), 1) := by decide +kernel
theorem dX4_numberOrNone_5 : decode cX4_numberOrNone 5 = .ok (.goto 7, 3) := by decide +kernel
theorem dX4_numberOrNone_8 : decode cX4_numberOrNone 8 = .ok (.aload_n 0, 1) := by decide +kernel
theorem dX4_numberOrNone_9 : decode cX4_numberOrNone 9 = .ok (.getfield 75, 3) := by decide +kernel
theorem dX4_numberOrNone_12 : decode cX4_numberOrNone 12 = .ok (.ireturn, 1) := by decide +kernel
theorem dX5_init_0 : decode cX5_init 0 = .ok (.aload_n 0, 1) := by decide +kernel
theorem dX5_init_1 : decode cX5_init 1 = .ok (.invokespecial 1, 3) := by decide +kernel
theorem dX5_init_4 : decode cX5_init 4 = .ok (.aload_n 0, 1) := by decide +kernel
theorem dX5_init_5 : decode cX5_init 5 = .ok (.iconst 1, 1) := by decide +kernel
theorem dX5_init_6 : decode cX5_init 6 = .ok (.putfield 7, 3) := by decide +kernel
theorem dX5_init_9 : decode cX5_init 9 = .ok (.aload_n 0, 1) := by decide +kernel
theorem dX5_init_10 : decode cX5_init 10 = .ok (.bipush 10, 2) := by decide +kernel
theorem dX5_init_12 : decode cX5_init 12 = .ok (.newarray .int, 2) := by decide +kernel
theorem dX5_init_14 : decode cX5_init 14 = .ok (.putfield 13, 3) := by decide +kernel
theorem dX5_init_17 : decode cX5_init 17 = .ok (.aload_n 0, 1) := by decide +kernel
theorem dX5_init_18 : decode cX5_init 18 = .ok (.bipush 10, 2) := by decide +kernel
theorem dX5_init_20 : decode cX5_init 20 = .ok (.newarray .int, 2) := by decide +kernel
theorem dX5_init_22 : decode cX5_init 22 = .ok (.putfield 17, 3) := by decide +kernel
theorem dX5_init_25 : decode cX5_init 25 = .ok (.aload_n 0, 1) := by decide +kernel
theorem dX5_init_26 : decode cX5_init 26 = .ok (.bipush 10, 2) := by decide +kernel
theorem dX5_init_28 : decode cX5_init 28 = .ok (.newarray .int, 2) := by decide +kernel
theorem dX5_init_30 : decode cX5_init 30 = .ok (.putfield 20, 3) := by decide +kernel
theorem dX5_init_33 : decode cX5_init 33 = .ok (.aload_n 0, 1) := by decide +kernel
theorem dX5_init_34 : decode cX5_init 34 = .ok (.bipush 33, 2) := by decide +kernel
theorem dX5_init_36 : decode cX5_init 36 = .ok (.newarray .int, 2) := by decide +kernel
theorem dX5_init_38 : decode cX5_init 38 = .ok (.putfield 23, 3) := by decide +kernel
theorem dX5_init_41 : decode cX5_init 41 = .ok (.aload_n 0, 1) := by decide +kernel
theorem dX5_init_42 : decode cX5_init 42 = .ok (.bipush 33, 2) := by decide +kernel
theorem dX5_init_44 : decode cX5_init 44 = .ok (.newarray .int, 2) := by decide +kernel
theorem dX5_init_46 : decode cX5_init 46 = .ok (.putfield 26, 3) := by decide +kernel
theorem dX5_init_49 : decode cX5_init 49 = .ok (.aload_n 0, 1) := by decide +kernel
theorem dX5_init_50 : decode cX5_init 50 = .ok (.bipush 33, 2) := by decide +kernel
theorem dX5_init_52 : decode cX5_init 52 = .ok (.newarray .int, 2) := by decide +kernel
theorem dX5_init_54 : decode cX5_init 54 = .ok (.putfield 29, 3) := by decide +kernel
theorem dX5_init_57 : decode cX5_init 57 = .ok (.aload_n 0, 1) := by decide +kernel
theorem dX5_init_58 : decode cX5_init 58 = .ok (.iconst 1, 1) := by decide +kernel
theorem dX5_init_59 : decode cX5_init 59 = .ok (.putfield 32, 3) := by decide +kernel
theorem dX5_init_62 : decode cX5_init 62 = .ok (.aload_n 0, 1) := by decide +kernel
theorem dX5_init_63 : decode cX5_init 63 = .ok (.bipush 12, 2) := by decide +kernel
theorem dX5_init_65 : decode cX5_init 65 = .ok (.newarray .int, 2) := by decide +kernel
theorem dX5_init_67 : decode cX5_init 67 = .ok (.putfield 35, 3) := by decide +kernel
theorem dX5_init_70 : decode cX5_init 70 = .ok (.aload_n 0, 1) := by decide +kernel
theorem dX5_init_71 : decode cX5_init 71 = .ok (.bipush 12, 2) := by decide +kernel
theorem dX5_init_73 : decode cX5_init 73 = .ok (.newarray .int, 2) := by decide +kernel
theorem dX5_init_75 : decode cX5_init 75 = .ok (.putfield 38, 3) := by decide +kernel
theorem dX5_init_78 : decode cX5_init 78 = .ok (.aload_n 0, 1) := by decide +kernel
theorem dX5_init_79 : decode cX5_init 79 = .ok (.bipush 12, 2) := by decide +kernel
theorem dX5_init_81 : decode cX5_init 81 = .ok (.newarray .int, 2) := by decide +kernel
theorem dX5_init_83 : decode cX5_init 83 = .ok (.putfield 41, 3) := by decide +kernel
theorem dX5_init_86 : decode cX5_init 86 = .ok (.aload_n 0, 1) := by decide +kernel
theorem dX5_init_87 : decode cX5_init 87 = .ok (.bipush 20, 2) := by decide +kernel
theorem dX5_init_89 : decode cX5_init 89 = .ok (.newarray .int, 2) := by decide +kernel
theorem dX5_init_91 : decode cX5_init 91 = .ok (.putfield 44, 3) := by decide +kernel
theorem dX5_init_94 : decode cX5_init 94 = .ok (.aload_n 0, 1) := by decide +kernel
theorem dX5_init_95 : decode cX5_init 95 = .ok (.bipush 20, 2) := by decide +kernel
theorem dX5_init_97 : decode cX5_init 97 = .ok (.newarray .int, 2) := by decide +kernel
theorem dX5_init_99 : decode cX5_init 99 = .ok (.putfield 47, 3) := by decide +kernel
theorem dX5_init_102 : decode cX5_init 102 = .ok (.aload_n 0, 1) := by decide +kernel
theorem dX5_init_103 : decode cX5_init 103 = .ok (.getfield 13, 3) := by decide +kernel
theorem dX5_init_106 : decode cX5_init 106 = .ok (.iconst 0, 1) := by decide +kernel
theorem dX5_init_107 : decode cX5_init 107 = .ok (.iconst (-1), 1) := by decide +kernel
theorem dX5_init_108 : decode cX5_init 108 = .ok (.iastore, 1) := by decide +kernel
theorem dX5_init_109 : decode cX5_init 109 = .ok (.aload_n 0, 1) := by decide +kernel
theorem dX5_init_110 : decode cX5_init 110 = .ok (.getfield 41, 3) := by decide +kernel
theorem dX5_init_113 : decode cX5_init 113 = .ok (.iconst 0, 1) := by decide +kernel
theorem dX5_init_114 : decode cX5_init 114 = .ok (.bipush 15, 2) := by decide +kernel
theorem dX5_init_116 : decode cX5_init 116 = .ok (.iastore, 1) := by decide +kernel
theorem dX5_init_117 : decode cX5_init 117 = .ok (.return_, 1) := by decide +kernel
theorem dX5_thrown_0 : decode cX5_thrown 0 = .ok (.aload_n 0, 1) := by decide +kernel
theorem dX5_thrown_1 : decode cX5_thrown 1 = .ok (.getfield 50, 3) := by decide +kernel
theorem dX5_thrown_4 : decode cX5_thrown 4 = .ok (.ireturn, 1) := by decide +kernel
theorem dX5_refused_0 : decode cX5_refused 0 = .ok (.aload_n 0, 1) := by decide +kernel
theorem dX5_refused_1 : decode cX5_refused 1 = .ok (.iload_n 1, 1) := by decide +kernel
theorem dX5_refused_2 : decode cX5_refused 2 = .ok (.putfield 50, 3) := by decide +kernel
theorem dX5_refused_5 : decode cX5_refused 5 = .ok (.iload_n 1, 1) := by decide +kernel
theorem dX5_refused_6 : decode cX5_refused 6 = .ok (.ifCond .eq 7, 3) := by decide +kernel
theorem dX5_refused_9 : decode cX5_refused 9 = .ok (.iconst 1, 1) := by decide +kernel
theorem dX5_refused_10 : decode cX5_refused 10 = .ok (.goto 4, 3) := by decide +kernel
theorem dX5_refused_13 : decode cX5_refused 13 = .ok (.iconst 0, 1) := by decide +kernel
theorem dX5_refused_14 : decode cX5_refused 14 = .ok (.ireturn, 1) := by decide +kernel
theorem dX5_fine_0 : decode cX5_fine 0 = .ok (.aload_n 0, 1) := by decide +kernel
theorem dX5_fine_1 : decode cX5_fine 1 = .ok (.iconst 0, 1) := by decide +kernel
theorem dX5_fine_2 : decode cX5_fine 2 = .ok (.putfield 50, 3) := by decide +kernel
theorem dX5_fine_5 : decode cX5_fine 5 = .ok (.iload_n 1, 1) := by decide +kernel
theorem dX5_fine_6 : decode cX5_fine 6 = .ok (.ireturn, 1) := by decide +kernel
theorem dX5_told_0 : decode cX5_told 0 = .ok (.aload_n 0, 1) := by decide +kernel
theorem dX5_told_1 : decode cX5_told 1 = .ok (.dup, 1) := by decide +kernel
theorem dX5_told_2 : decode cX5_told 2 = .ok (.getfield 53, 3) := by decide +kernel
theorem dX5_told_5 : decode cX5_told 5 = .ok (.iconst 1, 1) := by decide +kernel
theorem dX5_told_6 : decode cX5_told 6 = .ok (.iadd, 1) := by decide +kernel
theorem dX5_told_7 : decode cX5_told 7 = .ok (.putfield 53, 3) := by decide +kernel
theorem dX5_told_10 : decode cX5_told 10 = .ok (.aload_n 0, 1) := by decide +kernel
theorem dX5_told_11 : decode cX5_told 11 = .ok (.iload_n 1, 1) := by decide +kernel
theorem dX5_told_12 : decode cX5_told 12 = .ok (.putfield 56, 3) := by decide +kernel
theorem dX5_told_15 : decode cX5_told 15 = .ok (.iload_n 1, 1) := by decide +kernel
theorem dX5_told_16 : decode cX5_told 16 = .ok (.ireturn, 1) := by decide +kernel
theorem dX5_in_0 : decode cX5_in 0 = .ok (.iload_n 0, 1) := by decide +kernel
theorem dX5_in_1 : decode cX5_in 1 = .ok (.iload_n 1, 1) := by decide +kernel
theorem dX5_in_2 : decode cX5_in 2 = .ok (.if_icmp .lt 12, 3) := by decide +kernel
theorem dX5_in_5 : decode cX5_in 5 = .ok (.iload_n 0, 1) := by decide +kernel
theorem dX5_in_6 : decode cX5_in 6 = .ok (.iload_n 2, 1) := by decide +kernel
theorem dX5_in_7 : decode cX5_in 7 = .ok (.if_icmp .gt 7, 3) := by decide +kernel
theorem dX5_in_10 : decode cX5_in 10 = .ok (.iconst 1, 1) := by decide +kernel
theorem dX5_in_11 : decode cX5_in 11 = .ok (.goto 4, 3) := by decide +kernel
theorem dX5_in_14 : decode cX5_in 14 = .ok (.iconst 0, 1) := by decide +kernel
theorem dX5_in_15 : decode cX5_in 15 = .ok (.ireturn, 1) := by decide +kernel
theorem dX5_isRoom_0 : decode cX5_isRoom 0 = .ok (.iload_n 1, 1) := by decide +kernel
theorem dX5_isRoom_1 : decode cX5_isRoom 1 = .ok (.iconst 0, 1) := by decide +kernel
theorem dX5_isRoom_2 : decode cX5_isRoom 2 = .ok (.aload_n 0, 1) := by decide +kernel
theorem dX5_isRoom_3 : decode cX5_isRoom 3 = .ok (.getfield 7, 3) := by decide +kernel
theorem dX5_isRoom_6 : decode cX5_isRoom 6 = .ok (.iconst 1, 1) := by decide +kernel
theorem dX5_isRoom_7 : decode cX5_isRoom 7 = .ok (.isub, 1) := by decide +kernel
theorem dX5_isRoom_8 : decode cX5_isRoom 8 = .ok (.invokestatic 59, 3) := by decide +kernel
theorem dX5_isRoom_11 : decode cX5_isRoom 11 = .ok (.ireturn, 1) := by decide +kernel
theorem dX5_isProcess_0 : decode cX5_isProcess 0 = .ok (.iload_n 1, 1) := by decide +kernel
theorem dX5_isProcess_1 : decode cX5_isProcess 1 = .ok (.iconst 0, 1) := by decide +kernel
theorem dX5_isProcess_2 : decode cX5_isProcess 2 = .ok (.aload_n 0, 1) := by decide +kernel
theorem dX5_isProcess_3 : decode cX5_isProcess 3 = .ok (.getfield 32, 3) := by decide +kernel
theorem dX5_isProcess_6 : decode cX5_isProcess 6 = .ok (.iconst 1, 1) := by decide +kernel
theorem dX5_isProcess_7 : decode cX5_isProcess 7 = .ok (.isub, 1) := by decide +kernel
theorem dX5_isProcess_8 : decode cX5_isProcess 8 = .ok (.invokestatic 59, 3) := by decide +kernel
theorem dX5_isProcess_11 : decode cX5_isProcess 11 = .ok (.ireturn, 1) := by decide +kernel
theorem dX5_isFile_0 : decode cX5_isFile 0 = .ok (.iload_n 1, 1) := by decide +kernel
theorem dX5_isFile_1 : decode cX5_isFile 1 = .ok (.iconst 0, 1) := by decide +kernel
theorem dX5_isFile_2 : decode cX5_isFile 2 = .ok (.aload_n 0, 1) := by decide +kernel
theorem dX5_isFile_3 : decode cX5_isFile 3 = .ok (.getfield 63, 3) := by decide +kernel
theorem dX5_isFile_6 : decode cX5_isFile 6 = .ok (.iconst 1, 1) := by decide +kernel
theorem dX5_isFile_7 : decode cX5_isFile 7 = .ok (.isub, 1) := by decide +kernel
theorem dX5_isFile_8 : decode cX5_isFile 8 = .ok (.invokestatic 59, 3) := by decide +kernel
theorem dX5_isFile_11 : decode cX5_isFile 11 = .ok (.ireturn, 1) := by decide +kernel
theorem dX5_isNumber_0 : decode cX5_isNumber 0 = .ok (.iload_n 0, 1) := by decide +kernel
theorem dX5_isNumber_1 : decode cX5_isNumber 1 = .ok (.iconst 0, 1) := by decide +kernel
theorem dX5_isNumber_2 : decode cX5_isNumber 2 = .ok (.sipush 998, 3) := by decide +kernel
theorem dX5_isNumber_5 : decode cX5_isNumber 5 = .ok (.invokestatic 59, 3) := by decide +kernel
theorem dX5_isNumber_8 : decode cX5_isNumber 8 = .ok (.ireturn, 1) := by decide +kernel
theorem dX5_makeRoom_0 : decode cX5_makeRoom 0 = .ok (.aload_n 0, 1) := by decide +kernel
theorem dX5_makeRoom_1 : decode cX5_makeRoom 1 = .ok (.aload_n 0, 1) := by decide +kernel
theorem dX5_makeRoom_2 : decode cX5_makeRoom 2 = .ok (.iload_n 1, 1) := by decide +kernel
theorem dX5_makeRoom_3 : decode cX5_makeRoom 3 = .ok (.invokevirtual 66, 3) := by decide +kernel
theorem dX5_makeRoom_6 : decode cX5_makeRoom 6 = .ok (.ifCond .ne 7, 3) := by decide +kernel
theorem dX5_makeRoom_9 : decode cX5_makeRoom 9 = .ok (.iconst 1, 1) := by decide +kernel
theorem dX5_makeRoom_10 : decode cX5_makeRoom 10 = .ok (.goto 17, 3) := by decide +kernel
theorem dX5_makeRoom_13 : decode cX5_makeRoom 13 = .ok (.aload_n 0, 1) := by decide +kernel
theorem dX5_makeRoom_14 : decode cX5_makeRoom 14 = .ok (.getfield 7, 3) := by decide +kernel
theorem dX5_makeRoom_17 : decode cX5_makeRoom 17 = .ok (.bipush 10, 2) := by decide +kernel
theorem dX5_makeRoom_19 : decode cX5_makeRoom 19 = .ok (.if_icmp .ne 7, 3) := by decide +kernel
theorem dX5_makeRoom_22 : decode cX5_makeRoom 22 = .ok (.iconst 2, 1) := by decide +kernel
theorem dX5_makeRoom_23 : decode cX5_makeRoom 23 = .ok (.goto 4, 3) := by decide +kernel
theorem dX5_makeRoom_26 : decode cX5_makeRoom 26 = .ok (.iconst 0, 1) := by decide +kernel
theorem dX5_makeRoom_27 : decode cX5_makeRoom 27 = .ok (.invokevirtual 70, 3) := by decide +kernel
theorem dX5_makeRoom_30 : decode cX5_makeRoom 30 = .ok (.ifCond .eq 5, 3) := by decide +kernel
theorem dX5_makeRoom_33 : decode cX5_makeRoom 33 = .ok (.iconst 0, 1) := by decide +kernel
theorem dX5_makeRoom_34 : decode cX5_makeRoom 34 = .ok (.ireturn, 1) := by decide +kernel
theorem dX5_makeRoom_35 : decode cX5_makeRoom 35 = .ok (.aload_n 0, 1) := by decide +kernel
theorem dX5_makeRoom_36 : decode cX5_makeRoom 36 = .ok (.getfield 13, 3) := by decide +kernel
theorem dX5_makeRoom_39 : decode cX5_makeRoom 39 = .ok (.aload_n 0, 1) := by decide +kernel
theorem dX5_makeRoom_40 : decode cX5_makeRoom 40 = .ok (.getfield 7, 3) := by decide +kernel
theorem dX5_makeRoom_43 : decode cX5_makeRoom 43 = .ok (.aload_n 0, 1) := by decide +kernel
theorem dX5_makeRoom_44 : decode cX5_makeRoom 44 = .ok (.getfield 35, 3) := by decide +kernel
theorem dX5_makeRoom_47 : decode cX5_makeRoom 47 = .ok (.iload_n 1, 1) := by decide +kernel
theorem dX5_makeRoom_48 : decode cX5_makeRoom 48 = .ok (.iaload, 1) := by decide +kernel
theorem dX5_makeRoom_49 : decode cX5_makeRoom 49 = .ok (.iastore, 1) := by decide +kernel
theorem dX5_makeRoom_50 : decode cX5_makeRoom 50 = .ok (.aload_n 0, 1) := by decide +kernel
theorem dX5_makeRoom_51 : decode cX5_makeRoom 51 = .ok (.getfield 17, 3) := by decide +kernel
theorem dX5_makeRoom_54 : decode cX5_makeRoom 54 = .ok (.aload_n 0, 1) := by decide +kernel
theorem dX5_makeRoom_55 : decode cX5_makeRoom 55 = .ok (.getfield 7, 3) := by decide +kernel
theorem dX5_makeRoom_58 : decode cX5_makeRoom 58 = .ok (.aload_n 0, 1) := by decide +kernel
theorem dX5_makeRoom_59 : decode cX5_makeRoom 59 = .ok (.getfield 38, 3) := by decide +kernel
theorem dX5_makeRoom_62 : decode cX5_makeRoom 62 = .ok (.iload_n 1, 1) := by decide +kernel
theorem dX5_makeRoom_63 : decode cX5_makeRoom 63 = .ok (.iaload, 1) := by decide +kernel
theorem dX5_makeRoom_64 : decode cX5_makeRoom 64 = .ok (.iastore, 1) := by decide +kernel
theorem dX5_makeRoom_65 : decode cX5_makeRoom 65 = .ok (.aload_n 0, 1) := by decide +kernel
theorem dX5_makeRoom_66 : decode cX5_makeRoom 66 = .ok (.getfield 35, 3) := by decide +kernel
theorem dX5_makeRoom_69 : decode cX5_makeRoom 69 = .ok (.iload_n 1, 1) := by decide +kernel
theorem dX5_makeRoom_70 : decode cX5_makeRoom 70 = .ok (.aload_n 0, 1) := by decide +kernel
theorem dX5_makeRoom_71 : decode cX5_makeRoom 71 = .ok (.getfield 7, 3) := by decide +kernel
theorem dX5_makeRoom_74 : decode cX5_makeRoom 74 = .ok (.iastore, 1) := by decide +kernel
theorem dX5_makeRoom_75 : decode cX5_makeRoom 75 = .ok (.aload_n 0, 1) := by decide +kernel
theorem dX5_makeRoom_76 : decode cX5_makeRoom 76 = .ok (.getfield 41, 3) := by decide +kernel
theorem dX5_makeRoom_79 : decode cX5_makeRoom 79 = .ok (.iload_n 1, 1) := by decide +kernel
theorem dX5_makeRoom_80 : decode cX5_makeRoom 80 = .ok (.bipush 15, 2) := by decide +kernel
theorem dX5_makeRoom_82 : decode cX5_makeRoom 82 = .ok (.iastore, 1) := by decide +kernel
theorem dX5_makeRoom_83 : decode cX5_makeRoom 83 = .ok (.aload_n 0, 1) := by decide +kernel
theorem dX5_makeRoom_84 : decode cX5_makeRoom 84 = .ok (.dup, 1) := by decide +kernel
theorem dX5_makeRoom_85 : decode cX5_makeRoom 85 = .ok (.getfield 7, 3) := by decide +kernel
theorem dX5_makeRoom_88 : decode cX5_makeRoom 88 = .ok (.iconst 1, 1) := by decide +kernel
theorem dX5_makeRoom_89 : decode cX5_makeRoom 89 = .ok (.iadd, 1) := by decide +kernel
theorem dX5_makeRoom_90 : decode cX5_makeRoom 90 = .ok (.putfield 7, 3) := by decide +kernel
theorem dX5_makeRoom_93 : decode cX5_makeRoom 93 = .ok (.aload_n 0, 1) := by decide +kernel
theorem dX5_makeRoom_94 : decode cX5_makeRoom 94 = .ok (.getfield 7, 3) := by decide +kernel
theorem dX5_makeRoom_97 : decode cX5_makeRoom 97 = .ok (.iconst 1, 1) := by decide +kernel
theorem dX5_makeRoom_98 : decode cX5_makeRoom 98 = .ok (.isub, 1) := by decide +kernel
theorem dX5_makeRoom_99 : decode cX5_makeRoom 99 = .ok (.ireturn, 1) := by decide +kernel
theorem dX5_line_0 : decode cX5_line 0 = .ok (.iload_n 1, 1) := by decide +kernel
theorem dX5_line_1 : decode cX5_line 1 = .ok (.invokestatic 73, 3) := by decide +kernel
theorem dX5_line_4 : decode cX5_line 4 = .ok (.ifCond .eq 25, 3) := by decide +kernel
theorem dX5_line_7 : decode cX5_line 7 = .ok (.iload_n 2, 1) := by decide +kernel
theorem dX5_line_8 : decode cX5_line 8 = .ok (.invokestatic 73, 3) := by decide +kernel
theorem dX5_line_11 : decode cX5_line 11 = .ok (.ifCond .eq 18, 3) := by decide +kernel
theorem dX5_line_14 : decode cX5_line 14 = .ok (.iload_n 3, 1) := by decide +kernel
theorem dX5_line_15 : decode cX5_line 15 = .ok (.iconst 1, 1) := by decide +kernel
theorem dX5_line_16 : decode cX5_line 16 = .ok (.sipush 999, 3) := by decide +kernel
theorem dX5_line_19 : decode cX5_line 19 = .ok (.invokestatic 59, 3) := by decide +kernel
theorem dX5_line_22 : decode cX5_line 22 = .ok (.ifCond .eq 7, 3) := by decide +kernel
theorem dX5_line_25 : decode cX5_line 25 = .ok (.iconst 1, 1) := by decide +kernel
theorem dX5_line_26 : decode cX5_line 26 = .ok (.goto 4, 3) := by decide +kernel
theorem dX5_line_29 : decode cX5_line 29 = .ok (.iconst 0, 1) := by decide +kernel
theorem dX5_line_30 : decode cX5_line 30 = .ok (.istore 4, 2) := by decide +kernel
theorem dX5_line_32 : decode cX5_line 32 = .ok (.iload 4, 2) := by decide +kernel
theorem dX5_line_34 : decode cX5_line 34 = .ok (.ifCond .eq 25, 3) := by decide +kernel
theorem dX5_line_37 : decode cX5_line 37 = .ok (.iload_n 1, 1) := by decide +kernel
theorem dX5_line_38 : decode cX5_line 38 = .ok (.iload_n 3, 1) := by decide +kernel
theorem dX5_line_39 : decode cX5_line 39 = .ok (.iadd, 1) := by decide +kernel
theorem dX5_line_40 : decode cX5_line 40 = .ok (.sipush 999, 3) := by decide +kernel
theorem dX5_line_43 : decode cX5_line 43 = .ok (.if_icmp .gt 16, 3) := by decide +kernel
theorem dX5_line_46 : decode cX5_line 46 = .ok (.iload_n 2, 1) := by decide +kernel
theorem dX5_line_47 : decode cX5_line 47 = .ok (.iload_n 3, 1) := by decide +kernel
theorem dX5_line_48 : decode cX5_line 48 = .ok (.iadd, 1) := by decide +kernel
theorem dX5_line_49 : decode cX5_line 49 = .ok (.sipush 999, 3) := by decide +kernel
theorem dX5_line_52 : decode cX5_line 52 = .ok (.if_icmp .gt 7, 3) := by decide +kernel
theorem dX5_line_55 : decode cX5_line 55 = .ok (.iconst 1, 1) := by decide +kernel
theorem dX5_line_56 : decode cX5_line 56 = .ok (.goto 4, 3) := by decide +kernel
theorem dX5_line_59 : decode cX5_line 59 = .ok (.iconst 0, 1) := by decide +kernel
theorem dX5_line_60 : decode cX5_line 60 = .ok (.istore 5, 2) := by decide +kernel
theorem dX5_line_62 : decode cX5_line 62 = .ok (.aload_n 0, 1) := by decide +kernel
theorem dX5_line_63 : decode cX5_line 63 = .ok (.iload 5, 2) := by decide +kernel
theorem dX5_line_65 : decode cX5_line 65 = .ok (.ifCond .ne 7, 3) := by decide +kernel
theorem dX5_line_68 : decode cX5_line 68 = .ok (.iconst 1, 1) := by decide +kernel
theorem dX5_line_69 : decode cX5_line 69 = .ok (.goto 16, 3) := by decide +kernel
theorem dX5_line_72 : decode cX5_line 72 = .ok (.aload_n 0, 1) := by decide +kernel
theorem dX5_line_73 : decode cX5_line 73 = .ok (.getfield 76, 3) := by decide +kernel
theorem dX5_line_76 : decode cX5_line 76 = .ok (.iconst 3, 1) := by decide +kernel
theorem dX5_line_77 : decode cX5_line 77 = .ok (.if_icmp .ne 7, 3) := by decide +kernel
theorem dX5_line_80 : decode cX5_line 80 = .ok (.iconst 2, 1) := by decide +kernel
theorem dX5_line_81 : decode cX5_line 81 = .ok (.goto 4, 3) := by decide +kernel
theorem dX5_line_84 : decode cX5_line 84 = .ok (.iconst 0, 1) := by decide +kernel
theorem dX5_line_85 : decode cX5_line 85 = .ok (.invokevirtual 70, 3) := by decide +kernel
theorem dX5_line_88 : decode cX5_line 88 = .ok (.ifCond .eq 5, 3) := by decide +kernel
theorem dX5_line_91 : decode cX5_line 91 = .ok (.iconst 0, 1) := by decide +kernel
theorem dX5_line_92 : decode cX5_line 92 = .ok (.ireturn, 1) := by decide +kernel
theorem dX5_line_93 : decode cX5_line 93 = .ok (.bipush 30, 2) := by decide +kernel
theorem dX5_line_95 : decode cX5_line 95 = .ok (.aload_n 0, 1) := by decide +kernel
theorem dX5_line_96 : decode cX5_line 96 = .ok (.getfield 76, 3) := by decide +kernel
theorem dX5_line_99 : decode cX5_line 99 = .ok (.iadd, 1) := by decide +kernel
theorem dX5_line_100 : decode cX5_line 100 = .ok (.istore 6, 2) := by decide +kernel
theorem dX5_line_102 : decode cX5_line 102 = .ok (.aload_n 0, 1) := by decide +kernel
theorem dX5_line_103 : decode cX5_line 103 = .ok (.getfield 23, 3) := by decide +kernel
theorem dX5_line_106 : decode cX5_line 106 = .ok (.iload 6, 2) := by decide +kernel
theorem dX5_line_108 : decode cX5_line 108 = .ok (.iload_n 1, 1) := by decide +kernel
theorem dX5_line_109 : decode cX5_line 109 = .ok (.iastore, 1) := by decide +kernel
theorem dX5_line_110 : decode cX5_line 110 = .ok (.aload_n 0, 1) := by decide +kernel
theorem dX5_line_111 : decode cX5_line 111 = .ok (.getfield 26, 3) := by decide +kernel
theorem dX5_line_114 : decode cX5_line 114 = .ok (.iload 6, 2) := by decide +kernel
theorem dX5_line_116 : decode cX5_line 116 = .ok (.iload_n 2, 1) := by decide +kernel
theorem dX5_line_117 : decode cX5_line 117 = .ok (.iastore, 1) := by decide +kernel
theorem dX5_line_118 : decode cX5_line 118 = .ok (.aload_n 0, 1) := by decide +kernel
theorem dX5_line_119 : decode cX5_line 119 = .ok (.getfield 29, 3) := by decide +kernel
theorem dX5_line_122 : decode cX5_line 122 = .ok (.iload 6, 2) := by decide +kernel
theorem dX5_line_124 : decode cX5_line 124 = .ok (.iload_n 3, 1) := by decide +kernel
theorem dX5_line_125 : decode cX5_line 125 = .ok (.iastore, 1) := by decide +kernel
theorem dX5_line_126 : decode cX5_line 126 = .ok (.aload_n 0, 1) := by decide +kernel
theorem dX5_line_127 : decode cX5_line 127 = .ok (.dup, 1) := by decide +kernel
theorem dX5_line_128 : decode cX5_line 128 = .ok (.getfield 76, 3) := by decide +kernel
theorem dX5_line_131 : decode cX5_line 131 = .ok (.iconst 1, 1) := by decide +kernel
theorem dX5_line_132 : decode cX5_line 132 = .ok (.iadd, 1) := by decide +kernel
theorem dX5_line_133 : decode cX5_line 133 = .ok (.putfield 76, 3) := by decide +kernel
theorem dX5_line_136 : decode cX5_line 136 = .ok (.aload_n 0, 1) := by decide +kernel
theorem dX5_line_137 : decode cX5_line 137 = .ok (.getfield 76, 3) := by decide +kernel
theorem dX5_line_140 : decode cX5_line 140 = .ok (.ireturn, 1) := by decide +kernel
theorem dX5_mapped_0 : decode cX5_mapped 0 = .ok (.iconst (-1), 1) := by decide +kernel
theorem dX5_mapped_1 : decode cX5_mapped 1 = .ok (.istore_n 3, 1) := by decide +kernel
theorem dX5_mapped_2 : decode cX5_mapped 2 = .ok (.iconst 3, 1) := by decide +kernel
theorem dX5_mapped_3 : decode cX5_mapped 3 = .ok (.iload_n 1, 1) := by decide +kernel
theorem dX5_mapped_4 : decode cX5_mapped 4 = .ok (.imul, 1) := by decide +kernel
theorem dX5_mapped_5 : decode cX5_mapped 5 = .ok (.istore 4, 2) := by decide +kernel
theorem dX5_mapped_7 : decode cX5_mapped 7 = .ok (.iload 4, 2) := by decide +kernel
theorem dX5_mapped_9 : decode cX5_mapped 9 = .ok (.iconst 3, 1) := by decide +kernel
theorem dX5_mapped_10 : decode cX5_mapped 10 = .ok (.iload_n 1, 1) := by decide +kernel
theorem dX5_mapped_11 : decode cX5_mapped 11 = .ok (.imul, 1) := by decide +kernel
theorem dX5_mapped_12 : decode cX5_mapped 12 = .ok (.aload_n 0, 1) := by decide +kernel
theorem dX5_mapped_13 : decode cX5_mapped 13 = .ok (.getfield 20, 3) := by decide +kernel
theorem dX5_mapped_16 : decode cX5_mapped 16 = .ok (.iload_n 1, 1) := by decide +kernel
theorem dX5_mapped_17 : decode cX5_mapped 17 = .ok (.iaload, 1) := by decide +kernel
theorem dX5_mapped_18 : decode cX5_mapped 18 = .ok (.iadd, 1) := by decide +kernel
theorem dX5_mapped_19 : decode cX5_mapped 19 = .ok (.if_icmp .ge 53, 3) := by decide +kernel
theorem dX5_mapped_22 : decode cX5_mapped 22 = .ok (.iload_n 2, 1) := by decide +kernel
theorem dX5_mapped_23 : decode cX5_mapped 23 = .ok (.aload_n 0, 1) := by decide +kernel
theorem dX5_mapped_24 : decode cX5_mapped 24 = .ok (.getfield 23, 3) := by decide +kernel
theorem dX5_mapped_27 : decode cX5_mapped 27 = .ok (.iload 4, 2) := by decide +kernel
theorem dX5_mapped_29 : decode cX5_mapped 29 = .ok (.iaload, 1) := by decide +kernel
theorem dX5_mapped_30 : decode cX5_mapped 30 = .ok (.isub, 1) := by decide +kernel
theorem dX5_mapped_31 : decode cX5_mapped 31 = .ok (.istore 5, 2) := by decide +kernel
theorem dX5_mapped_33 : decode cX5_mapped 33 = .ok (.iload 5, 2) := by decide +kernel
theorem dX5_mapped_35 : decode cX5_mapped 35 = .ok (.iconst 0, 1) := by decide +kernel
theorem dX5_mapped_36 : decode cX5_mapped 36 = .ok (.aload_n 0, 1) := by decide +kernel
theorem dX5_mapped_37 : decode cX5_mapped 37 = .ok (.getfield 29, 3) := by decide +kernel
theorem dX5_mapped_40 : decode cX5_mapped 40 = .ok (.iload 4, 2) := by decide +kernel
theorem dX5_mapped_42 : decode cX5_mapped 42 = .ok (.iaload, 1) := by decide +kernel
theorem dX5_mapped_43 : decode cX5_mapped 43 = .ok (.iconst 1, 1) := by decide +kernel
theorem dX5_mapped_44 : decode cX5_mapped 44 = .ok (.isub, 1) := by decide +kernel
theorem dX5_mapped_45 : decode cX5_mapped 45 = .ok (.invokestatic 59, 3) := by decide +kernel
theorem dX5_mapped_48 : decode cX5_mapped 48 = .ok (.ifCond .eq 16, 3) := by decide +kernel
theorem dX5_mapped_51 : decode cX5_mapped 51 = .ok (.aload_n 0, 1) := by decide +kernel
theorem dX5_mapped_52 : decode cX5_mapped 52 = .ok (.getfield 26, 3) := by decide +kernel
theorem dX5_mapped_55 : decode cX5_mapped 55 = .ok (.iload 4, 2) := by decide +kernel
theorem dX5_mapped_57 : decode cX5_mapped 57 = .ok (.iaload, 1) := by decide +kernel
theorem dX5_mapped_58 : decode cX5_mapped 58 = .ok (.iload 5, 2) := by decide +kernel
theorem dX5_mapped_60 : decode cX5_mapped 60 = .ok (.iadd, 1) := by decide +kernel
theorem dX5_mapped_61 : decode cX5_mapped 61 = .ok (.goto 4, 3) := by decide +kernel
theorem dX5_mapped_64 : decode cX5_mapped 64 = .ok (.iload_n 3, 1) := by decide +kernel
theorem dX5_mapped_65 : decode cX5_mapped 65 = .ok (.istore_n 3, 1) := by decide +kernel
theorem dX5_mapped_66 : decode cX5_mapped 66 = .ok (.iinc 4 1, 3) := by decide +kernel
theorem dX5_mapped_69 : decode cX5_mapped 69 = .ok (.goto (-62), 3) := by decide +kernel
theorem dX5_mapped_72 : decode cX5_mapped 72 = .ok (.iload_n 3, 1) := by decide +kernel
theorem dX5_mapped_73 : decode cX5_mapped 73 = .ok (.ireturn, 1) := by decide +kernel
theorem dX5_led_0 : decode cX5_led 0 = .ok (.iload_n 1, 1) := by decide +kernel
theorem dX5_led_1 : decode cX5_led 1 = .ok (.istore_n 3, 1) := by decide +kernel
theorem dX5_led_2 : decode cX5_led 2 = .ok (.iload_n 2, 1) := by decide +kernel
theorem dX5_led_3 : decode cX5_led 3 = .ok (.istore 4, 2) := by decide +kernel
theorem dX5_led_5 : decode cX5_led 5 = .ok (.iload_n 3, 1) := by decide +kernel
theorem dX5_led_6 : decode cX5_led 6 = .ok (.ifCond .eq 28, 3) := by decide +kernel
theorem dX5_led_9 : decode cX5_led 9 = .ok (.iload 4, 2) := by decide +kernel
theorem dX5_led_11 : decode cX5_led 11 = .ok (.iconst (-1), 1) := by decide +kernel
theorem dX5_led_12 : decode cX5_led 12 = .ok (.if_icmp .eq 22, 3) := by decide +kernel
theorem dX5_led_15 : decode cX5_led 15 = .ok (.aload_n 0, 1) := by decide +kernel
theorem dX5_led_16 : decode cX5_led 16 = .ok (.iload_n 3, 1) := by decide +kernel
theorem dX5_led_17 : decode cX5_led 17 = .ok (.iload 4, 2) := by decide +kernel
theorem dX5_led_19 : decode cX5_led 19 = .ok (.invokevirtual 79, 3) := by decide +kernel
theorem dX5_led_22 : decode cX5_led 22 = .ok (.istore 4, 2) := by decide +kernel
theorem dX5_led_24 : decode cX5_led 24 = .ok (.aload_n 0, 1) := by decide +kernel
theorem dX5_led_25 : decode cX5_led 25 = .ok (.getfield 13, 3) := by decide +kernel
theorem dX5_led_28 : decode cX5_led 28 = .ok (.iload_n 3, 1) := by decide +kernel
theorem dX5_led_29 : decode cX5_led 29 = .ok (.iaload, 1) := by decide +kernel
theorem dX5_led_30 : decode cX5_led 30 = .ok (.istore_n 3, 1) := by decide +kernel
theorem dX5_led_31 : decode cX5_led 31 = .ok (.goto (-26), 3) := by decide +kernel
theorem dX5_led_34 : decode cX5_led 34 = .ok (.iload 4, 2) := by decide +kernel
theorem dX5_led_36 : decode cX5_led 36 = .ok (.ireturn, 1) := by decide +kernel
theorem dX5_meet_0 : decode cX5_meet 0 = .ok (.iload_n 0, 1) := by decide +kernel
theorem dX5_meet_1 : decode cX5_meet 1 = .ok (.iload_n 2, 1) := by decide +kernel
theorem dX5_meet_2 : decode cX5_meet 2 = .ok (.iload_n 3, 1) := by decide +kernel
theorem dX5_meet_3 : decode cX5_meet 3 = .ok (.iadd, 1) := by decide +kernel
theorem dX5_meet_4 : decode cX5_meet 4 = .ok (.if_icmp .ge 14, 3) := by decide +kernel
theorem dX5_meet_7 : decode cX5_meet 7 = .ok (.iload_n 2, 1) := by decide +kernel
theorem dX5_meet_8 : decode cX5_meet 8 = .ok (.iload_n 0, 1) := by decide +kernel
theorem dX5_meet_9 : decode cX5_meet 9 = .ok (.iload_n 1, 1) := by decide +kernel
theorem dX5_meet_10 : decode cX5_meet 10 = .ok (.iadd, 1) := by decide +kernel
theorem dX5_meet_11 : decode cX5_meet 11 = .ok (.if_icmp .ge 7, 3) := by decide +kernel
theorem dX5_meet_14 : decode cX5_meet 14 = .ok (.iconst 1, 1) := by decide +kernel
theorem dX5_meet_15 : decode cX5_meet 15 = .ok (.goto 4, 3) := by decide +kernel
theorem dX5_meet_18 : decode cX5_meet 18 = .ok (.iconst 0, 1) := by decide +kernel
theorem dX5_meet_19 : decode cX5_meet 19 = .ok (.ireturn, 1) := by decide +kernel
theorem dX5_isDraftBad_0 : decode cX5_isDraftBad 0 = .ok (.aload_n 0, 1) := by decide +kernel
theorem dX5_isDraftBad_1 : decode cX5_isDraftBad 1 = .ok (.getfield 76, 3) := by decide +kernel
theorem dX5_isDraftBad_4 : decode cX5_isDraftBad 4 = .ok (.ifCond .ne 7, 3) := by decide +kernel
theorem dX5_isDraftBad_7 : decode cX5_isDraftBad 7 = .ok (.iconst 1, 1) := by decide +kernel
theorem dX5_isDraftBad_8 : decode cX5_isDraftBad 8 = .ok (.goto 4, 3) := by decide +kernel
theorem dX5_isDraftBad_11 : decode cX5_isDraftBad 11 = .ok (.iconst 0, 1) := by decide +kernel
theorem dX5_isDraftBad_12 : decode cX5_isDraftBad 12 = .ok (.istore_n 1, 1) := by decide +kernel
theorem dX5_isDraftBad_13 : decode cX5_isDraftBad 13 = .ok (.bipush 30, 2) := by decide +kernel
theorem dX5_isDraftBad_15 : decode cX5_isDraftBad 15 = .ok (.istore_n 2, 1) := by decide +kernel
theorem dX5_isDraftBad_16 : decode cX5_isDraftBad 16 = .ok (.iload_n 2, 1) := by decide +kernel
theorem dX5_isDraftBad_17 : decode cX5_isDraftBad 17 = .ok (.istore_n 3, 1) := by decide +kernel
theorem dX5_isDraftBad_18 : decode cX5_isDraftBad 18 = .ok (.iload_n 3, 1) := by decide +kernel
theorem dX5_isDraftBad_19 : decode cX5_isDraftBad 19 = .ok (.iload_n 2, 1) := by decide +kernel
theorem dX5_isDraftBad_20 : decode cX5_isDraftBad 20 = .ok (.aload_n 0, 1) := by decide +kernel
theorem dX5_isDraftBad_21 : decode cX5_isDraftBad 21 = .ok (.getfield 76, 3) := by decide +kernel
theorem dX5_isDraftBad_24 : decode cX5_isDraftBad 24 = .ok (.iadd, 1) := by decide +kernel
theorem dX5_isDraftBad_25 : decode cX5_isDraftBad 25 = .ok (.if_icmp .ge 98, 3) := by decide +kernel
theorem dX5_isDraftBad_28 : decode cX5_isDraftBad 28 = .ok (.iload_n 2, 1) := by decide +kernel
theorem dX5_isDraftBad_29 : decode cX5_isDraftBad 29 = .ok (.istore 4, 2) := by decide +kernel
theorem dX5_isDraftBad_31 : decode cX5_isDraftBad 31 = .ok (.iload 4, 2) := by decide +kernel
theorem dX5_isDraftBad_33 : decode cX5_isDraftBad 33 = .ok (.iload_n 3, 1) := by decide +kernel
theorem dX5_isDraftBad_34 : decode cX5_isDraftBad 34 = .ok (.if_icmp .ge 83, 3) := by decide +kernel
theorem dX5_isDraftBad_37 : decode cX5_isDraftBad 37 = .ok (.iload_n 1, 1) := by decide +kernel
theorem dX5_isDraftBad_38 : decode cX5_isDraftBad 38 = .ok (.ifCond .ne 67, 3) := by decide +kernel
theorem dX5_isDraftBad_41 : decode cX5_isDraftBad 41 = .ok (.aload_n 0, 1) := by decide +kernel
theorem dX5_isDraftBad_42 : decode cX5_isDraftBad 42 = .ok (.getfield 23, 3) := by decide +kernel
theorem dX5_isDraftBad_45 : decode cX5_isDraftBad 45 = .ok (.iload_n 3, 1) := by decide +kernel
theorem dX5_isDraftBad_46 : decode cX5_isDraftBad 46 = .ok (.iaload, 1) := by decide +kernel
theorem dX5_isDraftBad_47 : decode cX5_isDraftBad 47 = .ok (.aload_n 0, 1) := by decide +kernel
theorem dX5_isDraftBad_48 : decode cX5_isDraftBad 48 = .ok (.getfield 29, 3) := by decide +kernel
theorem dX5_isDraftBad_51 : decode cX5_isDraftBad 51 = .ok (.iload_n 3, 1) := by decide +kernel
theorem dX5_isDraftBad_52 : decode cX5_isDraftBad 52 = .ok (.iaload, 1) := by decide +kernel
theorem dX5_isDraftBad_53 : decode cX5_isDraftBad 53 = .ok (.aload_n 0, 1) := by decide +kernel
theorem dX5_isDraftBad_54 : decode cX5_isDraftBad 54 = .ok (.getfield 23, 3) := by decide +kernel
theorem dX5_isDraftBad_57 : decode cX5_isDraftBad 57 = .ok (.iload 4, 2) := by decide +kernel
theorem dX5_isDraftBad_59 : decode cX5_isDraftBad 59 = .ok (.iaload, 1) := by decide +kernel
theorem dX5_isDraftBad_60 : decode cX5_isDraftBad 60 = .ok (.aload_n 0, 1) := by decide +kernel
theorem dX5_isDraftBad_61 : decode cX5_isDraftBad 61 = .ok (.getfield 29, 3) := by decide +kernel
theorem dX5_isDraftBad_64 : decode cX5_isDraftBad 64 = .ok (.iload 4, 2) := by decide +kernel
theorem dX5_isDraftBad_66 : decode cX5_isDraftBad 66 = .ok (.iaload, 1) := by decide +kernel
theorem dX5_isDraftBad_67 : decode cX5_isDraftBad 67 = .ok (.invokestatic 83, 3) := by decide +kernel
theorem dX5_isDraftBad_70 : decode cX5_isDraftBad 70 = .ok (.ifCond .ne 35, 3) := by decide +kernel
theorem dX5_isDraftBad_73 : decode cX5_isDraftBad 73 = .ok (.aload_n 0, 1) := by decide +kernel
theorem dX5_isDraftBad_74 : decode cX5_isDraftBad 74 = .ok (.getfield 26, 3) := by decide +kernel
theorem dX5_isDraftBad_77 : decode cX5_isDraftBad 77 = .ok (.iload_n 3, 1) := by decide +kernel
theorem dX5_isDraftBad_78 : decode cX5_isDraftBad 78 = .ok (.iaload, 1) := by decide +kernel
theorem dX5_isDraftBad_79 : decode cX5_isDraftBad 79 = .ok (.aload_n 0, 1) := by decide +kernel
theorem dX5_isDraftBad_80 : decode cX5_isDraftBad 80 = .ok (.getfield 29, 3) := by decide +kernel
theorem dX5_isDraftBad_83 : decode cX5_isDraftBad 83 = .ok (.iload_n 3, 1) := by decide +kernel
theorem dX5_isDraftBad_84 : decode cX5_isDraftBad 84 = .ok (.iaload, 1) := by decide +kernel
theorem dX5_isDraftBad_85 : decode cX5_isDraftBad 85 = .ok (.aload_n 0, 1) := by decide +kernel
theorem dX5_isDraftBad_86 : decode cX5_isDraftBad 86 = .ok (.getfield 26, 3) := by decide +kernel
theorem dX5_isDraftBad_89 : decode cX5_isDraftBad 89 = .ok (.iload 4, 2) := by decide +kernel
theorem dX5_isDraftBad_91 : decode cX5_isDraftBad 91 = .ok (.iaload, 1) := by decide +kernel
theorem dX5_isDraftBad_92 : decode cX5_isDraftBad 92 = .ok (.aload_n 0, 1) := by decide +kernel
theorem dX5_isDraftBad_93 : decode cX5_isDraftBad 93 = .ok (.getfield 29, 3) := by decide +kernel
theorem dX5_isDraftBad_96 : decode cX5_isDraftBad 96 = .ok (.iload 4, 2) := by decide +kernel
theorem dX5_isDraftBad_98 : decode cX5_isDraftBad 98 = .ok (.iaload, 1) := by decide +kernel
theorem dX5_isDraftBad_99 : decode cX5_isDraftBad 99 = .ok (.invokestatic 83, 3) := by decide +kernel
theorem dX5_isDraftBad_102 : decode cX5_isDraftBad 102 = .ok (.ifCond .eq 7, 3) := by decide +kernel
theorem dX5_isDraftBad_105 : decode cX5_isDraftBad 105 = .ok (.iconst 1, 1) := by decide +kernel
theorem dX5_isDraftBad_106 : decode cX5_isDraftBad 106 = .ok (.goto 4, 3) := by decide +kernel
theorem dX5_isDraftBad_109 : decode cX5_isDraftBad 109 = .ok (.iconst 0, 1) := by decide +kernel
theorem dX5_isDraftBad_110 : decode cX5_isDraftBad 110 = .ok (.istore_n 1, 1) := by decide +kernel
theorem dX5_isDraftBad_111 : decode cX5_isDraftBad 111 = .ok (.iinc 4 1, 3) := by decide +kernel
theorem dX5_isDraftBad_114 : decode cX5_isDraftBad 114 = .ok (.goto (-83), 3) := by decide +kernel
theorem dX5_isDraftBad_117 : decode cX5_isDraftBad 117 = .ok (.iinc 3 1, 3) := by decide +kernel
theorem dX5_isDraftBad_120 : decode cX5_isDraftBad 120 = .ok (.goto (-102), 3) := by decide +kernel
theorem dX5_isDraftBad_123 : decode cX5_isDraftBad 123 = .ok (.iload_n 1, 1) := by decide +kernel
theorem dX5_isDraftBad_124 : decode cX5_isDraftBad 124 = .ok (.ireturn, 1) := by decide +kernel
theorem dX5_isDraftLost_0 : decode cX5_isDraftLost 0 = .ok (.iconst 0, 1) := by decide +kernel
theorem dX5_isDraftLost_1 : decode cX5_isDraftLost 1 = .ok (.istore_n 2, 1) := by decide +kernel
theorem dX5_isDraftLost_2 : decode cX5_isDraftLost 2 = .ok (.bipush 30, 2) := by decide +kernel
theorem dX5_isDraftLost_4 : decode cX5_isDraftLost 4 = .ok (.istore_n 3, 1) := by decide +kernel
theorem dX5_isDraftLost_5 : decode cX5_isDraftLost 5 = .ok (.iload_n 3, 1) := by decide +kernel
theorem dX5_isDraftLost_6 : decode cX5_isDraftLost 6 = .ok (.istore 4, 2) := by decide +kernel
theorem dX5_isDraftLost_8 : decode cX5_isDraftLost 8 = .ok (.iload 4, 2) := by decide +kernel
theorem dX5_isDraftLost_10 : decode cX5_isDraftLost 10 = .ok (.iload_n 3, 1) := by decide +kernel
theorem dX5_isDraftLost_11 : decode cX5_isDraftLost 11 = .ok (.aload_n 0, 1) := by decide +kernel
theorem dX5_isDraftLost_12 : decode cX5_isDraftLost 12 = .ok (.getfield 76, 3) := by decide +kernel
theorem dX5_isDraftLost_15 : decode cX5_isDraftLost 15 = .ok (.iadd, 1) := by decide +kernel
theorem dX5_isDraftLost_16 : decode cX5_isDraftLost 16 = .ok (.if_icmp .ge 65, 3) := by decide +kernel
theorem dX5_isDraftLost_19 : decode cX5_isDraftLost 19 = .ok (.aload_n 0, 1) := by decide +kernel
theorem dX5_isDraftLost_20 : decode cX5_isDraftLost 20 = .ok (.getfield 26, 3) := by decide +kernel
theorem dX5_isDraftLost_23 : decode cX5_isDraftLost 23 = .ok (.iload 4, 2) := by decide +kernel
theorem dX5_isDraftLost_25 : decode cX5_isDraftLost 25 = .ok (.iaload, 1) := by decide +kernel
theorem dX5_isDraftLost_26 : decode cX5_isDraftLost 26 = .ok (.istore 5, 2) := by decide +kernel
theorem dX5_isDraftLost_28 : decode cX5_isDraftLost 28 = .ok (.iload 5, 2) := by decide +kernel
theorem dX5_isDraftLost_30 : decode cX5_isDraftLost 30 = .ok (.aload_n 0, 1) := by decide +kernel
theorem dX5_isDraftLost_31 : decode cX5_isDraftLost 31 = .ok (.getfield 26, 3) := by decide +kernel
theorem dX5_isDraftLost_34 : decode cX5_isDraftLost 34 = .ok (.iload 4, 2) := by decide +kernel
theorem dX5_isDraftLost_36 : decode cX5_isDraftLost 36 = .ok (.iaload, 1) := by decide +kernel
theorem dX5_isDraftLost_37 : decode cX5_isDraftLost 37 = .ok (.aload_n 0, 1) := by decide +kernel
theorem dX5_isDraftLost_38 : decode cX5_isDraftLost 38 = .ok (.getfield 29, 3) := by decide +kernel
theorem dX5_isDraftLost_41 : decode cX5_isDraftLost 41 = .ok (.iload 4, 2) := by decide +kernel
theorem dX5_isDraftLost_43 : decode cX5_isDraftLost 43 = .ok (.iaload, 1) := by decide +kernel
theorem dX5_isDraftLost_44 : decode cX5_isDraftLost 44 = .ok (.iadd, 1) := by decide +kernel
theorem dX5_isDraftLost_45 : decode cX5_isDraftLost 45 = .ok (.if_icmp .ge 30, 3) := by decide +kernel
theorem dX5_isDraftLost_48 : decode cX5_isDraftLost 48 = .ok (.iload_n 2, 1) := by decide +kernel
theorem dX5_isDraftLost_49 : decode cX5_isDraftLost 49 = .ok (.ifCond .ne 14, 3) := by decide +kernel
theorem dX5_isDraftLost_52 : decode cX5_isDraftLost 52 = .ok (.aload_n 0, 1) := by decide +kernel
theorem dX5_isDraftLost_53 : decode cX5_isDraftLost 53 = .ok (.iload_n 1, 1) := by decide +kernel
theorem dX5_isDraftLost_54 : decode cX5_isDraftLost 54 = .ok (.iload 5, 2) := by decide +kernel
theorem dX5_isDraftLost_56 : decode cX5_isDraftLost 56 = .ok (.invokevirtual 87, 3) := by decide +kernel
theorem dX5_isDraftLost_59 : decode cX5_isDraftLost 59 = .ok (.iconst (-1), 1) := by decide +kernel
theorem dX5_isDraftLost_60 : decode cX5_isDraftLost 60 = .ok (.if_icmp .ne 7, 3) := by decide +kernel
theorem dX5_isDraftLost_63 : decode cX5_isDraftLost 63 = .ok (.iconst 1, 1) := by decide +kernel
theorem dX5_isDraftLost_64 : decode cX5_isDraftLost 64 = .ok (.goto 4, 3) := by decide +kernel
theorem dX5_isDraftLost_67 : decode cX5_isDraftLost 67 = .ok (.iconst 0, 1) := by decide +kernel
theorem dX5_isDraftLost_68 : decode cX5_isDraftLost 68 = .ok (.istore_n 2, 1) := by decide +kernel
theorem dX5_isDraftLost_69 : decode cX5_isDraftLost 69 = .ok (.iinc 5 1, 3) := by decide +kernel
theorem dX5_isDraftLost_72 : decode cX5_isDraftLost 72 = .ok (.goto (-44), 3) := by decide +kernel
theorem dX5_isDraftLost_75 : decode cX5_isDraftLost 75 = .ok (.iinc 4 1, 3) := by decide +kernel
theorem dX5_isDraftLost_78 : decode cX5_isDraftLost 78 = .ok (.goto (-70), 3) := by decide +kernel
theorem dX5_isDraftLost_81 : decode cX5_isDraftLost 81 = .ok (.iload_n 2, 1) := by decide +kernel
theorem dX5_isDraftLost_82 : decode cX5_isDraftLost 82 = .ok (.ireturn, 1) := by decide +kernel
theorem dX5_mayWrite_0 : decode cX5_mayWrite 0 = .ok (.bipush 30, 2) := by decide +kernel
theorem dX5_mayWrite_2 : decode cX5_mayWrite 2 = .ok (.istore_n 3, 1) := by decide +kernel
theorem dX5_mayWrite_3 : decode cX5_mayWrite 3 = .ok (.aload_n 0, 1) := by decide +kernel
theorem dX5_mayWrite_4 : decode cX5_mayWrite 4 = .ok (.getfield 76, 3) := by decide +kernel
theorem dX5_mayWrite_7 : decode cX5_mayWrite 7 = .ok (.iconst 1, 1) := by decide +kernel
theorem dX5_mayWrite_8 : decode cX5_mayWrite 8 = .ok (.if_icmp .ne 57, 3) := by decide +kernel
theorem dX5_mayWrite_11 : decode cX5_mayWrite 11 = .ok (.aload_n 0, 1) := by decide +kernel
theorem dX5_mayWrite_12 : decode cX5_mayWrite 12 = .ok (.getfield 29, 3) := by decide +kernel
theorem dX5_mayWrite_15 : decode cX5_mayWrite 15 = .ok (.iload_n 3, 1) := by decide +kernel
theorem dX5_mayWrite_16 : decode cX5_mayWrite 16 = .ok (.iaload, 1) := by decide +kernel
theorem dX5_mayWrite_17 : decode cX5_mayWrite 17 = .ok (.iconst 1, 1) := by decide +kernel
theorem dX5_mayWrite_18 : decode cX5_mayWrite 18 = .ok (.if_icmp .ne 47, 3) := by decide +kernel
theorem dX5_mayWrite_21 : decode cX5_mayWrite 21 = .ok (.aload_n 0, 1) := by decide +kernel
theorem dX5_mayWrite_22 : decode cX5_mayWrite 22 = .ok (.getfield 38, 3) := by decide +kernel
theorem dX5_mayWrite_25 : decode cX5_mayWrite 25 = .ok (.iload_n 1, 1) := by decide +kernel
theorem dX5_mayWrite_26 : decode cX5_mayWrite 26 = .ok (.iaload, 1) := by decide +kernel
theorem dX5_mayWrite_27 : decode cX5_mayWrite 27 = .ok (.aload_n 0, 1) := by decide +kernel
theorem dX5_mayWrite_28 : decode cX5_mayWrite 28 = .ok (.getfield 17, 3) := by decide +kernel
theorem dX5_mayWrite_31 : decode cX5_mayWrite 31 = .ok (.iload_n 2, 1) := by decide +kernel
theorem dX5_mayWrite_32 : decode cX5_mayWrite 32 = .ok (.iaload, 1) := by decide +kernel
theorem dX5_mayWrite_33 : decode cX5_mayWrite 33 = .ok (.if_icmp .ne 32, 3) := by decide +kernel
theorem dX5_mayWrite_36 : decode cX5_mayWrite 36 = .ok (.aload_n 0, 1) := by decide +kernel
theorem dX5_mayWrite_37 : decode cX5_mayWrite 37 = .ok (.aload_n 0, 1) := by decide +kernel
theorem dX5_mayWrite_38 : decode cX5_mayWrite 38 = .ok (.getfield 13, 3) := by decide +kernel
theorem dX5_mayWrite_41 : decode cX5_mayWrite 41 = .ok (.iload_n 2, 1) := by decide +kernel
theorem dX5_mayWrite_42 : decode cX5_mayWrite 42 = .ok (.iaload, 1) := by decide +kernel
theorem dX5_mayWrite_43 : decode cX5_mayWrite 43 = .ok (.aload_n 0, 1) := by decide +kernel
theorem dX5_mayWrite_44 : decode cX5_mayWrite 44 = .ok (.getfield 26, 3) := by decide +kernel
theorem dX5_mayWrite_47 : decode cX5_mayWrite 47 = .ok (.iload_n 3, 1) := by decide +kernel
theorem dX5_mayWrite_48 : decode cX5_mayWrite 48 = .ok (.iaload, 1) := by decide +kernel
theorem dX5_mayWrite_49 : decode cX5_mayWrite 49 = .ok (.invokevirtual 87, 3) := by decide +kernel
theorem dX5_mayWrite_52 : decode cX5_mayWrite 52 = .ok (.aload_n 0, 1) := by decide +kernel
theorem dX5_mayWrite_53 : decode cX5_mayWrite 53 = .ok (.getfield 38, 3) := by decide +kernel
theorem dX5_mayWrite_56 : decode cX5_mayWrite 56 = .ok (.iload_n 1, 1) := by decide +kernel
theorem dX5_mayWrite_57 : decode cX5_mayWrite 57 = .ok (.iaload, 1) := by decide +kernel
theorem dX5_mayWrite_58 : decode cX5_mayWrite 58 = .ok (.if_icmp .ne 7, 3) := by decide +kernel
theorem dX5_mayWrite_61 : decode cX5_mayWrite 61 = .ok (.iconst 1, 1) := by decide +kernel
theorem dX5_mayWrite_62 : decode cX5_mayWrite 62 = .ok (.goto 4, 3) := by decide +kernel
theorem dX5_mayWrite_65 : decode cX5_mayWrite 65 = .ok (.iconst 0, 1) := by decide +kernel
theorem dX5_mayWrite_66 : decode cX5_mayWrite 66 = .ok (.istore 4, 2) := by decide +kernel
theorem dX5_mayWrite_68 : decode cX5_mayWrite 68 = .ok (.iload 4, 2) := by decide +kernel
theorem dX5_mayWrite_70 : decode cX5_mayWrite 70 = .ok (.ifCond .ne 20, 3) := by decide +kernel
theorem dX5_mayWrite_73 : decode cX5_mayWrite 73 = .ok (.aload_n 0, 1) := by decide +kernel
theorem dX5_mayWrite_74 : decode cX5_mayWrite 74 = .ok (.iload_n 1, 1) := by decide +kernel
theorem dX5_mayWrite_75 : decode cX5_mayWrite 75 = .ok (.aload_n 0, 1) := by decide +kernel
theorem dX5_mayWrite_76 : decode cX5_mayWrite 76 = .ok (.getfield 13, 3) := by decide +kernel
theorem dX5_mayWrite_79 : decode cX5_mayWrite 79 = .ok (.iload_n 2, 1) := by decide +kernel
theorem dX5_mayWrite_80 : decode cX5_mayWrite 80 = .ok (.iaload, 1) := by decide +kernel
theorem dX5_mayWrite_81 : decode cX5_mayWrite 81 = .ok (.invokevirtual 90, 3) := by decide +kernel
theorem dX5_mayWrite_84 : decode cX5_mayWrite 84 = .ok (.bipush 8, 2) := by decide +kernel
theorem dX5_mayWrite_86 : decode cX5_mayWrite 86 = .ok (.iand, 1) := by decide +kernel
theorem dX5_mayWrite_87 : decode cX5_mayWrite 87 = .ok (.ifCond .eq 7, 3) := by decide +kernel
theorem dX5_mayWrite_90 : decode cX5_mayWrite 90 = .ok (.iconst 1, 1) := by decide +kernel
theorem dX5_mayWrite_91 : decode cX5_mayWrite 91 = .ok (.goto 4, 3) := by decide +kernel
theorem dX5_mayWrite_94 : decode cX5_mayWrite 94 = .ok (.iconst 0, 1) := by decide +kernel
theorem dX5_mayWrite_95 : decode cX5_mayWrite 95 = .ok (.ireturn, 1) := by decide +kernel
theorem dX5_writeMap_0 : decode cX5_writeMap 0 = .ok (.aload_n 0, 1) := by decide +kernel
theorem dX5_writeMap_1 : decode cX5_writeMap 1 = .ok (.aload_n 0, 1) := by decide +kernel
theorem dX5_writeMap_2 : decode cX5_writeMap 2 = .ok (.iload_n 1, 1) := by decide +kernel
theorem dX5_writeMap_3 : decode cX5_writeMap 3 = .ok (.invokevirtual 66, 3) := by decide +kernel
theorem dX5_writeMap_6 : decode cX5_writeMap 6 = .ok (.ifCond .eq 19, 3) := by decide +kernel
theorem dX5_writeMap_9 : decode cX5_writeMap 9 = .ok (.aload_n 0, 1) := by decide +kernel
theorem dX5_writeMap_10 : decode cX5_writeMap 10 = .ok (.iload_n 2, 1) := by decide +kernel
theorem dX5_writeMap_11 : decode cX5_writeMap 11 = .ok (.invokevirtual 93, 3) := by decide +kernel
theorem dX5_writeMap_14 : decode cX5_writeMap 14 = .ok (.ifCond .eq 11, 3) := by decide +kernel
theorem dX5_writeMap_17 : decode cX5_writeMap 17 = .ok (.iload_n 2, 1) := by decide +kernel
theorem dX5_writeMap_18 : decode cX5_writeMap 18 = .ok (.ifCond .le 7, 3) := by decide +kernel
theorem dX5_writeMap_21 : decode cX5_writeMap 21 = .ok (.iconst 0, 1) := by decide +kernel
theorem dX5_writeMap_22 : decode cX5_writeMap 22 = .ok (.goto 4, 3) := by decide +kernel
theorem dX5_writeMap_25 : decode cX5_writeMap 25 = .ok (.iconst 1, 1) := by decide +kernel
theorem dX5_writeMap_26 : decode cX5_writeMap 26 = .ok (.invokevirtual 70, 3) := by decide +kernel
theorem dX5_writeMap_29 : decode cX5_writeMap 29 = .ok (.ifCond .eq 5, 3) := by decide +kernel
theorem dX5_writeMap_32 : decode cX5_writeMap 32 = .ok (.iconst 0, 1) := by decide +kernel
theorem dX5_writeMap_33 : decode cX5_writeMap 33 = .ok (.ireturn, 1) := by decide +kernel
theorem dX5_writeMap_34 : decode cX5_writeMap 34 = .ok (.aload_n 0, 1) := by decide +kernel
theorem dX5_writeMap_35 : decode cX5_writeMap 35 = .ok (.getfield 20, 3) := by decide +kernel
theorem dX5_writeMap_38 : decode cX5_writeMap 38 = .ok (.iload_n 2, 1) := by decide +kernel
theorem dX5_writeMap_39 : decode cX5_writeMap 39 = .ok (.iaload, 1) := by decide +kernel
theorem dX5_writeMap_40 : decode cX5_writeMap 40 = .ok (.ifCond .le 8, 3) := by decide +kernel
theorem dX5_writeMap_43 : decode cX5_writeMap 43 = .ok (.bipush (-4), 2) := by decide +kernel
theorem dX5_writeMap_45 : decode cX5_writeMap 45 = .ok (.goto 47, 3) := by decide +kernel
theorem dX5_writeMap_48 : decode cX5_writeMap 48 = .ok (.aload_n 0, 1) := by decide +kernel
theorem dX5_writeMap_49 : decode cX5_writeMap 49 = .ok (.invokevirtual 96, 3) := by decide +kernel
theorem dX5_writeMap_52 : decode cX5_writeMap 52 = .ok (.ifCond .eq 8, 3) := by decide +kernel
theorem dX5_writeMap_55 : decode cX5_writeMap 55 = .ok (.bipush (-3), 2) := by decide +kernel
theorem dX5_writeMap_57 : decode cX5_writeMap 57 = .ok (.goto 35, 3) := by decide +kernel
theorem dX5_writeMap_60 : decode cX5_writeMap 60 = .ok (.aload_n 0, 1) := by decide +kernel
theorem dX5_writeMap_61 : decode cX5_writeMap 61 = .ok (.aload_n 0, 1) := by decide +kernel
theorem dX5_writeMap_62 : decode cX5_writeMap 62 = .ok (.getfield 13, 3) := by decide +kernel
theorem dX5_writeMap_65 : decode cX5_writeMap 65 = .ok (.iload_n 2, 1) := by decide +kernel
theorem dX5_writeMap_66 : decode cX5_writeMap 66 = .ok (.iaload, 1) := by decide +kernel
theorem dX5_writeMap_67 : decode cX5_writeMap 67 = .ok (.invokevirtual 100, 3) := by decide +kernel
theorem dX5_writeMap_70 : decode cX5_writeMap 70 = .ok (.ifCond .eq 8, 3) := by decide +kernel
theorem dX5_writeMap_73 : decode cX5_writeMap 73 = .ok (.bipush (-2), 2) := by decide +kernel
theorem dX5_writeMap_75 : decode cX5_writeMap 75 = .ok (.goto 17, 3) := by decide +kernel
theorem dX5_writeMap_78 : decode cX5_writeMap 78 = .ok (.aload_n 0, 1) := by decide +kernel
theorem dX5_writeMap_79 : decode cX5_writeMap 79 = .ok (.iload_n 1, 1) := by decide +kernel
theorem dX5_writeMap_80 : decode cX5_writeMap 80 = .ok (.iload_n 2, 1) := by decide +kernel
theorem dX5_writeMap_81 : decode cX5_writeMap 81 = .ok (.invokevirtual 103, 3) := by decide +kernel
theorem dX5_writeMap_84 : decode cX5_writeMap 84 = .ok (.ifCond .eq 7, 3) := by decide +kernel
theorem dX5_writeMap_87 : decode cX5_writeMap 87 = .ok (.iconst 0, 1) := by decide +kernel
theorem dX5_writeMap_88 : decode cX5_writeMap 88 = .ok (.goto 4, 3) := by decide +kernel
theorem dX5_writeMap_91 : decode cX5_writeMap 91 = .ok (.iconst (-1), 1) := by decide +kernel
theorem dX5_writeMap_92 : decode cX5_writeMap 92 = .ok (.istore_n 3, 1) := by decide +kernel
theorem dX5_writeMap_93 : decode cX5_writeMap 93 = .ok (.aload_n 0, 1) := by decide +kernel
theorem dX5_writeMap_94 : decode cX5_writeMap 94 = .ok (.getfield 76, 3) := by decide +kernel
theorem dX5_writeMap_97 : decode cX5_writeMap 97 = .ok (.istore 4, 2) := by decide +kernel
theorem dX5_writeMap_99 : decode cX5_writeMap 99 = .ok (.aload_n 0, 1) := by decide +kernel
theorem dX5_writeMap_100 : decode cX5_writeMap 100 = .ok (.iconst 0, 1) := by decide +kernel
theorem dX5_writeMap_101 : decode cX5_writeMap 101 = .ok (.putfield 76, 3) := by decide +kernel
theorem dX5_writeMap_104 : decode cX5_writeMap 104 = .ok (.iload_n 3, 1) := by decide +kernel
theorem dX5_writeMap_105 : decode cX5_writeMap 105 = .ok (.ifCond .ge 9, 3) := by decide +kernel
theorem dX5_writeMap_108 : decode cX5_writeMap 108 = .ok (.aload_n 0, 1) := by decide +kernel
theorem dX5_writeMap_109 : decode cX5_writeMap 109 = .ok (.iload_n 3, 1) := by decide +kernel
theorem dX5_writeMap_110 : decode cX5_writeMap 110 = .ok (.invokevirtual 107, 3) := by decide +kernel
theorem dX5_writeMap_113 : decode cX5_writeMap 113 = .ok (.ireturn, 1) := by decide +kernel
theorem dX5_writeMap_114 : decode cX5_writeMap 114 = .ok (.iconst 0, 1) := by decide +kernel
theorem dX5_writeMap_115 : decode cX5_writeMap 115 = .ok (.istore 5, 2) := by decide +kernel
theorem dX5_writeMap_117 : decode cX5_writeMap 117 = .ok (.iload 5, 2) := by decide +kernel
theorem dX5_writeMap_119 : decode cX5_writeMap 119 = .ok (.iload 4, 2) := by decide +kernel
theorem dX5_writeMap_121 : decode cX5_writeMap 121 = .ok (.if_icmp .ge 70, 3) := by decide +kernel
theorem dX5_writeMap_124 : decode cX5_writeMap 124 = .ok (.bipush 30, 2) := by decide +kernel
theorem dX5_writeMap_126 : decode cX5_writeMap 126 = .ok (.iload 5, 2) := by decide +kernel
theorem dX5_writeMap_128 : decode cX5_writeMap 128 = .ok (.iadd, 1) := by decide +kernel
theorem dX5_writeMap_129 : decode cX5_writeMap 129 = .ok (.istore 6, 2) := by decide +kernel
theorem dX5_writeMap_131 : decode cX5_writeMap 131 = .ok (.aload_n 0, 1) := by decide +kernel
theorem dX5_writeMap_132 : decode cX5_writeMap 132 = .ok (.getfield 23, 3) := by decide +kernel
theorem dX5_writeMap_135 : decode cX5_writeMap 135 = .ok (.iconst 3, 1) := by decide +kernel
theorem dX5_writeMap_136 : decode cX5_writeMap 136 = .ok (.iload_n 2, 1) := by decide +kernel
theorem dX5_writeMap_137 : decode cX5_writeMap 137 = .ok (.imul, 1) := by decide +kernel
theorem dX5_writeMap_138 : decode cX5_writeMap 138 = .ok (.iload 5, 2) := by decide +kernel
theorem dX5_writeMap_140 : decode cX5_writeMap 140 = .ok (.iadd, 1) := by decide +kernel
theorem dX5_writeMap_141 : decode cX5_writeMap 141 = .ok (.aload_n 0, 1) := by decide +kernel
theorem dX5_writeMap_142 : decode cX5_writeMap 142 = .ok (.getfield 23, 3) := by decide +kernel
theorem dX5_writeMap_145 : decode cX5_writeMap 145 = .ok (.iload 6, 2) := by decide +kernel
theorem dX5_writeMap_147 : decode cX5_writeMap 147 = .ok (.iaload, 1) := by decide +kernel
theorem dX5_writeMap_148 : decode cX5_writeMap 148 = .ok (.iastore, 1) := by decide +kernel
theorem dX5_writeMap_149 : decode cX5_writeMap 149 = .ok (.aload_n 0, 1) := by decide +kernel
theorem dX5_writeMap_150 : decode cX5_writeMap 150 = .ok (.getfield 26, 3) := by decide +kernel
theorem dX5_writeMap_153 : decode cX5_writeMap 153 = .ok (.iconst 3, 1) := by decide +kernel
theorem dX5_writeMap_154 : decode cX5_writeMap 154 = .ok (.iload_n 2, 1) := by decide +kernel
theorem dX5_writeMap_155 : decode cX5_writeMap 155 = .ok (.imul, 1) := by decide +kernel
theorem dX5_writeMap_156 : decode cX5_writeMap 156 = .ok (.iload 5, 2) := by decide +kernel
theorem dX5_writeMap_158 : decode cX5_writeMap 158 = .ok (.iadd, 1) := by decide +kernel
theorem dX5_writeMap_159 : decode cX5_writeMap 159 = .ok (.aload_n 0, 1) := by decide +kernel
theorem dX5_writeMap_160 : decode cX5_writeMap 160 = .ok (.getfield 26, 3) := by decide +kernel
theorem dX5_writeMap_163 : decode cX5_writeMap 163 = .ok (.iload 6, 2) := by decide +kernel
theorem dX5_writeMap_165 : decode cX5_writeMap 165 = .ok (.iaload, 1) := by decide +kernel
theorem dX5_writeMap_166 : decode cX5_writeMap 166 = .ok (.iastore, 1) := by decide +kernel
theorem dX5_writeMap_167 : decode cX5_writeMap 167 = .ok (.aload_n 0, 1) := by decide +kernel
theorem dX5_writeMap_168 : decode cX5_writeMap 168 = .ok (.getfield 29, 3) := by decide +kernel
theorem dX5_writeMap_171 : decode cX5_writeMap 171 = .ok (.iconst 3, 1) := by decide +kernel
theorem dX5_writeMap_172 : decode cX5_writeMap 172 = .ok (.iload_n 2, 1) := by decide +kernel
theorem dX5_writeMap_173 : decode cX5_writeMap 173 = .ok (.imul, 1) := by decide +kernel
theorem dX5_writeMap_174 : decode cX5_writeMap 174 = .ok (.iload 5, 2) := by decide +kernel
theorem dX5_writeMap_176 : decode cX5_writeMap 176 = .ok (.iadd, 1) := by decide +kernel
theorem dX5_writeMap_177 : decode cX5_writeMap 177 = .ok (.aload_n 0, 1) := by decide +kernel
theorem dX5_writeMap_178 : decode cX5_writeMap 178 = .ok (.getfield 29, 3) := by decide +kernel
theorem dX5_writeMap_181 : decode cX5_writeMap 181 = .ok (.iload 6, 2) := by decide +kernel
theorem dX5_writeMap_183 : decode cX5_writeMap 183 = .ok (.iaload, 1) := by decide +kernel
theorem dX5_writeMap_184 : decode cX5_writeMap 184 = .ok (.iastore, 1) := by decide +kernel
theorem dX5_writeMap_185 : decode cX5_writeMap 185 = .ok (.iinc 5 1, 3) := by decide +kernel
theorem dX5_writeMap_188 : decode cX5_writeMap 188 = .ok (.goto (-71), 3) := by decide +kernel
theorem dX5_writeMap_191 : decode cX5_writeMap 191 = .ok (.aload_n 0, 1) := by decide +kernel
theorem dX5_writeMap_192 : decode cX5_writeMap 192 = .ok (.getfield 20, 3) := by decide +kernel
theorem dX5_writeMap_195 : decode cX5_writeMap 195 = .ok (.iload_n 2, 1) := by decide +kernel
theorem dX5_writeMap_196 : decode cX5_writeMap 196 = .ok (.iload 4, 2) := by decide +kernel
theorem dX5_writeMap_198 : decode cX5_writeMap 198 = .ok (.iastore, 1) := by decide +kernel
theorem dX5_writeMap_199 : decode cX5_writeMap 199 = .ok (.iload 4, 2) := by decide +kernel
theorem dX5_writeMap_201 : decode cX5_writeMap 201 = .ok (.ireturn, 1) := by decide +kernel
theorem dX5_rooms_0 : decode cX5_rooms 0 = .ok (.aload_n 0, 1) := by decide +kernel
theorem dX5_rooms_1 : decode cX5_rooms 1 = .ok (.aload_n 0, 1) := by decide +kernel
theorem dX5_rooms_2 : decode cX5_rooms 2 = .ok (.getfield 7, 3) := by decide +kernel
theorem dX5_rooms_5 : decode cX5_rooms 5 = .ok (.invokevirtual 111, 3) := by decide +kernel
theorem dX5_rooms_8 : decode cX5_rooms 8 = .ok (.ireturn, 1) := by decide +kernel
theorem dX5_outerOf_0 : decode cX5_outerOf 0 = .ok (.aload_n 0, 1) := by decide +kernel
theorem dX5_outerOf_1 : decode cX5_outerOf 1 = .ok (.aload_n 0, 1) := by decide +kernel
theorem dX5_outerOf_2 : decode cX5_outerOf 2 = .ok (.iload_n 1, 1) := by decide +kernel
theorem dX5_outerOf_3 : decode cX5_outerOf 3 = .ok (.invokevirtual 93, 3) := by decide +kernel
theorem dX5_outerOf_6 : decode cX5_outerOf 6 = .ok (.ifCond .eq 7, 3) := by decide +kernel
theorem dX5_outerOf_9 : decode cX5_outerOf 9 = .ok (.iconst 0, 1) := by decide +kernel
theorem dX5_outerOf_10 : decode cX5_outerOf 10 = .ok (.goto 4, 3) := by decide +kernel
theorem dX5_outerOf_13 : decode cX5_outerOf 13 = .ok (.iconst 1, 1) := by decide +kernel
theorem dX5_outerOf_14 : decode cX5_outerOf 14 = .ok (.invokevirtual 70, 3) := by decide +kernel
theorem dX5_outerOf_17 : decode cX5_outerOf 17 = .ok (.ifCond .eq 7, 3) := by decide +kernel
theorem dX5_outerOf_20 : decode cX5_outerOf 20 = .ok (.iconst 0, 1) := by decide +kernel
theorem dX5_outerOf_21 : decode cX5_outerOf 21 = .ok (.goto 9, 3) := by decide +kernel
theorem dX5_outerOf_24 : decode cX5_outerOf 24 = .ok (.aload_n 0, 1) := by decide +kernel
theorem dX5_outerOf_25 : decode cX5_outerOf 25 = .ok (.getfield 13, 3) := by decide +kernel
theorem dX5_outerOf_28 : decode cX5_outerOf 28 = .ok (.iload_n 1, 1) := by decide +kernel
theorem dX5_outerOf_29 : decode cX5_outerOf 29 = .ok (.iaload, 1) := by decide +kernel
theorem dX5_outerOf_30 : decode cX5_outerOf 30 = .ok (.ireturn, 1) := by decide +kernel
theorem dX5_noNumber_0 : decode cX5_noNumber 0 = .ok (.aload_n 0, 1) := by decide +kernel
theorem dX5_noNumber_1 : decode cX5_noNumber 1 = .ok (.aload_n 0, 1) := by decide +kernel
theorem dX5_noNumber_2 : decode cX5_noNumber 2 = .ok (.iload_n 1, 1) := by decide +kernel
theorem dX5_noNumber_3 : decode cX5_noNumber 3 = .ok (.invokevirtual 93, 3) := by decide +kernel
theorem dX5_noNumber_6 : decode cX5_noNumber 6 = .ok (.ifCond .ne 7, 3) := by decide +kernel
theorem dX5_noNumber_9 : decode cX5_noNumber 9 = .ok (.iconst 1, 1) := by decide +kernel
theorem dX5_noNumber_10 : decode cX5_noNumber 10 = .ok (.goto 15, 3) := by decide +kernel
theorem dX5_noNumber_13 : decode cX5_noNumber 13 = .ok (.iload_n 2, 1) := by decide +kernel
theorem dX5_noNumber_14 : decode cX5_noNumber 14 = .ok (.invokestatic 73, 3) := by decide +kernel
theorem dX5_noNumber_17 : decode cX5_noNumber 17 = .ok (.ifCond .eq 7, 3) := by decide +kernel
theorem dX5_noNumber_20 : decode cX5_noNumber 20 = .ok (.iconst 0, 1) := by decide +kernel
theorem dX5_noNumber_21 : decode cX5_noNumber 21 = .ok (.goto 4, 3) := by decide +kernel
theorem dX5_noNumber_24 : decode cX5_noNumber 24 = .ok (.iconst 2, 1) := by decide +kernel
theorem dX5_noNumber_25 : decode cX5_noNumber 25 = .ok (.invokevirtual 70, 3) := by decide +kernel
theorem dX5_noNumber_28 : decode cX5_noNumber 28 = .ok (.ireturn, 1) := by decide +kernel
theorem dX5_leadsTo_0 : decode cX5_leadsTo 0 = .ok (.aload_n 0, 1) := by decide +kernel
theorem dX5_leadsTo_1 : decode cX5_leadsTo 1 = .ok (.iload_n 1, 1) := by decide +kernel
theorem dX5_leadsTo_2 : decode cX5_leadsTo 2 = .ok (.iload_n 2, 1) := by decide +kernel
theorem dX5_leadsTo_3 : decode cX5_leadsTo 3 = .ok (.invokevirtual 114, 3) := by decide +kernel
theorem dX5_leadsTo_6 : decode cX5_leadsTo 6 = .ok (.ifCond .eq 7, 3) := by decide +kernel
theorem dX5_leadsTo_9 : decode cX5_leadsTo 9 = .ok (.iconst 0, 1) := by decide +kernel
theorem dX5_leadsTo_10 : decode cX5_leadsTo 10 = .ok (.goto 9, 3) := by decide +kernel
theorem dX5_leadsTo_13 : decode cX5_leadsTo 13 = .ok (.aload_n 0, 1) := by decide +kernel
theorem dX5_leadsTo_14 : decode cX5_leadsTo 14 = .ok (.iload_n 1, 1) := by decide +kernel
theorem dX5_leadsTo_15 : decode cX5_leadsTo 15 = .ok (.iload_n 2, 1) := by decide +kernel
theorem dX5_leadsTo_16 : decode cX5_leadsTo 16 = .ok (.invokevirtual 87, 3) := by decide +kernel
theorem dX5_leadsTo_19 : decode cX5_leadsTo 19 = .ok (.ireturn, 1) := by decide +kernel
theorem dX5_seen_0 : decode cX5_seen 0 = .ok (.sipush 999, 3) := by decide +kernel
theorem dX5_seen_3 : decode cX5_seen 3 = .ok (.istore_n 3, 1) := by decide +kernel
theorem dX5_seen_4 : decode cX5_seen 4 = .ok (.iconst 0, 1) := by decide +kernel
theorem dX5_seen_5 : decode cX5_seen 5 = .ok (.istore 4, 2) := by decide +kernel
theorem dX5_seen_7 : decode cX5_seen 7 = .ok (.iload 4, 2) := by decide +kernel
theorem dX5_seen_9 : decode cX5_seen 9 = .ok (.sipush 999, 3) := by decide +kernel
theorem dX5_seen_12 : decode cX5_seen 12 = .ok (.if_icmp .ge 27, 3) := by decide +kernel
theorem dX5_seen_15 : decode cX5_seen 15 = .ok (.aload_n 0, 1) := by decide +kernel
theorem dX5_seen_16 : decode cX5_seen 16 = .ok (.iload_n 1, 1) := by decide +kernel
theorem dX5_seen_17 : decode cX5_seen 17 = .ok (.iload 4, 2) := by decide +kernel
theorem dX5_seen_19 : decode cX5_seen 19 = .ok (.invokevirtual 87, 3) := by decide +kernel
theorem dX5_seen_22 : decode cX5_seen 22 = .ok (.iload_n 2, 1) := by decide +kernel
theorem dX5_seen_23 : decode cX5_seen 23 = .ok (.if_icmp .ne 8, 3) := by decide +kernel
theorem dX5_seen_26 : decode cX5_seen 26 = .ok (.iload 4, 2) := by decide +kernel
theorem dX5_seen_28 : decode cX5_seen 28 = .ok (.goto 4, 3) := by decide +kernel
theorem dX5_seen_31 : decode cX5_seen 31 = .ok (.iload_n 3, 1) := by decide +kernel
theorem dX5_seen_32 : decode cX5_seen 32 = .ok (.istore_n 3, 1) := by decide +kernel
theorem dX5_seen_33 : decode cX5_seen 33 = .ok (.iinc 4 1, 3) := by decide +kernel
theorem dX5_seen_36 : decode cX5_seen 36 = .ok (.goto (-29), 3) := by decide +kernel
theorem dX5_seen_39 : decode cX5_seen 39 = .ok (.iload_n 3, 1) := by decide +kernel
theorem dX5_seen_40 : decode cX5_seen 40 = .ok (.ireturn, 1) := by decide +kernel
theorem dX5_seenAs_0 : decode cX5_seenAs 0 = .ok (.aload_n 0, 1) := by decide +kernel
theorem dX5_seenAs_1 : decode cX5_seenAs 1 = .ok (.iload_n 1, 1) := by decide +kernel
theorem dX5_seenAs_2 : decode cX5_seenAs 2 = .ok (.iload_n 2, 1) := by decide +kernel
theorem dX5_seenAs_3 : decode cX5_seenAs 3 = .ok (.invokevirtual 114, 3) := by decide +kernel
theorem dX5_seenAs_6 : decode cX5_seenAs 6 = .ok (.ifCond .eq 7, 3) := by decide +kernel
theorem dX5_seenAs_9 : decode cX5_seenAs 9 = .ok (.iconst 0, 1) := by decide +kernel
theorem dX5_seenAs_10 : decode cX5_seenAs 10 = .ok (.goto 9, 3) := by decide +kernel
theorem dX5_seenAs_13 : decode cX5_seenAs 13 = .ok (.aload_n 0, 1) := by decide +kernel
theorem dX5_seenAs_14 : decode cX5_seenAs 14 = .ok (.iload_n 1, 1) := by decide +kernel
theorem dX5_seenAs_15 : decode cX5_seenAs 15 = .ok (.iload_n 2, 1) := by decide +kernel
theorem dX5_seenAs_16 : decode cX5_seenAs 16 = .ok (.invokevirtual 117, 3) := by decide +kernel
theorem dX5_seenAs_19 : decode cX5_seenAs 19 = .ok (.ireturn, 1) := by decide +kernel
theorem dX5_seenByLeading_0 : decode cX5_seenByLeading 0 = .ok (.aload_n 0, 1) := by decide +kernel
theorem dX5_seenByLeading_1 : decode cX5_seenByLeading 1 = .ok (.iload_n 1, 1) := by decide +kernel
theorem dX5_seenByLeading_2 : decode cX5_seenByLeading 2 = .ok (.iload_n 2, 1) := by decide +kernel
theorem dX5_seenByLeading_3 : decode cX5_seenByLeading 3 = .ok (.invokevirtual 120, 3) := by decide +kernel
theorem dX5_seenByLeading_6 : decode cX5_seenByLeading 6 = .ok (.ireturn, 1) := by decide +kernel
theorem dX5_isInside_0 : decode cX5_isInside 0 = .ok (.iload_n 1, 1) := by decide +kernel
theorem dX5_isInside_1 : decode cX5_isInside 1 = .ok (.ifCond .ne 7, 3) := by decide +kernel
theorem dX5_isInside_4 : decode cX5_isInside 4 = .ok (.iconst (-1), 1) := by decide +kernel
theorem dX5_isInside_5 : decode cX5_isInside 5 = .ok (.goto 9, 3) := by decide +kernel
theorem dX5_isInside_8 : decode cX5_isInside 8 = .ok (.aload_n 0, 1) := by decide +kernel
theorem dX5_isInside_9 : decode cX5_isInside 9 = .ok (.getfield 13, 3) := by decide +kernel
theorem dX5_isInside_12 : decode cX5_isInside 12 = .ok (.iload_n 1, 1) := by decide +kernel
theorem dX5_isInside_13 : decode cX5_isInside 13 = .ok (.iaload, 1) := by decide +kernel
theorem dX5_isInside_14 : decode cX5_isInside 14 = .ok (.istore_n 3, 1) := by decide +kernel
theorem dX5_isInside_15 : decode cX5_isInside 15 = .ok (.iload_n 3, 1) := by decide +kernel
theorem dX5_isInside_16 : decode cX5_isInside 16 = .ok (.iconst (-1), 1) := by decide +kernel
theorem dX5_isInside_17 : decode cX5_isInside 17 = .ok (.if_icmp .eq 18, 3) := by decide +kernel
theorem dX5_isInside_20 : decode cX5_isInside 20 = .ok (.iload_n 3, 1) := by decide +kernel
theorem dX5_isInside_21 : decode cX5_isInside 21 = .ok (.iload_n 2, 1) := by decide +kernel
theorem dX5_isInside_22 : decode cX5_isInside 22 = .ok (.if_icmp .eq 13, 3) := by decide +kernel
theorem dX5_isInside_25 : decode cX5_isInside 25 = .ok (.aload_n 0, 1) := by decide +kernel
theorem dX5_isInside_26 : decode cX5_isInside 26 = .ok (.getfield 13, 3) := by decide +kernel
theorem dX5_isInside_29 : decode cX5_isInside 29 = .ok (.iload_n 3, 1) := by decide +kernel
theorem dX5_isInside_30 : decode cX5_isInside 30 = .ok (.iaload, 1) := by decide +kernel
theorem dX5_isInside_31 : decode cX5_isInside 31 = .ok (.istore_n 3, 1) := by decide +kernel
theorem dX5_isInside_32 : decode cX5_isInside 32 = .ok (.goto (-17), 3) := by decide +kernel
theorem dX5_isInside_35 : decode cX5_isInside 35 = .ok (.iload_n 3, 1) := by decide +kernel
theorem dX5_isInside_36 : decode cX5_isInside 36 = .ok (.iload_n 2, 1) := by decide +kernel
theorem dX5_isInside_37 : decode cX5_isInside 37 = .ok (.if_icmp .ne 7, 3) := by decide +kernel
theorem dX5_isInside_40 : decode cX5_isInside 40 = .ok (.iconst 1, 1) := by decide +kernel
theorem dX5_isInside_41 : decode cX5_isInside 41 = .ok (.goto 4, 3) := by decide +kernel
theorem dX5_isInside_44 : decode cX5_isInside 44 = .ok (.iconst 0, 1) := by decide +kernel
theorem dX5_isInside_45 : decode cX5_isInside 45 = .ok (.ireturn, 1) := by decide +kernel
theorem dX5_held_0 : decode cX5_held 0 = .ok (.iconst 1, 1) := by decide +kernel
theorem dX5_held_1 : decode cX5_held 1 = .ok (.istore_n 3, 1) := by decide +kernel
theorem dX5_held_2 : decode cX5_held 2 = .ok (.iload_n 3, 1) := by decide +kernel
theorem dX5_held_3 : decode cX5_held 3 = .ok (.aload_n 0, 1) := by decide +kernel
theorem dX5_held_4 : decode cX5_held 4 = .ok (.getfield 7, 3) := by decide +kernel
theorem dX5_held_7 : decode cX5_held 7 = .ok (.if_icmp .ge 68, 3) := by decide +kernel
theorem dX5_held_10 : decode cX5_held 10 = .ok (.aload_n 0, 1) := by decide +kernel
theorem dX5_held_11 : decode cX5_held 11 = .ok (.getfield 17, 3) := by decide +kernel
theorem dX5_held_14 : decode cX5_held 14 = .ok (.iload_n 3, 1) := by decide +kernel
theorem dX5_held_15 : decode cX5_held 15 = .ok (.iaload, 1) := by decide +kernel
theorem dX5_held_16 : decode cX5_held 16 = .ok (.aload_n 0, 1) := by decide +kernel
theorem dX5_held_17 : decode cX5_held 17 = .ok (.getfield 38, 3) := by decide +kernel
theorem dX5_held_20 : decode cX5_held 20 = .ok (.iload_n 1, 1) := by decide +kernel
theorem dX5_held_21 : decode cX5_held 21 = .ok (.iaload, 1) := by decide +kernel
theorem dX5_held_22 : decode cX5_held 22 = .ok (.if_icmp .ne 22, 3) := by decide +kernel
theorem dX5_held_25 : decode cX5_held 25 = .ok (.aload_n 0, 1) := by decide +kernel
theorem dX5_held_26 : decode cX5_held 26 = .ok (.getfield 13, 3) := by decide +kernel
theorem dX5_held_29 : decode cX5_held 29 = .ok (.iload_n 3, 1) := by decide +kernel
theorem dX5_held_30 : decode cX5_held 30 = .ok (.iaload, 1) := by decide +kernel
theorem dX5_held_31 : decode cX5_held 31 = .ok (.aload_n 0, 1) := by decide +kernel
theorem dX5_held_32 : decode cX5_held 32 = .ok (.getfield 35, 3) := by decide +kernel
theorem dX5_held_35 : decode cX5_held 35 = .ok (.iload_n 1, 1) := by decide +kernel
theorem dX5_held_36 : decode cX5_held 36 = .ok (.iaload, 1) := by decide +kernel
theorem dX5_held_37 : decode cX5_held 37 = .ok (.if_icmp .ne 7, 3) := by decide +kernel
theorem dX5_held_40 : decode cX5_held 40 = .ok (.iconst 1, 1) := by decide +kernel
theorem dX5_held_41 : decode cX5_held 41 = .ok (.goto 4, 3) := by decide +kernel
theorem dX5_held_44 : decode cX5_held 44 = .ok (.iconst 0, 1) := by decide +kernel
theorem dX5_held_45 : decode cX5_held 45 = .ok (.istore 4, 2) := by decide +kernel
theorem dX5_held_47 : decode cX5_held 47 = .ok (.iload 4, 2) := by decide +kernel
theorem dX5_held_49 : decode cX5_held 49 = .ok (.ifCond .eq 20, 3) := by decide +kernel
theorem dX5_held_52 : decode cX5_held 52 = .ok (.iload_n 3, 1) := by decide +kernel
theorem dX5_held_53 : decode cX5_held 53 = .ok (.iload_n 2, 1) := by decide +kernel
theorem dX5_held_54 : decode cX5_held 54 = .ok (.if_icmp .eq 12, 3) := by decide +kernel
theorem dX5_held_57 : decode cX5_held 57 = .ok (.aload_n 0, 1) := by decide +kernel
theorem dX5_held_58 : decode cX5_held 58 = .ok (.iload_n 2, 1) := by decide +kernel
theorem dX5_held_59 : decode cX5_held 59 = .ok (.iload_n 3, 1) := by decide +kernel
theorem dX5_held_60 : decode cX5_held 60 = .ok (.invokevirtual 123, 3) := by decide +kernel
theorem dX5_held_63 : decode cX5_held 63 = .ok (.ifCond .eq 6, 3) := by decide +kernel
theorem dX5_held_66 : decode cX5_held 66 = .ok (.bipush 15, 2) := by decide +kernel
theorem dX5_held_68 : decode cX5_held 68 = .ok (.ireturn, 1) := by decide +kernel
theorem dX5_held_69 : decode cX5_held 69 = .ok (.iinc 3 1, 3) := by decide +kernel
theorem dX5_held_72 : decode cX5_held 72 = .ok (.goto (-70), 3) := by decide +kernel
theorem dX5_held_75 : decode cX5_held 75 = .ok (.iload_n 2, 1) := by decide +kernel
theorem dX5_held_76 : decode cX5_held 76 = .ok (.aload_n 0, 1) := by decide +kernel
theorem dX5_held_77 : decode cX5_held 77 = .ok (.getfield 35, 3) := by decide +kernel
theorem dX5_held_80 : decode cX5_held 80 = .ok (.iload_n 1, 1) := by decide +kernel
theorem dX5_held_81 : decode cX5_held 81 = .ok (.iaload, 1) := by decide +kernel
theorem dX5_held_82 : decode cX5_held 82 = .ok (.if_icmp .eq 17, 3) := by decide +kernel
theorem dX5_held_85 : decode cX5_held 85 = .ok (.aload_n 0, 1) := by decide +kernel
theorem dX5_held_86 : decode cX5_held 86 = .ok (.iload_n 2, 1) := by decide +kernel
theorem dX5_held_87 : decode cX5_held 87 = .ok (.aload_n 0, 1) := by decide +kernel
theorem dX5_held_88 : decode cX5_held 88 = .ok (.getfield 35, 3) := by decide +kernel
theorem dX5_held_91 : decode cX5_held 91 = .ok (.iload_n 1, 1) := by decide +kernel
theorem dX5_held_92 : decode cX5_held 92 = .ok (.iaload, 1) := by decide +kernel
theorem dX5_held_93 : decode cX5_held 93 = .ok (.invokevirtual 123, 3) := by decide +kernel
theorem dX5_held_96 : decode cX5_held 96 = .ok (.ifCond .eq 12, 3) := by decide +kernel
theorem dX5_held_99 : decode cX5_held 99 = .ok (.aload_n 0, 1) := by decide +kernel
theorem dX5_held_100 : decode cX5_held 100 = .ok (.getfield 41, 3) := by decide +kernel
theorem dX5_held_103 : decode cX5_held 103 = .ok (.iload_n 1, 1) := by decide +kernel
theorem dX5_held_104 : decode cX5_held 104 = .ok (.iaload, 1) := by decide +kernel
theorem dX5_held_105 : decode cX5_held 105 = .ok (.goto 4, 3) := by decide +kernel
theorem dX5_held_108 : decode cX5_held 108 = .ok (.iconst 0, 1) := by decide +kernel
theorem dX5_held_109 : decode cX5_held 109 = .ok (.ireturn, 1) := by decide +kernel
theorem dX5_fork_0 : decode cX5_fork 0 = .ok (.aload_n 0, 1) := by decide +kernel
theorem dX5_fork_1 : decode cX5_fork 1 = .ok (.aload_n 0, 1) := by decide +kernel
theorem dX5_fork_2 : decode cX5_fork 2 = .ok (.iload_n 1, 1) := by decide +kernel
theorem dX5_fork_3 : decode cX5_fork 3 = .ok (.invokevirtual 66, 3) := by decide +kernel
theorem dX5_fork_6 : decode cX5_fork 6 = .ok (.ifCond .ne 7, 3) := by decide +kernel
theorem dX5_fork_9 : decode cX5_fork 9 = .ok (.iconst 1, 1) := by decide +kernel
theorem dX5_fork_10 : decode cX5_fork 10 = .ok (.goto 17, 3) := by decide +kernel
theorem dX5_fork_13 : decode cX5_fork 13 = .ok (.aload_n 0, 1) := by decide +kernel
theorem dX5_fork_14 : decode cX5_fork 14 = .ok (.getfield 32, 3) := by decide +kernel
theorem dX5_fork_17 : decode cX5_fork 17 = .ok (.bipush 12, 2) := by decide +kernel
theorem dX5_fork_19 : decode cX5_fork 19 = .ok (.if_icmp .ne 7, 3) := by decide +kernel
theorem dX5_fork_22 : decode cX5_fork 22 = .ok (.iconst 2, 1) := by decide +kernel
theorem dX5_fork_23 : decode cX5_fork 23 = .ok (.goto 4, 3) := by decide +kernel
theorem dX5_fork_26 : decode cX5_fork 26 = .ok (.iconst 0, 1) := by decide +kernel
theorem dX5_fork_27 : decode cX5_fork 27 = .ok (.invokevirtual 70, 3) := by decide +kernel
theorem dX5_fork_30 : decode cX5_fork 30 = .ok (.ifCond .eq 5, 3) := by decide +kernel
theorem dX5_fork_33 : decode cX5_fork 33 = .ok (.iconst 0, 1) := by decide +kernel
theorem dX5_fork_34 : decode cX5_fork 34 = .ok (.ireturn, 1) := by decide +kernel
theorem dX5_fork_35 : decode cX5_fork 35 = .ok (.aload_n 0, 1) := by decide +kernel
theorem dX5_fork_36 : decode cX5_fork 36 = .ok (.getfield 35, 3) := by decide +kernel
theorem dX5_fork_39 : decode cX5_fork 39 = .ok (.aload_n 0, 1) := by decide +kernel
theorem dX5_fork_40 : decode cX5_fork 40 = .ok (.getfield 32, 3) := by decide +kernel
theorem dX5_fork_43 : decode cX5_fork 43 = .ok (.aload_n 0, 1) := by decide +kernel
theorem dX5_fork_44 : decode cX5_fork 44 = .ok (.getfield 35, 3) := by decide +kernel
theorem dX5_fork_47 : decode cX5_fork 47 = .ok (.iload_n 1, 1) := by decide +kernel
theorem dX5_fork_48 : decode cX5_fork 48 = .ok (.iaload, 1) := by decide +kernel
theorem dX5_fork_49 : decode cX5_fork 49 = .ok (.iastore, 1) := by decide +kernel
theorem dX5_fork_50 : decode cX5_fork 50 = .ok (.aload_n 0, 1) := by decide +kernel
theorem dX5_fork_51 : decode cX5_fork 51 = .ok (.getfield 38, 3) := by decide +kernel
theorem dX5_fork_54 : decode cX5_fork 54 = .ok (.aload_n 0, 1) := by decide +kernel
theorem dX5_fork_55 : decode cX5_fork 55 = .ok (.getfield 32, 3) := by decide +kernel
theorem dX5_fork_58 : decode cX5_fork 58 = .ok (.aload_n 0, 1) := by decide +kernel
theorem dX5_fork_59 : decode cX5_fork 59 = .ok (.getfield 38, 3) := by decide +kernel
theorem dX5_fork_62 : decode cX5_fork 62 = .ok (.iload_n 1, 1) := by decide +kernel
theorem dX5_fork_63 : decode cX5_fork 63 = .ok (.iaload, 1) := by decide +kernel
theorem dX5_fork_64 : decode cX5_fork 64 = .ok (.iastore, 1) := by decide +kernel
theorem dX5_fork_65 : decode cX5_fork 65 = .ok (.aload_n 0, 1) := by decide +kernel
theorem dX5_fork_66 : decode cX5_fork 66 = .ok (.getfield 41, 3) := by decide +kernel
theorem dX5_fork_69 : decode cX5_fork 69 = .ok (.aload_n 0, 1) := by decide +kernel
theorem dX5_fork_70 : decode cX5_fork 70 = .ok (.getfield 32, 3) := by decide +kernel
theorem dX5_fork_73 : decode cX5_fork 73 = .ok (.aload_n 0, 1) := by decide +kernel
theorem dX5_fork_74 : decode cX5_fork 74 = .ok (.getfield 41, 3) := by decide +kernel
theorem dX5_fork_77 : decode cX5_fork 77 = .ok (.iload_n 1, 1) := by decide +kernel
theorem dX5_fork_78 : decode cX5_fork 78 = .ok (.iaload, 1) := by decide +kernel
theorem dX5_fork_79 : decode cX5_fork 79 = .ok (.iastore, 1) := by decide +kernel
theorem dX5_fork_80 : decode cX5_fork 80 = .ok (.aload_n 0, 1) := by decide +kernel
theorem dX5_fork_81 : decode cX5_fork 81 = .ok (.dup, 1) := by decide +kernel
theorem dX5_fork_82 : decode cX5_fork 82 = .ok (.getfield 32, 3) := by decide +kernel
theorem dX5_fork_85 : decode cX5_fork 85 = .ok (.iconst 1, 1) := by decide +kernel
theorem dX5_fork_86 : decode cX5_fork 86 = .ok (.iadd, 1) := by decide +kernel
theorem dX5_fork_87 : decode cX5_fork 87 = .ok (.putfield 32, 3) := by decide +kernel
theorem dX5_fork_90 : decode cX5_fork 90 = .ok (.aload_n 0, 1) := by decide +kernel
theorem dX5_fork_91 : decode cX5_fork 91 = .ok (.getfield 32, 3) := by decide +kernel
theorem dX5_fork_94 : decode cX5_fork 94 = .ok (.iconst 1, 1) := by decide +kernel
theorem dX5_fork_95 : decode cX5_fork 95 = .ok (.isub, 1) := by decide +kernel
theorem dX5_fork_96 : decode cX5_fork 96 = .ok (.ireturn, 1) := by decide +kernel
theorem dX5_drop_0 : decode cX5_drop 0 = .ok (.aload_n 0, 1) := by decide +kernel
theorem dX5_drop_1 : decode cX5_drop 1 = .ok (.aload_n 0, 1) := by decide +kernel
theorem dX5_drop_2 : decode cX5_drop 2 = .ok (.iload_n 1, 1) := by decide +kernel
theorem dX5_drop_3 : decode cX5_drop 3 = .ok (.invokevirtual 66, 3) := by decide +kernel
theorem dX5_drop_6 : decode cX5_drop 6 = .ok (.ifCond .ne 7, 3) := by decide +kernel
theorem dX5_drop_9 : decode cX5_drop 9 = .ok (.iconst 1, 1) := by decide +kernel
theorem dX5_drop_10 : decode cX5_drop 10 = .ok (.goto 18, 3) := by decide +kernel
theorem dX5_drop_13 : decode cX5_drop 13 = .ok (.iload_n 2, 1) := by decide +kernel
theorem dX5_drop_14 : decode cX5_drop 14 = .ok (.iconst 0, 1) := by decide +kernel
theorem dX5_drop_15 : decode cX5_drop 15 = .ok (.bipush 15, 2) := by decide +kernel
theorem dX5_drop_17 : decode cX5_drop 17 = .ok (.invokestatic 59, 3) := by decide +kernel
theorem dX5_drop_20 : decode cX5_drop 20 = .ok (.ifCond .eq 7, 3) := by decide +kernel
theorem dX5_drop_23 : decode cX5_drop 23 = .ok (.iconst 0, 1) := by decide +kernel
theorem dX5_drop_24 : decode cX5_drop 24 = .ok (.goto 4, 3) := by decide +kernel
theorem dX5_drop_27 : decode cX5_drop 27 = .ok (.iconst 2, 1) := by decide +kernel
theorem dX5_drop_28 : decode cX5_drop 28 = .ok (.invokevirtual 70, 3) := by decide +kernel
theorem dX5_drop_31 : decode cX5_drop 31 = .ok (.ifCond .eq 5, 3) := by decide +kernel
theorem dX5_drop_34 : decode cX5_drop 34 = .ok (.iconst 0, 1) := by decide +kernel
theorem dX5_drop_35 : decode cX5_drop 35 = .ok (.ireturn, 1) := by decide +kernel
theorem dX5_drop_36 : decode cX5_drop 36 = .ok (.aload_n 0, 1) := by decide +kernel
theorem dX5_drop_37 : decode cX5_drop 37 = .ok (.getfield 41, 3) := by decide +kernel
theorem dX5_drop_40 : decode cX5_drop 40 = .ok (.iload_n 1, 1) := by decide +kernel
theorem dX5_drop_41 : decode cX5_drop 41 = .ok (.dup2, 1) := by decide +kernel
theorem dX5_drop_42 : decode cX5_drop 42 = .ok (.iaload, 1) := by decide +kernel
theorem dX5_drop_43 : decode cX5_drop 43 = .ok (.iload_n 2, 1) := by decide +kernel
theorem dX5_drop_44 : decode cX5_drop 44 = .ok (.iconst (-1), 1) := by decide +kernel
theorem dX5_drop_45 : decode cX5_drop 45 = .ok (.ixor, 1) := by decide +kernel
theorem dX5_drop_46 : decode cX5_drop 46 = .ok (.iand, 1) := by decide +kernel
theorem dX5_drop_47 : decode cX5_drop 47 = .ok (.iastore, 1) := by decide +kernel
theorem dX5_drop_48 : decode cX5_drop 48 = .ok (.aload_n 0, 1) := by decide +kernel
theorem dX5_drop_49 : decode cX5_drop 49 = .ok (.getfield 41, 3) := by decide +kernel
theorem dX5_drop_52 : decode cX5_drop 52 = .ok (.iload_n 1, 1) := by decide +kernel
theorem dX5_drop_53 : decode cX5_drop 53 = .ok (.iaload, 1) := by decide +kernel
theorem dX5_drop_54 : decode cX5_drop 54 = .ok (.ireturn, 1) := by decide +kernel
theorem dX5_enter_0 : decode cX5_enter 0 = .ok (.aload_n 0, 1) := by decide +kernel
theorem dX5_enter_1 : decode cX5_enter 1 = .ok (.aload_n 0, 1) := by decide +kernel
theorem dX5_enter_2 : decode cX5_enter 2 = .ok (.iload_n 1, 1) := by decide +kernel
theorem dX5_enter_3 : decode cX5_enter 3 = .ok (.invokevirtual 66, 3) := by decide +kernel
theorem dX5_enter_6 : decode cX5_enter 6 = .ok (.ifCond .eq 15, 3) := by decide +kernel
theorem dX5_enter_9 : decode cX5_enter 9 = .ok (.aload_n 0, 1) := by decide +kernel
theorem dX5_enter_10 : decode cX5_enter 10 = .ok (.iload_n 2, 1) := by decide +kernel
theorem dX5_enter_11 : decode cX5_enter 11 = .ok (.invokevirtual 93, 3) := by decide +kernel
theorem dX5_enter_14 : decode cX5_enter 14 = .ok (.ifCond .eq 7, 3) := by decide +kernel
theorem dX5_enter_17 : decode cX5_enter 17 = .ok (.iconst 0, 1) := by decide +kernel
theorem dX5_enter_18 : decode cX5_enter 18 = .ok (.goto 4, 3) := by decide +kernel
theorem dX5_enter_21 : decode cX5_enter 21 = .ok (.iconst 1, 1) := by decide +kernel
theorem dX5_enter_22 : decode cX5_enter 22 = .ok (.invokevirtual 70, 3) := by decide +kernel
theorem dX5_enter_25 : decode cX5_enter 25 = .ok (.ifCond .eq 5, 3) := by decide +kernel
theorem dX5_enter_28 : decode cX5_enter 28 = .ok (.iconst 0, 1) := by decide +kernel
theorem dX5_enter_29 : decode cX5_enter 29 = .ok (.ireturn, 1) := by decide +kernel
theorem dX5_enter_30 : decode cX5_enter 30 = .ok (.aload_n 0, 1) := by decide +kernel
theorem dX5_enter_31 : decode cX5_enter 31 = .ok (.iload_n 2, 1) := by decide +kernel
theorem dX5_enter_32 : decode cX5_enter 32 = .ok (.aload_n 0, 1) := by decide +kernel
theorem dX5_enter_33 : decode cX5_enter 33 = .ok (.getfield 35, 3) := by decide +kernel
theorem dX5_enter_36 : decode cX5_enter 36 = .ok (.iload_n 1, 1) := by decide +kernel
theorem dX5_enter_37 : decode cX5_enter 37 = .ok (.iaload, 1) := by decide +kernel
theorem dX5_enter_38 : decode cX5_enter 38 = .ok (.invokevirtual 123, 3) := by decide +kernel
theorem dX5_enter_41 : decode cX5_enter 41 = .ok (.istore_n 3, 1) := by decide +kernel
theorem dX5_enter_42 : decode cX5_enter 42 = .ok (.iload_n 3, 1) := by decide +kernel
theorem dX5_enter_43 : decode cX5_enter 43 = .ok (.ifCond .eq 14, 3) := by decide +kernel
theorem dX5_enter_46 : decode cX5_enter 46 = .ok (.aload_n 0, 1) := by decide +kernel
theorem dX5_enter_47 : decode cX5_enter 47 = .ok (.iload_n 1, 1) := by decide +kernel
theorem dX5_enter_48 : decode cX5_enter 48 = .ok (.iload_n 2, 1) := by decide +kernel
theorem dX5_enter_49 : decode cX5_enter 49 = .ok (.invokevirtual 90, 3) := by decide +kernel
theorem dX5_enter_52 : decode cX5_enter 52 = .ok (.iconst 1, 1) := by decide +kernel
theorem dX5_enter_53 : decode cX5_enter 53 = .ok (.iand, 1) := by decide +kernel
theorem dX5_enter_54 : decode cX5_enter 54 = .ok (.ifCond .ne 18, 3) := by decide +kernel
theorem dX5_enter_57 : decode cX5_enter 57 = .ok (.aload_n 0, 1) := by decide +kernel
theorem dX5_enter_58 : decode cX5_enter 58 = .ok (.iload_n 3, 1) := by decide +kernel
theorem dX5_enter_59 : decode cX5_enter 59 = .ok (.ifCond .eq 7, 3) := by decide +kernel
theorem dX5_enter_62 : decode cX5_enter 62 = .ok (.iconst (-1), 1) := by decide +kernel
theorem dX5_enter_63 : decode cX5_enter 63 = .ok (.goto 5, 3) := by decide +kernel
theorem dX5_enter_66 : decode cX5_enter 66 = .ok (.bipush (-5), 2) := by decide +kernel
theorem dX5_enter_68 : decode cX5_enter 68 = .ok (.invokevirtual 107, 3) := by decide +kernel
theorem dX5_enter_71 : decode cX5_enter 71 = .ok (.ireturn, 1) := by decide +kernel
theorem dX5_enter_72 : decode cX5_enter 72 = .ok (.aload_n 0, 1) := by decide +kernel
theorem dX5_enter_73 : decode cX5_enter 73 = .ok (.getfield 35, 3) := by decide +kernel
theorem dX5_enter_76 : decode cX5_enter 76 = .ok (.iload_n 1, 1) := by decide +kernel
theorem dX5_enter_77 : decode cX5_enter 77 = .ok (.iload_n 2, 1) := by decide +kernel
theorem dX5_enter_78 : decode cX5_enter 78 = .ok (.iastore, 1) := by decide +kernel
theorem dX5_enter_79 : decode cX5_enter 79 = .ok (.aload_n 0, 1) := by decide +kernel
theorem dX5_enter_80 : decode cX5_enter 80 = .ok (.getfield 41, 3) := by decide +kernel
theorem dX5_enter_83 : decode cX5_enter 83 = .ok (.iload_n 1, 1) := by decide +kernel
theorem dX5_enter_84 : decode cX5_enter 84 = .ok (.bipush 15, 2) := by decide +kernel
theorem dX5_enter_86 : decode cX5_enter 86 = .ok (.iastore, 1) := by decide +kernel
theorem dX5_enter_87 : decode cX5_enter 87 = .ok (.bipush 15, 2) := by decide +kernel
theorem dX5_enter_89 : decode cX5_enter 89 = .ok (.ireturn, 1) := by decide +kernel
theorem dX5_setNumber_0 : decode cX5_setNumber 0 = .ok (.aload_n 0, 1) := by decide +kernel
theorem dX5_setNumber_1 : decode cX5_setNumber 1 = .ok (.aload_n 0, 1) := by decide +kernel
theorem dX5_setNumber_2 : decode cX5_setNumber 2 = .ok (.iload_n 1, 1) := by decide +kernel
theorem dX5_setNumber_3 : decode cX5_setNumber 3 = .ok (.invokevirtual 66, 3) := by decide +kernel
theorem dX5_setNumber_6 : decode cX5_setNumber 6 = .ok (.ifCond .ne 7, 3) := by decide +kernel
theorem dX5_setNumber_9 : decode cX5_setNumber 9 = .ok (.iconst 1, 1) := by decide +kernel
theorem dX5_setNumber_10 : decode cX5_setNumber 10 = .ok (.goto 15, 3) := by decide +kernel
theorem dX5_setNumber_13 : decode cX5_setNumber 13 = .ok (.iload_n 2, 1) := by decide +kernel
theorem dX5_setNumber_14 : decode cX5_setNumber 14 = .ok (.invokestatic 73, 3) := by decide +kernel
theorem dX5_setNumber_17 : decode cX5_setNumber 17 = .ok (.ifCond .eq 7, 3) := by decide +kernel
theorem dX5_setNumber_20 : decode cX5_setNumber 20 = .ok (.iconst 0, 1) := by decide +kernel
theorem dX5_setNumber_21 : decode cX5_setNumber 21 = .ok (.goto 4, 3) := by decide +kernel
theorem dX5_setNumber_24 : decode cX5_setNumber 24 = .ok (.iconst 2, 1) := by decide +kernel
theorem dX5_setNumber_25 : decode cX5_setNumber 25 = .ok (.invokevirtual 70, 3) := by decide +kernel
theorem dX5_setNumber_28 : decode cX5_setNumber 28 = .ok (.ifCond .eq 5, 3) := by decide +kernel
theorem dX5_setNumber_31 : decode cX5_setNumber 31 = .ok (.iconst 0, 1) := by decide +kernel
theorem dX5_setNumber_32 : decode cX5_setNumber 32 = .ok (.ireturn, 1) := by decide +kernel
theorem dX5_setNumber_33 : decode cX5_setNumber 33 = .ok (.aload_n 0, 1) := by decide +kernel
theorem dX5_setNumber_34 : decode cX5_setNumber 34 = .ok (.aload_n 0, 1) := by decide +kernel
theorem dX5_setNumber_35 : decode cX5_setNumber 35 = .ok (.getfield 35, 3) := by decide +kernel
theorem dX5_setNumber_38 : decode cX5_setNumber 38 = .ok (.iload_n 1, 1) := by decide +kernel
theorem dX5_setNumber_39 : decode cX5_setNumber 39 = .ok (.iaload, 1) := by decide +kernel
theorem dX5_setNumber_40 : decode cX5_setNumber 40 = .ok (.iload_n 2, 1) := by decide +kernel
theorem dX5_setNumber_41 : decode cX5_setNumber 41 = .ok (.invokevirtual 87, 3) := by decide +kernel
theorem dX5_setNumber_44 : decode cX5_setNumber 44 = .ok (.istore_n 3, 1) := by decide +kernel
theorem dX5_setNumber_45 : decode cX5_setNumber 45 = .ok (.iload_n 3, 1) := by decide +kernel
theorem dX5_setNumber_46 : decode cX5_setNumber 46 = .ok (.aload_n 0, 1) := by decide +kernel
theorem dX5_setNumber_47 : decode cX5_setNumber 47 = .ok (.getfield 38, 3) := by decide +kernel
theorem dX5_setNumber_50 : decode cX5_setNumber 50 = .ok (.iload_n 1, 1) := by decide +kernel
theorem dX5_setNumber_51 : decode cX5_setNumber 51 = .ok (.iaload, 1) := by decide +kernel
theorem dX5_setNumber_52 : decode cX5_setNumber 52 = .ok (.if_icmp .eq 15, 3) := by decide +kernel
theorem dX5_setNumber_55 : decode cX5_setNumber 55 = .ok (.aload_n 0, 1) := by decide +kernel
theorem dX5_setNumber_56 : decode cX5_setNumber 56 = .ok (.getfield 41, 3) := by decide +kernel
theorem dX5_setNumber_59 : decode cX5_setNumber 59 = .ok (.iload_n 1, 1) := by decide +kernel
theorem dX5_setNumber_60 : decode cX5_setNumber 60 = .ok (.iaload, 1) := by decide +kernel
theorem dX5_setNumber_61 : decode cX5_setNumber 61 = .ok (.bipush 8, 2) := by decide +kernel
theorem dX5_setNumber_63 : decode cX5_setNumber 63 = .ok (.iand, 1) := by decide +kernel
theorem dX5_setNumber_64 : decode cX5_setNumber 64 = .ok (.ifCond .eq 7, 3) := by decide +kernel
theorem dX5_setNumber_67 : decode cX5_setNumber 67 = .ok (.iconst 1, 1) := by decide +kernel
theorem dX5_setNumber_68 : decode cX5_setNumber 68 = .ok (.goto 4, 3) := by decide +kernel
theorem dX5_setNumber_71 : decode cX5_setNumber 71 = .ok (.iconst 0, 1) := by decide +kernel
theorem dX5_setNumber_72 : decode cX5_setNumber 72 = .ok (.istore 4, 2) := by decide +kernel
theorem dX5_setNumber_74 : decode cX5_setNumber 74 = .ok (.iload_n 3, 1) := by decide +kernel
theorem dX5_setNumber_75 : decode cX5_setNumber 75 = .ok (.iconst (-1), 1) := by decide +kernel
theorem dX5_setNumber_76 : decode cX5_setNumber 76 = .ok (.if_icmp .eq 8, 3) := by decide +kernel
theorem dX5_setNumber_79 : decode cX5_setNumber 79 = .ok (.iload 4, 2) := by decide +kernel
theorem dX5_setNumber_81 : decode cX5_setNumber 81 = .ok (.ifCond .ne 19, 3) := by decide +kernel
theorem dX5_setNumber_84 : decode cX5_setNumber 84 = .ok (.aload_n 0, 1) := by decide +kernel
theorem dX5_setNumber_85 : decode cX5_setNumber 85 = .ok (.iload_n 3, 1) := by decide +kernel
theorem dX5_setNumber_86 : decode cX5_setNumber 86 = .ok (.iconst (-1), 1) := by decide +kernel
theorem dX5_setNumber_87 : decode cX5_setNumber 87 = .ok (.if_icmp .ne 8, 3) := by decide +kernel
theorem dX5_setNumber_90 : decode cX5_setNumber 90 = .ok (.bipush (-2), 2) := by decide +kernel
theorem dX5_setNumber_92 : decode cX5_setNumber 92 = .ok (.goto 4, 3) := by decide +kernel
theorem dX5_setNumber_95 : decode cX5_setNumber 95 = .ok (.iconst (-1), 1) := by decide +kernel
theorem dX5_setNumber_96 : decode cX5_setNumber 96 = .ok (.invokevirtual 107, 3) := by decide +kernel
theorem dX5_setNumber_99 : decode cX5_setNumber 99 = .ok (.ireturn, 1) := by decide +kernel
theorem dX5_setNumber_100 : decode cX5_setNumber 100 = .ok (.aload_n 0, 1) := by decide +kernel
theorem dX5_setNumber_101 : decode cX5_setNumber 101 = .ok (.aload_n 0, 1) := by decide +kernel
theorem dX5_setNumber_102 : decode cX5_setNumber 102 = .ok (.getfield 35, 3) := by decide +kernel
theorem dX5_setNumber_105 : decode cX5_setNumber 105 = .ok (.iload_n 1, 1) := by decide +kernel
theorem dX5_setNumber_106 : decode cX5_setNumber 106 = .ok (.iaload, 1) := by decide +kernel
theorem dX5_setNumber_107 : decode cX5_setNumber 107 = .ok (.aload_n 0, 1) := by decide +kernel
theorem dX5_setNumber_108 : decode cX5_setNumber 108 = .ok (.getfield 38, 3) := by decide +kernel
theorem dX5_setNumber_111 : decode cX5_setNumber 111 = .ok (.iload_n 1, 1) := by decide +kernel
theorem dX5_setNumber_112 : decode cX5_setNumber 112 = .ok (.iaload, 1) := by decide +kernel
theorem dX5_setNumber_113 : decode cX5_setNumber 113 = .ok (.invokevirtual 117, 3) := by decide +kernel
theorem dX5_setNumber_116 : decode cX5_setNumber 116 = .ok (.ifCond .ne 7, 3) := by decide +kernel
theorem dX5_setNumber_119 : decode cX5_setNumber 119 = .ok (.iconst 1, 1) := by decide +kernel
theorem dX5_setNumber_120 : decode cX5_setNumber 120 = .ok (.goto 4, 3) := by decide +kernel
theorem dX5_setNumber_123 : decode cX5_setNumber 123 = .ok (.iconst 0, 1) := by decide +kernel
theorem dX5_setNumber_124 : decode cX5_setNumber 124 = .ok (.istore 5, 2) := by decide +kernel
theorem dX5_setNumber_126 : decode cX5_setNumber 126 = .ok (.aload_n 0, 1) := by decide +kernel
theorem dX5_setNumber_127 : decode cX5_setNumber 127 = .ok (.getfield 38, 3) := by decide +kernel
theorem dX5_setNumber_130 : decode cX5_setNumber 130 = .ok (.iload_n 1, 1) := by decide +kernel
theorem dX5_setNumber_131 : decode cX5_setNumber 131 = .ok (.iload_n 3, 1) := by decide +kernel
theorem dX5_setNumber_132 : decode cX5_setNumber 132 = .ok (.iastore, 1) := by decide +kernel
theorem dX5_setNumber_133 : decode cX5_setNumber 133 = .ok (.aload_n 0, 1) := by decide +kernel
theorem dX5_setNumber_134 : decode cX5_setNumber 134 = .ok (.getfield 41, 3) := by decide +kernel
theorem dX5_setNumber_137 : decode cX5_setNumber 137 = .ok (.iload_n 1, 1) := by decide +kernel
theorem dX5_setNumber_138 : decode cX5_setNumber 138 = .ok (.iload 5, 2) := by decide +kernel
theorem dX5_setNumber_140 : decode cX5_setNumber 140 = .ok (.ifCond .eq 11, 3) := by decide +kernel
theorem dX5_setNumber_143 : decode cX5_setNumber 143 = .ok (.iload_n 2, 1) := by decide +kernel
theorem dX5_setNumber_144 : decode cX5_setNumber 144 = .ok (.ifCond .eq 7, 3) := by decide +kernel
theorem dX5_setNumber_147 : decode cX5_setNumber 147 = .ok (.iconst 0, 1) := by decide +kernel
theorem dX5_setNumber_148 : decode cX5_setNumber 148 = .ok (.goto 9, 3) := by decide +kernel
theorem dX5_setNumber_151 : decode cX5_setNumber 151 = .ok (.aload_n 0, 1) := by decide +kernel
theorem dX5_setNumber_152 : decode cX5_setNumber 152 = .ok (.getfield 41, 3) := by decide +kernel
theorem dX5_setNumber_155 : decode cX5_setNumber 155 = .ok (.iload_n 1, 1) := by decide +kernel
theorem dX5_setNumber_156 : decode cX5_setNumber 156 = .ok (.iaload, 1) := by decide +kernel
theorem dX5_setNumber_157 : decode cX5_setNumber 157 = .ok (.iastore, 1) := by decide +kernel
theorem dX5_setNumber_158 : decode cX5_setNumber 158 = .ok (.iload_n 3, 1) := by decide +kernel
theorem dX5_setNumber_159 : decode cX5_setNumber 159 = .ok (.ireturn, 1) := by decide +kernel
theorem dX5_processes_0 : decode cX5_processes 0 = .ok (.aload_n 0, 1) := by decide +kernel
theorem dX5_processes_1 : decode cX5_processes 1 = .ok (.aload_n 0, 1) := by decide +kernel
theorem dX5_processes_2 : decode cX5_processes 2 = .ok (.getfield 32, 3) := by decide +kernel
theorem dX5_processes_5 : decode cX5_processes 5 = .ok (.invokevirtual 111, 3) := by decide +kernel
theorem dX5_processes_8 : decode cX5_processes 8 = .ok (.ireturn, 1) := by decide +kernel
theorem dX5_noProcess_0 : decode cX5_noProcess 0 = .ok (.aload_n 0, 1) := by decide +kernel
theorem dX5_noProcess_1 : decode cX5_noProcess 1 = .ok (.aload_n 0, 1) := by decide +kernel
theorem dX5_noProcess_2 : decode cX5_noProcess 2 = .ok (.iload_n 1, 1) := by decide +kernel
theorem dX5_noProcess_3 : decode cX5_noProcess 3 = .ok (.invokevirtual 66, 3) := by decide +kernel
theorem dX5_noProcess_6 : decode cX5_noProcess 6 = .ok (.ifCond .eq 7, 3) := by decide +kernel
theorem dX5_noProcess_9 : decode cX5_noProcess 9 = .ok (.iconst 0, 1) := by decide +kernel
theorem dX5_noProcess_10 : decode cX5_noProcess 10 = .ok (.goto 4, 3) := by decide +kernel
theorem dX5_noProcess_13 : decode cX5_noProcess 13 = .ok (.iconst 1, 1) := by decide +kernel
theorem dX5_noProcess_14 : decode cX5_noProcess 14 = .ok (.invokevirtual 70, 3) := by decide +kernel
theorem dX5_noProcess_17 : decode cX5_noProcess 17 = .ok (.ireturn, 1) := by decide +kernel
theorem dX5_roomOf_0 : decode cX5_roomOf 0 = .ok (.aload_n 0, 1) := by decide +kernel
theorem dX5_roomOf_1 : decode cX5_roomOf 1 = .ok (.iload_n 1, 1) := by decide +kernel
theorem dX5_roomOf_2 : decode cX5_roomOf 2 = .ok (.invokevirtual 126, 3) := by decide +kernel
theorem dX5_roomOf_5 : decode cX5_roomOf 5 = .ok (.ifCond .eq 7, 3) := by decide +kernel
theorem dX5_roomOf_8 : decode cX5_roomOf 8 = .ok (.iconst 0, 1) := by decide +kernel
theorem dX5_roomOf_9 : decode cX5_roomOf 9 = .ok (.goto 9, 3) := by decide +kernel
theorem dX5_roomOf_12 : decode cX5_roomOf 12 = .ok (.aload_n 0, 1) := by decide +kernel
theorem dX5_roomOf_13 : decode cX5_roomOf 13 = .ok (.getfield 35, 3) := by decide +kernel
theorem dX5_roomOf_16 : decode cX5_roomOf 16 = .ok (.iload_n 1, 1) := by decide +kernel
theorem dX5_roomOf_17 : decode cX5_roomOf 17 = .ok (.iaload, 1) := by decide +kernel
theorem dX5_roomOf_18 : decode cX5_roomOf 18 = .ok (.ireturn, 1) := by decide +kernel
theorem dX5_numberOf_0 : decode cX5_numberOf 0 = .ok (.aload_n 0, 1) := by decide +kernel
theorem dX5_numberOf_1 : decode cX5_numberOf 1 = .ok (.iload_n 1, 1) := by decide +kernel
theorem dX5_numberOf_2 : decode cX5_numberOf 2 = .ok (.invokevirtual 126, 3) := by decide +kernel
theorem dX5_numberOf_5 : decode cX5_numberOf 5 = .ok (.ifCond .eq 7, 3) := by decide +kernel
theorem dX5_numberOf_8 : decode cX5_numberOf 8 = .ok (.iconst 0, 1) := by decide +kernel
theorem dX5_numberOf_9 : decode cX5_numberOf 9 = .ok (.goto 9, 3) := by decide +kernel
theorem dX5_numberOf_12 : decode cX5_numberOf 12 = .ok (.aload_n 0, 1) := by decide +kernel
theorem dX5_numberOf_13 : decode cX5_numberOf 13 = .ok (.getfield 38, 3) := by decide +kernel
theorem dX5_numberOf_16 : decode cX5_numberOf 16 = .ok (.iload_n 1, 1) := by decide +kernel
theorem dX5_numberOf_17 : decode cX5_numberOf 17 = .ok (.iaload, 1) := by decide +kernel
theorem dX5_numberOf_18 : decode cX5_numberOf 18 = .ok (.ireturn, 1) := by decide +kernel
theorem dX5_rightsIn_0 : decode cX5_rightsIn 0 = .ok (.aload_n 0, 1) := by decide +kernel
theorem dX5_rightsIn_1 : decode cX5_rightsIn 1 = .ok (.aload_n 0, 1) := by decide +kernel
theorem dX5_rightsIn_2 : decode cX5_rightsIn 2 = .ok (.iload_n 1, 1) := by decide +kernel
theorem dX5_rightsIn_3 : decode cX5_rightsIn 3 = .ok (.invokevirtual 66, 3) := by decide +kernel
theorem dX5_rightsIn_6 : decode cX5_rightsIn 6 = .ok (.ifCond .eq 15, 3) := by decide +kernel
theorem dX5_rightsIn_9 : decode cX5_rightsIn 9 = .ok (.aload_n 0, 1) := by decide +kernel
theorem dX5_rightsIn_10 : decode cX5_rightsIn 10 = .ok (.iload_n 2, 1) := by decide +kernel
theorem dX5_rightsIn_11 : decode cX5_rightsIn 11 = .ok (.invokevirtual 93, 3) := by decide +kernel
theorem dX5_rightsIn_14 : decode cX5_rightsIn 14 = .ok (.ifCond .eq 7, 3) := by decide +kernel
theorem dX5_rightsIn_17 : decode cX5_rightsIn 17 = .ok (.iconst 0, 1) := by decide +kernel
theorem dX5_rightsIn_18 : decode cX5_rightsIn 18 = .ok (.goto 4, 3) := by decide +kernel
theorem dX5_rightsIn_21 : decode cX5_rightsIn 21 = .ok (.iconst 1, 1) := by decide +kernel
theorem dX5_rightsIn_22 : decode cX5_rightsIn 22 = .ok (.invokevirtual 70, 3) := by decide +kernel
theorem dX5_rightsIn_25 : decode cX5_rightsIn 25 = .ok (.ifCond .eq 7, 3) := by decide +kernel
theorem dX5_rightsIn_28 : decode cX5_rightsIn 28 = .ok (.iconst 0, 1) := by decide +kernel
theorem dX5_rightsIn_29 : decode cX5_rightsIn 29 = .ok (.goto 9, 3) := by decide +kernel
theorem dX5_rightsIn_32 : decode cX5_rightsIn 32 = .ok (.aload_n 0, 1) := by decide +kernel
theorem dX5_rightsIn_33 : decode cX5_rightsIn 33 = .ok (.iload_n 1, 1) := by decide +kernel
theorem dX5_rightsIn_34 : decode cX5_rightsIn 34 = .ok (.iload_n 2, 1) := by decide +kernel
theorem dX5_rightsIn_35 : decode cX5_rightsIn 35 = .ok (.invokevirtual 90, 3) := by decide +kernel
theorem dX5_rightsIn_38 : decode cX5_rightsIn 38 = .ok (.ireturn, 1) := by decide +kernel
theorem dX5_makeFile_0 : decode cX5_makeFile 0 = .ok (.aload_n 0, 1) := by decide +kernel
theorem dX5_makeFile_1 : decode cX5_makeFile 1 = .ok (.aload_n 0, 1) := by decide +kernel
theorem dX5_makeFile_2 : decode cX5_makeFile 2 = .ok (.iload_n 1, 1) := by decide +kernel
theorem dX5_makeFile_3 : decode cX5_makeFile 3 = .ok (.invokevirtual 66, 3) := by decide +kernel
theorem dX5_makeFile_6 : decode cX5_makeFile 6 = .ok (.ifCond .ne 7, 3) := by decide +kernel
theorem dX5_makeFile_9 : decode cX5_makeFile 9 = .ok (.iconst 1, 1) := by decide +kernel
theorem dX5_makeFile_10 : decode cX5_makeFile 10 = .ok (.goto 31, 3) := by decide +kernel
theorem dX5_makeFile_13 : decode cX5_makeFile 13 = .ok (.iload_n 2, 1) := by decide +kernel
theorem dX5_makeFile_14 : decode cX5_makeFile 14 = .ok (.iconst 0, 1) := by decide +kernel
theorem dX5_makeFile_15 : decode cX5_makeFile 15 = .ok (.bipush 15, 2) := by decide +kernel
theorem dX5_makeFile_17 : decode cX5_makeFile 17 = .ok (.invokestatic 59, 3) := by decide +kernel
theorem dX5_makeFile_20 : decode cX5_makeFile 20 = .ok (.ifCond .ne 7, 3) := by decide +kernel
theorem dX5_makeFile_23 : decode cX5_makeFile 23 = .ok (.iconst 2, 1) := by decide +kernel
theorem dX5_makeFile_24 : decode cX5_makeFile 24 = .ok (.goto 17, 3) := by decide +kernel
theorem dX5_makeFile_27 : decode cX5_makeFile 27 = .ok (.aload_n 0, 1) := by decide +kernel
theorem dX5_makeFile_28 : decode cX5_makeFile 28 = .ok (.getfield 63, 3) := by decide +kernel
theorem dX5_makeFile_31 : decode cX5_makeFile 31 = .ok (.bipush 20, 2) := by decide +kernel
theorem dX5_makeFile_33 : decode cX5_makeFile 33 = .ok (.if_icmp .ne 7, 3) := by decide +kernel
theorem dX5_makeFile_36 : decode cX5_makeFile 36 = .ok (.iconst 3, 1) := by decide +kernel
theorem dX5_makeFile_37 : decode cX5_makeFile 37 = .ok (.goto 4, 3) := by decide +kernel
theorem dX5_makeFile_40 : decode cX5_makeFile 40 = .ok (.iconst 0, 1) := by decide +kernel
theorem dX5_makeFile_41 : decode cX5_makeFile 41 = .ok (.invokevirtual 70, 3) := by decide +kernel
theorem dX5_makeFile_44 : decode cX5_makeFile 44 = .ok (.ifCond .eq 5, 3) := by decide +kernel
theorem dX5_makeFile_47 : decode cX5_makeFile 47 = .ok (.iconst 0, 1) := by decide +kernel
theorem dX5_makeFile_48 : decode cX5_makeFile 48 = .ok (.ireturn, 1) := by decide +kernel
theorem dX5_makeFile_49 : decode cX5_makeFile 49 = .ok (.aload_n 0, 1) := by decide +kernel
theorem dX5_makeFile_50 : decode cX5_makeFile 50 = .ok (.aload_n 0, 1) := by decide +kernel
theorem dX5_makeFile_51 : decode cX5_makeFile 51 = .ok (.getfield 35, 3) := by decide +kernel
theorem dX5_makeFile_54 : decode cX5_makeFile 54 = .ok (.iload_n 1, 1) := by decide +kernel
theorem dX5_makeFile_55 : decode cX5_makeFile 55 = .ok (.iaload, 1) := by decide +kernel
theorem dX5_makeFile_56 : decode cX5_makeFile 56 = .ok (.aload_n 0, 1) := by decide +kernel
theorem dX5_makeFile_57 : decode cX5_makeFile 57 = .ok (.getfield 38, 3) := by decide +kernel
theorem dX5_makeFile_60 : decode cX5_makeFile 60 = .ok (.iload_n 1, 1) := by decide +kernel
theorem dX5_makeFile_61 : decode cX5_makeFile 61 = .ok (.iaload, 1) := by decide +kernel
theorem dX5_makeFile_62 : decode cX5_makeFile 62 = .ok (.invokevirtual 117, 3) := by decide +kernel
theorem dX5_makeFile_65 : decode cX5_makeFile 65 = .ok (.sipush 999, 3) := by decide +kernel
theorem dX5_makeFile_68 : decode cX5_makeFile 68 = .ok (.if_icmp .ne 10, 3) := by decide +kernel
theorem dX5_makeFile_71 : decode cX5_makeFile 71 = .ok (.aload_n 0, 1) := by decide +kernel
theorem dX5_makeFile_72 : decode cX5_makeFile 72 = .ok (.bipush (-2), 2) := by decide +kernel
theorem dX5_makeFile_74 : decode cX5_makeFile 74 = .ok (.invokevirtual 107, 3) := by decide +kernel
theorem dX5_makeFile_77 : decode cX5_makeFile 77 = .ok (.ireturn, 1) := by decide +kernel
theorem dX5_makeFile_78 : decode cX5_makeFile 78 = .ok (.aload_n 0, 1) := by decide +kernel
theorem dX5_makeFile_79 : decode cX5_makeFile 79 = .ok (.getfield 44, 3) := by decide +kernel
theorem dX5_makeFile_82 : decode cX5_makeFile 82 = .ok (.aload_n 0, 1) := by decide +kernel
theorem dX5_makeFile_83 : decode cX5_makeFile 83 = .ok (.getfield 63, 3) := by decide +kernel
theorem dX5_makeFile_86 : decode cX5_makeFile 86 = .ok (.aload_n 0, 1) := by decide +kernel
theorem dX5_makeFile_87 : decode cX5_makeFile 87 = .ok (.getfield 38, 3) := by decide +kernel
theorem dX5_makeFile_90 : decode cX5_makeFile 90 = .ok (.iload_n 1, 1) := by decide +kernel
theorem dX5_makeFile_91 : decode cX5_makeFile 91 = .ok (.iaload, 1) := by decide +kernel
theorem dX5_makeFile_92 : decode cX5_makeFile 92 = .ok (.iastore, 1) := by decide +kernel
theorem dX5_makeFile_93 : decode cX5_makeFile 93 = .ok (.aload_n 0, 1) := by decide +kernel
theorem dX5_makeFile_94 : decode cX5_makeFile 94 = .ok (.getfield 47, 3) := by decide +kernel
theorem dX5_makeFile_97 : decode cX5_makeFile 97 = .ok (.aload_n 0, 1) := by decide +kernel
theorem dX5_makeFile_98 : decode cX5_makeFile 98 = .ok (.getfield 63, 3) := by decide +kernel
theorem dX5_makeFile_101 : decode cX5_makeFile 101 = .ok (.iload_n 2, 1) := by decide +kernel
theorem dX5_makeFile_102 : decode cX5_makeFile 102 = .ok (.iastore, 1) := by decide +kernel
theorem dX5_makeFile_103 : decode cX5_makeFile 103 = .ok (.aload_n 0, 1) := by decide +kernel
theorem dX5_makeFile_104 : decode cX5_makeFile 104 = .ok (.dup, 1) := by decide +kernel
theorem dX5_makeFile_105 : decode cX5_makeFile 105 = .ok (.getfield 63, 3) := by decide +kernel
theorem dX5_makeFile_108 : decode cX5_makeFile 108 = .ok (.iconst 1, 1) := by decide +kernel
theorem dX5_makeFile_109 : decode cX5_makeFile 109 = .ok (.iadd, 1) := by decide +kernel
theorem dX5_makeFile_110 : decode cX5_makeFile 110 = .ok (.putfield 63, 3) := by decide +kernel
theorem dX5_makeFile_113 : decode cX5_makeFile 113 = .ok (.aload_n 0, 1) := by decide +kernel
theorem dX5_makeFile_114 : decode cX5_makeFile 114 = .ok (.getfield 63, 3) := by decide +kernel
theorem dX5_makeFile_117 : decode cX5_makeFile 117 = .ok (.iconst 1, 1) := by decide +kernel
theorem dX5_makeFile_118 : decode cX5_makeFile 118 = .ok (.isub, 1) := by decide +kernel
theorem dX5_makeFile_119 : decode cX5_makeFile 119 = .ok (.ireturn, 1) := by decide +kernel
theorem dX5_handOver_0 : decode cX5_handOver 0 = .ok (.aload_n 0, 1) := by decide +kernel
theorem dX5_handOver_1 : decode cX5_handOver 1 = .ok (.iload_n 1, 1) := by decide +kernel
theorem dX5_handOver_2 : decode cX5_handOver 2 = .ok (.invokevirtual 66, 3) := by decide +kernel
theorem dX5_handOver_5 : decode cX5_handOver 5 = .ok (.ifCond .eq 15, 3) := by decide +kernel
theorem dX5_handOver_8 : decode cX5_handOver 8 = .ok (.aload_n 0, 1) := by decide +kernel
theorem dX5_handOver_9 : decode cX5_handOver 9 = .ok (.iload_n 2, 1) := by decide +kernel
theorem dX5_handOver_10 : decode cX5_handOver 10 = .ok (.invokevirtual 129, 3) := by decide +kernel
theorem dX5_handOver_13 : decode cX5_handOver 13 = .ok (.ifCond .eq 7, 3) := by decide +kernel
theorem dX5_handOver_16 : decode cX5_handOver 16 = .ok (.iconst 1, 1) := by decide +kernel
theorem dX5_handOver_17 : decode cX5_handOver 17 = .ok (.goto 4, 3) := by decide +kernel
theorem dX5_handOver_20 : decode cX5_handOver 20 = .ok (.iconst 0, 1) := by decide +kernel
theorem dX5_handOver_21 : decode cX5_handOver 21 = .ok (.istore 4, 2) := by decide +kernel
theorem dX5_handOver_23 : decode cX5_handOver 23 = .ok (.aload_n 0, 1) := by decide +kernel
theorem dX5_handOver_24 : decode cX5_handOver 24 = .ok (.iload 4, 2) := by decide +kernel
theorem dX5_handOver_26 : decode cX5_handOver 26 = .ok (.ifCond .ne 7, 3) := by decide +kernel
theorem dX5_handOver_29 : decode cX5_handOver 29 = .ok (.iconst 1, 1) := by decide +kernel
theorem dX5_handOver_30 : decode cX5_handOver 30 = .ok (.goto 15, 3) := by decide +kernel
theorem dX5_handOver_33 : decode cX5_handOver 33 = .ok (.iload_n 3, 1) := by decide +kernel
theorem dX5_handOver_34 : decode cX5_handOver 34 = .ok (.invokestatic 73, 3) := by decide +kernel
theorem dX5_handOver_37 : decode cX5_handOver 37 = .ok (.ifCond .eq 7, 3) := by decide +kernel
theorem dX5_handOver_40 : decode cX5_handOver 40 = .ok (.iconst 0, 1) := by decide +kernel
theorem dX5_handOver_41 : decode cX5_handOver 41 = .ok (.goto 4, 3) := by decide +kernel
theorem dX5_handOver_44 : decode cX5_handOver 44 = .ok (.iconst 2, 1) := by decide +kernel
theorem dX5_handOver_45 : decode cX5_handOver 45 = .ok (.invokevirtual 70, 3) := by decide +kernel
theorem dX5_handOver_48 : decode cX5_handOver 48 = .ok (.ifCond .eq 5, 3) := by decide +kernel
theorem dX5_handOver_51 : decode cX5_handOver 51 = .ok (.iconst 0, 1) := by decide +kernel
theorem dX5_handOver_52 : decode cX5_handOver 52 = .ok (.ireturn, 1) := by decide +kernel
theorem dX5_handOver_53 : decode cX5_handOver 53 = .ok (.aload_n 0, 1) := by decide +kernel
theorem dX5_handOver_54 : decode cX5_handOver 54 = .ok (.aload_n 0, 1) := by decide +kernel
theorem dX5_handOver_55 : decode cX5_handOver 55 = .ok (.getfield 35, 3) := by decide +kernel
theorem dX5_handOver_58 : decode cX5_handOver 58 = .ok (.iload_n 1, 1) := by decide +kernel
theorem dX5_handOver_59 : decode cX5_handOver 59 = .ok (.iaload, 1) := by decide +kernel
theorem dX5_handOver_60 : decode cX5_handOver 60 = .ok (.iload_n 3, 1) := by decide +kernel
theorem dX5_handOver_61 : decode cX5_handOver 61 = .ok (.invokevirtual 87, 3) := by decide +kernel
theorem dX5_handOver_64 : decode cX5_handOver 64 = .ok (.istore 5, 2) := by decide +kernel
theorem dX5_handOver_66 : decode cX5_handOver 66 = .ok (.iload 5, 2) := by decide +kernel
theorem dX5_handOver_68 : decode cX5_handOver 68 = .ok (.iconst (-1), 1) := by decide +kernel
theorem dX5_handOver_69 : decode cX5_handOver 69 = .ok (.if_icmp .eq 25, 3) := by decide +kernel
theorem dX5_handOver_72 : decode cX5_handOver 72 = .ok (.aload_n 0, 1) := by decide +kernel
theorem dX5_handOver_73 : decode cX5_handOver 73 = .ok (.aload_n 0, 1) := by decide +kernel
theorem dX5_handOver_74 : decode cX5_handOver 74 = .ok (.getfield 35, 3) := by decide +kernel
theorem dX5_handOver_77 : decode cX5_handOver 77 = .ok (.iload_n 1, 1) := by decide +kernel
theorem dX5_handOver_78 : decode cX5_handOver 78 = .ok (.iaload, 1) := by decide +kernel
theorem dX5_handOver_79 : decode cX5_handOver 79 = .ok (.aload_n 0, 1) := by decide +kernel
theorem dX5_handOver_80 : decode cX5_handOver 80 = .ok (.getfield 44, 3) := by decide +kernel
theorem dX5_handOver_83 : decode cX5_handOver 83 = .ok (.iload_n 2, 1) := by decide +kernel
theorem dX5_handOver_84 : decode cX5_handOver 84 = .ok (.iaload, 1) := by decide +kernel
theorem dX5_handOver_85 : decode cX5_handOver 85 = .ok (.invokevirtual 117, 3) := by decide +kernel
theorem dX5_handOver_88 : decode cX5_handOver 88 = .ok (.sipush 999, 3) := by decide +kernel
theorem dX5_handOver_91 : decode cX5_handOver 91 = .ok (.if_icmp .ne 7, 3) := by decide +kernel
theorem dX5_handOver_94 : decode cX5_handOver 94 = .ok (.iconst 1, 1) := by decide +kernel
theorem dX5_handOver_95 : decode cX5_handOver 95 = .ok (.goto 4, 3) := by decide +kernel
theorem dX5_handOver_98 : decode cX5_handOver 98 = .ok (.iconst 0, 1) := by decide +kernel
theorem dX5_handOver_99 : decode cX5_handOver 99 = .ok (.istore 6, 2) := by decide +kernel
theorem dX5_handOver_101 : decode cX5_handOver 101 = .ok (.iload 6, 2) := by decide +kernel
theorem dX5_handOver_103 : decode cX5_handOver 103 = .ok (.ifCond .ne 14, 3) := by decide +kernel
theorem dX5_handOver_106 : decode cX5_handOver 106 = .ok (.aload_n 0, 1) := by decide +kernel
theorem dX5_handOver_107 : decode cX5_handOver 107 = .ok (.getfield 41, 3) := by decide +kernel
theorem dX5_handOver_110 : decode cX5_handOver 110 = .ok (.iload_n 1, 1) := by decide +kernel
theorem dX5_handOver_111 : decode cX5_handOver 111 = .ok (.iaload, 1) := by decide +kernel
theorem dX5_handOver_112 : decode cX5_handOver 112 = .ok (.iconst 2, 1) := by decide +kernel
theorem dX5_handOver_113 : decode cX5_handOver 113 = .ok (.iand, 1) := by decide +kernel
theorem dX5_handOver_114 : decode cX5_handOver 114 = .ok (.ifCond .ne 19, 3) := by decide +kernel
theorem dX5_handOver_117 : decode cX5_handOver 117 = .ok (.aload_n 0, 1) := by decide +kernel
theorem dX5_handOver_118 : decode cX5_handOver 118 = .ok (.iload 6, 2) := by decide +kernel
theorem dX5_handOver_120 : decode cX5_handOver 120 = .ok (.ifCond .eq 8, 3) := by decide +kernel
theorem dX5_handOver_123 : decode cX5_handOver 123 = .ok (.bipush (-2), 2) := by decide +kernel
theorem dX5_handOver_125 : decode cX5_handOver 125 = .ok (.goto 4, 3) := by decide +kernel
theorem dX5_handOver_128 : decode cX5_handOver 128 = .ok (.iconst (-1), 1) := by decide +kernel
theorem dX5_handOver_129 : decode cX5_handOver 129 = .ok (.invokevirtual 107, 3) := by decide +kernel
theorem dX5_handOver_132 : decode cX5_handOver 132 = .ok (.ireturn, 1) := by decide +kernel
theorem dX5_handOver_133 : decode cX5_handOver 133 = .ok (.aload_n 0, 1) := by decide +kernel
theorem dX5_handOver_134 : decode cX5_handOver 134 = .ok (.getfield 44, 3) := by decide +kernel
theorem dX5_handOver_137 : decode cX5_handOver 137 = .ok (.iload_n 2, 1) := by decide +kernel
theorem dX5_handOver_138 : decode cX5_handOver 138 = .ok (.iload 5, 2) := by decide +kernel
theorem dX5_handOver_140 : decode cX5_handOver 140 = .ok (.iastore, 1) := by decide +kernel
theorem dX5_handOver_141 : decode cX5_handOver 141 = .ok (.iload 5, 2) := by decide +kernel
theorem dX5_handOver_143 : decode cX5_handOver 143 = .ok (.ireturn, 1) := by decide +kernel
theorem dX5_open_0 : decode cX5_open 0 = .ok (.aload_n 0, 1) := by decide +kernel
theorem dX5_open_1 : decode cX5_open 1 = .ok (.aload_n 0, 1) := by decide +kernel
theorem dX5_open_2 : decode cX5_open 2 = .ok (.iload_n 1, 1) := by decide +kernel
theorem dX5_open_3 : decode cX5_open 3 = .ok (.invokevirtual 66, 3) := by decide +kernel
theorem dX5_open_6 : decode cX5_open 6 = .ok (.ifCond .eq 15, 3) := by decide +kernel
theorem dX5_open_9 : decode cX5_open 9 = .ok (.aload_n 0, 1) := by decide +kernel
theorem dX5_open_10 : decode cX5_open 10 = .ok (.iload_n 2, 1) := by decide +kernel
theorem dX5_open_11 : decode cX5_open 11 = .ok (.invokevirtual 129, 3) := by decide +kernel
theorem dX5_open_14 : decode cX5_open 14 = .ok (.ifCond .eq 7, 3) := by decide +kernel
theorem dX5_open_17 : decode cX5_open 17 = .ok (.iconst 0, 1) := by decide +kernel
theorem dX5_open_18 : decode cX5_open 18 = .ok (.goto 4, 3) := by decide +kernel
theorem dX5_open_21 : decode cX5_open 21 = .ok (.iconst 1, 1) := by decide +kernel
theorem dX5_open_22 : decode cX5_open 22 = .ok (.invokevirtual 70, 3) := by decide +kernel
theorem dX5_open_25 : decode cX5_open 25 = .ok (.ifCond .eq 5, 3) := by decide +kernel
theorem dX5_open_28 : decode cX5_open 28 = .ok (.iconst 0, 1) := by decide +kernel
theorem dX5_open_29 : decode cX5_open 29 = .ok (.ireturn, 1) := by decide +kernel
theorem dX5_open_30 : decode cX5_open 30 = .ok (.iload_n 3, 1) := by decide +kernel
theorem dX5_open_31 : decode cX5_open 31 = .ok (.ifCond .eq 7, 3) := by decide +kernel
theorem dX5_open_34 : decode cX5_open 34 = .ok (.iconst 2, 1) := by decide +kernel
theorem dX5_open_35 : decode cX5_open 35 = .ok (.goto 4, 3) := by decide +kernel
theorem dX5_open_38 : decode cX5_open 38 = .ok (.iconst 1, 1) := by decide +kernel
theorem dX5_open_39 : decode cX5_open 39 = .ok (.aload_n 0, 1) := by decide +kernel
theorem dX5_open_40 : decode cX5_open 40 = .ok (.getfield 38, 3) := by decide +kernel
theorem dX5_open_43 : decode cX5_open 43 = .ok (.iload_n 1, 1) := by decide +kernel
theorem dX5_open_44 : decode cX5_open 44 = .ok (.iaload, 1) := by decide +kernel
theorem dX5_open_45 : decode cX5_open 45 = .ok (.aload_n 0, 1) := by decide +kernel
theorem dX5_open_46 : decode cX5_open 46 = .ok (.getfield 44, 3) := by decide +kernel
theorem dX5_open_49 : decode cX5_open 49 = .ok (.iload_n 2, 1) := by decide +kernel
theorem dX5_open_50 : decode cX5_open 50 = .ok (.iaload, 1) := by decide +kernel
theorem dX5_open_51 : decode cX5_open 51 = .ok (.if_icmp .ne 7, 3) := by decide +kernel
theorem dX5_open_54 : decode cX5_open 54 = .ok (.iconst 1, 1) := by decide +kernel
theorem dX5_open_55 : decode cX5_open 55 = .ok (.goto 4, 3) := by decide +kernel
theorem dX5_open_58 : decode cX5_open 58 = .ok (.iconst 4, 1) := by decide +kernel
theorem dX5_open_59 : decode cX5_open 59 = .ok (.imul, 1) := by decide +kernel
theorem dX5_open_60 : decode cX5_open 60 = .ok (.istore 4, 2) := by decide +kernel
theorem dX5_open_62 : decode cX5_open 62 = .ok (.aload_n 0, 1) := by decide +kernel
theorem dX5_open_63 : decode cX5_open 63 = .ok (.getfield 47, 3) := by decide +kernel
theorem dX5_open_66 : decode cX5_open 66 = .ok (.iload_n 2, 1) := by decide +kernel
theorem dX5_open_67 : decode cX5_open 67 = .ok (.iaload, 1) := by decide +kernel
theorem dX5_open_68 : decode cX5_open 68 = .ok (.iload 4, 2) := by decide +kernel
theorem dX5_open_70 : decode cX5_open 70 = .ok (.iand, 1) := by decide +kernel
theorem dX5_open_71 : decode cX5_open 71 = .ok (.ifCond .eq 5, 3) := by decide +kernel
theorem dX5_open_74 : decode cX5_open 74 = .ok (.iconst 1, 1) := by decide +kernel
theorem dX5_open_75 : decode cX5_open 75 = .ok (.ireturn, 1) := by decide +kernel
theorem dX5_open_76 : decode cX5_open 76 = .ok (.aload_n 0, 1) := by decide +kernel
theorem dX5_open_77 : decode cX5_open 77 = .ok (.getfield 41, 3) := by decide +kernel
theorem dX5_open_80 : decode cX5_open 80 = .ok (.iload_n 1, 1) := by decide +kernel
theorem dX5_open_81 : decode cX5_open 81 = .ok (.iaload, 1) := by decide +kernel
theorem dX5_open_82 : decode cX5_open 82 = .ok (.iconst 4, 1) := by decide +kernel
theorem dX5_open_83 : decode cX5_open 83 = .ok (.iand, 1) := by decide +kernel
theorem dX5_open_84 : decode cX5_open 84 = .ok (.ifCond .ne 10, 3) := by decide +kernel
theorem dX5_open_87 : decode cX5_open 87 = .ok (.aload_n 0, 1) := by decide +kernel
theorem dX5_open_88 : decode cX5_open 88 = .ok (.bipush (-6), 2) := by decide +kernel
theorem dX5_open_90 : decode cX5_open 90 = .ok (.invokevirtual 107, 3) := by decide +kernel
theorem dX5_open_93 : decode cX5_open 93 = .ok (.ireturn, 1) := by decide +kernel
theorem dX5_open_94 : decode cX5_open 94 = .ok (.aload_n 0, 1) := by decide +kernel
theorem dX5_open_95 : decode cX5_open 95 = .ok (.aload_n 0, 1) := by decide +kernel
theorem dX5_open_96 : decode cX5_open 96 = .ok (.getfield 35, 3) := by decide +kernel
theorem dX5_open_99 : decode cX5_open 99 = .ok (.iload_n 1, 1) := by decide +kernel
theorem dX5_open_100 : decode cX5_open 100 = .ok (.iaload, 1) := by decide +kernel
theorem dX5_open_101 : decode cX5_open 101 = .ok (.aload_n 0, 1) := by decide +kernel
theorem dX5_open_102 : decode cX5_open 102 = .ok (.getfield 44, 3) := by decide +kernel
theorem dX5_open_105 : decode cX5_open 105 = .ok (.iload_n 2, 1) := by decide +kernel
theorem dX5_open_106 : decode cX5_open 106 = .ok (.iaload, 1) := by decide +kernel
theorem dX5_open_107 : decode cX5_open 107 = .ok (.invokevirtual 117, 3) := by decide +kernel
theorem dX5_open_110 : decode cX5_open 110 = .ok (.sipush 999, 3) := by decide +kernel
theorem dX5_open_113 : decode cX5_open 113 = .ok (.if_icmp .ne 12, 3) := by decide +kernel
theorem dX5_open_116 : decode cX5_open 116 = .ok (.aload_n 0, 1) := by decide +kernel
theorem dX5_open_117 : decode cX5_open 117 = .ok (.bipush (-2), 2) := by decide +kernel
theorem dX5_open_119 : decode cX5_open 119 = .ok (.invokevirtual 107, 3) := by decide +kernel
theorem dX5_open_122 : decode cX5_open 122 = .ok (.goto 4, 3) := by decide +kernel
theorem dX5_open_125 : decode cX5_open 125 = .ok (.iconst 2, 1) := by decide +kernel
theorem dX5_open_126 : decode cX5_open 126 = .ok (.ireturn, 1) := by decide +kernel
theorem dX5_ownerSeenBy_0 : decode cX5_ownerSeenBy 0 = .ok (.aload_n 0, 1) := by decide +kernel
theorem dX5_ownerSeenBy_1 : decode cX5_ownerSeenBy 1 = .ok (.aload_n 0, 1) := by decide +kernel
theorem dX5_ownerSeenBy_2 : decode cX5_ownerSeenBy 2 = .ok (.iload_n 1, 1) := by decide +kernel
theorem dX5_ownerSeenBy_3 : decode cX5_ownerSeenBy 3 = .ok (.invokevirtual 66, 3) := by decide +kernel
theorem dX5_ownerSeenBy_6 : decode cX5_ownerSeenBy 6 = .ok (.ifCond .eq 15, 3) := by decide +kernel
theorem dX5_ownerSeenBy_9 : decode cX5_ownerSeenBy 9 = .ok (.aload_n 0, 1) := by decide +kernel
theorem dX5_ownerSeenBy_10 : decode cX5_ownerSeenBy 10 = .ok (.iload_n 2, 1) := by decide +kernel
theorem dX5_ownerSeenBy_11 : decode cX5_ownerSeenBy 11 = .ok (.invokevirtual 129, 3) := by decide +kernel
theorem dX5_ownerSeenBy_14 : decode cX5_ownerSeenBy 14 = .ok (.ifCond .eq 7, 3) := by decide +kernel
theorem dX5_ownerSeenBy_17 : decode cX5_ownerSeenBy 17 = .ok (.iconst 0, 1) := by decide +kernel
theorem dX5_ownerSeenBy_18 : decode cX5_ownerSeenBy 18 = .ok (.goto 4, 3) := by decide +kernel
theorem dX5_ownerSeenBy_21 : decode cX5_ownerSeenBy 21 = .ok (.iconst 1, 1) := by decide +kernel
theorem dX5_ownerSeenBy_22 : decode cX5_ownerSeenBy 22 = .ok (.invokevirtual 70, 3) := by decide +kernel
theorem dX5_ownerSeenBy_25 : decode cX5_ownerSeenBy 25 = .ok (.ifCond .eq 7, 3) := by decide +kernel
theorem dX5_ownerSeenBy_28 : decode cX5_ownerSeenBy 28 = .ok (.iconst 0, 1) := by decide +kernel
theorem dX5_ownerSeenBy_29 : decode cX5_ownerSeenBy 29 = .ok (.goto 19, 3) := by decide +kernel
theorem dX5_ownerSeenBy_32 : decode cX5_ownerSeenBy 32 = .ok (.aload_n 0, 1) := by decide +kernel
theorem dX5_ownerSeenBy_33 : decode cX5_ownerSeenBy 33 = .ok (.aload_n 0, 1) := by decide +kernel
theorem dX5_ownerSeenBy_34 : decode cX5_ownerSeenBy 34 = .ok (.getfield 35, 3) := by decide +kernel
theorem dX5_ownerSeenBy_37 : decode cX5_ownerSeenBy 37 = .ok (.iload_n 1, 1) := by decide +kernel
theorem dX5_ownerSeenBy_38 : decode cX5_ownerSeenBy 38 = .ok (.iaload, 1) := by decide +kernel
theorem dX5_ownerSeenBy_39 : decode cX5_ownerSeenBy 39 = .ok (.aload_n 0, 1) := by decide +kernel
theorem dX5_ownerSeenBy_40 : decode cX5_ownerSeenBy 40 = .ok (.getfield 44, 3) := by decide +kernel
theorem dX5_ownerSeenBy_43 : decode cX5_ownerSeenBy 43 = .ok (.iload_n 2, 1) := by decide +kernel
theorem dX5_ownerSeenBy_44 : decode cX5_ownerSeenBy 44 = .ok (.iaload, 1) := by decide +kernel
theorem dX5_ownerSeenBy_45 : decode cX5_ownerSeenBy 45 = .ok (.invokevirtual 117, 3) := by decide +kernel
theorem dX5_ownerSeenBy_48 : decode cX5_ownerSeenBy 48 = .ok (.ireturn, 1) := by decide +kernel
theorem dX5_files_0 : decode cX5_files 0 = .ok (.aload_n 0, 1) := by decide +kernel
theorem dX5_files_1 : decode cX5_files 1 = .ok (.aload_n 0, 1) := by decide +kernel
theorem dX5_files_2 : decode cX5_files 2 = .ok (.getfield 63, 3) := by decide +kernel
theorem dX5_files_5 : decode cX5_files 5 = .ok (.invokevirtual 111, 3) := by decide +kernel
theorem dX5_files_8 : decode cX5_files 8 = .ok (.ireturn, 1) := by decide +kernel
theorem dX5_refusals_0 : decode cX5_refusals 0 = .ok (.aload_n 0, 1) := by decide +kernel
theorem dX5_refusals_1 : decode cX5_refusals 1 = .ok (.aload_n 0, 1) := by decide +kernel
theorem dX5_refusals_2 : decode cX5_refusals 2 = .ok (.getfield 53, 3) := by decide +kernel
theorem dX5_refusals_5 : decode cX5_refusals 5 = .ok (.invokevirtual 111, 3) := by decide +kernel
theorem dX5_refusals_8 : decode cX5_refusals 8 = .ok (.ireturn, 1) := by decide +kernel
theorem dX5_lastRefusal_0 : decode cX5_lastRefusal 0 = .ok (.aload_n 0, 1) := by decide +kernel
theorem dX5_lastRefusal_1 : decode cX5_lastRefusal 1 = .ok (.aload_n 0, 1) := by decide +kernel
theorem dX5_lastRefusal_2 : decode cX5_lastRefusal 2 = .ok (.getfield 56, 3) := by decide +kernel
theorem dX5_lastRefusal_5 : decode cX5_lastRefusal 5 = .ok (.invokevirtual 111, 3) := by decide +kernel
theorem dX5_lastRefusal_8 : decode cX5_lastRefusal 8 = .ok (.ireturn, 1) := by decide +kernel
theorem dL_makeRoom_0 : decode cL_makeRoom 0 = .ok (.aload_n 2, 1) := by decide +kernel
theorem dL_makeRoom_1 : decode cL_makeRoom 1 = .ok (.iconst 0, 1) := by decide +kernel
theorem dL_makeRoom_2 : decode cL_makeRoom 2 = .ok (.aload_n 0, 1) := by decide +kernel
theorem dL_makeRoom_3 : decode cL_makeRoom 3 = .ok (.iload_n 1, 1) := by decide +kernel
theorem dL_makeRoom_4 : decode cL_makeRoom 4 = .ok (.invokevirtual 7, 3) := by decide +kernel
theorem dL_makeRoom_7 : decode cL_makeRoom 7 = .ok (.i2l, 1) := by decide +kernel
theorem dL_makeRoom_8 : decode cL_makeRoom 8 = .ok (.lastore, 1) := by decide +kernel
theorem dL_makeRoom_9 : decode cL_makeRoom 9 = .ok (.goto 9, 3) := by decide +kernel
theorem dL_makeRoom_12 : decode cL_makeRoom 12 = .ok (.astore_n 3, 1) := by decide +kernel
theorem dL_makeRoom_13 : decode cL_makeRoom 13 = .ok (.iconst 1, 1) := by decide +kernel
theorem dL_makeRoom_14 : decode cL_makeRoom 14 = .ok (.ireturn, 1) := by decide +kernel
theorem dL_makeRoom_15 : decode cL_makeRoom 15 = .ok (.astore_n 3, 1) := by decide +kernel
theorem dL_makeRoom_16 : decode cL_makeRoom 16 = .ok (.iconst 2, 1) := by decide +kernel
theorem dL_makeRoom_17 : decode cL_makeRoom 17 = .ok (.ireturn, 1) := by decide +kernel
theorem dL_makeRoom_18 : decode cL_makeRoom 18 = .ok (.iconst 0, 1) := by decide +kernel
theorem dL_makeRoom_19 : decode cL_makeRoom 19 = .ok (.ireturn, 1) := by decide +kernel
theorem dL_line_0 : decode cL_line 0 = .ok (.aload 4, 2) := by decide +kernel
theorem dL_line_2 : decode cL_line 2 = .ok (.iconst 0, 1) := by decide +kernel
theorem dL_line_3 : decode cL_line 3 = .ok (.aload_n 0, 1) := by decide +kernel
theorem dL_line_4 : decode cL_line 4 = .ok (.iload_n 1, 1) := by decide +kernel
theorem dL_line_5 : decode cL_line 5 = .ok (.iload_n 2, 1) := by decide +kernel
theorem dL_line_6 : decode cL_line 6 = .ok (.iload_n 3, 1) := by decide +kernel
theorem dL_line_7 : decode cL_line 7 = .ok (.invokevirtual 17, 3) := by decide +kernel
theorem dL_line_10 : decode cL_line 10 = .ok (.i2l, 1) := by decide +kernel
theorem dL_line_11 : decode cL_line 11 = .ok (.lastore, 1) := by decide +kernel
theorem dL_line_12 : decode cL_line 12 = .ok (.goto 11, 3) := by decide +kernel
theorem dL_line_15 : decode cL_line 15 = .ok (.astore 5, 2) := by decide +kernel
theorem dL_line_17 : decode cL_line 17 = .ok (.iconst 1, 1) := by decide +kernel
theorem dL_line_18 : decode cL_line 18 = .ok (.ireturn, 1) := by decide +kernel
theorem dL_line_19 : decode cL_line 19 = .ok (.astore 5, 2) := by decide +kernel
theorem dL_line_21 : decode cL_line 21 = .ok (.iconst 2, 1) := by decide +kernel
theorem dL_line_22 : decode cL_line 22 = .ok (.ireturn, 1) := by decide +kernel
theorem dL_line_23 : decode cL_line 23 = .ok (.iconst 0, 1) := by decide +kernel
theorem dL_line_24 : decode cL_line 24 = .ok (.ireturn, 1) := by decide +kernel
theorem dL_writeMap_0 : decode cL_writeMap 0 = .ok (.aload_n 3, 1) := by decide +kernel
theorem dL_writeMap_1 : decode cL_writeMap 1 = .ok (.iconst 0, 1) := by decide +kernel
theorem dL_writeMap_2 : decode cL_writeMap 2 = .ok (.aload_n 0, 1) := by decide +kernel
theorem dL_writeMap_3 : decode cL_writeMap 3 = .ok (.iload_n 1, 1) := by decide +kernel
theorem dL_writeMap_4 : decode cL_writeMap 4 = .ok (.iload_n 2, 1) := by decide +kernel
theorem dL_writeMap_5 : decode cL_writeMap 5 = .ok (.invokevirtual 23, 3) := by decide +kernel
theorem dL_writeMap_8 : decode cL_writeMap 8 = .ok (.i2l, 1) := by decide +kernel
theorem dL_writeMap_9 : decode cL_writeMap 9 = .ok (.lastore, 1) := by decide +kernel
theorem dL_writeMap_10 : decode cL_writeMap 10 = .ok (.goto 7, 3) := by decide +kernel
theorem dL_writeMap_13 : decode cL_writeMap 13 = .ok (.astore 4, 2) := by decide +kernel
theorem dL_writeMap_15 : decode cL_writeMap 15 = .ok (.iconst 1, 1) := by decide +kernel
theorem dL_writeMap_16 : decode cL_writeMap 16 = .ok (.ireturn, 1) := by decide +kernel
theorem dL_writeMap_17 : decode cL_writeMap 17 = .ok (.iconst 0, 1) := by decide +kernel
theorem dL_writeMap_18 : decode cL_writeMap 18 = .ok (.ireturn, 1) := by decide +kernel
theorem dL_outerOf_0 : decode cL_outerOf 0 = .ok (.aload_n 2, 1) := by decide +kernel
theorem dL_outerOf_1 : decode cL_outerOf 1 = .ok (.iconst 0, 1) := by decide +kernel
theorem dL_outerOf_2 : decode cL_outerOf 2 = .ok (.aload_n 0, 1) := by decide +kernel
theorem dL_outerOf_3 : decode cL_outerOf 3 = .ok (.iload_n 1, 1) := by decide +kernel
theorem dL_outerOf_4 : decode cL_outerOf 4 = .ok (.invokevirtual 27, 3) := by decide +kernel
theorem dL_outerOf_7 : decode cL_outerOf 7 = .ok (.i2l, 1) := by decide +kernel
theorem dL_outerOf_8 : decode cL_outerOf 8 = .ok (.lastore, 1) := by decide +kernel
theorem dL_outerOf_9 : decode cL_outerOf 9 = .ok (.goto 6, 3) := by decide +kernel
theorem dL_outerOf_12 : decode cL_outerOf 12 = .ok (.astore_n 3, 1) := by decide +kernel
theorem dL_outerOf_13 : decode cL_outerOf 13 = .ok (.iconst 1, 1) := by decide +kernel
theorem dL_outerOf_14 : decode cL_outerOf 14 = .ok (.ireturn, 1) := by decide +kernel
theorem dL_outerOf_15 : decode cL_outerOf 15 = .ok (.iconst 0, 1) := by decide +kernel
theorem dL_outerOf_16 : decode cL_outerOf 16 = .ok (.ireturn, 1) := by decide +kernel
theorem dL_leadsTo_0 : decode cL_leadsTo 0 = .ok (.aload_n 3, 1) := by decide +kernel
theorem dL_leadsTo_1 : decode cL_leadsTo 1 = .ok (.iconst 0, 1) := by decide +kernel
theorem dL_leadsTo_2 : decode cL_leadsTo 2 = .ok (.aload_n 0, 1) := by decide +kernel
theorem dL_leadsTo_3 : decode cL_leadsTo 3 = .ok (.iload_n 1, 1) := by decide +kernel
theorem dL_leadsTo_4 : decode cL_leadsTo 4 = .ok (.iload_n 2, 1) := by decide +kernel
theorem dL_leadsTo_5 : decode cL_leadsTo 5 = .ok (.invokevirtual 30, 3) := by decide +kernel
theorem dL_leadsTo_8 : decode cL_leadsTo 8 = .ok (.i2l, 1) := by decide +kernel
theorem dL_leadsTo_9 : decode cL_leadsTo 9 = .ok (.lastore, 1) := by decide +kernel
theorem dL_leadsTo_10 : decode cL_leadsTo 10 = .ok (.goto 11, 3) := by decide +kernel
theorem dL_leadsTo_13 : decode cL_leadsTo 13 = .ok (.astore 4, 2) := by decide +kernel
theorem dL_leadsTo_15 : decode cL_leadsTo 15 = .ok (.iconst 1, 1) := by decide +kernel
theorem dL_leadsTo_16 : decode cL_leadsTo 16 = .ok (.ireturn, 1) := by decide +kernel
theorem dL_leadsTo_17 : decode cL_leadsTo 17 = .ok (.astore 4, 2) := by decide +kernel
theorem dL_leadsTo_19 : decode cL_leadsTo 19 = .ok (.iconst 2, 1) := by decide +kernel
theorem dL_leadsTo_20 : decode cL_leadsTo 20 = .ok (.ireturn, 1) := by decide +kernel
theorem dL_leadsTo_21 : decode cL_leadsTo 21 = .ok (.iconst 0, 1) := by decide +kernel
theorem dL_leadsTo_22 : decode cL_leadsTo 22 = .ok (.ireturn, 1) := by decide +kernel
theorem dL_seenAs_0 : decode cL_seenAs 0 = .ok (.aload_n 3, 1) := by decide +kernel
theorem dL_seenAs_1 : decode cL_seenAs 1 = .ok (.iconst 0, 1) := by decide +kernel
theorem dL_seenAs_2 : decode cL_seenAs 2 = .ok (.aload_n 0, 1) := by decide +kernel
theorem dL_seenAs_3 : decode cL_seenAs 3 = .ok (.iload_n 1, 1) := by decide +kernel
theorem dL_seenAs_4 : decode cL_seenAs 4 = .ok (.iload_n 2, 1) := by decide +kernel
theorem dL_seenAs_5 : decode cL_seenAs 5 = .ok (.invokevirtual 33, 3) := by decide +kernel
theorem dL_seenAs_8 : decode cL_seenAs 8 = .ok (.i2l, 1) := by decide +kernel
theorem dL_seenAs_9 : decode cL_seenAs 9 = .ok (.lastore, 1) := by decide +kernel
theorem dL_seenAs_10 : decode cL_seenAs 10 = .ok (.goto 11, 3) := by decide +kernel
theorem dL_seenAs_13 : decode cL_seenAs 13 = .ok (.astore 4, 2) := by decide +kernel
theorem dL_seenAs_15 : decode cL_seenAs 15 = .ok (.iconst 1, 1) := by decide +kernel
theorem dL_seenAs_16 : decode cL_seenAs 16 = .ok (.ireturn, 1) := by decide +kernel
theorem dL_seenAs_17 : decode cL_seenAs 17 = .ok (.astore 4, 2) := by decide +kernel
theorem dL_seenAs_19 : decode cL_seenAs 19 = .ok (.iconst 2, 1) := by decide +kernel
theorem dL_seenAs_20 : decode cL_seenAs 20 = .ok (.ireturn, 1) := by decide +kernel
theorem dL_seenAs_21 : decode cL_seenAs 21 = .ok (.iconst 0, 1) := by decide +kernel
theorem dL_seenAs_22 : decode cL_seenAs 22 = .ok (.ireturn, 1) := by decide +kernel
theorem dL_seenByLeading_0 : decode cL_seenByLeading 0 = .ok (.aload_n 3, 1) := by decide +kernel
theorem dL_seenByLeading_1 : decode cL_seenByLeading 1 = .ok (.iconst 0, 1) := by decide +kernel
theorem dL_seenByLeading_2 : decode cL_seenByLeading 2 = .ok (.aload_n 0, 1) := by decide +kernel
theorem dL_seenByLeading_3 : decode cL_seenByLeading 3 = .ok (.iload_n 1, 1) := by decide +kernel
theorem dL_seenByLeading_4 : decode cL_seenByLeading 4 = .ok (.iload_n 2, 1) := by decide +kernel
theorem dL_seenByLeading_5 : decode cL_seenByLeading 5 = .ok (.invokevirtual 36, 3) := by decide +kernel
theorem dL_seenByLeading_8 : decode cL_seenByLeading 8 = .ok (.i2l, 1) := by decide +kernel
theorem dL_seenByLeading_9 : decode cL_seenByLeading 9 = .ok (.lastore, 1) := by decide +kernel
theorem dL_seenByLeading_10 : decode cL_seenByLeading 10 = .ok (.goto 11, 3) := by decide +kernel
theorem dL_seenByLeading_13 : decode cL_seenByLeading 13 = .ok (.astore 4, 2) := by decide +kernel
theorem dL_seenByLeading_15 : decode cL_seenByLeading 15 = .ok (.iconst 1, 1) := by decide +kernel
theorem dL_seenByLeading_16 : decode cL_seenByLeading 16 = .ok (.ireturn, 1) := by decide +kernel
theorem dL_seenByLeading_17 : decode cL_seenByLeading 17 = .ok (.astore 4, 2) := by decide +kernel
theorem dL_seenByLeading_19 : decode cL_seenByLeading 19 = .ok (.iconst 2, 1) := by decide +kernel
theorem dL_seenByLeading_20 : decode cL_seenByLeading 20 = .ok (.ireturn, 1) := by decide +kernel
theorem dL_seenByLeading_21 : decode cL_seenByLeading 21 = .ok (.iconst 0, 1) := by decide +kernel
theorem dL_seenByLeading_22 : decode cL_seenByLeading 22 = .ok (.ireturn, 1) := by decide +kernel
theorem dL_fork_0 : decode cL_fork 0 = .ok (.aload_n 2, 1) := by decide +kernel
theorem dL_fork_1 : decode cL_fork 1 = .ok (.iconst 0, 1) := by decide +kernel
theorem dL_fork_2 : decode cL_fork 2 = .ok (.aload_n 0, 1) := by decide +kernel
theorem dL_fork_3 : decode cL_fork 3 = .ok (.iload_n 1, 1) := by decide +kernel
theorem dL_fork_4 : decode cL_fork 4 = .ok (.invokevirtual 39, 3) := by decide +kernel
theorem dL_fork_7 : decode cL_fork 7 = .ok (.i2l, 1) := by decide +kernel
theorem dL_fork_8 : decode cL_fork 8 = .ok (.lastore, 1) := by decide +kernel
theorem dL_fork_9 : decode cL_fork 9 = .ok (.goto 9, 3) := by decide +kernel
theorem dL_fork_12 : decode cL_fork 12 = .ok (.astore_n 3, 1) := by decide +kernel
theorem dL_fork_13 : decode cL_fork 13 = .ok (.iconst 1, 1) := by decide +kernel
theorem dL_fork_14 : decode cL_fork 14 = .ok (.ireturn, 1) := by decide +kernel
theorem dL_fork_15 : decode cL_fork 15 = .ok (.astore_n 3, 1) := by decide +kernel
theorem dL_fork_16 : decode cL_fork 16 = .ok (.iconst 2, 1) := by decide +kernel
theorem dL_fork_17 : decode cL_fork 17 = .ok (.ireturn, 1) := by decide +kernel
theorem dL_fork_18 : decode cL_fork 18 = .ok (.iconst 0, 1) := by decide +kernel
theorem dL_fork_19 : decode cL_fork 19 = .ok (.ireturn, 1) := by decide +kernel
theorem dL_drop_0 : decode cL_drop 0 = .ok (.aload_n 3, 1) := by decide +kernel
theorem dL_drop_1 : decode cL_drop 1 = .ok (.iconst 0, 1) := by decide +kernel
theorem dL_drop_2 : decode cL_drop 2 = .ok (.aload_n 0, 1) := by decide +kernel
theorem dL_drop_3 : decode cL_drop 3 = .ok (.iload_n 1, 1) := by decide +kernel
theorem dL_drop_4 : decode cL_drop 4 = .ok (.iload_n 2, 1) := by decide +kernel
theorem dL_drop_5 : decode cL_drop 5 = .ok (.invokevirtual 42, 3) := by decide +kernel
theorem dL_drop_8 : decode cL_drop 8 = .ok (.i2l, 1) := by decide +kernel
theorem dL_drop_9 : decode cL_drop 9 = .ok (.lastore, 1) := by decide +kernel
theorem dL_drop_10 : decode cL_drop 10 = .ok (.goto 11, 3) := by decide +kernel
theorem dL_drop_13 : decode cL_drop 13 = .ok (.astore 4, 2) := by decide +kernel
theorem dL_drop_15 : decode cL_drop 15 = .ok (.iconst 1, 1) := by decide +kernel
theorem dL_drop_16 : decode cL_drop 16 = .ok (.ireturn, 1) := by decide +kernel
theorem dL_drop_17 : decode cL_drop 17 = .ok (.astore 4, 2) := by decide +kernel
theorem dL_drop_19 : decode cL_drop 19 = .ok (.iconst 2, 1) := by decide +kernel
theorem dL_drop_20 : decode cL_drop 20 = .ok (.ireturn, 1) := by decide +kernel
theorem dL_drop_21 : decode cL_drop 21 = .ok (.iconst 0, 1) := by decide +kernel
theorem dL_drop_22 : decode cL_drop 22 = .ok (.ireturn, 1) := by decide +kernel
theorem dL_enter_0 : decode cL_enter 0 = .ok (.aload_n 3, 1) := by decide +kernel
theorem dL_enter_1 : decode cL_enter 1 = .ok (.iconst 0, 1) := by decide +kernel
theorem dL_enter_2 : decode cL_enter 2 = .ok (.aload_n 0, 1) := by decide +kernel
theorem dL_enter_3 : decode cL_enter 3 = .ok (.iload_n 1, 1) := by decide +kernel
theorem dL_enter_4 : decode cL_enter 4 = .ok (.iload_n 2, 1) := by decide +kernel
theorem dL_enter_5 : decode cL_enter 5 = .ok (.invokevirtual 45, 3) := by decide +kernel
theorem dL_enter_8 : decode cL_enter 8 = .ok (.i2l, 1) := by decide +kernel
theorem dL_enter_9 : decode cL_enter 9 = .ok (.lastore, 1) := by decide +kernel
theorem dL_enter_10 : decode cL_enter 10 = .ok (.goto 7, 3) := by decide +kernel
theorem dL_enter_13 : decode cL_enter 13 = .ok (.astore 4, 2) := by decide +kernel
theorem dL_enter_15 : decode cL_enter 15 = .ok (.iconst 1, 1) := by decide +kernel
theorem dL_enter_16 : decode cL_enter 16 = .ok (.ireturn, 1) := by decide +kernel
theorem dL_enter_17 : decode cL_enter 17 = .ok (.iconst 0, 1) := by decide +kernel
theorem dL_enter_18 : decode cL_enter 18 = .ok (.ireturn, 1) := by decide +kernel
theorem dL_setNumber_0 : decode cL_setNumber 0 = .ok (.aload_n 3, 1) := by decide +kernel
theorem dL_setNumber_1 : decode cL_setNumber 1 = .ok (.iconst 0, 1) := by decide +kernel
theorem dL_setNumber_2 : decode cL_setNumber 2 = .ok (.aload_n 0, 1) := by decide +kernel
theorem dL_setNumber_3 : decode cL_setNumber 3 = .ok (.iload_n 1, 1) := by decide +kernel
theorem dL_setNumber_4 : decode cL_setNumber 4 = .ok (.iload_n 2, 1) := by decide +kernel
theorem dL_setNumber_5 : decode cL_setNumber 5 = .ok (.invokevirtual 48, 3) := by decide +kernel
theorem dL_setNumber_8 : decode cL_setNumber 8 = .ok (.i2l, 1) := by decide +kernel
theorem dL_setNumber_9 : decode cL_setNumber 9 = .ok (.lastore, 1) := by decide +kernel
theorem dL_setNumber_10 : decode cL_setNumber 10 = .ok (.goto 11, 3) := by decide +kernel
theorem dL_setNumber_13 : decode cL_setNumber 13 = .ok (.astore 4, 2) := by decide +kernel
theorem dL_setNumber_15 : decode cL_setNumber 15 = .ok (.iconst 1, 1) := by decide +kernel
theorem dL_setNumber_16 : decode cL_setNumber 16 = .ok (.ireturn, 1) := by decide +kernel
theorem dL_setNumber_17 : decode cL_setNumber 17 = .ok (.astore 4, 2) := by decide +kernel
theorem dL_setNumber_19 : decode cL_setNumber 19 = .ok (.iconst 2, 1) := by decide +kernel
theorem dL_setNumber_20 : decode cL_setNumber 20 = .ok (.ireturn, 1) := by decide +kernel
theorem dL_setNumber_21 : decode cL_setNumber 21 = .ok (.iconst 0, 1) := by decide +kernel
theorem dL_setNumber_22 : decode cL_setNumber 22 = .ok (.ireturn, 1) := by decide +kernel
theorem dL_roomOf_0 : decode cL_roomOf 0 = .ok (.aload_n 2, 1) := by decide +kernel
theorem dL_roomOf_1 : decode cL_roomOf 1 = .ok (.iconst 0, 1) := by decide +kernel
theorem dL_roomOf_2 : decode cL_roomOf 2 = .ok (.aload_n 0, 1) := by decide +kernel
theorem dL_roomOf_3 : decode cL_roomOf 3 = .ok (.iload_n 1, 1) := by decide +kernel
theorem dL_roomOf_4 : decode cL_roomOf 4 = .ok (.invokevirtual 51, 3) := by decide +kernel
theorem dL_roomOf_7 : decode cL_roomOf 7 = .ok (.i2l, 1) := by decide +kernel
theorem dL_roomOf_8 : decode cL_roomOf 8 = .ok (.lastore, 1) := by decide +kernel
theorem dL_roomOf_9 : decode cL_roomOf 9 = .ok (.goto 6, 3) := by decide +kernel
theorem dL_roomOf_12 : decode cL_roomOf 12 = .ok (.astore_n 3, 1) := by decide +kernel
theorem dL_roomOf_13 : decode cL_roomOf 13 = .ok (.iconst 1, 1) := by decide +kernel
theorem dL_roomOf_14 : decode cL_roomOf 14 = .ok (.ireturn, 1) := by decide +kernel
theorem dL_roomOf_15 : decode cL_roomOf 15 = .ok (.iconst 0, 1) := by decide +kernel
theorem dL_roomOf_16 : decode cL_roomOf 16 = .ok (.ireturn, 1) := by decide +kernel
theorem dL_numberOf_0 : decode cL_numberOf 0 = .ok (.aload_n 2, 1) := by decide +kernel
theorem dL_numberOf_1 : decode cL_numberOf 1 = .ok (.iconst 0, 1) := by decide +kernel
theorem dL_numberOf_2 : decode cL_numberOf 2 = .ok (.aload_n 0, 1) := by decide +kernel
theorem dL_numberOf_3 : decode cL_numberOf 3 = .ok (.iload_n 1, 1) := by decide +kernel
theorem dL_numberOf_4 : decode cL_numberOf 4 = .ok (.invokevirtual 54, 3) := by decide +kernel
theorem dL_numberOf_7 : decode cL_numberOf 7 = .ok (.i2l, 1) := by decide +kernel
theorem dL_numberOf_8 : decode cL_numberOf 8 = .ok (.lastore, 1) := by decide +kernel
theorem dL_numberOf_9 : decode cL_numberOf 9 = .ok (.goto 6, 3) := by decide +kernel
theorem dL_numberOf_12 : decode cL_numberOf 12 = .ok (.astore_n 3, 1) := by decide +kernel
theorem dL_numberOf_13 : decode cL_numberOf 13 = .ok (.iconst 1, 1) := by decide +kernel
theorem dL_numberOf_14 : decode cL_numberOf 14 = .ok (.ireturn, 1) := by decide +kernel
theorem dL_numberOf_15 : decode cL_numberOf 15 = .ok (.iconst 0, 1) := by decide +kernel
theorem dL_numberOf_16 : decode cL_numberOf 16 = .ok (.ireturn, 1) := by decide +kernel
theorem dL_rightsIn_0 : decode cL_rightsIn 0 = .ok (.aload_n 3, 1) := by decide +kernel
theorem dL_rightsIn_1 : decode cL_rightsIn 1 = .ok (.iconst 0, 1) := by decide +kernel
theorem dL_rightsIn_2 : decode cL_rightsIn 2 = .ok (.aload_n 0, 1) := by decide +kernel
theorem dL_rightsIn_3 : decode cL_rightsIn 3 = .ok (.iload_n 1, 1) := by decide +kernel
theorem dL_rightsIn_4 : decode cL_rightsIn 4 = .ok (.iload_n 2, 1) := by decide +kernel
theorem dL_rightsIn_5 : decode cL_rightsIn 5 = .ok (.invokevirtual 57, 3) := by decide +kernel
theorem dL_rightsIn_8 : decode cL_rightsIn 8 = .ok (.i2l, 1) := by decide +kernel
theorem dL_rightsIn_9 : decode cL_rightsIn 9 = .ok (.lastore, 1) := by decide +kernel
theorem dL_rightsIn_10 : decode cL_rightsIn 10 = .ok (.goto 7, 3) := by decide +kernel
theorem dL_rightsIn_13 : decode cL_rightsIn 13 = .ok (.astore 4, 2) := by decide +kernel
theorem dL_rightsIn_15 : decode cL_rightsIn 15 = .ok (.iconst 1, 1) := by decide +kernel
theorem dL_rightsIn_16 : decode cL_rightsIn 16 = .ok (.ireturn, 1) := by decide +kernel
theorem dL_rightsIn_17 : decode cL_rightsIn 17 = .ok (.iconst 0, 1) := by decide +kernel
theorem dL_rightsIn_18 : decode cL_rightsIn 18 = .ok (.ireturn, 1) := by decide +kernel
theorem dL_makeFile_0 : decode cL_makeFile 0 = .ok (.aload_n 3, 1) := by decide +kernel
theorem dL_makeFile_1 : decode cL_makeFile 1 = .ok (.iconst 0, 1) := by decide +kernel
theorem dL_makeFile_2 : decode cL_makeFile 2 = .ok (.aload_n 0, 1) := by decide +kernel
theorem dL_makeFile_3 : decode cL_makeFile 3 = .ok (.iload_n 1, 1) := by decide +kernel
theorem dL_makeFile_4 : decode cL_makeFile 4 = .ok (.iload_n 2, 1) := by decide +kernel
theorem dL_makeFile_5 : decode cL_makeFile 5 = .ok (.invokevirtual 60, 3) := by decide +kernel
theorem dL_makeFile_8 : decode cL_makeFile 8 = .ok (.i2l, 1) := by decide +kernel
theorem dL_makeFile_9 : decode cL_makeFile 9 = .ok (.lastore, 1) := by decide +kernel
theorem dL_makeFile_10 : decode cL_makeFile 10 = .ok (.goto 15, 3) := by decide +kernel
theorem dL_makeFile_13 : decode cL_makeFile 13 = .ok (.astore 4, 2) := by decide +kernel
theorem dL_makeFile_15 : decode cL_makeFile 15 = .ok (.iconst 1, 1) := by decide +kernel
theorem dL_makeFile_16 : decode cL_makeFile 16 = .ok (.ireturn, 1) := by decide +kernel
theorem dL_makeFile_17 : decode cL_makeFile 17 = .ok (.astore 4, 2) := by decide +kernel
theorem dL_makeFile_19 : decode cL_makeFile 19 = .ok (.iconst 2, 1) := by decide +kernel
theorem dL_makeFile_20 : decode cL_makeFile 20 = .ok (.ireturn, 1) := by decide +kernel
theorem dL_makeFile_21 : decode cL_makeFile 21 = .ok (.astore 4, 2) := by decide +kernel
theorem dL_makeFile_23 : decode cL_makeFile 23 = .ok (.iconst 3, 1) := by decide +kernel
theorem dL_makeFile_24 : decode cL_makeFile 24 = .ok (.ireturn, 1) := by decide +kernel
theorem dL_makeFile_25 : decode cL_makeFile 25 = .ok (.iconst 0, 1) := by decide +kernel
theorem dL_makeFile_26 : decode cL_makeFile 26 = .ok (.ireturn, 1) := by decide +kernel
theorem dL_handOver_0 : decode cL_handOver 0 = .ok (.aload 4, 2) := by decide +kernel
theorem dL_handOver_2 : decode cL_handOver 2 = .ok (.iconst 0, 1) := by decide +kernel
theorem dL_handOver_3 : decode cL_handOver 3 = .ok (.aload_n 0, 1) := by decide +kernel
theorem dL_handOver_4 : decode cL_handOver 4 = .ok (.iload_n 1, 1) := by decide +kernel
theorem dL_handOver_5 : decode cL_handOver 5 = .ok (.iload_n 2, 1) := by decide +kernel
theorem dL_handOver_6 : decode cL_handOver 6 = .ok (.iload_n 3, 1) := by decide +kernel
theorem dL_handOver_7 : decode cL_handOver 7 = .ok (.invokevirtual 63, 3) := by decide +kernel
theorem dL_handOver_10 : decode cL_handOver 10 = .ok (.i2l, 1) := by decide +kernel
theorem dL_handOver_11 : decode cL_handOver 11 = .ok (.lastore, 1) := by decide +kernel
theorem dL_handOver_12 : decode cL_handOver 12 = .ok (.goto 11, 3) := by decide +kernel
theorem dL_handOver_15 : decode cL_handOver 15 = .ok (.astore 5, 2) := by decide +kernel
theorem dL_handOver_17 : decode cL_handOver 17 = .ok (.iconst 1, 1) := by decide +kernel
theorem dL_handOver_18 : decode cL_handOver 18 = .ok (.ireturn, 1) := by decide +kernel
theorem dL_handOver_19 : decode cL_handOver 19 = .ok (.astore 5, 2) := by decide +kernel
theorem dL_handOver_21 : decode cL_handOver 21 = .ok (.iconst 2, 1) := by decide +kernel
theorem dL_handOver_22 : decode cL_handOver 22 = .ok (.ireturn, 1) := by decide +kernel
theorem dL_handOver_23 : decode cL_handOver 23 = .ok (.iconst 0, 1) := by decide +kernel
theorem dL_handOver_24 : decode cL_handOver 24 = .ok (.ireturn, 1) := by decide +kernel
theorem dL_open_0 : decode cL_open 0 = .ok (.aload 4, 2) := by decide +kernel
theorem dL_open_2 : decode cL_open 2 = .ok (.iconst 0, 1) := by decide +kernel
theorem dL_open_3 : decode cL_open 3 = .ok (.aload_n 0, 1) := by decide +kernel
theorem dL_open_4 : decode cL_open 4 = .ok (.iload_n 1, 1) := by decide +kernel
theorem dL_open_5 : decode cL_open 5 = .ok (.iload_n 2, 1) := by decide +kernel
theorem dL_open_6 : decode cL_open 6 = .ok (.iload_n 3, 1) := by decide +kernel
theorem dL_open_7 : decode cL_open 7 = .ok (.invokevirtual 66, 3) := by decide +kernel
theorem dL_open_10 : decode cL_open 10 = .ok (.i2l, 1) := by decide +kernel
theorem dL_open_11 : decode cL_open 11 = .ok (.lastore, 1) := by decide +kernel
theorem dL_open_12 : decode cL_open 12 = .ok (.goto 7, 3) := by decide +kernel
theorem dL_open_15 : decode cL_open 15 = .ok (.astore 5, 2) := by decide +kernel
theorem dL_open_17 : decode cL_open 17 = .ok (.iconst 1, 1) := by decide +kernel
theorem dL_open_18 : decode cL_open 18 = .ok (.ireturn, 1) := by decide +kernel
theorem dL_open_19 : decode cL_open 19 = .ok (.iconst 0, 1) := by decide +kernel
theorem dL_open_20 : decode cL_open 20 = .ok (.ireturn, 1) := by decide +kernel
theorem dL_ownerSeenBy_0 : decode cL_ownerSeenBy 0 = .ok (.aload_n 3, 1) := by decide +kernel
theorem dL_ownerSeenBy_1 : decode cL_ownerSeenBy 1 = .ok (.iconst 0, 1) := by decide +kernel
theorem dL_ownerSeenBy_2 : decode cL_ownerSeenBy 2 = .ok (.aload_n 0, 1) := by decide +kernel
theorem dL_ownerSeenBy_3 : decode cL_ownerSeenBy 3 = .ok (.iload_n 1, 1) := by decide +kernel
theorem dL_ownerSeenBy_4 : decode cL_ownerSeenBy 4 = .ok (.iload_n 2, 1) := by decide +kernel
theorem dL_ownerSeenBy_5 : decode cL_ownerSeenBy 5 = .ok (.invokevirtual 70, 3) := by decide +kernel
theorem dL_ownerSeenBy_8 : decode cL_ownerSeenBy 8 = .ok (.i2l, 1) := by decide +kernel
theorem dL_ownerSeenBy_9 : decode cL_ownerSeenBy 9 = .ok (.lastore, 1) := by decide +kernel
theorem dL_ownerSeenBy_10 : decode cL_ownerSeenBy 10 = .ok (.goto 7, 3) := by decide +kernel
theorem dL_ownerSeenBy_13 : decode cL_ownerSeenBy 13 = .ok (.astore 4, 2) := by decide +kernel
theorem dL_ownerSeenBy_15 : decode cL_ownerSeenBy 15 = .ok (.iconst 1, 1) := by decide +kernel
theorem dL_ownerSeenBy_16 : decode cL_ownerSeenBy 16 = .ok (.ireturn, 1) := by decide +kernel
theorem dL_ownerSeenBy_17 : decode cL_ownerSeenBy 17 = .ok (.iconst 0, 1) := by decide +kernel
theorem dL_ownerSeenBy_18 : decode cL_ownerSeenBy 18 = .ok (.ireturn, 1) := by decide +kernel
end
section
theorem dL_law_0 : decode cL_law 0 = .ok (.new 8, 3) := by decide +kernel
theorem dL_law_3 : decode cL_law 3 = .ok (.dup, 1) := by decide +kernel
theorem dL_law_4 : decode cL_law 4 = .ok (.invokespecial 73, 3) := by decide +kernel
theorem dL_law_7 : decode cL_law 7 = .ok (.astore_n 1, 1) := by decide +kernel
theorem dL_law_8 : decode cL_law 8 = .ok (.new 74, 3) := by decide +kernel
theorem dL_law_11 : decode cL_law 11 = .ok (.dup, 1) := by decide +kernel
theorem dL_law_12 : decode cL_law 12 = .ok (.invokespecial 76, 3) := by decide +kernel
theorem dL_law_15 : decode cL_law 15 = .ok (.astore_n 2, 1) := by decide +kernel
theorem dL_law_16 : decode cL_law 16 = .ok (.iconst 1, 1) := by decide +kernel
theorem dL_law_17 : decode cL_law 17 = .ok (.newarray .long, 2) := by decide +kernel
theorem dL_law_19 : decode cL_law 19 = .ok (.astore_n 3, 1) := by decide +kernel
theorem dL_law_20 : decode cL_law 20 = .ok (.iconst 0, 1) := by decide +kernel
theorem dL_law_21 : decode cL_law 21 = .ok (.istore 4, 2) := by decide +kernel
theorem dL_law_23 : decode cL_law 23 = .ok (.iload 4, 2) := by decide +kernel
theorem dL_law_25 : decode cL_law 25 = .ok (.aload_n 0, 1) := by decide +kernel
theorem dL_law_26 : decode cL_law 26 = .ok (.arraylength, 1) := by decide +kernel
theorem dL_law_27 : decode cL_law 27 = .ok (.iconst 4, 1) := by decide +kernel
theorem dL_law_28 : decode cL_law 28 = .ok (.isub, 1) := by decide +kernel
theorem dL_law_29 : decode cL_law 29 = .ok (.if_icmp .gt 1402, 3) := by decide +kernel
theorem dL_law_32 : decode cL_law 32 = .ok (.aload_n 0, 1) := by decide +kernel
theorem dL_law_33 : decode cL_law 33 = .ok (.iload 4, 2) := by decide +kernel
theorem dL_law_35 : decode cL_law 35 = .ok (.iaload, 1) := by decide +kernel
theorem dL_law_36 : decode cL_law 36 = .ok (.bipush 31, 2) := by decide +kernel
theorem dL_law_38 : decode cL_law 38 = .ok (.iand, 1) := by decide +kernel
theorem dL_law_39 : decode cL_law 39 = .ok (.tableswitch 1386 0 22 #[105, 161, 241, 309, 322, 378, 446, 514, 582, 638, 706, 774, 842, 855, 911, 967, 1035, 1103, 1183, 1279, 1347, 1360, 1373], 105) := by decide +kernel
theorem dL_law_144 : decode cL_law 144 = .ok (.aload_n 1, 1) := by decide +kernel
theorem dL_law_145 : decode cL_law 145 = .ok (.aload_n 0, 1) := by decide +kernel
theorem dL_law_146 : decode cL_law 146 = .ok (.iload 4, 2) := by decide +kernel
theorem dL_law_148 : decode cL_law 148 = .ok (.iconst 1, 1) := by decide +kernel
theorem dL_law_149 : decode cL_law 149 = .ok (.iadd, 1) := by decide +kernel
theorem dL_law_150 : decode cL_law 150 = .ok (.iaload, 1) := by decide +kernel
theorem dL_law_151 : decode cL_law 151 = .ok (.aload_n 3, 1) := by decide +kernel
theorem dL_law_152 : decode cL_law 152 = .ok (.invokestatic 77, 3) := by decide +kernel
theorem dL_law_155 : decode cL_law 155 = .ok (.istore 5, 2) := by decide +kernel
theorem dL_law_157 : decode cL_law 157 = .ok (.aload_n 2, 1) := by decide +kernel
theorem dL_law_158 : decode cL_law 158 = .ok (.aload_n 0, 1) := by decide +kernel
theorem dL_law_159 : decode cL_law 159 = .ok (.iload 4, 2) := by decide +kernel
theorem dL_law_161 : decode cL_law 161 = .ok (.iconst 1, 1) := by decide +kernel
theorem dL_law_162 : decode cL_law 162 = .ok (.iadd, 1) := by decide +kernel
theorem dL_law_163 : decode cL_law 163 = .ok (.iaload, 1) := by decide +kernel
theorem dL_law_164 : decode cL_law 164 = .ok (.invokevirtual 82, 3) := by decide +kernel
theorem dL_law_167 : decode cL_law 167 = .ok (.istore 6, 2) := by decide +kernel
theorem dL_law_169 : decode cL_law 169 = .ok (.aload_n 2, 1) := by decide +kernel
theorem dL_law_170 : decode cL_law 170 = .ok (.invokevirtual 83, 3) := by decide +kernel
theorem dL_law_173 : decode cL_law 173 = .ok (.iload 5, 2) := by decide +kernel
theorem dL_law_175 : decode cL_law 175 = .ok (.if_icmp .eq 5, 3) := by decide +kernel
theorem dL_law_178 : decode cL_law 178 = .ok (.iconst 0, 1) := by decide +kernel
theorem dL_law_179 : decode cL_law 179 = .ok (.ireturn, 1) := by decide +kernel
theorem dL_law_180 : decode cL_law 180 = .ok (.iload 5, 2) := by decide +kernel
theorem dL_law_182 : decode cL_law 182 = .ok (.ifCond .ne 15, 3) := by decide +kernel
theorem dL_law_185 : decode cL_law 185 = .ok (.aload_n 3, 1) := by decide +kernel
theorem dL_law_186 : decode cL_law 186 = .ok (.iconst 0, 1) := by decide +kernel
theorem dL_law_187 : decode cL_law 187 = .ok (.laload, 1) := by decide +kernel
theorem dL_law_188 : decode cL_law 188 = .ok (.iload 6, 2) := by decide +kernel
theorem dL_law_190 : decode cL_law 190 = .ok (.i2l, 1) := by decide +kernel
theorem dL_law_191 : decode cL_law 191 = .ok (.lcmp, 1) := by decide +kernel
theorem dL_law_192 : decode cL_law 192 = .ok (.ifCond .eq 5, 3) := by decide +kernel
theorem dL_law_195 : decode cL_law 195 = .ok (.iconst 0, 1) := by decide +kernel
theorem dL_law_196 : decode cL_law 196 = .ok (.ireturn, 1) := by decide +kernel
theorem dL_law_197 : decode cL_law 197 = .ok (.goto 1228, 3) := by decide +kernel
theorem dL_law_200 : decode cL_law 200 = .ok (.aload_n 1, 1) := by decide +kernel
theorem dL_law_201 : decode cL_law 201 = .ok (.aload_n 0, 1) := by decide +kernel
theorem dL_law_202 : decode cL_law 202 = .ok (.iload 4, 2) := by decide +kernel
theorem dL_law_204 : decode cL_law 204 = .ok (.iconst 1, 1) := by decide +kernel
theorem dL_law_205 : decode cL_law 205 = .ok (.iadd, 1) := by decide +kernel
theorem dL_law_206 : decode cL_law 206 = .ok (.iaload, 1) := by decide +kernel
theorem dL_law_207 : decode cL_law 207 = .ok (.aload_n 0, 1) := by decide +kernel
theorem dL_law_208 : decode cL_law 208 = .ok (.iload 4, 2) := by decide +kernel
theorem dL_law_210 : decode cL_law 210 = .ok (.iconst 2, 1) := by decide +kernel
theorem dL_law_211 : decode cL_law 211 = .ok (.iadd, 1) := by decide +kernel
theorem dL_law_212 : decode cL_law 212 = .ok (.iaload, 1) := by decide +kernel
theorem dL_law_213 : decode cL_law 213 = .ok (.aload_n 0, 1) := by decide +kernel
theorem dL_law_214 : decode cL_law 214 = .ok (.iload 4, 2) := by decide +kernel
theorem dL_law_216 : decode cL_law 216 = .ok (.iconst 3, 1) := by decide +kernel
theorem dL_law_217 : decode cL_law 217 = .ok (.iadd, 1) := by decide +kernel
theorem dL_law_218 : decode cL_law 218 = .ok (.iaload, 1) := by decide +kernel
theorem dL_law_219 : decode cL_law 219 = .ok (.aload_n 3, 1) := by decide +kernel
theorem dL_law_220 : decode cL_law 220 = .ok (.invokestatic 87, 3) := by decide +kernel
theorem dL_law_223 : decode cL_law 223 = .ok (.istore 5, 2) := by decide +kernel
theorem dL_law_225 : decode cL_law 225 = .ok (.aload_n 2, 1) := by decide +kernel
theorem dL_law_226 : decode cL_law 226 = .ok (.aload_n 0, 1) := by decide +kernel
theorem dL_law_227 : decode cL_law 227 = .ok (.iload 4, 2) := by decide +kernel
theorem dL_law_229 : decode cL_law 229 = .ok (.iconst 1, 1) := by decide +kernel
theorem dL_law_230 : decode cL_law 230 = .ok (.iadd, 1) := by decide +kernel
theorem dL_law_231 : decode cL_law 231 = .ok (.iaload, 1) := by decide +kernel
theorem dL_law_232 : decode cL_law 232 = .ok (.aload_n 0, 1) := by decide +kernel
theorem dL_law_233 : decode cL_law 233 = .ok (.iload 4, 2) := by decide +kernel
theorem dL_law_235 : decode cL_law 235 = .ok (.iconst 2, 1) := by decide +kernel
theorem dL_law_236 : decode cL_law 236 = .ok (.iadd, 1) := by decide +kernel
theorem dL_law_237 : decode cL_law 237 = .ok (.iaload, 1) := by decide +kernel
theorem dL_law_238 : decode cL_law 238 = .ok (.aload_n 0, 1) := by decide +kernel
theorem dL_law_239 : decode cL_law 239 = .ok (.iload 4, 2) := by decide +kernel
theorem dL_law_241 : decode cL_law 241 = .ok (.iconst 3, 1) := by decide +kernel
theorem dL_law_242 : decode cL_law 242 = .ok (.iadd, 1) := by decide +kernel
theorem dL_law_243 : decode cL_law 243 = .ok (.iaload, 1) := by decide +kernel
theorem dL_law_244 : decode cL_law 244 = .ok (.invokevirtual 90, 3) := by decide +kernel
theorem dL_law_247 : decode cL_law 247 = .ok (.istore 6, 2) := by decide +kernel
theorem dL_law_249 : decode cL_law 249 = .ok (.aload_n 2, 1) := by decide +kernel
theorem dL_law_250 : decode cL_law 250 = .ok (.invokevirtual 83, 3) := by decide +kernel
theorem dL_law_253 : decode cL_law 253 = .ok (.iload 5, 2) := by decide +kernel
theorem dL_law_255 : decode cL_law 255 = .ok (.if_icmp .eq 5, 3) := by decide +kernel
theorem dL_law_258 : decode cL_law 258 = .ok (.iconst 0, 1) := by decide +kernel
theorem dL_law_259 : decode cL_law 259 = .ok (.ireturn, 1) := by decide +kernel
theorem dL_law_260 : decode cL_law 260 = .ok (.iload 5, 2) := by decide +kernel
theorem dL_law_262 : decode cL_law 262 = .ok (.ifCond .ne 15, 3) := by decide +kernel
theorem dL_law_265 : decode cL_law 265 = .ok (.aload_n 3, 1) := by decide +kernel
theorem dL_law_266 : decode cL_law 266 = .ok (.iconst 0, 1) := by decide +kernel
theorem dL_law_267 : decode cL_law 267 = .ok (.laload, 1) := by decide +kernel
theorem dL_law_268 : decode cL_law 268 = .ok (.iload 6, 2) := by decide +kernel
theorem dL_law_270 : decode cL_law 270 = .ok (.i2l, 1) := by decide +kernel
theorem dL_law_271 : decode cL_law 271 = .ok (.lcmp, 1) := by decide +kernel
theorem dL_law_272 : decode cL_law 272 = .ok (.ifCond .eq 5, 3) := by decide +kernel
theorem dL_law_275 : decode cL_law 275 = .ok (.iconst 0, 1) := by decide +kernel
theorem dL_law_276 : decode cL_law 276 = .ok (.ireturn, 1) := by decide +kernel
theorem dL_law_277 : decode cL_law 277 = .ok (.goto 1148, 3) := by decide +kernel
theorem dL_law_280 : decode cL_law 280 = .ok (.aload_n 1, 1) := by decide +kernel
theorem dL_law_281 : decode cL_law 281 = .ok (.aload_n 0, 1) := by decide +kernel
theorem dL_law_282 : decode cL_law 282 = .ok (.iload 4, 2) := by decide +kernel
theorem dL_law_284 : decode cL_law 284 = .ok (.iconst 1, 1) := by decide +kernel
theorem dL_law_285 : decode cL_law 285 = .ok (.iadd, 1) := by decide +kernel
theorem dL_law_286 : decode cL_law 286 = .ok (.iaload, 1) := by decide +kernel
theorem dL_law_287 : decode cL_law 287 = .ok (.aload_n 0, 1) := by decide +kernel
theorem dL_law_288 : decode cL_law 288 = .ok (.iload 4, 2) := by decide +kernel
theorem dL_law_290 : decode cL_law 290 = .ok (.iconst 2, 1) := by decide +kernel
theorem dL_law_291 : decode cL_law 291 = .ok (.iadd, 1) := by decide +kernel
theorem dL_law_292 : decode cL_law 292 = .ok (.iaload, 1) := by decide +kernel
theorem dL_law_293 : decode cL_law 293 = .ok (.aload_n 3, 1) := by decide +kernel
theorem dL_law_294 : decode cL_law 294 = .ok (.invokestatic 91, 3) := by decide +kernel
theorem dL_law_297 : decode cL_law 297 = .ok (.istore 5, 2) := by decide +kernel
theorem dL_law_299 : decode cL_law 299 = .ok (.aload_n 2, 1) := by decide +kernel
theorem dL_law_300 : decode cL_law 300 = .ok (.aload_n 0, 1) := by decide +kernel
theorem dL_law_301 : decode cL_law 301 = .ok (.iload 4, 2) := by decide +kernel
theorem dL_law_303 : decode cL_law 303 = .ok (.iconst 1, 1) := by decide +kernel
theorem dL_law_304 : decode cL_law 304 = .ok (.iadd, 1) := by decide +kernel
theorem dL_law_305 : decode cL_law 305 = .ok (.iaload, 1) := by decide +kernel
theorem dL_law_306 : decode cL_law 306 = .ok (.aload_n 0, 1) := by decide +kernel
theorem dL_law_307 : decode cL_law 307 = .ok (.iload 4, 2) := by decide +kernel
theorem dL_law_309 : decode cL_law 309 = .ok (.iconst 2, 1) := by decide +kernel
theorem dL_law_310 : decode cL_law 310 = .ok (.iadd, 1) := by decide +kernel
theorem dL_law_311 : decode cL_law 311 = .ok (.iaload, 1) := by decide +kernel
theorem dL_law_312 : decode cL_law 312 = .ok (.invokevirtual 94, 3) := by decide +kernel
theorem dL_law_315 : decode cL_law 315 = .ok (.istore 6, 2) := by decide +kernel
theorem dL_law_317 : decode cL_law 317 = .ok (.aload_n 2, 1) := by decide +kernel
theorem dL_law_318 : decode cL_law 318 = .ok (.invokevirtual 83, 3) := by decide +kernel
theorem dL_law_321 : decode cL_law 321 = .ok (.iload 5, 2) := by decide +kernel
theorem dL_law_323 : decode cL_law 323 = .ok (.if_icmp .eq 5, 3) := by decide +kernel
theorem dL_law_326 : decode cL_law 326 = .ok (.iconst 0, 1) := by decide +kernel
theorem dL_law_327 : decode cL_law 327 = .ok (.ireturn, 1) := by decide +kernel
theorem dL_law_328 : decode cL_law 328 = .ok (.iload 5, 2) := by decide +kernel
theorem dL_law_330 : decode cL_law 330 = .ok (.ifCond .ne 15, 3) := by decide +kernel
theorem dL_law_333 : decode cL_law 333 = .ok (.aload_n 3, 1) := by decide +kernel
theorem dL_law_334 : decode cL_law 334 = .ok (.iconst 0, 1) := by decide +kernel
theorem dL_law_335 : decode cL_law 335 = .ok (.laload, 1) := by decide +kernel
theorem dL_law_336 : decode cL_law 336 = .ok (.iload 6, 2) := by decide +kernel
theorem dL_law_338 : decode cL_law 338 = .ok (.i2l, 1) := by decide +kernel
theorem dL_law_339 : decode cL_law 339 = .ok (.lcmp, 1) := by decide +kernel
theorem dL_law_340 : decode cL_law 340 = .ok (.ifCond .eq 5, 3) := by decide +kernel
theorem dL_law_343 : decode cL_law 343 = .ok (.iconst 0, 1) := by decide +kernel
theorem dL_law_344 : decode cL_law 344 = .ok (.ireturn, 1) := by decide +kernel
theorem dL_law_345 : decode cL_law 345 = .ok (.goto 1080, 3) := by decide +kernel
theorem dL_law_348 : decode cL_law 348 = .ok (.aload_n 1, 1) := by decide +kernel
theorem dL_law_349 : decode cL_law 349 = .ok (.invokevirtual 95, 3) := by decide +kernel
theorem dL_law_352 : decode cL_law 352 = .ok (.aload_n 2, 1) := by decide +kernel
theorem dL_law_353 : decode cL_law 353 = .ok (.invokevirtual 98, 3) := by decide +kernel
theorem dL_law_356 : decode cL_law 356 = .ok (.if_icmp .eq 1069, 3) := by decide +kernel
theorem dL_law_359 : decode cL_law 359 = .ok (.iconst 0, 1) := by decide +kernel
theorem dL_law_360 : decode cL_law 360 = .ok (.ireturn, 1) := by decide +kernel
theorem dL_law_361 : decode cL_law 361 = .ok (.aload_n 1, 1) := by decide +kernel
theorem dL_law_362 : decode cL_law 362 = .ok (.aload_n 0, 1) := by decide +kernel
theorem dL_law_363 : decode cL_law 363 = .ok (.iload 4, 2) := by decide +kernel
theorem dL_law_365 : decode cL_law 365 = .ok (.iconst 1, 1) := by decide +kernel
theorem dL_law_366 : decode cL_law 366 = .ok (.iadd, 1) := by decide +kernel
theorem dL_law_367 : decode cL_law 367 = .ok (.iaload, 1) := by decide +kernel
theorem dL_law_368 : decode cL_law 368 = .ok (.aload_n 3, 1) := by decide +kernel
theorem dL_law_369 : decode cL_law 369 = .ok (.invokestatic 99, 3) := by decide +kernel
theorem dL_law_372 : decode cL_law 372 = .ok (.istore 5, 2) := by decide +kernel
theorem dL_law_374 : decode cL_law 374 = .ok (.aload_n 2, 1) := by decide +kernel
theorem dL_law_375 : decode cL_law 375 = .ok (.aload_n 0, 1) := by decide +kernel
theorem dL_law_376 : decode cL_law 376 = .ok (.iload 4, 2) := by decide +kernel
theorem dL_law_378 : decode cL_law 378 = .ok (.iconst 1, 1) := by decide +kernel
theorem dL_law_379 : decode cL_law 379 = .ok (.iadd, 1) := by decide +kernel
theorem dL_law_380 : decode cL_law 380 = .ok (.iaload, 1) := by decide +kernel
theorem dL_law_381 : decode cL_law 381 = .ok (.invokevirtual 101, 3) := by decide +kernel
theorem dL_law_384 : decode cL_law 384 = .ok (.istore 6, 2) := by decide +kernel
theorem dL_law_386 : decode cL_law 386 = .ok (.aload_n 2, 1) := by decide +kernel
theorem dL_law_387 : decode cL_law 387 = .ok (.invokevirtual 83, 3) := by decide +kernel
theorem dL_law_390 : decode cL_law 390 = .ok (.iload 5, 2) := by decide +kernel
theorem dL_law_392 : decode cL_law 392 = .ok (.if_icmp .eq 5, 3) := by decide +kernel
theorem dL_law_395 : decode cL_law 395 = .ok (.iconst 0, 1) := by decide +kernel
theorem dL_law_396 : decode cL_law 396 = .ok (.ireturn, 1) := by decide +kernel
theorem dL_law_397 : decode cL_law 397 = .ok (.iload 5, 2) := by decide +kernel
theorem dL_law_399 : decode cL_law 399 = .ok (.ifCond .ne 15, 3) := by decide +kernel
theorem dL_law_402 : decode cL_law 402 = .ok (.aload_n 3, 1) := by decide +kernel
theorem dL_law_403 : decode cL_law 403 = .ok (.iconst 0, 1) := by decide +kernel
theorem dL_law_404 : decode cL_law 404 = .ok (.laload, 1) := by decide +kernel
theorem dL_law_405 : decode cL_law 405 = .ok (.iload 6, 2) := by decide +kernel
theorem dL_law_407 : decode cL_law 407 = .ok (.i2l, 1) := by decide +kernel
theorem dL_law_408 : decode cL_law 408 = .ok (.lcmp, 1) := by decide +kernel
theorem dL_law_409 : decode cL_law 409 = .ok (.ifCond .eq 5, 3) := by decide +kernel
theorem dL_law_412 : decode cL_law 412 = .ok (.iconst 0, 1) := by decide +kernel
theorem dL_law_413 : decode cL_law 413 = .ok (.ireturn, 1) := by decide +kernel
theorem dL_law_414 : decode cL_law 414 = .ok (.goto 1011, 3) := by decide +kernel
theorem dL_law_417 : decode cL_law 417 = .ok (.aload_n 1, 1) := by decide +kernel
theorem dL_law_418 : decode cL_law 418 = .ok (.aload_n 0, 1) := by decide +kernel
theorem dL_law_419 : decode cL_law 419 = .ok (.iload 4, 2) := by decide +kernel
theorem dL_law_421 : decode cL_law 421 = .ok (.iconst 1, 1) := by decide +kernel
theorem dL_law_422 : decode cL_law 422 = .ok (.iadd, 1) := by decide +kernel
theorem dL_law_423 : decode cL_law 423 = .ok (.iaload, 1) := by decide +kernel
theorem dL_law_424 : decode cL_law 424 = .ok (.aload_n 0, 1) := by decide +kernel
theorem dL_law_425 : decode cL_law 425 = .ok (.iload 4, 2) := by decide +kernel
theorem dL_law_427 : decode cL_law 427 = .ok (.iconst 2, 1) := by decide +kernel
theorem dL_law_428 : decode cL_law 428 = .ok (.iadd, 1) := by decide +kernel
theorem dL_law_429 : decode cL_law 429 = .ok (.iaload, 1) := by decide +kernel
theorem dL_law_430 : decode cL_law 430 = .ok (.aload_n 3, 1) := by decide +kernel
theorem dL_law_431 : decode cL_law 431 = .ok (.invokestatic 102, 3) := by decide +kernel
theorem dL_law_434 : decode cL_law 434 = .ok (.istore 5, 2) := by decide +kernel
theorem dL_law_436 : decode cL_law 436 = .ok (.aload_n 2, 1) := by decide +kernel
theorem dL_law_437 : decode cL_law 437 = .ok (.aload_n 0, 1) := by decide +kernel
theorem dL_law_438 : decode cL_law 438 = .ok (.iload 4, 2) := by decide +kernel
theorem dL_law_440 : decode cL_law 440 = .ok (.iconst 1, 1) := by decide +kernel
theorem dL_law_441 : decode cL_law 441 = .ok (.iadd, 1) := by decide +kernel
theorem dL_law_442 : decode cL_law 442 = .ok (.iaload, 1) := by decide +kernel
theorem dL_law_443 : decode cL_law 443 = .ok (.aload_n 0, 1) := by decide +kernel
theorem dL_law_444 : decode cL_law 444 = .ok (.iload 4, 2) := by decide +kernel
theorem dL_law_446 : decode cL_law 446 = .ok (.iconst 2, 1) := by decide +kernel
theorem dL_law_447 : decode cL_law 447 = .ok (.iadd, 1) := by decide +kernel
theorem dL_law_448 : decode cL_law 448 = .ok (.iaload, 1) := by decide +kernel
theorem dL_law_449 : decode cL_law 449 = .ok (.invokevirtual 104, 3) := by decide +kernel
theorem dL_law_452 : decode cL_law 452 = .ok (.istore 6, 2) := by decide +kernel
theorem dL_law_454 : decode cL_law 454 = .ok (.aload_n 2, 1) := by decide +kernel
theorem dL_law_455 : decode cL_law 455 = .ok (.invokevirtual 83, 3) := by decide +kernel
theorem dL_law_458 : decode cL_law 458 = .ok (.iload 5, 2) := by decide +kernel
theorem dL_law_460 : decode cL_law 460 = .ok (.if_icmp .eq 5, 3) := by decide +kernel
theorem dL_law_463 : decode cL_law 463 = .ok (.iconst 0, 1) := by decide +kernel
theorem dL_law_464 : decode cL_law 464 = .ok (.ireturn, 1) := by decide +kernel
theorem dL_law_465 : decode cL_law 465 = .ok (.iload 5, 2) := by decide +kernel
theorem dL_law_467 : decode cL_law 467 = .ok (.ifCond .ne 15, 3) := by decide +kernel
theorem dL_law_470 : decode cL_law 470 = .ok (.aload_n 3, 1) := by decide +kernel
theorem dL_law_471 : decode cL_law 471 = .ok (.iconst 0, 1) := by decide +kernel
theorem dL_law_472 : decode cL_law 472 = .ok (.laload, 1) := by decide +kernel
theorem dL_law_473 : decode cL_law 473 = .ok (.iload 6, 2) := by decide +kernel
theorem dL_law_475 : decode cL_law 475 = .ok (.i2l, 1) := by decide +kernel
theorem dL_law_476 : decode cL_law 476 = .ok (.lcmp, 1) := by decide +kernel
theorem dL_law_477 : decode cL_law 477 = .ok (.ifCond .eq 5, 3) := by decide +kernel
theorem dL_law_480 : decode cL_law 480 = .ok (.iconst 0, 1) := by decide +kernel
theorem dL_law_481 : decode cL_law 481 = .ok (.ireturn, 1) := by decide +kernel
theorem dL_law_482 : decode cL_law 482 = .ok (.goto 943, 3) := by decide +kernel
theorem dL_law_485 : decode cL_law 485 = .ok (.aload_n 1, 1) := by decide +kernel
theorem dL_law_486 : decode cL_law 486 = .ok (.aload_n 0, 1) := by decide +kernel
theorem dL_law_487 : decode cL_law 487 = .ok (.iload 4, 2) := by decide +kernel
theorem dL_law_489 : decode cL_law 489 = .ok (.iconst 1, 1) := by decide +kernel
theorem dL_law_490 : decode cL_law 490 = .ok (.iadd, 1) := by decide +kernel
theorem dL_law_491 : decode cL_law 491 = .ok (.iaload, 1) := by decide +kernel
theorem dL_law_492 : decode cL_law 492 = .ok (.aload_n 0, 1) := by decide +kernel
theorem dL_law_493 : decode cL_law 493 = .ok (.iload 4, 2) := by decide +kernel
theorem dL_law_495 : decode cL_law 495 = .ok (.iconst 2, 1) := by decide +kernel
theorem dL_law_496 : decode cL_law 496 = .ok (.iadd, 1) := by decide +kernel
theorem dL_law_497 : decode cL_law 497 = .ok (.iaload, 1) := by decide +kernel
theorem dL_law_498 : decode cL_law 498 = .ok (.aload_n 3, 1) := by decide +kernel
theorem dL_law_499 : decode cL_law 499 = .ok (.invokestatic 105, 3) := by decide +kernel
theorem dL_law_502 : decode cL_law 502 = .ok (.istore 5, 2) := by decide +kernel
theorem dL_law_504 : decode cL_law 504 = .ok (.aload_n 2, 1) := by decide +kernel
theorem dL_law_505 : decode cL_law 505 = .ok (.aload_n 0, 1) := by decide +kernel
theorem dL_law_506 : decode cL_law 506 = .ok (.iload 4, 2) := by decide +kernel
theorem dL_law_508 : decode cL_law 508 = .ok (.iconst 1, 1) := by decide +kernel
theorem dL_law_509 : decode cL_law 509 = .ok (.iadd, 1) := by decide +kernel
theorem dL_law_510 : decode cL_law 510 = .ok (.iaload, 1) := by decide +kernel
theorem dL_law_511 : decode cL_law 511 = .ok (.aload_n 0, 1) := by decide +kernel
theorem dL_law_512 : decode cL_law 512 = .ok (.iload 4, 2) := by decide +kernel
theorem dL_law_514 : decode cL_law 514 = .ok (.iconst 2, 1) := by decide +kernel
theorem dL_law_515 : decode cL_law 515 = .ok (.iadd, 1) := by decide +kernel
theorem dL_law_516 : decode cL_law 516 = .ok (.iaload, 1) := by decide +kernel
theorem dL_law_517 : decode cL_law 517 = .ok (.invokevirtual 107, 3) := by decide +kernel
theorem dL_law_520 : decode cL_law 520 = .ok (.istore 6, 2) := by decide +kernel
theorem dL_law_522 : decode cL_law 522 = .ok (.aload_n 2, 1) := by decide +kernel
theorem dL_law_523 : decode cL_law 523 = .ok (.invokevirtual 83, 3) := by decide +kernel
theorem dL_law_526 : decode cL_law 526 = .ok (.iload 5, 2) := by decide +kernel
theorem dL_law_528 : decode cL_law 528 = .ok (.if_icmp .eq 5, 3) := by decide +kernel
theorem dL_law_531 : decode cL_law 531 = .ok (.iconst 0, 1) := by decide +kernel
theorem dL_law_532 : decode cL_law 532 = .ok (.ireturn, 1) := by decide +kernel
theorem dL_law_533 : decode cL_law 533 = .ok (.iload 5, 2) := by decide +kernel
theorem dL_law_535 : decode cL_law 535 = .ok (.ifCond .ne 15, 3) := by decide +kernel
theorem dL_law_538 : decode cL_law 538 = .ok (.aload_n 3, 1) := by decide +kernel
theorem dL_law_539 : decode cL_law 539 = .ok (.iconst 0, 1) := by decide +kernel
theorem dL_law_540 : decode cL_law 540 = .ok (.laload, 1) := by decide +kernel
theorem dL_law_541 : decode cL_law 541 = .ok (.iload 6, 2) := by decide +kernel
theorem dL_law_543 : decode cL_law 543 = .ok (.i2l, 1) := by decide +kernel
theorem dL_law_544 : decode cL_law 544 = .ok (.lcmp, 1) := by decide +kernel
theorem dL_law_545 : decode cL_law 545 = .ok (.ifCond .eq 5, 3) := by decide +kernel
theorem dL_law_548 : decode cL_law 548 = .ok (.iconst 0, 1) := by decide +kernel
theorem dL_law_549 : decode cL_law 549 = .ok (.ireturn, 1) := by decide +kernel
theorem dL_law_550 : decode cL_law 550 = .ok (.goto 875, 3) := by decide +kernel
theorem dL_law_553 : decode cL_law 553 = .ok (.aload_n 1, 1) := by decide +kernel
theorem dL_law_554 : decode cL_law 554 = .ok (.aload_n 0, 1) := by decide +kernel
theorem dL_law_555 : decode cL_law 555 = .ok (.iload 4, 2) := by decide +kernel
theorem dL_law_557 : decode cL_law 557 = .ok (.iconst 1, 1) := by decide +kernel
theorem dL_law_558 : decode cL_law 558 = .ok (.iadd, 1) := by decide +kernel
theorem dL_law_559 : decode cL_law 559 = .ok (.iaload, 1) := by decide +kernel
theorem dL_law_560 : decode cL_law 560 = .ok (.aload_n 0, 1) := by decide +kernel
theorem dL_law_561 : decode cL_law 561 = .ok (.iload 4, 2) := by decide +kernel
theorem dL_law_563 : decode cL_law 563 = .ok (.iconst 2, 1) := by decide +kernel
theorem dL_law_564 : decode cL_law 564 = .ok (.iadd, 1) := by decide +kernel
theorem dL_law_565 : decode cL_law 565 = .ok (.iaload, 1) := by decide +kernel
theorem dL_law_566 : decode cL_law 566 = .ok (.aload_n 3, 1) := by decide +kernel
theorem dL_law_567 : decode cL_law 567 = .ok (.invokestatic 108, 3) := by decide +kernel
theorem dL_law_570 : decode cL_law 570 = .ok (.istore 5, 2) := by decide +kernel
theorem dL_law_572 : decode cL_law 572 = .ok (.aload_n 2, 1) := by decide +kernel
theorem dL_law_573 : decode cL_law 573 = .ok (.aload_n 0, 1) := by decide +kernel
theorem dL_law_574 : decode cL_law 574 = .ok (.iload 4, 2) := by decide +kernel
theorem dL_law_576 : decode cL_law 576 = .ok (.iconst 1, 1) := by decide +kernel
theorem dL_law_577 : decode cL_law 577 = .ok (.iadd, 1) := by decide +kernel
theorem dL_law_578 : decode cL_law 578 = .ok (.iaload, 1) := by decide +kernel
theorem dL_law_579 : decode cL_law 579 = .ok (.aload_n 0, 1) := by decide +kernel
theorem dL_law_580 : decode cL_law 580 = .ok (.iload 4, 2) := by decide +kernel
theorem dL_law_582 : decode cL_law 582 = .ok (.iconst 2, 1) := by decide +kernel
theorem dL_law_583 : decode cL_law 583 = .ok (.iadd, 1) := by decide +kernel
theorem dL_law_584 : decode cL_law 584 = .ok (.iaload, 1) := by decide +kernel
theorem dL_law_585 : decode cL_law 585 = .ok (.invokevirtual 110, 3) := by decide +kernel
theorem dL_law_588 : decode cL_law 588 = .ok (.istore 6, 2) := by decide +kernel
theorem dL_law_590 : decode cL_law 590 = .ok (.aload_n 2, 1) := by decide +kernel
theorem dL_law_591 : decode cL_law 591 = .ok (.invokevirtual 83, 3) := by decide +kernel
theorem dL_law_594 : decode cL_law 594 = .ok (.iload 5, 2) := by decide +kernel
theorem dL_law_596 : decode cL_law 596 = .ok (.if_icmp .eq 5, 3) := by decide +kernel
theorem dL_law_599 : decode cL_law 599 = .ok (.iconst 0, 1) := by decide +kernel
theorem dL_law_600 : decode cL_law 600 = .ok (.ireturn, 1) := by decide +kernel
theorem dL_law_601 : decode cL_law 601 = .ok (.iload 5, 2) := by decide +kernel
theorem dL_law_603 : decode cL_law 603 = .ok (.ifCond .ne 15, 3) := by decide +kernel
theorem dL_law_606 : decode cL_law 606 = .ok (.aload_n 3, 1) := by decide +kernel
theorem dL_law_607 : decode cL_law 607 = .ok (.iconst 0, 1) := by decide +kernel
theorem dL_law_608 : decode cL_law 608 = .ok (.laload, 1) := by decide +kernel
theorem dL_law_609 : decode cL_law 609 = .ok (.iload 6, 2) := by decide +kernel
theorem dL_law_611 : decode cL_law 611 = .ok (.i2l, 1) := by decide +kernel
theorem dL_law_612 : decode cL_law 612 = .ok (.lcmp, 1) := by decide +kernel
theorem dL_law_613 : decode cL_law 613 = .ok (.ifCond .eq 5, 3) := by decide +kernel
theorem dL_law_616 : decode cL_law 616 = .ok (.iconst 0, 1) := by decide +kernel
theorem dL_law_617 : decode cL_law 617 = .ok (.ireturn, 1) := by decide +kernel
theorem dL_law_618 : decode cL_law 618 = .ok (.goto 807, 3) := by decide +kernel
theorem dL_law_621 : decode cL_law 621 = .ok (.aload_n 1, 1) := by decide +kernel
theorem dL_law_622 : decode cL_law 622 = .ok (.aload_n 0, 1) := by decide +kernel
theorem dL_law_623 : decode cL_law 623 = .ok (.iload 4, 2) := by decide +kernel
theorem dL_law_625 : decode cL_law 625 = .ok (.iconst 1, 1) := by decide +kernel
theorem dL_law_626 : decode cL_law 626 = .ok (.iadd, 1) := by decide +kernel
theorem dL_law_627 : decode cL_law 627 = .ok (.iaload, 1) := by decide +kernel
theorem dL_law_628 : decode cL_law 628 = .ok (.aload_n 3, 1) := by decide +kernel
theorem dL_law_629 : decode cL_law 629 = .ok (.invokestatic 111, 3) := by decide +kernel
theorem dL_law_632 : decode cL_law 632 = .ok (.istore 5, 2) := by decide +kernel
theorem dL_law_634 : decode cL_law 634 = .ok (.aload_n 2, 1) := by decide +kernel
theorem dL_law_635 : decode cL_law 635 = .ok (.aload_n 0, 1) := by decide +kernel
theorem dL_law_636 : decode cL_law 636 = .ok (.iload 4, 2) := by decide +kernel
theorem dL_law_638 : decode cL_law 638 = .ok (.iconst 1, 1) := by decide +kernel
theorem dL_law_639 : decode cL_law 639 = .ok (.iadd, 1) := by decide +kernel
theorem dL_law_640 : decode cL_law 640 = .ok (.iaload, 1) := by decide +kernel
theorem dL_law_641 : decode cL_law 641 = .ok (.invokevirtual 113, 3) := by decide +kernel
theorem dL_law_644 : decode cL_law 644 = .ok (.istore 6, 2) := by decide +kernel
theorem dL_law_646 : decode cL_law 646 = .ok (.aload_n 2, 1) := by decide +kernel
theorem dL_law_647 : decode cL_law 647 = .ok (.invokevirtual 83, 3) := by decide +kernel
theorem dL_law_650 : decode cL_law 650 = .ok (.iload 5, 2) := by decide +kernel
theorem dL_law_652 : decode cL_law 652 = .ok (.if_icmp .eq 5, 3) := by decide +kernel
theorem dL_law_655 : decode cL_law 655 = .ok (.iconst 0, 1) := by decide +kernel
theorem dL_law_656 : decode cL_law 656 = .ok (.ireturn, 1) := by decide +kernel
theorem dL_law_657 : decode cL_law 657 = .ok (.iload 5, 2) := by decide +kernel
theorem dL_law_659 : decode cL_law 659 = .ok (.ifCond .ne 15, 3) := by decide +kernel
theorem dL_law_662 : decode cL_law 662 = .ok (.aload_n 3, 1) := by decide +kernel
theorem dL_law_663 : decode cL_law 663 = .ok (.iconst 0, 1) := by decide +kernel
theorem dL_law_664 : decode cL_law 664 = .ok (.laload, 1) := by decide +kernel
theorem dL_law_665 : decode cL_law 665 = .ok (.iload 6, 2) := by decide +kernel
theorem dL_law_667 : decode cL_law 667 = .ok (.i2l, 1) := by decide +kernel
theorem dL_law_668 : decode cL_law 668 = .ok (.lcmp, 1) := by decide +kernel
theorem dL_law_669 : decode cL_law 669 = .ok (.ifCond .eq 5, 3) := by decide +kernel
theorem dL_law_672 : decode cL_law 672 = .ok (.iconst 0, 1) := by decide +kernel
theorem dL_law_673 : decode cL_law 673 = .ok (.ireturn, 1) := by decide +kernel
theorem dL_law_674 : decode cL_law 674 = .ok (.goto 751, 3) := by decide +kernel
theorem dL_law_677 : decode cL_law 677 = .ok (.aload_n 1, 1) := by decide +kernel
theorem dL_law_678 : decode cL_law 678 = .ok (.aload_n 0, 1) := by decide +kernel
theorem dL_law_679 : decode cL_law 679 = .ok (.iload 4, 2) := by decide +kernel
theorem dL_law_681 : decode cL_law 681 = .ok (.iconst 1, 1) := by decide +kernel
theorem dL_law_682 : decode cL_law 682 = .ok (.iadd, 1) := by decide +kernel
theorem dL_law_683 : decode cL_law 683 = .ok (.iaload, 1) := by decide +kernel
theorem dL_law_684 : decode cL_law 684 = .ok (.aload_n 0, 1) := by decide +kernel
theorem dL_law_685 : decode cL_law 685 = .ok (.iload 4, 2) := by decide +kernel
theorem dL_law_687 : decode cL_law 687 = .ok (.iconst 2, 1) := by decide +kernel
theorem dL_law_688 : decode cL_law 688 = .ok (.iadd, 1) := by decide +kernel
theorem dL_law_689 : decode cL_law 689 = .ok (.iaload, 1) := by decide +kernel
theorem dL_law_690 : decode cL_law 690 = .ok (.aload_n 3, 1) := by decide +kernel
theorem dL_law_691 : decode cL_law 691 = .ok (.invokestatic 114, 3) := by decide +kernel
theorem dL_law_694 : decode cL_law 694 = .ok (.istore 5, 2) := by decide +kernel
theorem dL_law_696 : decode cL_law 696 = .ok (.aload_n 2, 1) := by decide +kernel
theorem dL_law_697 : decode cL_law 697 = .ok (.aload_n 0, 1) := by decide +kernel
theorem dL_law_698 : decode cL_law 698 = .ok (.iload 4, 2) := by decide +kernel
theorem dL_law_700 : decode cL_law 700 = .ok (.iconst 1, 1) := by decide +kernel
theorem dL_law_701 : decode cL_law 701 = .ok (.iadd, 1) := by decide +kernel
theorem dL_law_702 : decode cL_law 702 = .ok (.iaload, 1) := by decide +kernel
theorem dL_law_703 : decode cL_law 703 = .ok (.aload_n 0, 1) := by decide +kernel
theorem dL_law_704 : decode cL_law 704 = .ok (.iload 4, 2) := by decide +kernel
theorem dL_law_706 : decode cL_law 706 = .ok (.iconst 2, 1) := by decide +kernel
theorem dL_law_707 : decode cL_law 707 = .ok (.iadd, 1) := by decide +kernel
theorem dL_law_708 : decode cL_law 708 = .ok (.iaload, 1) := by decide +kernel
theorem dL_law_709 : decode cL_law 709 = .ok (.invokevirtual 116, 3) := by decide +kernel
theorem dL_law_712 : decode cL_law 712 = .ok (.istore 6, 2) := by decide +kernel
theorem dL_law_714 : decode cL_law 714 = .ok (.aload_n 2, 1) := by decide +kernel
theorem dL_law_715 : decode cL_law 715 = .ok (.invokevirtual 83, 3) := by decide +kernel
theorem dL_law_718 : decode cL_law 718 = .ok (.iload 5, 2) := by decide +kernel
theorem dL_law_720 : decode cL_law 720 = .ok (.if_icmp .eq 5, 3) := by decide +kernel
theorem dL_law_723 : decode cL_law 723 = .ok (.iconst 0, 1) := by decide +kernel
theorem dL_law_724 : decode cL_law 724 = .ok (.ireturn, 1) := by decide +kernel
theorem dL_law_725 : decode cL_law 725 = .ok (.iload 5, 2) := by decide +kernel
theorem dL_law_727 : decode cL_law 727 = .ok (.ifCond .ne 15, 3) := by decide +kernel
theorem dL_law_730 : decode cL_law 730 = .ok (.aload_n 3, 1) := by decide +kernel
theorem dL_law_731 : decode cL_law 731 = .ok (.iconst 0, 1) := by decide +kernel
theorem dL_law_732 : decode cL_law 732 = .ok (.laload, 1) := by decide +kernel
theorem dL_law_733 : decode cL_law 733 = .ok (.iload 6, 2) := by decide +kernel
theorem dL_law_735 : decode cL_law 735 = .ok (.i2l, 1) := by decide +kernel
theorem dL_law_736 : decode cL_law 736 = .ok (.lcmp, 1) := by decide +kernel
theorem dL_law_737 : decode cL_law 737 = .ok (.ifCond .eq 5, 3) := by decide +kernel
theorem dL_law_740 : decode cL_law 740 = .ok (.iconst 0, 1) := by decide +kernel
theorem dL_law_741 : decode cL_law 741 = .ok (.ireturn, 1) := by decide +kernel
theorem dL_law_742 : decode cL_law 742 = .ok (.goto 683, 3) := by decide +kernel
theorem dL_law_745 : decode cL_law 745 = .ok (.aload_n 1, 1) := by decide +kernel
theorem dL_law_746 : decode cL_law 746 = .ok (.aload_n 0, 1) := by decide +kernel
theorem dL_law_747 : decode cL_law 747 = .ok (.iload 4, 2) := by decide +kernel
theorem dL_law_749 : decode cL_law 749 = .ok (.iconst 1, 1) := by decide +kernel
theorem dL_law_750 : decode cL_law 750 = .ok (.iadd, 1) := by decide +kernel
theorem dL_law_751 : decode cL_law 751 = .ok (.iaload, 1) := by decide +kernel
theorem dL_law_752 : decode cL_law 752 = .ok (.aload_n 0, 1) := by decide +kernel
theorem dL_law_753 : decode cL_law 753 = .ok (.iload 4, 2) := by decide +kernel
theorem dL_law_755 : decode cL_law 755 = .ok (.iconst 2, 1) := by decide +kernel
theorem dL_law_756 : decode cL_law 756 = .ok (.iadd, 1) := by decide +kernel
theorem dL_law_757 : decode cL_law 757 = .ok (.iaload, 1) := by decide +kernel
theorem dL_law_758 : decode cL_law 758 = .ok (.aload_n 3, 1) := by decide +kernel
theorem dL_law_759 : decode cL_law 759 = .ok (.invokestatic 117, 3) := by decide +kernel
theorem dL_law_762 : decode cL_law 762 = .ok (.istore 5, 2) := by decide +kernel
theorem dL_law_764 : decode cL_law 764 = .ok (.aload_n 2, 1) := by decide +kernel
theorem dL_law_765 : decode cL_law 765 = .ok (.aload_n 0, 1) := by decide +kernel
theorem dL_law_766 : decode cL_law 766 = .ok (.iload 4, 2) := by decide +kernel
theorem dL_law_768 : decode cL_law 768 = .ok (.iconst 1, 1) := by decide +kernel
theorem dL_law_769 : decode cL_law 769 = .ok (.iadd, 1) := by decide +kernel
theorem dL_law_770 : decode cL_law 770 = .ok (.iaload, 1) := by decide +kernel
theorem dL_law_771 : decode cL_law 771 = .ok (.aload_n 0, 1) := by decide +kernel
theorem dL_law_772 : decode cL_law 772 = .ok (.iload 4, 2) := by decide +kernel
theorem dL_law_774 : decode cL_law 774 = .ok (.iconst 2, 1) := by decide +kernel
theorem dL_law_775 : decode cL_law 775 = .ok (.iadd, 1) := by decide +kernel
theorem dL_law_776 : decode cL_law 776 = .ok (.iaload, 1) := by decide +kernel
theorem dL_law_777 : decode cL_law 777 = .ok (.invokevirtual 119, 3) := by decide +kernel
theorem dL_law_780 : decode cL_law 780 = .ok (.istore 6, 2) := by decide +kernel
theorem dL_law_782 : decode cL_law 782 = .ok (.aload_n 2, 1) := by decide +kernel
theorem dL_law_783 : decode cL_law 783 = .ok (.invokevirtual 83, 3) := by decide +kernel
theorem dL_law_786 : decode cL_law 786 = .ok (.iload 5, 2) := by decide +kernel
theorem dL_law_788 : decode cL_law 788 = .ok (.if_icmp .eq 5, 3) := by decide +kernel
theorem dL_law_791 : decode cL_law 791 = .ok (.iconst 0, 1) := by decide +kernel
theorem dL_law_792 : decode cL_law 792 = .ok (.ireturn, 1) := by decide +kernel
theorem dL_law_793 : decode cL_law 793 = .ok (.iload 5, 2) := by decide +kernel
theorem dL_law_795 : decode cL_law 795 = .ok (.ifCond .ne 15, 3) := by decide +kernel
theorem dL_law_798 : decode cL_law 798 = .ok (.aload_n 3, 1) := by decide +kernel
theorem dL_law_799 : decode cL_law 799 = .ok (.iconst 0, 1) := by decide +kernel
theorem dL_law_800 : decode cL_law 800 = .ok (.laload, 1) := by decide +kernel
theorem dL_law_801 : decode cL_law 801 = .ok (.iload 6, 2) := by decide +kernel
theorem dL_law_803 : decode cL_law 803 = .ok (.i2l, 1) := by decide +kernel
theorem dL_law_804 : decode cL_law 804 = .ok (.lcmp, 1) := by decide +kernel
theorem dL_law_805 : decode cL_law 805 = .ok (.ifCond .eq 5, 3) := by decide +kernel
theorem dL_law_808 : decode cL_law 808 = .ok (.iconst 0, 1) := by decide +kernel
theorem dL_law_809 : decode cL_law 809 = .ok (.ireturn, 1) := by decide +kernel
theorem dL_law_810 : decode cL_law 810 = .ok (.goto 615, 3) := by decide +kernel
theorem dL_law_813 : decode cL_law 813 = .ok (.aload_n 1, 1) := by decide +kernel
theorem dL_law_814 : decode cL_law 814 = .ok (.aload_n 0, 1) := by decide +kernel
theorem dL_law_815 : decode cL_law 815 = .ok (.iload 4, 2) := by decide +kernel
theorem dL_law_817 : decode cL_law 817 = .ok (.iconst 1, 1) := by decide +kernel
theorem dL_law_818 : decode cL_law 818 = .ok (.iadd, 1) := by decide +kernel
theorem dL_law_819 : decode cL_law 819 = .ok (.iaload, 1) := by decide +kernel
theorem dL_law_820 : decode cL_law 820 = .ok (.aload_n 0, 1) := by decide +kernel
theorem dL_law_821 : decode cL_law 821 = .ok (.iload 4, 2) := by decide +kernel
theorem dL_law_823 : decode cL_law 823 = .ok (.iconst 2, 1) := by decide +kernel
theorem dL_law_824 : decode cL_law 824 = .ok (.iadd, 1) := by decide +kernel
theorem dL_law_825 : decode cL_law 825 = .ok (.iaload, 1) := by decide +kernel
theorem dL_law_826 : decode cL_law 826 = .ok (.aload_n 3, 1) := by decide +kernel
theorem dL_law_827 : decode cL_law 827 = .ok (.invokestatic 120, 3) := by decide +kernel
theorem dL_law_830 : decode cL_law 830 = .ok (.istore 5, 2) := by decide +kernel
theorem dL_law_832 : decode cL_law 832 = .ok (.aload_n 2, 1) := by decide +kernel
theorem dL_law_833 : decode cL_law 833 = .ok (.aload_n 0, 1) := by decide +kernel
theorem dL_law_834 : decode cL_law 834 = .ok (.iload 4, 2) := by decide +kernel
theorem dL_law_836 : decode cL_law 836 = .ok (.iconst 1, 1) := by decide +kernel
theorem dL_law_837 : decode cL_law 837 = .ok (.iadd, 1) := by decide +kernel
theorem dL_law_838 : decode cL_law 838 = .ok (.iaload, 1) := by decide +kernel
theorem dL_law_839 : decode cL_law 839 = .ok (.aload_n 0, 1) := by decide +kernel
theorem dL_law_840 : decode cL_law 840 = .ok (.iload 4, 2) := by decide +kernel
theorem dL_law_842 : decode cL_law 842 = .ok (.iconst 2, 1) := by decide +kernel
theorem dL_law_843 : decode cL_law 843 = .ok (.iadd, 1) := by decide +kernel
theorem dL_law_844 : decode cL_law 844 = .ok (.iaload, 1) := by decide +kernel
theorem dL_law_845 : decode cL_law 845 = .ok (.invokevirtual 122, 3) := by decide +kernel
theorem dL_law_848 : decode cL_law 848 = .ok (.istore 6, 2) := by decide +kernel
theorem dL_law_850 : decode cL_law 850 = .ok (.aload_n 2, 1) := by decide +kernel
theorem dL_law_851 : decode cL_law 851 = .ok (.invokevirtual 83, 3) := by decide +kernel
theorem dL_law_854 : decode cL_law 854 = .ok (.iload 5, 2) := by decide +kernel
theorem dL_law_856 : decode cL_law 856 = .ok (.if_icmp .eq 5, 3) := by decide +kernel
theorem dL_law_859 : decode cL_law 859 = .ok (.iconst 0, 1) := by decide +kernel
theorem dL_law_860 : decode cL_law 860 = .ok (.ireturn, 1) := by decide +kernel
theorem dL_law_861 : decode cL_law 861 = .ok (.iload 5, 2) := by decide +kernel
theorem dL_law_863 : decode cL_law 863 = .ok (.ifCond .ne 15, 3) := by decide +kernel
theorem dL_law_866 : decode cL_law 866 = .ok (.aload_n 3, 1) := by decide +kernel
theorem dL_law_867 : decode cL_law 867 = .ok (.iconst 0, 1) := by decide +kernel
theorem dL_law_868 : decode cL_law 868 = .ok (.laload, 1) := by decide +kernel
theorem dL_law_869 : decode cL_law 869 = .ok (.iload 6, 2) := by decide +kernel
theorem dL_law_871 : decode cL_law 871 = .ok (.i2l, 1) := by decide +kernel
theorem dL_law_872 : decode cL_law 872 = .ok (.lcmp, 1) := by decide +kernel
theorem dL_law_873 : decode cL_law 873 = .ok (.ifCond .eq 5, 3) := by decide +kernel
theorem dL_law_876 : decode cL_law 876 = .ok (.iconst 0, 1) := by decide +kernel
theorem dL_law_877 : decode cL_law 877 = .ok (.ireturn, 1) := by decide +kernel
theorem dL_law_878 : decode cL_law 878 = .ok (.goto 547, 3) := by decide +kernel
theorem dL_law_881 : decode cL_law 881 = .ok (.aload_n 1, 1) := by decide +kernel
theorem dL_law_882 : decode cL_law 882 = .ok (.invokevirtual 123, 3) := by decide +kernel
theorem dL_law_885 : decode cL_law 885 = .ok (.aload_n 2, 1) := by decide +kernel
theorem dL_law_886 : decode cL_law 886 = .ok (.invokevirtual 126, 3) := by decide +kernel
theorem dL_law_889 : decode cL_law 889 = .ok (.if_icmp .eq 536, 3) := by decide +kernel
theorem dL_law_892 : decode cL_law 892 = .ok (.iconst 0, 1) := by decide +kernel
theorem dL_law_893 : decode cL_law 893 = .ok (.ireturn, 1) := by decide +kernel
theorem dL_law_894 : decode cL_law 894 = .ok (.aload_n 1, 1) := by decide +kernel
theorem dL_law_895 : decode cL_law 895 = .ok (.aload_n 0, 1) := by decide +kernel
theorem dL_law_896 : decode cL_law 896 = .ok (.iload 4, 2) := by decide +kernel
theorem dL_law_898 : decode cL_law 898 = .ok (.iconst 1, 1) := by decide +kernel
theorem dL_law_899 : decode cL_law 899 = .ok (.iadd, 1) := by decide +kernel
theorem dL_law_900 : decode cL_law 900 = .ok (.iaload, 1) := by decide +kernel
theorem dL_law_901 : decode cL_law 901 = .ok (.aload_n 3, 1) := by decide +kernel
theorem dL_law_902 : decode cL_law 902 = .ok (.invokestatic 127, 3) := by decide +kernel
theorem dL_law_905 : decode cL_law 905 = .ok (.istore 5, 2) := by decide +kernel
theorem dL_law_907 : decode cL_law 907 = .ok (.aload_n 2, 1) := by decide +kernel
theorem dL_law_908 : decode cL_law 908 = .ok (.aload_n 0, 1) := by decide +kernel
theorem dL_law_909 : decode cL_law 909 = .ok (.iload 4, 2) := by decide +kernel
theorem dL_law_911 : decode cL_law 911 = .ok (.iconst 1, 1) := by decide +kernel
theorem dL_law_912 : decode cL_law 912 = .ok (.iadd, 1) := by decide +kernel
theorem dL_law_913 : decode cL_law 913 = .ok (.iaload, 1) := by decide +kernel
theorem dL_law_914 : decode cL_law 914 = .ok (.invokevirtual 129, 3) := by decide +kernel
theorem dL_law_917 : decode cL_law 917 = .ok (.istore 6, 2) := by decide +kernel
theorem dL_law_919 : decode cL_law 919 = .ok (.aload_n 2, 1) := by decide +kernel
theorem dL_law_920 : decode cL_law 920 = .ok (.invokevirtual 83, 3) := by decide +kernel
theorem dL_law_923 : decode cL_law 923 = .ok (.iload 5, 2) := by decide +kernel
theorem dL_law_925 : decode cL_law 925 = .ok (.if_icmp .eq 5, 3) := by decide +kernel
theorem dL_law_928 : decode cL_law 928 = .ok (.iconst 0, 1) := by decide +kernel
theorem dL_law_929 : decode cL_law 929 = .ok (.ireturn, 1) := by decide +kernel
theorem dL_law_930 : decode cL_law 930 = .ok (.iload 5, 2) := by decide +kernel
theorem dL_law_932 : decode cL_law 932 = .ok (.ifCond .ne 15, 3) := by decide +kernel
theorem dL_law_935 : decode cL_law 935 = .ok (.aload_n 3, 1) := by decide +kernel
theorem dL_law_936 : decode cL_law 936 = .ok (.iconst 0, 1) := by decide +kernel
theorem dL_law_937 : decode cL_law 937 = .ok (.laload, 1) := by decide +kernel
theorem dL_law_938 : decode cL_law 938 = .ok (.iload 6, 2) := by decide +kernel
theorem dL_law_940 : decode cL_law 940 = .ok (.i2l, 1) := by decide +kernel
theorem dL_law_941 : decode cL_law 941 = .ok (.lcmp, 1) := by decide +kernel
theorem dL_law_942 : decode cL_law 942 = .ok (.ifCond .eq 5, 3) := by decide +kernel
theorem dL_law_945 : decode cL_law 945 = .ok (.iconst 0, 1) := by decide +kernel
theorem dL_law_946 : decode cL_law 946 = .ok (.ireturn, 1) := by decide +kernel
theorem dL_law_947 : decode cL_law 947 = .ok (.goto 478, 3) := by decide +kernel
theorem dL_law_950 : decode cL_law 950 = .ok (.aload_n 1, 1) := by decide +kernel
theorem dL_law_951 : decode cL_law 951 = .ok (.aload_n 0, 1) := by decide +kernel
theorem dL_law_952 : decode cL_law 952 = .ok (.iload 4, 2) := by decide +kernel
theorem dL_law_954 : decode cL_law 954 = .ok (.iconst 1, 1) := by decide +kernel
theorem dL_law_955 : decode cL_law 955 = .ok (.iadd, 1) := by decide +kernel
theorem dL_law_956 : decode cL_law 956 = .ok (.iaload, 1) := by decide +kernel
theorem dL_law_957 : decode cL_law 957 = .ok (.aload_n 3, 1) := by decide +kernel
theorem dL_law_958 : decode cL_law 958 = .ok (.invokestatic 130, 3) := by decide +kernel
theorem dL_law_961 : decode cL_law 961 = .ok (.istore 5, 2) := by decide +kernel
theorem dL_law_963 : decode cL_law 963 = .ok (.aload_n 2, 1) := by decide +kernel
theorem dL_law_964 : decode cL_law 964 = .ok (.aload_n 0, 1) := by decide +kernel
theorem dL_law_965 : decode cL_law 965 = .ok (.iload 4, 2) := by decide +kernel
theorem dL_law_967 : decode cL_law 967 = .ok (.iconst 1, 1) := by decide +kernel
theorem dL_law_968 : decode cL_law 968 = .ok (.iadd, 1) := by decide +kernel
theorem dL_law_969 : decode cL_law 969 = .ok (.iaload, 1) := by decide +kernel
theorem dL_law_970 : decode cL_law 970 = .ok (.invokevirtual 132, 3) := by decide +kernel
theorem dL_law_973 : decode cL_law 973 = .ok (.istore 6, 2) := by decide +kernel
theorem dL_law_975 : decode cL_law 975 = .ok (.aload_n 2, 1) := by decide +kernel
theorem dL_law_976 : decode cL_law 976 = .ok (.invokevirtual 83, 3) := by decide +kernel
theorem dL_law_979 : decode cL_law 979 = .ok (.iload 5, 2) := by decide +kernel
theorem dL_law_981 : decode cL_law 981 = .ok (.if_icmp .eq 5, 3) := by decide +kernel
theorem dL_law_984 : decode cL_law 984 = .ok (.iconst 0, 1) := by decide +kernel
theorem dL_law_985 : decode cL_law 985 = .ok (.ireturn, 1) := by decide +kernel
theorem dL_law_986 : decode cL_law 986 = .ok (.iload 5, 2) := by decide +kernel
theorem dL_law_988 : decode cL_law 988 = .ok (.ifCond .ne 15, 3) := by decide +kernel
theorem dL_law_991 : decode cL_law 991 = .ok (.aload_n 3, 1) := by decide +kernel
theorem dL_law_992 : decode cL_law 992 = .ok (.iconst 0, 1) := by decide +kernel
theorem dL_law_993 : decode cL_law 993 = .ok (.laload, 1) := by decide +kernel
theorem dL_law_994 : decode cL_law 994 = .ok (.iload 6, 2) := by decide +kernel
theorem dL_law_996 : decode cL_law 996 = .ok (.i2l, 1) := by decide +kernel
theorem dL_law_997 : decode cL_law 997 = .ok (.lcmp, 1) := by decide +kernel
theorem dL_law_998 : decode cL_law 998 = .ok (.ifCond .eq 5, 3) := by decide +kernel
theorem dL_law_1001 : decode cL_law 1001 = .ok (.iconst 0, 1) := by decide +kernel
theorem dL_law_1002 : decode cL_law 1002 = .ok (.ireturn, 1) := by decide +kernel
theorem dL_law_1003 : decode cL_law 1003 = .ok (.goto 422, 3) := by decide +kernel
theorem dL_law_1006 : decode cL_law 1006 = .ok (.aload_n 1, 1) := by decide +kernel
theorem dL_law_1007 : decode cL_law 1007 = .ok (.aload_n 0, 1) := by decide +kernel
theorem dL_law_1008 : decode cL_law 1008 = .ok (.iload 4, 2) := by decide +kernel
theorem dL_law_1010 : decode cL_law 1010 = .ok (.iconst 1, 1) := by decide +kernel
theorem dL_law_1011 : decode cL_law 1011 = .ok (.iadd, 1) := by decide +kernel
theorem dL_law_1012 : decode cL_law 1012 = .ok (.iaload, 1) := by decide +kernel
theorem dL_law_1013 : decode cL_law 1013 = .ok (.aload_n 0, 1) := by decide +kernel
theorem dL_law_1014 : decode cL_law 1014 = .ok (.iload 4, 2) := by decide +kernel
theorem dL_law_1016 : decode cL_law 1016 = .ok (.iconst 2, 1) := by decide +kernel
theorem dL_law_1017 : decode cL_law 1017 = .ok (.iadd, 1) := by decide +kernel
theorem dL_law_1018 : decode cL_law 1018 = .ok (.iaload, 1) := by decide +kernel
theorem dL_law_1019 : decode cL_law 1019 = .ok (.aload_n 3, 1) := by decide +kernel
theorem dL_law_1020 : decode cL_law 1020 = .ok (.invokestatic 133, 3) := by decide +kernel
theorem dL_law_1023 : decode cL_law 1023 = .ok (.istore 5, 2) := by decide +kernel
theorem dL_law_1025 : decode cL_law 1025 = .ok (.aload_n 2, 1) := by decide +kernel
theorem dL_law_1026 : decode cL_law 1026 = .ok (.aload_n 0, 1) := by decide +kernel
theorem dL_law_1027 : decode cL_law 1027 = .ok (.iload 4, 2) := by decide +kernel
theorem dL_law_1029 : decode cL_law 1029 = .ok (.iconst 1, 1) := by decide +kernel
theorem dL_law_1030 : decode cL_law 1030 = .ok (.iadd, 1) := by decide +kernel
theorem dL_law_1031 : decode cL_law 1031 = .ok (.iaload, 1) := by decide +kernel
theorem dL_law_1032 : decode cL_law 1032 = .ok (.aload_n 0, 1) := by decide +kernel
theorem dL_law_1033 : decode cL_law 1033 = .ok (.iload 4, 2) := by decide +kernel
theorem dL_law_1035 : decode cL_law 1035 = .ok (.iconst 2, 1) := by decide +kernel
theorem dL_law_1036 : decode cL_law 1036 = .ok (.iadd, 1) := by decide +kernel
theorem dL_law_1037 : decode cL_law 1037 = .ok (.iaload, 1) := by decide +kernel
theorem dL_law_1038 : decode cL_law 1038 = .ok (.invokevirtual 135, 3) := by decide +kernel
theorem dL_law_1041 : decode cL_law 1041 = .ok (.istore 6, 2) := by decide +kernel
theorem dL_law_1043 : decode cL_law 1043 = .ok (.aload_n 2, 1) := by decide +kernel
theorem dL_law_1044 : decode cL_law 1044 = .ok (.invokevirtual 83, 3) := by decide +kernel
theorem dL_law_1047 : decode cL_law 1047 = .ok (.iload 5, 2) := by decide +kernel
theorem dL_law_1049 : decode cL_law 1049 = .ok (.if_icmp .eq 5, 3) := by decide +kernel
theorem dL_law_1052 : decode cL_law 1052 = .ok (.iconst 0, 1) := by decide +kernel
theorem dL_law_1053 : decode cL_law 1053 = .ok (.ireturn, 1) := by decide +kernel
theorem dL_law_1054 : decode cL_law 1054 = .ok (.iload 5, 2) := by decide +kernel
theorem dL_law_1056 : decode cL_law 1056 = .ok (.ifCond .ne 15, 3) := by decide +kernel
theorem dL_law_1059 : decode cL_law 1059 = .ok (.aload_n 3, 1) := by decide +kernel
theorem dL_law_1060 : decode cL_law 1060 = .ok (.iconst 0, 1) := by decide +kernel
theorem dL_law_1061 : decode cL_law 1061 = .ok (.laload, 1) := by decide +kernel
theorem dL_law_1062 : decode cL_law 1062 = .ok (.iload 6, 2) := by decide +kernel
theorem dL_law_1064 : decode cL_law 1064 = .ok (.i2l, 1) := by decide +kernel
theorem dL_law_1065 : decode cL_law 1065 = .ok (.lcmp, 1) := by decide +kernel
theorem dL_law_1066 : decode cL_law 1066 = .ok (.ifCond .eq 5, 3) := by decide +kernel
theorem dL_law_1069 : decode cL_law 1069 = .ok (.iconst 0, 1) := by decide +kernel
theorem dL_law_1070 : decode cL_law 1070 = .ok (.ireturn, 1) := by decide +kernel
theorem dL_law_1071 : decode cL_law 1071 = .ok (.goto 354, 3) := by decide +kernel
theorem dL_law_1074 : decode cL_law 1074 = .ok (.aload_n 1, 1) := by decide +kernel
theorem dL_law_1075 : decode cL_law 1075 = .ok (.aload_n 0, 1) := by decide +kernel
theorem dL_law_1076 : decode cL_law 1076 = .ok (.iload 4, 2) := by decide +kernel
theorem dL_law_1078 : decode cL_law 1078 = .ok (.iconst 1, 1) := by decide +kernel
theorem dL_law_1079 : decode cL_law 1079 = .ok (.iadd, 1) := by decide +kernel
theorem dL_law_1080 : decode cL_law 1080 = .ok (.iaload, 1) := by decide +kernel
theorem dL_law_1081 : decode cL_law 1081 = .ok (.aload_n 0, 1) := by decide +kernel
theorem dL_law_1082 : decode cL_law 1082 = .ok (.iload 4, 2) := by decide +kernel
theorem dL_law_1084 : decode cL_law 1084 = .ok (.iconst 2, 1) := by decide +kernel
theorem dL_law_1085 : decode cL_law 1085 = .ok (.iadd, 1) := by decide +kernel
theorem dL_law_1086 : decode cL_law 1086 = .ok (.iaload, 1) := by decide +kernel
theorem dL_law_1087 : decode cL_law 1087 = .ok (.aload_n 3, 1) := by decide +kernel
theorem dL_law_1088 : decode cL_law 1088 = .ok (.invokestatic 136, 3) := by decide +kernel
theorem dL_law_1091 : decode cL_law 1091 = .ok (.istore 5, 2) := by decide +kernel
theorem dL_law_1093 : decode cL_law 1093 = .ok (.aload_n 2, 1) := by decide +kernel
theorem dL_law_1094 : decode cL_law 1094 = .ok (.aload_n 0, 1) := by decide +kernel
theorem dL_law_1095 : decode cL_law 1095 = .ok (.iload 4, 2) := by decide +kernel
theorem dL_law_1097 : decode cL_law 1097 = .ok (.iconst 1, 1) := by decide +kernel
theorem dL_law_1098 : decode cL_law 1098 = .ok (.iadd, 1) := by decide +kernel
theorem dL_law_1099 : decode cL_law 1099 = .ok (.iaload, 1) := by decide +kernel
theorem dL_law_1100 : decode cL_law 1100 = .ok (.aload_n 0, 1) := by decide +kernel
theorem dL_law_1101 : decode cL_law 1101 = .ok (.iload 4, 2) := by decide +kernel
theorem dL_law_1103 : decode cL_law 1103 = .ok (.iconst 2, 1) := by decide +kernel
theorem dL_law_1104 : decode cL_law 1104 = .ok (.iadd, 1) := by decide +kernel
theorem dL_law_1105 : decode cL_law 1105 = .ok (.iaload, 1) := by decide +kernel
theorem dL_law_1106 : decode cL_law 1106 = .ok (.invokevirtual 138, 3) := by decide +kernel
theorem dL_law_1109 : decode cL_law 1109 = .ok (.istore 6, 2) := by decide +kernel
theorem dL_law_1111 : decode cL_law 1111 = .ok (.aload_n 2, 1) := by decide +kernel
theorem dL_law_1112 : decode cL_law 1112 = .ok (.invokevirtual 83, 3) := by decide +kernel
theorem dL_law_1115 : decode cL_law 1115 = .ok (.iload 5, 2) := by decide +kernel
theorem dL_law_1117 : decode cL_law 1117 = .ok (.if_icmp .eq 5, 3) := by decide +kernel
theorem dL_law_1120 : decode cL_law 1120 = .ok (.iconst 0, 1) := by decide +kernel
theorem dL_law_1121 : decode cL_law 1121 = .ok (.ireturn, 1) := by decide +kernel
theorem dL_law_1122 : decode cL_law 1122 = .ok (.iload 5, 2) := by decide +kernel
theorem dL_law_1124 : decode cL_law 1124 = .ok (.ifCond .ne 15, 3) := by decide +kernel
theorem dL_law_1127 : decode cL_law 1127 = .ok (.aload_n 3, 1) := by decide +kernel
theorem dL_law_1128 : decode cL_law 1128 = .ok (.iconst 0, 1) := by decide +kernel
theorem dL_law_1129 : decode cL_law 1129 = .ok (.laload, 1) := by decide +kernel
theorem dL_law_1130 : decode cL_law 1130 = .ok (.iload 6, 2) := by decide +kernel
theorem dL_law_1132 : decode cL_law 1132 = .ok (.i2l, 1) := by decide +kernel
theorem dL_law_1133 : decode cL_law 1133 = .ok (.lcmp, 1) := by decide +kernel
theorem dL_law_1134 : decode cL_law 1134 = .ok (.ifCond .eq 5, 3) := by decide +kernel
theorem dL_law_1137 : decode cL_law 1137 = .ok (.iconst 0, 1) := by decide +kernel
theorem dL_law_1138 : decode cL_law 1138 = .ok (.ireturn, 1) := by decide +kernel
theorem dL_law_1139 : decode cL_law 1139 = .ok (.goto 286, 3) := by decide +kernel
theorem dL_law_1142 : decode cL_law 1142 = .ok (.aload_n 1, 1) := by decide +kernel
theorem dL_law_1143 : decode cL_law 1143 = .ok (.aload_n 0, 1) := by decide +kernel
theorem dL_law_1144 : decode cL_law 1144 = .ok (.iload 4, 2) := by decide +kernel
theorem dL_law_1146 : decode cL_law 1146 = .ok (.iconst 1, 1) := by decide +kernel
theorem dL_law_1147 : decode cL_law 1147 = .ok (.iadd, 1) := by decide +kernel
theorem dL_law_1148 : decode cL_law 1148 = .ok (.iaload, 1) := by decide +kernel
theorem dL_law_1149 : decode cL_law 1149 = .ok (.aload_n 0, 1) := by decide +kernel
theorem dL_law_1150 : decode cL_law 1150 = .ok (.iload 4, 2) := by decide +kernel
theorem dL_law_1152 : decode cL_law 1152 = .ok (.iconst 2, 1) := by decide +kernel
theorem dL_law_1153 : decode cL_law 1153 = .ok (.iadd, 1) := by decide +kernel
theorem dL_law_1154 : decode cL_law 1154 = .ok (.iaload, 1) := by decide +kernel
theorem dL_law_1155 : decode cL_law 1155 = .ok (.aload_n 0, 1) := by decide +kernel
theorem dL_law_1156 : decode cL_law 1156 = .ok (.iload 4, 2) := by decide +kernel
theorem dL_law_1158 : decode cL_law 1158 = .ok (.iconst 3, 1) := by decide +kernel
theorem dL_law_1159 : decode cL_law 1159 = .ok (.iadd, 1) := by decide +kernel
theorem dL_law_1160 : decode cL_law 1160 = .ok (.iaload, 1) := by decide +kernel
theorem dL_law_1161 : decode cL_law 1161 = .ok (.aload_n 3, 1) := by decide +kernel
theorem dL_law_1162 : decode cL_law 1162 = .ok (.invokestatic 139, 3) := by decide +kernel
theorem dL_law_1165 : decode cL_law 1165 = .ok (.istore 5, 2) := by decide +kernel
theorem dL_law_1167 : decode cL_law 1167 = .ok (.aload_n 2, 1) := by decide +kernel
theorem dL_law_1168 : decode cL_law 1168 = .ok (.aload_n 0, 1) := by decide +kernel
theorem dL_law_1169 : decode cL_law 1169 = .ok (.iload 4, 2) := by decide +kernel
theorem dL_law_1171 : decode cL_law 1171 = .ok (.iconst 1, 1) := by decide +kernel
theorem dL_law_1172 : decode cL_law 1172 = .ok (.iadd, 1) := by decide +kernel
theorem dL_law_1173 : decode cL_law 1173 = .ok (.iaload, 1) := by decide +kernel
theorem dL_law_1174 : decode cL_law 1174 = .ok (.aload_n 0, 1) := by decide +kernel
theorem dL_law_1175 : decode cL_law 1175 = .ok (.iload 4, 2) := by decide +kernel
theorem dL_law_1177 : decode cL_law 1177 = .ok (.iconst 2, 1) := by decide +kernel
theorem dL_law_1178 : decode cL_law 1178 = .ok (.iadd, 1) := by decide +kernel
theorem dL_law_1179 : decode cL_law 1179 = .ok (.iaload, 1) := by decide +kernel
theorem dL_law_1180 : decode cL_law 1180 = .ok (.aload_n 0, 1) := by decide +kernel
theorem dL_law_1181 : decode cL_law 1181 = .ok (.iload 4, 2) := by decide +kernel
theorem dL_law_1183 : decode cL_law 1183 = .ok (.iconst 3, 1) := by decide +kernel
theorem dL_law_1184 : decode cL_law 1184 = .ok (.iadd, 1) := by decide +kernel
theorem dL_law_1185 : decode cL_law 1185 = .ok (.iaload, 1) := by decide +kernel
theorem dL_law_1186 : decode cL_law 1186 = .ok (.invokevirtual 141, 3) := by decide +kernel
theorem dL_law_1189 : decode cL_law 1189 = .ok (.istore 6, 2) := by decide +kernel
theorem dL_law_1191 : decode cL_law 1191 = .ok (.aload_n 2, 1) := by decide +kernel
theorem dL_law_1192 : decode cL_law 1192 = .ok (.invokevirtual 83, 3) := by decide +kernel
theorem dL_law_1195 : decode cL_law 1195 = .ok (.iload 5, 2) := by decide +kernel
theorem dL_law_1197 : decode cL_law 1197 = .ok (.if_icmp .eq 5, 3) := by decide +kernel
theorem dL_law_1200 : decode cL_law 1200 = .ok (.iconst 0, 1) := by decide +kernel
theorem dL_law_1201 : decode cL_law 1201 = .ok (.ireturn, 1) := by decide +kernel
theorem dL_law_1202 : decode cL_law 1202 = .ok (.iload 5, 2) := by decide +kernel
theorem dL_law_1204 : decode cL_law 1204 = .ok (.ifCond .ne 15, 3) := by decide +kernel
theorem dL_law_1207 : decode cL_law 1207 = .ok (.aload_n 3, 1) := by decide +kernel
theorem dL_law_1208 : decode cL_law 1208 = .ok (.iconst 0, 1) := by decide +kernel
theorem dL_law_1209 : decode cL_law 1209 = .ok (.laload, 1) := by decide +kernel
theorem dL_law_1210 : decode cL_law 1210 = .ok (.iload 6, 2) := by decide +kernel
theorem dL_law_1212 : decode cL_law 1212 = .ok (.i2l, 1) := by decide +kernel
theorem dL_law_1213 : decode cL_law 1213 = .ok (.lcmp, 1) := by decide +kernel
theorem dL_law_1214 : decode cL_law 1214 = .ok (.ifCond .eq 5, 3) := by decide +kernel
theorem dL_law_1217 : decode cL_law 1217 = .ok (.iconst 0, 1) := by decide +kernel
theorem dL_law_1218 : decode cL_law 1218 = .ok (.ireturn, 1) := by decide +kernel
theorem dL_law_1219 : decode cL_law 1219 = .ok (.goto 206, 3) := by decide +kernel
theorem dL_law_1222 : decode cL_law 1222 = .ok (.aload_n 1, 1) := by decide +kernel
theorem dL_law_1223 : decode cL_law 1223 = .ok (.aload_n 0, 1) := by decide +kernel
theorem dL_law_1224 : decode cL_law 1224 = .ok (.iload 4, 2) := by decide +kernel
theorem dL_law_1226 : decode cL_law 1226 = .ok (.iconst 1, 1) := by decide +kernel
theorem dL_law_1227 : decode cL_law 1227 = .ok (.iadd, 1) := by decide +kernel
theorem dL_law_1228 : decode cL_law 1228 = .ok (.iaload, 1) := by decide +kernel
theorem dL_law_1229 : decode cL_law 1229 = .ok (.aload_n 0, 1) := by decide +kernel
theorem dL_law_1230 : decode cL_law 1230 = .ok (.iload 4, 2) := by decide +kernel
theorem dL_law_1232 : decode cL_law 1232 = .ok (.iconst 2, 1) := by decide +kernel
theorem dL_law_1233 : decode cL_law 1233 = .ok (.iadd, 1) := by decide +kernel
theorem dL_law_1234 : decode cL_law 1234 = .ok (.iaload, 1) := by decide +kernel
theorem dL_law_1235 : decode cL_law 1235 = .ok (.aload_n 0, 1) := by decide +kernel
theorem dL_law_1236 : decode cL_law 1236 = .ok (.iload 4, 2) := by decide +kernel
theorem dL_law_1238 : decode cL_law 1238 = .ok (.iconst 3, 1) := by decide +kernel
theorem dL_law_1239 : decode cL_law 1239 = .ok (.iadd, 1) := by decide +kernel
theorem dL_law_1240 : decode cL_law 1240 = .ok (.iaload, 1) := by decide +kernel
theorem dL_law_1241 : decode cL_law 1241 = .ok (.ifCond .eq 7, 3) := by decide +kernel
theorem dL_law_1244 : decode cL_law 1244 = .ok (.iconst 1, 1) := by decide +kernel
theorem dL_law_1245 : decode cL_law 1245 = .ok (.goto 4, 3) := by decide +kernel
theorem dL_law_1248 : decode cL_law 1248 = .ok (.iconst 0, 1) := by decide +kernel
theorem dL_law_1249 : decode cL_law 1249 = .ok (.aload_n 3, 1) := by decide +kernel
theorem dL_law_1250 : decode cL_law 1250 = .ok (.invokestatic 142, 3) := by decide +kernel
theorem dL_law_1253 : decode cL_law 1253 = .ok (.istore 5, 2) := by decide +kernel
theorem dL_law_1255 : decode cL_law 1255 = .ok (.aload_n 2, 1) := by decide +kernel
theorem dL_law_1256 : decode cL_law 1256 = .ok (.aload_n 0, 1) := by decide +kernel
theorem dL_law_1257 : decode cL_law 1257 = .ok (.iload 4, 2) := by decide +kernel
theorem dL_law_1259 : decode cL_law 1259 = .ok (.iconst 1, 1) := by decide +kernel
theorem dL_law_1260 : decode cL_law 1260 = .ok (.iadd, 1) := by decide +kernel
theorem dL_law_1261 : decode cL_law 1261 = .ok (.iaload, 1) := by decide +kernel
theorem dL_law_1262 : decode cL_law 1262 = .ok (.aload_n 0, 1) := by decide +kernel
theorem dL_law_1263 : decode cL_law 1263 = .ok (.iload 4, 2) := by decide +kernel
theorem dL_law_1265 : decode cL_law 1265 = .ok (.iconst 2, 1) := by decide +kernel
theorem dL_law_1266 : decode cL_law 1266 = .ok (.iadd, 1) := by decide +kernel
theorem dL_law_1267 : decode cL_law 1267 = .ok (.iaload, 1) := by decide +kernel
theorem dL_law_1268 : decode cL_law 1268 = .ok (.aload_n 0, 1) := by decide +kernel
theorem dL_law_1269 : decode cL_law 1269 = .ok (.iload 4, 2) := by decide +kernel
theorem dL_law_1271 : decode cL_law 1271 = .ok (.iconst 3, 1) := by decide +kernel
theorem dL_law_1272 : decode cL_law 1272 = .ok (.iadd, 1) := by decide +kernel
theorem dL_law_1273 : decode cL_law 1273 = .ok (.iaload, 1) := by decide +kernel
theorem dL_law_1274 : decode cL_law 1274 = .ok (.ifCond .eq 7, 3) := by decide +kernel
theorem dL_law_1277 : decode cL_law 1277 = .ok (.iconst 1, 1) := by decide +kernel
theorem dL_law_1278 : decode cL_law 1278 = .ok (.goto 4, 3) := by decide +kernel
theorem dL_law_1281 : decode cL_law 1281 = .ok (.iconst 0, 1) := by decide +kernel
theorem dL_law_1282 : decode cL_law 1282 = .ok (.invokevirtual 145, 3) := by decide +kernel
theorem dL_law_1285 : decode cL_law 1285 = .ok (.istore 6, 2) := by decide +kernel
theorem dL_law_1287 : decode cL_law 1287 = .ok (.aload_n 2, 1) := by decide +kernel
theorem dL_law_1288 : decode cL_law 1288 = .ok (.invokevirtual 83, 3) := by decide +kernel
theorem dL_law_1291 : decode cL_law 1291 = .ok (.iload 5, 2) := by decide +kernel
theorem dL_law_1293 : decode cL_law 1293 = .ok (.if_icmp .eq 5, 3) := by decide +kernel
theorem dL_law_1296 : decode cL_law 1296 = .ok (.iconst 0, 1) := by decide +kernel
theorem dL_law_1297 : decode cL_law 1297 = .ok (.ireturn, 1) := by decide +kernel
theorem dL_law_1298 : decode cL_law 1298 = .ok (.iload 5, 2) := by decide +kernel
theorem dL_law_1300 : decode cL_law 1300 = .ok (.ifCond .ne 15, 3) := by decide +kernel
theorem dL_law_1303 : decode cL_law 1303 = .ok (.aload_n 3, 1) := by decide +kernel
theorem dL_law_1304 : decode cL_law 1304 = .ok (.iconst 0, 1) := by decide +kernel
theorem dL_law_1305 : decode cL_law 1305 = .ok (.laload, 1) := by decide +kernel
theorem dL_law_1306 : decode cL_law 1306 = .ok (.iload 6, 2) := by decide +kernel
theorem dL_law_1308 : decode cL_law 1308 = .ok (.i2l, 1) := by decide +kernel
theorem dL_law_1309 : decode cL_law 1309 = .ok (.lcmp, 1) := by decide +kernel
theorem dL_law_1310 : decode cL_law 1310 = .ok (.ifCond .eq 5, 3) := by decide +kernel
theorem dL_law_1313 : decode cL_law 1313 = .ok (.iconst 0, 1) := by decide +kernel
theorem dL_law_1314 : decode cL_law 1314 = .ok (.ireturn, 1) := by decide +kernel
theorem dL_law_1315 : decode cL_law 1315 = .ok (.goto 110, 3) := by decide +kernel
theorem dL_law_1318 : decode cL_law 1318 = .ok (.aload_n 1, 1) := by decide +kernel
theorem dL_law_1319 : decode cL_law 1319 = .ok (.aload_n 0, 1) := by decide +kernel
theorem dL_law_1320 : decode cL_law 1320 = .ok (.iload 4, 2) := by decide +kernel
theorem dL_law_1322 : decode cL_law 1322 = .ok (.iconst 1, 1) := by decide +kernel
theorem dL_law_1323 : decode cL_law 1323 = .ok (.iadd, 1) := by decide +kernel
theorem dL_law_1324 : decode cL_law 1324 = .ok (.iaload, 1) := by decide +kernel
theorem dL_law_1325 : decode cL_law 1325 = .ok (.aload_n 0, 1) := by decide +kernel
theorem dL_law_1326 : decode cL_law 1326 = .ok (.iload 4, 2) := by decide +kernel
theorem dL_law_1328 : decode cL_law 1328 = .ok (.iconst 2, 1) := by decide +kernel
theorem dL_law_1329 : decode cL_law 1329 = .ok (.iadd, 1) := by decide +kernel
theorem dL_law_1330 : decode cL_law 1330 = .ok (.iaload, 1) := by decide +kernel
theorem dL_law_1331 : decode cL_law 1331 = .ok (.aload_n 3, 1) := by decide +kernel
theorem dL_law_1332 : decode cL_law 1332 = .ok (.invokestatic 146, 3) := by decide +kernel
theorem dL_law_1335 : decode cL_law 1335 = .ok (.istore 5, 2) := by decide +kernel
theorem dL_law_1337 : decode cL_law 1337 = .ok (.aload_n 2, 1) := by decide +kernel
theorem dL_law_1338 : decode cL_law 1338 = .ok (.aload_n 0, 1) := by decide +kernel
theorem dL_law_1339 : decode cL_law 1339 = .ok (.iload 4, 2) := by decide +kernel
theorem dL_law_1341 : decode cL_law 1341 = .ok (.iconst 1, 1) := by decide +kernel
theorem dL_law_1342 : decode cL_law 1342 = .ok (.iadd, 1) := by decide +kernel
theorem dL_law_1343 : decode cL_law 1343 = .ok (.iaload, 1) := by decide +kernel
theorem dL_law_1344 : decode cL_law 1344 = .ok (.aload_n 0, 1) := by decide +kernel
theorem dL_law_1345 : decode cL_law 1345 = .ok (.iload 4, 2) := by decide +kernel
theorem dL_law_1347 : decode cL_law 1347 = .ok (.iconst 2, 1) := by decide +kernel
theorem dL_law_1348 : decode cL_law 1348 = .ok (.iadd, 1) := by decide +kernel
theorem dL_law_1349 : decode cL_law 1349 = .ok (.iaload, 1) := by decide +kernel
theorem dL_law_1350 : decode cL_law 1350 = .ok (.invokevirtual 148, 3) := by decide +kernel
theorem dL_law_1353 : decode cL_law 1353 = .ok (.istore 6, 2) := by decide +kernel
theorem dL_law_1355 : decode cL_law 1355 = .ok (.aload_n 2, 1) := by decide +kernel
theorem dL_law_1356 : decode cL_law 1356 = .ok (.invokevirtual 83, 3) := by decide +kernel
theorem dL_law_1359 : decode cL_law 1359 = .ok (.iload 5, 2) := by decide +kernel
theorem dL_law_1361 : decode cL_law 1361 = .ok (.if_icmp .eq 5, 3) := by decide +kernel
theorem dL_law_1364 : decode cL_law 1364 = .ok (.iconst 0, 1) := by decide +kernel
theorem dL_law_1365 : decode cL_law 1365 = .ok (.ireturn, 1) := by decide +kernel
theorem dL_law_1366 : decode cL_law 1366 = .ok (.iload 5, 2) := by decide +kernel
theorem dL_law_1368 : decode cL_law 1368 = .ok (.ifCond .ne 15, 3) := by decide +kernel
theorem dL_law_1371 : decode cL_law 1371 = .ok (.aload_n 3, 1) := by decide +kernel
theorem dL_law_1372 : decode cL_law 1372 = .ok (.iconst 0, 1) := by decide +kernel
theorem dL_law_1373 : decode cL_law 1373 = .ok (.laload, 1) := by decide +kernel
theorem dL_law_1374 : decode cL_law 1374 = .ok (.iload 6, 2) := by decide +kernel
theorem dL_law_1376 : decode cL_law 1376 = .ok (.i2l, 1) := by decide +kernel
theorem dL_law_1377 : decode cL_law 1377 = .ok (.lcmp, 1) := by decide +kernel
theorem dL_law_1378 : decode cL_law 1378 = .ok (.ifCond .eq 5, 3) := by decide +kernel
theorem dL_law_1381 : decode cL_law 1381 = .ok (.iconst 0, 1) := by decide +kernel
theorem dL_law_1382 : decode cL_law 1382 = .ok (.ireturn, 1) := by decide +kernel
theorem dL_law_1383 : decode cL_law 1383 = .ok (.goto 42, 3) := by decide +kernel
theorem dL_law_1386 : decode cL_law 1386 = .ok (.aload_n 1, 1) := by decide +kernel
theorem dL_law_1387 : decode cL_law 1387 = .ok (.invokevirtual 149, 3) := by decide +kernel
theorem dL_law_1390 : decode cL_law 1390 = .ok (.aload_n 2, 1) := by decide +kernel
theorem dL_law_1391 : decode cL_law 1391 = .ok (.invokevirtual 152, 3) := by decide +kernel
theorem dL_law_1394 : decode cL_law 1394 = .ok (.if_icmp .eq 31, 3) := by decide +kernel
theorem dL_law_1397 : decode cL_law 1397 = .ok (.iconst 0, 1) := by decide +kernel
theorem dL_law_1398 : decode cL_law 1398 = .ok (.ireturn, 1) := by decide +kernel
theorem dL_law_1399 : decode cL_law 1399 = .ok (.aload_n 1, 1) := by decide +kernel
theorem dL_law_1400 : decode cL_law 1400 = .ok (.invokevirtual 153, 3) := by decide +kernel
theorem dL_law_1403 : decode cL_law 1403 = .ok (.aload_n 2, 1) := by decide +kernel
theorem dL_law_1404 : decode cL_law 1404 = .ok (.invokevirtual 156, 3) := by decide +kernel
theorem dL_law_1407 : decode cL_law 1407 = .ok (.if_icmp .eq 18, 3) := by decide +kernel
theorem dL_law_1410 : decode cL_law 1410 = .ok (.iconst 0, 1) := by decide +kernel
theorem dL_law_1411 : decode cL_law 1411 = .ok (.ireturn, 1) := by decide +kernel
theorem dL_law_1412 : decode cL_law 1412 = .ok (.aload_n 1, 1) := by decide +kernel
theorem dL_law_1413 : decode cL_law 1413 = .ok (.invokevirtual 157, 3) := by decide +kernel
theorem dL_law_1416 : decode cL_law 1416 = .ok (.aload_n 2, 1) := by decide +kernel
theorem dL_law_1417 : decode cL_law 1417 = .ok (.invokevirtual 160, 3) := by decide +kernel
theorem dL_law_1420 : decode cL_law 1420 = .ok (.if_icmp .eq 5, 3) := by decide +kernel
theorem dL_law_1423 : decode cL_law 1423 = .ok (.iconst 0, 1) := by decide +kernel
theorem dL_law_1424 : decode cL_law 1424 = .ok (.ireturn, 1) := by decide +kernel
theorem dL_law_1425 : decode cL_law 1425 = .ok (.iinc 4 4, 3) := by decide +kernel
theorem dL_law_1428 : decode cL_law 1428 = .ok (.goto (-1405), 3) := by decide +kernel
theorem dL_law_1431 : decode cL_law 1431 = .ok (.iconst 1, 1) := by decide +kernel
theorem dL_law_1432 : decode cL_law 1432 = .ok (.ireturn, 1) := by decide +kernel
end
section
/-! THE LIBRARY OF THIS PROOF: stores, rows over stores, contracts that read alone, contracts that write. -/
/-- a store: what lies at an address, as far as it is known -/
abbrev rn_T : Type := Nat → Option va_E
def rn_S (D : va_G) (f : rn_T) (H : Heap) : Prop := ∀ (a : Nat) (e : va_E), f a = some e → va_at D vwCl (a, e) H
def rn_A (f : rn_T) (sz : Nat) : Nat → Prop := fun q => f q ≠ none ∨ sz ≤ q
theorem rn_up_eq {α : Type} (f : Nat → α) (k : Nat) (v : α) : va_up f k v k = v := by simp [va_up]
theorem rn_up_ne {α : Type} (f : Nat → α) {k j : Nat} (v : α) (h : j ≠ k) : va_up f k v j = f j := by simp [va_up, h]
theorem rn_S.kept {D : va_G} {f : rn_T} {H H1 : Heap} (h : rn_S D f H) (hq : ∀ q : Nat, f q ≠ none → H1[q]? = H[q]?) : rn_S D f H1 :=
  fun a e he => (h a e he).kept (hq a (by rw [he]; exact fun z => nomatch z))
theorem rn_S.lt {D : va_G} {f : rn_T} {H : Heap} {a : Nat} (h : rn_S D f H) (ha : f a ≠ none) : a < H.size := by
  cases hf : f a with
  | none => exact absurd hf ha
  | some e => exact (h a e hf).lt
theorem rn_S.set {D : va_G} {f : rn_T} {H H1 : Heap} {a : Nat} {e : va_E} (h : rn_S D f H) (he : va_at D vwCl (a, e) H1) (oq : ∀ q : Nat, q ≠ a → H1[q]? = H[q]?) : rn_S D (va_up f a (some e)) H1 := by
  intro b e' hb
  by_cases hba : b = a
  · subst hba
    rw [rn_up_eq] at hb
    cases hb
    exact he
  · rw [rn_up_ne _ _ hba] at hb
    exact (h b e' hb).kept (oq b hba)
theorem rn_S.push {D : va_G} {f : rn_T} {H H1 : Heap} {q : Nat} {e : va_E} (h : rn_S D f H) (hq : q = H.size) (he : va_at D vwCl (q, e) H1) (oq : ∀ x : Nat, x < H.size → H1[x]? = H[x]?) : rn_S D (va_up f q (some e)) H1 := by
  intro b e' hb
  by_cases hba : b = q
  · subst hba
    rw [rn_up_eq] at hb
    cases hb
    exact he
  · rw [rn_up_ne _ _ hba] at hb
    exact (h b e' hb).kept (oq b (h.lt (by rw [hb]; exact fun z => nomatch z)))
theorem rn_S.fresh {D : va_G} {f : rn_T} {H : Heap} {q : Nat} (h : rn_S D f H) (hq : q = H.size) : f q = none := by
  cases hf : f q with
  | none => rfl
  | some e => exact absurd (h.lt (a := q) (by rw [hf]; exact fun z => nomatch z)) (by omega)
theorem rn_ne {f : rn_T} {a b : Nat} {x y : va_E} (ha : f a = some x) (hb : f b = some y) (h : x ≠ y) : a ≠ b := fun e => by
  subst e
  exact h (Option.some.inj (ha.symm.trans hb))
theorem rn_one {D : va_G} {q : Nat × va_E} {H : Heap} (h : va_at D vwCl q H) : va_P D vwCl [q] H := fun k x hk => by
  have hz : k < 1 := (List.getElem?_eq_some_iff.mp hk).1
  rw [show k = 0 by omega] at hk
  cases hk
  exact h
theorem rn_oneD {A : Nat → Prop} {q : Nat × va_E} (h : A q.1) : va_D A [q] := by
  refine ⟨fun i j x y hi hj _ => ?_, fun k x hk => ?_⟩
  · have h1 : i < 1 := (List.getElem?_eq_some_iff.mp hi).1
    have h2 : j < 1 := (List.getElem?_eq_some_iff.mp hj).1
    omega
  · have hz : k < 1 := (List.getElem?_eq_some_iff.mp hk).1
    rw [show k = 0 by omega] at hk
    cases hk
    exact h
/-- what the tables say, as every method here needs it: the classes, the arrays' classes, the one link to a nest mate -/
def rn_G (D : va_G) (tys : List (ClassId × FieldType)) (U : State) : Prop := va_K D vwCl tys U ∧ va_Nw (.methodLinkNest RX1 26 yX4_isOrIsInside RX4) U
theorem rn_G.warm {D : va_G} {tys : List (ClassId × FieldType)} {s U : State} (hW : s.WarmedH U.vm) (h : rn_G D tys s) : rn_G D tys U := ⟨va_K.moved hW.alike h.1, va_Nw.warmM hW h.2⟩
theorem rn_G.call {D : va_G} {tys : List (ClassId × FieldType)} {U : State} (g : JFrame) (mk : MethodId) (a : Array Value) (h : rn_G D tys U) : rn_G D tys (U.calling g mk a) :=
  ⟨va_K.moved (u := U) (U := U.calling g mk a) (Vm.Alike.refl U.vm) h.1, va_Nw.same rfl rfl h.2⟩
theorem rn_recv {D : va_G} {tys : List (ClassId × FieldType)} {s : State} {H : Heap} {b ci : Nat} {fs : List Value} {C : String} {T : u_T} {N : Nat} (hG : rn_G D tys s) (hat : va_at D vwCl (b, .inr (ci, fs)) H) (hc : vwCl[ci]? = some (C, T, N)) : ∃ cell : Cell, H[b]? = some cell ∧ cell.vm.isStatics = false ∧ s.vm.findClass C = some cell.cls :=
  va_recv hG.1 (rn_one hat) hc (q0 := 0) rfl
/-- a method that only reads: from any heap with B, it hands v back and leaves the heap as it is -/
def rn_R (l : Launch) (y : MethodName) (ws : List Cond) (rm : Room) (D : va_G) (tys : List (ClassId × FieldType)) (B : Heap → Prop) (av : List Value) (v : Option Value) : Prop :=
  Met l y ws rm (va_Pc av (fun U => B U.heap ∧ rn_G D tys U)) (fun _ st o t => o = .returned v ∧ t.heap = st.heap) 0 0 (fun _ => False)
/-- a method that writes: A the cells that it may change beside those that it makes -/
def rn_W (l : Launch) (y : MethodName) (ws : List Cond) (rm : Room) (D : va_G) (tys : List (ClassId × FieldType)) (B : Heap → Prop) (av : List Value) (v : Option Value) (P : Heap → Prop) (A : Nat → Prop) (mc ms sz : Nat) : Prop :=
  Met l y ws rm (va_Pc av (fun U => (U.heap.size = sz ∧ B U.heap) ∧ rn_G D tys U)) (fun _ st o t => (o = .returned v ∧ P t.heap) ∧ va_F A st t) mc ms A
theorem rn_PcBlind {D : va_G} {tys : List (ClassId × FieldType)} {B : Heap → Prop} {av : List Value} : FrameBlind (va_Pc av (fun U => B U.heap ∧ rn_G D tys U)) := fun a U g mk q => ⟨q.1, q.2.1, q.2.2.call g mk a⟩
section RNB
variable {l : Launch}
theorem rn_R.ofW {y : MethodName} {ws ws' : List Cond} {rm : Room} {D : va_G} {tys : List (ClassId × FieldType)} {B : Heap → Prop} {av : List Value} {v : Option Value} {cc : ByteArray} {maxL : Nat} {ret : Option FieldType}
    (hy : plainName y.cls = true) (hw : ws = Cond.code y cc maxL ret :: ws') (hn : (lg_sl av).length ≤ maxL)
    (body : ∀ (p : Program) (e : Env) (s : State) (m : MethodId) (below : List Frame) (meth : Method) (c : Code) (ls : Array Slot), p.tables.exec = Jvm.exec → c.code = cc → meth.sig.returnType = ret → c.maxLocals = maxL → (∀ w ∈ ws, w.before av.toArray s = true) → s.vm.findClass y.cls = some m.cls → meth.locks = false → B s.heap → rn_G D tys s → lv_has ls maxL (lv_args 0 av) →
      W p l e rm s m av.toArray below meth c s.heap [] 0 0 (MQ below (fun _ st o t => o = .returned v ∧ t.heap = st.heap) av.toArray s 0 0 (fun _ => False)) (F0 m 0 ls [])) : rn_R l y ws rm D tys B av v := by
  refine Met.ofW (cc := cc) (maxL := maxL) (ret := ret) hy hw ?_
  intro p e s m args below meth c s₁ B0 hml hv
  obtain ⟨rfl, hB, hG⟩ := hv
  have hl := lv_entry av (n := maxL) hn
  rw [lg_entry_eq]
  exact body p e s m below meth c _ B0.exec B0.bytes B0.returns hml (atoms_spec (ws := ws) B0.pre) (findClass_of_methodNamed B0.named) B0.notSynchronized hB hG hl
theorem rn_W.ofW {y : MethodName} {ws ws' : List Cond} {rm : Room} {D : va_G} {tys : List (ClassId × FieldType)} {B : Heap → Prop} {av : List Value} {v : Option Value} {P : Heap → Prop} {A : Nat → Prop} {mc ms sz : Nat} {cc : ByteArray} {maxL : Nat} {ret : Option FieldType}
    (hy : plainName y.cls = true) (hw : ws = Cond.code y cc maxL ret :: ws') (hn : (lg_sl av).length ≤ maxL)
    (body : ∀ (p : Program) (e : Env) (s : State) (m : MethodId) (below : List Frame) (meth : Method) (c : Code) (ls : Array Slot), p.tables.exec = Jvm.exec → c.code = cc → meth.sig.returnType = ret → c.maxLocals = maxL → (∀ w ∈ ws, w.before av.toArray s = true) → s.vm.findClass y.cls = some m.cls → meth.locks = false → meth.name = y.name → s.heap.size = sz → B s.heap → rn_G D tys s → va_S A s.heap s.heap [] → lv_has ls maxL (lv_args 0 av) →
      W p l e rm s m av.toArray below meth c s.heap [] 0 0 (MQ below (fun _ st o t => (o = .returned v ∧ P t.heap) ∧ va_F A st t) av.toArray s mc ms A) (F0 m 0 ls [])) : rn_W l y ws rm D tys B av v P A mc ms sz := by
  refine Met.ofW (cc := cc) (maxL := maxL) (ret := ret) hy hw ?_
  intro p e s m args below meth c s₁ B0 hml hv
  obtain ⟨rfl, ⟨hsz, hB⟩, hG⟩ := hv
  have hl := lv_entry av (n := maxL) hn
  rw [lg_entry_eq]
  exact body p e s m below meth c _ B0.exec B0.bytes B0.returns hml (atoms_spec (ws := ws) B0.pre) (findClass_of_methodNamed B0.named) B0.notSynchronized (name_of_methodNamed B0.named B0.method).1 hsz hB hG va_S.rf hl
end RNB
section RNR
variable {p : Program} {l : Launch} {e : Env} {R : Room} {s : State} {m : MethodId} {args : Array Value} {below : List Frame} {meth : Method} {c : Code} {H : Heap} {locs : List Loc} {cells slots : Nat} {Q : State → Prop}
variable {cc : ByteArray} {pc : Nat} {ls : Array Slot} {rest : List Value} {D : va_G} {A : Nat → Prop} {a : Nat} {tys : List (ClassId × FieldType)} {H0 : Heap}
/-! fields -/
theorem rn_get (hexec : p.tables.exec = Jvm.exec) (hb : c.code = cc) {own C : String} {T : u_T} {N ci index : Nat} {Ts : List Cond} (hts : ∀ w ∈ Ts, w.before args s = true) (hin : ∀ w ∈ u_ws C T N, w ∈ Ts) (hown : s.vm.findClass own = some m.cls) (hG : rn_G D tys s) {fs : List Value} (hat : va_at D vwCl (a, .inr (ci, fs)) H) (hc : vwCl[ci]? = some (C, T, N)) (k : Nat) (hk : k < N) (hlink : Cond.fieldLink own index (T k).1 (T k).2.1 (T k).2.2.1 ∈ Ts) {v : Value} (hv : fs[k]? = some v) (hdg : decode cc pc = .ok (.getfield index, 3))
    (kk : W p l e R s m args below meth c H locs cells slots Q (F0 m (pc + 3) ls (v :: rest))) : W p l e R s m args below meth c H locs cells slots Q (F0 m pc ls (.ref a :: rest)) :=
  va_get hexec hb hts hin hown hG.1 (rn_one hat) 0 rfl hc k hk (hts _ hlink) (fun _ h9 => h9) hv hdg kk
theorem rn_put (hexec : p.tables.exec = Jvm.exec) (hb : c.code = cc) {own C : String} {T : u_T} {N ci index : Nat} {Ts : List Cond} (hts : ∀ w ∈ Ts, w.before args s = true) (hin : ∀ w ∈ u_ws C T N, w ∈ Ts) (ty0 : Nat → FieldType) (hty : ∀ k, k < N → parseFieldDescriptor (T k).2.2.1 = some (ty0 k)) (hnm : ∀ a, a < N → ∀ b, b < N → a ≠ b → (T a).2.1 ≠ (T b).2.1) (hown : s.vm.findClass own = some m.cls) (hG : rn_G D tys s) (hS0 : va_S A H0 H locs) (hA : A a) {fs : List Value} (hat : va_at D vwCl (a, .inr (ci, fs)) H) (hc : vwCl[ci]? = some (C, T, N)) (k : Nat) (hk : k < N) (hlink : Cond.fieldLink own index (T k).1 (T k).2.1 (T k).2.2.1 ∈ Ts) (hfin : (T k).2.2.2 = false ∨ (meth.name = "<init>" ∧ (T k).1 = own ∧ (T k).2.2.2 = true)) {v : Value} (hn : narrow (ty0 k) v = v) (hfit : fits (ty0 k) v = true) (hl : k < fs.length) {fs' : List Value} (hfs' : fs.set k v = fs')
    (hdg : decode cc pc = .ok (.putfield index, 3)) (kk : ∀ (H1 : Heap) (locs1 : List Loc), va_at D vwCl (a, .inr (ci, fs')) H1 → H1.size = H.size → (∀ q : Nat, q ≠ a → H1[q]? = H[q]?) → va_S A H0 H1 locs1 → W p l e R s m args below meth c H1 locs1 cells slots Q (F0 m (pc + 3) ls rest)) : W p l e R s m args below meth c H locs cells slots Q (F0 m pc ls (v :: .ref a :: rest)) := by
  subst hfs'
  have hd := hty k hk
  have hap := va_apart (own := own) hts hin ty0 hty hnm hG.1 hc
  obtain ⟨r, h1, cell, q1, q2, q3, q4⟩ := hat
  have hr : r = (C, T, N) := Option.some.inj (h1.symm.trans hc)
  subst hr
  obtain ⟨hS, hfc, kC, hkC, hkind⟩ := hG.1.1 ci _ hc
  obtain ⟨cf, kf, fi, f, hi, hsl⟩ := hS k hk
  have hlay := hts _ (hin _ (u_in_lay hk))
  have hst := (u_facts hfc hkC (u_lays hts hin hk) hi).1
  have fin : ∀ H' : Heap, H'[a]? = some (cell.setSlot f.slot v) → H'.size = H.size → (∀ q, q ≠ a → H'[q]? = H[q]?) → va_at D vwCl (a, .inr (ci, fs.set k v)) H' := fun H' e1 e2 e3 => by
    rw [hsl] at e1
    exact ⟨_, hc, t_OB.to (V := updV (vp_V fs) k v) ⟨_, e1, q2, q3, t_set q4 hap hk v⟩ (fun j _ => vp_updV_set hl v j)⟩
  unfold u_lay at hlay
  rcases hfin with hfin | ⟨hin2, hdecl, hfin⟩
  · rw [if_neg (by rw [hfin]; decide)] at hlay
    have h6 := u_store hfc hkC hkind hlay hi hd hn hfit
    exact W.putK hexec hb (f := f) ⟨hown, hts _ hlink, ⟨_, _, _, hi⟩, hst⟩ (by rw [q2]; exact h6) q1 q3 (by rw [hsl]; exact k2_hasslot (q4 k hk)) rfl rfl hdg fun H' e1 e2 e3 => kk H' _ (fin H' e1 e2 e3) e2 e3 (hS0.put e2 e3 hA)
  · rw [if_pos hfin] at hlay
    have hcf : m.cls = cf := by
      obtain ⟨_, _, c', _, _, _, -, -, hf', -, -, -, hown2, -⟩ := Cond.laysFinal_spec hlay
      have e1 : c' = cf := by have := hi.symm.trans hf'; simp at this; exact this.1.symm
      rw [hdecl] at hown2
      rw [← e1]; exact Option.some.inj (hown.symm.trans hown2)
    have h6 := u_fits hfc hkC hkind (Or.inr hlay) hi hd hn hfit
    exact W.putFinK hexec hb hown (hts _ hlink) hi hst hcf hin2 (by rw [q2]; exact h6) q1 q3 (by rw [hsl]; exact k2_hasslot (q4 k hk)) rfl rfl hdg fun H' e1 e2 e3 => kk H' _ (fin H' e1 e2 e3) e2 e3 (hS0.put e2 e3 hA)
/-! arrays of ints, by an index that is a number -/
theorem rn_iald (hexec : p.tables.exec = Jvm.exec) (hb : c.code = cc) (hG : rn_G D tys s) {cA : ClassId} {n j : Nat} {g : Nat → Int32} (hat : va_at D vwCl (a, .inl (cA, n, .inl g)) H) (t0 : Nat) (ht : tys[t0]? = some (cA, .int)) (hj : j < n) (hn : n < 2 ^ 31) (hdg : decode cc pc = .ok (.iaload, 1))
    (kk : W p l e R s m args below meth c H locs cells slots Q (F0 m (pc + 1) ls (.int (g j) :: rest))) : W p l e R s m args below meth c H locs cells slots Q (F0 m pc ls (.int (nI j) :: .ref a :: rest)) := by
  have hc : (nI j).toNatClampNeg = j := nI_clamp (Nat.lt_trans hj hn)
  refine va_iald hexec hb hG.1 (rn_one hat) 0 t0 rfl ht (i := nI j) (vp_in_nI hj hn) hdg ?_
  rw [hc]
  exact kk
theorem rn_iast (hexec : p.tables.exec = Jvm.exec) (hb : c.code = cc) (hG : rn_G D tys s) (hS : va_S A H0 H locs) (hA : A a) {cA : ClassId} {n j : Nat} {g : Nat → Int32} {x : Int32} (hat : va_at D vwCl (a, .inl (cA, n, .inl g)) H) (t0 : Nat) (ht : tys[t0]? = some (cA, .int)) (hj : j < n) (hn : n < 2 ^ 31) (hdg : decode cc pc = .ok (.iastore, 1))
    (kk : ∀ (H1 : Heap) (locs1 : List Loc), va_at D vwCl (a, .inl (cA, n, .inl (upd g j x))) H1 → H1.size = H.size → (∀ q : Nat, q ≠ a → H1[q]? = H[q]?) → va_S A H0 H1 locs1 → W p l e R s m args below meth c H1 locs1 cells slots Q (F0 m (pc + 1) ls rest)) : W p l e R s m args below meth c H locs cells slots Q (F0 m pc ls (.int x :: .int (nI j) :: .ref a :: rest)) := by
  have hc : (nI j).toNatClampNeg = j := nI_clamp (Nat.lt_trans hj hn)
  refine W.iast hexec hb hat ((hG.1.2 t0 _ ht).1 n (fun j => .int (g j))) (fun q => by cases q) (by show ¬ (nI j < 0 ∨ (arrV _ _ _).slots.size ≤ _); rw [arrV_size]; exact vp_in_nI hj hn) rfl rfl hdg fun H1 e z oq => ?_
  refine kk H1 _ ?_ z oq (hS.put z oq hA)
  show H1[a]? = some (vp_cell _ _)
  rw [e, hc]
  rw [vp_cell_i, vp_cell_i, arrV_store]
  congr 2
  funext q
  by_cases hq : q = j
  · subst hq
    simp [updV, upd]
  · simp [updV, upd, hq]
theorem rn_alen (hexec : p.tables.exec = Jvm.exec) (hb : c.code = cc) (hG : rn_G D tys s) {cA : ClassId} {x : vp_A} (hat : va_at D vwCl (a, .inl (cA, x)) H) (t0 : Nat) {ty : FieldType} (ht : tys[t0]? = some (cA, ty)) (hdg : decode cc pc = .ok (.arraylength, 1))
    (kk : W p l e R s m args below meth c H locs cells slots Q (F0 m (pc + 1) ls (.int (nI x.1) :: rest))) : W p l e R s m args below meth c H locs cells slots Q (F0 m pc ls (.ref a :: rest)) :=
  va_alen hexec hb hG.1 (rn_one hat) 0 t0 rfl ht rfl hdg kk
/-! arrays of references -/
theorem rn_aald (hexec : p.tables.exec = Jvm.exec) (hb : c.code = cc) (hG : rn_G D tys s) {cA : ClassId} {C : String} {n j : Nat} {g : Nat → Option Nat} (hat : va_at D vwCl (a, .inl (cA, n, .inr (.inr (.inr (.inr g))))) H) (t0 : Nat) (ht : tys[t0]? = some (cA, .object C)) (hj : j < n) (hn : n < 2 ^ 31) (hdg : decode cc pc = .ok (.aaload, 1))
    (kk : W p l e R s m args below meth c H locs cells slots Q (F0 m (pc + 1) ls (va_rf (g j) :: rest))) : W p l e R s m args below meth c H locs cells slots Q (F0 m pc ls (.int (nI j) :: .ref a :: rest)) := by
  have hc : (nI j).toNatClampNeg = j := nI_clamp (Nat.lt_trans hj hn)
  refine va_aldq hexec hb hG.1 (rn_one hat) 0 t0 rfl ht (i := nI j) (vp_in_nI hj hn) hdg ?_
  rw [hc]
  exact kk
theorem rn_aast (hexec : p.tables.exec = Jvm.exec) (hb : c.code = cc) (hG : rn_G D tys s) (hS : va_S A H0 H locs) (hA : A a) {cA : ClassId} {C : String} {T : u_T} {N n j v ci : Nat} {vs : List Value} {g : Nat → Option Nat} (hat : va_at D vwCl (a, .inl (cA, n, .inr (.inr (.inr (.inr g))))) H) (t0 : Nat) (ht : tys[t0]? = some (cA, .object C)) (hv : va_at D vwCl (v, .inr (ci, vs)) H) (hc : vwCl[ci]? = some (C, T, N)) (hj : j < n) (hn : n < 2 ^ 31) (hdg : decode cc pc = .ok (.aastore, 1))
    (kk : ∀ (H1 : Heap) (locs1 : List Loc), va_at D vwCl (a, .inl (cA, n, .inr (.inr (.inr (.inr (va_up g j (some v))))))) H1 → H1.size = H.size → (∀ q : Nat, q ≠ a → H1[q]? = H[q]?) → va_S A H0 H1 locs1 → W p l e R s m args below meth c H1 locs1 cells slots Q (F0 m (pc + 1) ls rest)) : W p l e R s m args below meth c H locs cells slots Q (F0 m pc ls (.ref v :: .int (nI j) :: .ref a :: rest)) := by
  have hjc : (nI j).toNatClampNeg = j := nI_clamp (Nat.lt_trans hj hn)
  have hin : ¬ (nI j < 0 ∨ n ≤ (nI j).toNatClampNeg) := vp_in_nI hj hn
  obtain ⟨r', hr', cellV, g1, g2, g3, -⟩ := hv
  have hcls := (hG.1.1 ci _ hc).2
  obtain ⟨kA, comp, k1, k2, k3, -⟩ := (hG.1.2 t0 _ ht).2
  have hcomp : comp = D.1 ci := Option.some.inj (k3.symm.trans hcls.1)
  subst hcomp
  obtain ⟨kC, hkC, -⟩ := hcls.2
  refine W.aast hexec hb hat (fun q h => by cases h) (fun h => by cases h) k1 k2 rfl hkC ⟨fun q => hin (Or.inl q), by show _ < (arrV _ _ _).slots.size; rw [arrV_size, hjc]; exact hj⟩ g1 (fun q h => by rw [g3] at h; cases h) (by rw [g2]; exact hkC) (by rw [g2]; exact va_assign hcls) rfl rfl hdg fun H1 e z oq => ?_
  refine kk H1 _ ?_ z oq (hS.put z oq hA)
  show H1[a]? = some (vp_cell _ _)
  rw [e, hjc]
  rw [vp_cell_q, vp_cell_q, arrV_store]
  congr 2
  funext q
  by_cases hq : q = j
  · subst hq
    simp [updV, va_up, va_rf]
  · simp [updV, va_up, hq]
/-! making -/
theorem rn_new (hexec : p.tables.exec = Jvm.exec) (hb : c.code = cc) {own C : String} {T : u_T} {N ci index : Nat} {Ts : List Cond} (hts : ∀ w ∈ Ts, w.before args s = true) (hin : ∀ w ∈ u_ws C T N, w ∈ Ts) (ty : Nat → FieldType) (hty : ∀ k, k < N → parseFieldDescriptor (T k).2.2.1 = some (ty k)) (hown : s.vm.findClass own = some m.cls) (hcl : Cond.classLink own index C ∈ Ts) (hinst : Cond.instantiable C N ∈ Ts) (hini : Cond.initialized C ∈ Ts)
    (hG : rn_G D tys s) (hS : va_S A H0 H locs) (hA : ∀ q, H0.size ≤ q → A q) (hc : vwCl[ci]? = some (C, T, N)) {fs : List Value} (hfs : ∀ j, j < N → defaultValue (ty j) = vp_V fs j) (hcells : cells + 1 ≤ R.cells) (hslots : slots + N ≤ R.slots) (hdg : decode cc pc = .ok (.new index, 3))
    (kk : ∀ (q : Nat) (H1 : Heap), q = H.size → va_at D vwCl (q, .inr (ci, fs)) H1 → H1.size = H.size + 1 → (∀ x : Nat, x < H.size → H1[x]? = H[x]?) → va_S A H0 H1 locs →
      W p l e R s m args below meth c H1 locs (cells + 1) (slots + N) Q (F0 m (pc + 3) ls (.ref q :: rest))) : W p l e R s m args below meth c H locs cells slots Q (F0 m pc ls rest) := by
  have hKn := hG.1.1 ci _ hc
  refine W.newcK hexec hb hown (hts _ hcl) (hts _ hinst) (hts _ hini) rfl hdg hcells hslots hKn.2.1 rfl fun H1 kC hkC e1 z1 o1 => ?_
  exact kk H.size H1 rfl ⟨_, hc, (u_born ty hts hin hKn hkC e1 hty).to hfs⟩ z1 o1 ⟨Nat.le_trans hS.1 (by omega), fun x h1 h2 => (o1 x (Nat.lt_of_lt_of_le h1 hS.1)).trans (hS.2.1 x h1 h2), hS.2.2⟩
/-! locals and branches on references that may be null -/
theorem rn_aload_n (hexec : p.tables.exec = Jvm.exec) (hb : c.code = cc) {k : Fin 4} {i : Nat} {r : Option Nat} (hdg : decode cc pc = .ok (.aload_n k, 1)) (hi : (k : Nat) = i) (hl : ls[i]? = some (.val (va_rf r)))
    (kk : W p l e R s m args below meth c H locs cells slots Q (F0 m (pc + 1) ls (va_rf r :: rest))) : W p l e R s m args below meth c H locs cells slots Q (F0 m pc ls rest) := by
  cases r with
  | none => exact lv_aload_nN hexec hb hdg hi hl kk
  | some x => exact lv_aload_n hexec hb hdg hi hl kk
theorem rn_aload (hexec : p.tables.exec = Jvm.exec) (hb : c.code = cc) {i : Nat} {r : Option Nat} (hdg : decode cc pc = .ok (.aload i, 2)) (hl : ls[i]? = some (.val (va_rf r)))
    (kk : W p l e R s m args below meth c H locs cells slots Q (F0 m (pc + 2) ls (va_rf r :: rest))) : W p l e R s m args below meth c H locs cells slots Q (F0 m pc ls rest) := by
  cases r with
  | none => exact lv_aloadN hexec hb hdg hl kk
  | some x => exact lv_aload hexec hb hdg hl kk
theorem rn_astore_n (hexec : p.tables.exec = Jvm.exec) (hb : c.code = cc) {k : Fin 4} {i nL : Nat} {r : Option Nat} {lv lv' : List (Nat × Value)} (hdg : decode cc pc = .ok (.astore_n k, 1)) (hi : (k : Nat) = i) (h : lv_has ls nL lv) (hn : i < nL) (hl : (i, va_rf r) :: lv.filter (fun q => !(q.1 == i) && !(q.1 + 1 == i && q.2.category == 2)) = lv')
    (kk : ∀ ls' : Array Slot, lv_has ls' nL lv' → W p l e R s m args below meth c H locs cells slots Q (F0 m (pc + 1) ls' rest)) : W p l e R s m args below meth c H locs cells slots Q (F0 m pc ls (va_rf r :: rest)) := by
  cases r with
  | none => exact lv_astore_nN hexec hb hdg hi h hn hl kk
  | some x => exact lv_astore_n hexec hb hdg hi h hn hl kk
theorem rn_astore (hexec : p.tables.exec = Jvm.exec) (hb : c.code = cc) {i nL : Nat} {r : Option Nat} {lv lv' : List (Nat × Value)} (hdg : decode cc pc = .ok (.astore i, 2)) (h : lv_has ls nL lv) (hn : i < nL) (hl : (i, va_rf r) :: lv.filter (fun q => !(q.1 == i) && !(q.1 + 1 == i && q.2.category == 2)) = lv')
    (kk : ∀ ls' : Array Slot, lv_has ls' nL lv' → W p l e R s m args below meth c H locs cells slots Q (F0 m (pc + 2) ls' rest)) : W p l e R s m args below meth c H locs cells slots Q (F0 m pc ls (va_rf r :: rest)) := by
  cases r with
  | none => exact lv_astoreN hexec hb hdg h hn hl kk
  | some x => exact lv_astore hexec hb hdg h hn hl kk
theorem rn_ifnull (hexec : p.tables.exec = Jvm.exec) (hb : c.code = cc) {r : Option Nat} {off : Int} {tgt : Nat} (hdg : decode cc pc = .ok (.ifnull off, 3)) (ht : (pc : Int) + off = (tgt : Int))
    (kt : r = none → W p l e R s m args below meth c H locs cells slots Q (F0 m tgt ls rest)) (kf : ∀ x : Nat, r = some x → W p l e R s m args below meth c H locs cells slots Q (F0 m (pc + 3) ls rest)) : W p l e R s m args below meth c H locs cells slots Q (F0 m pc ls (va_rf r :: rest)) := by
  cases r with
  | none => exact lv_ifnullN hexec hb hdg ht (kt rfl)
  | some x => exact lv_ifnull hexec hb hdg (kf x rfl)
theorem rn_ifnonnull (hexec : p.tables.exec = Jvm.exec) (hb : c.code = cc) {r : Option Nat} {off : Int} {tgt : Nat} (hdg : decode cc pc = .ok (.ifnonnull off, 3)) (ht : (pc : Int) + off = (tgt : Int))
    (kt : ∀ x : Nat, r = some x → W p l e R s m args below meth c H locs cells slots Q (F0 m tgt ls rest)) (kf : r = none → W p l e R s m args below meth c H locs cells slots Q (F0 m (pc + 3) ls rest)) : W p l e R s m args below meth c H locs cells slots Q (F0 m pc ls (va_rf r :: rest)) := by
  cases r with
  | none => exact lv_ifnonnullN hexec hb hdg (kf rfl)
  | some x => exact lv_ifnonnull hexec hb hdg ht (kt x rfl)
/-- the top of the stack by another name -/
theorem rn_top {x y : Value} (h : x = y) (k : W p l e R s m args below meth c H locs cells slots Q (F0 m pc ls (y :: rest))) : W p l e R s m args below meth c H locs cells slots Q (F0 m pc ls (x :: rest)) := by
  rw [h]; exact k
theorem rn_ldc (hexec : p.tables.exec = Jvm.exec) (hb : c.code = cc) {v w : Value} (h : v = w) (k : W p l e R s m args below meth c H locs cells slots Q (F0 m pc ls (w :: rest))) : W p l e R s m args below meth c H locs cells slots Q (F0 m pc ls (v :: rest)) := by
  rw [h]; exact k
/-! ends -/
theorem rn_iret {Qr : Option Value} {v : Int32} {ty : FieldType} (hexec : p.tables.exec = Jvm.exec) (hb : c.code = cc) (hr : meth.sig.returnType = some ty) (hn : narrow ty (.int v) = .int v) (hlocks : meth.locks = false) (hq : Qr = some (.int v)) (hdg : decode cc pc = .ok (.ireturn, 1)) :
    W p l e R s m args below meth c s.heap [] 0 0 (MQ below (fun _ st o t => o = .returned Qr ∧ t.heap = st.heap) args s 0 0 (fun _ => False)) (F0 m pc ls [.int v]) :=
  W.zret hexec hb hr hn (fun t ht _ => ⟨by rw [hq], ht⟩) (fun _ h => nomatch h) hdg
theorem rn_vret {Qr : Option Value} (hexec : p.tables.exec = Jvm.exec) (hb : c.code = cc) (hr : meth.sig.returnType = none) (hlocks : meth.locks = false) (hq : Qr = none) (hdg : decode cc pc = .ok (.return_, 1)) :
    W p l e R s m args below meth c s.heap [] 0 0 (MQ below (fun _ st o t => o = .returned Qr ∧ t.heap = st.heap) args s 0 0 (fun _ => False)) (F0 m pc ls []) :=
  W.vret hexec hb hr (fun t ht _ => ⟨by rw [hq], ht⟩) (fun _ h => nomatch h) hdg
theorem rn_aret {Qr : Option Value} {q : Nat} {n : String} (hexec : p.tables.exec = Jvm.exec) (hb : c.code = cc) (hr : meth.sig.returnType = some (.object n)) (hlocks : meth.locks = false) (hq : Qr = some (.ref q)) (hdg : decode cc pc = .ok (.areturn, 1)) :
    W p l e R s m args below meth c s.heap [] 0 0 (MQ below (fun _ st o t => o = .returned Qr ∧ t.heap = st.heap) args s 0 0 (fun _ => False)) (F0 m pc ls [.ref q]) :=
  W.aret hexec hb hr (Or.inl ⟨_, rfl⟩) (Or.inr ⟨_, rfl⟩) (fun t ht _ => ⟨by rw [hq], ht⟩) (fun _ h => nomatch h) hdg
theorem rn_Wiret {Qr : Option Value} {P : Heap → Prop} {mc ms : Nat} {v : Int32} {ty : FieldType} (hexec : p.tables.exec = Jvm.exec) (hb : c.code = cc) (hr : meth.sig.returnType = some ty) (hn : narrow ty (.int v) = .int v) (hlocks : meth.locks = false) (hS : va_S A s.heap H locs) (hc : cells ≤ mc) (hs : slots ≤ ms) (hq : Qr = some (.int v)) (hP : P H) (hdg : decode cc pc = .ok (.ireturn, 1)) :
    W p l e R s m args below meth c H locs cells slots (MQ below (fun _ st o t => (o = .returned Qr ∧ P t.heap) ∧ va_F A st t) args s mc ms A) (F0 m pc ls [.int v]) :=
  W.widen hc hs (W.zret hexec hb hr hn (fun t ht _ => ⟨⟨by rw [hq], by rw [ht]; exact hP⟩, hS.F ht⟩) hS.2.2 hdg)
theorem rn_Wvret {Qr : Option Value} {P : Heap → Prop} {mc ms : Nat} (hexec : p.tables.exec = Jvm.exec) (hb : c.code = cc) (hr : meth.sig.returnType = none) (hlocks : meth.locks = false) (hS : va_S A s.heap H locs) (hc : cells ≤ mc) (hs : slots ≤ ms) (hq : Qr = none) (hP : P H) (hdg : decode cc pc = .ok (.return_, 1)) :
    W p l e R s m args below meth c H locs cells slots (MQ below (fun _ st o t => (o = .returned Qr ∧ P t.heap) ∧ va_F A st t) args s mc ms A) (F0 m pc ls []) :=
  W.widen hc hs (W.vret hexec hb hr (fun t ht _ => ⟨⟨by rw [hq], by rw [ht]; exact hP⟩, hS.F ht⟩) hS.2.2 hdg)
end RNR
section RNC
variable {p : Program} {l : Launch} {e : Env} {R : Room} {s : State} {m : MethodId} {args : Array Value} {below : List Frame} {meth : Method} {c : Code} {H : Heap} {locs : List Loc} {cells slots : Nat} {Q : State → Prop}
variable {cc bytes : ByteArray} {pc nL maxL index n mc ms sz : Nat} {ls : Array Slot} {st0 rest As : List Value} {D : va_G} {A0 A1 : Nat → Prop} {a b ci N : Nat} {tys : List (ClassId × FieldType)} {H0 : Heap} {fs : List Value} {own C : String} {T : u_T} {y : MethodName} {ret : Option FieldType} {ws ws' Ts : List Cond} {rm : Room} {B : Heap → Prop} {P : Heap → Prop} {v : Option Value}
theorem rn_callR (hr : CallRun p l e R s m args below meth c H locs cells slots 0 0 (F0 m pc ls st0) rest (fun st o t => o = .returned v ∧ t.heap = st.heap) (fun _ => False))
    (kk : W p l e R s m args below meth c H locs cells slots Q (F0 m (pc + 3) ls (v.toList ++ rest))) : W p l e R s m args below meth c H locs cells slots Q (F0 m pc ls st0) := by
  intro T hT X
  obtain ⟨v', st₀, t, T', L, h0, X', hL, e1, ⟨hv, hh⟩, st⟩ := hr T hT X
  cases hv
  obtain ⟨t2, a1, b1⟩ := kk T' (by rw [e1, hh, h0]) (Stand.forget X' (fun q h => (hL q h).elim))
  exact ⟨t2, st t2 a1, b1⟩
theorem rn_callRv (hr : va_Run p l e R s m args below meth c H locs cells slots 0 0 (F0 m pc ls st0) rest (fun st o t => o = .returned v ∧ t.heap = st.heap) (fun _ => False))
    (kk : W p l e R s m args below meth c H locs cells slots Q (F0 m (pc + 3) ls (v.toList ++ rest))) : W p l e R s m args below meth c H locs cells slots Q (F0 m pc ls st0) := by
  intro T hT X
  obtain ⟨v', st₀, t, T', L, h0, X', hL, e1, e2, ⟨hv, hh⟩, st⟩ := hr T hT X
  cases hv
  obtain ⟨t2, a1, b1⟩ := kk T' (by rw [e1, hh, h0]) (Stand.forget X' (fun q h => (hL q h).elim))
  exact ⟨t2, st t2 a1, b1⟩
theorem rn_callW (hr : va_Run p l e R s m args below meth c H locs cells slots mc ms (F0 m pc ls st0) rest (fun st o t => (o = .returned v ∧ P t.heap) ∧ va_F A1 st t) A1) (hS : va_S A0 H0 H locs) (hA : ∀ q, A1 q → A0 q)
    (kk : ∀ (H1 : Heap) (locs1 : List Loc), P H1 → H.size ≤ H1.size → (∀ q : Nat, q < H.size → ¬ A1 q → H1[q]? = H[q]?) → va_S A0 H0 H1 locs1 → W p l e R s m args below meth c H1 locs1 (cells + mc) (slots + ms) Q (F0 m (pc + 3) ls (v.toList ++ rest))) : W p l e R s m args below meth c H locs cells slots Q (F0 m pc ls st0) := by
  intro T hT X
  obtain ⟨v', st₀, t, T', L, h0, X', hL, e1, e2, ⟨⟨hv, hp⟩, hz, hk⟩, st⟩ := hr T hT X
  cases hv
  rw [h0] at hz hk
  obtain ⟨t2, a1, b1⟩ := kk T'.heap (locs ++ L) (by rw [e1]; exact hp) (by rw [e1]; exact hz) (fun q h1 h2 => by rw [e1]; exact hk q h1 h2)
    ⟨Nat.le_trans hS.1 (by rw [e1]; exact hz), fun q h1 h2 => by rw [e1, hk q (Nat.lt_of_lt_of_le h1 hS.1) (fun z => h2 (hA q z))]; exact hS.2.1 q h1 h2, fun q hq => by
      rcases List.mem_append.mp hq with h | h
      · exact hS.2.2 q h
      · exact hA _ (hL q h)⟩ T' rfl X'
  exact ⟨t2, st t2 a1, b1⟩
/-- calls of methods that read: of an object, static, static of the nest mate -/
theorem rn_cV (n : Nat) (hexec : p.tables.exec = Jvm.exec) (hb : c.code = cc) (hml : c.maxLocals = nL) (hown : s.vm.findClass own = some m.cls) (hts : ∀ w ∈ Ts, w.before args s = true) (hG : rn_G D tys s)
    (hM : rn_R l y ws rm D tys B (.ref b :: As) v) (hgi : GoodIn Ts (wsV own index C y ws)) (hw : ws = .code y bytes maxL ret :: ws') (hrm : rm.cells = 0 ∧ rm.slots = 0)
    (hd : y.cls = C ∧ y.cls ≠ "java/lang/invoke/MethodHandle" ∧ y.cls ≠ "java/lang/invoke/VarHandle" ∧ (parseMethodDescriptor y.desc).map (fun d => d.parameters.length) = some n) (hR : rm.frames + 1 ≤ R.frames ∧ 8 + (maxL + 11) + rm.locals ≤ R.locals)
    (hB : B H) (hat : va_at D vwCl (b, .inr (ci, fs)) H) (hc : vwCl[ci]? = some (C, T, N)) (hn : As.length = n) (hsz : ls.size = nL) (hst : st0 = As.reverse ++ .ref b :: rest) (hW : (rest.map fun v => v.category).sum ≤ 8) (hf : cells ≤ R.cells ∧ slots ≤ R.slots) (hdg : decode cc pc = .ok (.invokevirtual index, 3))
    (kk : W p l e R s m args below meth c H locs cells slots Q (F0 m (pc + 3) ls (v.toList ++ rest))) : W p l e R s m args below meth c H locs cells slots Q (F0 m pc ls st0) :=
  rn_callR (W.runV (As := As) (rest := rest) ⟨hexec, hb, hml, hown, hts⟩ hM (cwV n hts hgi hw hrm.1 hrm.2 hd hR) ⟨rn_PcBlind, rn_recv hG hat hc, fun U hU hW => ⟨rfl, by rw [hU]; exact hB, hG.warm hW⟩⟩ rfl hn hsz hst (lv_room hW) hdg hf) kk
theorem rn_cS (n : Nat) (hexec : p.tables.exec = Jvm.exec) (hb : c.code = cc) (hml : c.maxLocals = nL) (hown : s.vm.findClass own = some m.cls) (hts : ∀ w ∈ Ts, w.before args s = true) (hG : rn_G D tys s)
    (hM : rn_R l y ws rm D tys B As v) (hgi : GoodIn Ts (va_wsS own index y ws)) (hw : ws = .code y bytes maxL ret :: ws') (hrm : rm.cells = 0 ∧ rm.slots = 0)
    (hd : y.cls ≠ "java/lang/invoke/MethodHandle" ∧ y.cls ≠ "java/lang/invoke/VarHandle" ∧ (parseMethodDescriptor y.desc).map (fun d => d.parameters.length) = some n) (hR : rm.frames + 1 ≤ R.frames ∧ 8 + (maxL + 11) + rm.locals ≤ R.locals)
    (hB : B H) (hn : As.length = n) (hsz : ls.size = nL) (hst : st0 = As.reverse ++ rest) (hW : (rest.map fun v => v.category).sum ≤ 8) (hf : cells ≤ R.cells ∧ slots ≤ R.slots) (hdg : decode cc pc = .ok (.invokestatic index, 3))
    (kk : W p l e R s m args below meth c H locs cells slots Q (F0 m (pc + 3) ls (v.toList ++ rest))) : W p l e R s m args below meth c H locs cells slots Q (F0 m pc ls st0) :=
  rn_callR (W.runS (As := As) (rest := rest) ⟨hexec, hb, hml, hown, hts⟩ hM (va_cwS n hts hgi hw hrm.1 hrm.2 hd hR) ⟨rn_PcBlind, fun U hU hW => ⟨rfl, by rw [hU]; exact hB, hG.warm hW⟩⟩ rfl hn hsz hst (lv_room hW) hdg hf) kk
theorem rn_cN (n : Nat) (hexec : p.tables.exec = Jvm.exec) (hb : c.code = cc) (hml : c.maxLocals = nL) (hown : s.vm.findClass RX1 = some m.cls) (hts : ∀ w ∈ Ts, w.before args s = true) (hG : rn_G D tys s)
    (hM : rn_R l yX4_isOrIsInside ws rm D tys B As v) (hgi : GoodIn Ts ws) (hw : ws = .code yX4_isOrIsInside bytes maxL ret :: ws') (hrm : rm.cells = 0 ∧ rm.slots = 0) (hini : Cond.initialized RX4 ∈ Ts) (hsta : Cond.static yX4_isOrIsInside ∈ Ts)
    (hd : yX4_isOrIsInside.cls ≠ "java/lang/invoke/MethodHandle" ∧ yX4_isOrIsInside.cls ≠ "java/lang/invoke/VarHandle" ∧ (parseMethodDescriptor yX4_isOrIsInside.desc).map (fun d => d.parameters.length) = some n) (hR : rm.frames + 1 ≤ R.frames ∧ 8 + (maxL + 11) + rm.locals ≤ R.locals)
    (hB : B H) (hn : As.length = n) (hsz : ls.size = nL) (hst : st0 = As.reverse ++ rest) (hW : (rest.map fun v => v.category).sum ≤ 8) (hf : cells ≤ R.cells ∧ slots ≤ R.slots) (hdg : decode cc pc = .ok (.invokestatic 26, 3))
    (kk : W p l e R s m args below meth c H locs cells slots Q (F0 m (pc + 3) ls (v.toList ++ rest))) : W p l e R s m args below meth c H locs cells slots Q (F0 m pc ls st0) :=
  rn_callRv (va_runSN (As := As) (rest := rest) ⟨hexec, hb, hml, hown, hts⟩ hM ⟨va_cnB n hts hgi hw hrm.1 hrm.2 hG.2 (hts _ hini) hd hR, hts _ hsta, trivial⟩ ⟨rn_PcBlind, fun U hU hW => ⟨rfl, by rw [hU]; exact hB, hG.warm hW⟩⟩ rfl hn hsz hst (lv_room hW) hdg hf) kk
theorem rn_PcBlindW : FrameBlind (va_Pc As (fun U => (U.heap.size = sz ∧ B U.heap) ∧ rn_G D tys U)) := fun a U g mk q => ⟨q.1, q.2.1, q.2.2.call g mk a⟩
/-- calls of methods that write -/
theorem rn_wV (n : Nat) (hexec : p.tables.exec = Jvm.exec) (hb : c.code = cc) (hml : c.maxLocals = nL) (hown : s.vm.findClass own = some m.cls) (hts : ∀ w ∈ Ts, w.before args s = true) (hG : rn_G D tys s) (hS : va_S A0 H0 H locs)
    (hM : rn_W l y ws rm D tys B (.ref b :: As) v P A1 mc ms H.size) (hA : ∀ q, A1 q → A0 q) (hgi : GoodIn Ts (wsV own index C y ws)) (hw : ws = .code y bytes maxL ret :: ws') (hrm : rm.cells = mc ∧ rm.slots = ms)
    (hd : y.cls = C ∧ y.cls ≠ "java/lang/invoke/MethodHandle" ∧ y.cls ≠ "java/lang/invoke/VarHandle" ∧ (parseMethodDescriptor y.desc).map (fun d => d.parameters.length) = some n) (hR : rm.frames + 1 ≤ R.frames ∧ 8 + (maxL + 11) + rm.locals ≤ R.locals)
    (hB : B H) (hat : va_at D vwCl (b, .inr (ci, fs)) H) (hc : vwCl[ci]? = some (C, T, N)) (hn : As.length = n) (hsz : ls.size = nL) (hst : st0 = As.reverse ++ .ref b :: rest) (hW : (rest.map fun v => v.category).sum ≤ 8) (hf : cells + mc ≤ R.cells ∧ slots + ms ≤ R.slots) (hdg : decode cc pc = .ok (.invokevirtual index, 3))
    (kk : ∀ (H1 : Heap) (locs1 : List Loc), P H1 → H.size ≤ H1.size → (∀ q : Nat, q < H.size → ¬ A1 q → H1[q]? = H[q]?) → va_S A0 H0 H1 locs1 → W p l e R s m args below meth c H1 locs1 (cells + mc) (slots + ms) Q (F0 m (pc + 3) ls (v.toList ++ rest))) : W p l e R s m args below meth c H locs cells slots Q (F0 m pc ls st0) :=
  rn_callW (va_runV (As := As) (rest := rest) ⟨hexec, hb, hml, hown, hts⟩ hM (cwV n hts hgi hw hrm.1 hrm.2 hd hR) ⟨rn_PcBlindW, rn_recv hG hat hc, fun U hU hW => ⟨rfl, ⟨by rw [hU], by rw [hU]; exact hB⟩, hG.warm hW⟩⟩ rfl hn hsz hst (lv_room hW) hdg hf) hS hA kk
theorem rn_wI (n : Nat) (hexec : p.tables.exec = Jvm.exec) (hb : c.code = cc) (hml : c.maxLocals = nL) (hown : s.vm.findClass own = some m.cls) (hts : ∀ w ∈ Ts, w.before args s = true) (hG : rn_G D tys s) (hS : va_S A0 H0 H locs)
    (hM : rn_W l y ws rm D tys B (.ref b :: As) none P A1 mc ms H.size) (hA : ∀ q, A1 q → A0 q) (hgi : GoodIn Ts ws) (hw : ws = .code y bytes maxL none :: ws') (hrm : rm.cells = mc ∧ rm.slots = ms) (hini : Cond.initialized y.cls ∈ Ts) (hlk : Cond.methodLink own index y ∈ Ts) (hinm : Cond.instanceMethod y ∈ Ts) (hy1 : y.name = "<init>")
    (hd : y.cls ≠ "java/lang/invoke/MethodHandle" ∧ y.cls ≠ "java/lang/invoke/VarHandle" ∧ (parseMethodDescriptor y.desc).map (fun d => d.parameters.length) = some n) (hR : rm.frames + 1 ≤ R.frames ∧ 8 + (maxL + 11) + rm.locals ≤ R.locals)
    (hB : B H) (hn : As.length = n) (hsz : ls.size = nL) (hst : st0 = As.reverse ++ .ref b :: rest) (hW : (rest.map fun v => v.category).sum ≤ 8) (hf : cells + mc ≤ R.cells ∧ slots + ms ≤ R.slots) (hdg : decode cc pc = .ok (.invokespecial index, 3))
    (kk : ∀ (H1 : Heap) (locs1 : List Loc), P H1 → H.size ≤ H1.size → (∀ q : Nat, q < H.size → ¬ A1 q → H1[q]? = H[q]?) → va_S A0 H0 H1 locs1 → W p l e R s m args below meth c H1 locs1 (cells + mc) (slots + ms) Q (F0 m (pc + 3) ls rest)) : W p l e R s m args below meth c H locs cells slots Q (F0 m pc ls st0) :=
  rn_callW (v := none) (va_runI (As := As) (rest := rest) ⟨hexec, hb, hml, hown, hts⟩ hM (cwI n hts hgi hw hrm.1 hrm.2 (hts _ hini) (hts _ hlk) (hts _ hinm) hy1 hd hR) ⟨rn_PcBlindW, fun U hU hW => ⟨rfl, ⟨by rw [hU], by rw [hU]; exact hB⟩, hG.warm hW⟩⟩ rfl hn hsz hst (lv_room hW) hdg hf) hS hA kk
end RNC
/-! what is thrown -/
def rn_IO : String := "java/lang/IndexOutOfBoundsException"
def rn_IS : String := "java/lang/IllegalStateException"
def rn_IA : String := "java/lang/IllegalArgumentException"
abbrev rn_nm : List String := ["java/lang/RuntimeException", "java/lang/Exception"]
/-- the texts that the class throws with: their places in its file -/
def rn_str : List (Nat × String) := [(59, "there are 10 rooms"), (82, "a length is 1 to 999"), (89, "the draft has 3 lines"), (105, "the room 0 has no map"), (147, "there are 12 processes"), (152, "rights are 0 to 15"), (161, "a mode is 0 to 15"), (163, "there are 20 files"), (177, "no such room"), (179, "no such process"), (181, "no such file"), (183, "a number is 0 to 998")]
def rn_xc : List (String × String) := [("java/lang/IndexOutOfBoundsException", "java/lang/IndexOutOfBoundsException"), ("java/lang/IllegalStateException", "java/lang/IllegalStateException"), ("java/lang/IllegalArgumentException", "java/lang/IllegalArgumentException")]
def rn_xn : List (String × String) := [("java/lang/IndexOutOfBoundsException", "java/lang/IllegalStateException"), ("java/lang/IndexOutOfBoundsException", "java/lang/IllegalArgumentException"), ("java/lang/IllegalStateException", "java/lang/IndexOutOfBoundsException"), ("java/lang/IllegalStateException", "java/lang/IllegalArgumentException"), ("java/lang/IllegalArgumentException", "java/lang/IndexOutOfBoundsException"), ("java/lang/IllegalArgumentException", "java/lang/IllegalStateException")]
def rn_xd : List MethodName := [⟨"java/lang/RuntimeException", "<init>", "(Ljava/lang/String;)V"⟩, ⟨"java/lang/Exception", "<init>", "(Ljava/lang/String;)V"⟩, ⟨"java/lang/Throwable", "<init>", "(Ljava/lang/String;)V"⟩]
def rn_xw (E : String) : List Cond := Cond.castable E E :: rn_xd.map Cond.declares
/-- what a throw needs beside the tables' own words -/
def rn_E (U : State) : Prop := (vx_Zq Bundle.tN "UNASSIGNED_STACK" Bundle.steD (fun q => U.heap.size ≤ q) U U.heap ∧ vx_Zq Bundle.tN "SUPPRESSED_SENTINEL" Bundle.listD (fun q => U.heap.size ≤ q) U U.heap) ∧ ((∀ q ∈ rn_xc, va_Nw (.castable q.1 q.2) U) ∧ ∀ y ∈ rn_xd, va_Nw (.declares y) U) ∧ (∀ q ∈ rn_xn, va_Nc q.1 q.2 U) ∧ ∀ q ∈ rn_str, ∃ sa : Nat, vk_R RX4 q.1 q.2 sa U
theorem rn_E.at {s U : State} (hW : s.WarmedH U.vm) (hz : s.heap.size ≤ U.heap.size) (hk : ∀ a : Nat, a < s.heap.size → U.heap[a]? = s.heap[a]?) (h : rn_E s) : rn_E U := by
  obtain ⟨⟨h1, h2⟩, h3, h4, h5⟩ := h
  refine ⟨⟨?_, ?_⟩, ⟨fun q hq => va_Nw.warmC hW (h3.1 q hq), fun q hq => va_Nw.warmD hW (h3.2 q hq)⟩, fun q hq => va_Nc.moved hW.alike (h4 q hq), fun q hq => ?_⟩
  · exact ((h1.kept (H1 := U.heap) (fun a ha _ => hk a ha)).moved hW.alike).narrow (fun q hq => Nat.le_trans hz hq)
  · exact ((h2.kept (H1 := U.heap) (fun a ha _ => hk a ha)).moved hW.alike).narrow (fun q hq => Nat.le_trans hz hq)
  · obtain ⟨sa, h⟩ := h5 q hq
    exact ⟨sa, h.warm hW⟩
theorem rn_E.warm {s U : State} (hW : s.WarmedH U.vm) (hh : U.heap = s.heap) (h : rn_E s) : rn_E U := h.at hW (by rw [hh]; exact Nat.le_refl _) (fun a _ => by rw [hh])
theorem rn_E.call {U : State} (g : JFrame) (mk : MethodId) (a : Array Value) (h : rn_E U) : rn_E (U.calling g mk a) := by
  obtain ⟨⟨h1, h2⟩, h3, h4, h5⟩ := h
  refine ⟨⟨?_, ?_⟩, ⟨fun q hq => va_Nw.same rfl rfl (h3.1 q hq), fun q hq => va_Nw.same rfl rfl (h3.2 q hq)⟩, fun q hq => va_Nc.moved (u := U) (U := U.calling g mk a) (Vm.Alike.refl U.vm) (h4 q hq), fun q hq => ?_⟩
  · exact h1.moved (u := U) (U := U.calling g mk a) (Vm.Alike.refl U.vm)
  · exact h2.moved (u := U) (U := U.calling g mk a) (Vm.Alike.refl U.vm)
  · obtain ⟨sa, h⟩ := h5 q hq
    exact ⟨sa, h.same rfl⟩
/-- a method that throws E, with nothing changed -/
def rn_X (l : Launch) (y : MethodName) (ws : List Cond) (rm : Room) (D : va_G) (tys : List (ClassId × FieldType)) (B : Heap → Prop) (av : List Value) (E : String) (sz : Nat) : Prop :=
  vx_Met l y ws rm (va_Pc av (fun U => (U.heap.size = sz ∧ B U.heap) ∧ rn_G D tys U ∧ rn_E U)) (fun _ _ _ _ => False) (vx_X (fun _ : Unit => True) (fun E' _ _ => E' = E) (fun q => sz ≤ q)) 1 6 (fun _ => False)
theorem rn_hat {args : Array Value} {s : State} {E : String} {ic : Nat} (h1 : ∀ w ∈ (vx_atS RX4 ic E rn_nm).filter goodWord, w.before args s = true) (hc : va_Nw (.castable E E) s) (hd : ∀ y ∈ rn_xd, va_Nw (.declares y) s) (h2 : ∀ w ∈ (vx_atS RX4 ic E rn_nm).filter (fun w => !goodWord w), w ∈ rn_xw E) : ∀ w ∈ vx_atS RX4 ic E rn_nm, w.before args s = true := by
  refine vx_hat h1 (B := rn_xw E) h2 (fun w hw => ?_)
  rcases List.mem_cons.mp hw with rfl | hw
  · exact va_Nw.use rfl hc
  · obtain ⟨y, hy, rfl⟩ := List.mem_map.mp hw
    exact va_Nw.use rfl (hd y hy)
section RNX
variable {p : Program} {l : Launch} {e : Env} {R : Room} {s : State} {m : MethodId} {args : Array Value} {below : List Frame} {meth : Method} {c : Code} {H : Heap} {locs : List Loc} {cells slots : Nat} {Q : State → Prop}
variable {cc bytes : ByteArray} {pc nL maxL index n mc ms sz : Nat} {ls : Array Slot} {st0 rest As : List Value} {D : va_G} {A0 A1 : Nat → Prop} {a b ci N : Nat} {tys : List (ClassId × FieldType)} {H0 : Heap} {fs : List Value} {own C E : String} {T : u_T} {y : MethodName} {ret : Option FieldType} {ws ws' Ts : List Cond} {rm : Room} {B : Heap → Prop} {P : Heap → Prop} {v : Option Value}
theorem rn_X.ofW {av : List Value} (hy : plainName y.cls = true) (hw : ws = Cond.code y cc maxL ret :: ws') (hn : (lg_sl av).length ≤ maxL)
    (body : ∀ (p : Program) (e : Env) (s : State) (m : MethodId) (below : List Frame) (meth : Method) (c : Code) (ls : Array Slot), p.tables.exec = Jvm.exec → c.code = cc → meth.sig.returnType = ret → c.maxLocals = maxL → (∀ w ∈ ws, w.before av.toArray s = true) → s.vm.findClass y.cls = some m.cls → meth.locks = false → s.heap.size = sz → B s.heap → rn_G D tys s → rn_E s → (∀ x ∈ c.exceptionTable.toList, False) → lv_has ls maxL (lv_args 0 av) →
      W p l e rm s m av.toArray below meth c s.heap [] 0 0 (vx_MQ below (fun _ _ _ _ => False) (vx_X (fun _ : Unit => True) (fun E' _ _ => E' = E) (fun q => sz ≤ q)) av.toArray s 1 6 (fun _ => False)) (F0 m 0 ls [])) : rn_X l y ws rm D tys B av E sz := by
  refine vx_ofW (cc := cc) (maxL := maxL) (ret := ret) hy hw ?_
  intro p e s m args below meth c s₁ B0 hml htab hv
  obtain ⟨rfl, ⟨hsz, hB⟩, hG, hE⟩ := hv
  have hl := lv_entry av (n := maxL) hn
  rw [lg_entry_eq]
  exact body p e s m below meth c _ B0.exec B0.bytes B0.returns hml (atoms_spec (ws := ws) B0.pre) (findClass_of_methodNamed B0.named) B0.notSynchronized hsz hB hG hE htab hl
theorem rn_PcBlindX : FrameBlind (va_Pc As (fun U => (U.heap.size = sz ∧ B U.heap) ∧ rn_G D tys U ∧ rn_E U)) := fun a U g mk q => ⟨q.1, q.2.1, q.2.2.1.call g mk a, q.2.2.2.call g mk a⟩
theorem rn_callX (hr : vx_Run p l e R s m args below meth c H locs cells slots mc ms (F0 m pc ls st0) rest (fun _ _ _ => False) (vx_X (fun _ : Unit => True) (fun E' _ _ => E' = E) (fun q => H.size ≤ q)) (fun _ => False)) (hS : va_S A0 H0 H locs)
    (kx : ∀ (ce : Cell) (q9 : Addr) (H1 : Heap), H.size ≤ H1.size → (∀ q : Nat, q < H.size → H1[q]? = H[q]?) → va_S A0 H0 H1 locs → H1[q9]? = some ce → ce.vm = .none → s.vm.findClass E = some ce.cls → vx_W p l e R s m args below meth c H1 locs (cells + mc) (slots + ms) Q (F0 m pc ls rest) q9) : W p l e R s m args below meth c H locs cells slots Q (F0 m pc ls st0) := by
  intro T hT X
  rcases hr T hT X with ⟨v, st₀, t, T', L, h0, X', hL, e1, e2, hq, -⟩ | ⟨q, st₀, t, T', L, E', ce, h0, X', hL, e1, e2, ⟨u, -, hE, hz, hk⟩, hce, hcv, hcl, st⟩
  · exact hq.elim
  · subst hE
    rw [h0] at hz hk
    have k1 : H.size ≤ T'.heap.size := by rw [e1]; exact hz
    have k2 : ∀ q : Nat, q < H.size → T'.heap[q]? = H[q]? := fun q hq => by rw [e1]; exact hk q hq (Nat.not_le.mpr hq)
    obtain ⟨t2, a1, b1⟩ := kx ce q T'.heap k1 k2 ⟨Nat.le_trans hS.1 k1, fun q h1 h2 => (k2 q (Nat.lt_of_lt_of_le h1 hS.1)).trans (hS.2.1 q h1 h2), hS.2.2⟩ (by rw [e1]; exact hce) hcv hcl T' rfl (Stand.forget X' (fun q h => (hL q h).elim))
    exact ⟨t2, st.trans a1, b1⟩
/-- a throw in a method that has no handler: 'throw new E("text")' -/
theorem rn_throw {ik is ic : Nat} {text : String} (hexec : p.tables.exec = Jvm.exec) (hb : c.code = cc) (hl : l.stackTraces = false) (hown : s.vm.findClass RX4 = some m.cls) (hts : ∀ w ∈ Ts, w.before args s = true) (hE : rn_E s) (hsz : s.heap.size = sz) (hfit : Bundle.fit E = true)
    (hk : Cond.classLink RX4 ik E ∈ Ts) (hini : Cond.initialized E ∈ Ts) (hin : ∀ w ∈ (vx_atS RX4 ic E rn_nm).filter goodWord, w ∈ Ts) (h2 : ∀ w ∈ (vx_atS RX4 ic E rn_nm).filter (fun w => !goodWord w), w ∈ rn_xw E) (hgood : ∀ w ∈ Cond.classLink RX4 ik E :: Cond.initialized E :: vx_atS RX4 ic E rn_nm, vx_ot w = true)
    (hxc : (E, E) ∈ rn_xc) (hstr : (is, text) ∈ rn_str) (hlsz : ls.size = c.maxLocals) (d0 : decode cc pc = .ok (.new ik, 3)) (d3 : decode cc (pc + 3) = .ok (.dup, 1)) (d4 : decode cc (pc + 4) = .ok (.ldc is, 2)) (d6 : decode cc (pc + 6) = .ok (.invokespecial ic, 3)) (d9 : decode cc (pc + 9) = .ok (.athrow, 1))
    (hout : ∀ x ∈ c.exceptionTable.toList, False) (hRf : 5 < R.frames) (hRl : (rest.map fun v => v.category).sum + 82 ≤ R.locals) (hRc : 1 ≤ R.cells) (hRs : 6 ≤ R.slots) (hlocks : meth.locks = false) :
    W p l e R s m args below meth c s.heap [] 0 0 (vx_MQ below (fun _ _ _ _ => False) (vx_X (fun _ : Unit => True) (fun E' _ _ => E' = E) (fun q => sz ≤ q)) args s 1 6 (fun _ => False)) (F0 m pc ls rest) := by
  obtain ⟨⟨hU, hN⟩, hx1, -, hx3⟩ := hE
  obtain ⟨sa, hsa⟩ := hx3 _ hstr
  exact vx_throwS (sa := sa) (text := text) (cls := E) (names := rn_nm) hexec hb hl hown hfit (by decide +kernel) (hts _ hk) (hts _ hini) hsa (rn_hat (fun w h => hts w (hin w h)) (hx1.1 _ hxc) hx1.2 h2) hgood hU hN va_S.rf hlsz d0 d3 d4 d6 d9 (fun x hx => (hout x hx).elim) hRf hRl hRc hRs hlocks
    (fun t _ hz hk => ⟨(), trivial, rfl, hz, fun q h1 _ => hk q h1⟩) (fun _ h => nomatch h) (Nat.le_refl _) (Nat.le_refl _)
/-- calls of methods that throw, in a method that has no handler -/
theorem rn_xV (n : Nat) (hexec : p.tables.exec = Jvm.exec) (hb : c.code = cc) (hml : c.maxLocals = nL) (hown : s.vm.findClass own = some m.cls) (hts : ∀ w ∈ Ts, w.before args s = true) (hG : rn_G D tys s) (hE : rn_E s) (hsz0 : s.heap.size = sz) (hout : ∀ x ∈ c.exceptionTable.toList, False) (hlocks : meth.locks = false)
    (hM : rn_X l y ws rm D tys B (.ref b :: As) E sz) (hgi : GoodIn Ts (wsV own index C y ws)) (hw : ws = .code y bytes maxL ret :: ws') (hrm : rm.cells = 1 ∧ rm.slots = 6)
    (hd : y.cls = C ∧ y.cls ≠ "java/lang/invoke/MethodHandle" ∧ y.cls ≠ "java/lang/invoke/VarHandle" ∧ (parseMethodDescriptor y.desc).map (fun d => d.parameters.length) = some n) (hR : rm.frames + 1 ≤ R.frames ∧ 8 + (maxL + 11) + rm.locals ≤ R.locals)
    (hB : B s.heap) (hat : va_at D vwCl (b, .inr (ci, fs)) s.heap) (hc : vwCl[ci]? = some (C, T, N)) (hn : As.length = n) (hsz : ls.size = nL) (hst : st0 = As.reverse ++ .ref b :: rest) (hW : (rest.map fun v => v.category).sum ≤ 8) (hf : 1 ≤ R.cells ∧ 6 ≤ R.slots) (hdg : decode cc pc = .ok (.invokevirtual index, 3)) :
    W p l e R s m args below meth c s.heap [] 0 0 (vx_MQ below (fun _ _ _ _ => False) (vx_X (fun _ : Unit => True) (fun E' _ _ => E' = E) (fun q => sz ≤ q)) args s 1 6 (fun _ => False)) (F0 m pc ls st0) := by
  subst hsz0
  refine rn_callX (mc := 1) (ms := 6) (E := E) (A0 := fun _ => True) (vx_runV (As := As) (rest := rest) ⟨hexec, hb, hml, hown, hts⟩ hM (cwV n hts hgi hw hrm.1 hrm.2 hd hR) ⟨rn_PcBlindX, rn_recv hG hat hc, fun U hU hW => ⟨rfl, ⟨by rw [hU], by rw [hU]; exact hB⟩, hG.warm hW, hE.warm hW hU⟩⟩ rfl hn hsz hst (lv_room hW) hdg (by rw [Nat.zero_add, Nat.zero_add]; exact hf)) va_S.rf ?_
  intro ce q9 H1 h1 h2 h3 h4 h5 h6
  exact vx_out (fun x hx => (hout x hx).elim) hlocks h4 h5 h6 (fun t ht _ => ⟨(), trivial, rfl, by rw [ht]; exact h1, fun q hq _ => by rw [ht]; exact h2 q hq⟩) (fun _ h => nomatch h) (Nat.le_refl _) (Nat.le_refl _)
theorem rn_xS (n : Nat) (hexec : p.tables.exec = Jvm.exec) (hb : c.code = cc) (hml : c.maxLocals = nL) (hown : s.vm.findClass own = some m.cls) (hts : ∀ w ∈ Ts, w.before args s = true) (hG : rn_G D tys s) (hE : rn_E s) (hsz0 : s.heap.size = sz) (hout : ∀ x ∈ c.exceptionTable.toList, False) (hlocks : meth.locks = false)
    (hM : rn_X l y ws rm D tys B As E sz) (hgi : GoodIn Ts (va_wsS own index y ws)) (hw : ws = .code y bytes maxL ret :: ws') (hrm : rm.cells = 1 ∧ rm.slots = 6)
    (hd : y.cls ≠ "java/lang/invoke/MethodHandle" ∧ y.cls ≠ "java/lang/invoke/VarHandle" ∧ (parseMethodDescriptor y.desc).map (fun d => d.parameters.length) = some n) (hR : rm.frames + 1 ≤ R.frames ∧ 8 + (maxL + 11) + rm.locals ≤ R.locals)
    (hB : B s.heap) (hn : As.length = n) (hsz : ls.size = nL) (hst : st0 = As.reverse ++ rest) (hW : (rest.map fun v => v.category).sum ≤ 8) (hf : 1 ≤ R.cells ∧ 6 ≤ R.slots) (hdg : decode cc pc = .ok (.invokestatic index, 3)) :
    W p l e R s m args below meth c s.heap [] 0 0 (vx_MQ below (fun _ _ _ _ => False) (vx_X (fun _ : Unit => True) (fun E' _ _ => E' = E) (fun q => sz ≤ q)) args s 1 6 (fun _ => False)) (F0 m pc ls st0) := by
  subst hsz0
  refine rn_callX (mc := 1) (ms := 6) (E := E) (A0 := fun _ => True) (vx_runS (As := As) (rest := rest) ⟨hexec, hb, hml, hown, hts⟩ hM (va_cwS n hts hgi hw hrm.1 hrm.2 hd hR) ⟨rn_PcBlindX, fun U hU hW => ⟨rfl, ⟨by rw [hU], by rw [hU]; exact hB⟩, hG.warm hW, hE.warm hW hU⟩⟩ rfl hn hsz hst (lv_room hW) hdg (by rw [Nat.zero_add, Nat.zero_add]; exact hf)) va_S.rf ?_
  intro ce q9 H1 h1 h2 h3 h4 h5 h6
  exact vx_out (fun x hx => (hout x hx).elim) hlocks h4 h5 h6 (fun t ht _ => ⟨(), trivial, rfl, by rw [ht]; exact h1, fun q hq _ => by rw [ht]; exact h2 q hq⟩) (fun _ h => nomatch h) (Nat.le_refl _) (Nat.le_refl _)
end RNX
end
section
/-! THE HOUSE AS A VALUE, and what its methods say of it -/
/-- a line: first number, first outer number, length -/
abbrev rn_Ln : Type := Nat × Nat × Nat
def rn_to : List rn_Ln → Nat → Option Nat
  | [], _ => none
  | q :: r, x => if q.1 ≤ x ∧ x < q.1 + q.2.2 then some (q.2.1 + (x - q.1)) else rn_to r x
def rn_from : List rn_Ln → Nat → Option Nat
  | [], _ => none
  | q :: r, y => if q.2.1 ≤ y ∧ y < q.2.1 + q.2.2 then some (q.1 + (y - q.2.1)) else rn_from r y
/-- rooms: how many, outer rooms, owners, maps, the draft; processes: how many, places, numbers, rights; files: how many, owners, modes; refusals: how many, the latest -/
abbrev rn_St : Type := (Nat × (Nat → Nat) × (Nat → Int32) × (Nat → List rn_Ln) × List rn_Ln) × (Nat × (Nat → Nat) × (Nat → Nat) × (Nat → Int32)) × (Nat × (Nat → Nat) × (Nat → Int32)) × (Int32 × Int32)
def rn_St.sn (σ : rn_St) : Nat := σ.1.1
def rn_St.so (σ : rn_St) : Nat → Nat := σ.1.2.1
def rn_St.sw (σ : rn_St) : Nat → Int32 := σ.1.2.2.1
def rn_St.sm (σ : rn_St) : Nat → List rn_Ln := σ.1.2.2.2.1
def rn_St.sd (σ : rn_St) : List rn_Ln := σ.1.2.2.2.2
def rn_St.pn (σ : rn_St) : Nat := σ.2.1.1
def rn_St.pl (σ : rn_St) : Nat → Nat := σ.2.1.2.1
def rn_St.pu (σ : rn_St) : Nat → Nat := σ.2.1.2.2.1
def rn_St.pr (σ : rn_St) : Nat → Int32 := σ.2.1.2.2.2
def rn_St.fn (σ : rn_St) : Nat := σ.2.2.1.1
def rn_St.fo (σ : rn_St) : Nat → Nat := σ.2.2.1.2.1
def rn_St.fm (σ : rn_St) : Nat → Int32 := σ.2.2.1.2.2
def rn_St.rc (σ : rn_St) : Int32 := σ.2.2.2.1
def rn_St.la (σ : rn_St) : Int32 := σ.2.2.2.2
/-- the rooms from one outwards -/
def rn_upF (o : Nat → Nat) : Nat → Nat → List Nat
  | 0, r => [r]
  | k + 1, r => if r = 0 then [0] else r :: rn_upF o k (o r)
def rn_ledF (o : Nat → Nat) (m : Nat → List rn_Ln) : Nat → Nat → Nat → Option Nat
  | 0, _, x => some x
  | k + 1, r, x => if r = 0 then some x else match rn_to (m r) x with
    | none => none
    | some y => rn_ledF o m k (o r) y
def rn_up (σ : rn_St) (r : Nat) : List Nat := rn_upF σ.so r r
def rn_lead (σ : rn_St) (r x : Nat) : Option Nat := rn_ledF σ.so σ.sm r r x
def rn_see (σ : rn_St) (r y : Nat) : Nat := ((List.range 999).find? (fun x => decide (rn_lead σ r x = some y))).getD 999
def rn_owns (σ : rn_St) (p r : Nat) : Bool := (rn_up σ r).any (fun a => decide (a ≠ 0 ∧ σ.so a = σ.pl p ∧ σ.sw a = nI (σ.pu p)))
def rn_held (σ : rn_St) (p r : Nat) : Int32 := if rn_owns σ p r = true then 15 else if σ.pl p ∈ rn_up σ r then σ.pr p else 0
def rn_meet (a b : rn_Ln) : Bool := decide ((a.1 < b.1 + b.2.2 ∧ b.1 < a.1 + a.2.2) ∨ (a.2.1 < b.2.1 + b.2.2 ∧ b.2.1 < a.2.1 + a.2.2))
def rn_bad : List rn_Ln → Bool
  | [] => false
  | q :: r => r.any (rn_meet q) || rn_bad r
def rn_lost (σ : rn_St) (r : Nat) (ls : List rn_Ln) : Bool := ls.any (fun q => (List.range q.2.2).any (fun k => (rn_lead σ r (q.2.1 + k)).isNone))
def rn_enc : Option Nat → Int32
  | none => -1
  | some k => nI k
def rn_b (b : Bool) : Int32 := if b = true then 1 else 0
/-- a line as drafts have it -/
def rn_okL (q : rn_Ln) : Prop := q.1 + q.2.2 ≤ 999 ∧ q.2.1 + q.2.2 ≤ 999 ∧ 1 ≤ q.2.2
/-- what holds at all times -/
def rn_V (σ : rn_St) : Prop := (1 ≤ σ.sn ∧ σ.sn ≤ 10) ∧ (∀ i, 0 < i → i < σ.sn → σ.so i < i) ∧ (∀ i, i < σ.sn → (∀ q ∈ σ.sm i, rn_okL q) ∧ (σ.sm i).length ≤ 3 ∧ rn_bad (σ.sm i) = false) ∧ σ.sm 0 = [] ∧ ((∀ q ∈ σ.sd, rn_okL q) ∧ σ.sd.length ≤ 3) ∧ (1 ≤ σ.pn ∧ σ.pn ≤ 12 ∧ ∀ j, j < σ.pn → σ.pl j < σ.sn ∧ σ.pu j ≤ 998) ∧ (σ.fn ≤ 20 ∧ ∀ j, j < σ.fn → σ.fo j ≤ 998)
/-! the way outwards -/
theorem rn_ledF_eq {o : Nat → Nat} {m : Nat → List rn_Ln} {n : Nat} (ho : ∀ i, 0 < i → i < n → o i < i) : ∀ (k k' r x : Nat), r < n → r ≤ k → r ≤ k' → rn_ledF o m k r x = rn_ledF o m k' r x := by
  intro k
  induction k with
  | zero =>
    intro k' r x hn h1 h2
    have hr : r = 0 := by omega
    subst hr
    cases k' with
    | zero => rfl
    | succ k' => simp [rn_ledF]
  | succ k ih =>
    intro k' r x hn h1 h2
    by_cases hr : r = 0
    · subst hr
      cases k' with
      | zero => simp [rn_ledF]
      | succ k' => simp [rn_ledF]
    · cases k' with
      | zero => omega
      | succ k' =>
        have h3 := ho r (by omega) hn
        simp only [rn_ledF, if_neg hr]
        cases rn_to (m r) x with
        | none => rfl
        | some y => exact ih k' (o r) y (by omega) (by omega) (by omega)
theorem rn_upF_eq {o : Nat → Nat} {n : Nat} (ho : ∀ i, 0 < i → i < n → o i < i) : ∀ (k k' r : Nat), r < n → r ≤ k → r ≤ k' → rn_upF o k r = rn_upF o k' r := by
  intro k
  induction k with
  | zero =>
    intro k' r hn h1 h2
    have hr : r = 0 := by omega
    subst hr
    cases k' with
    | zero => rfl
    | succ k' => simp [rn_upF]
  | succ k ih =>
    intro k' r hn h1 h2
    by_cases hr : r = 0
    · subst hr
      cases k' with
      | zero => simp [rn_upF]
      | succ k' => simp [rn_upF]
    · cases k' with
      | zero => omega
      | succ k' =>
        have h3 := ho r (by omega) hn
        simp only [rn_upF, if_neg hr]
        rw [ih k' (o r) (by omega) (by omega) (by omega)]
theorem rn_lead_0 (σ : rn_St) (x : Nat) : rn_lead σ 0 x = some x := rfl
theorem rn_lead_s {σ : rn_St} (hV : rn_V σ) {r : Nat} (x : Nat) (h0 : r ≠ 0) (hn : r < σ.sn) : rn_lead σ r x = match rn_to (σ.sm r) x with
    | none => none
    | some y => rn_lead σ (σ.so r) y := by
  have h3 := hV.2.1 r (by omega) hn
  obtain ⟨k, rfl⟩ : ∃ k, r = k + 1 := ⟨r - 1, by omega⟩
  show rn_ledF σ.so σ.sm (k + 1) (k + 1) x = _
  simp only [rn_ledF, if_neg h0]
  cases rn_to (σ.sm (k + 1)) x with
  | none => rfl
  | some y => exact rn_ledF_eq hV.2.1 k _ _ y (by omega) (by omega) (Nat.le_refl _)
theorem rn_up_0 (σ : rn_St) : rn_up σ 0 = [0] := rfl
theorem rn_up_s {σ : rn_St} (hV : rn_V σ) {r : Nat} (h0 : r ≠ 0) (hn : r < σ.sn) : rn_up σ r = r :: rn_up σ (σ.so r) := by
  have h3 := hV.2.1 r (by omega) hn
  obtain ⟨k, rfl⟩ : ∃ k, r = k + 1 := ⟨r - 1, by omega⟩
  show rn_upF σ.so (k + 1) (k + 1) = _
  simp only [rn_upF, if_neg h0]
  rw [rn_upF_eq hV.2.1 k (σ.so (k + 1)) (σ.so (k + 1)) (by omega) (by omega) (Nat.le_refl _)]
  rfl
theorem rn_up_self {σ : rn_St} (hV : rn_V σ) {r : Nat} (hn : r < σ.sn) : r ∈ rn_up σ r := by
  by_cases h0 : r = 0
  · subst h0; simp [rn_up_0]
  · rw [rn_up_s hV h0 hn]; exact List.mem_cons_self
theorem rn_up_zero {σ : rn_St} (hV : rn_V σ) : ∀ (k r : Nat), r ≤ k → r < σ.sn → 0 ∈ rn_up σ r := by
  intro k
  induction k with
  | zero => intro r hr hn; rw [show r = 0 by omega]; simp [rn_up_0]
  | succ k ih =>
    intro r hr hn
    by_cases h0 : r = 0
    · subst h0; simp [rn_up_0]
    · have h3 := hV.2.1 r (by omega) hn
      rw [rn_up_s hV h0 hn]
      exact List.mem_cons_of_mem _ (ih _ (by omega) (by omega))
theorem rn_up_le {σ : rn_St} (hV : rn_V σ) : ∀ (k r : Nat), r ≤ k → r < σ.sn → ∀ u ∈ rn_up σ r, u ≤ r := by
  intro k
  induction k with
  | zero => intro r hr hn u hu; rw [show r = 0 by omega] at hu ⊢; simp [rn_up_0] at hu; omega
  | succ k ih =>
    intro r hr hn u hu
    by_cases h0 : r = 0
    · subst h0; simp [rn_up_0] at hu; omega
    · have h3 := hV.2.1 r (by omega) hn
      rw [rn_up_s hV h0 hn] at hu
      rcases List.mem_cons.mp hu with rfl | hu
      · exact Nat.le_refl _
      · have := ih _ (by omega) (by omega) u hu
        omega
/-- on one way outwards, what is smaller lies further out -/
theorem rn_up_mid {σ : rn_St} (hV : rn_V σ) : ∀ (k r : Nat), r ≤ k → r < σ.sn → ∀ i ∈ rn_up σ r, i ≠ 0 → σ.so i ∈ rn_up σ r ∧ ∀ u ∈ rn_up σ r, u < i → u ≤ σ.so i := by
  intro k
  induction k with
  | zero => intro r hr hn i hi h; rw [show r = 0 by omega] at hi; simp [rn_up_0] at hi; exact absurd hi h
  | succ k ih =>
    intro r hr hn i hi h
    by_cases h0 : r = 0
    · subst h0; simp [rn_up_0] at hi; exact absurd hi h
    · have h3 := hV.2.1 r (by omega) hn
      rw [rn_up_s hV h0 hn] at hi ⊢
      rcases List.mem_cons.mp hi with rfl | hi
      · refine ⟨List.mem_cons_of_mem _ (rn_up_self hV (by omega)), fun u hu hlt => ?_⟩
        rcases List.mem_cons.mp hu with rfl | hu
        · omega
        · exact rn_up_le hV _ _ (Nat.le_refl _) (by omega) u hu
      · obtain ⟨a, b⟩ := ih _ (by omega) (by omega) i hi h
        refine ⟨List.mem_cons_of_mem _ a, fun u hu hlt => ?_⟩
        rcases List.mem_cons.mp hu with rfl | hu
        · have := rn_up_le hV _ _ (Nat.le_refl _) (by omega) i hi
          omega
        · exact b u hu hlt
/-! lines -/
theorem rn_to_mem {ls : List rn_Ln} {x y : Nat} (h : rn_to ls x = some y) : ∃ q ∈ ls, q.1 ≤ x ∧ x < q.1 + q.2.2 ∧ y = q.2.1 + (x - q.1) := by
  induction ls with
  | nil => simp [rn_to] at h
  | cons q r ih =>
    simp only [rn_to] at h
    by_cases hq : q.1 ≤ x ∧ x < q.1 + q.2.2
    · rw [if_pos hq] at h
      exact ⟨q, List.mem_cons_self, hq.1, hq.2, (Option.some.inj h).symm⟩
    · rw [if_neg hq] at h
      obtain ⟨z, hz, h1⟩ := ih h
      exact ⟨z, List.mem_cons_of_mem _ hz, h1⟩
theorem rn_from_mem {ls : List rn_Ln} {x y : Nat} (h : rn_from ls y = some x) : ∃ q ∈ ls, q.2.1 ≤ y ∧ y < q.2.1 + q.2.2 ∧ x = q.1 + (y - q.2.1) := by
  induction ls with
  | nil => simp [rn_from] at h
  | cons q r ih =>
    simp only [rn_from] at h
    by_cases hq : q.2.1 ≤ y ∧ y < q.2.1 + q.2.2
    · rw [if_pos hq] at h
      exact ⟨q, List.mem_cons_self, hq.1, hq.2, (Option.some.inj h).symm⟩
    · rw [if_neg hq] at h
      obtain ⟨z, hz, h1⟩ := ih h
      exact ⟨z, List.mem_cons_of_mem _ hz, h1⟩
theorem rn_bad_cons {q : rn_Ln} {r : List rn_Ln} (h : rn_bad (q :: r) = false) : (∀ z ∈ r, rn_meet q z = false) ∧ rn_bad r = false := by
  simp only [rn_bad, Bool.or_eq_false_iff, List.any_eq_false] at h
  exact ⟨fun z hz => by simpa using h.1 z hz, h.2⟩
/-- where no two lines meet, to and from are each other's way back -/
theorem rn_to_from {ls : List rn_Ln} (hb : rn_bad ls = false) (x y : Nat) : rn_to ls x = some y ↔ rn_from ls y = some x := by
  induction ls with
  | nil => simp [rn_to, rn_from]
  | cons q r ih =>
    obtain ⟨h1, h2⟩ := rn_bad_cons hb
    have ih := ih h2
    have far : ∀ z ∈ r, ¬ ((q.1 < z.1 + z.2.2 ∧ z.1 < q.1 + q.2.2) ∨ (q.2.1 < z.2.1 + z.2.2 ∧ z.2.1 < q.2.1 + q.2.2)) := fun z hz => by
      have := h1 z hz
      simpa [rn_meet] using this
    simp only [rn_to, rn_from]
    by_cases hx : q.1 ≤ x ∧ x < q.1 + q.2.2
    · rw [if_pos hx]
      by_cases hy : q.2.1 ≤ y ∧ y < q.2.1 + q.2.2
      · rw [if_pos hy]
        simp only [Option.some.injEq]
        omega
      · rw [if_neg hy]
        constructor
        · intro h
          have := Option.some.inj h
          omega
        · intro h
          obtain ⟨z, hz, g1, g2, g3⟩ := rn_from_mem h
          have := far z hz
          omega
    · rw [if_neg hx]
      by_cases hy : q.2.1 ≤ y ∧ y < q.2.1 + q.2.2
      · rw [if_pos hy]
        constructor
        · intro h
          obtain ⟨z, hz, g1, g2, g3⟩ := rn_to_mem h
          have := far z hz
          omega
        · intro h
          have := Option.some.inj h
          omega
      · rw [if_neg hy]
        exact ih
/-- numbers stay in their range, and no two lead to one -/
theorem rn_lead_in {σ : rn_St} (hV : rn_V σ) : ∀ (k r : Nat), r ≤ k → r < σ.sn → ∀ x y, x ≤ 998 → rn_lead σ r x = some y → y ≤ 998 := by
  intro k
  induction k with
  | zero => intro r hr hn x y hx h; rw [show r = 0 by omega, rn_lead_0] at h; have := Option.some.inj h; omega
  | succ k ih =>
    intro r hr hn x y hx h
    by_cases h0 : r = 0
    · rw [h0, rn_lead_0] at h; have := Option.some.inj h; omega
    · have h3 := hV.2.1 r (by omega) hn
      rw [rn_lead_s hV x h0 hn] at h
      cases ht : rn_to (σ.sm r) x with
      | none => rw [ht] at h; cases h
      | some z =>
        rw [ht] at h
        obtain ⟨q, hq, g1, g2, g3⟩ := rn_to_mem ht
        have hok := (hV.2.2.1 r hn).1 q hq
        exact ih _ (by omega) (by omega) z y (by have := hok.2.1; omega) h
theorem rn_to_in {σ : rn_St} (hV : rn_V σ) {r x z : Nat} (hn : r < σ.sn) (ht : rn_to (σ.sm r) x = some z) : z ≤ 998 ∧ x ≤ 998 := by
  obtain ⟨q, hq, g1, g2, g3⟩ := rn_to_mem ht
  have hok := (hV.2.2.1 r hn).1 q hq
  have h1 := hok.1
  have h2 := hok.2.1
  omega
theorem rn_lead_inj {σ : rn_St} (hV : rn_V σ) : ∀ (k r : Nat), r ≤ k → r < σ.sn → ∀ x x' y, rn_lead σ r x = some y → rn_lead σ r x' = some y → x = x' := by
  intro k
  induction k with
  | zero => intro r hr hn x x' y h h'; rw [show r = 0 by omega, rn_lead_0] at h h'; have := Option.some.inj h; have := Option.some.inj h'; omega
  | succ k ih =>
    intro r hr hn x x' y h h'
    by_cases h0 : r = 0
    · rw [h0, rn_lead_0] at h h'; have := Option.some.inj h; have := Option.some.inj h'; omega
    · have h3 := hV.2.1 r (by omega) hn
      rw [rn_lead_s hV _ h0 hn] at h h'
      cases ht : rn_to (σ.sm r) x with
      | none => rw [ht] at h; cases h
      | some z =>
        cases ht' : rn_to (σ.sm r) x' with
        | none => rw [ht'] at h'; cases h'
        | some z' =>
          rw [ht] at h; rw [ht'] at h'
          have hz := ih _ (by omega) (by omega) z z' y h h'
          subst hz
          have hb := (hV.2.2.1 r hn).2.2
          have e1 := (rn_to_from hb x z).mp ht
          have e2 := (rn_to_from hb x' z).mp ht'
          exact Option.some.inj (e1.symm.trans e2)
/-! what is seen -/
theorem rn_see_spec (σ : rn_St) (r y : Nat) : (rn_see σ r y < 999 ∧ rn_lead σ r (rn_see σ r y) = some y) ∨ (rn_see σ r y = 999 ∧ ∀ x, x < 999 → rn_lead σ r x ≠ some y) := by
  unfold rn_see
  cases h : (List.range 999).find? (fun x => decide (rn_lead σ r x = some y)) with
  | none =>
    refine Or.inr ⟨rfl, fun x hx => ?_⟩
    have := List.find?_eq_none.mp h x (List.mem_range.mpr hx)
    simpa using this
  | some x =>
    have h1 := List.find?_some h
    have h2 := List.mem_of_find?_eq_some h
    exact Or.inl ⟨List.mem_range.mp h2, by simpa using h1⟩
theorem rn_see_le (σ : rn_St) (r y : Nat) : rn_see σ r y ≤ 999 := by
  rcases rn_see_spec σ r y with h | h <;> omega
theorem rn_see_uniq {σ : rn_St} (hV : rn_V σ) {r y x : Nat} (hn : r < σ.sn) (hx : x < 999) (h : rn_lead σ r x = some y) : rn_see σ r y = x := by
  rcases rn_see_spec σ r y with ⟨_, h2⟩ | ⟨_, h2⟩
  · exact rn_lead_inj hV r r (Nat.le_refl _) hn _ _ y h2 h
  · exact absurd h (h2 x hx)
theorem rn_see_0 (σ : rn_St) (hV : rn_V σ) {y : Nat} (hy : y ≤ 998) : rn_see σ 0 y = y :=
  rn_see_uniq hV (by have := hV.1.1; omega) (by omega) (rn_lead_0 σ y)
/-- one room inwards -/
theorem rn_see_s {σ : rn_St} (hV : rn_V σ) {r y : Nat} (h0 : r ≠ 0) (hn : r < σ.sn) : rn_see σ r y = (rn_from (σ.sm r) (rn_see σ (σ.so r) y)).getD 999 := by
  have h3 := hV.2.1 r (by omega) hn
  have hb := (hV.2.2.1 r hn).2.2
  cases hf : rn_from (σ.sm r) (rn_see σ (σ.so r) y) with
  | some x =>
    have ht := (rn_to_from hb x _).mpr hf
    have hin := rn_to_in hV hn ht
    show rn_see σ r y = x
    refine rn_see_uniq hV hn (by omega) ?_
    rw [rn_lead_s hV x h0 hn, ht]
    rcases rn_see_spec σ (σ.so r) y with ⟨_, h2⟩ | ⟨h1, _⟩
    · exact h2
    · omega
  | none =>
    rcases rn_see_spec σ r y with ⟨h1, h2⟩ | ⟨h1, _⟩
    · exfalso
      rw [rn_lead_s hV _ h0 hn] at h2
      cases ht : rn_to (σ.sm r) (rn_see σ r y) with
      | none => rw [ht] at h2; cases h2
      | some z =>
        rw [ht] at h2
        have hin := rn_to_in hV hn ht
        have hz : rn_see σ (σ.so r) y = z := rn_see_uniq hV (by omega) (by omega) h2
        have := (rn_to_from hb _ z).mp ht
        rw [hz, this] at hf
        cases hf
    · exact h1
theorem rn_from_999 {σ : rn_St} (hV : rn_V σ) {r : Nat} (hn : r < σ.sn) : rn_from (σ.sm r) 999 = none := by
  cases h : rn_from (σ.sm r) 999 with
  | none => rfl
  | some x =>
    obtain ⟨q, hq, g1, g2, g3⟩ := rn_from_mem h
    have hok := (hV.2.2.1 r hn).1 q hq
    have := hok.2.1
    omega
end
section
theorem iw_X0_init_0 : ∀ w ∈ u_ws RX0 TX0 2, w ∈ wsX0_init := by decide +kernel
theorem fw_X0_init_9 : Cond.fieldLink RX0 9 (TX0 0).1 (TX0 0).2.1 (TX0 0).2.2.1 ∈ wsX0_init := by decide +kernel
theorem fw_X0_init_15 : Cond.fieldLink RX0 15 (TX0 1).1 (TX0 1).2.1 (TX0 1).2.2.1 ∈ wsX0_init := by decide +kernel
theorem mw_X0_init_3 : Cond.methodLink RX0 3 objectInit ∈ wsX0_init := by decide +kernel
theorem ow_X0_init_1 : Cond.instanceMethod objectInit ∈ wsX0_init := by decide +kernel
theorem ow_X0_init_2 : Cond.code objectInit ⟨#[0xb1]⟩ 1 none ∈ wsX0_init := by decide +kernel
theorem iw_X0_allows_0 : ∀ w ∈ u_ws RX0 TX0 2, w ∈ wsX0_allows := by decide +kernel
theorem fw_X0_allows_9 : Cond.fieldLink RX0 9 (TX0 0).1 (TX0 0).2.1 (TX0 0).2.2.1 ∈ wsX0_allows := by decide +kernel
theorem fw_X0_allows_15 : Cond.fieldLink RX0 15 (TX0 1).1 (TX0 1).2.1 (TX0 1).2.2.1 ∈ wsX0_allows := by decide +kernel
theorem iw_X1_init_1 : ∀ w ∈ u_ws RX1 TX1 3, w ∈ wsX1_init := by decide +kernel
theorem fw_X1_init_9 : Cond.fieldLink RX1 9 (TX1 0).1 (TX1 0).2.1 (TX1 0).2.2.1 ∈ wsX1_init := by decide +kernel
theorem fw_X1_init_15 : Cond.fieldLink RX1 15 (TX1 1).1 (TX1 1).2.1 (TX1 1).2.2.1 ∈ wsX1_init := by decide +kernel
theorem fw_X1_init_19 : Cond.fieldLink RX1 19 (TX1 2).1 (TX1 2).2.1 (TX1 2).2.2.1 ∈ wsX1_init := by decide +kernel
theorem mw_X1_init_3 : Cond.methodLink RX1 3 objectInit ∈ wsX1_init := by decide +kernel
theorem ow_X1_init_1 : Cond.instanceMethod objectInit ∈ wsX1_init := by decide +kernel
theorem ow_X1_init_2 : Cond.code objectInit ⟨#[0xb1]⟩ 1 none ∈ wsX1_init := by decide +kernel
theorem iw_X1_moveInto_1 : ∀ w ∈ u_ws RX1 TX1 3, w ∈ wsX1_moveInto := by decide +kernel
theorem fw_X1_moveInto_9 : Cond.fieldLink RX1 9 (TX1 0).1 (TX1 0).2.1 (TX1 0).2.2.1 ∈ wsX1_moveInto := by decide +kernel
theorem fw_X1_moveInto_19 : Cond.fieldLink RX1 19 (TX1 2).1 (TX1 2).2.1 (TX1 2).2.2.1 ∈ wsX1_moveInto := by decide +kernel
theorem iw_X1_rightsHeldIn_1 : ∀ w ∈ u_ws RX1 TX1 3, w ∈ wsX1_rightsHeldIn := by decide +kernel
theorem fw_X1_rightsHeldIn_9 : Cond.fieldLink RX1 9 (TX1 0).1 (TX1 0).2.1 (TX1 0).2.2.1 ∈ wsX1_rightsHeldIn := by decide +kernel
theorem fw_X1_rightsHeldIn_19 : Cond.fieldLink RX1 19 (TX1 2).1 (TX1 2).2.1 (TX1 2).2.2.1 ∈ wsX1_rightsHeldIn := by decide +kernel
theorem iw_X1_ownsRoomAround_1 : ∀ w ∈ u_ws RX1 TX1 3, w ∈ wsX1_ownsRoomAround := by decide +kernel
theorem iw_X1_ownsRoomAround_3 : ∀ w ∈ u_ws RX3 TX3 4, w ∈ wsX1_ownsRoomAround := by decide +kernel
theorem fw_X1_ownsRoomAround_9 : Cond.fieldLink RX1 9 (TX1 0).1 (TX1 0).2.1 (TX1 0).2.2.1 ∈ wsX1_ownsRoomAround := by decide +kernel
theorem fw_X1_ownsRoomAround_15 : Cond.fieldLink RX1 15 (TX1 1).1 (TX1 1).2.1 (TX1 1).2.2.1 ∈ wsX1_ownsRoomAround := by decide +kernel
theorem fw_X1_ownsRoomAround_34 : Cond.fieldLink RX1 34 (TX3 1).1 (TX3 1).2.1 (TX3 1).2.2.1 ∈ wsX1_ownsRoomAround := by decide +kernel
theorem fw_X1_ownsRoomAround_39 : Cond.fieldLink RX1 39 (TX3 2).1 (TX3 2).2.1 (TX3 2).2.2.1 ∈ wsX1_ownsRoomAround := by decide +kernel
theorem iw_X2_init_2 : ∀ w ∈ u_ws RX2 TX2 4, w ∈ wsX2_init := by decide +kernel
theorem fw_X2_init_7 : Cond.fieldLink RX2 7 (TX2 0).1 (TX2 0).2.1 (TX2 0).2.2.1 ∈ wsX2_init := by decide +kernel
theorem fw_X2_init_13 : Cond.fieldLink RX2 13 (TX2 1).1 (TX2 1).2.1 (TX2 1).2.2.1 ∈ wsX2_init := by decide +kernel
theorem fw_X2_init_16 : Cond.fieldLink RX2 16 (TX2 2).1 (TX2 2).2.1 (TX2 2).2.2.1 ∈ wsX2_init := by decide +kernel
theorem fw_X2_init_19 : Cond.fieldLink RX2 19 (TX2 3).1 (TX2 3).2.1 (TX2 3).2.2.1 ∈ wsX2_init := by decide +kernel
theorem mw_X2_init_1 : Cond.methodLink RX2 1 objectInit ∈ wsX2_init := by decide +kernel
theorem ow_X2_init_1 : Cond.instanceMethod objectInit ∈ wsX2_init := by decide +kernel
theorem ow_X2_init_2 : Cond.code objectInit ⟨#[0xb1]⟩ 1 none ∈ wsX2_init := by decide +kernel
theorem iw_X2_isOfOneNumber_2 : ∀ w ∈ u_ws RX2 TX2 4, w ∈ wsX2_isOfOneNumber := by decide +kernel
theorem fw_X2_isOfOneNumber_16 : Cond.fieldLink RX2 16 (TX2 2).1 (TX2 2).2.1 (TX2 2).2.2.1 ∈ wsX2_isOfOneNumber := by decide +kernel
theorem fw_X2_isOfOneNumber_19 : Cond.fieldLink RX2 19 (TX2 3).1 (TX2 3).2.1 (TX2 3).2.2.1 ∈ wsX2_isOfOneNumber := by decide +kernel
theorem iw_X2_meets_2 : ∀ w ∈ u_ws RX2 TX2 4, w ∈ wsX2_meets := by decide +kernel
theorem fw_X2_meets_7 : Cond.fieldLink RX2 7 (TX2 0).1 (TX2 0).2.1 (TX2 0).2.2.1 ∈ wsX2_meets := by decide +kernel
theorem fw_X2_meets_13 : Cond.fieldLink RX2 13 (TX2 1).1 (TX2 1).2.1 (TX2 1).2.2.1 ∈ wsX2_meets := by decide +kernel
theorem fw_X2_meets_16 : Cond.fieldLink RX2 16 (TX2 2).1 (TX2 2).2.1 (TX2 2).2.2.1 ∈ wsX2_meets := by decide +kernel
theorem iw_X3_init_3 : ∀ w ∈ u_ws RX3 TX3 4, w ∈ wsX3_init := by decide +kernel
theorem fw_X3_init_9 : Cond.fieldLink RX3 9 (TX3 0).1 (TX3 0).2.1 (TX3 0).2.2.1 ∈ wsX3_init := by decide +kernel
theorem fw_X3_init_15 : Cond.fieldLink RX3 15 (TX3 1).1 (TX3 1).2.1 (TX3 1).2.2.1 ∈ wsX3_init := by decide +kernel
theorem fw_X3_init_19 : Cond.fieldLink RX3 19 (TX3 2).1 (TX3 2).2.1 (TX3 2).2.2.1 ∈ wsX3_init := by decide +kernel
theorem fw_X3_init_22 : Cond.fieldLink RX3 22 (TX3 3).1 (TX3 3).2.1 (TX3 3).2.2.1 ∈ wsX3_init := by decide +kernel
theorem mw_X3_init_3 : Cond.methodLink RX3 3 objectInit ∈ wsX3_init := by decide +kernel
theorem ow_X3_init_1 : Cond.instanceMethod objectInit ∈ wsX3_init := by decide +kernel
theorem ow_X3_init_2 : Cond.code objectInit ⟨#[0xb1]⟩ 1 none ∈ wsX3_init := by decide +kernel
theorem iw_X3_toOuter_2 : ∀ w ∈ u_ws RX2 TX2 4, w ∈ wsX3_toOuter := by decide +kernel
theorem iw_X3_toOuter_3 : ∀ w ∈ u_ws RX3 TX3 4, w ∈ wsX3_toOuter := by decide +kernel
theorem fw_X3_toOuter_15 : Cond.fieldLink RX3 15 (TX3 1).1 (TX3 1).2.1 (TX3 1).2.2.1 ∈ wsX3_toOuter := by decide +kernel
theorem fw_X3_toOuter_22 : Cond.fieldLink RX3 22 (TX3 3).1 (TX3 3).2.1 (TX3 3).2.2.1 ∈ wsX3_toOuter := by decide +kernel
theorem fw_X3_toOuter_26 : Cond.fieldLink RX3 26 (TX2 0).1 (TX2 0).2.1 (TX2 0).2.2.1 ∈ wsX3_toOuter := by decide +kernel
theorem fw_X3_toOuter_31 : Cond.fieldLink RX3 31 (TX2 2).1 (TX2 2).2.1 (TX2 2).2.2.1 ∈ wsX3_toOuter := by decide +kernel
theorem fw_X3_toOuter_34 : Cond.fieldLink RX3 34 (TX2 1).1 (TX2 1).2.1 (TX2 1).2.2.1 ∈ wsX3_toOuter := by decide +kernel
theorem fw_X3_toOuter_36 : Cond.fieldLink RX3 36 (TX2 3).1 (TX2 3).2.1 (TX2 3).2.2.1 ∈ wsX3_toOuter := by decide +kernel
theorem iw_X3_fromOuter_2 : ∀ w ∈ u_ws RX2 TX2 4, w ∈ wsX3_fromOuter := by decide +kernel
theorem iw_X3_fromOuter_3 : ∀ w ∈ u_ws RX3 TX3 4, w ∈ wsX3_fromOuter := by decide +kernel
theorem fw_X3_fromOuter_15 : Cond.fieldLink RX3 15 (TX3 1).1 (TX3 1).2.1 (TX3 1).2.2.1 ∈ wsX3_fromOuter := by decide +kernel
theorem fw_X3_fromOuter_22 : Cond.fieldLink RX3 22 (TX3 3).1 (TX3 3).2.1 (TX3 3).2.2.1 ∈ wsX3_fromOuter := by decide +kernel
theorem fw_X3_fromOuter_26 : Cond.fieldLink RX3 26 (TX2 0).1 (TX2 0).2.1 (TX2 0).2.2.1 ∈ wsX3_fromOuter := by decide +kernel
theorem fw_X3_fromOuter_31 : Cond.fieldLink RX3 31 (TX2 2).1 (TX2 2).2.1 (TX2 2).2.2.1 ∈ wsX3_fromOuter := by decide +kernel
theorem fw_X3_fromOuter_34 : Cond.fieldLink RX3 34 (TX2 1).1 (TX2 1).2.1 (TX2 1).2.2.1 ∈ wsX3_fromOuter := by decide +kernel
theorem fw_X3_fromOuter_36 : Cond.fieldLink RX3 36 (TX2 3).1 (TX2 3).2.1 (TX2 3).2.2.1 ∈ wsX3_fromOuter := by decide +kernel
theorem iw_X4_init_1 : ∀ w ∈ u_ws RX1 TX1 3, w ∈ wsX4_init := by decide +kernel
theorem iw_X4_init_3 : ∀ w ∈ u_ws RX3 TX3 4, w ∈ wsX4_init := by decide +kernel
theorem iw_X4_init_4 : ∀ w ∈ u_ws RX4 TX4 9, w ∈ wsX4_init := by decide +kernel
theorem fw_X4_init_14 : Cond.fieldLink RX4 14 (TX4 0).1 (TX4 0).2.1 (TX4 0).2.2.1 ∈ wsX4_init := by decide +kernel
theorem fw_X4_init_18 : Cond.fieldLink RX4 18 (TX4 1).1 (TX4 1).2.1 (TX4 1).2.2.1 ∈ wsX4_init := by decide +kernel
theorem fw_X4_init_24 : Cond.fieldLink RX4 24 (TX4 2).1 (TX4 2).2.1 (TX4 2).2.2.1 ∈ wsX4_init := by decide +kernel
theorem fw_X4_init_31 : Cond.fieldLink RX4 31 (TX4 3).1 (TX4 3).2.1 (TX4 3).2.2.1 ∈ wsX4_init := by decide +kernel
theorem fw_X4_init_36 : Cond.fieldLink RX4 36 (TX4 4).1 (TX4 4).2.1 (TX4 4).2.2.1 ∈ wsX4_init := by decide +kernel
theorem fw_X4_init_40 : Cond.fieldLink RX4 40 (TX4 5).1 (TX4 5).2.1 (TX4 5).2.2.1 ∈ wsX4_init := by decide +kernel
theorem fw_X4_init_43 : Cond.fieldLink RX4 43 (TX4 6).1 (TX4 6).2.1 (TX4 6).2.2.1 ∈ wsX4_init := by decide +kernel
theorem fw_X4_init_47 : Cond.fieldLink RX4 47 (TX4 7).1 (TX4 7).2.1 (TX4 7).2.2.1 ∈ wsX4_init := by decide +kernel
theorem fw_X4_init_50 : Cond.fieldLink RX4 50 (TX4 8).1 (TX4 8).2.1 (TX4 8).2.2.1 ∈ wsX4_init := by decide +kernel
theorem cw_X4_init_7 : Cond.classLink RX4 7 RX3 ∈ wsX4_init := by decide +kernel
theorem nw_X4_init_3 : Cond.instantiable RX3 4 ∈ wsX4_init := by decide +kernel
theorem tw_X4_init_3 : Cond.initialized RX3 ∈ wsX4_init := by decide +kernel
theorem cw_X4_init_22 : Cond.classLink RX4 22 RX1 ∈ wsX4_init := by decide +kernel
theorem nw_X4_init_1 : Cond.instantiable RX1 3 ∈ wsX4_init := by decide +kernel
theorem tw_X4_init_1 : Cond.initialized RX1 ∈ wsX4_init := by decide +kernel
theorem mw_X4_init_1 : Cond.methodLink RX4 1 objectInit ∈ wsX4_init := by decide +kernel
theorem ow_X4_init_1 : Cond.instanceMethod objectInit ∈ wsX4_init := by decide +kernel
theorem ow_X4_init_2 : Cond.code objectInit ⟨#[0xb1]⟩ 1 none ∈ wsX4_init := by decide +kernel
theorem iw_X4_makeRoom_1 : ∀ w ∈ u_ws RX1 TX1 3, w ∈ wsX4_makeRoom := by decide +kernel
theorem iw_X4_makeRoom_3 : ∀ w ∈ u_ws RX3 TX3 4, w ∈ wsX4_makeRoom := by decide +kernel
theorem iw_X4_makeRoom_4 : ∀ w ∈ u_ws RX4 TX4 9, w ∈ wsX4_makeRoom := by decide +kernel
theorem fw_X4_makeRoom_14 : Cond.fieldLink RX4 14 (TX4 0).1 (TX4 0).2.1 (TX4 0).2.2.1 ∈ wsX4_makeRoom := by decide +kernel
theorem fw_X4_makeRoom_18 : Cond.fieldLink RX4 18 (TX4 1).1 (TX4 1).2.1 (TX4 1).2.2.1 ∈ wsX4_makeRoom := by decide +kernel
theorem fw_X4_makeRoom_64 : Cond.fieldLink RX4 64 (TX1 0).1 (TX1 0).2.1 (TX1 0).2.2.1 ∈ wsX4_makeRoom := by decide +kernel
theorem fw_X4_makeRoom_68 : Cond.fieldLink RX4 68 (TX1 1).1 (TX1 1).2.1 (TX1 1).2.2.1 ∈ wsX4_makeRoom := by decide +kernel
theorem fw_X4_makeRoom_75 : Cond.fieldLink RX4 75 (TX3 0).1 (TX3 0).2.1 (TX3 0).2.2.1 ∈ wsX4_makeRoom := by decide +kernel
theorem cw_X4_makeRoom_7 : Cond.classLink RX4 7 RX3 ∈ wsX4_makeRoom := by decide +kernel
theorem nw_X4_makeRoom_3 : Cond.instantiable RX3 4 ∈ wsX4_makeRoom := by decide +kernel
theorem tw_X4_makeRoom_3 : Cond.initialized RX3 ∈ wsX4_makeRoom := by decide +kernel
theorem iw_X4_line_2 : ∀ w ∈ u_ws RX2 TX2 4, w ∈ wsX4_line := by decide +kernel
theorem iw_X4_line_4 : ∀ w ∈ u_ws RX4 TX4 9, w ∈ wsX4_line := by decide +kernel
theorem fw_X4_line_43 : Cond.fieldLink RX4 43 (TX4 6).1 (TX4 6).2.1 (TX4 6).2.2.1 ∈ wsX4_line := by decide +kernel
theorem cw_X4_line_91 : Cond.classLink RX4 91 RX2 ∈ wsX4_line := by decide +kernel
theorem nw_X4_line_2 : Cond.instantiable RX2 4 ∈ wsX4_line := by decide +kernel
theorem tw_X4_line_2 : Cond.initialized RX2 ∈ wsX4_line := by decide +kernel
theorem iw_X4_writeMap_1 : ∀ w ∈ u_ws RX1 TX1 3, w ∈ wsX4_writeMap := by decide +kernel
theorem iw_X4_writeMap_2 : ∀ w ∈ u_ws RX2 TX2 4, w ∈ wsX4_writeMap := by decide +kernel
theorem iw_X4_writeMap_3 : ∀ w ∈ u_ws RX3 TX3 4, w ∈ wsX4_writeMap := by decide +kernel
theorem iw_X4_writeMap_4 : ∀ w ∈ u_ws RX4 TX4 9, w ∈ wsX4_writeMap := by decide +kernel
theorem fw_X4_writeMap_43 : Cond.fieldLink RX4 43 (TX4 6).1 (TX4 6).2.1 (TX4 6).2.2.1 ∈ wsX4_writeMap := by decide +kernel
theorem fw_X4_writeMap_68 : Cond.fieldLink RX4 68 (TX1 1).1 (TX1 1).2.1 (TX1 1).2.2.1 ∈ wsX4_writeMap := by decide +kernel
theorem fw_X4_writeMap_100 : Cond.fieldLink RX4 100 (TX3 1).1 (TX3 1).2.1 (TX3 1).2.2.1 ∈ wsX4_writeMap := by decide +kernel
theorem fw_X4_writeMap_108 : Cond.fieldLink RX4 108 (TX3 3).1 (TX3 3).2.1 (TX3 3).2.2.1 ∈ wsX4_writeMap := by decide +kernel
theorem fw_X4_writeMap_127 : Cond.fieldLink RX4 127 (TX3 2).1 (TX3 2).2.1 (TX3 2).2.2.1 ∈ wsX4_writeMap := by decide +kernel
theorem fw_X4_writeMap_130 : Cond.fieldLink RX4 130 (TX2 1).1 (TX2 1).2.1 (TX2 1).2.2.1 ∈ wsX4_writeMap := by decide +kernel
theorem iw_X4_rooms_4 : ∀ w ∈ u_ws RX4 TX4 9, w ∈ wsX4_rooms := by decide +kernel
theorem fw_X4_rooms_18 : Cond.fieldLink RX4 18 (TX4 1).1 (TX4 1).2.1 (TX4 1).2.2.1 ∈ wsX4_rooms := by decide +kernel
theorem iw_X4_outerOf_3 : ∀ w ∈ u_ws RX3 TX3 4, w ∈ wsX4_outerOf := by decide +kernel
theorem fw_X4_outerOf_100 : Cond.fieldLink RX4 100 (TX3 1).1 (TX3 1).2.1 (TX3 1).2.2.1 ∈ wsX4_outerOf := by decide +kernel
theorem iw_X4_fork_1 : ∀ w ∈ u_ws RX1 TX1 3, w ∈ wsX4_fork := by decide +kernel
theorem iw_X4_fork_4 : ∀ w ∈ u_ws RX4 TX4 9, w ∈ wsX4_fork := by decide +kernel
theorem fw_X4_fork_24 : Cond.fieldLink RX4 24 (TX4 2).1 (TX4 2).2.1 (TX4 2).2.2.1 ∈ wsX4_fork := by decide +kernel
theorem fw_X4_fork_31 : Cond.fieldLink RX4 31 (TX4 3).1 (TX4 3).2.1 (TX4 3).2.2.1 ∈ wsX4_fork := by decide +kernel
theorem fw_X4_fork_64 : Cond.fieldLink RX4 64 (TX1 0).1 (TX1 0).2.1 (TX1 0).2.2.1 ∈ wsX4_fork := by decide +kernel
theorem fw_X4_fork_68 : Cond.fieldLink RX4 68 (TX1 1).1 (TX1 1).2.1 (TX1 1).2.2.1 ∈ wsX4_fork := by decide +kernel
theorem fw_X4_fork_149 : Cond.fieldLink RX4 149 (TX1 2).1 (TX1 2).2.1 (TX1 2).2.2.1 ∈ wsX4_fork := by decide +kernel
theorem cw_X4_fork_22 : Cond.classLink RX4 22 RX1 ∈ wsX4_fork := by decide +kernel
theorem nw_X4_fork_1 : Cond.instantiable RX1 3 ∈ wsX4_fork := by decide +kernel
theorem tw_X4_fork_1 : Cond.initialized RX1 ∈ wsX4_fork := by decide +kernel
theorem iw_X4_drop_1 : ∀ w ∈ u_ws RX1 TX1 3, w ∈ wsX4_drop := by decide +kernel
theorem fw_X4_drop_149 : Cond.fieldLink RX4 149 (TX1 2).1 (TX1 2).2.1 (TX1 2).2.2.1 ∈ wsX4_drop := by decide +kernel
theorem iw_X4_enter_1 : ∀ w ∈ u_ws RX1 TX1 3, w ∈ wsX4_enter := by decide +kernel
theorem iw_X4_enter_3 : ∀ w ∈ u_ws RX3 TX3 4, w ∈ wsX4_enter := by decide +kernel
theorem fw_X4_enter_64 : Cond.fieldLink RX4 64 (TX1 0).1 (TX1 0).2.1 (TX1 0).2.2.1 ∈ wsX4_enter := by decide +kernel
theorem fw_X4_enter_100 : Cond.fieldLink RX4 100 (TX3 1).1 (TX3 1).2.1 (TX3 1).2.2.1 ∈ wsX4_enter := by decide +kernel
theorem fw_X4_enter_149 : Cond.fieldLink RX4 149 (TX1 2).1 (TX1 2).2.1 (TX1 2).2.2.1 ∈ wsX4_enter := by decide +kernel
theorem iw_X4_setNumber_1 : ∀ w ∈ u_ws RX1 TX1 3, w ∈ wsX4_setNumber := by decide +kernel
theorem fw_X4_setNumber_64 : Cond.fieldLink RX4 64 (TX1 0).1 (TX1 0).2.1 (TX1 0).2.2.1 ∈ wsX4_setNumber := by decide +kernel
theorem fw_X4_setNumber_68 : Cond.fieldLink RX4 68 (TX1 1).1 (TX1 1).2.1 (TX1 1).2.2.1 ∈ wsX4_setNumber := by decide +kernel
theorem fw_X4_setNumber_149 : Cond.fieldLink RX4 149 (TX1 2).1 (TX1 2).2.1 (TX1 2).2.2.1 ∈ wsX4_setNumber := by decide +kernel
theorem iw_X4_processes_4 : ∀ w ∈ u_ws RX4 TX4 9, w ∈ wsX4_processes := by decide +kernel
theorem fw_X4_processes_31 : Cond.fieldLink RX4 31 (TX4 3).1 (TX4 3).2.1 (TX4 3).2.2.1 ∈ wsX4_processes := by decide +kernel
theorem iw_X4_roomOf_1 : ∀ w ∈ u_ws RX1 TX1 3, w ∈ wsX4_roomOf := by decide +kernel
theorem fw_X4_roomOf_64 : Cond.fieldLink RX4 64 (TX1 0).1 (TX1 0).2.1 (TX1 0).2.2.1 ∈ wsX4_roomOf := by decide +kernel
theorem iw_X4_numberOf_1 : ∀ w ∈ u_ws RX1 TX1 3, w ∈ wsX4_numberOf := by decide +kernel
theorem fw_X4_numberOf_68 : Cond.fieldLink RX4 68 (TX1 1).1 (TX1 1).2.1 (TX1 1).2.2.1 ∈ wsX4_numberOf := by decide +kernel
theorem iw_X4_makeFile_0 : ∀ w ∈ u_ws RX0 TX0 2, w ∈ wsX4_makeFile := by decide +kernel
theorem iw_X4_makeFile_1 : ∀ w ∈ u_ws RX1 TX1 3, w ∈ wsX4_makeFile := by decide +kernel
theorem iw_X4_makeFile_4 : ∀ w ∈ u_ws RX4 TX4 9, w ∈ wsX4_makeFile := by decide +kernel
theorem fw_X4_makeFile_36 : Cond.fieldLink RX4 36 (TX4 4).1 (TX4 4).2.1 (TX4 4).2.2.1 ∈ wsX4_makeFile := by decide +kernel
theorem fw_X4_makeFile_40 : Cond.fieldLink RX4 40 (TX4 5).1 (TX4 5).2.1 (TX4 5).2.2.1 ∈ wsX4_makeFile := by decide +kernel
theorem fw_X4_makeFile_64 : Cond.fieldLink RX4 64 (TX1 0).1 (TX1 0).2.1 (TX1 0).2.2.1 ∈ wsX4_makeFile := by decide +kernel
theorem fw_X4_makeFile_68 : Cond.fieldLink RX4 68 (TX1 1).1 (TX1 1).2.1 (TX1 1).2.2.1 ∈ wsX4_makeFile := by decide +kernel
theorem cw_X4_makeFile_34 : Cond.classLink RX4 34 RX0 ∈ wsX4_makeFile := by decide +kernel
theorem nw_X4_makeFile_0 : Cond.instantiable RX0 2 ∈ wsX4_makeFile := by decide +kernel
theorem tw_X4_makeFile_0 : Cond.initialized RX0 ∈ wsX4_makeFile := by decide +kernel
theorem iw_X4_handOver_0 : ∀ w ∈ u_ws RX0 TX0 2, w ∈ wsX4_handOver := by decide +kernel
theorem iw_X4_handOver_1 : ∀ w ∈ u_ws RX1 TX1 3, w ∈ wsX4_handOver := by decide +kernel
theorem fw_X4_handOver_64 : Cond.fieldLink RX4 64 (TX1 0).1 (TX1 0).2.1 (TX1 0).2.2.1 ∈ wsX4_handOver := by decide +kernel
theorem fw_X4_handOver_172 : Cond.fieldLink RX4 172 (TX0 0).1 (TX0 0).2.1 (TX0 0).2.2.1 ∈ wsX4_handOver := by decide +kernel
theorem iw_X4_open_0 : ∀ w ∈ u_ws RX0 TX0 2, w ∈ wsX4_open := by decide +kernel
theorem iw_X4_open_1 : ∀ w ∈ u_ws RX1 TX1 3, w ∈ wsX4_open := by decide +kernel
theorem fw_X4_open_64 : Cond.fieldLink RX4 64 (TX1 0).1 (TX1 0).2.1 (TX1 0).2.2.1 ∈ wsX4_open := by decide +kernel
theorem fw_X4_open_68 : Cond.fieldLink RX4 68 (TX1 1).1 (TX1 1).2.1 (TX1 1).2.2.1 ∈ wsX4_open := by decide +kernel
theorem fw_X4_open_172 : Cond.fieldLink RX4 172 (TX0 0).1 (TX0 0).2.1 (TX0 0).2.2.1 ∈ wsX4_open := by decide +kernel
theorem iw_X4_ownerSeenBy_0 : ∀ w ∈ u_ws RX0 TX0 2, w ∈ wsX4_ownerSeenBy := by decide +kernel
theorem iw_X4_ownerSeenBy_1 : ∀ w ∈ u_ws RX1 TX1 3, w ∈ wsX4_ownerSeenBy := by decide +kernel
theorem fw_X4_ownerSeenBy_64 : Cond.fieldLink RX4 64 (TX1 0).1 (TX1 0).2.1 (TX1 0).2.2.1 ∈ wsX4_ownerSeenBy := by decide +kernel
theorem fw_X4_ownerSeenBy_172 : Cond.fieldLink RX4 172 (TX0 0).1 (TX0 0).2.1 (TX0 0).2.2.1 ∈ wsX4_ownerSeenBy := by decide +kernel
theorem iw_X4_files_4 : ∀ w ∈ u_ws RX4 TX4 9, w ∈ wsX4_files := by decide +kernel
theorem fw_X4_files_40 : Cond.fieldLink RX4 40 (TX4 5).1 (TX4 5).2.1 (TX4 5).2.2.1 ∈ wsX4_files := by decide +kernel
theorem iw_X4_refusals_4 : ∀ w ∈ u_ws RX4 TX4 9, w ∈ wsX4_refusals := by decide +kernel
theorem fw_X4_refusals_47 : Cond.fieldLink RX4 47 (TX4 7).1 (TX4 7).2.1 (TX4 7).2.2.1 ∈ wsX4_refusals := by decide +kernel
theorem iw_X4_lastRefusal_4 : ∀ w ∈ u_ws RX4 TX4 9, w ∈ wsX4_lastRefusal := by decide +kernel
theorem fw_X4_lastRefusal_50 : Cond.fieldLink RX4 50 (TX4 8).1 (TX4 8).2.1 (TX4 8).2.2.1 ∈ wsX4_lastRefusal := by decide +kernel
theorem iw_X4_roomAt_4 : ∀ w ∈ u_ws RX4 TX4 9, w ∈ wsX4_roomAt := by decide +kernel
theorem fw_X4_roomAt_14 : Cond.fieldLink RX4 14 (TX4 0).1 (TX4 0).2.1 (TX4 0).2.2.1 ∈ wsX4_roomAt := by decide +kernel
theorem iw_X4_processAt_4 : ∀ w ∈ u_ws RX4 TX4 9, w ∈ wsX4_processAt := by decide +kernel
theorem fw_X4_processAt_24 : Cond.fieldLink RX4 24 (TX4 2).1 (TX4 2).2.1 (TX4 2).2.2.1 ∈ wsX4_processAt := by decide +kernel
theorem iw_X4_fileAt_4 : ∀ w ∈ u_ws RX4 TX4 9, w ∈ wsX4_fileAt := by decide +kernel
theorem fw_X4_fileAt_36 : Cond.fieldLink RX4 36 (TX4 4).1 (TX4 4).2.1 (TX4 4).2.2.1 ∈ wsX4_fileAt := by decide +kernel
theorem iw_X4_refuse_4 : ∀ w ∈ u_ws RX4 TX4 9, w ∈ wsX4_refuse := by decide +kernel
theorem fw_X4_refuse_47 : Cond.fieldLink RX4 47 (TX4 7).1 (TX4 7).2.1 (TX4 7).2.2.1 ∈ wsX4_refuse := by decide +kernel
theorem fw_X4_refuse_50 : Cond.fieldLink RX4 50 (TX4 8).1 (TX4 8).2.1 (TX4 8).2.2.1 ∈ wsX4_refuse := by decide +kernel
theorem iw_X4_seenFrom_4 : ∀ w ∈ u_ws RX4 TX4 9, w ∈ wsX4_seenFrom := by decide +kernel
theorem fw_X4_seenFrom_14 : Cond.fieldLink RX4 14 (TX4 0).1 (TX4 0).2.1 (TX4 0).2.2.1 ∈ wsX4_seenFrom := by decide +kernel
theorem iw_X4_countOf_2 : ∀ w ∈ u_ws RX2 TX2 4, w ∈ wsX4_countOf := by decide +kernel
theorem fw_X4_countOf_188 : Cond.fieldLink RX4 188 (TX2 3).1 (TX2 3).2.1 (TX2 3).2.2.1 ∈ wsX4_countOf := by decide +kernel
theorem iw_X4_anyMeet_2 : ∀ w ∈ u_ws RX2 TX2 4, w ∈ wsX4_anyMeet := by decide +kernel
theorem fw_X4_anyMeet_188 : Cond.fieldLink RX4 188 (TX2 3).1 (TX2 3).2.1 (TX2 3).2.2.1 ∈ wsX4_anyMeet := by decide +kernel
theorem iw_X4_allLeadOut_2 : ∀ w ∈ u_ws RX2 TX2 4, w ∈ wsX4_allLeadOut := by decide +kernel
theorem fw_X4_allLeadOut_130 : Cond.fieldLink RX4 130 (TX2 1).1 (TX2 1).2.1 (TX2 1).2.2.1 ∈ wsX4_allLeadOut := by decide +kernel
theorem fw_X4_allLeadOut_188 : Cond.fieldLink RX4 188 (TX2 3).1 (TX2 3).2.1 (TX2 3).2.2.1 ∈ wsX4_allLeadOut := by decide +kernel
theorem fw_X4_allLeadOut_194 : Cond.fieldLink RX4 194 (TX2 2).1 (TX2 2).2.1 (TX2 2).2.2.1 ∈ wsX4_allLeadOut := by decide +kernel
theorem iw_X4_leadOut_3 : ∀ w ∈ u_ws RX3 TX3 4, w ∈ wsX4_leadOut := by decide +kernel
theorem fw_X4_leadOut_100 : Cond.fieldLink RX4 100 (TX3 1).1 (TX3 1).2.1 (TX3 1).2.2.1 ∈ wsX4_leadOut := by decide +kernel
theorem iw_X4_isOrIsInside_3 : ∀ w ∈ u_ws RX3 TX3 4, w ∈ wsX4_isOrIsInside := by decide +kernel
theorem fw_X4_isOrIsInside_100 : Cond.fieldLink RX4 100 (TX3 1).1 (TX3 1).2.1 (TX3 1).2.2.1 ∈ wsX4_isOrIsInside := by decide +kernel
theorem iw_X4_numberOrNone_3 : ∀ w ∈ u_ws RX3 TX3 4, w ∈ wsX4_numberOrNone := by decide +kernel
theorem fw_X4_numberOrNone_75 : Cond.fieldLink RX4 75 (TX3 0).1 (TX3 0).2.1 (TX3 0).2.2.1 ∈ wsX4_numberOrNone := by decide +kernel
theorem iw_X5_init_5 : ∀ w ∈ u_ws RX5 TX5 18, w ∈ wsX5_init := by decide +kernel
theorem fw_X5_init_7 : Cond.fieldLink RX5 7 (TX5 1).1 (TX5 1).2.1 (TX5 1).2.2.1 ∈ wsX5_init := by decide +kernel
theorem fw_X5_init_13 : Cond.fieldLink RX5 13 (TX5 2).1 (TX5 2).2.1 (TX5 2).2.2.1 ∈ wsX5_init := by decide +kernel
theorem fw_X5_init_17 : Cond.fieldLink RX5 17 (TX5 3).1 (TX5 3).2.1 (TX5 3).2.2.1 ∈ wsX5_init := by decide +kernel
theorem fw_X5_init_20 : Cond.fieldLink RX5 20 (TX5 4).1 (TX5 4).2.1 (TX5 4).2.2.1 ∈ wsX5_init := by decide +kernel
theorem fw_X5_init_23 : Cond.fieldLink RX5 23 (TX5 5).1 (TX5 5).2.1 (TX5 5).2.2.1 ∈ wsX5_init := by decide +kernel
theorem fw_X5_init_26 : Cond.fieldLink RX5 26 (TX5 6).1 (TX5 6).2.1 (TX5 6).2.2.1 ∈ wsX5_init := by decide +kernel
theorem fw_X5_init_29 : Cond.fieldLink RX5 29 (TX5 7).1 (TX5 7).2.1 (TX5 7).2.2.1 ∈ wsX5_init := by decide +kernel
theorem fw_X5_init_32 : Cond.fieldLink RX5 32 (TX5 9).1 (TX5 9).2.1 (TX5 9).2.2.1 ∈ wsX5_init := by decide +kernel
theorem fw_X5_init_35 : Cond.fieldLink RX5 35 (TX5 10).1 (TX5 10).2.1 (TX5 10).2.2.1 ∈ wsX5_init := by decide +kernel
theorem fw_X5_init_38 : Cond.fieldLink RX5 38 (TX5 11).1 (TX5 11).2.1 (TX5 11).2.2.1 ∈ wsX5_init := by decide +kernel
theorem fw_X5_init_41 : Cond.fieldLink RX5 41 (TX5 12).1 (TX5 12).2.1 (TX5 12).2.2.1 ∈ wsX5_init := by decide +kernel
theorem fw_X5_init_44 : Cond.fieldLink RX5 44 (TX5 14).1 (TX5 14).2.1 (TX5 14).2.2.1 ∈ wsX5_init := by decide +kernel
theorem fw_X5_init_47 : Cond.fieldLink RX5 47 (TX5 15).1 (TX5 15).2.1 (TX5 15).2.2.1 ∈ wsX5_init := by decide +kernel
theorem mw_X5_init_1 : Cond.methodLink RX5 1 objectInit ∈ wsX5_init := by decide +kernel
theorem ow_X5_init_1 : Cond.instanceMethod objectInit ∈ wsX5_init := by decide +kernel
theorem ow_X5_init_2 : Cond.code objectInit ⟨#[0xb1]⟩ 1 none ∈ wsX5_init := by decide +kernel
theorem iw_X5_thrown_5 : ∀ w ∈ u_ws RX5 TX5 18, w ∈ wsX5_thrown := by decide +kernel
theorem fw_X5_thrown_50 : Cond.fieldLink RX5 50 (TX5 0).1 (TX5 0).2.1 (TX5 0).2.2.1 ∈ wsX5_thrown := by decide +kernel
theorem iw_X5_refused_5 : ∀ w ∈ u_ws RX5 TX5 18, w ∈ wsX5_refused := by decide +kernel
theorem fw_X5_refused_50 : Cond.fieldLink RX5 50 (TX5 0).1 (TX5 0).2.1 (TX5 0).2.2.1 ∈ wsX5_refused := by decide +kernel
theorem iw_X5_fine_5 : ∀ w ∈ u_ws RX5 TX5 18, w ∈ wsX5_fine := by decide +kernel
theorem fw_X5_fine_50 : Cond.fieldLink RX5 50 (TX5 0).1 (TX5 0).2.1 (TX5 0).2.2.1 ∈ wsX5_fine := by decide +kernel
theorem iw_X5_told_5 : ∀ w ∈ u_ws RX5 TX5 18, w ∈ wsX5_told := by decide +kernel
theorem fw_X5_told_53 : Cond.fieldLink RX5 53 (TX5 16).1 (TX5 16).2.1 (TX5 16).2.2.1 ∈ wsX5_told := by decide +kernel
theorem fw_X5_told_56 : Cond.fieldLink RX5 56 (TX5 17).1 (TX5 17).2.1 (TX5 17).2.2.1 ∈ wsX5_told := by decide +kernel
theorem iw_X5_isRoom_5 : ∀ w ∈ u_ws RX5 TX5 18, w ∈ wsX5_isRoom := by decide +kernel
theorem fw_X5_isRoom_7 : Cond.fieldLink RX5 7 (TX5 1).1 (TX5 1).2.1 (TX5 1).2.2.1 ∈ wsX5_isRoom := by decide +kernel
theorem iw_X5_isProcess_5 : ∀ w ∈ u_ws RX5 TX5 18, w ∈ wsX5_isProcess := by decide +kernel
theorem fw_X5_isProcess_32 : Cond.fieldLink RX5 32 (TX5 9).1 (TX5 9).2.1 (TX5 9).2.2.1 ∈ wsX5_isProcess := by decide +kernel
theorem iw_X5_isFile_5 : ∀ w ∈ u_ws RX5 TX5 18, w ∈ wsX5_isFile := by decide +kernel
theorem fw_X5_isFile_63 : Cond.fieldLink RX5 63 (TX5 13).1 (TX5 13).2.1 (TX5 13).2.2.1 ∈ wsX5_isFile := by decide +kernel
theorem iw_X5_makeRoom_5 : ∀ w ∈ u_ws RX5 TX5 18, w ∈ wsX5_makeRoom := by decide +kernel
theorem fw_X5_makeRoom_7 : Cond.fieldLink RX5 7 (TX5 1).1 (TX5 1).2.1 (TX5 1).2.2.1 ∈ wsX5_makeRoom := by decide +kernel
theorem fw_X5_makeRoom_13 : Cond.fieldLink RX5 13 (TX5 2).1 (TX5 2).2.1 (TX5 2).2.2.1 ∈ wsX5_makeRoom := by decide +kernel
theorem fw_X5_makeRoom_17 : Cond.fieldLink RX5 17 (TX5 3).1 (TX5 3).2.1 (TX5 3).2.2.1 ∈ wsX5_makeRoom := by decide +kernel
theorem fw_X5_makeRoom_35 : Cond.fieldLink RX5 35 (TX5 10).1 (TX5 10).2.1 (TX5 10).2.2.1 ∈ wsX5_makeRoom := by decide +kernel
theorem fw_X5_makeRoom_38 : Cond.fieldLink RX5 38 (TX5 11).1 (TX5 11).2.1 (TX5 11).2.2.1 ∈ wsX5_makeRoom := by decide +kernel
theorem fw_X5_makeRoom_41 : Cond.fieldLink RX5 41 (TX5 12).1 (TX5 12).2.1 (TX5 12).2.2.1 ∈ wsX5_makeRoom := by decide +kernel
theorem iw_X5_line_5 : ∀ w ∈ u_ws RX5 TX5 18, w ∈ wsX5_line := by decide +kernel
theorem fw_X5_line_23 : Cond.fieldLink RX5 23 (TX5 5).1 (TX5 5).2.1 (TX5 5).2.2.1 ∈ wsX5_line := by decide +kernel
theorem fw_X5_line_26 : Cond.fieldLink RX5 26 (TX5 6).1 (TX5 6).2.1 (TX5 6).2.2.1 ∈ wsX5_line := by decide +kernel
theorem fw_X5_line_29 : Cond.fieldLink RX5 29 (TX5 7).1 (TX5 7).2.1 (TX5 7).2.2.1 ∈ wsX5_line := by decide +kernel
theorem fw_X5_line_76 : Cond.fieldLink RX5 76 (TX5 8).1 (TX5 8).2.1 (TX5 8).2.2.1 ∈ wsX5_line := by decide +kernel
theorem iw_X5_mapped_5 : ∀ w ∈ u_ws RX5 TX5 18, w ∈ wsX5_mapped := by decide +kernel
theorem fw_X5_mapped_20 : Cond.fieldLink RX5 20 (TX5 4).1 (TX5 4).2.1 (TX5 4).2.2.1 ∈ wsX5_mapped := by decide +kernel
theorem fw_X5_mapped_23 : Cond.fieldLink RX5 23 (TX5 5).1 (TX5 5).2.1 (TX5 5).2.2.1 ∈ wsX5_mapped := by decide +kernel
theorem fw_X5_mapped_26 : Cond.fieldLink RX5 26 (TX5 6).1 (TX5 6).2.1 (TX5 6).2.2.1 ∈ wsX5_mapped := by decide +kernel
theorem fw_X5_mapped_29 : Cond.fieldLink RX5 29 (TX5 7).1 (TX5 7).2.1 (TX5 7).2.2.1 ∈ wsX5_mapped := by decide +kernel
theorem iw_X5_led_5 : ∀ w ∈ u_ws RX5 TX5 18, w ∈ wsX5_led := by decide +kernel
theorem fw_X5_led_13 : Cond.fieldLink RX5 13 (TX5 2).1 (TX5 2).2.1 (TX5 2).2.2.1 ∈ wsX5_led := by decide +kernel
theorem iw_X5_isDraftBad_5 : ∀ w ∈ u_ws RX5 TX5 18, w ∈ wsX5_isDraftBad := by decide +kernel
theorem fw_X5_isDraftBad_23 : Cond.fieldLink RX5 23 (TX5 5).1 (TX5 5).2.1 (TX5 5).2.2.1 ∈ wsX5_isDraftBad := by decide +kernel
theorem fw_X5_isDraftBad_26 : Cond.fieldLink RX5 26 (TX5 6).1 (TX5 6).2.1 (TX5 6).2.2.1 ∈ wsX5_isDraftBad := by decide +kernel
theorem fw_X5_isDraftBad_29 : Cond.fieldLink RX5 29 (TX5 7).1 (TX5 7).2.1 (TX5 7).2.2.1 ∈ wsX5_isDraftBad := by decide +kernel
theorem fw_X5_isDraftBad_76 : Cond.fieldLink RX5 76 (TX5 8).1 (TX5 8).2.1 (TX5 8).2.2.1 ∈ wsX5_isDraftBad := by decide +kernel
theorem iw_X5_isDraftLost_5 : ∀ w ∈ u_ws RX5 TX5 18, w ∈ wsX5_isDraftLost := by decide +kernel
theorem fw_X5_isDraftLost_26 : Cond.fieldLink RX5 26 (TX5 6).1 (TX5 6).2.1 (TX5 6).2.2.1 ∈ wsX5_isDraftLost := by decide +kernel
theorem fw_X5_isDraftLost_29 : Cond.fieldLink RX5 29 (TX5 7).1 (TX5 7).2.1 (TX5 7).2.2.1 ∈ wsX5_isDraftLost := by decide +kernel
theorem fw_X5_isDraftLost_76 : Cond.fieldLink RX5 76 (TX5 8).1 (TX5 8).2.1 (TX5 8).2.2.1 ∈ wsX5_isDraftLost := by decide +kernel
theorem iw_X5_mayWrite_5 : ∀ w ∈ u_ws RX5 TX5 18, w ∈ wsX5_mayWrite := by decide +kernel
theorem fw_X5_mayWrite_13 : Cond.fieldLink RX5 13 (TX5 2).1 (TX5 2).2.1 (TX5 2).2.2.1 ∈ wsX5_mayWrite := by decide +kernel
theorem fw_X5_mayWrite_17 : Cond.fieldLink RX5 17 (TX5 3).1 (TX5 3).2.1 (TX5 3).2.2.1 ∈ wsX5_mayWrite := by decide +kernel
theorem fw_X5_mayWrite_26 : Cond.fieldLink RX5 26 (TX5 6).1 (TX5 6).2.1 (TX5 6).2.2.1 ∈ wsX5_mayWrite := by decide +kernel
theorem fw_X5_mayWrite_29 : Cond.fieldLink RX5 29 (TX5 7).1 (TX5 7).2.1 (TX5 7).2.2.1 ∈ wsX5_mayWrite := by decide +kernel
theorem fw_X5_mayWrite_38 : Cond.fieldLink RX5 38 (TX5 11).1 (TX5 11).2.1 (TX5 11).2.2.1 ∈ wsX5_mayWrite := by decide +kernel
theorem fw_X5_mayWrite_76 : Cond.fieldLink RX5 76 (TX5 8).1 (TX5 8).2.1 (TX5 8).2.2.1 ∈ wsX5_mayWrite := by decide +kernel
theorem iw_X5_writeMap_5 : ∀ w ∈ u_ws RX5 TX5 18, w ∈ wsX5_writeMap := by decide +kernel
theorem fw_X5_writeMap_13 : Cond.fieldLink RX5 13 (TX5 2).1 (TX5 2).2.1 (TX5 2).2.2.1 ∈ wsX5_writeMap := by decide +kernel
theorem fw_X5_writeMap_20 : Cond.fieldLink RX5 20 (TX5 4).1 (TX5 4).2.1 (TX5 4).2.2.1 ∈ wsX5_writeMap := by decide +kernel
theorem fw_X5_writeMap_23 : Cond.fieldLink RX5 23 (TX5 5).1 (TX5 5).2.1 (TX5 5).2.2.1 ∈ wsX5_writeMap := by decide +kernel
theorem fw_X5_writeMap_26 : Cond.fieldLink RX5 26 (TX5 6).1 (TX5 6).2.1 (TX5 6).2.2.1 ∈ wsX5_writeMap := by decide +kernel
theorem fw_X5_writeMap_29 : Cond.fieldLink RX5 29 (TX5 7).1 (TX5 7).2.1 (TX5 7).2.2.1 ∈ wsX5_writeMap := by decide +kernel
theorem fw_X5_writeMap_76 : Cond.fieldLink RX5 76 (TX5 8).1 (TX5 8).2.1 (TX5 8).2.2.1 ∈ wsX5_writeMap := by decide +kernel
theorem iw_X5_rooms_5 : ∀ w ∈ u_ws RX5 TX5 18, w ∈ wsX5_rooms := by decide +kernel
theorem fw_X5_rooms_7 : Cond.fieldLink RX5 7 (TX5 1).1 (TX5 1).2.1 (TX5 1).2.2.1 ∈ wsX5_rooms := by decide +kernel
theorem iw_X5_outerOf_5 : ∀ w ∈ u_ws RX5 TX5 18, w ∈ wsX5_outerOf := by decide +kernel
theorem fw_X5_outerOf_13 : Cond.fieldLink RX5 13 (TX5 2).1 (TX5 2).2.1 (TX5 2).2.2.1 ∈ wsX5_outerOf := by decide +kernel
theorem iw_X5_isInside_5 : ∀ w ∈ u_ws RX5 TX5 18, w ∈ wsX5_isInside := by decide +kernel
theorem fw_X5_isInside_13 : Cond.fieldLink RX5 13 (TX5 2).1 (TX5 2).2.1 (TX5 2).2.2.1 ∈ wsX5_isInside := by decide +kernel
theorem iw_X5_held_5 : ∀ w ∈ u_ws RX5 TX5 18, w ∈ wsX5_held := by decide +kernel
theorem fw_X5_held_7 : Cond.fieldLink RX5 7 (TX5 1).1 (TX5 1).2.1 (TX5 1).2.2.1 ∈ wsX5_held := by decide +kernel
theorem fw_X5_held_13 : Cond.fieldLink RX5 13 (TX5 2).1 (TX5 2).2.1 (TX5 2).2.2.1 ∈ wsX5_held := by decide +kernel
theorem fw_X5_held_17 : Cond.fieldLink RX5 17 (TX5 3).1 (TX5 3).2.1 (TX5 3).2.2.1 ∈ wsX5_held := by decide +kernel
theorem fw_X5_held_35 : Cond.fieldLink RX5 35 (TX5 10).1 (TX5 10).2.1 (TX5 10).2.2.1 ∈ wsX5_held := by decide +kernel
theorem fw_X5_held_38 : Cond.fieldLink RX5 38 (TX5 11).1 (TX5 11).2.1 (TX5 11).2.2.1 ∈ wsX5_held := by decide +kernel
theorem fw_X5_held_41 : Cond.fieldLink RX5 41 (TX5 12).1 (TX5 12).2.1 (TX5 12).2.2.1 ∈ wsX5_held := by decide +kernel
theorem iw_X5_fork_5 : ∀ w ∈ u_ws RX5 TX5 18, w ∈ wsX5_fork := by decide +kernel
theorem fw_X5_fork_32 : Cond.fieldLink RX5 32 (TX5 9).1 (TX5 9).2.1 (TX5 9).2.2.1 ∈ wsX5_fork := by decide +kernel
theorem fw_X5_fork_35 : Cond.fieldLink RX5 35 (TX5 10).1 (TX5 10).2.1 (TX5 10).2.2.1 ∈ wsX5_fork := by decide +kernel
theorem fw_X5_fork_38 : Cond.fieldLink RX5 38 (TX5 11).1 (TX5 11).2.1 (TX5 11).2.2.1 ∈ wsX5_fork := by decide +kernel
theorem fw_X5_fork_41 : Cond.fieldLink RX5 41 (TX5 12).1 (TX5 12).2.1 (TX5 12).2.2.1 ∈ wsX5_fork := by decide +kernel
theorem iw_X5_drop_5 : ∀ w ∈ u_ws RX5 TX5 18, w ∈ wsX5_drop := by decide +kernel
theorem fw_X5_drop_41 : Cond.fieldLink RX5 41 (TX5 12).1 (TX5 12).2.1 (TX5 12).2.2.1 ∈ wsX5_drop := by decide +kernel
theorem iw_X5_enter_5 : ∀ w ∈ u_ws RX5 TX5 18, w ∈ wsX5_enter := by decide +kernel
theorem fw_X5_enter_35 : Cond.fieldLink RX5 35 (TX5 10).1 (TX5 10).2.1 (TX5 10).2.2.1 ∈ wsX5_enter := by decide +kernel
theorem fw_X5_enter_41 : Cond.fieldLink RX5 41 (TX5 12).1 (TX5 12).2.1 (TX5 12).2.2.1 ∈ wsX5_enter := by decide +kernel
theorem iw_X5_setNumber_5 : ∀ w ∈ u_ws RX5 TX5 18, w ∈ wsX5_setNumber := by decide +kernel
theorem fw_X5_setNumber_35 : Cond.fieldLink RX5 35 (TX5 10).1 (TX5 10).2.1 (TX5 10).2.2.1 ∈ wsX5_setNumber := by decide +kernel
theorem fw_X5_setNumber_38 : Cond.fieldLink RX5 38 (TX5 11).1 (TX5 11).2.1 (TX5 11).2.2.1 ∈ wsX5_setNumber := by decide +kernel
theorem fw_X5_setNumber_41 : Cond.fieldLink RX5 41 (TX5 12).1 (TX5 12).2.1 (TX5 12).2.2.1 ∈ wsX5_setNumber := by decide +kernel
theorem iw_X5_processes_5 : ∀ w ∈ u_ws RX5 TX5 18, w ∈ wsX5_processes := by decide +kernel
theorem fw_X5_processes_32 : Cond.fieldLink RX5 32 (TX5 9).1 (TX5 9).2.1 (TX5 9).2.2.1 ∈ wsX5_processes := by decide +kernel
theorem iw_X5_roomOf_5 : ∀ w ∈ u_ws RX5 TX5 18, w ∈ wsX5_roomOf := by decide +kernel
theorem fw_X5_roomOf_35 : Cond.fieldLink RX5 35 (TX5 10).1 (TX5 10).2.1 (TX5 10).2.2.1 ∈ wsX5_roomOf := by decide +kernel
theorem iw_X5_numberOf_5 : ∀ w ∈ u_ws RX5 TX5 18, w ∈ wsX5_numberOf := by decide +kernel
theorem fw_X5_numberOf_38 : Cond.fieldLink RX5 38 (TX5 11).1 (TX5 11).2.1 (TX5 11).2.2.1 ∈ wsX5_numberOf := by decide +kernel
theorem iw_X5_makeFile_5 : ∀ w ∈ u_ws RX5 TX5 18, w ∈ wsX5_makeFile := by decide +kernel
theorem fw_X5_makeFile_35 : Cond.fieldLink RX5 35 (TX5 10).1 (TX5 10).2.1 (TX5 10).2.2.1 ∈ wsX5_makeFile := by decide +kernel
theorem fw_X5_makeFile_38 : Cond.fieldLink RX5 38 (TX5 11).1 (TX5 11).2.1 (TX5 11).2.2.1 ∈ wsX5_makeFile := by decide +kernel
theorem fw_X5_makeFile_44 : Cond.fieldLink RX5 44 (TX5 14).1 (TX5 14).2.1 (TX5 14).2.2.1 ∈ wsX5_makeFile := by decide +kernel
theorem fw_X5_makeFile_47 : Cond.fieldLink RX5 47 (TX5 15).1 (TX5 15).2.1 (TX5 15).2.2.1 ∈ wsX5_makeFile := by decide +kernel
theorem fw_X5_makeFile_63 : Cond.fieldLink RX5 63 (TX5 13).1 (TX5 13).2.1 (TX5 13).2.2.1 ∈ wsX5_makeFile := by decide +kernel
theorem iw_X5_handOver_5 : ∀ w ∈ u_ws RX5 TX5 18, w ∈ wsX5_handOver := by decide +kernel
theorem fw_X5_handOver_35 : Cond.fieldLink RX5 35 (TX5 10).1 (TX5 10).2.1 (TX5 10).2.2.1 ∈ wsX5_handOver := by decide +kernel
theorem fw_X5_handOver_41 : Cond.fieldLink RX5 41 (TX5 12).1 (TX5 12).2.1 (TX5 12).2.2.1 ∈ wsX5_handOver := by decide +kernel
theorem fw_X5_handOver_44 : Cond.fieldLink RX5 44 (TX5 14).1 (TX5 14).2.1 (TX5 14).2.2.1 ∈ wsX5_handOver := by decide +kernel
theorem iw_X5_open_5 : ∀ w ∈ u_ws RX5 TX5 18, w ∈ wsX5_open := by decide +kernel
theorem fw_X5_open_35 : Cond.fieldLink RX5 35 (TX5 10).1 (TX5 10).2.1 (TX5 10).2.2.1 ∈ wsX5_open := by decide +kernel
theorem fw_X5_open_38 : Cond.fieldLink RX5 38 (TX5 11).1 (TX5 11).2.1 (TX5 11).2.2.1 ∈ wsX5_open := by decide +kernel
theorem fw_X5_open_41 : Cond.fieldLink RX5 41 (TX5 12).1 (TX5 12).2.1 (TX5 12).2.2.1 ∈ wsX5_open := by decide +kernel
theorem fw_X5_open_44 : Cond.fieldLink RX5 44 (TX5 14).1 (TX5 14).2.1 (TX5 14).2.2.1 ∈ wsX5_open := by decide +kernel
theorem fw_X5_open_47 : Cond.fieldLink RX5 47 (TX5 15).1 (TX5 15).2.1 (TX5 15).2.2.1 ∈ wsX5_open := by decide +kernel
theorem iw_X5_ownerSeenBy_5 : ∀ w ∈ u_ws RX5 TX5 18, w ∈ wsX5_ownerSeenBy := by decide +kernel
theorem fw_X5_ownerSeenBy_35 : Cond.fieldLink RX5 35 (TX5 10).1 (TX5 10).2.1 (TX5 10).2.2.1 ∈ wsX5_ownerSeenBy := by decide +kernel
theorem fw_X5_ownerSeenBy_44 : Cond.fieldLink RX5 44 (TX5 14).1 (TX5 14).2.1 (TX5 14).2.2.1 ∈ wsX5_ownerSeenBy := by decide +kernel
theorem iw_X5_files_5 : ∀ w ∈ u_ws RX5 TX5 18, w ∈ wsX5_files := by decide +kernel
theorem fw_X5_files_63 : Cond.fieldLink RX5 63 (TX5 13).1 (TX5 13).2.1 (TX5 13).2.2.1 ∈ wsX5_files := by decide +kernel
theorem iw_X5_refusals_5 : ∀ w ∈ u_ws RX5 TX5 18, w ∈ wsX5_refusals := by decide +kernel
theorem fw_X5_refusals_53 : Cond.fieldLink RX5 53 (TX5 16).1 (TX5 16).2.1 (TX5 16).2.2.1 ∈ wsX5_refusals := by decide +kernel
theorem iw_X5_lastRefusal_5 : ∀ w ∈ u_ws RX5 TX5 18, w ∈ wsX5_lastRefusal := by decide +kernel
theorem fw_X5_lastRefusal_56 : Cond.fieldLink RX5 56 (TX5 17).1 (TX5 17).2.1 (TX5 17).2.2.1 ∈ wsX5_lastRefusal := by decide +kernel
end
section
/-! THE CLASS'S CELLS, as they hold the value -/
theorem rn_nb (b : Bool) : narrow .boolean (.int (rn_b b)) = .int (rn_b b) := by cases b <;> rfl
theorem rn_nrf (n : String) (r : Option Nat) : narrow (.object n) (va_rf r) = va_rf r := by cases r <;> rfl
theorem rn_fitrf (n : String) (r : Option Nat) : fits (.object n) (va_rf r) = true := by cases r <;> rfl
theorem rn_b0 {b : Bool} : rn_b b = 0 ↔ b = false := by cases b <;> simp [rn_b]
theorem rn_b1 {b : Bool} : ¬ rn_b b = 0 ↔ b = true := by cases b <;> simp [rn_b]
theorem rn_enc_m1 {x : Option Nat} (h : ∀ k, x = some k → k ≤ 998) : rn_enc x = -1 ↔ x = none := by
  cases x with
  | none => simp [rn_enc]
  | some k =>
    have := h k rfl
    constructor
    · intro e
      exfalso
      have e1 : (nI k).toInt = (-1 : Int32).toInt := by rw [show nI k = -1 from e]
      rw [nI_toInt (by omega)] at e1
      have : (-1 : Int32).toInt = -1 := by decide
      omega
    · intro e; cases e
theorem rn_nI_m1 {k : Nat} (h : k ≤ 999) : ¬ nI k = -1 := by
  intro e
  have e1 : (nI k).toInt = (-1 : Int32).toInt := by rw [e]
  rw [nI_toInt (by omega)] at e1
  have : (-1 : Int32).toInt = -1 := by decide
  omega
/-- a chain of lines, the latest first -/
def rn_ch (f : rn_T) : List rn_Ln → Option Nat → Prop
  | [], z => z = none
  | q :: r, z => ∃ (a : Nat) (z' : Option Nat), z = some a ∧ f a = some (.inr (2, [.int (nI q.1), .int (nI q.2.1), .int (nI q.2.2), va_rf z'])) ∧ rn_ch f r z'
def rn_ot (σ : rn_St) (ra : Nat → Nat) (i : Nat) : Option Nat := if i = 0 then none else some (ra (σ.so i))
theorem rn_ot_0 (σ : rn_St) (ra : Nat → Nat) : rn_ot σ ra 0 = none := rfl
theorem rn_ot_s (σ : rn_St) (ra : Nat → Nat) {i : Nat} (h : i ≠ 0) : rn_ot σ ra i = some (ra (σ.so i)) := by simp [rn_ot, h]
/-- the rooms -/
def rn_Rm (f : rn_T) (σ : rn_St) (ra : Nat → Nat) (hd : Nat → Option Nat) : Prop :=
  (∀ i, i < σ.sn → f (ra i) = some (.inr (3, [.int (nI i), va_rf (rn_ot σ ra i), .int (σ.sw i), va_rf (hd i)]))) ∧ ∀ i, i < σ.sn → rn_ch f (σ.sm i) (hd i)
/-- the processes -/
def rn_Pr (f : rn_T) (σ : rn_St) (ra pa : Nat → Nat) : Prop :=
  ∀ j, j < σ.pn → f (pa j) = some (.inr (1, [.ref (ra (σ.pl j)), .int (nI (σ.pu j)), .int (σ.pr j)]))
/-- the files -/
def rn_Fi (f : rn_T) (σ : rn_St) (fa : Nat → Nat) : Prop :=
  ∀ j, j < σ.fn → f (fa j) = some (.inr (0, [.int (nI (σ.fo j)), .int (σ.fm j)]))
def rn_row (n : Nat) (ra : Nat → Nat) : Nat → Option Nat := fun i => if i < n then some (ra i) else none
/-- the house itself: its object and its three rows -/
def rn_Ho (cR cP cF : ClassId) (h0 aR aP aF : Nat) (ra pa fa : Nat → Nat) (dh : Option Nat) (f : rn_T) (σ : rn_St) : Prop :=
  f h0 = some (.inr (4, [.ref aR, .int (nI σ.sn), .ref aP, .int (nI σ.pn), .ref aF, .int (nI σ.fn), va_rf dh, .int σ.rc, .int σ.la])) ∧
  f aR = some (.inl (cR, 10, .inr (.inr (.inr (.inr (rn_row σ.sn ra)))))) ∧
  f aP = some (.inl (cP, 12, .inr (.inr (.inr (.inr (rn_row σ.pn pa)))))) ∧
  f aF = some (.inl (cF, 20, .inr (.inr (.inr (.inr (rn_row σ.fn fa))))))
/-- all that the class holds -/
def rn_CI (cR cP cF : ClassId) (h0 aR aP aF : Nat) (ra pa fa : Nat → Nat) (hd : Nat → Option Nat) (dh : Option Nat) (f : rn_T) (σ : rn_St) : Prop :=
  rn_Ho cR cP cF h0 aR aP aF ra pa fa dh f σ ∧ rn_Rm f σ ra hd ∧ rn_Pr f σ ra pa ∧ rn_Fi f σ fa ∧ rn_ch f σ.sd dh ∧ (∀ i j, i < σ.pn → j < σ.pn → pa i = pa j → i = j) ∧ (∀ i j, i < σ.fn → j < σ.fn → fa i = fa j → i = j)
def rn_C (cR cP cF : ClassId) (h0 : Nat) (f : rn_T) (σ : rn_St) : Prop := rn_V σ ∧ ∃ (aR aP aF : Nat) (ra pa fa : Nat → Nat) (hd : Nat → Option Nat) (dh : Option Nat), rn_CI cR cP cF h0 aR aP aF ra pa fa hd dh f σ
abbrev rn_tys (cR cP cF : ClassId) : List (ClassId × FieldType) := [(cR, .object RX3), (cP, .object RX1), (cF, .object RX0)]
theorem rn_ra_inj {f : rn_T} {σ : rn_St} {ra : Nat → Nat} {hd : Nat → Option Nat} (hV : rn_V σ) (h : rn_Rm f σ ra hd) {i j : Nat} (hi : i < σ.sn) (hj : j < σ.sn) (e : ra i = ra j) : i = j := by
  have h1 := h.1 i hi
  have h2 := h.1 j hj
  rw [e] at h1
  have h3 := Option.some.inj (h1.symm.trans h2)
  have h4 : nI i = nI j := by
    have := Sum.inr.inj h3
    have := congrArg Prod.snd this
    have := congrArg (fun l : List Value => l.head?) this
    simpa using this
  have := hV.1.2
  exact (nI_eq (by omega) (by omega)).mp h4
/-- the value in toOuter, fromOuter -/
def rn_tO (σ : rn_St) (r x : Nat) : Option Nat := if r = 0 then some x else rn_to (σ.sm r) x
def rn_fO (σ : rn_St) (r y : Nat) : Nat := if r = 0 then y else (rn_from (σ.sm r) y).getD 999
theorem rn_tO_in {σ : rn_St} (hV : rn_V σ) {r x z : Nat} (hn : r < σ.sn) (hx : x ≤ 998) (ht : rn_tO σ r x = some z) : z ≤ 998 := by
  unfold rn_tO at ht
  by_cases h : r = 0
  · rw [if_pos h] at ht; have := Option.some.inj ht; omega
  · rw [if_neg h] at ht; exact (rn_to_in hV hn ht).1
/-! steps of the loops outwards -/
def rn_nx (σ : rn_St) (i : Nat) : Option Nat := if i = 0 then none else some (σ.so i)
theorem rn_ot_nx (σ : rn_St) (ra : Nat → Nat) (i : Nat) : rn_ot σ ra i = (rn_nx σ i).map ra := by unfold rn_ot rn_nx; split <;> rfl
theorem rn_nx_lt {σ : rn_St} (hV : rn_V σ) {i k : Nat} (hi : i < σ.sn) (hk : i < k + 1) : ∀ j, rn_nx σ i = some j → j < σ.sn ∧ j < k := by
  intro j hj
  unfold rn_nx at hj
  by_cases h : i = 0
  · rw [if_pos h] at hj; cases hj
  · rw [if_neg h] at hj
    have e := Option.some.inj hj
    have := hV.2.1 i (by omega) hi
    omega
def rn_go (σ : rn_St) : Option Nat → Option Nat → Option Nat
  | none, led => led
  | some _, none => none
  | some i, some x => rn_lead σ i x
theorem rn_go_s {σ : rn_St} (hV : rn_V σ) {i : Nat} (hi : i < σ.sn) (x : Nat) : rn_go σ (rn_nx σ i) (rn_tO σ i x) = rn_lead σ i x := by
  unfold rn_nx rn_tO
  by_cases h : i = 0
  · subst h; rfl
  · rw [if_neg h, if_neg h, rn_lead_s hV x h hi]
    cases rn_to (σ.sm i) x <;> rfl
def rn_insO (σ : rn_St) (b : Nat) : Option Nat → Bool
  | none => false
  | some r => decide (b ∈ rn_up σ r)
theorem rn_insO_s {σ : rn_St} (hV : rn_V σ) {i b : Nat} (hi : i < σ.sn) (h : i ≠ b) : rn_insO σ b (rn_nx σ i) = rn_insO σ b (some i) := by
  unfold rn_nx
  by_cases h0 : i = 0
  · subst h0; simp [rn_insO, rn_up_0, Ne.symm h]
  · rw [if_neg h0]
    simp only [rn_insO]
    rw [rn_up_s hV h0 hi]
    simp [Ne.symm h]
theorem rn_insO_self {σ : rn_St} (hV : rn_V σ) {i : Nat} (hi : i < σ.sn) : rn_insO σ i (some i) = true := by
  simp [rn_insO, rn_up_self hV hi]
def rn_ownO (σ : rn_St) (p : Nat) : Option Nat → Bool
  | none => false
  | some r => rn_owns σ p r
theorem rn_ownO_s {σ : rn_St} (hV : rn_V σ) {i p : Nat} (hi : i < σ.sn) : rn_ownO σ p (some i) = (decide (i ≠ 0 ∧ σ.so i = σ.pl p ∧ σ.sw i = nI (σ.pu p)) || rn_ownO σ p (rn_nx σ i)) := by
  unfold rn_nx
  by_cases h0 : i = 0
  · subst h0; simp [rn_ownO, rn_owns, rn_up_0]
  · rw [if_neg h0]
    simp only [rn_ownO, rn_owns]
    rw [rn_up_s hV h0 hi]
    simp [h0]
/-! what is seen, room by room inwards: the loop of seenFrom -/
def rn_sf (σ : rn_St) (r y i s : Nat) : Prop := (i = 0 ∧ s = y) ∨ ∃ t, t ∈ rn_up σ r ∧ t < i ∧ (∀ u ∈ rn_up σ r, u < i → u ≤ t) ∧ s = rn_see σ t y
theorem rn_sf_no {σ : rn_St} (hV : rn_V σ) {r y i s : Nat} (hr : r < σ.sn) (h : rn_sf σ r y i s) (hi : i ∉ rn_up σ r) : rn_sf σ r y (i + 1) s := by
  rcases h with ⟨h1, h2⟩ | ⟨t, h1, h2, h3, h4⟩
  · subst h1
    exact absurd (rn_up_zero hV r r (Nat.le_refl _) hr) hi
  · refine Or.inr ⟨t, h1, by omega, fun u hu hlt => ?_, h4⟩
    rcases Nat.lt_or_ge u i with h | h
    · exact h3 u hu h
    · have : u = i := by omega
      subst this
      exact absurd hu hi
theorem rn_sf_yes {σ : rn_St} (hV : rn_V σ) {r y i s : Nat} (hr : r < σ.sn) (hy : y ≤ 998) (h : rn_sf σ r y i s) (hi : i ∈ rn_up σ r) : rn_sf σ r y (i + 1) (rn_fO σ i s) := by
  have hin : i < σ.sn := by have := rn_up_le hV r r (Nat.le_refl _) hr i hi; omega
  refine Or.inr ⟨i, hi, by omega, fun u hu hlt => by omega, ?_⟩
  rcases h with ⟨h1, h2⟩ | ⟨t, h1, h2, h3, h4⟩
  · subst h1; subst h2
    rw [rn_see_0 σ hV hy]; rfl
  · have h0 : i ≠ 0 := by omega
    obtain ⟨m1, m2⟩ := rn_up_mid hV r r (Nat.le_refl _) hr i hi h0
    have m3 := hV.2.1 i (by omega) hin
    have e1 := h3 _ m1 m3
    have e2 := m2 t h1 h2
    have e3 : t = σ.so i := by omega
    subst e3
    rw [h4, rn_see_s hV h0 hin]
    simp [rn_fO, h0]
theorem rn_sf_end {σ : rn_St} (hV : rn_V σ) {r y s : Nat} (hr : r < σ.sn) {i : Nat} (hi : σ.sn ≤ i) (h : rn_sf σ r y i s) : s = rn_see σ r y := by
  rcases h with ⟨h1, _⟩ | ⟨t, h1, h2, h3, h4⟩
  · have := hV.1.1; omega
  · have e1 := h3 r (rn_up_self hV hr) (by omega)
    have e2 := rn_up_le hV r r (Nat.le_refl _) hr t h1
    have : t = r := by omega
    rw [h4, this]
theorem rn_sf_le {σ : rn_St} {r y i s : Nat} (hy : y ≤ 998) (h : rn_sf σ r y i s) : s ≤ 999 := by
  rcases h with ⟨_, h⟩ | ⟨t, _, _, _, h⟩
  · omega
  · rw [h]; exact rn_see_le σ t y
theorem rn_row_in {n i : Nat} {ra : Nat → Nat} (h : i < n) : rn_row n ra i = some (ra i) := by simp [rn_row, h]
theorem rn_row_out {n i : Nat} {ra : Nat → Nat} (h : n ≤ i) : rn_row n ra i = none := by simp [rn_row]; omega
/-- a number in the range that a call may name -/
theorem rn_num (x : Int32) (n : Nat) (hn : n < 2 ^ 31) : (∃ k, k ≤ n ∧ x = nI k) ∨ x < 0 ∨ nI n < x := by
  by_cases h0 : x < 0
  · exact Or.inr (Or.inl h0)
  · obtain ⟨j, hj, rfl⟩ := nI_of h0
    by_cases h1 : j ≤ n
    · exact Or.inl ⟨j, h1, rfl⟩
    · exact Or.inr (Or.inr ((nI_ltI hn hj).mpr (by omega)))
end
section
set_option maxHeartbeats 4000000 in
set_option maxRecDepth 100000 in
/-- X3_toOuter: what the map says, of a number of the room -/
theorem c_toOuter (l : Launch) {D : va_G} {tys : List (ClassId × FieldType)} {f : rn_T} {σ : rn_St} {ra : Nat → Nat} {hd : Nat → Option Nat} (hV : rn_V σ) (hR : rn_Rm f σ ra hd) {r x : Nat} (hr0 : r < σ.sn) (hx0 : x ≤ 998) : rn_R l yX3_toOuter wsX3_toOuter ({ frames := 0, cells := 0, slots := 0, locals := 0 } : Room) D tys (rn_S D f) [.ref (ra r), .int (nI x)] (some (.int (rn_enc (rn_tO σ r x)))) := by
  refine rn_R.ofW (cc := cX3_toOuter) (maxL := 3) (ret := (some .int)) (by decide) rfl (Nat.le_of_ble_eq_true rfl) (fun p e s m below meth c ls hx hb hr hml hts hown hlocks hF hG hl => ?_)
  have hl : lv_has ls 3 [(0, .ref (ra r)), (1, .int (nI x))] := hl
  refine lv_aload_n hx hb dX3_toOuter_0 rfl (lv_at hl 0 rfl) ?_
  refine rn_get (ci := 3) (v := va_rf (rn_ot σ ra r)) (C := RX3) (T := TX3) (N := 4) hx hb hts iw_X3_toOuter_3 hown hG (hF _ _ (hR.1 r hr0)) rfl 1 (by decide) fw_X3_toOuter_15 rfl dX3_toOuter_1 ?_
  refine rn_ifnonnull (tgt := 9) hx hb dX3_toOuter_4 (by decide) (fun z_4 c_4 => ?_) (fun c_4 => ?_)
  · have h0 : r ≠ 0 := fun h => by rw [h, rn_ot_0] at c_4; cases c_4
    refine lv_aload_n hx hb dX3_toOuter_9 rfl (lv_at hl 0 rfl) ?_
    refine rn_get (ci := 3) (v := va_rf (hd r)) (C := RX3) (T := TX3) (N := 4) hx hb hts iw_X3_toOuter_3 hown hG (hF _ _ (hR.1 r hr0)) rfl 3 (by decide) fw_X3_toOuter_22 rfl dX3_toOuter_10 ?_
    refine rn_astore_n (lv' := [(2, va_rf (hd r)), (0, .ref (ra r)), (1, .int (nI x))]) hx hb dX3_toOuter_13 rfl hl (by decide) rfl (fun ls hl => ?_)
    have hok : ∀ q ∈ σ.sm r, rn_okL q := (hV.2.2.1 r hr0).1
    have loop : ∀ (qs : List rn_Ln) (z : Option Nat), rn_ch f qs z → (∀ q ∈ qs, rn_okL q) → rn_to qs x = rn_to (σ.sm r) x → ∀ (ls : Array Slot), lv_has ls 3 [(2, va_rf z), (0, .ref (ra r)), (1, .int (nI x))] → W p l e ({ frames := 0, cells := 0, slots := 0, locals := 0 } : Room) s m ([.ref (ra r), .int (nI x)] : List Value).toArray below meth c s.heap [] 0 0 (MQ below (fun _ st o t => o = .returned (some (.int (rn_enc (rn_tO σ r x)))) ∧ t.heap = st.heap) ([.ref (ra r), .int (nI x)] : List Value).toArray s 0 0 (fun _ => False)) (F0 m 14 ls []) := by
      intro qs
      induction qs with
      | nil =>
        intro z hch hok hv ls hl
        have hz : z = none := hch
        subst hz
        have hl : lv_has ls 3 [(2, .null), (0, .ref (ra r)), (1, .int (nI x))] := hl
        refine lv_aload_nN hx hb dX3_toOuter_14 rfl (lv_at hl 0 rfl) ?_
        refine lv_ifnullN (tgt := 59) hx hb dX3_toOuter_15 (by decide) ?_
        refine lv_iconst (v := (-1)) hx hb dX3_toOuter_59 (by decide) ?_
        exact rn_iret hx hb hr rfl hlocks (by rw [rn_tO, if_neg h0, ← hv]; rfl) dX3_toOuter_60
      | cons q qs ih =>
        intro z hch hok hv ls hl
        obtain ⟨a, z2, rfl, ha, hch⟩ := hch
        have hok1 := hok q List.mem_cons_self
        have hok2 : ∀ q ∈ qs, rn_okL q := fun z hz => hok z (List.mem_cons_of_mem _ hz)
        obtain ⟨k1, k2, k3⟩ := hok1
        have hl : lv_has ls 3 [(2, .ref a), (0, .ref (ra r)), (1, .int (nI x))] := hl
        refine lv_aload_n hx hb dX3_toOuter_14 rfl (lv_at hl 0 rfl) ?_
        refine lv_ifnull hx hb dX3_toOuter_15 ?_
        refine lv_iload_n hx hb dX3_toOuter_18 rfl (lv_at hl 2 rfl) ?_
        refine lv_aload_n hx hb dX3_toOuter_19 rfl (lv_at hl 0 rfl) ?_
        refine rn_get (ci := 2) (v := .int (nI q.1)) (C := RX2) (T := TX2) (N := 4) hx hb hts iw_X3_toOuter_2 hown hG (hF _ _ ha) rfl 0 (by decide) fw_X3_toOuter_26 rfl dX3_toOuter_20 ?_
        refine lv_icmp_lt (tgt := 51) hx hb dX3_toOuter_23 (by decide) (fun c_23 => ?_) (fun c_23 => ?_)
        · have hq : ¬ (q.1 ≤ x ∧ x < q.1 + q.2.2) := fun h => by have := (nI_ltI (by omega) (by omega)).mp c_23; omega
          refine lv_aload_n hx hb dX3_toOuter_51 rfl (lv_at hl 0 rfl) ?_
          refine rn_get (ci := 2) (v := va_rf z2) (C := RX2) (T := TX2) (N := 4) hx hb hts iw_X3_toOuter_2 hown hG (hF _ _ ha) rfl 3 (by decide) fw_X3_toOuter_36 rfl dX3_toOuter_52 ?_
          refine rn_astore_n (lv' := [(2, va_rf z2), (0, .ref (ra r)), (1, .int (nI x))]) hx hb dX3_toOuter_55 rfl hl (by decide) rfl (fun ls hl => ?_)
          refine lv_goto (tgt := 14) hx hb dX3_toOuter_56 (by decide) ?_
          exact ih _ hch hok2 (by rw [← hv]; simp only [rn_to, if_neg hq]) ls (lv_sub hl [0, 1, 2] rfl)
        · have g1 : q.1 ≤ x := by rcases Nat.lt_or_ge x q.1 with h | h; exact absurd ((nI_ltI (by omega) (by omega)).mpr h) c_23; exact h
          refine lv_iload_n hx hb dX3_toOuter_26 rfl (lv_at hl 2 rfl) ?_
          refine lv_aload_n hx hb dX3_toOuter_27 rfl (lv_at hl 0 rfl) ?_
          refine rn_get (ci := 2) (v := .int (nI q.1)) (C := RX2) (T := TX2) (N := 4) hx hb hts iw_X3_toOuter_2 hown hG (hF _ _ ha) rfl 0 (by decide) fw_X3_toOuter_26 rfl dX3_toOuter_28 ?_
          refine lv_aload_n hx hb dX3_toOuter_31 rfl (lv_at hl 0 rfl) ?_
          refine rn_get (ci := 2) (v := .int (nI q.2.2)) (C := RX2) (T := TX2) (N := 4) hx hb hts iw_X3_toOuter_2 hown hG (hF _ _ ha) rfl 2 (by decide) fw_X3_toOuter_31 rfl dX3_toOuter_32 ?_
          refine lv_iadd hx hb dX3_toOuter_35 ?_
          refine rn_top (y := .int (nI (q.1 + q.2.2))) (congrArg Value.int (nI_add _ _)) ?_
          refine lv_icmp_ge (tgt := 51) hx hb dX3_toOuter_36 (by decide) (fun c_36 => ?_) (fun c_36 => ?_)
          · have hq : ¬ (q.1 ≤ x ∧ x < q.1 + q.2.2) := fun h => by have := (nI_leI (by omega) (by omega)).mp c_36; omega
            refine lv_aload_n hx hb dX3_toOuter_51 rfl (lv_at hl 0 rfl) ?_
            refine rn_get (ci := 2) (v := va_rf z2) (C := RX2) (T := TX2) (N := 4) hx hb hts iw_X3_toOuter_2 hown hG (hF _ _ ha) rfl 3 (by decide) fw_X3_toOuter_36 rfl dX3_toOuter_52 ?_
            refine rn_astore_n (lv' := [(2, va_rf z2), (0, .ref (ra r)), (1, .int (nI x))]) hx hb dX3_toOuter_55 rfl hl (by decide) rfl (fun ls hl => ?_)
            refine lv_goto (tgt := 14) hx hb dX3_toOuter_56 (by decide) ?_
            exact ih _ hch hok2 (by rw [← hv]; simp only [rn_to, if_neg hq]) ls (lv_sub hl [0, 1, 2] rfl)
          · have g2 : x < q.1 + q.2.2 := by rcases Nat.lt_or_ge x (q.1 + q.2.2) with h | h; exact h; exact absurd ((nI_leI (by omega) (by omega)).mpr h) c_36
            refine lv_aload_n hx hb dX3_toOuter_39 rfl (lv_at hl 0 rfl) ?_
            refine rn_get (ci := 2) (v := .int (nI q.2.1)) (C := RX2) (T := TX2) (N := 4) hx hb hts iw_X3_toOuter_2 hown hG (hF _ _ ha) rfl 1 (by decide) fw_X3_toOuter_34 rfl dX3_toOuter_40 ?_
            refine lv_iload_n hx hb dX3_toOuter_43 rfl (lv_at hl 2 rfl) ?_
            refine lv_aload_n hx hb dX3_toOuter_44 rfl (lv_at hl 0 rfl) ?_
            refine rn_get (ci := 2) (v := .int (nI q.1)) (C := RX2) (T := TX2) (N := 4) hx hb hts iw_X3_toOuter_2 hown hG (hF _ _ ha) rfl 0 (by decide) fw_X3_toOuter_26 rfl dX3_toOuter_45 ?_
            refine lv_isub hx hb dX3_toOuter_48 ?_
            refine rn_top (y := .int (nI (x - q.1))) (congrArg Value.int (pk_sub (by omega))) ?_
            refine lv_iadd hx hb dX3_toOuter_49 ?_
            refine rn_top (y := .int (nI (q.2.1 + (x - q.1)))) (congrArg Value.int (nI_add _ _)) ?_
            exact rn_iret hx hb hr rfl hlocks (by rw [rn_tO, if_neg h0, ← hv]; simp only [rn_to]; rw [if_pos ⟨g1, g2⟩]; rfl) dX3_toOuter_50
    exact loop (σ.sm r) (hd r) (hR.2 r hr0) hok rfl ls (lv_sub hl [0, 1, 2] rfl)
  · have h0 : r = 0 := by
      by_cases h : r = 0
      · exact h
      · rw [rn_ot_s _ _ h] at c_4; cases c_4
    refine lv_iload_n hx hb dX3_toOuter_7 rfl (lv_at hl 1 rfl) ?_
    exact rn_iret hx hb hr rfl hlocks (by rw [rn_tO, if_pos h0]; rfl) dX3_toOuter_8

set_option maxHeartbeats 4000000 in
set_option maxRecDepth 100000 in
/-- X3_fromOuter: what the map says, of a number of the room -/
theorem c_fromOuter (l : Launch) {D : va_G} {tys : List (ClassId × FieldType)} {f : rn_T} {σ : rn_St} {ra : Nat → Nat} {hd : Nat → Option Nat} (hV : rn_V σ) (hR : rn_Rm f σ ra hd) {r x : Nat} (hr0 : r < σ.sn) (hx0 : x ≤ 999) : rn_R l yX3_fromOuter wsX3_fromOuter ({ frames := 0, cells := 0, slots := 0, locals := 0 } : Room) D tys (rn_S D f) [.ref (ra r), .int (nI x)] (some (.int (nI (rn_fO σ r x)))) := by
  refine rn_R.ofW (cc := cX3_fromOuter) (maxL := 3) (ret := (some .int)) (by decide) rfl (Nat.le_of_ble_eq_true rfl) (fun p e s m below meth c ls hx hb hr hml hts hown hlocks hF hG hl => ?_)
  have hl : lv_has ls 3 [(0, .ref (ra r)), (1, .int (nI x))] := hl
  refine lv_aload_n hx hb dX3_fromOuter_0 rfl (lv_at hl 0 rfl) ?_
  refine rn_get (ci := 3) (v := va_rf (rn_ot σ ra r)) (C := RX3) (T := TX3) (N := 4) hx hb hts iw_X3_fromOuter_3 hown hG (hF _ _ (hR.1 r hr0)) rfl 1 (by decide) fw_X3_fromOuter_15 rfl dX3_fromOuter_1 ?_
  refine rn_ifnonnull (tgt := 9) hx hb dX3_fromOuter_4 (by decide) (fun z_4 c_4 => ?_) (fun c_4 => ?_)
  · have h0 : r ≠ 0 := fun h => by rw [h, rn_ot_0] at c_4; cases c_4
    refine lv_aload_n hx hb dX3_fromOuter_9 rfl (lv_at hl 0 rfl) ?_
    refine rn_get (ci := 3) (v := va_rf (hd r)) (C := RX3) (T := TX3) (N := 4) hx hb hts iw_X3_fromOuter_3 hown hG (hF _ _ (hR.1 r hr0)) rfl 3 (by decide) fw_X3_fromOuter_22 rfl dX3_fromOuter_10 ?_
    refine rn_astore_n (lv' := [(2, va_rf (hd r)), (0, .ref (ra r)), (1, .int (nI x))]) hx hb dX3_fromOuter_13 rfl hl (by decide) rfl (fun ls hl => ?_)
    have hok : ∀ q ∈ σ.sm r, rn_okL q := (hV.2.2.1 r hr0).1
    have loop : ∀ (qs : List rn_Ln) (z : Option Nat), rn_ch f qs z → (∀ q ∈ qs, rn_okL q) → rn_from qs x = rn_from (σ.sm r) x → ∀ (ls : Array Slot), lv_has ls 3 [(2, va_rf z), (0, .ref (ra r)), (1, .int (nI x))] → W p l e ({ frames := 0, cells := 0, slots := 0, locals := 0 } : Room) s m ([.ref (ra r), .int (nI x)] : List Value).toArray below meth c s.heap [] 0 0 (MQ below (fun _ st o t => o = .returned (some (.int (nI (rn_fO σ r x)))) ∧ t.heap = st.heap) ([.ref (ra r), .int (nI x)] : List Value).toArray s 0 0 (fun _ => False)) (F0 m 14 ls []) := by
      intro qs
      induction qs with
      | nil =>
        intro z hch hok hv ls hl
        have hz : z = none := hch
        subst hz
        have hl : lv_has ls 3 [(2, .null), (0, .ref (ra r)), (1, .int (nI x))] := hl
        refine lv_aload_nN hx hb dX3_fromOuter_14 rfl (lv_at hl 0 rfl) ?_
        refine lv_ifnullN (tgt := 59) hx hb dX3_fromOuter_15 (by decide) ?_
        refine lv_sipush (v := 999) hx hb dX3_fromOuter_59 (by decide +kernel) ?_
        exact rn_iret hx hb hr rfl hlocks (by rw [rn_fO, if_neg h0, ← hv]; rfl) dX3_fromOuter_62
      | cons q qs ih =>
        intro z hch hok hv ls hl
        obtain ⟨a, z2, rfl, ha, hch⟩ := hch
        have hok1 := hok q List.mem_cons_self
        have hok2 : ∀ q ∈ qs, rn_okL q := fun z hz => hok z (List.mem_cons_of_mem _ hz)
        obtain ⟨k1, k2, k3⟩ := hok1
        have hl : lv_has ls 3 [(2, .ref a), (0, .ref (ra r)), (1, .int (nI x))] := hl
        refine lv_aload_n hx hb dX3_fromOuter_14 rfl (lv_at hl 0 rfl) ?_
        refine lv_ifnull hx hb dX3_fromOuter_15 ?_
        refine lv_iload_n hx hb dX3_fromOuter_18 rfl (lv_at hl 2 rfl) ?_
        refine lv_aload_n hx hb dX3_fromOuter_19 rfl (lv_at hl 0 rfl) ?_
        refine rn_get (ci := 2) (v := .int (nI q.2.1)) (C := RX2) (T := TX2) (N := 4) hx hb hts iw_X3_fromOuter_2 hown hG (hF _ _ ha) rfl 1 (by decide) fw_X3_fromOuter_34 rfl dX3_fromOuter_20 ?_
        refine lv_icmp_lt (tgt := 51) hx hb dX3_fromOuter_23 (by decide) (fun c_23 => ?_) (fun c_23 => ?_)
        · have hq : ¬ (q.2.1 ≤ x ∧ x < q.2.1 + q.2.2) := fun h => by have := (nI_ltI (by omega) (by omega)).mp c_23; omega
          refine lv_aload_n hx hb dX3_fromOuter_51 rfl (lv_at hl 0 rfl) ?_
          refine rn_get (ci := 2) (v := va_rf z2) (C := RX2) (T := TX2) (N := 4) hx hb hts iw_X3_fromOuter_2 hown hG (hF _ _ ha) rfl 3 (by decide) fw_X3_fromOuter_36 rfl dX3_fromOuter_52 ?_
          refine rn_astore_n (lv' := [(2, va_rf z2), (0, .ref (ra r)), (1, .int (nI x))]) hx hb dX3_fromOuter_55 rfl hl (by decide) rfl (fun ls hl => ?_)
          refine lv_goto (tgt := 14) hx hb dX3_fromOuter_56 (by decide) ?_
          exact ih _ hch hok2 (by rw [← hv]; simp only [rn_from, if_neg hq]) ls (lv_sub hl [0, 1, 2] rfl)
        · have g1 : q.2.1 ≤ x := by rcases Nat.lt_or_ge x q.2.1 with h | h; exact absurd ((nI_ltI (by omega) (by omega)).mpr h) c_23; exact h
          refine lv_iload_n hx hb dX3_fromOuter_26 rfl (lv_at hl 2 rfl) ?_
          refine lv_aload_n hx hb dX3_fromOuter_27 rfl (lv_at hl 0 rfl) ?_
          refine rn_get (ci := 2) (v := .int (nI q.2.1)) (C := RX2) (T := TX2) (N := 4) hx hb hts iw_X3_fromOuter_2 hown hG (hF _ _ ha) rfl 1 (by decide) fw_X3_fromOuter_34 rfl dX3_fromOuter_28 ?_
          refine lv_aload_n hx hb dX3_fromOuter_31 rfl (lv_at hl 0 rfl) ?_
          refine rn_get (ci := 2) (v := .int (nI q.2.2)) (C := RX2) (T := TX2) (N := 4) hx hb hts iw_X3_fromOuter_2 hown hG (hF _ _ ha) rfl 2 (by decide) fw_X3_fromOuter_31 rfl dX3_fromOuter_32 ?_
          refine lv_iadd hx hb dX3_fromOuter_35 ?_
          refine rn_top (y := .int (nI (q.2.1 + q.2.2))) (congrArg Value.int (nI_add _ _)) ?_
          refine lv_icmp_ge (tgt := 51) hx hb dX3_fromOuter_36 (by decide) (fun c_36 => ?_) (fun c_36 => ?_)
          · have hq : ¬ (q.2.1 ≤ x ∧ x < q.2.1 + q.2.2) := fun h => by have := (nI_leI (by omega) (by omega)).mp c_36; omega
            refine lv_aload_n hx hb dX3_fromOuter_51 rfl (lv_at hl 0 rfl) ?_
            refine rn_get (ci := 2) (v := va_rf z2) (C := RX2) (T := TX2) (N := 4) hx hb hts iw_X3_fromOuter_2 hown hG (hF _ _ ha) rfl 3 (by decide) fw_X3_fromOuter_36 rfl dX3_fromOuter_52 ?_
            refine rn_astore_n (lv' := [(2, va_rf z2), (0, .ref (ra r)), (1, .int (nI x))]) hx hb dX3_fromOuter_55 rfl hl (by decide) rfl (fun ls hl => ?_)
            refine lv_goto (tgt := 14) hx hb dX3_fromOuter_56 (by decide) ?_
            exact ih _ hch hok2 (by rw [← hv]; simp only [rn_from, if_neg hq]) ls (lv_sub hl [0, 1, 2] rfl)
          · have g2 : x < q.2.1 + q.2.2 := by rcases Nat.lt_or_ge x (q.2.1 + q.2.2) with h | h; exact h; exact absurd ((nI_leI (by omega) (by omega)).mpr h) c_36
            refine lv_aload_n hx hb dX3_fromOuter_39 rfl (lv_at hl 0 rfl) ?_
            refine rn_get (ci := 2) (v := .int (nI q.1)) (C := RX2) (T := TX2) (N := 4) hx hb hts iw_X3_fromOuter_2 hown hG (hF _ _ ha) rfl 0 (by decide) fw_X3_fromOuter_26 rfl dX3_fromOuter_40 ?_
            refine lv_iload_n hx hb dX3_fromOuter_43 rfl (lv_at hl 2 rfl) ?_
            refine lv_aload_n hx hb dX3_fromOuter_44 rfl (lv_at hl 0 rfl) ?_
            refine rn_get (ci := 2) (v := .int (nI q.2.1)) (C := RX2) (T := TX2) (N := 4) hx hb hts iw_X3_fromOuter_2 hown hG (hF _ _ ha) rfl 1 (by decide) fw_X3_fromOuter_34 rfl dX3_fromOuter_45 ?_
            refine lv_isub hx hb dX3_fromOuter_48 ?_
            refine rn_top (y := .int (nI (x - q.2.1))) (congrArg Value.int (pk_sub (by omega))) ?_
            refine lv_iadd hx hb dX3_fromOuter_49 ?_
            refine rn_top (y := .int (nI (q.1 + (x - q.2.1)))) (congrArg Value.int (nI_add _ _)) ?_
            exact rn_iret hx hb hr rfl hlocks (by rw [rn_fO, if_neg h0, ← hv]; simp only [rn_from]; rw [if_pos ⟨g1, g2⟩]; rfl) dX3_fromOuter_50
    exact loop (σ.sm r) (hd r) (hR.2 r hr0) hok rfl ls (lv_sub hl [0, 1, 2] rfl)
  · have h0 : r = 0 := by
      by_cases h : r = 0
      · exact h
      · rw [rn_ot_s _ _ h] at c_4; cases c_4
    refine lv_iload_n hx hb dX3_fromOuter_7 rfl (lv_at hl 1 rfl) ?_
    exact rn_iret hx hb hr rfl hlocks (by rw [rn_fO, if_pos h0]) dX3_fromOuter_8
end
section
set_option maxHeartbeats 4000000 in
set_option maxRecDepth 100000 in
/-- leadOut: where a number of a room leads -/
theorem c_leadOut (l : Launch) {D : va_G} {tys : List (ClassId × FieldType)} {f : rn_T} {σ : rn_St} {ra : Nat → Nat} {hd : Nat → Option Nat} (hV : rn_V σ) (hR : rn_Rm f σ ra hd) {r x : Nat} (hr0 : r < σ.sn) (hx0 : x ≤ 998) : rn_R l yX4_leadOut wsX4_leadOut ({ frames := 1, cells := 0, slots := 0, locals := 22 } : Room) D tys (rn_S D f) [.ref (ra r), .int (nI x)] (some (.int (rn_enc (rn_lead σ r x)))) := by
  refine rn_R.ofW (cc := cX4_leadOut) (maxL := 4) (ret := (some .int)) (by decide) rfl (Nat.le_of_ble_eq_true rfl) (fun p e s m below meth c ls hx hb hr hml hts hown hlocks hF hG hl => ?_)
  have hl : lv_has ls 4 [(0, .ref (ra r)), (1, .int (nI x))] := hl
  refine lv_iload_n hx hb dX4_leadOut_0 rfl (lv_at hl 1 rfl) ?_
  refine lv_istore_n (lv' := [(2, .int (nI x)), (0, .ref (ra r)), (1, .int (nI x))]) hx hb dX4_leadOut_1 rfl hl (by decide) rfl (fun ls hl => ?_)
  refine lv_aload_n hx hb dX4_leadOut_2 rfl (lv_at hl 1 rfl) ?_
  refine lv_astore_n (lv' := [(3, .ref (ra r)), (2, .int (nI x)), (0, .ref (ra r)), (1, .int (nI x))]) hx hb dX4_leadOut_3 rfl hl (by decide) rfl (fun ls hl => ?_)
  have loop : ∀ (k : Nat) (at_ led : Option Nat), (∀ i, at_ = some i → i < σ.sn ∧ i < k) → (∀ y, led = some y → y ≤ 998) → rn_go σ at_ led = rn_lead σ r x → ∀ (ls : Array Slot), lv_has ls 4 [(3, va_rf (at_.map ra)), (2, .int (rn_enc led)), (0, .ref (ra r)), (1, .int (nI x))] → W p l e ({ frames := 1, cells := 0, slots := 0, locals := 22 } : Room) s m ([.ref (ra r), .int (nI x)] : List Value).toArray below meth c s.heap [] 0 0 (MQ below (fun _ st o t => o = .returned (some (.int (rn_enc (rn_lead σ r x)))) ∧ t.heap = st.heap) ([.ref (ra r), .int (nI x)] : List Value).toArray s 0 0 (fun _ => False)) (F0 m 4 ls []) := by
    intro k
    induction k with
    | zero =>
      intro at_ led hat hled hgo ls hl
      cases at_ with
      | none =>
        have hl : lv_has ls 4 [(3, .null), (2, .int (rn_enc led)), (0, .ref (ra r)), (1, .int (nI x))] := hl
        refine lv_aload_nN hx hb dX4_leadOut_4 rfl (lv_at hl 0 rfl) ?_
        refine lv_ifnullN (tgt := 27) hx hb dX4_leadOut_5 (by decide) ?_
        refine lv_iload_n hx hb dX4_leadOut_27 rfl (lv_at hl 1 rfl) ?_
        exact rn_iret hx hb hr rfl hlocks (by rw [show led = rn_lead σ r x from hgo]) dX4_leadOut_28
      | some i =>
        exact absurd (hat i rfl).2 (Nat.not_lt_zero _)
    | succ k ih =>
      intro at_ led hat hled hgo ls hl
      cases at_ with
      | none =>
        have hl : lv_has ls 4 [(3, .null), (2, .int (rn_enc led)), (0, .ref (ra r)), (1, .int (nI x))] := hl
        refine lv_aload_nN hx hb dX4_leadOut_4 rfl (lv_at hl 0 rfl) ?_
        refine lv_ifnullN (tgt := 27) hx hb dX4_leadOut_5 (by decide) ?_
        refine lv_iload_n hx hb dX4_leadOut_27 rfl (lv_at hl 1 rfl) ?_
        exact rn_iret hx hb hr rfl hlocks (by rw [show led = rn_lead σ r x from hgo]) dX4_leadOut_28
      | some i =>
        obtain ⟨hi, hk⟩ := hat i rfl
        cases led with
        | none =>
          have hl : lv_has ls 4 [(3, .ref (ra i)), (2, .int (-1)), (0, .ref (ra r)), (1, .int (nI x))] := hl
          refine lv_aload_n hx hb dX4_leadOut_4 rfl (lv_at hl 0 rfl) ?_
          refine lv_ifnull hx hb dX4_leadOut_5 ?_
          refine lv_iload_n hx hb dX4_leadOut_8 rfl (lv_at hl 1 rfl) ?_
          refine lv_iconst (v := (-1)) hx hb dX4_leadOut_9 (by decide) ?_
          refine lv_icmp_eq (tgt := 27) hx hb dX4_leadOut_10 (by decide) (fun c_10 => ?_) (fun c_10 => ?_)
          · refine lv_iload_n hx hb dX4_leadOut_27 rfl (lv_at hl 1 rfl) ?_
            exact rn_iret hx hb hr rfl hlocks (by rw [← (show none = rn_lead σ r x from hgo)]; rfl) dX4_leadOut_28
          · exact absurd rfl c_10
        | some y =>
          have hy : y ≤ 998 := hled y rfl
          have hl : lv_has ls 4 [(3, .ref (ra i)), (2, .int (nI y)), (0, .ref (ra r)), (1, .int (nI x))] := hl
          refine lv_aload_n hx hb dX4_leadOut_4 rfl (lv_at hl 0 rfl) ?_
          refine lv_ifnull hx hb dX4_leadOut_5 ?_
          refine lv_iload_n hx hb dX4_leadOut_8 rfl (lv_at hl 1 rfl) ?_
          refine lv_iconst (v := (-1)) hx hb dX4_leadOut_9 (by decide) ?_
          refine lv_icmp_eq (tgt := 27) hx hb dX4_leadOut_10 (by decide) (fun c_10 => ?_) (fun c_10 => ?_)
          · exact absurd c_10 (rn_nI_m1 (by omega))
          · refine lv_aload_n hx hb dX4_leadOut_13 rfl (lv_at hl 0 rfl) ?_
            refine lv_iload_n hx hb dX4_leadOut_14 rfl (lv_at hl 1 rfl) ?_
            refine rn_cV (As := [.int (nI y)]) (rest := []) 1 hx hb hml hown hts hG (c_toOuter l hV hR hi hy) gX4_leadOut_X3_toOuter rfl ⟨rfl, rfl⟩ (by decide +kernel) ⟨Nat.le_of_ble_eq_true rfl, Nat.le_of_ble_eq_true rfl⟩ hF (hF _ _ (hR.1 i hi)) rfl rfl hl.1 rfl (Nat.le_of_ble_eq_true rfl) ⟨Nat.zero_le _, Nat.zero_le _⟩ dX4_leadOut_15 ?_
            refine W.eq (g2 := F0 m 18 ls [.int (rn_enc (rn_tO σ i y))]) rfl ?_
            refine lv_istore_n (lv' := [(2, .int (rn_enc (rn_tO σ i y))), (3, .ref (ra i)), (0, .ref (ra r)), (1, .int (nI x))]) hx hb dX4_leadOut_18 rfl hl (by decide) rfl (fun ls hl => ?_)
            refine lv_aload_n hx hb dX4_leadOut_19 rfl (lv_at hl 1 rfl) ?_
            refine rn_get (ci := 3) (v := va_rf (rn_ot σ ra i)) (C := RX3) (T := TX3) (N := 4) hx hb hts iw_X4_leadOut_3 hown hG (hF _ _ (hR.1 i hi)) rfl 1 (by decide) fw_X4_leadOut_100 rfl dX4_leadOut_20 ?_
            refine rn_astore_n (lv' := [(3, va_rf (rn_ot σ ra i)), (2, .int (rn_enc (rn_tO σ i y))), (0, .ref (ra r)), (1, .int (nI x))]) hx hb dX4_leadOut_23 rfl hl (by decide) rfl (fun ls hl => ?_)
            refine lv_goto (tgt := 4) hx hb dX4_leadOut_24 (by decide) ?_
            rw [rn_ot_nx] at hl
            exact ih _ _ (rn_nx_lt hV hi hk) (fun z hz => rn_tO_in hV hi hy hz) (by rw [rn_go_s hV hi]; exact hgo) ls (lv_sub hl [0, 1, 2, 3] rfl)
  exact loop σ.sn (some r) (some x) (fun i h => by cases h; exact ⟨hr0, hr0⟩) (fun y h => by cases h; exact hx0) rfl ls (lv_sub hl [0, 1, 2, 3] rfl)

set_option maxHeartbeats 4000000 in
set_option maxRecDepth 100000 in
theorem c_isOrIsInside_n (l : Launch) {D : va_G} {tys : List (ClassId × FieldType)} {f : rn_T} {σ : rn_St} {ra : Nat → Nat} {hd : Nat → Option Nat} (hV : rn_V σ) (hR : rn_Rm f σ ra hd) {b : Nat} : rn_R l yX4_isOrIsInside wsX4_isOrIsInside ({ frames := 0, cells := 0, slots := 0, locals := 0 } : Room) D tys (rn_S D f) [.null, .ref (ra b)] (some (.int (rn_b (rn_insO σ b none)))) := by
  refine rn_R.ofW (cc := cX4_isOrIsInside) (maxL := 3) (ret := (some .boolean)) (by decide) rfl (Nat.le_of_ble_eq_true rfl) (fun p e s m below meth c ls hx hb hr hml hts hown hlocks hF hG hl => ?_)
  have hl : lv_has ls 3 [(0, .null), (1, .ref (ra b))] := hl
  refine lv_aload_nN hx hb dX4_isOrIsInside_0 rfl (lv_at hl 0 rfl) ?_
  refine lv_astore_nN (lv' := [(2, .null), (0, .null), (1, .ref (ra b))]) hx hb dX4_isOrIsInside_1 rfl hl (by decide) rfl (fun ls hl => ?_)
  refine lv_aload_nN hx hb dX4_isOrIsInside_2 rfl (lv_at hl 0 rfl) ?_
  refine lv_ifnullN (tgt := 21) hx hb dX4_isOrIsInside_3 (by decide) ?_
  refine lv_iconst (v := 0) hx hb dX4_isOrIsInside_21 (by decide) ?_
  exact rn_iret hx hb hr rfl hlocks rfl dX4_isOrIsInside_22

set_option maxHeartbeats 4000000 in
set_option maxRecDepth 100000 in
theorem c_isOrIsInside_s (l : Launch) {D : va_G} {tys : List (ClassId × FieldType)} {f : rn_T} {σ : rn_St} {ra : Nat → Nat} {hd : Nat → Option Nat} (hV : rn_V σ) (hR : rn_Rm f σ ra hd) {r b : Nat} (hr0 : r < σ.sn) (hb0 : b < σ.sn) : rn_R l yX4_isOrIsInside wsX4_isOrIsInside ({ frames := 0, cells := 0, slots := 0, locals := 0 } : Room) D tys (rn_S D f) [.ref (ra r), .ref (ra b)] (some (.int (rn_b (rn_insO σ b (some r))))) := by
  refine rn_R.ofW (cc := cX4_isOrIsInside) (maxL := 3) (ret := (some .boolean)) (by decide) rfl (Nat.le_of_ble_eq_true rfl) (fun p e s m below meth c ls hx hb hr hml hts hown hlocks hF hG hl => ?_)
  have hl : lv_has ls 3 [(0, .ref (ra r)), (1, .ref (ra b))] := hl
  refine lv_aload_n hx hb dX4_isOrIsInside_0 rfl (lv_at hl 0 rfl) ?_
  refine lv_astore_n (lv' := [(2, .ref (ra r)), (0, .ref (ra r)), (1, .ref (ra b))]) hx hb dX4_isOrIsInside_1 rfl hl (by decide) rfl (fun ls hl => ?_)
  have loop : ∀ (k : Nat) (at_ : Option Nat), (∀ i, at_ = some i → i < σ.sn ∧ i < k) → rn_insO σ b at_ = rn_insO σ b (some r) → ∀ (ls : Array Slot), lv_has ls 3 [(2, va_rf (at_.map ra)), (0, .ref (ra r)), (1, .ref (ra b))] → W p l e ({ frames := 0, cells := 0, slots := 0, locals := 0 } : Room) s m ([.ref (ra r), .ref (ra b)] : List Value).toArray below meth c s.heap [] 0 0 (MQ below (fun _ st o t => o = .returned (some (.int (rn_b (rn_insO σ b (some r))))) ∧ t.heap = st.heap) ([.ref (ra r), .ref (ra b)] : List Value).toArray s 0 0 (fun _ => False)) (F0 m 2 ls []) := by
    intro k
    induction k with
    | zero =>
      intro at_ hat hgo ls hl
      cases at_ with
      | none =>
        have hl : lv_has ls 3 [(2, .null), (0, .ref (ra r)), (1, .ref (ra b))] := hl
        refine lv_aload_nN hx hb dX4_isOrIsInside_2 rfl (lv_at hl 0 rfl) ?_
        refine lv_ifnullN (tgt := 21) hx hb dX4_isOrIsInside_3 (by decide) ?_
        refine lv_iconst (v := 0) hx hb dX4_isOrIsInside_21 (by decide) ?_
        exact rn_iret hx hb hr rfl hlocks (by rw [← hgo]; rfl) dX4_isOrIsInside_22
      | some i =>
        exact absurd (hat i rfl).2 (Nat.not_lt_zero _)
    | succ k ih =>
      intro at_ hat hgo ls hl
      cases at_ with
      | none =>
        have hl : lv_has ls 3 [(2, .null), (0, .ref (ra r)), (1, .ref (ra b))] := hl
        refine lv_aload_nN hx hb dX4_isOrIsInside_2 rfl (lv_at hl 0 rfl) ?_
        refine lv_ifnullN (tgt := 21) hx hb dX4_isOrIsInside_3 (by decide) ?_
        refine lv_iconst (v := 0) hx hb dX4_isOrIsInside_21 (by decide) ?_
        exact rn_iret hx hb hr rfl hlocks (by rw [← hgo]; rfl) dX4_isOrIsInside_22
      | some i =>
        obtain ⟨hi, hk⟩ := hat i rfl
        have hl : lv_has ls 3 [(2, .ref (ra i)), (0, .ref (ra r)), (1, .ref (ra b))] := hl
        refine lv_aload_n hx hb dX4_isOrIsInside_2 rfl (lv_at hl 0 rfl) ?_
        refine lv_ifnull hx hb dX4_isOrIsInside_3 ?_
        refine lv_aload_n hx hb dX4_isOrIsInside_6 rfl (lv_at hl 0 rfl) ?_
        refine lv_aload_n hx hb dX4_isOrIsInside_7 rfl (lv_at hl 2 rfl) ?_
        refine lv_acmp_ne (rx := (some (ra i))) (ry := (some (ra b))) (tgt := 13) hx hb dX4_isOrIsInside_8 (by decide) (fun c_8 => ?_) (fun c_8 => ?_)
        · have hib : i ≠ b := fun h => c_8 (by rw [h])
          refine lv_aload_n hx hb dX4_isOrIsInside_13 rfl (lv_at hl 0 rfl) ?_
          refine rn_get (ci := 3) (v := va_rf (rn_ot σ ra i)) (C := RX3) (T := TX3) (N := 4) hx hb hts iw_X4_isOrIsInside_3 hown hG (hF _ _ (hR.1 i hi)) rfl 1 (by decide) fw_X4_isOrIsInside_100 rfl dX4_isOrIsInside_14 ?_
          refine rn_astore_n (lv' := [(2, va_rf (rn_ot σ ra i)), (0, .ref (ra r)), (1, .ref (ra b))]) hx hb dX4_isOrIsInside_17 rfl hl (by decide) rfl (fun ls hl => ?_)
          refine lv_goto (tgt := 2) hx hb dX4_isOrIsInside_18 (by decide) ?_
          rw [rn_ot_nx] at hl
          exact ih _ (rn_nx_lt hV hi hk) ((rn_insO_s hV hi hib).trans hgo) ls (lv_sub hl [0, 1, 2] rfl)
        · have hib : i = b := rn_ra_inj hV hR hi hb0 (Option.some.inj c_8)
          subst hib
          refine lv_iconst (v := 1) hx hb dX4_isOrIsInside_11 (by decide) ?_
          exact rn_iret hx hb hr rfl hlocks (by rw [← hgo, rn_insO_self hV hi]; rfl) dX4_isOrIsInside_12
  exact loop σ.sn (some r) (fun i h => by cases h; exact ⟨hr0, hr0⟩) rfl ls (lv_sub hl [0, 1, 2] rfl)

theorem c_isOrIsInside (l : Launch) {D : va_G} {tys : List (ClassId × FieldType)} {f : rn_T} {σ : rn_St} {ra : Nat → Nat} {hd : Nat → Option Nat} (hV : rn_V σ) (hR : rn_Rm f σ ra hd) (a : Option Nat) {b : Nat} (ha0 : ∀ i, a = some i → i < σ.sn) (hb0 : b < σ.sn) : rn_R l yX4_isOrIsInside wsX4_isOrIsInside ({ frames := 0, cells := 0, slots := 0, locals := 0 } : Room) D tys (rn_S D f) [va_rf (a.map ra), .ref (ra b)] (some (.int (rn_b (rn_insO σ b a)))) := by
  cases a with
  | none => exact c_isOrIsInside_n l hV hR
  | some r => exact c_isOrIsInside_s l hV hR (ha0 r rfl) hb0

set_option maxHeartbeats 4000000 in
set_option maxRecDepth 100000 in
theorem c_countOf_n (l : Launch) {D : va_G} {tys : List (ClassId × FieldType)} {f : rn_T} : rn_R l yX4_countOf wsX4_countOf ({ frames := 0, cells := 0, slots := 0, locals := 0 } : Room) D tys (rn_S D f) [.null] (some (.int (nI 0))) := by
  refine rn_R.ofW (cc := cX4_countOf) (maxL := 3) (ret := (some .int)) (by decide) rfl (Nat.le_of_ble_eq_true rfl) (fun p e s m below meth c ls hx hb hr hml hts hown hlocks hF hG hl => ?_)
  have hl : lv_has ls 3 [(0, .null)] := hl
  refine lv_iconst (v := 0) hx hb dX4_countOf_0 (by decide) ?_
  refine lv_istore_n (lv' := [(1, .int 0), (0, .null)]) hx hb dX4_countOf_1 rfl hl (by decide) rfl (fun ls hl => ?_)
  refine lv_aload_nN hx hb dX4_countOf_2 rfl (lv_at hl 1 rfl) ?_
  refine lv_astore_nN (lv' := [(2, .null), (1, .int 0), (0, .null)]) hx hb dX4_countOf_3 rfl hl (by decide) rfl (fun ls hl => ?_)
  refine lv_aload_nN hx hb dX4_countOf_4 rfl (lv_at hl 0 rfl) ?_
  refine lv_ifnullN (tgt := 19) hx hb dX4_countOf_5 (by decide) ?_
  refine lv_iload_n hx hb dX4_countOf_19 rfl (lv_at hl 1 rfl) ?_
  exact rn_iret hx hb hr rfl hlocks rfl dX4_countOf_20

set_option maxHeartbeats 4000000 in
set_option maxRecDepth 100000 in
theorem c_countOf_s (l : Launch) {D : va_G} {tys : List (ClassId × FieldType)} {f : rn_T} {Ls : List rn_Ln} {a0 : Nat} (hch0 : rn_ch f Ls (some a0)) : rn_R l yX4_countOf wsX4_countOf ({ frames := 0, cells := 0, slots := 0, locals := 0 } : Room) D tys (rn_S D f) [.ref a0] (some (.int (nI Ls.length))) := by
  refine rn_R.ofW (cc := cX4_countOf) (maxL := 3) (ret := (some .int)) (by decide) rfl (Nat.le_of_ble_eq_true rfl) (fun p e s m below meth c ls hx hb hr hml hts hown hlocks hF hG hl => ?_)
  have hl : lv_has ls 3 [(0, .ref a0)] := hl
  refine lv_iconst (v := 0) hx hb dX4_countOf_0 (by decide) ?_
  refine lv_istore_n (lv' := [(1, .int 0), (0, .ref a0)]) hx hb dX4_countOf_1 rfl hl (by decide) rfl (fun ls hl => ?_)
  refine lv_aload_n hx hb dX4_countOf_2 rfl (lv_at hl 1 rfl) ?_
  refine lv_astore_n (lv' := [(2, .ref a0), (1, .int 0), (0, .ref a0)]) hx hb dX4_countOf_3 rfl hl (by decide) rfl (fun ls hl => ?_)
  have loop : ∀ (qs : List rn_Ln) (z : Option Nat) (j : Nat), rn_ch f qs z → j + qs.length = Ls.length → ∀ (ls : Array Slot), lv_has ls 3 [(2, va_rf z), (1, .int (nI j)), (0, .ref a0)] → W p l e ({ frames := 0, cells := 0, slots := 0, locals := 0 } : Room) s m ([.ref a0] : List Value).toArray below meth c s.heap [] 0 0 (MQ below (fun _ st o t => o = .returned (some (.int (nI Ls.length))) ∧ t.heap = st.heap) ([.ref a0] : List Value).toArray s 0 0 (fun _ => False)) (F0 m 4 ls []) := by
    intro qs
    induction qs with
    | nil =>
      intro z j hch hj ls hl
      have hz : z = none := hch
      subst hz
      have hl : lv_has ls 3 [(2, .null), (1, .int (nI j)), (0, .ref a0)] := hl
      refine lv_aload_nN hx hb dX4_countOf_4 rfl (lv_at hl 0 rfl) ?_
      refine lv_ifnullN (tgt := 19) hx hb dX4_countOf_5 (by decide) ?_
      refine lv_iload_n hx hb dX4_countOf_19 rfl (lv_at hl 1 rfl) ?_
      exact rn_iret hx hb hr rfl hlocks (by rw [← hj]; rfl) dX4_countOf_20
    | cons q qs ih =>
      intro z j hch hj ls hl
      obtain ⟨a, z2, rfl, ha, hch⟩ := hch
      have hl : lv_has ls 3 [(2, .ref a), (1, .int (nI j)), (0, .ref a0)] := hl
      refine lv_aload_n hx hb dX4_countOf_4 rfl (lv_at hl 0 rfl) ?_
      refine lv_ifnull hx hb dX4_countOf_5 ?_
      refine lv_iinc (v := (nI (j + 1))) (lv' := [(1, .int (nI (j + 1))), (2, .ref a), (0, .ref a0)]) hx hb dX4_countOf_8 hl (k := 1) rfl (nI_1 j) (by decide) rfl (fun ls hl => ?_)
      refine lv_aload_n hx hb dX4_countOf_11 rfl (lv_at hl 1 rfl) ?_
      refine rn_get (ci := 2) (v := va_rf z2) (C := RX2) (T := TX2) (N := 4) hx hb hts iw_X4_countOf_2 hown hG (hF _ _ ha) rfl 3 (by decide) fw_X4_countOf_188 rfl dX4_countOf_12 ?_
      refine rn_astore_n (lv' := [(2, va_rf z2), (1, .int (nI (j + 1))), (0, .ref a0)]) hx hb dX4_countOf_15 rfl hl (by decide) rfl (fun ls hl => ?_)
      refine lv_goto (tgt := 4) hx hb dX4_countOf_16 (by decide) ?_
      exact ih _ (j + 1) hch (by rw [← hj, List.length_cons]; omega) ls (lv_sub hl [0, 1, 2] rfl)
  exact loop Ls (some a0) 0 hch0 (Nat.zero_add _) ls (lv_sub hl [0, 1, 2] rfl)

theorem c_countOf (l : Launch) {D : va_G} {tys : List (ClassId × FieldType)} {f : rn_T} {Ls : List rn_Ln} {z : Option Nat} (hch0 : rn_ch f Ls z) : rn_R l yX4_countOf wsX4_countOf ({ frames := 0, cells := 0, slots := 0, locals := 0 } : Room) D tys (rn_S D f) [va_rf z] (some (.int (nI Ls.length))) := by
  cases z with
  | none =>
    cases Ls with
    | nil => exact c_countOf_n l
    | cons q r => obtain ⟨a, z2, h, -⟩ := hch0; cases h
  | some a => exact c_countOf_s l hch0

set_option maxHeartbeats 4000000 in
set_option maxRecDepth 100000 in
theorem c_numberOrNone_n (l : Launch) {D : va_G} {tys : List (ClassId × FieldType)} {f : rn_T} {σ : rn_St} {ra : Nat → Nat} {hd : Nat → Option Nat} (hV : rn_V σ) (hR : rn_Rm f σ ra hd) : rn_R l yX4_numberOrNone wsX4_numberOrNone ({ frames := 0, cells := 0, slots := 0, locals := 0 } : Room) D tys (rn_S D f) [.null] (some (.int (rn_enc none))) := by
  refine rn_R.ofW (cc := cX4_numberOrNone) (maxL := 1) (ret := (some .int)) (by decide) rfl (Nat.le_of_ble_eq_true rfl) (fun p e s m below meth c ls hx hb hr hml hts hown hlocks hF hG hl => ?_)
  have hl : lv_has ls 1 [(0, .null)] := hl
  refine lv_aload_nN hx hb dX4_numberOrNone_0 rfl (lv_at hl 0 rfl) ?_
  refine lv_ifnonnullN hx hb dX4_numberOrNone_1 ?_
  refine lv_iconst (v := (-1)) hx hb dX4_numberOrNone_4 (by decide) ?_
  refine lv_goto (tgt := 12) hx hb dX4_numberOrNone_5 (by decide) ?_
  exact rn_iret hx hb hr rfl hlocks rfl dX4_numberOrNone_12

set_option maxHeartbeats 4000000 in
set_option maxRecDepth 100000 in
theorem c_numberOrNone_s (l : Launch) {D : va_G} {tys : List (ClassId × FieldType)} {f : rn_T} {σ : rn_St} {ra : Nat → Nat} {hd : Nat → Option Nat} (hV : rn_V σ) (hR : rn_Rm f σ ra hd) {r : Nat} (hr0 : r < σ.sn) : rn_R l yX4_numberOrNone wsX4_numberOrNone ({ frames := 0, cells := 0, slots := 0, locals := 0 } : Room) D tys (rn_S D f) [.ref (ra r)] (some (.int (rn_enc (some r)))) := by
  refine rn_R.ofW (cc := cX4_numberOrNone) (maxL := 1) (ret := (some .int)) (by decide) rfl (Nat.le_of_ble_eq_true rfl) (fun p e s m below meth c ls hx hb hr hml hts hown hlocks hF hG hl => ?_)
  have hl : lv_has ls 1 [(0, .ref (ra r))] := hl
  refine lv_aload_n hx hb dX4_numberOrNone_0 rfl (lv_at hl 0 rfl) ?_
  refine lv_ifnonnull (tgt := 8) hx hb dX4_numberOrNone_1 (by decide) ?_
  refine lv_aload_n hx hb dX4_numberOrNone_8 rfl (lv_at hl 0 rfl) ?_
  refine rn_get (ci := 3) (v := .int (nI r)) (C := RX3) (T := TX3) (N := 4) hx hb hts iw_X4_numberOrNone_3 hown hG (hF _ _ (hR.1 r hr0)) rfl 0 (by decide) fw_X4_numberOrNone_75 rfl dX4_numberOrNone_9 ?_
  exact rn_iret hx hb hr rfl hlocks rfl dX4_numberOrNone_12

theorem c_numberOrNone (l : Launch) {D : va_G} {tys : List (ClassId × FieldType)} {f : rn_T} {σ : rn_St} {ra : Nat → Nat} {hd : Nat → Option Nat} (hV : rn_V σ) (hR : rn_Rm f σ ra hd) (a : Option Nat) (ha0 : ∀ i, a = some i → i < σ.sn) : rn_R l yX4_numberOrNone wsX4_numberOrNone ({ frames := 0, cells := 0, slots := 0, locals := 0 } : Room) D tys (rn_S D f) [va_rf (a.map ra)] (some (.int (rn_enc a))) := by
  cases a with
  | none => exact c_numberOrNone_n l hV hR
  | some r => exact c_numberOrNone_s l hV hR (ha0 r rfl)

set_option maxHeartbeats 4000000 in
set_option maxRecDepth 100000 in
theorem c_rangesMeet (l : Launch) {D : va_G} {tys : List (ClassId × FieldType)} {f : rn_T} {st le os ol : Nat} (h1 : st + le ≤ 999) (h2 : os + ol ≤ 999) : rn_R l yX2_rangesMeet wsX2_rangesMeet ({ frames := 0, cells := 0, slots := 0, locals := 0 } : Room) D tys (rn_S D f) [.int (nI st), .int (nI le), .int (nI os), .int (nI ol)] (some (.int (rn_b (decide (st < os + ol ∧ os < st + le))))) := by
  refine rn_R.ofW (cc := cX2_rangesMeet) (maxL := 4) (ret := (some .boolean)) (by decide) rfl (Nat.le_of_ble_eq_true rfl) (fun p e s m below meth c ls hx hb hr hml hts hown hlocks hF hG hl => ?_)
  have hl : lv_has ls 4 [(0, .int (nI st)), (1, .int (nI le)), (2, .int (nI os)), (3, .int (nI ol))] := hl
  refine lv_iload_n hx hb dX2_rangesMeet_0 rfl (lv_at hl 0 rfl) ?_
  refine lv_iload_n hx hb dX2_rangesMeet_1 rfl (lv_at hl 2 rfl) ?_
  refine lv_iload_n hx hb dX2_rangesMeet_2 rfl (lv_at hl 3 rfl) ?_
  refine lv_iadd hx hb dX2_rangesMeet_3 ?_
  refine rn_top (y := .int (nI (os + ol))) (congrArg Value.int (nI_add _ _)) ?_
  refine lv_icmp_ge (tgt := 18) hx hb dX2_rangesMeet_4 (by decide) (fun c_4 => ?_) (fun c_4 => ?_)
  · refine lv_iconst (v := 0) hx hb dX2_rangesMeet_18 (by decide) ?_
    have g : ¬ (st < os + ol ∧ os < st + le) := fun h => by have := (nI_leI (by omega) (by omega)).mp c_4; omega
    exact rn_iret hx hb hr rfl hlocks (by rw [decide_eq_false g]; rfl) dX2_rangesMeet_19
  · refine lv_iload_n hx hb dX2_rangesMeet_7 rfl (lv_at hl 2 rfl) ?_
    refine lv_iload_n hx hb dX2_rangesMeet_8 rfl (lv_at hl 0 rfl) ?_
    refine lv_iload_n hx hb dX2_rangesMeet_9 rfl (lv_at hl 1 rfl) ?_
    refine lv_iadd hx hb dX2_rangesMeet_10 ?_
    refine rn_top (y := .int (nI (st + le))) (congrArg Value.int (nI_add _ _)) ?_
    refine lv_icmp_ge (tgt := 18) hx hb dX2_rangesMeet_11 (by decide) (fun c_11 => ?_) (fun c_11 => ?_)
    · refine lv_iconst (v := 0) hx hb dX2_rangesMeet_18 (by decide) ?_
      have g : ¬ (st < os + ol ∧ os < st + le) := fun h => by have := (nI_leI (by omega) (by omega)).mp c_11; omega
      exact rn_iret hx hb hr rfl hlocks (by rw [decide_eq_false g]; rfl) dX2_rangesMeet_19
    · refine lv_iconst (v := 1) hx hb dX2_rangesMeet_14 (by decide) ?_
      refine lv_goto (tgt := 19) hx hb dX2_rangesMeet_15 (by decide) ?_
      have g1 : st < os + ol := by rcases Nat.lt_or_ge st (os + ol) with h | h; exact h; exact absurd ((nI_leI (by omega) (by omega)).mpr h) c_4
      have g2 : os < st + le := by rcases Nat.lt_or_ge os (st + le) with h | h; exact h; exact absurd ((nI_leI (by omega) (by omega)).mpr h) c_11
      exact rn_iret hx hb hr rfl hlocks (by rw [decide_eq_true ⟨g1, g2⟩]; rfl) dX2_rangesMeet_19

set_option maxHeartbeats 4000000 in
set_option maxRecDepth 100000 in
theorem c_meets (l : Launch) {D : va_G} {tys : List (ClassId × FieldType)} {f : rn_T} {q1 q2 : rn_Ln} {a1 a2 : Nat} {z1 z2 : Option Nat} (hq1 : rn_okL q1) (hq2 : rn_okL q2) (ha1 : f a1 = some (.inr (2, [.int (nI q1.1), .int (nI q1.2.1), .int (nI q1.2.2), va_rf z1]))) (ha2 : f a2 = some (.inr (2, [.int (nI q2.1), .int (nI q2.2.1), .int (nI q2.2.2), va_rf z2]))) : rn_R l yX2_meets wsX2_meets ({ frames := 1, cells := 0, slots := 0, locals := 23 } : Room) D tys (rn_S D f) [.ref a1, .ref a2] (some (.int (rn_b (rn_meet q1 q2)))) := by
  refine rn_R.ofW (cc := cX2_meets) (maxL := 2) (ret := (some .boolean)) (by decide) rfl (Nat.le_of_ble_eq_true rfl) (fun p e s m below meth c ls hx hb hr hml hts hown hlocks hF hG hl => ?_)
  have hl : lv_has ls 2 [(0, .ref a1), (1, .ref a2)] := hl
  refine lv_aload_n hx hb dX2_meets_0 rfl (lv_at hl 0 rfl) ?_
  refine rn_get (ci := 2) (v := .int (nI q1.1)) (C := RX2) (T := TX2) (N := 4) hx hb hts iw_X2_meets_2 hown hG (hF _ _ ha1) rfl 0 (by decide) fw_X2_meets_7 rfl dX2_meets_1 ?_
  refine lv_aload_n hx hb dX2_meets_4 rfl (lv_at hl 0 rfl) ?_
  refine rn_get (ci := 2) (v := .int (nI q1.2.2)) (C := RX2) (T := TX2) (N := 4) hx hb hts iw_X2_meets_2 hown hG (hF _ _ ha1) rfl 2 (by decide) fw_X2_meets_16 rfl dX2_meets_5 ?_
  refine lv_aload_n hx hb dX2_meets_8 rfl (lv_at hl 1 rfl) ?_
  refine rn_get (ci := 2) (v := .int (nI q2.1)) (C := RX2) (T := TX2) (N := 4) hx hb hts iw_X2_meets_2 hown hG (hF _ _ ha2) rfl 0 (by decide) fw_X2_meets_7 rfl dX2_meets_9 ?_
  refine lv_aload_n hx hb dX2_meets_12 rfl (lv_at hl 1 rfl) ?_
  refine rn_get (ci := 2) (v := .int (nI q2.2.2)) (C := RX2) (T := TX2) (N := 4) hx hb hts iw_X2_meets_2 hown hG (hF _ _ ha2) rfl 2 (by decide) fw_X2_meets_16 rfl dX2_meets_13 ?_
  refine rn_cS (As := [.int (nI q1.1), .int (nI q1.2.2), .int (nI q2.1), .int (nI q2.2.2)]) (rest := []) 4 hx hb hml hown hts hG (c_rangesMeet l hq1.1 hq2.1) gX2_meets_X2_rangesMeet rfl ⟨rfl, rfl⟩ (by decide +kernel) ⟨Nat.le_of_ble_eq_true rfl, Nat.le_of_ble_eq_true rfl⟩ hF rfl hl.1 rfl (Nat.le_of_ble_eq_true rfl) ⟨Nat.zero_le _, Nat.zero_le _⟩ dX2_meets_16 ?_
  refine W.eq (g2 := F0 m 19 ls [.int (rn_b (decide (q1.1 < q2.1 + q2.2.2 ∧ q2.1 < q1.1 + q1.2.2)))]) rfl ?_
  refine lv_if_ne (tgt := 44) hx hb dX2_meets_19 (by decide) (fun c_19 => ?_) (fun c_19 => ?_)
  · refine lv_iconst (v := 1) hx hb dX2_meets_44 (by decide) ?_
    refine lv_goto (tgt := 49) hx hb dX2_meets_45 (by decide) ?_
    exact rn_iret hx hb hr rfl hlocks (by first | (rw [rn_b1] at c_19; simp only [rn_meet]; simp only [decide_eq_true_eq] at c_19; rw [decide_eq_true (Or.inl c_19)]; rfl) | (rw [rn_b1] at c_41; simp only [rn_meet]; simp only [decide_eq_true_eq] at c_41; rw [decide_eq_true (Or.inr c_41)]; rfl)) dX2_meets_49
  · refine lv_aload_n hx hb dX2_meets_22 rfl (lv_at hl 0 rfl) ?_
    refine rn_get (ci := 2) (v := .int (nI q1.2.1)) (C := RX2) (T := TX2) (N := 4) hx hb hts iw_X2_meets_2 hown hG (hF _ _ ha1) rfl 1 (by decide) fw_X2_meets_13 rfl dX2_meets_23 ?_
    refine lv_aload_n hx hb dX2_meets_26 rfl (lv_at hl 0 rfl) ?_
    refine rn_get (ci := 2) (v := .int (nI q1.2.2)) (C := RX2) (T := TX2) (N := 4) hx hb hts iw_X2_meets_2 hown hG (hF _ _ ha1) rfl 2 (by decide) fw_X2_meets_16 rfl dX2_meets_27 ?_
    refine lv_aload_n hx hb dX2_meets_30 rfl (lv_at hl 1 rfl) ?_
    refine rn_get (ci := 2) (v := .int (nI q2.2.1)) (C := RX2) (T := TX2) (N := 4) hx hb hts iw_X2_meets_2 hown hG (hF _ _ ha2) rfl 1 (by decide) fw_X2_meets_13 rfl dX2_meets_31 ?_
    refine lv_aload_n hx hb dX2_meets_34 rfl (lv_at hl 1 rfl) ?_
    refine rn_get (ci := 2) (v := .int (nI q2.2.2)) (C := RX2) (T := TX2) (N := 4) hx hb hts iw_X2_meets_2 hown hG (hF _ _ ha2) rfl 2 (by decide) fw_X2_meets_16 rfl dX2_meets_35 ?_
    refine rn_cS (As := [.int (nI q1.2.1), .int (nI q1.2.2), .int (nI q2.2.1), .int (nI q2.2.2)]) (rest := []) 4 hx hb hml hown hts hG (c_rangesMeet l hq1.2.1 hq2.2.1) gX2_meets_X2_rangesMeet rfl ⟨rfl, rfl⟩ (by decide +kernel) ⟨Nat.le_of_ble_eq_true rfl, Nat.le_of_ble_eq_true rfl⟩ hF rfl hl.1 rfl (Nat.le_of_ble_eq_true rfl) ⟨Nat.zero_le _, Nat.zero_le _⟩ dX2_meets_38 ?_
    refine W.eq (g2 := F0 m 41 ls [.int (rn_b (decide (q1.2.1 < q2.2.1 + q2.2.2 ∧ q2.2.1 < q1.2.1 + q1.2.2)))]) rfl ?_
    refine lv_if_eq (tgt := 48) hx hb dX2_meets_41 (by decide) (fun c_41 => ?_) (fun c_41 => ?_)
    · refine lv_iconst (v := 0) hx hb dX2_meets_48 (by decide) ?_
      exact rn_iret hx hb hr rfl hlocks (by rw [rn_b0] at c_19; rw [rn_b0] at c_41; simp only [rn_meet]; simp only [decide_eq_false_iff_not] at c_19 c_41; rw [decide_eq_false (fun h => h.elim c_19 c_41)]; rfl) dX2_meets_49
    · refine lv_iconst (v := 1) hx hb dX2_meets_44 (by decide) ?_
      refine lv_goto (tgt := 49) hx hb dX2_meets_45 (by decide) ?_
      exact rn_iret hx hb hr rfl hlocks (by first | (rw [rn_b1] at c_19; simp only [rn_meet]; simp only [decide_eq_true_eq] at c_19; rw [decide_eq_true (Or.inl c_19)]; rfl) | (rw [rn_b1] at c_41; simp only [rn_meet]; simp only [decide_eq_true_eq] at c_41; rw [decide_eq_true (Or.inr c_41)]; rfl)) dX2_meets_49

set_option maxHeartbeats 4000000 in
set_option maxRecDepth 100000 in
theorem c_isOfOneNumber (l : Launch) {D : va_G} {tys : List (ClassId × FieldType)} {f : rn_T} {q : rn_Ln} {r : List rn_Ln} {a : Nat} (hq : rn_okL q) (hch : rn_ch f (q :: r) (some a)) : rn_R l yX2_isOfOneNumber wsX2_isOfOneNumber ({ frames := 0, cells := 0, slots := 0, locals := 0 } : Room) D tys (rn_S D f) [.ref a] (some (.int (rn_b (decide (r = [] ∧ q.2.2 = 1))))) := by
  refine rn_R.ofW (cc := cX2_isOfOneNumber) (maxL := 1) (ret := (some .boolean)) (by decide) rfl (Nat.le_of_ble_eq_true rfl) (fun p e s m below meth c ls hx hb hr hml hts hown hlocks hF hG hl => ?_)
  have hl : lv_has ls 1 [(0, .ref a)] := hl
  obtain ⟨a9, z, h9, ha, hch2⟩ := hch
  obtain rfl : a = a9 := Option.some.inj h9
  obtain ⟨k1, k2, k3⟩ := hq
  refine lv_aload_n hx hb dX2_isOfOneNumber_0 rfl (lv_at hl 0 rfl) ?_
  refine rn_get (ci := 2) (v := va_rf z) (C := RX2) (T := TX2) (N := 4) hx hb hts iw_X2_isOfOneNumber_2 hown hG (hF _ _ ha) rfl 3 (by decide) fw_X2_isOfOneNumber_19 rfl dX2_isOfOneNumber_1 ?_
  refine rn_ifnonnull (tgt := 19) hx hb dX2_isOfOneNumber_4 (by decide) (fun z_4 c_4 => ?_) (fun c_4 => ?_)
  · refine lv_iconst (v := 0) hx hb dX2_isOfOneNumber_19 (by decide) ?_
    have g : ¬ (r = [] ∧ q.2.2 = 1) := fun h => by rw [h.1] at hch2; have h2 : z = none := hch2; rw [h2] at c_4; cases c_4
    exact rn_iret hx hb hr rfl hlocks (by rw [decide_eq_false g]; rfl) dX2_isOfOneNumber_20
  · refine lv_aload_n hx hb dX2_isOfOneNumber_7 rfl (lv_at hl 0 rfl) ?_
    refine rn_get (ci := 2) (v := .int (nI q.2.2)) (C := RX2) (T := TX2) (N := 4) hx hb hts iw_X2_isOfOneNumber_2 hown hG (hF _ _ ha) rfl 2 (by decide) fw_X2_isOfOneNumber_16 rfl dX2_isOfOneNumber_8 ?_
    refine lv_iconst (v := 1) hx hb dX2_isOfOneNumber_11 (by decide) ?_
    refine lv_icmp_ne (tgt := 19) hx hb dX2_isOfOneNumber_12 (by decide) (fun c_12 => ?_) (fun c_12 => ?_)
    · refine lv_iconst (v := 0) hx hb dX2_isOfOneNumber_19 (by decide) ?_
      have g : ¬ (r = [] ∧ q.2.2 = 1) := fun h => c_12 (by rw [h.2]; rfl)
      exact rn_iret hx hb hr rfl hlocks (by rw [decide_eq_false g]; rfl) dX2_isOfOneNumber_20
    · refine lv_iconst (v := 1) hx hb dX2_isOfOneNumber_15 (by decide) ?_
      refine lv_goto (tgt := 20) hx hb dX2_isOfOneNumber_16 (by decide) ?_
      subst c_4
      have g : r = [] := by cases r with
        | nil => rfl
        | cons q2 r2 => obtain ⟨_, _, h, _⟩ := hch2; cases h
      have g2 : q.2.2 = 1 := (nI_eq (by omega) (by omega)).mp c_12
      exact rn_iret hx hb hr rfl hlocks (by rw [decide_eq_true ⟨g, g2⟩]; rfl) dX2_isOfOneNumber_20
end
section
set_option maxHeartbeats 4000000 in
set_option maxRecDepth 100000 in
theorem c_ownsRoomAround (l : Launch) {D : va_G} {tys : List (ClassId × FieldType)} {f : rn_T} {σ : rn_St} {ra : Nat → Nat} {hd : Nat → Option Nat} (hV : rn_V σ) (hR : rn_Rm f σ ra hd) {pa : Nat → Nat} (hQ : rn_Pr f σ ra pa) {j r : Nat} (hj0 : j < σ.pn) (hr0 : r < σ.sn) : rn_R l yX1_ownsRoomAround wsX1_ownsRoomAround ({ frames := 0, cells := 0, slots := 0, locals := 0 } : Room) D tys (rn_S D f) [.ref (pa j), .ref (ra r)] (some (.int (rn_b (rn_owns σ j r)))) := by
  refine rn_R.ofW (cc := cX1_ownsRoomAround) (maxL := 3) (ret := (some .boolean)) (by decide) rfl (Nat.le_of_ble_eq_true rfl) (fun p e s m below meth c ls hx hb hr hml hts hown hlocks hF hG hl => ?_)
  have hl : lv_has ls 3 [(0, .ref (pa j)), (1, .ref (ra r))] := hl
  refine lv_aload_n hx hb dX1_ownsRoomAround_0 rfl (lv_at hl 1 rfl) ?_
  refine lv_astore_n (lv' := [(2, .ref (ra r)), (0, .ref (pa j)), (1, .ref (ra r))]) hx hb dX1_ownsRoomAround_1 rfl hl (by decide) rfl (fun ls hl => ?_)
  have loop : ∀ (k : Nat) (at_ : Option Nat), (∀ i, at_ = some i → i < σ.sn ∧ i < k) → rn_ownO σ j at_ = rn_ownO σ j (some r) → ∀ (ls : Array Slot), lv_has ls 3 [(2, va_rf (at_.map ra)), (0, .ref (pa j)), (1, .ref (ra r))] → W p l e ({ frames := 0, cells := 0, slots := 0, locals := 0 } : Room) s m ([.ref (pa j), .ref (ra r)] : List Value).toArray below meth c s.heap [] 0 0 (MQ below (fun _ st o t => o = .returned (some (.int (rn_b (rn_owns σ j r)))) ∧ t.heap = st.heap) ([.ref (pa j), .ref (ra r)] : List Value).toArray s 0 0 (fun _ => False)) (F0 m 2 ls []) := by
    intro k
    induction k with
    | zero =>
      intro at_ hat hgo ls hl
      cases at_ with
      | none =>
        have hl : lv_has ls 3 [(2, .null), (0, .ref (pa j)), (1, .ref (ra r))] := hl
        refine lv_aload_nN hx hb dX1_ownsRoomAround_2 rfl (lv_at hl 0 rfl) ?_
        refine lv_ifnullN (tgt := 38) hx hb dX1_ownsRoomAround_3 (by decide) ?_
        refine lv_iconst (v := 0) hx hb dX1_ownsRoomAround_38 (by decide) ?_
        exact rn_iret hx hb hr rfl hlocks (by rw [show rn_owns σ j r = rn_ownO σ j (some r) from rfl, ← hgo]; rfl) dX1_ownsRoomAround_39
      | some i =>
        exact absurd (hat i rfl).2 (Nat.not_lt_zero _)
    | succ k ih =>
      intro at_ hat hgo ls hl
      cases at_ with
      | none =>
        have hl : lv_has ls 3 [(2, .null), (0, .ref (pa j)), (1, .ref (ra r))] := hl
        refine lv_aload_nN hx hb dX1_ownsRoomAround_2 rfl (lv_at hl 0 rfl) ?_
        refine lv_ifnullN (tgt := 38) hx hb dX1_ownsRoomAround_3 (by decide) ?_
        refine lv_iconst (v := 0) hx hb dX1_ownsRoomAround_38 (by decide) ?_
        exact rn_iret hx hb hr rfl hlocks (by rw [show rn_owns σ j r = rn_ownO σ j (some r) from rfl, ← hgo]; rfl) dX1_ownsRoomAround_39
      | some i =>
        obtain ⟨hi, hk⟩ := hat i rfl
        have hpl := (hV.2.2.2.2.2.1.2.2 j hj0).1
        have hl : lv_has ls 3 [(2, .ref (ra i)), (0, .ref (pa j)), (1, .ref (ra r))] := hl
        refine lv_aload_n hx hb dX1_ownsRoomAround_2 rfl (lv_at hl 0 rfl) ?_
        refine lv_ifnull hx hb dX1_ownsRoomAround_3 ?_
        refine lv_aload_n hx hb dX1_ownsRoomAround_6 rfl (lv_at hl 0 rfl) ?_
        refine rn_get (ci := 3) (v := va_rf (rn_ot σ ra i)) (C := RX3) (T := TX3) (N := 4) hx hb hts iw_X1_ownsRoomAround_3 hown hG (hF _ _ (hR.1 i hi)) rfl 1 (by decide) fw_X1_ownsRoomAround_34 rfl dX1_ownsRoomAround_7 ?_
        refine lv_aload_n hx hb dX1_ownsRoomAround_10 rfl (lv_at hl 1 rfl) ?_
        refine rn_get (ci := 1) (v := .ref (ra (σ.pl j))) (C := RX1) (T := TX1) (N := 3) hx hb hts iw_X1_ownsRoomAround_1 hown hG (hF _ _ (hQ j hj0)) rfl 0 (by decide) fw_X1_ownsRoomAround_9 rfl dX1_ownsRoomAround_11 ?_
        refine lv_acmp_ne (rx := ((rn_ot σ ra i))) (ry := (some (ra (σ.pl j)))) (tgt := 30) hx hb dX1_ownsRoomAround_14 (by decide) (fun c_14 => ?_) (fun c_14 => ?_)
        · have hno : ¬ (i ≠ 0 ∧ σ.so i = σ.pl j ∧ σ.sw i = nI (σ.pu j)) := fun h => c_14 (by rw [rn_ot_s _ _ h.1, h.2.1])
          refine lv_aload_n hx hb dX1_ownsRoomAround_30 rfl (lv_at hl 0 rfl) ?_
          refine rn_get (ci := 3) (v := va_rf (rn_ot σ ra i)) (C := RX3) (T := TX3) (N := 4) hx hb hts iw_X1_ownsRoomAround_3 hown hG (hF _ _ (hR.1 i hi)) rfl 1 (by decide) fw_X1_ownsRoomAround_34 rfl dX1_ownsRoomAround_31 ?_
          refine rn_astore_n (lv' := [(2, va_rf (rn_ot σ ra i)), (0, .ref (pa j)), (1, .ref (ra r))]) hx hb dX1_ownsRoomAround_34 rfl hl (by decide) rfl (fun ls hl => ?_)
          refine lv_goto (tgt := 2) hx hb dX1_ownsRoomAround_35 (by decide) ?_
          rw [rn_ot_nx] at hl
          have hno : decide (i ≠ 0 ∧ σ.so i = σ.pl j ∧ σ.sw i = nI (σ.pu j)) = false := decide_eq_false (fun h => by exact hno h)
          exact ih _ (rn_nx_lt hV hi hk) (by rw [← hgo, rn_ownO_s hV hi, hno]; rfl) ls (lv_sub hl [0, 1, 2] rfl)
        · have h00 : i ≠ 0 := fun h => by rw [h, rn_ot_0] at c_14; cases c_14
          have hso : σ.so i = σ.pl j := rn_ra_inj hV hR (by have := hV.2.1 i (by omega) hi; omega) hpl (Option.some.inj (by rw [← c_14, rn_ot_s _ _ h00]))
          refine lv_aload_n hx hb dX1_ownsRoomAround_17 rfl (lv_at hl 0 rfl) ?_
          refine rn_get (ci := 3) (v := .int (σ.sw i)) (C := RX3) (T := TX3) (N := 4) hx hb hts iw_X1_ownsRoomAround_3 hown hG (hF _ _ (hR.1 i hi)) rfl 2 (by decide) fw_X1_ownsRoomAround_39 rfl dX1_ownsRoomAround_18 ?_
          refine lv_aload_n hx hb dX1_ownsRoomAround_21 rfl (lv_at hl 1 rfl) ?_
          refine rn_get (ci := 1) (v := .int (nI (σ.pu j))) (C := RX1) (T := TX1) (N := 3) hx hb hts iw_X1_ownsRoomAround_1 hown hG (hF _ _ (hQ j hj0)) rfl 1 (by decide) fw_X1_ownsRoomAround_15 rfl dX1_ownsRoomAround_22 ?_
          refine lv_icmp_ne (tgt := 30) hx hb dX1_ownsRoomAround_25 (by decide) (fun c_25 => ?_) (fun c_25 => ?_)
          · have hno : ¬ (i ≠ 0 ∧ σ.so i = σ.pl j ∧ σ.sw i = nI (σ.pu j)) := fun h => c_25 h.2.2
            refine lv_aload_n hx hb dX1_ownsRoomAround_30 rfl (lv_at hl 0 rfl) ?_
            refine rn_get (ci := 3) (v := va_rf (rn_ot σ ra i)) (C := RX3) (T := TX3) (N := 4) hx hb hts iw_X1_ownsRoomAround_3 hown hG (hF _ _ (hR.1 i hi)) rfl 1 (by decide) fw_X1_ownsRoomAround_34 rfl dX1_ownsRoomAround_31 ?_
            refine rn_astore_n (lv' := [(2, va_rf (rn_ot σ ra i)), (0, .ref (pa j)), (1, .ref (ra r))]) hx hb dX1_ownsRoomAround_34 rfl hl (by decide) rfl (fun ls hl => ?_)
            refine lv_goto (tgt := 2) hx hb dX1_ownsRoomAround_35 (by decide) ?_
            rw [rn_ot_nx] at hl
            have hno : decide (i ≠ 0 ∧ σ.so i = σ.pl j ∧ σ.sw i = nI (σ.pu j)) = false := decide_eq_false (fun h => by exact hno h)
            exact ih _ (rn_nx_lt hV hi hk) (by rw [← hgo, rn_ownO_s hV hi, hno]; rfl) ls (lv_sub hl [0, 1, 2] rfl)
          · refine lv_iconst (v := 1) hx hb dX1_ownsRoomAround_28 (by decide) ?_
            exact rn_iret hx hb hr rfl hlocks (by rw [show rn_owns σ j r = rn_ownO σ j (some r) from rfl, ← hgo, rn_ownO_s hV hi, decide_eq_true ⟨h00, hso, c_25⟩]; rfl) dX1_ownsRoomAround_29
  exact loop σ.sn (some r) (fun i h => by cases h; exact ⟨hr0, hr0⟩) rfl ls (lv_sub hl [0, 1, 2] rfl)

set_option maxHeartbeats 4000000 in
set_option maxRecDepth 100000 in
theorem c_rightsHeldIn (l : Launch) {D : va_G} {tys : List (ClassId × FieldType)} {f : rn_T} {σ : rn_St} {ra : Nat → Nat} {hd : Nat → Option Nat} (hV : rn_V σ) (hR : rn_Rm f σ ra hd) {pa : Nat → Nat} (hQ : rn_Pr f σ ra pa) {j r : Nat} (hj0 : j < σ.pn) (hr0 : r < σ.sn) : rn_R l yX1_rightsHeldIn wsX1_rightsHeldIn ({ frames := 1, cells := 0, slots := 0, locals := 22 } : Room) D tys (rn_S D f) [.ref (pa j), .ref (ra r)] (some (.int (rn_held σ j r))) := by
  refine rn_R.ofW (cc := cX1_rightsHeldIn) (maxL := 2) (ret := (some .int)) (by decide) rfl (Nat.le_of_ble_eq_true rfl) (fun p e s m below meth c ls hx hb hr hml hts hown hlocks hF hG hl => ?_)
  have hl : lv_has ls 2 [(0, .ref (pa j)), (1, .ref (ra r))] := hl
  refine lv_aload_n hx hb dX1_rightsHeldIn_0 rfl (lv_at hl 0 rfl) ?_
  refine lv_aload_n hx hb dX1_rightsHeldIn_1 rfl (lv_at hl 1 rfl) ?_
  refine rn_cV (As := [.ref (ra r)]) (rest := []) 1 hx hb hml hown hts hG (c_ownsRoomAround l hV hR hQ hj0 hr0) gX1_rightsHeldIn_X1_ownsRoomAround rfl ⟨rfl, rfl⟩ (by decide +kernel) ⟨Nat.le_of_ble_eq_true rfl, Nat.le_of_ble_eq_true rfl⟩ hF (hF _ _ (hQ j hj0)) rfl rfl hl.1 rfl (Nat.le_of_ble_eq_true rfl) ⟨Nat.zero_le _, Nat.zero_le _⟩ dX1_rightsHeldIn_2 ?_
  refine W.eq (g2 := F0 m 5 ls [.int (rn_b (rn_owns σ j r))]) rfl ?_
  refine lv_if_eq (tgt := 11) hx hb dX1_rightsHeldIn_5 (by decide) (fun c_5 => ?_) (fun c_5 => ?_)
  · rw [rn_b0] at c_5
    refine lv_aload_n hx hb dX1_rightsHeldIn_11 rfl (lv_at hl 1 rfl) ?_
    refine lv_aload_n hx hb dX1_rightsHeldIn_12 rfl (lv_at hl 0 rfl) ?_
    refine rn_get (ci := 1) (v := .ref (ra (σ.pl j))) (C := RX1) (T := TX1) (N := 3) hx hb hts iw_X1_rightsHeldIn_1 hown hG (hF _ _ (hQ j hj0)) rfl 0 (by decide) fw_X1_rightsHeldIn_9 rfl dX1_rightsHeldIn_13 ?_
    refine rn_cN (As := [.ref (ra r), .ref (ra (σ.pl j))]) (rest := []) 2 hx hb hml hown hts hG (c_isOrIsInside l hV hR (some r) (fun i h => by cases h; exact hr0) (hV.2.2.2.2.2.1.2.2 j hj0).1) gX1_rightsHeldIn_X4_isOrIsInside_n26 rfl ⟨rfl, rfl⟩ (by decide +kernel) (by decide +kernel) (by decide +kernel) ⟨Nat.le_of_ble_eq_true rfl, Nat.le_of_ble_eq_true rfl⟩ hF rfl hl.1 rfl (Nat.le_of_ble_eq_true rfl) ⟨Nat.zero_le _, Nat.zero_le _⟩ dX1_rightsHeldIn_16 ?_
    refine W.eq (g2 := F0 m 19 ls [.int (rn_b (rn_insO σ (σ.pl j) (some r)))]) rfl ?_
    refine lv_if_eq (tgt := 29) hx hb dX1_rightsHeldIn_19 (by decide) (fun c_19 => ?_) (fun c_19 => ?_)
    · rw [rn_b0] at c_19; simp only [rn_insO, decide_eq_false_iff_not] at c_19
      refine lv_iconst (v := 0) hx hb dX1_rightsHeldIn_29 (by decide) ?_
      exact rn_iret hx hb hr rfl hlocks (by rw [rn_held, if_neg (by rw [c_5]; decide), if_neg c_19]) dX1_rightsHeldIn_30
    · rw [rn_b1] at c_19; simp only [rn_insO, decide_eq_true_eq] at c_19
      refine lv_aload_n hx hb dX1_rightsHeldIn_22 rfl (lv_at hl 0 rfl) ?_
      refine rn_get (ci := 1) (v := .int (σ.pr j)) (C := RX1) (T := TX1) (N := 3) hx hb hts iw_X1_rightsHeldIn_1 hown hG (hF _ _ (hQ j hj0)) rfl 2 (by decide) fw_X1_rightsHeldIn_19 rfl dX1_rightsHeldIn_23 ?_
      refine lv_goto (tgt := 30) hx hb dX1_rightsHeldIn_26 (by decide) ?_
      exact rn_iret hx hb hr rfl hlocks (by rw [rn_held, if_neg (by rw [c_5]; decide), if_pos c_19]) dX1_rightsHeldIn_30
  · rw [rn_b1] at c_5
    refine lv_bipush (v := 15) hx hb dX1_rightsHeldIn_8 (by decide +kernel) ?_
    exact rn_iret hx hb hr rfl hlocks (by rw [rn_held, if_pos c_5]) dX1_rightsHeldIn_10

set_option maxHeartbeats 4000000 in
set_option maxRecDepth 100000 in
theorem c_hasRight (l : Launch) {D : va_G} {tys : List (ClassId × FieldType)} {f : rn_T} {σ : rn_St} {ra : Nat → Nat} {hd : Nat → Option Nat} (hV : rn_V σ) (hR : rn_Rm f σ ra hd) {pa : Nat → Nat} (hQ : rn_Pr f σ ra pa) {j r : Nat} (k : Int32) (hj0 : j < σ.pn) (hr0 : r < σ.sn) : rn_R l yX1_hasRight wsX1_hasRight ({ frames := 2, cells := 0, slots := 0, locals := 43 } : Room) D tys (rn_S D f) [.ref (pa j), .int k, .ref (ra r)] (some (.int (rn_b (decide (rn_held σ j r &&& k ≠ 0))))) := by
  refine rn_R.ofW (cc := cX1_hasRight) (maxL := 3) (ret := (some .boolean)) (by decide) rfl (Nat.le_of_ble_eq_true rfl) (fun p e s m below meth c ls hx hb hr hml hts hown hlocks hF hG hl => ?_)
  have hl : lv_has ls 3 [(0, .ref (pa j)), (1, .int k), (2, .ref (ra r))] := hl
  refine lv_aload_n hx hb dX1_hasRight_0 rfl (lv_at hl 0 rfl) ?_
  refine lv_aload_n hx hb dX1_hasRight_1 rfl (lv_at hl 2 rfl) ?_
  refine rn_cV (As := [.ref (ra r)]) (rest := []) 1 hx hb hml hown hts hG (c_rightsHeldIn l hV hR hQ hj0 hr0) gX1_hasRight_X1_rightsHeldIn rfl ⟨rfl, rfl⟩ (by decide +kernel) ⟨Nat.le_of_ble_eq_true rfl, Nat.le_of_ble_eq_true rfl⟩ hF (hF _ _ (hQ j hj0)) rfl rfl hl.1 rfl (Nat.le_of_ble_eq_true rfl) ⟨Nat.zero_le _, Nat.zero_le _⟩ dX1_hasRight_2 ?_
  refine W.eq (g2 := F0 m 5 ls [.int (rn_held σ j r)]) rfl ?_
  refine lv_iload_n hx hb dX1_hasRight_5 rfl (lv_at hl 1 rfl) ?_
  refine lv_iand hx hb dX1_hasRight_6 ?_
  refine lv_if_eq (tgt := 14) hx hb dX1_hasRight_7 (by decide) (fun c_7 => ?_) (fun c_7 => ?_)
  · refine lv_iconst (v := 0) hx hb dX1_hasRight_14 (by decide) ?_
    exact rn_iret hx hb hr rfl hlocks (by rw [decide_eq_false (fun h => h c_7)]; rfl) dX1_hasRight_15
  · refine lv_iconst (v := 1) hx hb dX1_hasRight_10 (by decide) ?_
    refine lv_goto (tgt := 15) hx hb dX1_hasRight_11 (by decide) ?_
    exact rn_iret hx hb hr rfl hlocks (by rw [decide_eq_true c_7]; rfl) dX1_hasRight_15

def rn_may (m u o : Int32) (wb : Bool) : Bool := decide (m &&& (if u = o then (if wb = true then 2 else 1) else (if wb = true then 8 else 4)) ≠ 0)

set_option maxHeartbeats 4000000 in
set_option maxRecDepth 100000 in
theorem c_allows (l : Launch) {D : va_G} {tys : List (ClassId × FieldType)} {f : rn_T} {σ : rn_St} {fa : Nat → Nat} (hI : rn_Fi f σ fa) {j : Nat} (u : Int32) (wb : Bool) (hj0 : j < σ.fn) : rn_R l yX0_allows wsX0_allows ({ frames := 0, cells := 0, slots := 0, locals := 0 } : Room) D tys (rn_S D f) [.ref (fa j), .int u, .int (rn_b wb)] (some (.int (rn_b (rn_may (σ.fm j) u (nI (σ.fo j)) wb)))) := by
  refine rn_R.ofW (cc := cX0_allows) (maxL := 5) (ret := (some .boolean)) (by decide) rfl (Nat.le_of_ble_eq_true rfl) (fun p e s m below meth c ls hx hb hr hml hts hown hlocks hF hG hl => ?_)
  have hl : lv_has ls 5 [(0, .ref (fa j)), (1, .int u), (2, .int (rn_b wb))] := hl
  cases wb with
  | false =>
    have hl : lv_has ls 5 [(0, .ref (fa j)), (1, .int u), (2, .int 0)] := hl
    refine lv_iload_n hx hb dX0_allows_0 rfl (lv_at hl 2 rfl) ?_
    refine lv_if_eq (tgt := 8) hx hb dX0_allows_1 (by decide) (fun c_1 => ?_) (fun c_1 => ?_)
    · refine lv_iconst (v := 1) hx hb dX0_allows_8 (by decide) ?_
      refine lv_istore_n (lv' := [(3, .int 1), (0, .ref (fa j)), (1, .int u), (2, .int 0)]) hx hb dX0_allows_9 rfl hl (by decide) rfl (fun ls hl => ?_)
      refine lv_iload_n hx hb dX0_allows_10 rfl (lv_at hl 3 rfl) ?_
      refine lv_if_eq (tgt := 19) hx hb dX0_allows_11 (by decide) (fun c_11 => ?_) (fun c_11 => ?_)
      · refine lv_iconst (v := 4) hx hb dX0_allows_19 (by decide) ?_
        refine lv_istore (lv' := [(4, .int 4), (3, .int 1), (0, .ref (fa j)), (1, .int u), (2, .int 0)]) hx hb dX0_allows_20 hl (by decide) rfl (fun ls hl => ?_)
        refine lv_aload_n hx hb dX0_allows_22 rfl (lv_at hl 2 rfl) ?_
        refine rn_get (ci := 0) (v := .int (σ.fm j)) (C := RX0) (T := TX0) (N := 2) hx hb hts iw_X0_allows_0 hown hG (hF _ _ (hI j hj0)) rfl 1 (by decide) fw_X0_allows_15 rfl dX0_allows_23 ?_
        refine lv_iload_n hx hb dX0_allows_26 rfl (lv_at hl 3 rfl) ?_
        refine lv_aload_n hx hb dX0_allows_27 rfl (lv_at hl 2 rfl) ?_
        refine rn_get (ci := 0) (v := .int (nI (σ.fo j))) (C := RX0) (T := TX0) (N := 2) hx hb hts iw_X0_allows_0 hown hG (hF _ _ (hI j hj0)) rfl 0 (by decide) fw_X0_allows_9 rfl dX0_allows_28 ?_
        refine lv_icmp_ne (tgt := 38) hx hb dX0_allows_31 (by decide) (fun c_31 => ?_) (fun c_31 => ?_)
        · refine lv_iload hx hb dX0_allows_38 (lv_at hl 0 rfl) ?_
          refine lv_iand hx hb dX0_allows_40 ?_
          refine lv_if_eq (tgt := 48) hx hb dX0_allows_41 (by decide) (fun c_41 => ?_) (fun c_41 => ?_)
          · refine lv_iconst (v := 0) hx hb dX0_allows_48 (by decide) ?_
            exact rn_iret hx hb hr rfl hlocks (by first | (rw [rn_may, if_pos c_31]; simp only [Bool.false_eq_true, if_false]; first | (rw [decide_eq_true c_41]; rfl) | (rw [decide_eq_false (fun h => h c_41)]; rfl)) | (rw [rn_may, if_neg c_31]; simp only [Bool.false_eq_true, if_false]; first | (rw [decide_eq_true c_41]; rfl) | (rw [decide_eq_false (fun h => h c_41)]; rfl))) dX0_allows_49
          · refine lv_iconst (v := 1) hx hb dX0_allows_44 (by decide) ?_
            refine lv_goto (tgt := 49) hx hb dX0_allows_45 (by decide) ?_
            exact rn_iret hx hb hr rfl hlocks (by first | (rw [rn_may, if_pos c_31]; simp only [Bool.false_eq_true, if_false]; first | (rw [decide_eq_true c_41]; rfl) | (rw [decide_eq_false (fun h => h c_41)]; rfl)) | (rw [rn_may, if_neg c_31]; simp only [Bool.false_eq_true, if_false]; first | (rw [decide_eq_true c_41]; rfl) | (rw [decide_eq_false (fun h => h c_41)]; rfl))) dX0_allows_49
        · refine lv_iload_n hx hb dX0_allows_34 rfl (lv_at hl 1 rfl) ?_
          refine lv_goto (tgt := 40) hx hb dX0_allows_35 (by decide) ?_
          refine lv_iand hx hb dX0_allows_40 ?_
          refine lv_if_eq (tgt := 48) hx hb dX0_allows_41 (by decide) (fun c_41 => ?_) (fun c_41 => ?_)
          · refine lv_iconst (v := 0) hx hb dX0_allows_48 (by decide) ?_
            exact rn_iret hx hb hr rfl hlocks (by first | (rw [rn_may, if_pos c_31]; simp only [Bool.false_eq_true, if_false]; first | (rw [decide_eq_true c_41]; rfl) | (rw [decide_eq_false (fun h => h c_41)]; rfl)) | (rw [rn_may, if_neg c_31]; simp only [Bool.false_eq_true, if_false]; first | (rw [decide_eq_true c_41]; rfl) | (rw [decide_eq_false (fun h => h c_41)]; rfl))) dX0_allows_49
          · refine lv_iconst (v := 1) hx hb dX0_allows_44 (by decide) ?_
            refine lv_goto (tgt := 49) hx hb dX0_allows_45 (by decide) ?_
            exact rn_iret hx hb hr rfl hlocks (by first | (rw [rn_may, if_pos c_31]; simp only [Bool.false_eq_true, if_false]; first | (rw [decide_eq_true c_41]; rfl) | (rw [decide_eq_false (fun h => h c_41)]; rfl)) | (rw [rn_may, if_neg c_31]; simp only [Bool.false_eq_true, if_false]; first | (rw [decide_eq_true c_41]; rfl) | (rw [decide_eq_false (fun h => h c_41)]; rfl))) dX0_allows_49
      · exact absurd rfl c_11
    · exact absurd rfl c_1
  | true =>
    have hl : lv_has ls 5 [(0, .ref (fa j)), (1, .int u), (2, .int 1)] := hl
    refine lv_iload_n hx hb dX0_allows_0 rfl (lv_at hl 2 rfl) ?_
    refine lv_if_eq (tgt := 8) hx hb dX0_allows_1 (by decide) (fun c_1 => ?_) (fun c_1 => ?_)
    · exact absurd c_1 (by decide)
    · refine lv_iconst (v := 2) hx hb dX0_allows_4 (by decide) ?_
      refine lv_goto (tgt := 9) hx hb dX0_allows_5 (by decide) ?_
      refine lv_istore_n (lv' := [(3, .int 2), (0, .ref (fa j)), (1, .int u), (2, .int 1)]) hx hb dX0_allows_9 rfl hl (by decide) rfl (fun ls hl => ?_)
      refine lv_iload_n hx hb dX0_allows_10 rfl (lv_at hl 3 rfl) ?_
      refine lv_if_eq (tgt := 19) hx hb dX0_allows_11 (by decide) (fun c_11 => ?_) (fun c_11 => ?_)
      · exact absurd c_11 (by decide)
      · refine lv_bipush (v := 8) hx hb dX0_allows_14 (by decide +kernel) ?_
        refine lv_goto (tgt := 20) hx hb dX0_allows_16 (by decide) ?_
        refine lv_istore (lv' := [(4, .int 8), (3, .int 2), (0, .ref (fa j)), (1, .int u), (2, .int 1)]) hx hb dX0_allows_20 hl (by decide) rfl (fun ls hl => ?_)
        refine lv_aload_n hx hb dX0_allows_22 rfl (lv_at hl 2 rfl) ?_
        refine rn_get (ci := 0) (v := .int (σ.fm j)) (C := RX0) (T := TX0) (N := 2) hx hb hts iw_X0_allows_0 hown hG (hF _ _ (hI j hj0)) rfl 1 (by decide) fw_X0_allows_15 rfl dX0_allows_23 ?_
        refine lv_iload_n hx hb dX0_allows_26 rfl (lv_at hl 3 rfl) ?_
        refine lv_aload_n hx hb dX0_allows_27 rfl (lv_at hl 2 rfl) ?_
        refine rn_get (ci := 0) (v := .int (nI (σ.fo j))) (C := RX0) (T := TX0) (N := 2) hx hb hts iw_X0_allows_0 hown hG (hF _ _ (hI j hj0)) rfl 0 (by decide) fw_X0_allows_9 rfl dX0_allows_28 ?_
        refine lv_icmp_ne (tgt := 38) hx hb dX0_allows_31 (by decide) (fun c_31 => ?_) (fun c_31 => ?_)
        · refine lv_iload hx hb dX0_allows_38 (lv_at hl 0 rfl) ?_
          refine lv_iand hx hb dX0_allows_40 ?_
          refine lv_if_eq (tgt := 48) hx hb dX0_allows_41 (by decide) (fun c_41 => ?_) (fun c_41 => ?_)
          · refine lv_iconst (v := 0) hx hb dX0_allows_48 (by decide) ?_
            exact rn_iret hx hb hr rfl hlocks (by first | (rw [rn_may, if_pos c_31]; simp only [if_true]; first | (rw [decide_eq_true c_41]; rfl) | (rw [decide_eq_false (fun h => h c_41)]; rfl)) | (rw [rn_may, if_neg c_31]; simp only [if_true]; first | (rw [decide_eq_true c_41]; rfl) | (rw [decide_eq_false (fun h => h c_41)]; rfl))) dX0_allows_49
          · refine lv_iconst (v := 1) hx hb dX0_allows_44 (by decide) ?_
            refine lv_goto (tgt := 49) hx hb dX0_allows_45 (by decide) ?_
            exact rn_iret hx hb hr rfl hlocks (by first | (rw [rn_may, if_pos c_31]; simp only [if_true]; first | (rw [decide_eq_true c_41]; rfl) | (rw [decide_eq_false (fun h => h c_41)]; rfl)) | (rw [rn_may, if_neg c_31]; simp only [if_true]; first | (rw [decide_eq_true c_41]; rfl) | (rw [decide_eq_false (fun h => h c_41)]; rfl))) dX0_allows_49
        · refine lv_iload_n hx hb dX0_allows_34 rfl (lv_at hl 1 rfl) ?_
          refine lv_goto (tgt := 40) hx hb dX0_allows_35 (by decide) ?_
          refine lv_iand hx hb dX0_allows_40 ?_
          refine lv_if_eq (tgt := 48) hx hb dX0_allows_41 (by decide) (fun c_41 => ?_) (fun c_41 => ?_)
          · refine lv_iconst (v := 0) hx hb dX0_allows_48 (by decide) ?_
            exact rn_iret hx hb hr rfl hlocks (by first | (rw [rn_may, if_pos c_31]; simp only [if_true]; first | (rw [decide_eq_true c_41]; rfl) | (rw [decide_eq_false (fun h => h c_41)]; rfl)) | (rw [rn_may, if_neg c_31]; simp only [if_true]; first | (rw [decide_eq_true c_41]; rfl) | (rw [decide_eq_false (fun h => h c_41)]; rfl))) dX0_allows_49
          · refine lv_iconst (v := 1) hx hb dX0_allows_44 (by decide) ?_
            refine lv_goto (tgt := 49) hx hb dX0_allows_45 (by decide) ?_
            exact rn_iret hx hb hr rfl hlocks (by first | (rw [rn_may, if_pos c_31]; simp only [if_true]; first | (rw [decide_eq_true c_41]; rfl) | (rw [decide_eq_false (fun h => h c_41)]; rfl)) | (rw [rn_may, if_neg c_31]; simp only [if_true]; first | (rw [decide_eq_true c_41]; rfl) | (rw [decide_eq_false (fun h => h c_41)]; rfl))) dX0_allows_49

set_option maxHeartbeats 4000000 in
set_option maxRecDepth 100000 in
theorem c_seenFrom (l : Launch) {D : va_G} {cR cP cF : ClassId} {h0 aR aP aF : Nat} {ra pa fa : Nat → Nat} {hd : Nat → Option Nat} {dh : Option Nat} {f : rn_T} {σ : rn_St} (hV : rn_V σ) (hH : rn_Ho cR cP cF h0 aR aP aF ra pa fa dh f σ) (hR : rn_Rm f σ ra hd) {r y : Nat} (hr0 : r < σ.sn) (hy0 : y ≤ 998) : rn_R l yX4_seenFrom wsX4_seenFrom ({ frames := 1, cells := 0, slots := 0, locals := 22 } : Room) D (rn_tys cR cP cF) (rn_S D f) [.ref h0, .ref (ra r), .int (nI y)] (some (.int (nI (rn_see σ r y)))) := by
  refine rn_R.ofW (cc := cX4_seenFrom) (maxL := 8) (ret := (some .int)) (by decide) rfl (Nat.le_of_ble_eq_true rfl) (fun p e s m below meth c ls hx hb hr hml hts hown hlocks hF hG hl => ?_)
  have hl : lv_has ls 8 [(0, .ref h0), (1, .ref (ra r)), (2, .int (nI y))] := hl
  refine lv_iload_n hx hb dX4_seenFrom_0 rfl (lv_at hl 2 rfl) ?_
  refine lv_istore_n (lv' := [(3, .int (nI y)), (0, .ref h0), (1, .ref (ra r)), (2, .int (nI y))]) hx hb dX4_seenFrom_1 rfl hl (by decide) rfl (fun ls hl => ?_)
  refine lv_aload_n hx hb dX4_seenFrom_2 rfl (lv_at hl 1 rfl) ?_
  refine rn_get (ci := 4) (v := .ref aR) (C := RX4) (T := TX4) (N := 9) hx hb hts iw_X4_seenFrom_4 hown hG (hF _ _ hH.1) rfl 0 (by decide) fw_X4_seenFrom_14 rfl dX4_seenFrom_3 ?_
  refine lv_astore (lv' := [(4, .ref aR), (3, .int (nI y)), (0, .ref h0), (1, .ref (ra r)), (2, .int (nI y))]) hx hb dX4_seenFrom_6 hl (by decide) rfl (fun ls hl => ?_)
  refine lv_aload hx hb dX4_seenFrom_8 (lv_at hl 0 rfl) ?_
  refine rn_alen hx hb hG (hF _ _ hH.2.1) 0 rfl dX4_seenFrom_10 ?_
  refine rn_top (y := .int (nI 10)) rfl ?_
  refine lv_istore (lv' := [(5, .int (nI 10)), (4, .ref aR), (3, .int (nI y)), (0, .ref h0), (1, .ref (ra r)), (2, .int (nI y))]) hx hb dX4_seenFrom_11 hl (by decide) rfl (fun ls hl => ?_)
  refine lv_iconst (v := 0) hx hb dX4_seenFrom_13 (by decide) ?_
  refine lv_istore (lv' := [(6, .int 0), (5, .int (nI 10)), (4, .ref aR), (3, .int (nI y)), (0, .ref h0), (1, .ref (ra r)), (2, .int (nI y))]) hx hb dX4_seenFrom_14 hl (by decide) rfl (fun ls hl => ?_)
  have loop : ∀ (k i sv : Nat), i + k = 10 → rn_sf σ r y i sv → ∀ (ls : Array Slot), lv_has ls 8 [(6, .int (nI i)), (3, .int (nI sv)), (4, .ref aR), (5, .int (nI 10)), (0, .ref h0), (1, .ref (ra r)), (2, .int (nI y))] → W p l e ({ frames := 1, cells := 0, slots := 0, locals := 22 } : Room) s m ([.ref h0, .ref (ra r), .int (nI y)] : List Value).toArray below meth c s.heap [] 0 0 (MQ below (fun _ st o t => o = .returned (some (.int (nI (rn_see σ r y)))) ∧ t.heap = st.heap) ([.ref h0, .ref (ra r), .int (nI y)] : List Value).toArray s 0 0 (fun _ => False)) (F0 m 16 ls []) := by
    intro k
    induction k with
    | zero =>
      intro i sv hik hsf ls hl
      obtain rfl : i = 10 := by omega
      refine lv_iload hx hb dX4_seenFrom_16 (lv_at hl 0 rfl) ?_
      refine lv_iload hx hb dX4_seenFrom_18 (lv_at hl 3 rfl) ?_
      refine lv_icmp_ge (tgt := 57) hx hb dX4_seenFrom_20 (by decide) (fun c_20 => ?_) (fun c_20 => ?_)
      · refine lv_iload_n hx hb dX4_seenFrom_57 rfl (lv_at hl 1 rfl) ?_
        exact rn_iret hx hb hr rfl hlocks (by rw [rn_sf_end hV hr0 hV.1.2 hsf]) dX4_seenFrom_58
      · exact absurd ((nI_leI (by omega) (by omega)).mpr (Nat.le_refl 10)) c_20
    | succ k ih =>
      intro i sv hik hsf ls hl
      have hsv := rn_sf_le hy0 hsf
      refine lv_iload hx hb dX4_seenFrom_16 (lv_at hl 0 rfl) ?_
      refine lv_iload hx hb dX4_seenFrom_18 (lv_at hl 3 rfl) ?_
      refine lv_icmp_ge (tgt := 57) hx hb dX4_seenFrom_20 (by decide) (fun c_20 => ?_) (fun c_20 => ?_)
      · exact absurd ((nI_leI (by omega) (by omega)).mp c_20) (by omega)
      · refine lv_aload hx hb dX4_seenFrom_23 (lv_at hl 2 rfl) ?_
        refine lv_iload hx hb dX4_seenFrom_25 (lv_at hl 0 rfl) ?_
        refine rn_aald (j := i) hx hb hG (hF _ _ hH.2.1) 0 rfl (by omega) (by decide) dX4_seenFrom_27 ?_
        rcases Nat.lt_or_ge i σ.sn with hi | hi
        · refine rn_top (y := .ref (ra i)) (by rw [rn_row_in hi]; rfl) ?_
          refine lv_astore (lv' := [(7, .ref (ra i)), (6, .int (nI i)), (3, .int (nI sv)), (4, .ref aR), (5, .int (nI 10)), (0, .ref h0), (1, .ref (ra r)), (2, .int (nI y))]) hx hb dX4_seenFrom_28 hl (by decide) rfl (fun ls hl => ?_)
          refine lv_aload hx hb dX4_seenFrom_30 (lv_at hl 0 rfl) ?_
          refine lv_ifnull hx hb dX4_seenFrom_32 ?_
          refine lv_aload_n hx hb dX4_seenFrom_35 rfl (lv_at hl 6 rfl) ?_
          refine lv_aload hx hb dX4_seenFrom_36 (lv_at hl 0 rfl) ?_
          refine rn_cS (As := [.ref (ra r), .ref (ra i)]) (rest := []) 2 hx hb hml hown hts hG (c_isOrIsInside l hV hR (some r) (fun i h => by cases h; exact hr0) hi) gX4_seenFrom_X4_isOrIsInside rfl ⟨rfl, rfl⟩ (by decide +kernel) ⟨Nat.le_of_ble_eq_true rfl, Nat.le_of_ble_eq_true rfl⟩ hF rfl hl.1 rfl (Nat.le_of_ble_eq_true rfl) ⟨Nat.zero_le _, Nat.zero_le _⟩ dX4_seenFrom_38 ?_
          refine W.eq (g2 := F0 m 41 ls [.int (rn_b (rn_insO σ i (some r)))]) rfl ?_
          refine lv_if_eq (tgt := 51) hx hb dX4_seenFrom_41 (by decide) (fun c_41 => ?_) (fun c_41 => ?_)
          · rw [rn_b0] at c_41; simp only [rn_insO, decide_eq_false_iff_not] at c_41; have hno := c_41
            refine lv_iinc (v := (nI (i + 1))) (lv' := [(6, .int (nI (i + 1))), (7, .ref (ra i)), (3, .int (nI sv)), (4, .ref aR), (5, .int (nI 10)), (0, .ref h0), (1, .ref (ra r)), (2, .int (nI y))]) hx hb dX4_seenFrom_51 hl (k := 1) rfl (nI_1 i) (by decide) rfl (fun ls hl => ?_)
            refine lv_goto (tgt := 16) hx hb dX4_seenFrom_54 (by decide) ?_
            exact ih (i + 1) _ (by omega) (rn_sf_no hV hr0 hsf hno) ls (lv_sub hl [0, 2, 3, 4, 5, 6, 7] rfl)
          · rw [rn_b1] at c_41; simp only [rn_insO, decide_eq_true_eq] at c_41; have hyes := c_41
            refine lv_aload hx hb dX4_seenFrom_44 (lv_at hl 0 rfl) ?_
            refine lv_iload_n hx hb dX4_seenFrom_46 rfl (lv_at hl 2 rfl) ?_
            refine rn_cV (As := [.int (nI sv)]) (rest := []) 1 hx hb hml hown hts hG (c_fromOuter l hV hR hi hsv) gX4_seenFrom_X3_fromOuter rfl ⟨rfl, rfl⟩ (by decide +kernel) ⟨Nat.le_of_ble_eq_true rfl, Nat.le_of_ble_eq_true rfl⟩ hF (hF _ _ (hR.1 i hi)) rfl rfl hl.1 rfl (Nat.le_of_ble_eq_true rfl) ⟨Nat.zero_le _, Nat.zero_le _⟩ dX4_seenFrom_47 ?_
            refine W.eq (g2 := F0 m 50 ls [.int (nI (rn_fO σ i sv))]) rfl ?_
            refine lv_istore_n (lv' := [(3, .int (nI (rn_fO σ i sv))), (7, .ref (ra i)), (6, .int (nI i)), (4, .ref aR), (5, .int (nI 10)), (0, .ref h0), (1, .ref (ra r)), (2, .int (nI y))]) hx hb dX4_seenFrom_50 rfl hl (by decide) rfl (fun ls hl => ?_)
            refine lv_iinc (v := (nI (i + 1))) (lv' := [(6, .int (nI (i + 1))), (3, .int (nI (rn_fO σ i sv))), (7, .ref (ra i)), (4, .ref aR), (5, .int (nI 10)), (0, .ref h0), (1, .ref (ra r)), (2, .int (nI y))]) hx hb dX4_seenFrom_51 hl (k := 2) rfl (nI_1 i) (by decide) rfl (fun ls hl => ?_)
            refine lv_goto (tgt := 16) hx hb dX4_seenFrom_54 (by decide) ?_
            exact ih (i + 1) _ (by omega) (rn_sf_yes hV hr0 hy0 hsf hyes) ls (lv_sub hl [0, 1, 3, 4, 5, 6, 7] rfl)
        · refine rn_top (y := .null) (by rw [rn_row_out hi]; rfl) ?_
          have hno : i ∉ rn_up σ r := fun h => by have := rn_up_le hV r r (Nat.le_refl _) hr0 i h; omega
          refine lv_astoreN (lv' := [(7, .null), (6, .int (nI i)), (3, .int (nI sv)), (4, .ref aR), (5, .int (nI 10)), (0, .ref h0), (1, .ref (ra r)), (2, .int (nI y))]) hx hb dX4_seenFrom_28 hl (by decide) rfl (fun ls hl => ?_)
          refine lv_aloadN hx hb dX4_seenFrom_30 (lv_at hl 0 rfl) ?_
          refine lv_ifnullN (tgt := 51) hx hb dX4_seenFrom_32 (by decide) ?_
          refine lv_iinc (v := (nI (i + 1))) (lv' := [(6, .int (nI (i + 1))), (7, .null), (3, .int (nI sv)), (4, .ref aR), (5, .int (nI 10)), (0, .ref h0), (1, .ref (ra r)), (2, .int (nI y))]) hx hb dX4_seenFrom_51 hl (k := 1) rfl (nI_1 i) (by decide) rfl (fun ls hl => ?_)
          refine lv_goto (tgt := 16) hx hb dX4_seenFrom_54 (by decide) ?_
          exact ih (i + 1) _ (by omega) (rn_sf_no hV hr0 hsf hno) ls (lv_sub hl [0, 2, 3, 4, 5, 6, 7] rfl)
  exact loop 10 0 y rfl (Or.inl ⟨rfl, rfl⟩) ls (lv_sub hl [0, 3, 2, 1, 4, 5, 6] rfl)
end
section
theorem xh_84 : ∀ w ∈ (vx_atS RX4 84 "java/lang/IllegalArgumentException" rn_nm).filter (fun w => !goodWord w), w ∈ rn_xw "java/lang/IllegalArgumentException" := by decide +kernel
theorem xg_80_84 : ∀ w ∈ Cond.classLink RX4 80 "java/lang/IllegalArgumentException" :: Cond.initialized "java/lang/IllegalArgumentException" :: vx_atS RX4 84 "java/lang/IllegalArgumentException" rn_nm, vx_ot w = true := by decide +kernel
theorem xh_107 : ∀ w ∈ (vx_atS RX4 107 "java/lang/IndexOutOfBoundsException" rn_nm).filter (fun w => !goodWord w), w ∈ rn_xw "java/lang/IndexOutOfBoundsException" := by decide +kernel
theorem xg_103_107 : ∀ w ∈ Cond.classLink RX4 103 "java/lang/IndexOutOfBoundsException" :: Cond.initialized "java/lang/IndexOutOfBoundsException" :: vx_atS RX4 107 "java/lang/IndexOutOfBoundsException" rn_nm, vx_ot w = true := by decide +kernel
theorem xn_X4_roomAt_103 : ∀ w ∈ (vx_atS RX4 107 "java/lang/IndexOutOfBoundsException" rn_nm).filter goodWord, w ∈ wsX4_roomAt := fun _ h => List.mem_cons_of_mem _ (List.mem_append_right _ h)
theorem xk_X4_roomAt_103 : Cond.classLink RX4 103 "java/lang/IndexOutOfBoundsException" ∈ wsX4_roomAt := by decide +kernel
theorem xi_X4_roomAt_103 : Cond.initialized "java/lang/IndexOutOfBoundsException" ∈ wsX4_roomAt := by decide +kernel
theorem xn_X4_processAt_103 : ∀ w ∈ (vx_atS RX4 107 "java/lang/IndexOutOfBoundsException" rn_nm).filter goodWord, w ∈ wsX4_processAt := fun _ h => List.mem_cons_of_mem _ (List.mem_append_right _ h)
theorem xk_X4_processAt_103 : Cond.classLink RX4 103 "java/lang/IndexOutOfBoundsException" ∈ wsX4_processAt := by decide +kernel
theorem xi_X4_processAt_103 : Cond.initialized "java/lang/IndexOutOfBoundsException" ∈ wsX4_processAt := by decide +kernel
theorem xn_X4_fileAt_103 : ∀ w ∈ (vx_atS RX4 107 "java/lang/IndexOutOfBoundsException" rn_nm).filter goodWord, w ∈ wsX4_fileAt := fun _ h => List.mem_cons_of_mem _ (List.mem_append_right _ h)
theorem xk_X4_fileAt_103 : Cond.classLink RX4 103 "java/lang/IndexOutOfBoundsException" ∈ wsX4_fileAt := by decide +kernel
theorem xi_X4_fileAt_103 : Cond.initialized "java/lang/IndexOutOfBoundsException" ∈ wsX4_fileAt := by decide +kernel
theorem xn_X4_requireNumber_80 : ∀ w ∈ (vx_atS RX4 84 "java/lang/IllegalArgumentException" rn_nm).filter goodWord, w ∈ wsX4_requireNumber := fun _ h => List.mem_cons_of_mem _ (List.mem_append_right _ h)
theorem xk_X4_requireNumber_80 : Cond.classLink RX4 80 "java/lang/IllegalArgumentException" ∈ wsX4_requireNumber := by decide +kernel
theorem xi_X4_requireNumber_80 : Cond.initialized "java/lang/IllegalArgumentException" ∈ wsX4_requireNumber := by decide +kernel
set_option maxHeartbeats 4000000 in
set_option maxRecDepth 100000 in
theorem c_anyMeet (l : Launch) {D : va_G} {tys : List (ClassId × FieldType)} {f : rn_T} {Ls : List rn_Ln} {a0 : Nat} (hch0 : rn_ch f Ls (some a0)) (hok0 : ∀ q ∈ Ls, rn_okL q) : rn_R l yX4_anyMeet wsX4_anyMeet ({ frames := 2, cells := 0, slots := 0, locals := 44 } : Room) D tys (rn_S D f) [.ref a0] (some (.int (rn_b (rn_bad Ls)))) := by
  refine rn_R.ofW (cc := cX4_anyMeet) (maxL := 3) (ret := (some .boolean)) (by decide) rfl (Nat.le_of_ble_eq_true rfl) (fun p e s m below meth c ls hx hb hr hml hts hown hlocks hF hG hl => ?_)
  have hl : lv_has ls 3 [(0, .ref a0)] := hl
  refine lv_aload_n hx hb dX4_anyMeet_0 rfl (lv_at hl 0 rfl) ?_
  refine lv_astore_n (lv' := [(1, .ref a0), (0, .ref a0)]) hx hb dX4_anyMeet_1 rfl hl (by decide) rfl (fun ls hl => ?_)
  have loop : ∀ (qs : List rn_Ln) (z : Option Nat), rn_ch f qs z → (∀ q ∈ qs, rn_okL q) → rn_bad qs = rn_bad Ls → ∀ (ls : Array Slot), lv_has ls 3 [(1, va_rf z), (0, .ref a0)] → W p l e ({ frames := 2, cells := 0, slots := 0, locals := 44 } : Room) s m ([.ref a0] : List Value).toArray below meth c s.heap [] 0 0 (MQ below (fun _ st o t => o = .returned (some (.int (rn_b (rn_bad Ls)))) ∧ t.heap = st.heap) ([.ref a0] : List Value).toArray s 0 0 (fun _ => False)) (F0 m 2 ls []) := by
    intro qs
    induction qs with
    | nil =>
      intro z hch hok hv ls hl
      have hz : z = none := hch
      subst hz
      have hl : lv_has ls 3 [(1, .null), (0, .ref a0)] := hl
      refine lv_aload_nN hx hb dX4_anyMeet_2 rfl (lv_at hl 0 rfl) ?_
      refine lv_ifnullN (tgt := 41) hx hb dX4_anyMeet_3 (by decide) ?_
      refine lv_iconst (v := 0) hx hb dX4_anyMeet_41 (by decide) ?_
      exact rn_iret hx hb hr rfl hlocks (by rw [← hv]; rfl) dX4_anyMeet_42
    | cons q qs ih =>
      intro z hch hok hv ls hl
      obtain ⟨a, z1, rfl, ha, hch⟩ := hch
      have hok1 := hok q List.mem_cons_self
      have hok2 : ∀ q ∈ qs, rn_okL q := fun z hz => hok z (List.mem_cons_of_mem _ hz)
      have hl : lv_has ls 3 [(1, .ref a), (0, .ref a0)] := hl
      refine lv_aload_n hx hb dX4_anyMeet_2 rfl (lv_at hl 0 rfl) ?_
      refine lv_ifnull hx hb dX4_anyMeet_3 ?_
      refine lv_aload_n hx hb dX4_anyMeet_6 rfl (lv_at hl 0 rfl) ?_
      refine rn_get (ci := 2) (v := va_rf z1) (C := RX2) (T := TX2) (N := 4) hx hb hts iw_X4_anyMeet_2 hown hG (hF _ _ ha) rfl 3 (by decide) fw_X4_anyMeet_188 rfl dX4_anyMeet_7 ?_
      refine rn_astore_n (lv' := [(2, va_rf z1), (1, .ref a), (0, .ref a0)]) hx hb dX4_anyMeet_10 rfl hl (by decide) rfl (fun ls hl => ?_)
      have inner : ∀ (rs : List rn_Ln) (z2 : Option Nat), rn_ch f rs z2 → (∀ q ∈ rs, rn_okL q) → (rs.any (rn_meet q) || rn_bad qs) = rn_bad Ls → ∀ (ls : Array Slot), lv_has ls 3 [(2, va_rf z2), (1, .ref a), (0, .ref a0)] → W p l e ({ frames := 2, cells := 0, slots := 0, locals := 44 } : Room) s m ([.ref a0] : List Value).toArray below meth c s.heap [] 0 0 (MQ below (fun _ st o t => o = .returned (some (.int (rn_b (rn_bad Ls)))) ∧ t.heap = st.heap) ([.ref a0] : List Value).toArray s 0 0 (fun _ => False)) (F0 m 11 ls []) := by
        intro rs
        induction rs with
        | nil =>
          intro z2 hch3 hok3 hin ls hl
          have hz : z2 = none := hch3
          subst hz
          have hl : lv_has ls 3 [(2, .null), (1, .ref a), (0, .ref a0)] := hl
          refine lv_aload_nN hx hb dX4_anyMeet_11 rfl (lv_at hl 0 rfl) ?_
          refine lv_ifnullN (tgt := 33) hx hb dX4_anyMeet_12 (by decide) ?_
          refine lv_aload_n hx hb dX4_anyMeet_33 rfl (lv_at hl 1 rfl) ?_
          refine rn_get (ci := 2) (v := va_rf z1) (C := RX2) (T := TX2) (N := 4) hx hb hts iw_X4_anyMeet_2 hown hG (hF _ _ ha) rfl 3 (by decide) fw_X4_anyMeet_188 rfl dX4_anyMeet_34 ?_
          refine rn_astore_n (lv' := [(1, va_rf z1), (2, .null), (0, .ref a0)]) hx hb dX4_anyMeet_37 rfl hl (by decide) rfl (fun ls hl => ?_)
          refine lv_goto (tgt := 2) hx hb dX4_anyMeet_38 (by decide) ?_
          exact ih _ hch hok2 (by simpa using hin) ls (lv_sub hl [0, 2] rfl)
        | cons q2 rs ih2 =>
          intro z2 hch3 hok3 hin ls hl
          obtain ⟨b, z3, rfl, hb2, hch3⟩ := hch3
          have hok5 := hok3 q2 List.mem_cons_self
          have hok4 : ∀ q ∈ rs, rn_okL q := fun z hz => hok3 z (List.mem_cons_of_mem _ hz)
          have hl : lv_has ls 3 [(2, .ref b), (1, .ref a), (0, .ref a0)] := hl
          refine lv_aload_n hx hb dX4_anyMeet_11 rfl (lv_at hl 0 rfl) ?_
          refine lv_ifnull hx hb dX4_anyMeet_12 ?_
          refine lv_aload_n hx hb dX4_anyMeet_15 rfl (lv_at hl 1 rfl) ?_
          refine lv_aload_n hx hb dX4_anyMeet_16 rfl (lv_at hl 0 rfl) ?_
          refine rn_cV (As := [.ref b]) (rest := []) 1 hx hb hml hown hts hG (c_meets l hok1 hok5 ha hb2) gX4_anyMeet_X2_meets rfl ⟨rfl, rfl⟩ (by decide +kernel) ⟨Nat.le_of_ble_eq_true rfl, Nat.le_of_ble_eq_true rfl⟩ hF (hF _ _ ha) rfl rfl hl.1 rfl (Nat.le_of_ble_eq_true rfl) ⟨Nat.zero_le _, Nat.zero_le _⟩ dX4_anyMeet_17 ?_
          refine W.eq (g2 := F0 m 20 ls [.int (rn_b (rn_meet q q2))]) rfl ?_
          refine lv_if_eq (tgt := 25) hx hb dX4_anyMeet_20 (by decide) (fun c_20 => ?_) (fun c_20 => ?_)
          · rw [rn_b0] at c_20; have hmt := c_20
            refine lv_aload_n hx hb dX4_anyMeet_25 rfl (lv_at hl 0 rfl) ?_
            refine rn_get (ci := 2) (v := va_rf z3) (C := RX2) (T := TX2) (N := 4) hx hb hts iw_X4_anyMeet_2 hown hG (hF _ _ hb2) rfl 3 (by decide) fw_X4_anyMeet_188 rfl dX4_anyMeet_26 ?_
            refine rn_astore_n (lv' := [(2, va_rf z3), (1, .ref a), (0, .ref a0)]) hx hb dX4_anyMeet_29 rfl hl (by decide) rfl (fun ls hl => ?_)
            refine lv_goto (tgt := 11) hx hb dX4_anyMeet_30 (by decide) ?_
            exact ih2 _ hch3 hok4 (by rw [← hin]; simp [hmt]) ls (lv_sub hl [0, 1, 2] rfl)
          · rw [rn_b1] at c_20
            refine lv_iconst (v := 1) hx hb dX4_anyMeet_23 (by decide) ?_
            exact rn_iret hx hb hr rfl hlocks (by rw [← hin]; simp [c_20, rn_b]) dX4_anyMeet_24
      exact inner qs z1 hch hok2 hv ls (lv_sub hl [0, 1, 2] rfl)
  exact loop Ls (some a0) hch0 hok0 rfl ls (lv_sub hl [0, 1] rfl)

theorem rn_lost_cons (σ : rn_St) (r : Nat) (q : rn_Ln) (qs : List rn_Ln) : rn_lost σ r (q :: qs) = ((List.range q.2.2).any (fun k => (rn_lead σ r (q.2.1 + k)).isNone) || rn_lost σ r qs) := by simp [rn_lost]

set_option maxHeartbeats 4000000 in
set_option maxRecDepth 100000 in
theorem c_allLeadOut (l : Launch) {D : va_G} {tys : List (ClassId × FieldType)} {f : rn_T} {σ : rn_St} {ra : Nat → Nat} {hd : Nat → Option Nat} (hV : rn_V σ) (hR : rn_Rm f σ ra hd) {Ls : List rn_Ln} {a0 r : Nat} (hch0 : rn_ch f Ls (some a0)) (hok0 : ∀ q ∈ Ls, rn_okL q) (hr0 : r < σ.sn) : rn_R l yX4_allLeadOut wsX4_allLeadOut ({ frames := 2, cells := 0, slots := 0, locals := 45 } : Room) D tys (rn_S D f) [.ref a0, .ref (ra r)] (some (.int (rn_b (!rn_lost σ r Ls)))) := by
  refine rn_R.ofW (cc := cX4_allLeadOut) (maxL := 4) (ret := (some .boolean)) (by decide) rfl (Nat.le_of_ble_eq_true rfl) (fun p e s m below meth c ls hx hb hr hml hts hown hlocks hF hG hl => ?_)
  have hl : lv_has ls 4 [(0, .ref a0), (1, .ref (ra r))] := hl
  refine lv_aload_n hx hb dX4_allLeadOut_0 rfl (lv_at hl 0 rfl) ?_
  refine lv_astore_n (lv' := [(2, .ref a0), (0, .ref a0), (1, .ref (ra r))]) hx hb dX4_allLeadOut_1 rfl hl (by decide) rfl (fun ls hl => ?_)
  have loop : ∀ (qs : List rn_Ln) (z : Option Nat), rn_ch f qs z → (∀ q ∈ qs, rn_okL q) → rn_lost σ r qs = rn_lost σ r Ls → ∀ (ls : Array Slot), lv_has ls 4 [(2, va_rf z), (0, .ref a0), (1, .ref (ra r))] → W p l e ({ frames := 2, cells := 0, slots := 0, locals := 45 } : Room) s m ([.ref a0, .ref (ra r)] : List Value).toArray below meth c s.heap [] 0 0 (MQ below (fun _ st o t => o = .returned (some (.int (rn_b (!rn_lost σ r Ls)))) ∧ t.heap = st.heap) ([.ref a0, .ref (ra r)] : List Value).toArray s 0 0 (fun _ => False)) (F0 m 2 ls []) := by
    intro qs
    induction qs with
    | nil =>
      intro z hch hok hv ls hl
      have hz : z = none := hch
      subst hz
      have hl : lv_has ls 4 [(2, .null), (0, .ref a0), (1, .ref (ra r))] := hl
      refine lv_aload_nN hx hb dX4_allLeadOut_2 rfl (lv_at hl 0 rfl) ?_
      refine lv_ifnullN (tgt := 46) hx hb dX4_allLeadOut_3 (by decide) ?_
      refine lv_iconst (v := 1) hx hb dX4_allLeadOut_46 (by decide) ?_
      exact rn_iret hx hb hr rfl hlocks (by rw [← hv]; rfl) dX4_allLeadOut_47
    | cons q qs ih =>
      intro z hch hok hv ls hl
      obtain ⟨a, z1, rfl, ha, hch⟩ := hch
      obtain ⟨k1, k2, k3⟩ := hok q List.mem_cons_self
      have hok2 : ∀ q ∈ qs, rn_okL q := fun z hz => hok z (List.mem_cons_of_mem _ hz)
      have hl : lv_has ls 4 [(2, .ref a), (0, .ref a0), (1, .ref (ra r))] := hl
      refine lv_aload_n hx hb dX4_allLeadOut_2 rfl (lv_at hl 0 rfl) ?_
      refine lv_ifnull hx hb dX4_allLeadOut_3 ?_
      refine lv_iconst (v := 0) hx hb dX4_allLeadOut_6 (by decide) ?_
      refine lv_istore_n (lv' := [(3, .int 0), (2, .ref a), (0, .ref a0), (1, .ref (ra r))]) hx hb dX4_allLeadOut_7 rfl hl (by decide) rfl (fun ls hl => ?_)
      have inner : ∀ (n k : Nat), k + n = q.2.2 → (∀ x, x < k → (rn_lead σ r (q.2.1 + x)).isNone = false) → ∀ (ls : Array Slot), lv_has ls 4 [(3, .int (nI k)), (2, .ref a), (0, .ref a0), (1, .ref (ra r))] → W p l e ({ frames := 2, cells := 0, slots := 0, locals := 45 } : Room) s m ([.ref a0, .ref (ra r)] : List Value).toArray below meth c s.heap [] 0 0 (MQ below (fun _ st o t => o = .returned (some (.int (rn_b (!rn_lost σ r Ls)))) ∧ t.heap = st.heap) ([.ref a0, .ref (ra r)] : List Value).toArray s 0 0 (fun _ => False)) (F0 m 8 ls []) := by
        intro n
        induction n with
        | zero =>
          intro k hkn hall ls hl
          refine lv_iload_n hx hb dX4_allLeadOut_8 rfl (lv_at hl 0 rfl) ?_
          refine lv_aload_n hx hb dX4_allLeadOut_9 rfl (lv_at hl 1 rfl) ?_
          refine rn_get (ci := 2) (v := .int (nI q.2.2)) (C := RX2) (T := TX2) (N := 4) hx hb hts iw_X4_allLeadOut_2 hown hG (hF _ _ ha) rfl 2 (by decide) fw_X4_allLeadOut_194 rfl dX4_allLeadOut_10 ?_
          refine lv_icmp_ge (tgt := 38) hx hb dX4_allLeadOut_13 (by decide) (fun c_13 => ?_) (fun c_13 => ?_)
          · refine lv_aload_n hx hb dX4_allLeadOut_38 rfl (lv_at hl 1 rfl) ?_
            refine rn_get (ci := 2) (v := va_rf z1) (C := RX2) (T := TX2) (N := 4) hx hb hts iw_X4_allLeadOut_2 hown hG (hF _ _ ha) rfl 3 (by decide) fw_X4_allLeadOut_188 rfl dX4_allLeadOut_39 ?_
            refine rn_astore_n (lv' := [(2, va_rf z1), (3, .int (nI k)), (0, .ref a0), (1, .ref (ra r))]) hx hb dX4_allLeadOut_42 rfl hl (by decide) rfl (fun ls hl => ?_)
            refine lv_goto (tgt := 2) hx hb dX4_allLeadOut_43 (by decide) ?_
            exact ih _ hch hok2 (by rw [← hv, rn_lost_cons]; rw [show (List.range q.2.2).any (fun k => (rn_lead σ r (q.2.1 + k)).isNone) = false from List.any_eq_false.mpr (fun k hk => by rw [hall k (by have := List.mem_range.mp hk; omega)]; decide)]; rfl) ls (lv_sub hl [0, 2, 3] rfl)
          · exact absurd ((nI_leI (by omega) (by omega)).mpr (by omega)) c_13
        | succ n ih2 =>
          intro k hkn hall ls hl
          refine lv_iload_n hx hb dX4_allLeadOut_8 rfl (lv_at hl 0 rfl) ?_
          refine lv_aload_n hx hb dX4_allLeadOut_9 rfl (lv_at hl 1 rfl) ?_
          refine rn_get (ci := 2) (v := .int (nI q.2.2)) (C := RX2) (T := TX2) (N := 4) hx hb hts iw_X4_allLeadOut_2 hown hG (hF _ _ ha) rfl 2 (by decide) fw_X4_allLeadOut_194 rfl dX4_allLeadOut_10 ?_
          refine lv_icmp_ge (tgt := 38) hx hb dX4_allLeadOut_13 (by decide) (fun c_13 => ?_) (fun c_13 => ?_)
          · exact absurd ((nI_leI (by omega) (by omega)).mp c_13) (by omega)
          · refine lv_aload_n hx hb dX4_allLeadOut_16 rfl (lv_at hl 3 rfl) ?_
            refine lv_aload_n hx hb dX4_allLeadOut_17 rfl (lv_at hl 1 rfl) ?_
            refine rn_get (ci := 2) (v := .int (nI q.2.1)) (C := RX2) (T := TX2) (N := 4) hx hb hts iw_X4_allLeadOut_2 hown hG (hF _ _ ha) rfl 1 (by decide) fw_X4_allLeadOut_130 rfl dX4_allLeadOut_18 ?_
            refine lv_iload_n hx hb dX4_allLeadOut_21 rfl (lv_at hl 0 rfl) ?_
            refine lv_iadd hx hb dX4_allLeadOut_22 ?_
            refine rn_top (y := .int (nI (q.2.1 + k))) (congrArg Value.int (nI_add _ _)) ?_
            refine rn_cS (As := [.ref (ra r), .int (nI (q.2.1 + k))]) (rest := []) 2 hx hb hml hown hts hG (c_leadOut l hV hR hr0 (x := q.2.1 + k) (by omega)) gX4_allLeadOut_X4_leadOut rfl ⟨rfl, rfl⟩ (by decide +kernel) ⟨Nat.le_of_ble_eq_true rfl, Nat.le_of_ble_eq_true rfl⟩ hF rfl hl.1 rfl (Nat.le_of_ble_eq_true rfl) ⟨Nat.zero_le _, Nat.zero_le _⟩ dX4_allLeadOut_23 ?_
            refine W.eq (g2 := F0 m 26 ls [.int (rn_enc (rn_lead σ r (q.2.1 + k)))]) rfl ?_
            refine lv_iconst (v := (-1)) hx hb dX4_allLeadOut_26 (by decide) ?_
            refine lv_icmp_ne (tgt := 32) hx hb dX4_allLeadOut_27 (by decide) (fun c_27 => ?_) (fun c_27 => ?_)
            · have hsome : (rn_lead σ r (q.2.1 + k)).isNone = false := by
                cases h : rn_lead σ r (q.2.1 + k) with
                | none => rw [h] at c_27; exact absurd rfl c_27
                | some y => rfl
              refine lv_iinc (v := (nI (k + 1))) (lv' := [(3, .int (nI (k + 1))), (2, .ref a), (0, .ref a0), (1, .ref (ra r))]) hx hb dX4_allLeadOut_32 hl (k := 0) rfl (nI_1 k) (by decide) rfl (fun ls hl => ?_)
              refine lv_goto (tgt := 8) hx hb dX4_allLeadOut_35 (by decide) ?_
              exact ih2 (k + 1) (by omega) (fun x hx => by rcases Nat.lt_or_ge x k with h | h; exact hall x h; rw [show x = k by omega]; exact hsome) ls (lv_sub hl [0, 1, 2, 3] rfl)
            · have hnone := (rn_enc_m1 (fun y h => rn_lead_in hV r r (Nat.le_refl _) hr0 _ y (by omega) h)).mp c_27
              have hl2 : rn_lost σ r Ls = true := by
                rw [← hv, rn_lost_cons, List.any_eq_true.mpr ⟨k, List.mem_range.mpr (by omega), by rw [hnone]; rfl⟩]; rfl
              refine lv_iconst (v := 0) hx hb dX4_allLeadOut_30 (by decide) ?_
              exact rn_iret hx hb hr rfl hlocks (by rw [hl2]; rfl) dX4_allLeadOut_31
      exact inner q.2.2 0 (Nat.zero_add _) (fun x hx => absurd hx (Nat.not_lt_zero _)) ls (lv_sub hl [0, 1, 2, 3] rfl)
  exact loop Ls (some a0) hch0 hok0 rfl ls (lv_sub hl [0, 1, 2] rfl)

set_option maxHeartbeats 4000000 in
set_option maxRecDepth 100000 in
theorem c_roomAt (l : Launch) {D : va_G} {cR cP cF : ClassId} {h0 aR aP aF : Nat} {ra pa fa : Nat → Nat} {hd : Nat → Option Nat} {dh : Option Nat} {f : rn_T} {σ : rn_St} (hV : rn_V σ) (hH : rn_Ho cR cP cF h0 aR aP aF ra pa fa dh f σ) {i : Nat} (hi0 : i < σ.sn) : rn_R l yX4_roomAt wsX4_roomAt ({ frames := 0, cells := 0, slots := 0, locals := 0 } : Room) D (rn_tys cR cP cF) (rn_S D f) [.ref h0, .int (nI i)] (some (.ref (ra i))) := by
  refine rn_R.ofW (cc := cX4_roomAt) (maxL := 3) (ret := (some (.object "RoomNumbers$Room"))) (by decide) rfl (Nat.le_of_ble_eq_true rfl) (fun p e s m below meth c ls hx hb hr hml hts hown hlocks hF hG hl => ?_)
  have hl : lv_has ls 3 [(0, .ref h0), (1, .int (nI i))] := hl
  refine lv_iload_n hx hb dX4_roomAt_0 rfl (lv_at hl 1 rfl) ?_
  refine lv_if_lt (tgt := 13) hx hb dX4_roomAt_1 (by decide) (fun c_1 => ?_) (fun c_1 => ?_)
  · exact absurd c_1 (nI_pos (by have := hV.1.2; omega))
  · refine lv_iload_n hx hb dX4_roomAt_4 rfl (lv_at hl 1 rfl) ?_
    refine lv_aload_n hx hb dX4_roomAt_5 rfl (lv_at hl 0 rfl) ?_
    refine rn_get (ci := 4) (v := .ref aR) (C := RX4) (T := TX4) (N := 9) hx hb hts iw_X4_roomAt_4 hown hG (hF _ _ hH.1) rfl 0 (by decide) fw_X4_roomAt_14 rfl dX4_roomAt_6 ?_
    refine rn_alen hx hb hG (hF _ _ hH.2.1) 0 rfl dX4_roomAt_9 ?_
    refine rn_top (y := .int (nI 10)) rfl ?_
    refine lv_icmp_lt (tgt := 23) hx hb dX4_roomAt_10 (by decide) (fun c_10 => ?_) (fun c_10 => ?_)
    · refine lv_aload_n hx hb dX4_roomAt_23 rfl (lv_at hl 0 rfl) ?_
      refine rn_get (ci := 4) (v := .ref aR) (C := RX4) (T := TX4) (N := 9) hx hb hts iw_X4_roomAt_4 hown hG (hF _ _ hH.1) rfl 0 (by decide) fw_X4_roomAt_14 rfl dX4_roomAt_24 ?_
      refine lv_iload_n hx hb dX4_roomAt_27 rfl (lv_at hl 1 rfl) ?_
      refine rn_aald (j := i) hx hb hG (hF _ _ hH.2.1) 0 rfl (by have := hV.1.2; omega) (by decide) dX4_roomAt_28 ?_
      refine rn_top (y := .ref (ra i)) (by rw [rn_row_in hi0]; rfl) ?_
      refine lv_astore_n (lv' := [(2, .ref (ra i)), (0, .ref h0), (1, .int (nI i))]) hx hb dX4_roomAt_29 rfl hl (by decide) rfl (fun ls hl => ?_)
      refine lv_aload_n hx hb dX4_roomAt_30 rfl (lv_at hl 0 rfl) ?_
      refine lv_ifnonnull (tgt := 44) hx hb dX4_roomAt_31 (by decide) ?_
      refine lv_aload_n hx hb dX4_roomAt_44 rfl (lv_at hl 0 rfl) ?_
      exact rn_aret hx hb hr hlocks rfl dX4_roomAt_45
    · exact absurd ((nI_ltI (by have := hV.1.2; omega) (by omega)).mpr (by have := hV.1.2; omega)) c_10

set_option maxHeartbeats 4000000 in
set_option maxRecDepth 100000 in
theorem x_roomAt (l : Launch) (hfl : l.stackTraces = false) {D : va_G} {cR cP cF : ClassId} {h0 aR aP aF : Nat} {ra pa fa : Nat → Nat} {hd : Nat → Option Nat} {dh : Option Nat} {f : rn_T} {σ : rn_St} (hV : rn_V σ) (hH : rn_Ho cR cP cF h0 aR aP aF ra pa fa dh f σ) {x : Int32} (hno : ¬ ∃ i, i < σ.sn ∧ x = nI i) (sz : Nat) : rn_X l yX4_roomAt wsX4_roomAt ({ frames := 6, cells := 1, slots := 6, locals := 82 } : Room) D (rn_tys cR cP cF) (rn_S D f) [.ref h0, .int x] "java/lang/IndexOutOfBoundsException" sz := by
  refine rn_X.ofW (cc := cX4_roomAt) (maxL := 3) (ret := (some (.object "RoomNumbers$Room"))) (by decide) rfl (Nat.le_of_ble_eq_true rfl) (fun p e s m below meth c ls hx hb hr hml hts hown hlocks hsz hF hG hE hout hl => ?_)
  have hl : lv_has ls 3 [(0, .ref h0), (1, .int x)] := hl
  refine lv_iload_n hx hb dX4_roomAt_0 rfl (lv_at hl 1 rfl) ?_
  refine lv_if_lt (tgt := 13) hx hb dX4_roomAt_1 (by decide) (fun c_1 => ?_) (fun c_1 => ?_)
  · exact rn_throw (E := "java/lang/IndexOutOfBoundsException") (ik := 103) (is := 177) (ic := 107) (text := "no such room") hx hb hfl hown hts hE hsz (by decide +kernel) xk_X4_roomAt_103 xi_X4_roomAt_103 xn_X4_roomAt_103 xh_107 xg_103_107 (by decide) (by decide) (hl.1.trans hml.symm) dX4_roomAt_13 dX4_roomAt_16 dX4_roomAt_17 dX4_roomAt_19 dX4_roomAt_22 hout (by decide) (by decide) (by decide) (by decide) hlocks
  · obtain ⟨i, hi31, rfl⟩ := nI_of c_1
    have hi : σ.sn ≤ i := by rcases Nat.lt_or_ge i (σ.sn) with h | h; exact absurd ⟨i, h, rfl⟩ hno; exact h
    have hl : lv_has ls 3 [(0, .ref h0), (1, .int (nI i))] := hl
    refine lv_iload_n hx hb dX4_roomAt_4 rfl (lv_at hl 1 rfl) ?_
    refine lv_aload_n hx hb dX4_roomAt_5 rfl (lv_at hl 0 rfl) ?_
    refine rn_get (ci := 4) (v := .ref aR) (C := RX4) (T := TX4) (N := 9) hx hb hts iw_X4_roomAt_4 hown hG (hF _ _ hH.1) rfl 0 (by decide) fw_X4_roomAt_14 rfl dX4_roomAt_6 ?_
    refine rn_alen hx hb hG (hF _ _ hH.2.1) 0 rfl dX4_roomAt_9 ?_
    refine rn_top (y := .int (nI 10)) rfl ?_
    refine lv_icmp_lt (tgt := 23) hx hb dX4_roomAt_10 (by decide) (fun c_10 => ?_) (fun c_10 => ?_)
    · have hi10 := (nI_ltI hi31 (by omega)).mp c_10
      refine lv_aload_n hx hb dX4_roomAt_23 rfl (lv_at hl 0 rfl) ?_
      refine rn_get (ci := 4) (v := .ref aR) (C := RX4) (T := TX4) (N := 9) hx hb hts iw_X4_roomAt_4 hown hG (hF _ _ hH.1) rfl 0 (by decide) fw_X4_roomAt_14 rfl dX4_roomAt_24 ?_
      refine lv_iload_n hx hb dX4_roomAt_27 rfl (lv_at hl 1 rfl) ?_
      refine rn_aald (j := i) hx hb hG (hF _ _ hH.2.1) 0 rfl hi10 (by decide) dX4_roomAt_28 ?_
      refine rn_top (y := .null) (by rw [rn_row_out hi]; rfl) ?_
      refine lv_astore_nN (lv' := [(2, .null), (0, .ref h0), (1, .int (nI i))]) hx hb dX4_roomAt_29 rfl hl (by decide) rfl (fun ls hl => ?_)
      refine lv_aload_nN hx hb dX4_roomAt_30 rfl (lv_at hl 0 rfl) ?_
      refine lv_ifnonnullN hx hb dX4_roomAt_31 ?_
      exact rn_throw (E := "java/lang/IndexOutOfBoundsException") (ik := 103) (is := 177) (ic := 107) (text := "no such room") hx hb hfl hown hts hE hsz (by decide +kernel) xk_X4_roomAt_103 xi_X4_roomAt_103 xn_X4_roomAt_103 xh_107 xg_103_107 (by decide) (by decide) (hl.1.trans hml.symm) dX4_roomAt_34 dX4_roomAt_37 dX4_roomAt_38 dX4_roomAt_40 dX4_roomAt_43 hout (by decide) (by decide) (by decide) (by decide) hlocks
    · exact rn_throw (E := "java/lang/IndexOutOfBoundsException") (ik := 103) (is := 177) (ic := 107) (text := "no such room") hx hb hfl hown hts hE hsz (by decide +kernel) xk_X4_roomAt_103 xi_X4_roomAt_103 xn_X4_roomAt_103 xh_107 xg_103_107 (by decide) (by decide) (hl.1.trans hml.symm) dX4_roomAt_13 dX4_roomAt_16 dX4_roomAt_17 dX4_roomAt_19 dX4_roomAt_22 hout (by decide) (by decide) (by decide) (by decide) hlocks

set_option maxHeartbeats 4000000 in
set_option maxRecDepth 100000 in
theorem c_processAt (l : Launch) {D : va_G} {cR cP cF : ClassId} {h0 aR aP aF : Nat} {ra pa fa : Nat → Nat} {hd : Nat → Option Nat} {dh : Option Nat} {f : rn_T} {σ : rn_St} (hV : rn_V σ) (hH : rn_Ho cR cP cF h0 aR aP aF ra pa fa dh f σ) {i : Nat} (hi0 : i < σ.pn) : rn_R l yX4_processAt wsX4_processAt ({ frames := 0, cells := 0, slots := 0, locals := 0 } : Room) D (rn_tys cR cP cF) (rn_S D f) [.ref h0, .int (nI i)] (some (.ref (pa i))) := by
  refine rn_R.ofW (cc := cX4_processAt) (maxL := 3) (ret := (some (.object "RoomNumbers$HouseProcess"))) (by decide) rfl (Nat.le_of_ble_eq_true rfl) (fun p e s m below meth c ls hx hb hr hml hts hown hlocks hF hG hl => ?_)
  have hl : lv_has ls 3 [(0, .ref h0), (1, .int (nI i))] := hl
  refine lv_iload_n hx hb dX4_processAt_0 rfl (lv_at hl 1 rfl) ?_
  refine lv_if_lt (tgt := 13) hx hb dX4_processAt_1 (by decide) (fun c_1 => ?_) (fun c_1 => ?_)
  · exact absurd c_1 (nI_pos (by have := hV.2.2.2.2.2.1.2.1; omega))
  · refine lv_iload_n hx hb dX4_processAt_4 rfl (lv_at hl 1 rfl) ?_
    refine lv_aload_n hx hb dX4_processAt_5 rfl (lv_at hl 0 rfl) ?_
    refine rn_get (ci := 4) (v := .ref aP) (C := RX4) (T := TX4) (N := 9) hx hb hts iw_X4_processAt_4 hown hG (hF _ _ hH.1) rfl 2 (by decide) fw_X4_processAt_24 rfl dX4_processAt_6 ?_
    refine rn_alen hx hb hG (hF _ _ hH.2.2.1) 1 rfl dX4_processAt_9 ?_
    refine rn_top (y := .int (nI 12)) rfl ?_
    refine lv_icmp_lt (tgt := 23) hx hb dX4_processAt_10 (by decide) (fun c_10 => ?_) (fun c_10 => ?_)
    · refine lv_aload_n hx hb dX4_processAt_23 rfl (lv_at hl 0 rfl) ?_
      refine rn_get (ci := 4) (v := .ref aP) (C := RX4) (T := TX4) (N := 9) hx hb hts iw_X4_processAt_4 hown hG (hF _ _ hH.1) rfl 2 (by decide) fw_X4_processAt_24 rfl dX4_processAt_24 ?_
      refine lv_iload_n hx hb dX4_processAt_27 rfl (lv_at hl 1 rfl) ?_
      refine rn_aald (j := i) hx hb hG (hF _ _ hH.2.2.1) 1 rfl (by have := hV.2.2.2.2.2.1.2.1; omega) (by decide) dX4_processAt_28 ?_
      refine rn_top (y := .ref (pa i)) (by rw [rn_row_in hi0]; rfl) ?_
      refine lv_astore_n (lv' := [(2, .ref (pa i)), (0, .ref h0), (1, .int (nI i))]) hx hb dX4_processAt_29 rfl hl (by decide) rfl (fun ls hl => ?_)
      refine lv_aload_n hx hb dX4_processAt_30 rfl (lv_at hl 0 rfl) ?_
      refine lv_ifnonnull (tgt := 44) hx hb dX4_processAt_31 (by decide) ?_
      refine lv_aload_n hx hb dX4_processAt_44 rfl (lv_at hl 0 rfl) ?_
      exact rn_aret hx hb hr hlocks rfl dX4_processAt_45
    · exact absurd ((nI_ltI (by have := hV.2.2.2.2.2.1.2.1; omega) (by omega)).mpr (by have := hV.2.2.2.2.2.1.2.1; omega)) c_10

set_option maxHeartbeats 4000000 in
set_option maxRecDepth 100000 in
theorem x_processAt (l : Launch) (hfl : l.stackTraces = false) {D : va_G} {cR cP cF : ClassId} {h0 aR aP aF : Nat} {ra pa fa : Nat → Nat} {hd : Nat → Option Nat} {dh : Option Nat} {f : rn_T} {σ : rn_St} (hV : rn_V σ) (hH : rn_Ho cR cP cF h0 aR aP aF ra pa fa dh f σ) {x : Int32} (hno : ¬ ∃ i, i < σ.pn ∧ x = nI i) (sz : Nat) : rn_X l yX4_processAt wsX4_processAt ({ frames := 6, cells := 1, slots := 6, locals := 82 } : Room) D (rn_tys cR cP cF) (rn_S D f) [.ref h0, .int x] "java/lang/IndexOutOfBoundsException" sz := by
  refine rn_X.ofW (cc := cX4_processAt) (maxL := 3) (ret := (some (.object "RoomNumbers$HouseProcess"))) (by decide) rfl (Nat.le_of_ble_eq_true rfl) (fun p e s m below meth c ls hx hb hr hml hts hown hlocks hsz hF hG hE hout hl => ?_)
  have hl : lv_has ls 3 [(0, .ref h0), (1, .int x)] := hl
  refine lv_iload_n hx hb dX4_processAt_0 rfl (lv_at hl 1 rfl) ?_
  refine lv_if_lt (tgt := 13) hx hb dX4_processAt_1 (by decide) (fun c_1 => ?_) (fun c_1 => ?_)
  · exact rn_throw (E := "java/lang/IndexOutOfBoundsException") (ik := 103) (is := 179) (ic := 107) (text := "no such process") hx hb hfl hown hts hE hsz (by decide +kernel) xk_X4_processAt_103 xi_X4_processAt_103 xn_X4_processAt_103 xh_107 xg_103_107 (by decide) (by decide) (hl.1.trans hml.symm) dX4_processAt_13 dX4_processAt_16 dX4_processAt_17 dX4_processAt_19 dX4_processAt_22 hout (by decide) (by decide) (by decide) (by decide) hlocks
  · obtain ⟨i, hi31, rfl⟩ := nI_of c_1
    have hi : σ.pn ≤ i := by rcases Nat.lt_or_ge i (σ.pn) with h | h; exact absurd ⟨i, h, rfl⟩ hno; exact h
    have hl : lv_has ls 3 [(0, .ref h0), (1, .int (nI i))] := hl
    refine lv_iload_n hx hb dX4_processAt_4 rfl (lv_at hl 1 rfl) ?_
    refine lv_aload_n hx hb dX4_processAt_5 rfl (lv_at hl 0 rfl) ?_
    refine rn_get (ci := 4) (v := .ref aP) (C := RX4) (T := TX4) (N := 9) hx hb hts iw_X4_processAt_4 hown hG (hF _ _ hH.1) rfl 2 (by decide) fw_X4_processAt_24 rfl dX4_processAt_6 ?_
    refine rn_alen hx hb hG (hF _ _ hH.2.2.1) 1 rfl dX4_processAt_9 ?_
    refine rn_top (y := .int (nI 12)) rfl ?_
    refine lv_icmp_lt (tgt := 23) hx hb dX4_processAt_10 (by decide) (fun c_10 => ?_) (fun c_10 => ?_)
    · have hi10 := (nI_ltI hi31 (by omega)).mp c_10
      refine lv_aload_n hx hb dX4_processAt_23 rfl (lv_at hl 0 rfl) ?_
      refine rn_get (ci := 4) (v := .ref aP) (C := RX4) (T := TX4) (N := 9) hx hb hts iw_X4_processAt_4 hown hG (hF _ _ hH.1) rfl 2 (by decide) fw_X4_processAt_24 rfl dX4_processAt_24 ?_
      refine lv_iload_n hx hb dX4_processAt_27 rfl (lv_at hl 1 rfl) ?_
      refine rn_aald (j := i) hx hb hG (hF _ _ hH.2.2.1) 1 rfl hi10 (by decide) dX4_processAt_28 ?_
      refine rn_top (y := .null) (by rw [rn_row_out hi]; rfl) ?_
      refine lv_astore_nN (lv' := [(2, .null), (0, .ref h0), (1, .int (nI i))]) hx hb dX4_processAt_29 rfl hl (by decide) rfl (fun ls hl => ?_)
      refine lv_aload_nN hx hb dX4_processAt_30 rfl (lv_at hl 0 rfl) ?_
      refine lv_ifnonnullN hx hb dX4_processAt_31 ?_
      exact rn_throw (E := "java/lang/IndexOutOfBoundsException") (ik := 103) (is := 179) (ic := 107) (text := "no such process") hx hb hfl hown hts hE hsz (by decide +kernel) xk_X4_processAt_103 xi_X4_processAt_103 xn_X4_processAt_103 xh_107 xg_103_107 (by decide) (by decide) (hl.1.trans hml.symm) dX4_processAt_34 dX4_processAt_37 dX4_processAt_38 dX4_processAt_40 dX4_processAt_43 hout (by decide) (by decide) (by decide) (by decide) hlocks
    · exact rn_throw (E := "java/lang/IndexOutOfBoundsException") (ik := 103) (is := 179) (ic := 107) (text := "no such process") hx hb hfl hown hts hE hsz (by decide +kernel) xk_X4_processAt_103 xi_X4_processAt_103 xn_X4_processAt_103 xh_107 xg_103_107 (by decide) (by decide) (hl.1.trans hml.symm) dX4_processAt_13 dX4_processAt_16 dX4_processAt_17 dX4_processAt_19 dX4_processAt_22 hout (by decide) (by decide) (by decide) (by decide) hlocks

set_option maxHeartbeats 4000000 in
set_option maxRecDepth 100000 in
theorem c_fileAt (l : Launch) {D : va_G} {cR cP cF : ClassId} {h0 aR aP aF : Nat} {ra pa fa : Nat → Nat} {hd : Nat → Option Nat} {dh : Option Nat} {f : rn_T} {σ : rn_St} (hV : rn_V σ) (hH : rn_Ho cR cP cF h0 aR aP aF ra pa fa dh f σ) {i : Nat} (hi0 : i < σ.fn) : rn_R l yX4_fileAt wsX4_fileAt ({ frames := 0, cells := 0, slots := 0, locals := 0 } : Room) D (rn_tys cR cP cF) (rn_S D f) [.ref h0, .int (nI i)] (some (.ref (fa i))) := by
  refine rn_R.ofW (cc := cX4_fileAt) (maxL := 3) (ret := (some (.object "RoomNumbers$HouseFile"))) (by decide) rfl (Nat.le_of_ble_eq_true rfl) (fun p e s m below meth c ls hx hb hr hml hts hown hlocks hF hG hl => ?_)
  have hl : lv_has ls 3 [(0, .ref h0), (1, .int (nI i))] := hl
  refine lv_iload_n hx hb dX4_fileAt_0 rfl (lv_at hl 1 rfl) ?_
  refine lv_if_lt (tgt := 13) hx hb dX4_fileAt_1 (by decide) (fun c_1 => ?_) (fun c_1 => ?_)
  · exact absurd c_1 (nI_pos (by have := hV.2.2.2.2.2.2.1; omega))
  · refine lv_iload_n hx hb dX4_fileAt_4 rfl (lv_at hl 1 rfl) ?_
    refine lv_aload_n hx hb dX4_fileAt_5 rfl (lv_at hl 0 rfl) ?_
    refine rn_get (ci := 4) (v := .ref aF) (C := RX4) (T := TX4) (N := 9) hx hb hts iw_X4_fileAt_4 hown hG (hF _ _ hH.1) rfl 4 (by decide) fw_X4_fileAt_36 rfl dX4_fileAt_6 ?_
    refine rn_alen hx hb hG (hF _ _ hH.2.2.2) 2 rfl dX4_fileAt_9 ?_
    refine rn_top (y := .int (nI 20)) rfl ?_
    refine lv_icmp_lt (tgt := 23) hx hb dX4_fileAt_10 (by decide) (fun c_10 => ?_) (fun c_10 => ?_)
    · refine lv_aload_n hx hb dX4_fileAt_23 rfl (lv_at hl 0 rfl) ?_
      refine rn_get (ci := 4) (v := .ref aF) (C := RX4) (T := TX4) (N := 9) hx hb hts iw_X4_fileAt_4 hown hG (hF _ _ hH.1) rfl 4 (by decide) fw_X4_fileAt_36 rfl dX4_fileAt_24 ?_
      refine lv_iload_n hx hb dX4_fileAt_27 rfl (lv_at hl 1 rfl) ?_
      refine rn_aald (j := i) hx hb hG (hF _ _ hH.2.2.2) 2 rfl (by have := hV.2.2.2.2.2.2.1; omega) (by decide) dX4_fileAt_28 ?_
      refine rn_top (y := .ref (fa i)) (by rw [rn_row_in hi0]; rfl) ?_
      refine lv_astore_n (lv' := [(2, .ref (fa i)), (0, .ref h0), (1, .int (nI i))]) hx hb dX4_fileAt_29 rfl hl (by decide) rfl (fun ls hl => ?_)
      refine lv_aload_n hx hb dX4_fileAt_30 rfl (lv_at hl 0 rfl) ?_
      refine lv_ifnonnull (tgt := 44) hx hb dX4_fileAt_31 (by decide) ?_
      refine lv_aload_n hx hb dX4_fileAt_44 rfl (lv_at hl 0 rfl) ?_
      exact rn_aret hx hb hr hlocks rfl dX4_fileAt_45
    · exact absurd ((nI_ltI (by have := hV.2.2.2.2.2.2.1; omega) (by omega)).mpr (by have := hV.2.2.2.2.2.2.1; omega)) c_10

set_option maxHeartbeats 4000000 in
set_option maxRecDepth 100000 in
theorem x_fileAt (l : Launch) (hfl : l.stackTraces = false) {D : va_G} {cR cP cF : ClassId} {h0 aR aP aF : Nat} {ra pa fa : Nat → Nat} {hd : Nat → Option Nat} {dh : Option Nat} {f : rn_T} {σ : rn_St} (hV : rn_V σ) (hH : rn_Ho cR cP cF h0 aR aP aF ra pa fa dh f σ) {x : Int32} (hno : ¬ ∃ i, i < σ.fn ∧ x = nI i) (sz : Nat) : rn_X l yX4_fileAt wsX4_fileAt ({ frames := 6, cells := 1, slots := 6, locals := 82 } : Room) D (rn_tys cR cP cF) (rn_S D f) [.ref h0, .int x] "java/lang/IndexOutOfBoundsException" sz := by
  refine rn_X.ofW (cc := cX4_fileAt) (maxL := 3) (ret := (some (.object "RoomNumbers$HouseFile"))) (by decide) rfl (Nat.le_of_ble_eq_true rfl) (fun p e s m below meth c ls hx hb hr hml hts hown hlocks hsz hF hG hE hout hl => ?_)
  have hl : lv_has ls 3 [(0, .ref h0), (1, .int x)] := hl
  refine lv_iload_n hx hb dX4_fileAt_0 rfl (lv_at hl 1 rfl) ?_
  refine lv_if_lt (tgt := 13) hx hb dX4_fileAt_1 (by decide) (fun c_1 => ?_) (fun c_1 => ?_)
  · exact rn_throw (E := "java/lang/IndexOutOfBoundsException") (ik := 103) (is := 181) (ic := 107) (text := "no such file") hx hb hfl hown hts hE hsz (by decide +kernel) xk_X4_fileAt_103 xi_X4_fileAt_103 xn_X4_fileAt_103 xh_107 xg_103_107 (by decide) (by decide) (hl.1.trans hml.symm) dX4_fileAt_13 dX4_fileAt_16 dX4_fileAt_17 dX4_fileAt_19 dX4_fileAt_22 hout (by decide) (by decide) (by decide) (by decide) hlocks
  · obtain ⟨i, hi31, rfl⟩ := nI_of c_1
    have hi : σ.fn ≤ i := by rcases Nat.lt_or_ge i (σ.fn) with h | h; exact absurd ⟨i, h, rfl⟩ hno; exact h
    have hl : lv_has ls 3 [(0, .ref h0), (1, .int (nI i))] := hl
    refine lv_iload_n hx hb dX4_fileAt_4 rfl (lv_at hl 1 rfl) ?_
    refine lv_aload_n hx hb dX4_fileAt_5 rfl (lv_at hl 0 rfl) ?_
    refine rn_get (ci := 4) (v := .ref aF) (C := RX4) (T := TX4) (N := 9) hx hb hts iw_X4_fileAt_4 hown hG (hF _ _ hH.1) rfl 4 (by decide) fw_X4_fileAt_36 rfl dX4_fileAt_6 ?_
    refine rn_alen hx hb hG (hF _ _ hH.2.2.2) 2 rfl dX4_fileAt_9 ?_
    refine rn_top (y := .int (nI 20)) rfl ?_
    refine lv_icmp_lt (tgt := 23) hx hb dX4_fileAt_10 (by decide) (fun c_10 => ?_) (fun c_10 => ?_)
    · have hi10 := (nI_ltI hi31 (by omega)).mp c_10
      refine lv_aload_n hx hb dX4_fileAt_23 rfl (lv_at hl 0 rfl) ?_
      refine rn_get (ci := 4) (v := .ref aF) (C := RX4) (T := TX4) (N := 9) hx hb hts iw_X4_fileAt_4 hown hG (hF _ _ hH.1) rfl 4 (by decide) fw_X4_fileAt_36 rfl dX4_fileAt_24 ?_
      refine lv_iload_n hx hb dX4_fileAt_27 rfl (lv_at hl 1 rfl) ?_
      refine rn_aald (j := i) hx hb hG (hF _ _ hH.2.2.2) 2 rfl hi10 (by decide) dX4_fileAt_28 ?_
      refine rn_top (y := .null) (by rw [rn_row_out hi]; rfl) ?_
      refine lv_astore_nN (lv' := [(2, .null), (0, .ref h0), (1, .int (nI i))]) hx hb dX4_fileAt_29 rfl hl (by decide) rfl (fun ls hl => ?_)
      refine lv_aload_nN hx hb dX4_fileAt_30 rfl (lv_at hl 0 rfl) ?_
      refine lv_ifnonnullN hx hb dX4_fileAt_31 ?_
      exact rn_throw (E := "java/lang/IndexOutOfBoundsException") (ik := 103) (is := 181) (ic := 107) (text := "no such file") hx hb hfl hown hts hE hsz (by decide +kernel) xk_X4_fileAt_103 xi_X4_fileAt_103 xn_X4_fileAt_103 xh_107 xg_103_107 (by decide) (by decide) (hl.1.trans hml.symm) dX4_fileAt_34 dX4_fileAt_37 dX4_fileAt_38 dX4_fileAt_40 dX4_fileAt_43 hout (by decide) (by decide) (by decide) (by decide) hlocks
    · exact rn_throw (E := "java/lang/IndexOutOfBoundsException") (ik := 103) (is := 181) (ic := 107) (text := "no such file") hx hb hfl hown hts hE hsz (by decide +kernel) xk_X4_fileAt_103 xi_X4_fileAt_103 xn_X4_fileAt_103 xh_107 xg_103_107 (by decide) (by decide) (hl.1.trans hml.symm) dX4_fileAt_13 dX4_fileAt_16 dX4_fileAt_17 dX4_fileAt_19 dX4_fileAt_22 hout (by decide) (by decide) (by decide) (by decide) hlocks

set_option maxHeartbeats 4000000 in
set_option maxRecDepth 100000 in
theorem c_requireNumber (l : Launch) {D : va_G} {tys : List (ClassId × FieldType)} {f : rn_T} {k : Nat} (hk : k ≤ 998) : rn_R l yX4_requireNumber wsX4_requireNumber ({ frames := 0, cells := 0, slots := 0, locals := 0 } : Room) D tys (rn_S D f) [.int (nI k)] none := by
  refine rn_R.ofW (cc := cX4_requireNumber) (maxL := 1) (ret := none) (by decide) rfl (Nat.le_of_ble_eq_true rfl) (fun p e s m below meth c ls hx hb hr hml hts hown hlocks hF hG hl => ?_)
  have hl : lv_has ls 1 [(0, .int (nI k))] := hl
  refine lv_iload_n hx hb dX4_requireNumber_0 rfl (lv_at hl 0 rfl) ?_
  refine lv_if_lt (tgt := 11) hx hb dX4_requireNumber_1 (by decide) (fun c_1 => ?_) (fun c_1 => ?_)
  · exact absurd c_1 (nI_pos (by omega))
  · refine lv_iload_n hx hb dX4_requireNumber_4 rfl (lv_at hl 0 rfl) ?_
    refine lv_sipush (v := 998) hx hb dX4_requireNumber_5 (by decide +kernel) ?_
    refine lv_icmp_le (tgt := 21) hx hb dX4_requireNumber_8 (by decide) (fun c_8 => ?_) (fun c_8 => ?_)
    · exact rn_vret hx hb hr hlocks rfl dX4_requireNumber_21
    · exact absurd ((nI_leI (b := 998) (by omega) (by omega)).mpr (by omega)) c_8

theorem rn_nle {x y : Int32} (h : x < y) : ¬ y ≤ x := by
  intro h2
  have a := Int32.lt_iff_toInt_lt.mp h
  have b := Int32.le_iff_toInt_le.mp h2
  omega

set_option maxHeartbeats 4000000 in
set_option maxRecDepth 100000 in
theorem x_requireNumber (l : Launch) (hfl : l.stackTraces = false) {D : va_G} {tys : List (ClassId × FieldType)} {f : rn_T} {x : Int32} (hbad : x < 0 ∨ nI 998 < x) (sz : Nat) : rn_X l yX4_requireNumber wsX4_requireNumber ({ frames := 6, cells := 1, slots := 6, locals := 82 } : Room) D tys (rn_S D f) [.int x] "java/lang/IllegalArgumentException" sz := by
  refine rn_X.ofW (cc := cX4_requireNumber) (maxL := 1) (ret := none) (by decide) rfl (Nat.le_of_ble_eq_true rfl) (fun p e s m below meth c ls hx hb hr hml hts hown hlocks hsz hF hG hE hout hl => ?_)
  have hl : lv_has ls 1 [(0, .int x)] := hl
  refine lv_iload_n hx hb dX4_requireNumber_0 rfl (lv_at hl 0 rfl) ?_
  refine lv_if_lt (tgt := 11) hx hb dX4_requireNumber_1 (by decide) (fun c_1 => ?_) (fun c_1 => ?_)
  · exact rn_throw (E := "java/lang/IllegalArgumentException") (ik := 80) (is := 183) (ic := 84) (text := "a number is 0 to 998") hx hb hfl hown hts hE hsz (by decide +kernel) xk_X4_requireNumber_80 xi_X4_requireNumber_80 xn_X4_requireNumber_80 xh_84 xg_80_84 (by decide) (by decide) (hl.1.trans hml.symm) dX4_requireNumber_11 dX4_requireNumber_14 dX4_requireNumber_15 dX4_requireNumber_17 dX4_requireNumber_20 hout (by decide) (by decide) (by decide) (by decide) hlocks
  · refine lv_iload_n hx hb dX4_requireNumber_4 rfl (lv_at hl 0 rfl) ?_
    refine lv_sipush (v := 998) hx hb dX4_requireNumber_5 (by decide +kernel) ?_
    refine lv_icmp_le (tgt := 21) hx hb dX4_requireNumber_8 (by decide) (fun c_8 => ?_) (fun c_8 => ?_)
    · exact absurd c_8 (rn_nle (hbad.elim (fun h => absurd h c_1) id))
    · exact rn_throw (E := "java/lang/IllegalArgumentException") (ik := 80) (is := 183) (ic := 84) (text := "a number is 0 to 998") hx hb hfl hown hts hE hsz (by decide +kernel) xk_X4_requireNumber_80 xi_X4_requireNumber_80 xn_X4_requireNumber_80 xh_84 xg_80_84 (by decide) (by decide) (hl.1.trans hml.symm) dX4_requireNumber_11 dX4_requireNumber_14 dX4_requireNumber_15 dX4_requireNumber_17 dX4_requireNumber_20 hout (by decide) (by decide) (by decide) (by decide) hlocks
end
section
theorem rn_up_up {α : Type} (f : Nat → α) (k : Nat) (v w : α) : va_up (va_up f k v) k w = va_up f k w := by
  funext j
  by_cases h : j = k <;> simp [va_up, h]

set_option maxHeartbeats 4000000 in
set_option maxRecDepth 100000 in
theorem c_File_init (l : Launch) {D : va_G} {tys : List (ClassId × FieldType)} {f : rn_T} {q sz : Nat} {x0 x1 : Int32} (o md : Int32) (hq : f q = some (.inr (0, [.int x0, .int x1]))) : rn_W l yX0_init wsX0_init ({ frames := 1, cells := 0, slots := 0, locals := 12 } : Room) D tys (rn_S D f) [.ref q, .int o, .int md] none (rn_S D (va_up f q (some (.inr (0, [.int o, .int md]))))) (fun x => x = q) 0 0 sz := by
  refine rn_W.ofW (cc := cX0_init) (maxL := 3) (ret := none) (by decide) rfl (Nat.le_of_ble_eq_true rfl) (fun p e s m below meth c ls hx hb hr hml hts hown hlocks hin hsz hF hG hS hl => ?_)
  have hl : lv_has ls 3 [(0, .ref q), (1, .int o), (2, .int md)] := hl
  refine lv_aload_n hx hb dX0_init_0 rfl (lv_at hl 0 rfl) ?_
  refine W.objInit hx hb hown (hts _ (mw_X0_init_3)) (hts _ ow_X0_init_1) (hts _ ow_X0_init_2) rfl (by rw [hml]; exact hl.1) rfl dX0_init_1 (Nat.le_of_ble_eq_true rfl) (Nat.le_of_ble_eq_true rfl) ?_
  refine W.eq (g2 := F0 m 4 ls []) rfl ?_
  refine lv_aload_n hx hb dX0_init_4 rfl (lv_at hl 0 rfl) ?_
  refine lv_iload_n hx hb dX0_init_5 rfl (lv_at hl 1 rfl) ?_
  refine rn_put (A := fun x => x = q) (ci := 0) (v := .int o) (C := RX0) (T := TX0) (N := 2) (fs' := [.int o, .int x1]) hx hb hts iw_X0_init_0 tyX0 tyX0_ok nmX0 hown hG hS rfl (hF _ _ hq) rfl 0 (by decide) fw_X0_init_9 (Or.inl rfl) rfl rfl (Nat.le_of_ble_eq_true rfl) rfl dX0_init_6 (fun H locs hat hz ho hS => ?_)
  have hF := hF.set hat ho
  refine lv_aload_n hx hb dX0_init_9 rfl (lv_at hl 0 rfl) ?_
  refine lv_iload_n hx hb dX0_init_10 rfl (lv_at hl 2 rfl) ?_
  refine rn_put (A := fun x => x = q) (ci := 0) (v := .int md) (C := RX0) (T := TX0) (N := 2) (fs' := [.int o, .int md]) hx hb hts iw_X0_init_0 tyX0 tyX0_ok nmX0 hown hG hS rfl (hF _ _ (rn_up_eq _ _ _)) rfl 1 (by decide) fw_X0_init_15 (Or.inr ⟨hin, rfl, rfl⟩) rfl rfl (Nat.le_of_ble_eq_true rfl) rfl dX0_init_11 (fun H locs hat hz ho hS => ?_)
  have hF := hF.set hat ho
  rw [rn_up_up] at hF
  exact rn_Wvret hx hb hr hlocks hS (by decide) (by decide) rfl hF dX0_init_14

set_option maxHeartbeats 4000000 in
set_option maxRecDepth 100000 in
theorem c_Process_init (l : Launch) {D : va_G} {tys : List (ClassId × FieldType)} {f : rn_T} {q sz : Nat} {x1 x2 : Int32} {r : Nat} (u k : Int32) (hq : f q = some (.inr (1, [.null, .int x1, .int x2]))) : rn_W l yX1_init wsX1_init ({ frames := 1, cells := 0, slots := 0, locals := 12 } : Room) D tys (rn_S D f) [.ref q, .ref r, .int u, .int k] none (rn_S D (va_up f q (some (.inr (1, [.ref r, .int u, .int k]))))) (fun x => x = q) 0 0 sz := by
  refine rn_W.ofW (cc := cX1_init) (maxL := 4) (ret := none) (by decide) rfl (Nat.le_of_ble_eq_true rfl) (fun p e s m below meth c ls hx hb hr hml hts hown hlocks hin hsz hF hG hS hl => ?_)
  have hl : lv_has ls 4 [(0, .ref q), (1, .ref r), (2, .int u), (3, .int k)] := hl
  refine lv_aload_n hx hb dX1_init_0 rfl (lv_at hl 0 rfl) ?_
  refine W.objInit hx hb hown (hts _ (mw_X1_init_3)) (hts _ ow_X1_init_1) (hts _ ow_X1_init_2) rfl (by rw [hml]; exact hl.1) rfl dX1_init_1 (Nat.le_of_ble_eq_true rfl) (Nat.le_of_ble_eq_true rfl) ?_
  refine W.eq (g2 := F0 m 4 ls []) rfl ?_
  refine lv_aload_n hx hb dX1_init_4 rfl (lv_at hl 0 rfl) ?_
  refine lv_aload_n hx hb dX1_init_5 rfl (lv_at hl 1 rfl) ?_
  refine rn_put (A := fun x => x = q) (ci := 1) (v := .ref r) (C := RX1) (T := TX1) (N := 3) (fs' := [.ref r, .int x1, .int x2]) hx hb hts iw_X1_init_1 tyX1 tyX1_ok nmX1 hown hG hS rfl (hF _ _ hq) rfl 0 (by decide) fw_X1_init_9 (Or.inl rfl) rfl rfl (Nat.le_of_ble_eq_true rfl) rfl dX1_init_6 (fun H locs hat hz ho hS => ?_)
  have hF := hF.set hat ho
  refine lv_aload_n hx hb dX1_init_9 rfl (lv_at hl 0 rfl) ?_
  refine lv_iload_n hx hb dX1_init_10 rfl (lv_at hl 2 rfl) ?_
  refine rn_put (A := fun x => x = q) (ci := 1) (v := .int u) (C := RX1) (T := TX1) (N := 3) (fs' := [.ref r, .int u, .int x2]) hx hb hts iw_X1_init_1 tyX1 tyX1_ok nmX1 hown hG hS rfl (hF _ _ (rn_up_eq _ _ _)) rfl 1 (by decide) fw_X1_init_15 (Or.inl rfl) rfl rfl (Nat.le_of_ble_eq_true rfl) rfl dX1_init_11 (fun H locs hat hz ho hS => ?_)
  have hF := hF.set hat ho
  rw [rn_up_up] at hF
  refine lv_aload_n hx hb dX1_init_14 rfl (lv_at hl 0 rfl) ?_
  refine lv_iload_n hx hb dX1_init_15 rfl (lv_at hl 3 rfl) ?_
  refine rn_put (A := fun x => x = q) (ci := 1) (v := .int k) (C := RX1) (T := TX1) (N := 3) (fs' := [.ref r, .int u, .int k]) hx hb hts iw_X1_init_1 tyX1 tyX1_ok nmX1 hown hG hS rfl (hF _ _ (rn_up_eq _ _ _)) rfl 2 (by decide) fw_X1_init_19 (Or.inl rfl) rfl rfl (Nat.le_of_ble_eq_true rfl) rfl dX1_init_16 (fun H locs hat hz ho hS => ?_)
  have hF := hF.set hat ho
  rw [rn_up_up] at hF
  exact rn_Wvret hx hb hr hlocks hS (by decide) (by decide) rfl hF dX1_init_19

set_option maxHeartbeats 4000000 in
set_option maxRecDepth 100000 in
theorem c_Line_init (l : Launch) {D : va_G} {tys : List (ClassId × FieldType)} {f : rn_T} {q sz : Nat} {x0 x1 x2 : Int32} (ea eb ec : Int32) (z : Option Nat) (hq : f q = some (.inr (2, [.int x0, .int x1, .int x2, .null]))) : rn_W l yX2_init wsX2_init ({ frames := 1, cells := 0, slots := 0, locals := 12 } : Room) D tys (rn_S D f) [.ref q, .int ea, .int eb, .int ec, va_rf z] none (rn_S D (va_up f q (some (.inr (2, [.int ea, .int eb, .int ec, va_rf z]))))) (fun x => x = q) 0 0 sz := by
  refine rn_W.ofW (cc := cX2_init) (maxL := 5) (ret := none) (by decide) rfl (by cases z <;> exact Nat.le_of_ble_eq_true rfl) (fun p e s m below meth c ls hx hb hr hml hts hown hlocks hin hsz hF hG hS hl => ?_)
  have hl : lv_has ls 5 [(0, .ref q), (1, .int ea), (2, .int eb), (3, .int ec), (4, va_rf z)] := by cases z <;> exact hl
  refine lv_aload_n hx hb dX2_init_0 rfl (lv_at hl 0 rfl) ?_
  refine W.objInit hx hb hown (hts _ (mw_X2_init_1)) (hts _ ow_X2_init_1) (hts _ ow_X2_init_2) rfl (by rw [hml]; exact hl.1) rfl dX2_init_1 (Nat.le_of_ble_eq_true rfl) (Nat.le_of_ble_eq_true rfl) ?_
  refine W.eq (g2 := F0 m 4 ls []) rfl ?_
  refine lv_aload_n hx hb dX2_init_4 rfl (lv_at hl 0 rfl) ?_
  refine lv_iload_n hx hb dX2_init_5 rfl (lv_at hl 1 rfl) ?_
  refine rn_put (A := fun x => x = q) (ci := 2) (v := .int ea) (C := RX2) (T := TX2) (N := 4) (fs' := [.int ea, .int x1, .int x2, .null]) hx hb hts iw_X2_init_2 tyX2 tyX2_ok nmX2 hown hG hS rfl (hF _ _ hq) rfl 0 (by decide) fw_X2_init_7 (Or.inr ⟨hin, rfl, rfl⟩) rfl rfl (Nat.le_of_ble_eq_true rfl) rfl dX2_init_6 (fun H locs hat hz ho hS => ?_)
  have hF := hF.set hat ho
  refine lv_aload_n hx hb dX2_init_9 rfl (lv_at hl 0 rfl) ?_
  refine lv_iload_n hx hb dX2_init_10 rfl (lv_at hl 2 rfl) ?_
  refine rn_put (A := fun x => x = q) (ci := 2) (v := .int eb) (C := RX2) (T := TX2) (N := 4) (fs' := [.int ea, .int eb, .int x2, .null]) hx hb hts iw_X2_init_2 tyX2 tyX2_ok nmX2 hown hG hS rfl (hF _ _ (rn_up_eq _ _ _)) rfl 1 (by decide) fw_X2_init_13 (Or.inr ⟨hin, rfl, rfl⟩) rfl rfl (Nat.le_of_ble_eq_true rfl) rfl dX2_init_11 (fun H locs hat hz ho hS => ?_)
  have hF := hF.set hat ho
  rw [rn_up_up] at hF
  refine lv_aload_n hx hb dX2_init_14 rfl (lv_at hl 0 rfl) ?_
  refine lv_iload_n hx hb dX2_init_15 rfl (lv_at hl 3 rfl) ?_
  refine rn_put (A := fun x => x = q) (ci := 2) (v := .int ec) (C := RX2) (T := TX2) (N := 4) (fs' := [.int ea, .int eb, .int ec, .null]) hx hb hts iw_X2_init_2 tyX2 tyX2_ok nmX2 hown hG hS rfl (hF _ _ (rn_up_eq _ _ _)) rfl 2 (by decide) fw_X2_init_16 (Or.inr ⟨hin, rfl, rfl⟩) rfl rfl (Nat.le_of_ble_eq_true rfl) rfl dX2_init_16 (fun H locs hat hz ho hS => ?_)
  have hF := hF.set hat ho
  rw [rn_up_up] at hF
  refine lv_aload_n hx hb dX2_init_19 rfl (lv_at hl 0 rfl) ?_
  refine rn_aload hx hb dX2_init_20 (lv_at hl 4 rfl) ?_
  refine rn_put (A := fun x => x = q) (ci := 2) (v := va_rf z) (C := RX2) (T := TX2) (N := 4) (fs' := [.int ea, .int eb, .int ec, va_rf z]) hx hb hts iw_X2_init_2 tyX2 tyX2_ok nmX2 hown hG hS rfl (hF _ _ (rn_up_eq _ _ _)) rfl 3 (by decide) fw_X2_init_19 (Or.inr ⟨hin, rfl, rfl⟩) (rn_nrf _ _) (rn_fitrf _ _) (Nat.le_of_ble_eq_true rfl) rfl dX2_init_22 (fun H locs hat hz ho hS => ?_)
  have hF := hF.set hat ho
  rw [rn_up_up] at hF
  exact rn_Wvret hx hb hr hlocks hS (by decide) (by decide) rfl hF dX2_init_25

set_option maxHeartbeats 4000000 in
set_option maxRecDepth 100000 in
theorem c_Room_init (l : Launch) {D : va_G} {tys : List (ClassId × FieldType)} {f : rn_T} {q sz : Nat} {x0 x2 : Int32} (n : Int32) (z : Option Nat) (w : Int32) (hq : f q = some (.inr (3, [.int x0, .null, .int x2, .null]))) : rn_W l yX3_init wsX3_init ({ frames := 1, cells := 0, slots := 0, locals := 12 } : Room) D tys (rn_S D f) [.ref q, .int n, va_rf z, .int w] none (rn_S D (va_up f q (some (.inr (3, [.int n, va_rf z, .int w, .null]))))) (fun x => x = q) 0 0 sz := by
  refine rn_W.ofW (cc := cX3_init) (maxL := 4) (ret := none) (by decide) rfl (by cases z <;> exact Nat.le_of_ble_eq_true rfl) (fun p e s m below meth c ls hx hb hr hml hts hown hlocks hin hsz hF hG hS hl => ?_)
  have hl : lv_has ls 4 [(0, .ref q), (1, .int n), (2, va_rf z), (3, .int w)] := by cases z <;> exact hl
  refine lv_aload_n hx hb dX3_init_0 rfl (lv_at hl 0 rfl) ?_
  refine W.objInit hx hb hown (hts _ (mw_X3_init_3)) (hts _ ow_X3_init_1) (hts _ ow_X3_init_2) rfl (by rw [hml]; exact hl.1) rfl dX3_init_1 (Nat.le_of_ble_eq_true rfl) (Nat.le_of_ble_eq_true rfl) ?_
  refine W.eq (g2 := F0 m 4 ls []) rfl ?_
  refine lv_aload_n hx hb dX3_init_4 rfl (lv_at hl 0 rfl) ?_
  refine lv_iload_n hx hb dX3_init_5 rfl (lv_at hl 1 rfl) ?_
  refine rn_put (A := fun x => x = q) (ci := 3) (v := .int n) (C := RX3) (T := TX3) (N := 4) (fs' := [.int n, .null, .int x2, .null]) hx hb hts iw_X3_init_3 tyX3 tyX3_ok nmX3 hown hG hS rfl (hF _ _ hq) rfl 0 (by decide) fw_X3_init_9 (Or.inr ⟨hin, rfl, rfl⟩) rfl rfl (Nat.le_of_ble_eq_true rfl) rfl dX3_init_6 (fun H locs hat hz ho hS => ?_)
  have hF := hF.set hat ho
  refine lv_aload_n hx hb dX3_init_9 rfl (lv_at hl 0 rfl) ?_
  refine rn_aload_n hx hb dX3_init_10 rfl (lv_at hl 2 rfl) ?_
  refine rn_put (A := fun x => x = q) (ci := 3) (v := va_rf z) (C := RX3) (T := TX3) (N := 4) (fs' := [.int n, va_rf z, .int x2, .null]) hx hb hts iw_X3_init_3 tyX3 tyX3_ok nmX3 hown hG hS rfl (hF _ _ (rn_up_eq _ _ _)) rfl 1 (by decide) fw_X3_init_15 (Or.inr ⟨hin, rfl, rfl⟩) (rn_nrf _ _) (rn_fitrf _ _) (Nat.le_of_ble_eq_true rfl) rfl dX3_init_11 (fun H locs hat hz ho hS => ?_)
  have hF := hF.set hat ho
  rw [rn_up_up] at hF
  refine lv_aload_n hx hb dX3_init_14 rfl (lv_at hl 0 rfl) ?_
  refine lv_iload_n hx hb dX3_init_15 rfl (lv_at hl 3 rfl) ?_
  refine rn_put (A := fun x => x = q) (ci := 3) (v := .int w) (C := RX3) (T := TX3) (N := 4) (fs' := [.int n, va_rf z, .int w, .null]) hx hb hts iw_X3_init_3 tyX3 tyX3_ok nmX3 hown hG hS rfl (hF _ _ (rn_up_eq _ _ _)) rfl 2 (by decide) fw_X3_init_19 (Or.inr ⟨hin, rfl, rfl⟩) rfl rfl (Nat.le_of_ble_eq_true rfl) rfl dX3_init_16 (fun H locs hat hz ho hS => ?_)
  have hF := hF.set hat ho
  rw [rn_up_up] at hF
  refine lv_aload_n hx hb dX3_init_19 rfl (lv_at hl 0 rfl) ?_
  refine lv_null hx hb dX3_init_20 ?_
  refine rn_put (A := fun x => x = q) (ci := 3) (v := .null) (C := RX3) (T := TX3) (N := 4) (fs' := [.int n, va_rf z, .int w, .null]) hx hb hts iw_X3_init_3 tyX3 tyX3_ok nmX3 hown hG hS rfl (hF _ _ (rn_up_eq _ _ _)) rfl 3 (by decide) fw_X3_init_22 (Or.inl rfl) rfl rfl (Nat.le_of_ble_eq_true rfl) rfl dX3_init_21 (fun H locs hat hz ho hS => ?_)
  have hF := hF.set hat ho
  rw [rn_up_up] at hF
  exact rn_Wvret hx hb hr hlocks hS (by decide) (by decide) rfl hF dX3_init_24

set_option maxHeartbeats 4000000 in
set_option maxRecDepth 100000 in
theorem c_moveInto (l : Launch) {D : va_G} {tys : List (ClassId × FieldType)} {f : rn_T} {q sz : Nat} {r0 r : Nat} {u k : Int32} (hq : f q = some (.inr (1, [.ref r0, .int u, .int k]))) : rn_W l yX1_moveInto wsX1_moveInto ({ frames := 0, cells := 0, slots := 0, locals := 0 } : Room) D tys (rn_S D f) [.ref q, .ref r] none (rn_S D (va_up f q (some (.inr (1, [.ref r, .int u, .int 15]))))) (fun x => x = q) 0 0 sz := by
  refine rn_W.ofW (cc := cX1_moveInto) (maxL := 2) (ret := none) (by decide) rfl (Nat.le_of_ble_eq_true rfl) (fun p e s m below meth c ls hx hb hr hml hts hown hlocks hin hsz hF hG hS hl => ?_)
  have hl : lv_has ls 2 [(0, .ref q), (1, .ref r)] := hl
  refine lv_aload_n hx hb dX1_moveInto_0 rfl (lv_at hl 0 rfl) ?_
  refine lv_aload_n hx hb dX1_moveInto_1 rfl (lv_at hl 1 rfl) ?_
  refine rn_put (A := fun x => x = q) (ci := 1) (v := .ref r) (C := RX1) (T := TX1) (N := 3) (fs' := [.ref r, .int u, .int k]) hx hb hts iw_X1_moveInto_1 tyX1 tyX1_ok nmX1 hown hG hS rfl (hF _ _ hq) rfl 0 (by decide) fw_X1_moveInto_9 (Or.inl rfl) rfl rfl (Nat.le_of_ble_eq_true rfl) rfl dX1_moveInto_2 (fun H locs hat hz ho hS => ?_)
  have hF := hF.set hat ho
  refine lv_aload_n hx hb dX1_moveInto_5 rfl (lv_at hl 0 rfl) ?_
  refine lv_bipush (v := 15) hx hb dX1_moveInto_6 (by decide +kernel) ?_
  refine rn_put (A := fun x => x = q) (ci := 1) (v := .int 15) (C := RX1) (T := TX1) (N := 3) (fs' := [.ref r, .int u, .int 15]) hx hb hts iw_X1_moveInto_1 tyX1 tyX1_ok nmX1 hown hG hS rfl (hF _ _ (rn_up_eq _ _ _)) rfl 2 (by decide) fw_X1_moveInto_19 (Or.inl rfl) rfl rfl (Nat.le_of_ble_eq_true rfl) rfl dX1_moveInto_8 (fun H locs hat hz ho hS => ?_)
  have hF := hF.set hat ho
  rw [rn_up_up] at hF
  exact rn_Wvret hx hb hr hlocks hS (by decide) (by decide) rfl hF dX1_moveInto_11

set_option maxHeartbeats 4000000 in
set_option maxRecDepth 100000 in
theorem c_refuse (l : Launch) {D : va_G} {tys : List (ClassId × FieldType)} {f : rn_T} {q sz : Nat} {aR aP aF : Nat} {n0 n1 n2 rc la : Int32} {dh : Option Nat} (k : Int32) (hq : f q = some (.inr (4, [.ref aR, .int n0, .ref aP, .int n1, .ref aF, .int n2, va_rf dh, .int rc, .int la]))) : rn_W l yX4_refuse wsX4_refuse ({ frames := 0, cells := 0, slots := 0, locals := 0 } : Room) D tys (rn_S D f) [.ref q, .int k] (some (.int k)) (rn_S D (va_up f q (some (.inr (4, [.ref aR, .int n0, .ref aP, .int n1, .ref aF, .int n2, va_rf dh, .int (rc + 1), .int k]))))) (fun x => x = q) 0 0 sz := by
  refine rn_W.ofW (cc := cX4_refuse) (maxL := 2) (ret := (some .int)) (by decide) rfl (Nat.le_of_ble_eq_true rfl) (fun p e s m below meth c ls hx hb hr hml hts hown hlocks hin hsz hF hG hS hl => ?_)
  have hl : lv_has ls 2 [(0, .ref q), (1, .int k)] := hl
  refine lv_aload_n hx hb dX4_refuse_0 rfl (lv_at hl 0 rfl) ?_
  refine lv_dup hx hb dX4_refuse_1 rfl ?_
  refine rn_get (ci := 4) (v := .int rc) (C := RX4) (T := TX4) (N := 9) hx hb hts iw_X4_refuse_4 hown hG (hF _ _ hq) rfl 7 (by decide) fw_X4_refuse_47 rfl dX4_refuse_2 ?_
  refine lv_iconst (v := 1) hx hb dX4_refuse_5 (by decide) ?_
  refine lv_iadd hx hb dX4_refuse_6 ?_
  refine rn_put (A := fun x => x = q) (ci := 4) (v := .int (rc + 1)) (C := RX4) (T := TX4) (N := 9) (fs' := [.ref aR, .int n0, .ref aP, .int n1, .ref aF, .int n2, va_rf dh, .int (rc + 1), .int la]) hx hb hts iw_X4_refuse_4 tyX4 tyX4_ok nmX4 hown hG hS rfl (hF _ _ hq) rfl 7 (by decide) fw_X4_refuse_47 (Or.inl rfl) rfl rfl (Nat.le_of_ble_eq_true rfl) rfl dX4_refuse_7 (fun H locs hat hz ho hS => ?_)
  have hF := hF.set hat ho
  refine lv_aload_n hx hb dX4_refuse_10 rfl (lv_at hl 0 rfl) ?_
  refine lv_iload_n hx hb dX4_refuse_11 rfl (lv_at hl 1 rfl) ?_
  refine rn_put (A := fun x => x = q) (ci := 4) (v := .int k) (C := RX4) (T := TX4) (N := 9) (fs' := [.ref aR, .int n0, .ref aP, .int n1, .ref aF, .int n2, va_rf dh, .int (rc + 1), .int k]) hx hb hts iw_X4_refuse_4 tyX4 tyX4_ok nmX4 hown hG hS rfl (hF _ _ (rn_up_eq _ _ _)) rfl 8 (by decide) fw_X4_refuse_50 (Or.inl rfl) rfl rfl (Nat.le_of_ble_eq_true rfl) rfl dX4_refuse_12 (fun H locs hat hz ho hS => ?_)
  have hF := hF.set hat ho
  rw [rn_up_up] at hF
  refine lv_iload_n hx hb dX4_refuse_15 rfl (lv_at hl 1 rfl) ?_
  exact rn_Wiret hx hb hr rfl hlocks hS (by decide) (by decide) rfl hF dX4_refuse_16
end
