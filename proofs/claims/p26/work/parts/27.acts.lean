/-! WHAT THE LAW'S CALLS DO TO BOTH HOUSES ALIKE -/
/-- rights are 0 to 15 -/
def rn_Q (σ : rn_St) : Prop := ∀ j, j < σ.pn → ∃ k : Nat, k ≤ 15 ∧ σ.pr j = nI k
theorem rn_Q.proc {σ : rn_St} {j r u : Nat} {k : Int32} (h : rn_Q σ) (hk : ∃ z : Nat, z ≤ 15 ∧ k = nI z) : rn_Q (rn_proc σ j r u k) := by
  intro i hi
  show ∃ z : Nat, z ≤ 15 ∧ va_up σ.pr j k i = nI z
  by_cases e : i = j
  · subst e; rw [rn_up_eq]; exact hk
  · rw [rn_up_ne _ _ e]; exact h i hi
theorem rn_Q.fork {σ : rn_St} {j : Nat} (h : rn_Q σ) (hj : j < σ.pn) : rn_Q (rn_fork σ j) := by
  intro i hi
  have hi' : i < σ.pn + 1 := hi
  show ∃ z : Nat, z ≤ 15 ∧ va_up σ.pr σ.pn (σ.pr j) i = nI z
  by_cases e : i = σ.pn
  · subst e; rw [rn_up_eq]; exact h j hj
  · rw [rn_up_ne _ _ e]; exact h i (by omega)
theorem rn_and15 : ∀ a : Fin 16, ∀ b : Fin 16, ∃ z : Fin 16, nI a.1 &&& (nI b.1 ^^^ -1) = nI z.1 := by decide +kernel
theorem rn_drop15 {k : Int32} {b : Nat} (hk : ∃ z : Nat, z ≤ 15 ∧ k = nI z) (hb : b ≤ 15) : ∃ z : Nat, z ≤ 15 ∧ k &&& (nI b ^^^ -1) = nI z := by
  obtain ⟨a, ha, rfl⟩ := hk
  obtain ⟨z, hz⟩ := rn_and15 ⟨a, by omega⟩ ⟨b, by omega⟩
  exact ⟨z.1, by omega, hz⟩
theorem rn_Q.writeMap {σ : rn_St} (j i : Nat) (h : rn_Q σ) : rn_Q (rn_o_writeMap σ j i).2 := by
  unfold rn_o_writeMap; repeat' split
  all_goals exact h
theorem rn_Q.enter {σ : rn_St} (j i : Nat) (h : rn_Q σ) : rn_Q (rn_o_enter σ j i).2 := by
  unfold rn_o_enter; repeat' split
  all_goals first | exact h | exact h.proc ⟨15, by omega, rfl⟩
theorem rn_Q.setNumber {σ : rn_St} (j x : Nat) (h : rn_Q σ) (hj : j < σ.pn) : rn_Q (rn_o_setNumber σ j x).2 := by
  unfold rn_o_setNumber; split
  · exact h
  · split
    · exact h
    · refine h.proc ?_
      split
      · exact ⟨0, by omega, rfl⟩
      · exact h j hj
theorem rn_Q.makeFile {σ : rn_St} (j : Nat) (md : Int32) (h : rn_Q σ) : rn_Q (rn_o_makeFile σ j md).2 := by
  unfold rn_o_makeFile; split
  all_goals exact h
theorem rn_Q.handOver {σ : rn_St} (j k x : Nat) (h : rn_Q σ) : rn_Q (rn_o_handOver σ j k x).2 := by
  unfold rn_o_handOver; repeat' split
  all_goals exact h
theorem rn_Q.open_ {σ : rn_St} (j k : Nat) (wb : Bool) (h : rn_Q σ) : rn_Q (rn_o_open σ j k wb).2 := by
  unfold rn_o_open; repeat' split
  all_goals exact h
theorem rn_lt01 {x : Int32} (h : x < 0) : x < 1 := by
  rw [rn_lt] at h ⊢
  have h3 : (0 : Int32).toInt = 0 := by decide
  have h4 : (1 : Int32).toInt = 1 := by decide
  omega
theorem rn_sub1 {x : Int32} (h : ¬ x = 1) : ¬ x - 1 = 0 := fun e => h (by
  have h2 : x - 1 + 1 = 0 + 1 := by rw [e]
  rw [Int32.sub_add_cancel] at h2
  exact h2)
theorem rn_bdt {P : Prop} [Decidable P] (h : P) : (1 : Int32) = rn_b (decide P) := by simp [rn_b, h]
theorem rn_bdf {P : Prop} [Decidable P] (h : ¬ P) : (0 : Int32) = rn_b (decide P) := by simp [rn_b, h]

set_option maxHeartbeats 4000000 in
theorem o_makes (l : Launch) (hfl : l.stackTraces = false) {σ : rn_St} (hV : rn_V σ) (hq : rn_Q σ) (a1 : Int32) : ∃ (v : Int32) (σ' : rn_St), rn_Q σ' ∧ ∀ {D : va_G} {cR cP cF : ClassId} {h0 aR aP aF : Nat} {ra pa fa : Nat → Nat} {hd : Nat → Option Nat} {dh : Option Nat} {f : rn_T} (hC : rn_CI cR cP cF h0 aR aP aF ra pa fa hd dh f σ) (sz : Nat), rn_LT l yL_makes wsL_makes ({ frames := 8, cells := 1, slots := 6, locals := 140 } : Room) D (rn_tys cR cP cF) (rn_S D f) [.ref h0, .int a1] (some (.int v)) (rn_P D cR cP cF h0 f sz σ') (rn_A f sz) 1 6 sz := by
  by_cases hp : ∃ j, j < σ.pn ∧ a1 = nI j
  rotate_left
  · exact ⟨_, σ, hq, fun hC sz => rn_LT.mono (l_makes_p l hfl hV hC hp sz) (fun H h => rn_P_mk hV hC h (fun x hx => Or.inl hx)) (fun q h => Or.inr h)⟩
  obtain ⟨j, hj0, rfl⟩ := hp
  by_cases hfull : σ.sn = 10
  · exact ⟨_, σ, hq, fun hC sz => rn_LT.mono (l_makes_s l hfl hV hC hj0 hfull sz) (fun H h => rn_P_mk hV hC h (fun x hx => Or.inl hx)) (fun q h => Or.inr h)⟩
  have hn0 : σ.sn < 10 := by have := hV.1.2; omega
  exact ⟨_, _, (rn_Q.proc (σ := rn_newRoom σ j) hq ⟨15, by omega, rfl⟩), fun hC sz => rn_W.toLT (l_makes_o l hV hC hj0 hn0 sz)⟩

set_option maxHeartbeats 4000000 in
theorem o_forks (l : Launch) (hfl : l.stackTraces = false) {σ : rn_St} (hV : rn_V σ) (hq : rn_Q σ) (a1 : Int32) : ∃ (v : Int32) (σ' : rn_St), rn_Q σ' ∧ ∀ {D : va_G} {cR cP cF : ClassId} {h0 aR aP aF : Nat} {ra pa fa : Nat → Nat} {hd : Nat → Option Nat} {dh : Option Nat} {f : rn_T} (hC : rn_CI cR cP cF h0 aR aP aF ra pa fa hd dh f σ) (sz : Nat), rn_LT l yL_forks wsL_forks ({ frames := 8, cells := 1, slots := 6, locals := 140 } : Room) D (rn_tys cR cP cF) (rn_S D f) [.ref h0, .int a1] (some (.int v)) (rn_P D cR cP cF h0 f sz σ') (rn_A f sz) 1 6 sz := by
  by_cases hp : ∃ j, j < σ.pn ∧ a1 = nI j
  rotate_left
  · exact ⟨_, σ, hq, fun hC sz => rn_LT.mono (l_forks_p l hfl hV hC hp sz) (fun H h => rn_P_mk hV hC h (fun x hx => Or.inl hx)) (fun q h => Or.inr h)⟩
  obtain ⟨j, hj0, rfl⟩ := hp
  by_cases hfull : σ.pn = 12
  · exact ⟨_, σ, hq, fun hC sz => rn_LT.mono (l_forks_s l hfl hV hC hj0 hfull sz) (fun H h => rn_P_mk hV hC h (fun x hx => Or.inl hx)) (fun q h => Or.inr h)⟩
  have hn0 : σ.pn < 12 := by have := hV.2.2.2.2.2.1.2.1; omega
  exact ⟨_, _, (hq.fork hj0), fun hC sz => rn_W.toLT (l_forks_o l hV hC hj0 hn0 sz)⟩

set_option maxHeartbeats 4000000 in
theorem o_lines (l : Launch) (hfl : l.stackTraces = false) {σ : rn_St} (hV : rn_V σ) (hq : rn_Q σ) (a1 : Int32) (a2 : Int32) (a3 : Int32) : ∃ (v : Int32) (σ' : rn_St), rn_Q σ' ∧ ∀ {D : va_G} {cR cP cF : ClassId} {h0 aR aP aF : Nat} {ra pa fa : Nat → Nat} {hd : Nat → Option Nat} {dh : Option Nat} {f : rn_T} (hC : rn_CI cR cP cF h0 aR aP aF ra pa fa hd dh f σ) (sz : Nat), rn_LT l yL_lines wsL_lines ({ frames := 8, cells := 1, slots := 6, locals := 140 } : Room) D (rn_tys cR cP cF) (rn_S D f) [.ref h0, .int a1, .int a2, .int a3] (some (.int v)) (rn_P D cR cP cF h0 f sz σ') (rn_A f sz) 1 6 sz := by
  rcases rn_num a1 998 (by decide) with ⟨a, ha0, rfl⟩ | hbad
  rotate_left
  · exact ⟨_, σ, hq, fun hC sz => rn_LT.mono (l_lines_1 l hfl hV hC hbad sz) (fun H h => rn_P_mk hV hC h (fun x hx => Or.inl hx)) (fun q h => Or.inr h)⟩
  rcases rn_num a2 998 (by decide) with ⟨b, hb0, rfl⟩ | hbad
  rotate_left
  · exact ⟨_, σ, hq, fun hC sz => rn_LT.mono (l_lines_2 l hfl hV hC ha0 hbad sz) (fun H h => rn_P_mk hV hC h (fun x hx => Or.inl hx)) (fun q h => Or.inr h)⟩
  rcases rn_num a3 999 (by decide) with ⟨c9, hc9, rfl⟩ | hbad
  rotate_left
  · exact ⟨_, σ, hq, fun hC sz => rn_LT.mono (l_lines_3 l hfl hV hC ha0 hb0 (hbad.imp (fun h => rn_lt01 h) id) sz) (fun H h => rn_P_mk hV hC h (fun x hx => Or.inl hx)) (fun q h => Or.inr h)⟩
  by_cases h9 : c9 = 0
  · subst h9; exact ⟨_, σ, hq, fun hC sz => rn_LT.mono (l_lines_3 l hfl hV hC ha0 hb0 (Or.inl (by decide)) sz) (fun H h => rn_P_mk hV hC h (fun x hx => Or.inl hx)) (fun q h => Or.inr h)⟩
  have hc0 : 1 ≤ c9 ∧ c9 ≤ 999 := ⟨by omega, hc9⟩
  by_cases hfit : a + c9 ≤ 999
  rotate_left
  · exact ⟨_, σ, hq, fun hC sz => rn_LT.mono (l_lines_4 l hfl hV hC ha0 hb0 hc0 (Nat.not_le.mp hfit) sz) (fun H h => rn_P_mk hV hC h (fun x hx => Or.inl hx)) (fun q h => Or.inr h)⟩
  by_cases hfit2 : b + c9 ≤ 999
  rotate_left
  · exact ⟨_, σ, hq, fun hC sz => rn_LT.mono (l_lines_5 l hfl hV hC ha0 hb0 hc0 hfit (Nat.not_le.mp hfit2) sz) (fun H h => rn_P_mk hV hC h (fun x hx => Or.inl hx)) (fun q h => Or.inr h)⟩
  by_cases hfull : σ.sd.length = 3
  · exact ⟨_, σ, hq, fun hC sz => rn_LT.mono (l_lines_s l hfl hV hC ha0 hb0 hc0 hfit hfit2 hfull sz) (fun H h => rn_P_mk hV hC h (fun x hx => Or.inl hx)) (fun q h => Or.inr h)⟩
  have hn0 : σ.sd.length < 3 := by have := hV.2.2.2.2.1.2; omega
  exact ⟨_, _, (show rn_Q (rn_draft σ ((a, b, c9) :: σ.sd)) from hq), fun hC sz => rn_W.toLT (l_lines_o l hV hC ha0 hb0 hc0 hfit hfit2 hn0 sz)⟩

set_option maxHeartbeats 4000000 in
theorem o_writes (l : Launch) (hfl : l.stackTraces = false) {σ : rn_St} (hV : rn_V σ) (hq : rn_Q σ) (a1 : Int32) (a2 : Int32) : ∃ (v : Int32) (σ' : rn_St), rn_Q σ' ∧ ∀ {D : va_G} {cR cP cF : ClassId} {h0 aR aP aF : Nat} {ra pa fa : Nat → Nat} {hd : Nat → Option Nat} {dh : Option Nat} {f : rn_T} (hC : rn_CI cR cP cF h0 aR aP aF ra pa fa hd dh f σ) (sz : Nat), rn_LT l yL_writes wsL_writes ({ frames := 8, cells := 1, slots := 6, locals := 140 } : Room) D (rn_tys cR cP cF) (rn_S D f) [.ref h0, .int a1, .int a2] (some (.int v)) (rn_P D cR cP cF h0 f sz σ') (rn_A f sz) 1 6 sz := by
  by_cases hp : ∃ j, j < σ.pn ∧ a1 = nI j
  rotate_left
  · exact ⟨_, σ, hq, fun hC sz => rn_LT.mono (l_writes_p l hfl hV hC hp sz) (fun H h => rn_P_mk hV hC h (fun x hx => Or.inl hx)) (fun q h => Or.inr h)⟩
  obtain ⟨j, hj0, rfl⟩ := hp
  by_cases hr : ∃ i, i < σ.sn ∧ a2 = nI i
  rotate_left
  · exact ⟨_, σ, hq, fun hC sz => rn_LT.mono (l_writes_r l hfl hV hC hj0 hr sz) (fun H h => rn_P_mk hV hC h (fun x hx => Or.inl hx)) (fun q h => Or.inr h)⟩
  obtain ⟨i, hi0, rfl⟩ := hr
  by_cases hi9 : i = 0
  · subst hi9; exact ⟨_, σ, hq, fun hC sz => rn_LT.mono (l_writes_0 l hfl hV hC hj0 sz) (fun H h => rn_P_mk hV hC h (fun x hx => Or.inl hx)) (fun q h => Or.inr h)⟩
  exact ⟨_, _, (hq.writeMap j i), fun hC sz => rn_W.toLT (l_writes_o l hV hC hj0 hi0 hi9 sz)⟩

set_option maxHeartbeats 4000000 in
theorem o_drops (l : Launch) (hfl : l.stackTraces = false) {σ : rn_St} (hV : rn_V σ) (hq : rn_Q σ) (a1 : Int32) (a2 : Int32) : ∃ (v : Int32) (σ' : rn_St), rn_Q σ' ∧ ∀ {D : va_G} {cR cP cF : ClassId} {h0 aR aP aF : Nat} {ra pa fa : Nat → Nat} {hd : Nat → Option Nat} {dh : Option Nat} {f : rn_T} (hC : rn_CI cR cP cF h0 aR aP aF ra pa fa hd dh f σ) (sz : Nat), rn_LT l yL_drops wsL_drops ({ frames := 8, cells := 1, slots := 6, locals := 140 } : Room) D (rn_tys cR cP cF) (rn_S D f) [.ref h0, .int a1, .int a2] (some (.int v)) (rn_P D cR cP cF h0 f sz σ') (rn_A f sz) 1 6 sz := by
  by_cases hp : ∃ j, j < σ.pn ∧ a1 = nI j
  rotate_left
  · exact ⟨_, σ, hq, fun hC sz => rn_LT.mono (l_drops_p l hfl hV hC hp sz) (fun H h => rn_P_mk hV hC h (fun x hx => Or.inl hx)) (fun q h => Or.inr h)⟩
  obtain ⟨j, hj0, rfl⟩ := hp
  rcases rn_num a2 15 (by decide) with ⟨k, hk0, rfl⟩ | hbad
  rotate_left
  · exact ⟨_, σ, hq, fun hC sz => rn_LT.mono (l_drops_n l hfl hV hC hj0 hbad sz) (fun H h => rn_P_mk hV hC h (fun x hx => Or.inl hx)) (fun q h => Or.inr h)⟩
  exact ⟨_, _, (hq.proc (rn_drop15 (hq j hj0) hk0)), fun hC sz => rn_W.toLT (l_drops_o l hV hC hj0 ⟨nI_pos (by omega), (nI_leI (b := 15) (by omega) (by omega)).mpr hk0⟩ sz)⟩

set_option maxHeartbeats 4000000 in
theorem o_enters (l : Launch) (hfl : l.stackTraces = false) {σ : rn_St} (hV : rn_V σ) (hq : rn_Q σ) (a1 : Int32) (a2 : Int32) : ∃ (v : Int32) (σ' : rn_St), rn_Q σ' ∧ ∀ {D : va_G} {cR cP cF : ClassId} {h0 aR aP aF : Nat} {ra pa fa : Nat → Nat} {hd : Nat → Option Nat} {dh : Option Nat} {f : rn_T} (hC : rn_CI cR cP cF h0 aR aP aF ra pa fa hd dh f σ) (sz : Nat), rn_LT l yL_enters wsL_enters ({ frames := 8, cells := 1, slots := 6, locals := 140 } : Room) D (rn_tys cR cP cF) (rn_S D f) [.ref h0, .int a1, .int a2] (some (.int v)) (rn_P D cR cP cF h0 f sz σ') (rn_A f sz) 1 6 sz := by
  by_cases hp : ∃ j, j < σ.pn ∧ a1 = nI j
  rotate_left
  · exact ⟨_, σ, hq, fun hC sz => rn_LT.mono (l_enters_p l hfl hV hC hp sz) (fun H h => rn_P_mk hV hC h (fun x hx => Or.inl hx)) (fun q h => Or.inr h)⟩
  obtain ⟨j, hj0, rfl⟩ := hp
  by_cases hr : ∃ i, i < σ.sn ∧ a2 = nI i
  rotate_left
  · exact ⟨_, σ, hq, fun hC sz => rn_LT.mono (l_enters_r l hfl hV hC hj0 hr sz) (fun H h => rn_P_mk hV hC h (fun x hx => Or.inl hx)) (fun q h => Or.inr h)⟩
  obtain ⟨i, hi0, rfl⟩ := hr
  exact ⟨_, _, (hq.enter j i), fun hC sz => rn_W.toLT (l_enters_o l hV hC hj0 hi0 sz)⟩

set_option maxHeartbeats 4000000 in
theorem o_takes (l : Launch) (hfl : l.stackTraces = false) {σ : rn_St} (hV : rn_V σ) (hq : rn_Q σ) (a1 : Int32) (a2 : Int32) : ∃ (v : Int32) (σ' : rn_St), rn_Q σ' ∧ ∀ {D : va_G} {cR cP cF : ClassId} {h0 aR aP aF : Nat} {ra pa fa : Nat → Nat} {hd : Nat → Option Nat} {dh : Option Nat} {f : rn_T} (hC : rn_CI cR cP cF h0 aR aP aF ra pa fa hd dh f σ) (sz : Nat), rn_LT l yL_takes wsL_takes ({ frames := 8, cells := 1, slots := 6, locals := 140 } : Room) D (rn_tys cR cP cF) (rn_S D f) [.ref h0, .int a1, .int a2] (some (.int v)) (rn_P D cR cP cF h0 f sz σ') (rn_A f sz) 1 6 sz := by
  by_cases hp : ∃ j, j < σ.pn ∧ a1 = nI j
  rotate_left
  · exact ⟨_, σ, hq, fun hC sz => rn_LT.mono (l_takes_p l hfl hV hC hp sz) (fun H h => rn_P_mk hV hC h (fun x hx => Or.inl hx)) (fun q h => Or.inr h)⟩
  obtain ⟨j, hj0, rfl⟩ := hp
  rcases rn_num a2 998 (by decide) with ⟨x, hx0, rfl⟩ | hbad
  rotate_left
  · exact ⟨_, σ, hq, fun hC sz => rn_LT.mono (l_takes_n l hfl hV hC hj0 hbad sz) (fun H h => rn_P_mk hV hC h (fun x hx => Or.inl hx)) (fun q h => Or.inr h)⟩
  exact ⟨_, _, (hq.setNumber j x hj0), fun hC sz => rn_W.toLT (l_takes_o l hV hC hj0 hx0 sz)⟩

set_option maxHeartbeats 4000000 in
theorem o_files (l : Launch) (hfl : l.stackTraces = false) {σ : rn_St} (hV : rn_V σ) (hq : rn_Q σ) (a1 : Int32) (a2 : Int32) : ∃ (v : Int32) (σ' : rn_St), rn_Q σ' ∧ ∀ {D : va_G} {cR cP cF : ClassId} {h0 aR aP aF : Nat} {ra pa fa : Nat → Nat} {hd : Nat → Option Nat} {dh : Option Nat} {f : rn_T} (hC : rn_CI cR cP cF h0 aR aP aF ra pa fa hd dh f σ) (sz : Nat), rn_LT l yL_files wsL_files ({ frames := 8, cells := 1, slots := 6, locals := 140 } : Room) D (rn_tys cR cP cF) (rn_S D f) [.ref h0, .int a1, .int a2] (some (.int v)) (rn_P D cR cP cF h0 f sz σ') (rn_A f sz) 1 6 sz := by
  by_cases hp : ∃ j, j < σ.pn ∧ a1 = nI j
  rotate_left
  · exact ⟨_, σ, hq, fun hC sz => rn_LT.mono (l_files_p l hfl hV hC hp sz) (fun H h => rn_P_mk hV hC h (fun x hx => Or.inl hx)) (fun q h => Or.inr h)⟩
  obtain ⟨j, hj0, rfl⟩ := hp
  rcases rn_num a2 15 (by decide) with ⟨k, hk0, rfl⟩ | hbad
  rotate_left
  · exact ⟨_, σ, hq, fun hC sz => rn_LT.mono (l_files_n l hfl hV hC hj0 hbad sz) (fun H h => rn_P_mk hV hC h (fun x hx => Or.inl hx)) (fun q h => Or.inr h)⟩
  by_cases hfull : σ.fn = 20
  · exact ⟨_, σ, hq, fun hC sz => rn_LT.mono (l_files_s l hfl hV hC hj0 hk0 hfull sz) (fun H h => rn_P_mk hV hC h (fun x hx => Or.inl hx)) (fun q h => Or.inr h)⟩
  have hn0 : σ.fn < 20 := by have := hV.2.2.2.2.2.2.1; omega
  exact ⟨_, _, (hq.makeFile j (nI k)), fun hC sz => rn_W.toLT (l_files_o l hV hC hj0 hk0 hn0 sz)⟩

set_option maxHeartbeats 4000000 in
theorem o_hands (l : Launch) (hfl : l.stackTraces = false) {σ : rn_St} (hV : rn_V σ) (hq : rn_Q σ) (a1 : Int32) (a2 : Int32) (a3 : Int32) : ∃ (v : Int32) (σ' : rn_St), rn_Q σ' ∧ ∀ {D : va_G} {cR cP cF : ClassId} {h0 aR aP aF : Nat} {ra pa fa : Nat → Nat} {hd : Nat → Option Nat} {dh : Option Nat} {f : rn_T} (hC : rn_CI cR cP cF h0 aR aP aF ra pa fa hd dh f σ) (sz : Nat), rn_LT l yL_hands wsL_hands ({ frames := 8, cells := 1, slots := 6, locals := 140 } : Room) D (rn_tys cR cP cF) (rn_S D f) [.ref h0, .int a1, .int a2, .int a3] (some (.int v)) (rn_P D cR cP cF h0 f sz σ') (rn_A f sz) 1 6 sz := by
  by_cases hp : ∃ j, j < σ.pn ∧ a1 = nI j
  rotate_left
  · exact ⟨_, σ, hq, fun hC sz => rn_LT.mono (l_hands_p l hfl hV hC hp sz) (fun H h => rn_P_mk hV hC h (fun x hx => Or.inl hx)) (fun q h => Or.inr h)⟩
  obtain ⟨j, hj0, rfl⟩ := hp
  by_cases hf : ∃ k, k < σ.fn ∧ a2 = nI k
  rotate_left
  · exact ⟨_, σ, hq, fun hC sz => rn_LT.mono (l_hands_f l hfl hV hC hj0 hf sz) (fun H h => rn_P_mk hV hC h (fun x hx => Or.inl hx)) (fun q h => Or.inr h)⟩
  obtain ⟨k, hk0, rfl⟩ := hf
  rcases rn_num a3 998 (by decide) with ⟨x, hx0, rfl⟩ | hbad
  rotate_left
  · exact ⟨_, σ, hq, fun hC sz => rn_LT.mono (l_hands_n l hfl hV hC hj0 hk0 hbad sz) (fun H h => rn_P_mk hV hC h (fun x hx => Or.inl hx)) (fun q h => Or.inr h)⟩
  exact ⟨_, _, (hq.handOver j k x), fun hC sz => rn_W.toLT (l_hands_o l hV hC hj0 hk0 hx0 sz)⟩

set_option maxHeartbeats 4000000 in
theorem o_opens (l : Launch) (hfl : l.stackTraces = false) {σ : rn_St} (hV : rn_V σ) (hq : rn_Q σ) (a1 : Int32) (a2 : Int32) (wb : Bool) : ∃ (v : Int32) (σ' : rn_St), rn_Q σ' ∧ ∀ {D : va_G} {cR cP cF : ClassId} {h0 aR aP aF : Nat} {ra pa fa : Nat → Nat} {hd : Nat → Option Nat} {dh : Option Nat} {f : rn_T} (hC : rn_CI cR cP cF h0 aR aP aF ra pa fa hd dh f σ) (sz : Nat), rn_LT l yL_opens wsL_opens ({ frames := 8, cells := 1, slots := 6, locals := 140 } : Room) D (rn_tys cR cP cF) (rn_S D f) [.ref h0, .int a1, .int a2, .int (rn_b wb)] (some (.int v)) (rn_P D cR cP cF h0 f sz σ') (rn_A f sz) 1 6 sz := by
  by_cases hp : ∃ j, j < σ.pn ∧ a1 = nI j
  rotate_left
  · exact ⟨_, σ, hq, fun hC sz => rn_LT.mono (l_opens_p l hfl hV hC hp sz) (fun H h => rn_P_mk hV hC h (fun x hx => Or.inl hx)) (fun q h => Or.inr h)⟩
  obtain ⟨j, hj0, rfl⟩ := hp
  by_cases hf : ∃ k, k < σ.fn ∧ a2 = nI k
  rotate_left
  · exact ⟨_, σ, hq, fun hC sz => rn_LT.mono (l_opens_f l hfl hV hC hj0 hf sz) (fun H h => rn_P_mk hV hC h (fun x hx => Or.inl hx)) (fun q h => Or.inr h)⟩
  obtain ⟨k, hk0, rfl⟩ := hf
  exact ⟨_, _, (hq.open_ j k wb), fun hC sz => rn_W.toLT (l_opens_o l hV hC hj0 hk0 sz)⟩

/-- the numbers that an act makes of its own -/
def rn_aY (x : Int32) : Int32 := x / 16
def rn_aP (σ : rn_St) (x : Int32) : Int32 := rn_aY x - rn_aY x / nI σ.pn * nI σ.pn
def rn_aF (σ : rn_St) (x : Int32) : Int32 := if nI σ.fn = 0 then 0 else rn_aY x / 12 - rn_aY x / 12 / nI σ.fn * nI σ.fn
def rn_aS (x : Int32) : Int32 := if rn_aY x - rn_aY x / 5 * 5 = 0 then rn_aY x / 12 - rn_aY x / 12 / 999 * 999 else rn_aY x / 12 - rn_aY x / 12 / 12 * 12
def rn_aL (x : Int32) : Int32 := if rn_aY x - rn_aY x / 7 * 7 = 0 then rn_aY x / 100 - rn_aY x / 100 / 980 * 980 else rn_aY x / 100 - rn_aY x / 100 / 6 * 6
def rn_aR (σ : rn_St) (x : Int32) : Int32 := if nI σ.sn = 1 then 1 else 1 + (rn_aY x / 12 - rn_aY x / 12 / (nI σ.sn - 1) * (nI σ.sn - 1))

set_option maxHeartbeats 4000000 in
set_option maxRecDepth 100000 in
theorem a_act_132 (l : Launch) {D : va_G} {cR cP cF : ClassId} {h0 aR aP aF : Nat} {ra pa fa : Nat → Nat} {hd : Nat → Option Nat} {dh : Option Nat} {f : rn_T} {σ : rn_St} (hV : rn_V σ) (hC : rn_CI cR cP cF h0 aR aP aF ra pa fa hd dh f σ) {X : Nat} (hX : X < 2 ^ 31) {v : Int32} {σ' : rn_St} (hn : X % 16 = 0 ∨ X % 16 = 1) (hM : ∀ sz : Nat, rn_LT l yL_makes wsL_makes ({ frames := 8, cells := 1, slots := 6, locals := 140 } : Room) D (rn_tys cR cP cF) (rn_S D f) [.ref h0, .int (rn_aP σ (nI X))] (some (.int v)) (rn_P D cR cP cF h0 f sz σ') (rn_A f sz) 1 6 sz) (sz : Nat) : rn_LT l yL_act wsL_act ({ frames := 9, cells := 1, slots := 6, locals := 170 } : Room) D (rn_tys cR cP cF) (rn_S D f) [.ref h0, .int (nI X)] (some (.int v)) (rn_P D cR cP cF h0 f sz σ') (rn_A f sz) 1 6 sz := by
  refine rn_LT.ofC (cc := cL_act) (maxL := 6) (ret := (some .int)) (by decide) rfl (Nat.le_of_ble_eq_true rfl) (fun p e s m below meth c ls hx hb hr hml hts hown hlocks hsz hF hG hE hS hl => ?_)
  have hl : lv_has ls 6 [(0, .ref h0), (1, .int (nI X))] := hl
  subst hsz
  have t55 : ∀ (ls : Array Slot), lv_has ls 6 [(5, .int (rn_aS (nI X))), (4, .int (rn_aF σ (nI X))), (3, .int (rn_aP σ (nI X))), (2, .int (rn_aY (nI X))), (0, .ref h0), (1, .int (nI X))] → W p l e ({ frames := 9, cells := 1, slots := 6, locals := 170 } : Room) s m ([.ref h0, .int (nI X)] : List Value).toArray below meth c s.heap [] 0 0 (MQ below (fun _ st o t => (o = .returned (some (.int v)) ∧ (rn_P D cR cP cF h0 f s.heap.size σ') t.heap) ∧ va_F (rn_A f s.heap.size) st t) ([.ref h0, .int (nI X)] : List Value).toArray s 1 6 (rn_A f s.heap.size)) (F0 m 55 ls []) := by
    intro ls hl
    refine lv_iload_n hx hb dL_act_55 rfl (lv_at hl 5 rfl) ?_
    refine lv_bipush (v := 16) hx hb dL_act_56 (by decide +kernel) ?_
    refine lv_irem hx hb dL_act_58 (by decide) ?_
    refine rn_top (y := .int (nI (X % 16))) (congrArg Value.int (pk_rem (d := 16) hX (by decide) (by decide))) ?_
    have T : ∀ ls : Array Slot, lv_has ls 6 [(5, .int (rn_aS (nI X))), (4, .int (rn_aF σ (nI X))), (3, .int (rn_aP σ (nI X))), (2, .int (rn_aY (nI X))), (0, .ref h0), (1, .int (nI X))] → W p l e ({ frames := 9, cells := 1, slots := 6, locals := 170 } : Room) s m ([.ref h0, .int (nI X)] : List Value).toArray below meth c s.heap [] 0 0 (MQ below (fun _ st o t => (o = .returned (some (.int v)) ∧ (rn_P D cR cP cF h0 f s.heap.size σ') t.heap) ∧ va_F (rn_A f s.heap.size) st t) ([.ref h0, .int (nI X)] : List Value).toArray s 1 6 (rn_A f s.heap.size)) (F0 m 132 ls []) := by
      intro ls hl
      refine lv_aload_n hx hb dL_act_132 rfl (lv_at hl 4 rfl) ?_
      refine lv_iload_n hx hb dL_act_133 rfl (lv_at hl 2 rfl) ?_
      refine rn_wLH (As := [.ref h0, .int (rn_aP σ (nI X))]) (rest := []) 2 hx hb hml hown hts hG hE.old hS (hM _) (fun q h => h) gL_act_L_makes rfl ⟨rfl, rfl⟩ (by decide +kernel) ⟨Nat.le_of_ble_eq_true rfl, Nat.le_of_ble_eq_true rfl⟩ hF rfl hl.1 rfl (Nat.le_of_ble_eq_true rfl) ⟨Nat.le_of_ble_eq_true rfl, Nat.le_of_ble_eq_true rfl⟩ dL_act_134 (fun H locs hP1 _ _ hS => ?_)
      refine W.eq (g2 := F0 m 137 ls [.int v]) rfl ?_
      exact rn_Wiret hx hb hr rfl hlocks hS (by decide) (by decide) rfl hP1 dL_act_137
    rcases hn with hn | hn
    · rw [hn]; exact lv_tableIn (off := 73) (tgt := 132) hx hb dL_act_59 (by decide) (by decide) (by decide +kernel) (by decide) (T ls hl)
    · rw [hn]; exact lv_tableIn (off := 73) (tgt := 132) hx hb dL_act_59 (by decide) (by decide) (by decide +kernel) (by decide) (T ls hl)
  have t34 : ∀ (ls : Array Slot), lv_has ls 6 [(4, .int (rn_aF σ (nI X))), (3, .int (rn_aP σ (nI X))), (2, .int (rn_aY (nI X))), (0, .ref h0), (1, .int (nI X))] → W p l e ({ frames := 9, cells := 1, slots := 6, locals := 170 } : Room) s m ([.ref h0, .int (nI X)] : List Value).toArray below meth c s.heap [] 0 0 (MQ below (fun _ st o t => (o = .returned (some (.int v)) ∧ (rn_P D cR cP cF h0 f s.heap.size σ') t.heap) ∧ va_F (rn_A f s.heap.size) st t) ([.ref h0, .int (nI X)] : List Value).toArray s 1 6 (rn_A f s.heap.size)) (F0 m 34 ls []) := by
    intro ls hl
    refine lv_iload_n hx hb dL_act_34 rfl (lv_at hl 2 rfl) ?_
    refine lv_bipush (v := 12) hx hb dL_act_35 (by decide +kernel) ?_
    refine lv_idiv hx hb dL_act_37 (by decide) ?_
    refine lv_iload_n hx hb dL_act_38 rfl (lv_at hl 2 rfl) ?_
    refine lv_iconst (v := 5) hx hb dL_act_39 (by decide) ?_
    refine lv_irem hx hb dL_act_40 (by decide) ?_
    refine lv_if_ne (tgt := 50) hx hb dL_act_41 (by decide) (fun c_41 => ?_) (fun c_41 => ?_)
    · refine lv_bipush (v := 12) hx hb dL_act_50 (by decide +kernel) ?_
      refine lv_irem hx hb dL_act_52 (by decide) ?_
      refine rn_top (y := .int (rn_aS (nI X))) (congrArg Value.int (by rw [rn_aS, if_neg c_41])) ?_
      refine lv_istore (lv' := [(5, .int (rn_aS (nI X))), (4, .int (rn_aF σ (nI X))), (3, .int (rn_aP σ (nI X))), (2, .int (rn_aY (nI X))), (0, .ref h0), (1, .int (nI X))]) hx hb dL_act_53 hl (by decide) rfl (fun ls hl => ?_)
      exact t55 ls (lv_sub hl [0, 1, 2, 3, 4, 5] rfl)
    · refine lv_sipush (v := 999) hx hb dL_act_44 (by decide +kernel) ?_
      refine lv_goto (tgt := 52) hx hb dL_act_47 (by decide) ?_
      refine lv_irem hx hb dL_act_52 (by decide) ?_
      refine rn_top (y := .int (rn_aS (nI X))) (congrArg Value.int (by rw [rn_aS, if_pos c_41])) ?_
      refine lv_istore (lv' := [(5, .int (rn_aS (nI X))), (4, .int (rn_aF σ (nI X))), (3, .int (rn_aP σ (nI X))), (2, .int (rn_aY (nI X))), (0, .ref h0), (1, .int (nI X))]) hx hb dL_act_53 hl (by decide) rfl (fun ls hl => ?_)
      exact t55 ls (lv_sub hl [0, 1, 2, 3, 4, 5] rfl)
  refine lv_iload_n hx hb dL_act_0 rfl (lv_at hl 1 rfl) ?_
  refine lv_bipush (v := 16) hx hb dL_act_1 (by decide +kernel) ?_
  refine lv_idiv hx hb dL_act_3 (by decide) ?_
  refine rn_top (y := .int (rn_aY (nI X))) (congrArg Value.int rfl) ?_
  refine lv_istore_n (lv' := [(2, .int (rn_aY (nI X))), (0, .ref h0), (1, .int (nI X))]) hx hb dL_act_4 rfl hl (by decide) rfl (fun ls hl => ?_)
  refine lv_iload_n hx hb dL_act_5 rfl (lv_at hl 0 rfl) ?_
  refine lv_aload_n hx hb dL_act_6 rfl (lv_at hl 1 rfl) ?_
  refine rn_cV (As := []) (rest := [.int (rn_aY (nI X))]) 0 hx hb hml hown hts hG (c_processes l hV hC ) gL_act_X4_processes rfl ⟨rfl, rfl⟩ (by decide +kernel) ⟨Nat.le_of_ble_eq_true rfl, Nat.le_of_ble_eq_true rfl⟩ hF (hF _ _ hC.1.1) rfl rfl hl.1 rfl (Nat.le_of_ble_eq_true rfl) ⟨Nat.le_of_ble_eq_true rfl, Nat.le_of_ble_eq_true rfl⟩ dL_act_7 ?_
  refine W.eq (g2 := F0 m 10 ls [.int (nI σ.pn), .int (rn_aY (nI X))]) rfl ?_
  refine lv_irem hx hb dL_act_10 (rn_nz (by have := hV.2.2.2.2.2.1.2.1; omega) hV.2.2.2.2.2.1.1) ?_
  refine rn_top (y := .int (rn_aP σ (nI X))) (congrArg Value.int rfl) ?_
  refine lv_istore_n (lv' := [(3, .int (rn_aP σ (nI X))), (2, .int (rn_aY (nI X))), (0, .ref h0), (1, .int (nI X))]) hx hb dL_act_11 rfl hl (by decide) rfl (fun ls hl => ?_)
  refine lv_aload_n hx hb dL_act_12 rfl (lv_at hl 2 rfl) ?_
  refine rn_cV (As := []) (rest := []) 0 hx hb hml hown hts hG (c_files l hV hC ) gL_act_X4_files rfl ⟨rfl, rfl⟩ (by decide +kernel) ⟨Nat.le_of_ble_eq_true rfl, Nat.le_of_ble_eq_true rfl⟩ hF (hF _ _ hC.1.1) rfl rfl hl.1 rfl (Nat.le_of_ble_eq_true rfl) ⟨Nat.le_of_ble_eq_true rfl, Nat.le_of_ble_eq_true rfl⟩ dL_act_13 ?_
  refine W.eq (g2 := F0 m 16 ls [.int (nI σ.fn)]) rfl ?_
  refine lv_if_ne (tgt := 23) hx hb dL_act_16 (by decide) (fun c_16 => ?_) (fun c_16 => ?_)
  · refine lv_iload_n hx hb dL_act_23 rfl (lv_at hl 1 rfl) ?_
    refine lv_bipush (v := 12) hx hb dL_act_24 (by decide +kernel) ?_
    refine lv_idiv hx hb dL_act_26 (by decide) ?_
    refine lv_aload_n hx hb dL_act_27 rfl (lv_at hl 2 rfl) ?_
    refine rn_cV (As := []) (rest := [.int ((rn_aY (nI X)) / 12)]) 0 hx hb hml hown hts hG (c_files l hV hC ) gL_act_X4_files rfl ⟨rfl, rfl⟩ (by decide +kernel) ⟨Nat.le_of_ble_eq_true rfl, Nat.le_of_ble_eq_true rfl⟩ hF (hF _ _ hC.1.1) rfl rfl hl.1 rfl (Nat.le_of_ble_eq_true rfl) ⟨Nat.le_of_ble_eq_true rfl, Nat.le_of_ble_eq_true rfl⟩ dL_act_28 ?_
    refine W.eq (g2 := F0 m 31 ls [.int (nI σ.fn), .int ((rn_aY (nI X)) / 12)]) rfl ?_
    refine lv_irem hx hb dL_act_31 c_16 ?_
    refine rn_top (y := .int (rn_aF σ (nI X))) (congrArg Value.int (by rw [rn_aF, if_neg c_16])) ?_
    refine lv_istore (lv' := [(4, .int (rn_aF σ (nI X))), (3, .int (rn_aP σ (nI X))), (2, .int (rn_aY (nI X))), (0, .ref h0), (1, .int (nI X))]) hx hb dL_act_32 hl (by decide) rfl (fun ls hl => ?_)
    exact t34 ls (lv_sub hl [0, 1, 2, 3, 4] rfl)
  · refine lv_iconst (v := 0) hx hb dL_act_19 (by decide) ?_
    refine lv_goto (tgt := 32) hx hb dL_act_20 (by decide) ?_
    refine rn_top (y := .int (rn_aF σ (nI X))) (congrArg Value.int (by rw [rn_aF, if_pos c_16])) ?_
    refine lv_istore (lv' := [(4, .int (rn_aF σ (nI X))), (3, .int (rn_aP σ (nI X))), (2, .int (rn_aY (nI X))), (0, .ref h0), (1, .int (nI X))]) hx hb dL_act_32 hl (by decide) rfl (fun ls hl => ?_)
    exact t34 ls (lv_sub hl [0, 1, 2, 3, 4] rfl)

set_option maxHeartbeats 4000000 in
set_option maxRecDepth 100000 in
theorem a_act_138 (l : Launch) {D : va_G} {cR cP cF : ClassId} {h0 aR aP aF : Nat} {ra pa fa : Nat → Nat} {hd : Nat → Option Nat} {dh : Option Nat} {f : rn_T} {σ : rn_St} (hV : rn_V σ) (hC : rn_CI cR cP cF h0 aR aP aF ra pa fa hd dh f σ) {X : Nat} (hX : X < 2 ^ 31) {v : Int32} {σ' : rn_St} (hn : X % 16 = 2 ∨ X % 16 = 3 ∨ X % 16 = 4) (hM : ∀ sz : Nat, rn_LT l yL_lines wsL_lines ({ frames := 8, cells := 1, slots := 6, locals := 140 } : Room) D (rn_tys cR cP cF) (rn_S D f) [.ref h0, .int (rn_aY (nI X) - rn_aY (nI X) / 10 * 10), .int (rn_aY (nI X) / 10 - rn_aY (nI X) / 10 / 10 * 10), .int (1 + rn_aL (nI X))] (some (.int v)) (rn_P D cR cP cF h0 f sz σ') (rn_A f sz) 1 6 sz) (sz : Nat) : rn_LT l yL_act wsL_act ({ frames := 9, cells := 1, slots := 6, locals := 170 } : Room) D (rn_tys cR cP cF) (rn_S D f) [.ref h0, .int (nI X)] (some (.int v)) (rn_P D cR cP cF h0 f sz σ') (rn_A f sz) 1 6 sz := by
  refine rn_LT.ofC (cc := cL_act) (maxL := 6) (ret := (some .int)) (by decide) rfl (Nat.le_of_ble_eq_true rfl) (fun p e s m below meth c ls hx hb hr hml hts hown hlocks hsz hF hG hE hS hl => ?_)
  have hl : lv_has ls 6 [(0, .ref h0), (1, .int (nI X))] := hl
  subst hsz
  have t55 : ∀ (ls : Array Slot), lv_has ls 6 [(5, .int (rn_aS (nI X))), (4, .int (rn_aF σ (nI X))), (3, .int (rn_aP σ (nI X))), (2, .int (rn_aY (nI X))), (0, .ref h0), (1, .int (nI X))] → W p l e ({ frames := 9, cells := 1, slots := 6, locals := 170 } : Room) s m ([.ref h0, .int (nI X)] : List Value).toArray below meth c s.heap [] 0 0 (MQ below (fun _ st o t => (o = .returned (some (.int v)) ∧ (rn_P D cR cP cF h0 f s.heap.size σ') t.heap) ∧ va_F (rn_A f s.heap.size) st t) ([.ref h0, .int (nI X)] : List Value).toArray s 1 6 (rn_A f s.heap.size)) (F0 m 55 ls []) := by
    intro ls hl
    refine lv_iload_n hx hb dL_act_55 rfl (lv_at hl 5 rfl) ?_
    refine lv_bipush (v := 16) hx hb dL_act_56 (by decide +kernel) ?_
    refine lv_irem hx hb dL_act_58 (by decide) ?_
    refine rn_top (y := .int (nI (X % 16))) (congrArg Value.int (pk_rem (d := 16) hX (by decide) (by decide))) ?_
    have T : ∀ ls : Array Slot, lv_has ls 6 [(5, .int (rn_aS (nI X))), (4, .int (rn_aF σ (nI X))), (3, .int (rn_aP σ (nI X))), (2, .int (rn_aY (nI X))), (0, .ref h0), (1, .int (nI X))] → W p l e ({ frames := 9, cells := 1, slots := 6, locals := 170 } : Room) s m ([.ref h0, .int (nI X)] : List Value).toArray below meth c s.heap [] 0 0 (MQ below (fun _ st o t => (o = .returned (some (.int v)) ∧ (rn_P D cR cP cF h0 f s.heap.size σ') t.heap) ∧ va_F (rn_A f s.heap.size) st t) ([.ref h0, .int (nI X)] : List Value).toArray s 1 6 (rn_A f s.heap.size)) (F0 m 138 ls []) := by
      intro ls hl
      refine lv_aload_n hx hb dL_act_138 rfl (lv_at hl 4 rfl) ?_
      refine lv_iload_n hx hb dL_act_139 rfl (lv_at hl 3 rfl) ?_
      refine lv_bipush (v := 10) hx hb dL_act_140 (by decide +kernel) ?_
      refine lv_irem hx hb dL_act_142 (by decide) ?_
      refine lv_iload_n hx hb dL_act_143 rfl (lv_at hl 3 rfl) ?_
      refine lv_bipush (v := 10) hx hb dL_act_144 (by decide +kernel) ?_
      refine lv_idiv hx hb dL_act_146 (by decide) ?_
      refine lv_bipush (v := 10) hx hb dL_act_147 (by decide +kernel) ?_
      refine lv_irem hx hb dL_act_149 (by decide) ?_
      refine lv_iconst (v := 1) hx hb dL_act_150 (by decide) ?_
      refine lv_iload_n hx hb dL_act_151 rfl (lv_at hl 3 rfl) ?_
      refine lv_bipush (v := 100) hx hb dL_act_152 (by decide +kernel) ?_
      refine lv_idiv hx hb dL_act_154 (by decide) ?_
      refine lv_iload_n hx hb dL_act_155 rfl (lv_at hl 3 rfl) ?_
      refine lv_bipush (v := 7) hx hb dL_act_156 (by decide +kernel) ?_
      refine lv_irem hx hb dL_act_158 (by decide) ?_
      refine lv_if_ne (tgt := 168) hx hb dL_act_159 (by decide) (fun c_159 => ?_) (fun c_159 => ?_)
      · refine lv_bipush (v := 6) hx hb dL_act_168 (by decide +kernel) ?_
        refine lv_irem hx hb dL_act_170 (by decide) ?_
        refine rn_top (y := .int (rn_aL (nI X))) (congrArg Value.int (by rw [rn_aL, if_neg c_159])) ?_
        refine lv_iadd hx hb dL_act_171 ?_
        refine rn_wLH (As := [.ref h0, .int (rn_aY (nI X) - rn_aY (nI X) / 10 * 10), .int (rn_aY (nI X) / 10 - rn_aY (nI X) / 10 / 10 * 10), .int (1 + rn_aL (nI X))]) (rest := []) 4 hx hb hml hown hts hG hE.old hS (hM _) (fun q h => h) gL_act_L_lines rfl ⟨rfl, rfl⟩ (by decide +kernel) ⟨Nat.le_of_ble_eq_true rfl, Nat.le_of_ble_eq_true rfl⟩ hF rfl hl.1 rfl (Nat.le_of_ble_eq_true rfl) ⟨Nat.le_of_ble_eq_true rfl, Nat.le_of_ble_eq_true rfl⟩ dL_act_172 (fun H locs hP1 _ _ hS => ?_)
        refine W.eq (g2 := F0 m 175 ls [.int v]) rfl ?_
        exact rn_Wiret hx hb hr rfl hlocks hS (by decide) (by decide) rfl hP1 dL_act_175
      · refine lv_sipush (v := 980) hx hb dL_act_162 (by decide +kernel) ?_
        refine lv_goto (tgt := 170) hx hb dL_act_165 (by decide) ?_
        refine lv_irem hx hb dL_act_170 (by decide) ?_
        refine rn_top (y := .int (rn_aL (nI X))) (congrArg Value.int (by rw [rn_aL, if_pos c_159])) ?_
        refine lv_iadd hx hb dL_act_171 ?_
        refine rn_wLH (As := [.ref h0, .int (rn_aY (nI X) - rn_aY (nI X) / 10 * 10), .int (rn_aY (nI X) / 10 - rn_aY (nI X) / 10 / 10 * 10), .int (1 + rn_aL (nI X))]) (rest := []) 4 hx hb hml hown hts hG hE.old hS (hM _) (fun q h => h) gL_act_L_lines rfl ⟨rfl, rfl⟩ (by decide +kernel) ⟨Nat.le_of_ble_eq_true rfl, Nat.le_of_ble_eq_true rfl⟩ hF rfl hl.1 rfl (Nat.le_of_ble_eq_true rfl) ⟨Nat.le_of_ble_eq_true rfl, Nat.le_of_ble_eq_true rfl⟩ dL_act_172 (fun H locs hP1 _ _ hS => ?_)
        refine W.eq (g2 := F0 m 175 ls [.int v]) rfl ?_
        exact rn_Wiret hx hb hr rfl hlocks hS (by decide) (by decide) rfl hP1 dL_act_175
    rcases hn with hn | hn | hn
    · rw [hn]; exact lv_tableIn (off := 79) (tgt := 138) hx hb dL_act_59 (by decide) (by decide) (by decide +kernel) (by decide) (T ls hl)
    · rw [hn]; exact lv_tableIn (off := 79) (tgt := 138) hx hb dL_act_59 (by decide) (by decide) (by decide +kernel) (by decide) (T ls hl)
    · rw [hn]; exact lv_tableIn (off := 79) (tgt := 138) hx hb dL_act_59 (by decide) (by decide) (by decide +kernel) (by decide) (T ls hl)
  have t34 : ∀ (ls : Array Slot), lv_has ls 6 [(4, .int (rn_aF σ (nI X))), (3, .int (rn_aP σ (nI X))), (2, .int (rn_aY (nI X))), (0, .ref h0), (1, .int (nI X))] → W p l e ({ frames := 9, cells := 1, slots := 6, locals := 170 } : Room) s m ([.ref h0, .int (nI X)] : List Value).toArray below meth c s.heap [] 0 0 (MQ below (fun _ st o t => (o = .returned (some (.int v)) ∧ (rn_P D cR cP cF h0 f s.heap.size σ') t.heap) ∧ va_F (rn_A f s.heap.size) st t) ([.ref h0, .int (nI X)] : List Value).toArray s 1 6 (rn_A f s.heap.size)) (F0 m 34 ls []) := by
    intro ls hl
    refine lv_iload_n hx hb dL_act_34 rfl (lv_at hl 2 rfl) ?_
    refine lv_bipush (v := 12) hx hb dL_act_35 (by decide +kernel) ?_
    refine lv_idiv hx hb dL_act_37 (by decide) ?_
    refine lv_iload_n hx hb dL_act_38 rfl (lv_at hl 2 rfl) ?_
    refine lv_iconst (v := 5) hx hb dL_act_39 (by decide) ?_
    refine lv_irem hx hb dL_act_40 (by decide) ?_
    refine lv_if_ne (tgt := 50) hx hb dL_act_41 (by decide) (fun c_41 => ?_) (fun c_41 => ?_)
    · refine lv_bipush (v := 12) hx hb dL_act_50 (by decide +kernel) ?_
      refine lv_irem hx hb dL_act_52 (by decide) ?_
      refine rn_top (y := .int (rn_aS (nI X))) (congrArg Value.int (by rw [rn_aS, if_neg c_41])) ?_
      refine lv_istore (lv' := [(5, .int (rn_aS (nI X))), (4, .int (rn_aF σ (nI X))), (3, .int (rn_aP σ (nI X))), (2, .int (rn_aY (nI X))), (0, .ref h0), (1, .int (nI X))]) hx hb dL_act_53 hl (by decide) rfl (fun ls hl => ?_)
      exact t55 ls (lv_sub hl [0, 1, 2, 3, 4, 5] rfl)
    · refine lv_sipush (v := 999) hx hb dL_act_44 (by decide +kernel) ?_
      refine lv_goto (tgt := 52) hx hb dL_act_47 (by decide) ?_
      refine lv_irem hx hb dL_act_52 (by decide) ?_
      refine rn_top (y := .int (rn_aS (nI X))) (congrArg Value.int (by rw [rn_aS, if_pos c_41])) ?_
      refine lv_istore (lv' := [(5, .int (rn_aS (nI X))), (4, .int (rn_aF σ (nI X))), (3, .int (rn_aP σ (nI X))), (2, .int (rn_aY (nI X))), (0, .ref h0), (1, .int (nI X))]) hx hb dL_act_53 hl (by decide) rfl (fun ls hl => ?_)
      exact t55 ls (lv_sub hl [0, 1, 2, 3, 4, 5] rfl)
  refine lv_iload_n hx hb dL_act_0 rfl (lv_at hl 1 rfl) ?_
  refine lv_bipush (v := 16) hx hb dL_act_1 (by decide +kernel) ?_
  refine lv_idiv hx hb dL_act_3 (by decide) ?_
  refine rn_top (y := .int (rn_aY (nI X))) (congrArg Value.int rfl) ?_
  refine lv_istore_n (lv' := [(2, .int (rn_aY (nI X))), (0, .ref h0), (1, .int (nI X))]) hx hb dL_act_4 rfl hl (by decide) rfl (fun ls hl => ?_)
  refine lv_iload_n hx hb dL_act_5 rfl (lv_at hl 0 rfl) ?_
  refine lv_aload_n hx hb dL_act_6 rfl (lv_at hl 1 rfl) ?_
  refine rn_cV (As := []) (rest := [.int (rn_aY (nI X))]) 0 hx hb hml hown hts hG (c_processes l hV hC ) gL_act_X4_processes rfl ⟨rfl, rfl⟩ (by decide +kernel) ⟨Nat.le_of_ble_eq_true rfl, Nat.le_of_ble_eq_true rfl⟩ hF (hF _ _ hC.1.1) rfl rfl hl.1 rfl (Nat.le_of_ble_eq_true rfl) ⟨Nat.le_of_ble_eq_true rfl, Nat.le_of_ble_eq_true rfl⟩ dL_act_7 ?_
  refine W.eq (g2 := F0 m 10 ls [.int (nI σ.pn), .int (rn_aY (nI X))]) rfl ?_
  refine lv_irem hx hb dL_act_10 (rn_nz (by have := hV.2.2.2.2.2.1.2.1; omega) hV.2.2.2.2.2.1.1) ?_
  refine rn_top (y := .int (rn_aP σ (nI X))) (congrArg Value.int rfl) ?_
  refine lv_istore_n (lv' := [(3, .int (rn_aP σ (nI X))), (2, .int (rn_aY (nI X))), (0, .ref h0), (1, .int (nI X))]) hx hb dL_act_11 rfl hl (by decide) rfl (fun ls hl => ?_)
  refine lv_aload_n hx hb dL_act_12 rfl (lv_at hl 2 rfl) ?_
  refine rn_cV (As := []) (rest := []) 0 hx hb hml hown hts hG (c_files l hV hC ) gL_act_X4_files rfl ⟨rfl, rfl⟩ (by decide +kernel) ⟨Nat.le_of_ble_eq_true rfl, Nat.le_of_ble_eq_true rfl⟩ hF (hF _ _ hC.1.1) rfl rfl hl.1 rfl (Nat.le_of_ble_eq_true rfl) ⟨Nat.le_of_ble_eq_true rfl, Nat.le_of_ble_eq_true rfl⟩ dL_act_13 ?_
  refine W.eq (g2 := F0 m 16 ls [.int (nI σ.fn)]) rfl ?_
  refine lv_if_ne (tgt := 23) hx hb dL_act_16 (by decide) (fun c_16 => ?_) (fun c_16 => ?_)
  · refine lv_iload_n hx hb dL_act_23 rfl (lv_at hl 1 rfl) ?_
    refine lv_bipush (v := 12) hx hb dL_act_24 (by decide +kernel) ?_
    refine lv_idiv hx hb dL_act_26 (by decide) ?_
    refine lv_aload_n hx hb dL_act_27 rfl (lv_at hl 2 rfl) ?_
    refine rn_cV (As := []) (rest := [.int ((rn_aY (nI X)) / 12)]) 0 hx hb hml hown hts hG (c_files l hV hC ) gL_act_X4_files rfl ⟨rfl, rfl⟩ (by decide +kernel) ⟨Nat.le_of_ble_eq_true rfl, Nat.le_of_ble_eq_true rfl⟩ hF (hF _ _ hC.1.1) rfl rfl hl.1 rfl (Nat.le_of_ble_eq_true rfl) ⟨Nat.le_of_ble_eq_true rfl, Nat.le_of_ble_eq_true rfl⟩ dL_act_28 ?_
    refine W.eq (g2 := F0 m 31 ls [.int (nI σ.fn), .int ((rn_aY (nI X)) / 12)]) rfl ?_
    refine lv_irem hx hb dL_act_31 c_16 ?_
    refine rn_top (y := .int (rn_aF σ (nI X))) (congrArg Value.int (by rw [rn_aF, if_neg c_16])) ?_
    refine lv_istore (lv' := [(4, .int (rn_aF σ (nI X))), (3, .int (rn_aP σ (nI X))), (2, .int (rn_aY (nI X))), (0, .ref h0), (1, .int (nI X))]) hx hb dL_act_32 hl (by decide) rfl (fun ls hl => ?_)
    exact t34 ls (lv_sub hl [0, 1, 2, 3, 4] rfl)
  · refine lv_iconst (v := 0) hx hb dL_act_19 (by decide) ?_
    refine lv_goto (tgt := 32) hx hb dL_act_20 (by decide) ?_
    refine rn_top (y := .int (rn_aF σ (nI X))) (congrArg Value.int (by rw [rn_aF, if_pos c_16])) ?_
    refine lv_istore (lv' := [(4, .int (rn_aF σ (nI X))), (3, .int (rn_aP σ (nI X))), (2, .int (rn_aY (nI X))), (0, .ref h0), (1, .int (nI X))]) hx hb dL_act_32 hl (by decide) rfl (fun ls hl => ?_)
    exact t34 ls (lv_sub hl [0, 1, 2, 3, 4] rfl)

set_option maxHeartbeats 4000000 in
set_option maxRecDepth 100000 in
theorem a_act_176 (l : Launch) {D : va_G} {cR cP cF : ClassId} {h0 aR aP aF : Nat} {ra pa fa : Nat → Nat} {hd : Nat → Option Nat} {dh : Option Nat} {f : rn_T} {σ : rn_St} (hV : rn_V σ) (hC : rn_CI cR cP cF h0 aR aP aF ra pa fa hd dh f σ) {X : Nat} (hX : X < 2 ^ 31) {v : Int32} {σ' : rn_St} (hn : X % 16 = 5 ∨ X % 16 = 6 ∨ X % 16 = 7) (hM : ∀ sz : Nat, rn_LT l yL_writes wsL_writes ({ frames := 8, cells := 1, slots := 6, locals := 140 } : Room) D (rn_tys cR cP cF) (rn_S D f) [.ref h0, .int (rn_aP σ (nI X)), .int (rn_aR σ (nI X))] (some (.int v)) (rn_P D cR cP cF h0 f sz σ') (rn_A f sz) 1 6 sz) (sz : Nat) : rn_LT l yL_act wsL_act ({ frames := 9, cells := 1, slots := 6, locals := 170 } : Room) D (rn_tys cR cP cF) (rn_S D f) [.ref h0, .int (nI X)] (some (.int v)) (rn_P D cR cP cF h0 f sz σ') (rn_A f sz) 1 6 sz := by
  refine rn_LT.ofC (cc := cL_act) (maxL := 6) (ret := (some .int)) (by decide) rfl (Nat.le_of_ble_eq_true rfl) (fun p e s m below meth c ls hx hb hr hml hts hown hlocks hsz hF hG hE hS hl => ?_)
  have hl : lv_has ls 6 [(0, .ref h0), (1, .int (nI X))] := hl
  subst hsz
  have t55 : ∀ (ls : Array Slot), lv_has ls 6 [(5, .int (rn_aS (nI X))), (4, .int (rn_aF σ (nI X))), (3, .int (rn_aP σ (nI X))), (2, .int (rn_aY (nI X))), (0, .ref h0), (1, .int (nI X))] → W p l e ({ frames := 9, cells := 1, slots := 6, locals := 170 } : Room) s m ([.ref h0, .int (nI X)] : List Value).toArray below meth c s.heap [] 0 0 (MQ below (fun _ st o t => (o = .returned (some (.int v)) ∧ (rn_P D cR cP cF h0 f s.heap.size σ') t.heap) ∧ va_F (rn_A f s.heap.size) st t) ([.ref h0, .int (nI X)] : List Value).toArray s 1 6 (rn_A f s.heap.size)) (F0 m 55 ls []) := by
    intro ls hl
    refine lv_iload_n hx hb dL_act_55 rfl (lv_at hl 5 rfl) ?_
    refine lv_bipush (v := 16) hx hb dL_act_56 (by decide +kernel) ?_
    refine lv_irem hx hb dL_act_58 (by decide) ?_
    refine rn_top (y := .int (nI (X % 16))) (congrArg Value.int (pk_rem (d := 16) hX (by decide) (by decide))) ?_
    have T : ∀ ls : Array Slot, lv_has ls 6 [(5, .int (rn_aS (nI X))), (4, .int (rn_aF σ (nI X))), (3, .int (rn_aP σ (nI X))), (2, .int (rn_aY (nI X))), (0, .ref h0), (1, .int (nI X))] → W p l e ({ frames := 9, cells := 1, slots := 6, locals := 170 } : Room) s m ([.ref h0, .int (nI X)] : List Value).toArray below meth c s.heap [] 0 0 (MQ below (fun _ st o t => (o = .returned (some (.int v)) ∧ (rn_P D cR cP cF h0 f s.heap.size σ') t.heap) ∧ va_F (rn_A f s.heap.size) st t) ([.ref h0, .int (nI X)] : List Value).toArray s 1 6 (rn_A f s.heap.size)) (F0 m 176 ls []) := by
      intro ls hl
      refine lv_aload_n hx hb dL_act_176 rfl (lv_at hl 4 rfl) ?_
      refine lv_iload_n hx hb dL_act_177 rfl (lv_at hl 2 rfl) ?_
      refine lv_aload_n hx hb dL_act_178 rfl (lv_at hl 4 rfl) ?_
      refine rn_cV (As := []) (rest := [.int (rn_aP σ (nI X)), .ref h0]) 0 hx hb hml hown hts hG (c_rooms l hV hC ) gL_act_X4_rooms rfl ⟨rfl, rfl⟩ (by decide +kernel) ⟨Nat.le_of_ble_eq_true rfl, Nat.le_of_ble_eq_true rfl⟩ hF (hF _ _ hC.1.1) rfl rfl hl.1 rfl (Nat.le_of_ble_eq_true rfl) ⟨Nat.le_of_ble_eq_true rfl, Nat.le_of_ble_eq_true rfl⟩ dL_act_179 ?_
      refine W.eq (g2 := F0 m 182 ls [.int (nI σ.sn), .int (rn_aP σ (nI X)), .ref h0]) rfl ?_
      refine lv_iconst (v := 1) hx hb dL_act_182 (by decide) ?_
      refine lv_icmp_ne (tgt := 190) hx hb dL_act_183 (by decide) (fun c_183 => ?_) (fun c_183 => ?_)
      · refine lv_iconst (v := 1) hx hb dL_act_190 (by decide) ?_
        refine lv_iload_n hx hb dL_act_191 rfl (lv_at hl 3 rfl) ?_
        refine lv_bipush (v := 12) hx hb dL_act_192 (by decide +kernel) ?_
        refine lv_idiv hx hb dL_act_194 (by decide) ?_
        refine lv_aload_n hx hb dL_act_195 rfl (lv_at hl 4 rfl) ?_
        refine rn_cV (As := []) (rest := [.int ((rn_aY (nI X)) / 12), .int 1, .int (rn_aP σ (nI X)), .ref h0]) 0 hx hb hml hown hts hG (c_rooms l hV hC ) gL_act_X4_rooms rfl ⟨rfl, rfl⟩ (by decide +kernel) ⟨Nat.le_of_ble_eq_true rfl, Nat.le_of_ble_eq_true rfl⟩ hF (hF _ _ hC.1.1) rfl rfl hl.1 rfl (Nat.le_of_ble_eq_true rfl) ⟨Nat.le_of_ble_eq_true rfl, Nat.le_of_ble_eq_true rfl⟩ dL_act_196 ?_
        refine W.eq (g2 := F0 m 199 ls [.int (nI σ.sn), .int ((rn_aY (nI X)) / 12), .int 1, .int (rn_aP σ (nI X)), .ref h0]) rfl ?_
        refine lv_iconst (v := 1) hx hb dL_act_199 (by decide) ?_
        refine lv_isub hx hb dL_act_200 ?_
        refine lv_irem hx hb dL_act_201 (rn_sub1 c_183) ?_
        refine lv_iadd hx hb dL_act_202 ?_
        refine rn_top (y := .int (rn_aR σ (nI X))) (congrArg Value.int (by rw [rn_aR, if_neg c_183])) ?_
        refine rn_wLH (As := [.ref h0, .int (rn_aP σ (nI X)), .int (rn_aR σ (nI X))]) (rest := []) 3 hx hb hml hown hts hG hE.old hS (hM _) (fun q h => h) gL_act_L_writes rfl ⟨rfl, rfl⟩ (by decide +kernel) ⟨Nat.le_of_ble_eq_true rfl, Nat.le_of_ble_eq_true rfl⟩ hF rfl hl.1 rfl (Nat.le_of_ble_eq_true rfl) ⟨Nat.le_of_ble_eq_true rfl, Nat.le_of_ble_eq_true rfl⟩ dL_act_203 (fun H locs hP1 _ _ hS => ?_)
        refine W.eq (g2 := F0 m 206 ls [.int v]) rfl ?_
        exact rn_Wiret hx hb hr rfl hlocks hS (by decide) (by decide) rfl hP1 dL_act_206
      · refine lv_iconst (v := 1) hx hb dL_act_186 (by decide) ?_
        refine lv_goto (tgt := 203) hx hb dL_act_187 (by decide) ?_
        refine rn_top (y := .int (rn_aR σ (nI X))) (congrArg Value.int (by rw [rn_aR, if_pos c_183])) ?_
        refine rn_wLH (As := [.ref h0, .int (rn_aP σ (nI X)), .int (rn_aR σ (nI X))]) (rest := []) 3 hx hb hml hown hts hG hE.old hS (hM _) (fun q h => h) gL_act_L_writes rfl ⟨rfl, rfl⟩ (by decide +kernel) ⟨Nat.le_of_ble_eq_true rfl, Nat.le_of_ble_eq_true rfl⟩ hF rfl hl.1 rfl (Nat.le_of_ble_eq_true rfl) ⟨Nat.le_of_ble_eq_true rfl, Nat.le_of_ble_eq_true rfl⟩ dL_act_203 (fun H locs hP1 _ _ hS => ?_)
        refine W.eq (g2 := F0 m 206 ls [.int v]) rfl ?_
        exact rn_Wiret hx hb hr rfl hlocks hS (by decide) (by decide) rfl hP1 dL_act_206
    rcases hn with hn | hn | hn
    · rw [hn]; exact lv_tableIn (off := 117) (tgt := 176) hx hb dL_act_59 (by decide) (by decide) (by decide +kernel) (by decide) (T ls hl)
    · rw [hn]; exact lv_tableIn (off := 117) (tgt := 176) hx hb dL_act_59 (by decide) (by decide) (by decide +kernel) (by decide) (T ls hl)
    · rw [hn]; exact lv_tableIn (off := 117) (tgt := 176) hx hb dL_act_59 (by decide) (by decide) (by decide +kernel) (by decide) (T ls hl)
  have t34 : ∀ (ls : Array Slot), lv_has ls 6 [(4, .int (rn_aF σ (nI X))), (3, .int (rn_aP σ (nI X))), (2, .int (rn_aY (nI X))), (0, .ref h0), (1, .int (nI X))] → W p l e ({ frames := 9, cells := 1, slots := 6, locals := 170 } : Room) s m ([.ref h0, .int (nI X)] : List Value).toArray below meth c s.heap [] 0 0 (MQ below (fun _ st o t => (o = .returned (some (.int v)) ∧ (rn_P D cR cP cF h0 f s.heap.size σ') t.heap) ∧ va_F (rn_A f s.heap.size) st t) ([.ref h0, .int (nI X)] : List Value).toArray s 1 6 (rn_A f s.heap.size)) (F0 m 34 ls []) := by
    intro ls hl
    refine lv_iload_n hx hb dL_act_34 rfl (lv_at hl 2 rfl) ?_
    refine lv_bipush (v := 12) hx hb dL_act_35 (by decide +kernel) ?_
    refine lv_idiv hx hb dL_act_37 (by decide) ?_
    refine lv_iload_n hx hb dL_act_38 rfl (lv_at hl 2 rfl) ?_
    refine lv_iconst (v := 5) hx hb dL_act_39 (by decide) ?_
    refine lv_irem hx hb dL_act_40 (by decide) ?_
    refine lv_if_ne (tgt := 50) hx hb dL_act_41 (by decide) (fun c_41 => ?_) (fun c_41 => ?_)
    · refine lv_bipush (v := 12) hx hb dL_act_50 (by decide +kernel) ?_
      refine lv_irem hx hb dL_act_52 (by decide) ?_
      refine rn_top (y := .int (rn_aS (nI X))) (congrArg Value.int (by rw [rn_aS, if_neg c_41])) ?_
      refine lv_istore (lv' := [(5, .int (rn_aS (nI X))), (4, .int (rn_aF σ (nI X))), (3, .int (rn_aP σ (nI X))), (2, .int (rn_aY (nI X))), (0, .ref h0), (1, .int (nI X))]) hx hb dL_act_53 hl (by decide) rfl (fun ls hl => ?_)
      exact t55 ls (lv_sub hl [0, 1, 2, 3, 4, 5] rfl)
    · refine lv_sipush (v := 999) hx hb dL_act_44 (by decide +kernel) ?_
      refine lv_goto (tgt := 52) hx hb dL_act_47 (by decide) ?_
      refine lv_irem hx hb dL_act_52 (by decide) ?_
      refine rn_top (y := .int (rn_aS (nI X))) (congrArg Value.int (by rw [rn_aS, if_pos c_41])) ?_
      refine lv_istore (lv' := [(5, .int (rn_aS (nI X))), (4, .int (rn_aF σ (nI X))), (3, .int (rn_aP σ (nI X))), (2, .int (rn_aY (nI X))), (0, .ref h0), (1, .int (nI X))]) hx hb dL_act_53 hl (by decide) rfl (fun ls hl => ?_)
      exact t55 ls (lv_sub hl [0, 1, 2, 3, 4, 5] rfl)
  refine lv_iload_n hx hb dL_act_0 rfl (lv_at hl 1 rfl) ?_
  refine lv_bipush (v := 16) hx hb dL_act_1 (by decide +kernel) ?_
  refine lv_idiv hx hb dL_act_3 (by decide) ?_
  refine rn_top (y := .int (rn_aY (nI X))) (congrArg Value.int rfl) ?_
  refine lv_istore_n (lv' := [(2, .int (rn_aY (nI X))), (0, .ref h0), (1, .int (nI X))]) hx hb dL_act_4 rfl hl (by decide) rfl (fun ls hl => ?_)
  refine lv_iload_n hx hb dL_act_5 rfl (lv_at hl 0 rfl) ?_
  refine lv_aload_n hx hb dL_act_6 rfl (lv_at hl 1 rfl) ?_
  refine rn_cV (As := []) (rest := [.int (rn_aY (nI X))]) 0 hx hb hml hown hts hG (c_processes l hV hC ) gL_act_X4_processes rfl ⟨rfl, rfl⟩ (by decide +kernel) ⟨Nat.le_of_ble_eq_true rfl, Nat.le_of_ble_eq_true rfl⟩ hF (hF _ _ hC.1.1) rfl rfl hl.1 rfl (Nat.le_of_ble_eq_true rfl) ⟨Nat.le_of_ble_eq_true rfl, Nat.le_of_ble_eq_true rfl⟩ dL_act_7 ?_
  refine W.eq (g2 := F0 m 10 ls [.int (nI σ.pn), .int (rn_aY (nI X))]) rfl ?_
  refine lv_irem hx hb dL_act_10 (rn_nz (by have := hV.2.2.2.2.2.1.2.1; omega) hV.2.2.2.2.2.1.1) ?_
  refine rn_top (y := .int (rn_aP σ (nI X))) (congrArg Value.int rfl) ?_
  refine lv_istore_n (lv' := [(3, .int (rn_aP σ (nI X))), (2, .int (rn_aY (nI X))), (0, .ref h0), (1, .int (nI X))]) hx hb dL_act_11 rfl hl (by decide) rfl (fun ls hl => ?_)
  refine lv_aload_n hx hb dL_act_12 rfl (lv_at hl 2 rfl) ?_
  refine rn_cV (As := []) (rest := []) 0 hx hb hml hown hts hG (c_files l hV hC ) gL_act_X4_files rfl ⟨rfl, rfl⟩ (by decide +kernel) ⟨Nat.le_of_ble_eq_true rfl, Nat.le_of_ble_eq_true rfl⟩ hF (hF _ _ hC.1.1) rfl rfl hl.1 rfl (Nat.le_of_ble_eq_true rfl) ⟨Nat.le_of_ble_eq_true rfl, Nat.le_of_ble_eq_true rfl⟩ dL_act_13 ?_
  refine W.eq (g2 := F0 m 16 ls [.int (nI σ.fn)]) rfl ?_
  refine lv_if_ne (tgt := 23) hx hb dL_act_16 (by decide) (fun c_16 => ?_) (fun c_16 => ?_)
  · refine lv_iload_n hx hb dL_act_23 rfl (lv_at hl 1 rfl) ?_
    refine lv_bipush (v := 12) hx hb dL_act_24 (by decide +kernel) ?_
    refine lv_idiv hx hb dL_act_26 (by decide) ?_
    refine lv_aload_n hx hb dL_act_27 rfl (lv_at hl 2 rfl) ?_
    refine rn_cV (As := []) (rest := [.int ((rn_aY (nI X)) / 12)]) 0 hx hb hml hown hts hG (c_files l hV hC ) gL_act_X4_files rfl ⟨rfl, rfl⟩ (by decide +kernel) ⟨Nat.le_of_ble_eq_true rfl, Nat.le_of_ble_eq_true rfl⟩ hF (hF _ _ hC.1.1) rfl rfl hl.1 rfl (Nat.le_of_ble_eq_true rfl) ⟨Nat.le_of_ble_eq_true rfl, Nat.le_of_ble_eq_true rfl⟩ dL_act_28 ?_
    refine W.eq (g2 := F0 m 31 ls [.int (nI σ.fn), .int ((rn_aY (nI X)) / 12)]) rfl ?_
    refine lv_irem hx hb dL_act_31 c_16 ?_
    refine rn_top (y := .int (rn_aF σ (nI X))) (congrArg Value.int (by rw [rn_aF, if_neg c_16])) ?_
    refine lv_istore (lv' := [(4, .int (rn_aF σ (nI X))), (3, .int (rn_aP σ (nI X))), (2, .int (rn_aY (nI X))), (0, .ref h0), (1, .int (nI X))]) hx hb dL_act_32 hl (by decide) rfl (fun ls hl => ?_)
    exact t34 ls (lv_sub hl [0, 1, 2, 3, 4] rfl)
  · refine lv_iconst (v := 0) hx hb dL_act_19 (by decide) ?_
    refine lv_goto (tgt := 32) hx hb dL_act_20 (by decide) ?_
    refine rn_top (y := .int (rn_aF σ (nI X))) (congrArg Value.int (by rw [rn_aF, if_pos c_16])) ?_
    refine lv_istore (lv' := [(4, .int (rn_aF σ (nI X))), (3, .int (rn_aP σ (nI X))), (2, .int (rn_aY (nI X))), (0, .ref h0), (1, .int (nI X))]) hx hb dL_act_32 hl (by decide) rfl (fun ls hl => ?_)
    exact t34 ls (lv_sub hl [0, 1, 2, 3, 4] rfl)

set_option maxHeartbeats 4000000 in
set_option maxRecDepth 100000 in
theorem a_act_207 (l : Launch) {D : va_G} {cR cP cF : ClassId} {h0 aR aP aF : Nat} {ra pa fa : Nat → Nat} {hd : Nat → Option Nat} {dh : Option Nat} {f : rn_T} {σ : rn_St} (hV : rn_V σ) (hC : rn_CI cR cP cF h0 aR aP aF ra pa fa hd dh f σ) {X : Nat} (hX : X < 2 ^ 31) {v : Int32} {σ' : rn_St} (hn : X % 16 = 8) (hM : ∀ sz : Nat, rn_LT l yL_forks wsL_forks ({ frames := 8, cells := 1, slots := 6, locals := 140 } : Room) D (rn_tys cR cP cF) (rn_S D f) [.ref h0, .int (rn_aP σ (nI X))] (some (.int v)) (rn_P D cR cP cF h0 f sz σ') (rn_A f sz) 1 6 sz) (sz : Nat) : rn_LT l yL_act wsL_act ({ frames := 9, cells := 1, slots := 6, locals := 170 } : Room) D (rn_tys cR cP cF) (rn_S D f) [.ref h0, .int (nI X)] (some (.int v)) (rn_P D cR cP cF h0 f sz σ') (rn_A f sz) 1 6 sz := by
  refine rn_LT.ofC (cc := cL_act) (maxL := 6) (ret := (some .int)) (by decide) rfl (Nat.le_of_ble_eq_true rfl) (fun p e s m below meth c ls hx hb hr hml hts hown hlocks hsz hF hG hE hS hl => ?_)
  have hl : lv_has ls 6 [(0, .ref h0), (1, .int (nI X))] := hl
  subst hsz
  have t55 : ∀ (ls : Array Slot), lv_has ls 6 [(5, .int (rn_aS (nI X))), (4, .int (rn_aF σ (nI X))), (3, .int (rn_aP σ (nI X))), (2, .int (rn_aY (nI X))), (0, .ref h0), (1, .int (nI X))] → W p l e ({ frames := 9, cells := 1, slots := 6, locals := 170 } : Room) s m ([.ref h0, .int (nI X)] : List Value).toArray below meth c s.heap [] 0 0 (MQ below (fun _ st o t => (o = .returned (some (.int v)) ∧ (rn_P D cR cP cF h0 f s.heap.size σ') t.heap) ∧ va_F (rn_A f s.heap.size) st t) ([.ref h0, .int (nI X)] : List Value).toArray s 1 6 (rn_A f s.heap.size)) (F0 m 55 ls []) := by
    intro ls hl
    refine lv_iload_n hx hb dL_act_55 rfl (lv_at hl 5 rfl) ?_
    refine lv_bipush (v := 16) hx hb dL_act_56 (by decide +kernel) ?_
    refine lv_irem hx hb dL_act_58 (by decide) ?_
    refine rn_top (y := .int (nI (X % 16))) (congrArg Value.int (pk_rem (d := 16) hX (by decide) (by decide))) ?_
    have T : ∀ ls : Array Slot, lv_has ls 6 [(5, .int (rn_aS (nI X))), (4, .int (rn_aF σ (nI X))), (3, .int (rn_aP σ (nI X))), (2, .int (rn_aY (nI X))), (0, .ref h0), (1, .int (nI X))] → W p l e ({ frames := 9, cells := 1, slots := 6, locals := 170 } : Room) s m ([.ref h0, .int (nI X)] : List Value).toArray below meth c s.heap [] 0 0 (MQ below (fun _ st o t => (o = .returned (some (.int v)) ∧ (rn_P D cR cP cF h0 f s.heap.size σ') t.heap) ∧ va_F (rn_A f s.heap.size) st t) ([.ref h0, .int (nI X)] : List Value).toArray s 1 6 (rn_A f s.heap.size)) (F0 m 207 ls []) := by
      intro ls hl
      refine lv_aload_n hx hb dL_act_207 rfl (lv_at hl 4 rfl) ?_
      refine lv_iload_n hx hb dL_act_208 rfl (lv_at hl 2 rfl) ?_
      refine rn_wLH (As := [.ref h0, .int (rn_aP σ (nI X))]) (rest := []) 2 hx hb hml hown hts hG hE.old hS (hM _) (fun q h => h) gL_act_L_forks rfl ⟨rfl, rfl⟩ (by decide +kernel) ⟨Nat.le_of_ble_eq_true rfl, Nat.le_of_ble_eq_true rfl⟩ hF rfl hl.1 rfl (Nat.le_of_ble_eq_true rfl) ⟨Nat.le_of_ble_eq_true rfl, Nat.le_of_ble_eq_true rfl⟩ dL_act_209 (fun H locs hP1 _ _ hS => ?_)
      refine W.eq (g2 := F0 m 212 ls [.int v]) rfl ?_
      exact rn_Wiret hx hb hr rfl hlocks hS (by decide) (by decide) rfl hP1 dL_act_212
    rw [hn]; exact lv_tableIn (off := 148) (tgt := 207) hx hb dL_act_59 (by decide) (by decide) (by decide +kernel) (by decide) (T ls hl)
  have t34 : ∀ (ls : Array Slot), lv_has ls 6 [(4, .int (rn_aF σ (nI X))), (3, .int (rn_aP σ (nI X))), (2, .int (rn_aY (nI X))), (0, .ref h0), (1, .int (nI X))] → W p l e ({ frames := 9, cells := 1, slots := 6, locals := 170 } : Room) s m ([.ref h0, .int (nI X)] : List Value).toArray below meth c s.heap [] 0 0 (MQ below (fun _ st o t => (o = .returned (some (.int v)) ∧ (rn_P D cR cP cF h0 f s.heap.size σ') t.heap) ∧ va_F (rn_A f s.heap.size) st t) ([.ref h0, .int (nI X)] : List Value).toArray s 1 6 (rn_A f s.heap.size)) (F0 m 34 ls []) := by
    intro ls hl
    refine lv_iload_n hx hb dL_act_34 rfl (lv_at hl 2 rfl) ?_
    refine lv_bipush (v := 12) hx hb dL_act_35 (by decide +kernel) ?_
    refine lv_idiv hx hb dL_act_37 (by decide) ?_
    refine lv_iload_n hx hb dL_act_38 rfl (lv_at hl 2 rfl) ?_
    refine lv_iconst (v := 5) hx hb dL_act_39 (by decide) ?_
    refine lv_irem hx hb dL_act_40 (by decide) ?_
    refine lv_if_ne (tgt := 50) hx hb dL_act_41 (by decide) (fun c_41 => ?_) (fun c_41 => ?_)
    · refine lv_bipush (v := 12) hx hb dL_act_50 (by decide +kernel) ?_
      refine lv_irem hx hb dL_act_52 (by decide) ?_
      refine rn_top (y := .int (rn_aS (nI X))) (congrArg Value.int (by rw [rn_aS, if_neg c_41])) ?_
      refine lv_istore (lv' := [(5, .int (rn_aS (nI X))), (4, .int (rn_aF σ (nI X))), (3, .int (rn_aP σ (nI X))), (2, .int (rn_aY (nI X))), (0, .ref h0), (1, .int (nI X))]) hx hb dL_act_53 hl (by decide) rfl (fun ls hl => ?_)
      exact t55 ls (lv_sub hl [0, 1, 2, 3, 4, 5] rfl)
    · refine lv_sipush (v := 999) hx hb dL_act_44 (by decide +kernel) ?_
      refine lv_goto (tgt := 52) hx hb dL_act_47 (by decide) ?_
      refine lv_irem hx hb dL_act_52 (by decide) ?_
      refine rn_top (y := .int (rn_aS (nI X))) (congrArg Value.int (by rw [rn_aS, if_pos c_41])) ?_
      refine lv_istore (lv' := [(5, .int (rn_aS (nI X))), (4, .int (rn_aF σ (nI X))), (3, .int (rn_aP σ (nI X))), (2, .int (rn_aY (nI X))), (0, .ref h0), (1, .int (nI X))]) hx hb dL_act_53 hl (by decide) rfl (fun ls hl => ?_)
      exact t55 ls (lv_sub hl [0, 1, 2, 3, 4, 5] rfl)
  refine lv_iload_n hx hb dL_act_0 rfl (lv_at hl 1 rfl) ?_
  refine lv_bipush (v := 16) hx hb dL_act_1 (by decide +kernel) ?_
  refine lv_idiv hx hb dL_act_3 (by decide) ?_
  refine rn_top (y := .int (rn_aY (nI X))) (congrArg Value.int rfl) ?_
  refine lv_istore_n (lv' := [(2, .int (rn_aY (nI X))), (0, .ref h0), (1, .int (nI X))]) hx hb dL_act_4 rfl hl (by decide) rfl (fun ls hl => ?_)
  refine lv_iload_n hx hb dL_act_5 rfl (lv_at hl 0 rfl) ?_
  refine lv_aload_n hx hb dL_act_6 rfl (lv_at hl 1 rfl) ?_
  refine rn_cV (As := []) (rest := [.int (rn_aY (nI X))]) 0 hx hb hml hown hts hG (c_processes l hV hC ) gL_act_X4_processes rfl ⟨rfl, rfl⟩ (by decide +kernel) ⟨Nat.le_of_ble_eq_true rfl, Nat.le_of_ble_eq_true rfl⟩ hF (hF _ _ hC.1.1) rfl rfl hl.1 rfl (Nat.le_of_ble_eq_true rfl) ⟨Nat.le_of_ble_eq_true rfl, Nat.le_of_ble_eq_true rfl⟩ dL_act_7 ?_
  refine W.eq (g2 := F0 m 10 ls [.int (nI σ.pn), .int (rn_aY (nI X))]) rfl ?_
  refine lv_irem hx hb dL_act_10 (rn_nz (by have := hV.2.2.2.2.2.1.2.1; omega) hV.2.2.2.2.2.1.1) ?_
  refine rn_top (y := .int (rn_aP σ (nI X))) (congrArg Value.int rfl) ?_
  refine lv_istore_n (lv' := [(3, .int (rn_aP σ (nI X))), (2, .int (rn_aY (nI X))), (0, .ref h0), (1, .int (nI X))]) hx hb dL_act_11 rfl hl (by decide) rfl (fun ls hl => ?_)
  refine lv_aload_n hx hb dL_act_12 rfl (lv_at hl 2 rfl) ?_
  refine rn_cV (As := []) (rest := []) 0 hx hb hml hown hts hG (c_files l hV hC ) gL_act_X4_files rfl ⟨rfl, rfl⟩ (by decide +kernel) ⟨Nat.le_of_ble_eq_true rfl, Nat.le_of_ble_eq_true rfl⟩ hF (hF _ _ hC.1.1) rfl rfl hl.1 rfl (Nat.le_of_ble_eq_true rfl) ⟨Nat.le_of_ble_eq_true rfl, Nat.le_of_ble_eq_true rfl⟩ dL_act_13 ?_
  refine W.eq (g2 := F0 m 16 ls [.int (nI σ.fn)]) rfl ?_
  refine lv_if_ne (tgt := 23) hx hb dL_act_16 (by decide) (fun c_16 => ?_) (fun c_16 => ?_)
  · refine lv_iload_n hx hb dL_act_23 rfl (lv_at hl 1 rfl) ?_
    refine lv_bipush (v := 12) hx hb dL_act_24 (by decide +kernel) ?_
    refine lv_idiv hx hb dL_act_26 (by decide) ?_
    refine lv_aload_n hx hb dL_act_27 rfl (lv_at hl 2 rfl) ?_
    refine rn_cV (As := []) (rest := [.int ((rn_aY (nI X)) / 12)]) 0 hx hb hml hown hts hG (c_files l hV hC ) gL_act_X4_files rfl ⟨rfl, rfl⟩ (by decide +kernel) ⟨Nat.le_of_ble_eq_true rfl, Nat.le_of_ble_eq_true rfl⟩ hF (hF _ _ hC.1.1) rfl rfl hl.1 rfl (Nat.le_of_ble_eq_true rfl) ⟨Nat.le_of_ble_eq_true rfl, Nat.le_of_ble_eq_true rfl⟩ dL_act_28 ?_
    refine W.eq (g2 := F0 m 31 ls [.int (nI σ.fn), .int ((rn_aY (nI X)) / 12)]) rfl ?_
    refine lv_irem hx hb dL_act_31 c_16 ?_
    refine rn_top (y := .int (rn_aF σ (nI X))) (congrArg Value.int (by rw [rn_aF, if_neg c_16])) ?_
    refine lv_istore (lv' := [(4, .int (rn_aF σ (nI X))), (3, .int (rn_aP σ (nI X))), (2, .int (rn_aY (nI X))), (0, .ref h0), (1, .int (nI X))]) hx hb dL_act_32 hl (by decide) rfl (fun ls hl => ?_)
    exact t34 ls (lv_sub hl [0, 1, 2, 3, 4] rfl)
  · refine lv_iconst (v := 0) hx hb dL_act_19 (by decide) ?_
    refine lv_goto (tgt := 32) hx hb dL_act_20 (by decide) ?_
    refine rn_top (y := .int (rn_aF σ (nI X))) (congrArg Value.int (by rw [rn_aF, if_pos c_16])) ?_
    refine lv_istore (lv' := [(4, .int (rn_aF σ (nI X))), (3, .int (rn_aP σ (nI X))), (2, .int (rn_aY (nI X))), (0, .ref h0), (1, .int (nI X))]) hx hb dL_act_32 hl (by decide) rfl (fun ls hl => ?_)
    exact t34 ls (lv_sub hl [0, 1, 2, 3, 4] rfl)

set_option maxHeartbeats 4000000 in
set_option maxRecDepth 100000 in
theorem a_act_213 (l : Launch) {D : va_G} {cR cP cF : ClassId} {h0 aR aP aF : Nat} {ra pa fa : Nat → Nat} {hd : Nat → Option Nat} {dh : Option Nat} {f : rn_T} {σ : rn_St} (hV : rn_V σ) (hC : rn_CI cR cP cF h0 aR aP aF ra pa fa hd dh f σ) {X : Nat} (hX : X < 2 ^ 31) {v : Int32} {σ' : rn_St} (hn : X % 16 = 9) (hM : ∀ sz : Nat, rn_LT l yL_drops wsL_drops ({ frames := 8, cells := 1, slots := 6, locals := 140 } : Room) D (rn_tys cR cP cF) (rn_S D f) [.ref h0, .int (rn_aP σ (nI X)), .int (1 <<< ((rn_aY (nI X) / 12 - rn_aY (nI X) / 12 / 4 * 4) &&& 31))] (some (.int v)) (rn_P D cR cP cF h0 f sz σ') (rn_A f sz) 1 6 sz) (sz : Nat) : rn_LT l yL_act wsL_act ({ frames := 9, cells := 1, slots := 6, locals := 170 } : Room) D (rn_tys cR cP cF) (rn_S D f) [.ref h0, .int (nI X)] (some (.int v)) (rn_P D cR cP cF h0 f sz σ') (rn_A f sz) 1 6 sz := by
  refine rn_LT.ofC (cc := cL_act) (maxL := 6) (ret := (some .int)) (by decide) rfl (Nat.le_of_ble_eq_true rfl) (fun p e s m below meth c ls hx hb hr hml hts hown hlocks hsz hF hG hE hS hl => ?_)
  have hl : lv_has ls 6 [(0, .ref h0), (1, .int (nI X))] := hl
  subst hsz
  have t55 : ∀ (ls : Array Slot), lv_has ls 6 [(5, .int (rn_aS (nI X))), (4, .int (rn_aF σ (nI X))), (3, .int (rn_aP σ (nI X))), (2, .int (rn_aY (nI X))), (0, .ref h0), (1, .int (nI X))] → W p l e ({ frames := 9, cells := 1, slots := 6, locals := 170 } : Room) s m ([.ref h0, .int (nI X)] : List Value).toArray below meth c s.heap [] 0 0 (MQ below (fun _ st o t => (o = .returned (some (.int v)) ∧ (rn_P D cR cP cF h0 f s.heap.size σ') t.heap) ∧ va_F (rn_A f s.heap.size) st t) ([.ref h0, .int (nI X)] : List Value).toArray s 1 6 (rn_A f s.heap.size)) (F0 m 55 ls []) := by
    intro ls hl
    refine lv_iload_n hx hb dL_act_55 rfl (lv_at hl 5 rfl) ?_
    refine lv_bipush (v := 16) hx hb dL_act_56 (by decide +kernel) ?_
    refine lv_irem hx hb dL_act_58 (by decide) ?_
    refine rn_top (y := .int (nI (X % 16))) (congrArg Value.int (pk_rem (d := 16) hX (by decide) (by decide))) ?_
    have T : ∀ ls : Array Slot, lv_has ls 6 [(5, .int (rn_aS (nI X))), (4, .int (rn_aF σ (nI X))), (3, .int (rn_aP σ (nI X))), (2, .int (rn_aY (nI X))), (0, .ref h0), (1, .int (nI X))] → W p l e ({ frames := 9, cells := 1, slots := 6, locals := 170 } : Room) s m ([.ref h0, .int (nI X)] : List Value).toArray below meth c s.heap [] 0 0 (MQ below (fun _ st o t => (o = .returned (some (.int v)) ∧ (rn_P D cR cP cF h0 f s.heap.size σ') t.heap) ∧ va_F (rn_A f s.heap.size) st t) ([.ref h0, .int (nI X)] : List Value).toArray s 1 6 (rn_A f s.heap.size)) (F0 m 213 ls []) := by
      intro ls hl
      refine lv_aload_n hx hb dL_act_213 rfl (lv_at hl 4 rfl) ?_
      refine lv_iload_n hx hb dL_act_214 rfl (lv_at hl 2 rfl) ?_
      refine lv_iconst (v := 1) hx hb dL_act_215 (by decide) ?_
      refine lv_iload_n hx hb dL_act_216 rfl (lv_at hl 3 rfl) ?_
      refine lv_bipush (v := 12) hx hb dL_act_217 (by decide +kernel) ?_
      refine lv_idiv hx hb dL_act_219 (by decide) ?_
      refine lv_iconst (v := 4) hx hb dL_act_220 (by decide) ?_
      refine lv_irem hx hb dL_act_221 (by decide) ?_
      refine lv_ishl hx hb dL_act_222 ?_
      refine rn_wLH (As := [.ref h0, .int (rn_aP σ (nI X)), .int (1 <<< ((rn_aY (nI X) / 12 - rn_aY (nI X) / 12 / 4 * 4) &&& 31))]) (rest := []) 3 hx hb hml hown hts hG hE.old hS (hM _) (fun q h => h) gL_act_L_drops rfl ⟨rfl, rfl⟩ (by decide +kernel) ⟨Nat.le_of_ble_eq_true rfl, Nat.le_of_ble_eq_true rfl⟩ hF rfl hl.1 rfl (Nat.le_of_ble_eq_true rfl) ⟨Nat.le_of_ble_eq_true rfl, Nat.le_of_ble_eq_true rfl⟩ dL_act_223 (fun H locs hP1 _ _ hS => ?_)
      refine W.eq (g2 := F0 m 226 ls [.int v]) rfl ?_
      exact rn_Wiret hx hb hr rfl hlocks hS (by decide) (by decide) rfl hP1 dL_act_226
    rw [hn]; exact lv_tableIn (off := 154) (tgt := 213) hx hb dL_act_59 (by decide) (by decide) (by decide +kernel) (by decide) (T ls hl)
  have t34 : ∀ (ls : Array Slot), lv_has ls 6 [(4, .int (rn_aF σ (nI X))), (3, .int (rn_aP σ (nI X))), (2, .int (rn_aY (nI X))), (0, .ref h0), (1, .int (nI X))] → W p l e ({ frames := 9, cells := 1, slots := 6, locals := 170 } : Room) s m ([.ref h0, .int (nI X)] : List Value).toArray below meth c s.heap [] 0 0 (MQ below (fun _ st o t => (o = .returned (some (.int v)) ∧ (rn_P D cR cP cF h0 f s.heap.size σ') t.heap) ∧ va_F (rn_A f s.heap.size) st t) ([.ref h0, .int (nI X)] : List Value).toArray s 1 6 (rn_A f s.heap.size)) (F0 m 34 ls []) := by
    intro ls hl
    refine lv_iload_n hx hb dL_act_34 rfl (lv_at hl 2 rfl) ?_
    refine lv_bipush (v := 12) hx hb dL_act_35 (by decide +kernel) ?_
    refine lv_idiv hx hb dL_act_37 (by decide) ?_
    refine lv_iload_n hx hb dL_act_38 rfl (lv_at hl 2 rfl) ?_
    refine lv_iconst (v := 5) hx hb dL_act_39 (by decide) ?_
    refine lv_irem hx hb dL_act_40 (by decide) ?_
    refine lv_if_ne (tgt := 50) hx hb dL_act_41 (by decide) (fun c_41 => ?_) (fun c_41 => ?_)
    · refine lv_bipush (v := 12) hx hb dL_act_50 (by decide +kernel) ?_
      refine lv_irem hx hb dL_act_52 (by decide) ?_
      refine rn_top (y := .int (rn_aS (nI X))) (congrArg Value.int (by rw [rn_aS, if_neg c_41])) ?_
      refine lv_istore (lv' := [(5, .int (rn_aS (nI X))), (4, .int (rn_aF σ (nI X))), (3, .int (rn_aP σ (nI X))), (2, .int (rn_aY (nI X))), (0, .ref h0), (1, .int (nI X))]) hx hb dL_act_53 hl (by decide) rfl (fun ls hl => ?_)
      exact t55 ls (lv_sub hl [0, 1, 2, 3, 4, 5] rfl)
    · refine lv_sipush (v := 999) hx hb dL_act_44 (by decide +kernel) ?_
      refine lv_goto (tgt := 52) hx hb dL_act_47 (by decide) ?_
      refine lv_irem hx hb dL_act_52 (by decide) ?_
      refine rn_top (y := .int (rn_aS (nI X))) (congrArg Value.int (by rw [rn_aS, if_pos c_41])) ?_
      refine lv_istore (lv' := [(5, .int (rn_aS (nI X))), (4, .int (rn_aF σ (nI X))), (3, .int (rn_aP σ (nI X))), (2, .int (rn_aY (nI X))), (0, .ref h0), (1, .int (nI X))]) hx hb dL_act_53 hl (by decide) rfl (fun ls hl => ?_)
      exact t55 ls (lv_sub hl [0, 1, 2, 3, 4, 5] rfl)
  refine lv_iload_n hx hb dL_act_0 rfl (lv_at hl 1 rfl) ?_
  refine lv_bipush (v := 16) hx hb dL_act_1 (by decide +kernel) ?_
  refine lv_idiv hx hb dL_act_3 (by decide) ?_
  refine rn_top (y := .int (rn_aY (nI X))) (congrArg Value.int rfl) ?_
  refine lv_istore_n (lv' := [(2, .int (rn_aY (nI X))), (0, .ref h0), (1, .int (nI X))]) hx hb dL_act_4 rfl hl (by decide) rfl (fun ls hl => ?_)
  refine lv_iload_n hx hb dL_act_5 rfl (lv_at hl 0 rfl) ?_
  refine lv_aload_n hx hb dL_act_6 rfl (lv_at hl 1 rfl) ?_
  refine rn_cV (As := []) (rest := [.int (rn_aY (nI X))]) 0 hx hb hml hown hts hG (c_processes l hV hC ) gL_act_X4_processes rfl ⟨rfl, rfl⟩ (by decide +kernel) ⟨Nat.le_of_ble_eq_true rfl, Nat.le_of_ble_eq_true rfl⟩ hF (hF _ _ hC.1.1) rfl rfl hl.1 rfl (Nat.le_of_ble_eq_true rfl) ⟨Nat.le_of_ble_eq_true rfl, Nat.le_of_ble_eq_true rfl⟩ dL_act_7 ?_
  refine W.eq (g2 := F0 m 10 ls [.int (nI σ.pn), .int (rn_aY (nI X))]) rfl ?_
  refine lv_irem hx hb dL_act_10 (rn_nz (by have := hV.2.2.2.2.2.1.2.1; omega) hV.2.2.2.2.2.1.1) ?_
  refine rn_top (y := .int (rn_aP σ (nI X))) (congrArg Value.int rfl) ?_
  refine lv_istore_n (lv' := [(3, .int (rn_aP σ (nI X))), (2, .int (rn_aY (nI X))), (0, .ref h0), (1, .int (nI X))]) hx hb dL_act_11 rfl hl (by decide) rfl (fun ls hl => ?_)
  refine lv_aload_n hx hb dL_act_12 rfl (lv_at hl 2 rfl) ?_
  refine rn_cV (As := []) (rest := []) 0 hx hb hml hown hts hG (c_files l hV hC ) gL_act_X4_files rfl ⟨rfl, rfl⟩ (by decide +kernel) ⟨Nat.le_of_ble_eq_true rfl, Nat.le_of_ble_eq_true rfl⟩ hF (hF _ _ hC.1.1) rfl rfl hl.1 rfl (Nat.le_of_ble_eq_true rfl) ⟨Nat.le_of_ble_eq_true rfl, Nat.le_of_ble_eq_true rfl⟩ dL_act_13 ?_
  refine W.eq (g2 := F0 m 16 ls [.int (nI σ.fn)]) rfl ?_
  refine lv_if_ne (tgt := 23) hx hb dL_act_16 (by decide) (fun c_16 => ?_) (fun c_16 => ?_)
  · refine lv_iload_n hx hb dL_act_23 rfl (lv_at hl 1 rfl) ?_
    refine lv_bipush (v := 12) hx hb dL_act_24 (by decide +kernel) ?_
    refine lv_idiv hx hb dL_act_26 (by decide) ?_
    refine lv_aload_n hx hb dL_act_27 rfl (lv_at hl 2 rfl) ?_
    refine rn_cV (As := []) (rest := [.int ((rn_aY (nI X)) / 12)]) 0 hx hb hml hown hts hG (c_files l hV hC ) gL_act_X4_files rfl ⟨rfl, rfl⟩ (by decide +kernel) ⟨Nat.le_of_ble_eq_true rfl, Nat.le_of_ble_eq_true rfl⟩ hF (hF _ _ hC.1.1) rfl rfl hl.1 rfl (Nat.le_of_ble_eq_true rfl) ⟨Nat.le_of_ble_eq_true rfl, Nat.le_of_ble_eq_true rfl⟩ dL_act_28 ?_
    refine W.eq (g2 := F0 m 31 ls [.int (nI σ.fn), .int ((rn_aY (nI X)) / 12)]) rfl ?_
    refine lv_irem hx hb dL_act_31 c_16 ?_
    refine rn_top (y := .int (rn_aF σ (nI X))) (congrArg Value.int (by rw [rn_aF, if_neg c_16])) ?_
    refine lv_istore (lv' := [(4, .int (rn_aF σ (nI X))), (3, .int (rn_aP σ (nI X))), (2, .int (rn_aY (nI X))), (0, .ref h0), (1, .int (nI X))]) hx hb dL_act_32 hl (by decide) rfl (fun ls hl => ?_)
    exact t34 ls (lv_sub hl [0, 1, 2, 3, 4] rfl)
  · refine lv_iconst (v := 0) hx hb dL_act_19 (by decide) ?_
    refine lv_goto (tgt := 32) hx hb dL_act_20 (by decide) ?_
    refine rn_top (y := .int (rn_aF σ (nI X))) (congrArg Value.int (by rw [rn_aF, if_pos c_16])) ?_
    refine lv_istore (lv' := [(4, .int (rn_aF σ (nI X))), (3, .int (rn_aP σ (nI X))), (2, .int (rn_aY (nI X))), (0, .ref h0), (1, .int (nI X))]) hx hb dL_act_32 hl (by decide) rfl (fun ls hl => ?_)
    exact t34 ls (lv_sub hl [0, 1, 2, 3, 4] rfl)

set_option maxHeartbeats 4000000 in
set_option maxRecDepth 100000 in
theorem a_act_227 (l : Launch) {D : va_G} {cR cP cF : ClassId} {h0 aR aP aF : Nat} {ra pa fa : Nat → Nat} {hd : Nat → Option Nat} {dh : Option Nat} {f : rn_T} {σ : rn_St} (hV : rn_V σ) (hC : rn_CI cR cP cF h0 aR aP aF ra pa fa hd dh f σ) {X : Nat} (hX : X < 2 ^ 31) {v : Int32} {σ' : rn_St} (hn : X % 16 = 10) (hM : ∀ sz : Nat, rn_LT l yL_enters wsL_enters ({ frames := 8, cells := 1, slots := 6, locals := 140 } : Room) D (rn_tys cR cP cF) (rn_S D f) [.ref h0, .int (rn_aP σ (nI X)), .int (rn_aY (nI X) / 12 - rn_aY (nI X) / 12 / nI σ.sn * nI σ.sn)] (some (.int v)) (rn_P D cR cP cF h0 f sz σ') (rn_A f sz) 1 6 sz) (sz : Nat) : rn_LT l yL_act wsL_act ({ frames := 9, cells := 1, slots := 6, locals := 170 } : Room) D (rn_tys cR cP cF) (rn_S D f) [.ref h0, .int (nI X)] (some (.int v)) (rn_P D cR cP cF h0 f sz σ') (rn_A f sz) 1 6 sz := by
  refine rn_LT.ofC (cc := cL_act) (maxL := 6) (ret := (some .int)) (by decide) rfl (Nat.le_of_ble_eq_true rfl) (fun p e s m below meth c ls hx hb hr hml hts hown hlocks hsz hF hG hE hS hl => ?_)
  have hl : lv_has ls 6 [(0, .ref h0), (1, .int (nI X))] := hl
  subst hsz
  have t55 : ∀ (ls : Array Slot), lv_has ls 6 [(5, .int (rn_aS (nI X))), (4, .int (rn_aF σ (nI X))), (3, .int (rn_aP σ (nI X))), (2, .int (rn_aY (nI X))), (0, .ref h0), (1, .int (nI X))] → W p l e ({ frames := 9, cells := 1, slots := 6, locals := 170 } : Room) s m ([.ref h0, .int (nI X)] : List Value).toArray below meth c s.heap [] 0 0 (MQ below (fun _ st o t => (o = .returned (some (.int v)) ∧ (rn_P D cR cP cF h0 f s.heap.size σ') t.heap) ∧ va_F (rn_A f s.heap.size) st t) ([.ref h0, .int (nI X)] : List Value).toArray s 1 6 (rn_A f s.heap.size)) (F0 m 55 ls []) := by
    intro ls hl
    refine lv_iload_n hx hb dL_act_55 rfl (lv_at hl 5 rfl) ?_
    refine lv_bipush (v := 16) hx hb dL_act_56 (by decide +kernel) ?_
    refine lv_irem hx hb dL_act_58 (by decide) ?_
    refine rn_top (y := .int (nI (X % 16))) (congrArg Value.int (pk_rem (d := 16) hX (by decide) (by decide))) ?_
    have T : ∀ ls : Array Slot, lv_has ls 6 [(5, .int (rn_aS (nI X))), (4, .int (rn_aF σ (nI X))), (3, .int (rn_aP σ (nI X))), (2, .int (rn_aY (nI X))), (0, .ref h0), (1, .int (nI X))] → W p l e ({ frames := 9, cells := 1, slots := 6, locals := 170 } : Room) s m ([.ref h0, .int (nI X)] : List Value).toArray below meth c s.heap [] 0 0 (MQ below (fun _ st o t => (o = .returned (some (.int v)) ∧ (rn_P D cR cP cF h0 f s.heap.size σ') t.heap) ∧ va_F (rn_A f s.heap.size) st t) ([.ref h0, .int (nI X)] : List Value).toArray s 1 6 (rn_A f s.heap.size)) (F0 m 227 ls []) := by
      intro ls hl
      refine lv_aload_n hx hb dL_act_227 rfl (lv_at hl 4 rfl) ?_
      refine lv_iload_n hx hb dL_act_228 rfl (lv_at hl 2 rfl) ?_
      refine lv_iload_n hx hb dL_act_229 rfl (lv_at hl 3 rfl) ?_
      refine lv_bipush (v := 12) hx hb dL_act_230 (by decide +kernel) ?_
      refine lv_idiv hx hb dL_act_232 (by decide) ?_
      refine lv_aload_n hx hb dL_act_233 rfl (lv_at hl 4 rfl) ?_
      refine rn_cV (As := []) (rest := [.int ((rn_aY (nI X)) / 12), .int (rn_aP σ (nI X)), .ref h0]) 0 hx hb hml hown hts hG (c_rooms l hV hC ) gL_act_X4_rooms rfl ⟨rfl, rfl⟩ (by decide +kernel) ⟨Nat.le_of_ble_eq_true rfl, Nat.le_of_ble_eq_true rfl⟩ hF (hF _ _ hC.1.1) rfl rfl hl.1 rfl (Nat.le_of_ble_eq_true rfl) ⟨Nat.le_of_ble_eq_true rfl, Nat.le_of_ble_eq_true rfl⟩ dL_act_234 ?_
      refine W.eq (g2 := F0 m 237 ls [.int (nI σ.sn), .int ((rn_aY (nI X)) / 12), .int (rn_aP σ (nI X)), .ref h0]) rfl ?_
      refine lv_irem hx hb dL_act_237 (rn_nz (by have := hV.1.2; omega) hV.1.1) ?_
      refine rn_wLH (As := [.ref h0, .int (rn_aP σ (nI X)), .int (rn_aY (nI X) / 12 - rn_aY (nI X) / 12 / nI σ.sn * nI σ.sn)]) (rest := []) 3 hx hb hml hown hts hG hE.old hS (hM _) (fun q h => h) gL_act_L_enters rfl ⟨rfl, rfl⟩ (by decide +kernel) ⟨Nat.le_of_ble_eq_true rfl, Nat.le_of_ble_eq_true rfl⟩ hF rfl hl.1 rfl (Nat.le_of_ble_eq_true rfl) ⟨Nat.le_of_ble_eq_true rfl, Nat.le_of_ble_eq_true rfl⟩ dL_act_238 (fun H locs hP1 _ _ hS => ?_)
      refine W.eq (g2 := F0 m 241 ls [.int v]) rfl ?_
      exact rn_Wiret hx hb hr rfl hlocks hS (by decide) (by decide) rfl hP1 dL_act_241
    rw [hn]; exact lv_tableIn (off := 168) (tgt := 227) hx hb dL_act_59 (by decide) (by decide) (by decide +kernel) (by decide) (T ls hl)
  have t34 : ∀ (ls : Array Slot), lv_has ls 6 [(4, .int (rn_aF σ (nI X))), (3, .int (rn_aP σ (nI X))), (2, .int (rn_aY (nI X))), (0, .ref h0), (1, .int (nI X))] → W p l e ({ frames := 9, cells := 1, slots := 6, locals := 170 } : Room) s m ([.ref h0, .int (nI X)] : List Value).toArray below meth c s.heap [] 0 0 (MQ below (fun _ st o t => (o = .returned (some (.int v)) ∧ (rn_P D cR cP cF h0 f s.heap.size σ') t.heap) ∧ va_F (rn_A f s.heap.size) st t) ([.ref h0, .int (nI X)] : List Value).toArray s 1 6 (rn_A f s.heap.size)) (F0 m 34 ls []) := by
    intro ls hl
    refine lv_iload_n hx hb dL_act_34 rfl (lv_at hl 2 rfl) ?_
    refine lv_bipush (v := 12) hx hb dL_act_35 (by decide +kernel) ?_
    refine lv_idiv hx hb dL_act_37 (by decide) ?_
    refine lv_iload_n hx hb dL_act_38 rfl (lv_at hl 2 rfl) ?_
    refine lv_iconst (v := 5) hx hb dL_act_39 (by decide) ?_
    refine lv_irem hx hb dL_act_40 (by decide) ?_
    refine lv_if_ne (tgt := 50) hx hb dL_act_41 (by decide) (fun c_41 => ?_) (fun c_41 => ?_)
    · refine lv_bipush (v := 12) hx hb dL_act_50 (by decide +kernel) ?_
      refine lv_irem hx hb dL_act_52 (by decide) ?_
      refine rn_top (y := .int (rn_aS (nI X))) (congrArg Value.int (by rw [rn_aS, if_neg c_41])) ?_
      refine lv_istore (lv' := [(5, .int (rn_aS (nI X))), (4, .int (rn_aF σ (nI X))), (3, .int (rn_aP σ (nI X))), (2, .int (rn_aY (nI X))), (0, .ref h0), (1, .int (nI X))]) hx hb dL_act_53 hl (by decide) rfl (fun ls hl => ?_)
      exact t55 ls (lv_sub hl [0, 1, 2, 3, 4, 5] rfl)
    · refine lv_sipush (v := 999) hx hb dL_act_44 (by decide +kernel) ?_
      refine lv_goto (tgt := 52) hx hb dL_act_47 (by decide) ?_
      refine lv_irem hx hb dL_act_52 (by decide) ?_
      refine rn_top (y := .int (rn_aS (nI X))) (congrArg Value.int (by rw [rn_aS, if_pos c_41])) ?_
      refine lv_istore (lv' := [(5, .int (rn_aS (nI X))), (4, .int (rn_aF σ (nI X))), (3, .int (rn_aP σ (nI X))), (2, .int (rn_aY (nI X))), (0, .ref h0), (1, .int (nI X))]) hx hb dL_act_53 hl (by decide) rfl (fun ls hl => ?_)
      exact t55 ls (lv_sub hl [0, 1, 2, 3, 4, 5] rfl)
  refine lv_iload_n hx hb dL_act_0 rfl (lv_at hl 1 rfl) ?_
  refine lv_bipush (v := 16) hx hb dL_act_1 (by decide +kernel) ?_
  refine lv_idiv hx hb dL_act_3 (by decide) ?_
  refine rn_top (y := .int (rn_aY (nI X))) (congrArg Value.int rfl) ?_
  refine lv_istore_n (lv' := [(2, .int (rn_aY (nI X))), (0, .ref h0), (1, .int (nI X))]) hx hb dL_act_4 rfl hl (by decide) rfl (fun ls hl => ?_)
  refine lv_iload_n hx hb dL_act_5 rfl (lv_at hl 0 rfl) ?_
  refine lv_aload_n hx hb dL_act_6 rfl (lv_at hl 1 rfl) ?_
  refine rn_cV (As := []) (rest := [.int (rn_aY (nI X))]) 0 hx hb hml hown hts hG (c_processes l hV hC ) gL_act_X4_processes rfl ⟨rfl, rfl⟩ (by decide +kernel) ⟨Nat.le_of_ble_eq_true rfl, Nat.le_of_ble_eq_true rfl⟩ hF (hF _ _ hC.1.1) rfl rfl hl.1 rfl (Nat.le_of_ble_eq_true rfl) ⟨Nat.le_of_ble_eq_true rfl, Nat.le_of_ble_eq_true rfl⟩ dL_act_7 ?_
  refine W.eq (g2 := F0 m 10 ls [.int (nI σ.pn), .int (rn_aY (nI X))]) rfl ?_
  refine lv_irem hx hb dL_act_10 (rn_nz (by have := hV.2.2.2.2.2.1.2.1; omega) hV.2.2.2.2.2.1.1) ?_
  refine rn_top (y := .int (rn_aP σ (nI X))) (congrArg Value.int rfl) ?_
  refine lv_istore_n (lv' := [(3, .int (rn_aP σ (nI X))), (2, .int (rn_aY (nI X))), (0, .ref h0), (1, .int (nI X))]) hx hb dL_act_11 rfl hl (by decide) rfl (fun ls hl => ?_)
  refine lv_aload_n hx hb dL_act_12 rfl (lv_at hl 2 rfl) ?_
  refine rn_cV (As := []) (rest := []) 0 hx hb hml hown hts hG (c_files l hV hC ) gL_act_X4_files rfl ⟨rfl, rfl⟩ (by decide +kernel) ⟨Nat.le_of_ble_eq_true rfl, Nat.le_of_ble_eq_true rfl⟩ hF (hF _ _ hC.1.1) rfl rfl hl.1 rfl (Nat.le_of_ble_eq_true rfl) ⟨Nat.le_of_ble_eq_true rfl, Nat.le_of_ble_eq_true rfl⟩ dL_act_13 ?_
  refine W.eq (g2 := F0 m 16 ls [.int (nI σ.fn)]) rfl ?_
  refine lv_if_ne (tgt := 23) hx hb dL_act_16 (by decide) (fun c_16 => ?_) (fun c_16 => ?_)
  · refine lv_iload_n hx hb dL_act_23 rfl (lv_at hl 1 rfl) ?_
    refine lv_bipush (v := 12) hx hb dL_act_24 (by decide +kernel) ?_
    refine lv_idiv hx hb dL_act_26 (by decide) ?_
    refine lv_aload_n hx hb dL_act_27 rfl (lv_at hl 2 rfl) ?_
    refine rn_cV (As := []) (rest := [.int ((rn_aY (nI X)) / 12)]) 0 hx hb hml hown hts hG (c_files l hV hC ) gL_act_X4_files rfl ⟨rfl, rfl⟩ (by decide +kernel) ⟨Nat.le_of_ble_eq_true rfl, Nat.le_of_ble_eq_true rfl⟩ hF (hF _ _ hC.1.1) rfl rfl hl.1 rfl (Nat.le_of_ble_eq_true rfl) ⟨Nat.le_of_ble_eq_true rfl, Nat.le_of_ble_eq_true rfl⟩ dL_act_28 ?_
    refine W.eq (g2 := F0 m 31 ls [.int (nI σ.fn), .int ((rn_aY (nI X)) / 12)]) rfl ?_
    refine lv_irem hx hb dL_act_31 c_16 ?_
    refine rn_top (y := .int (rn_aF σ (nI X))) (congrArg Value.int (by rw [rn_aF, if_neg c_16])) ?_
    refine lv_istore (lv' := [(4, .int (rn_aF σ (nI X))), (3, .int (rn_aP σ (nI X))), (2, .int (rn_aY (nI X))), (0, .ref h0), (1, .int (nI X))]) hx hb dL_act_32 hl (by decide) rfl (fun ls hl => ?_)
    exact t34 ls (lv_sub hl [0, 1, 2, 3, 4] rfl)
  · refine lv_iconst (v := 0) hx hb dL_act_19 (by decide) ?_
    refine lv_goto (tgt := 32) hx hb dL_act_20 (by decide) ?_
    refine rn_top (y := .int (rn_aF σ (nI X))) (congrArg Value.int (by rw [rn_aF, if_pos c_16])) ?_
    refine lv_istore (lv' := [(4, .int (rn_aF σ (nI X))), (3, .int (rn_aP σ (nI X))), (2, .int (rn_aY (nI X))), (0, .ref h0), (1, .int (nI X))]) hx hb dL_act_32 hl (by decide) rfl (fun ls hl => ?_)
    exact t34 ls (lv_sub hl [0, 1, 2, 3, 4] rfl)

set_option maxHeartbeats 4000000 in
set_option maxRecDepth 100000 in
theorem a_act_242 (l : Launch) {D : va_G} {cR cP cF : ClassId} {h0 aR aP aF : Nat} {ra pa fa : Nat → Nat} {hd : Nat → Option Nat} {dh : Option Nat} {f : rn_T} {σ : rn_St} (hV : rn_V σ) (hC : rn_CI cR cP cF h0 aR aP aF ra pa fa hd dh f σ) {X : Nat} (hX : X < 2 ^ 31) {v : Int32} {σ' : rn_St} (hn : X % 16 = 11 ∨ X % 16 = 12) (hM : ∀ sz : Nat, rn_LT l yL_takes wsL_takes ({ frames := 8, cells := 1, slots := 6, locals := 140 } : Room) D (rn_tys cR cP cF) (rn_S D f) [.ref h0, .int (rn_aP σ (nI X)), .int (rn_aS (nI X))] (some (.int v)) (rn_P D cR cP cF h0 f sz σ') (rn_A f sz) 1 6 sz) (sz : Nat) : rn_LT l yL_act wsL_act ({ frames := 9, cells := 1, slots := 6, locals := 170 } : Room) D (rn_tys cR cP cF) (rn_S D f) [.ref h0, .int (nI X)] (some (.int v)) (rn_P D cR cP cF h0 f sz σ') (rn_A f sz) 1 6 sz := by
  refine rn_LT.ofC (cc := cL_act) (maxL := 6) (ret := (some .int)) (by decide) rfl (Nat.le_of_ble_eq_true rfl) (fun p e s m below meth c ls hx hb hr hml hts hown hlocks hsz hF hG hE hS hl => ?_)
  have hl : lv_has ls 6 [(0, .ref h0), (1, .int (nI X))] := hl
  subst hsz
  have t55 : ∀ (ls : Array Slot), lv_has ls 6 [(5, .int (rn_aS (nI X))), (4, .int (rn_aF σ (nI X))), (3, .int (rn_aP σ (nI X))), (2, .int (rn_aY (nI X))), (0, .ref h0), (1, .int (nI X))] → W p l e ({ frames := 9, cells := 1, slots := 6, locals := 170 } : Room) s m ([.ref h0, .int (nI X)] : List Value).toArray below meth c s.heap [] 0 0 (MQ below (fun _ st o t => (o = .returned (some (.int v)) ∧ (rn_P D cR cP cF h0 f s.heap.size σ') t.heap) ∧ va_F (rn_A f s.heap.size) st t) ([.ref h0, .int (nI X)] : List Value).toArray s 1 6 (rn_A f s.heap.size)) (F0 m 55 ls []) := by
    intro ls hl
    refine lv_iload_n hx hb dL_act_55 rfl (lv_at hl 5 rfl) ?_
    refine lv_bipush (v := 16) hx hb dL_act_56 (by decide +kernel) ?_
    refine lv_irem hx hb dL_act_58 (by decide) ?_
    refine rn_top (y := .int (nI (X % 16))) (congrArg Value.int (pk_rem (d := 16) hX (by decide) (by decide))) ?_
    have T : ∀ ls : Array Slot, lv_has ls 6 [(5, .int (rn_aS (nI X))), (4, .int (rn_aF σ (nI X))), (3, .int (rn_aP σ (nI X))), (2, .int (rn_aY (nI X))), (0, .ref h0), (1, .int (nI X))] → W p l e ({ frames := 9, cells := 1, slots := 6, locals := 170 } : Room) s m ([.ref h0, .int (nI X)] : List Value).toArray below meth c s.heap [] 0 0 (MQ below (fun _ st o t => (o = .returned (some (.int v)) ∧ (rn_P D cR cP cF h0 f s.heap.size σ') t.heap) ∧ va_F (rn_A f s.heap.size) st t) ([.ref h0, .int (nI X)] : List Value).toArray s 1 6 (rn_A f s.heap.size)) (F0 m 242 ls []) := by
      intro ls hl
      refine lv_aload_n hx hb dL_act_242 rfl (lv_at hl 4 rfl) ?_
      refine lv_iload_n hx hb dL_act_243 rfl (lv_at hl 2 rfl) ?_
      refine lv_iload hx hb dL_act_244 (lv_at hl 0 rfl) ?_
      refine rn_wLH (As := [.ref h0, .int (rn_aP σ (nI X)), .int (rn_aS (nI X))]) (rest := []) 3 hx hb hml hown hts hG hE.old hS (hM _) (fun q h => h) gL_act_L_takes rfl ⟨rfl, rfl⟩ (by decide +kernel) ⟨Nat.le_of_ble_eq_true rfl, Nat.le_of_ble_eq_true rfl⟩ hF rfl hl.1 rfl (Nat.le_of_ble_eq_true rfl) ⟨Nat.le_of_ble_eq_true rfl, Nat.le_of_ble_eq_true rfl⟩ dL_act_246 (fun H locs hP1 _ _ hS => ?_)
      refine W.eq (g2 := F0 m 249 ls [.int v]) rfl ?_
      exact rn_Wiret hx hb hr rfl hlocks hS (by decide) (by decide) rfl hP1 dL_act_249
    rcases hn with hn | hn
    · rw [hn]; exact lv_tableIn (off := 183) (tgt := 242) hx hb dL_act_59 (by decide) (by decide) (by decide +kernel) (by decide) (T ls hl)
    · rw [hn]; exact lv_tableIn (off := 183) (tgt := 242) hx hb dL_act_59 (by decide) (by decide) (by decide +kernel) (by decide) (T ls hl)
  have t34 : ∀ (ls : Array Slot), lv_has ls 6 [(4, .int (rn_aF σ (nI X))), (3, .int (rn_aP σ (nI X))), (2, .int (rn_aY (nI X))), (0, .ref h0), (1, .int (nI X))] → W p l e ({ frames := 9, cells := 1, slots := 6, locals := 170 } : Room) s m ([.ref h0, .int (nI X)] : List Value).toArray below meth c s.heap [] 0 0 (MQ below (fun _ st o t => (o = .returned (some (.int v)) ∧ (rn_P D cR cP cF h0 f s.heap.size σ') t.heap) ∧ va_F (rn_A f s.heap.size) st t) ([.ref h0, .int (nI X)] : List Value).toArray s 1 6 (rn_A f s.heap.size)) (F0 m 34 ls []) := by
    intro ls hl
    refine lv_iload_n hx hb dL_act_34 rfl (lv_at hl 2 rfl) ?_
    refine lv_bipush (v := 12) hx hb dL_act_35 (by decide +kernel) ?_
    refine lv_idiv hx hb dL_act_37 (by decide) ?_
    refine lv_iload_n hx hb dL_act_38 rfl (lv_at hl 2 rfl) ?_
    refine lv_iconst (v := 5) hx hb dL_act_39 (by decide) ?_
    refine lv_irem hx hb dL_act_40 (by decide) ?_
    refine lv_if_ne (tgt := 50) hx hb dL_act_41 (by decide) (fun c_41 => ?_) (fun c_41 => ?_)
    · refine lv_bipush (v := 12) hx hb dL_act_50 (by decide +kernel) ?_
      refine lv_irem hx hb dL_act_52 (by decide) ?_
      refine rn_top (y := .int (rn_aS (nI X))) (congrArg Value.int (by rw [rn_aS, if_neg c_41])) ?_
      refine lv_istore (lv' := [(5, .int (rn_aS (nI X))), (4, .int (rn_aF σ (nI X))), (3, .int (rn_aP σ (nI X))), (2, .int (rn_aY (nI X))), (0, .ref h0), (1, .int (nI X))]) hx hb dL_act_53 hl (by decide) rfl (fun ls hl => ?_)
      exact t55 ls (lv_sub hl [0, 1, 2, 3, 4, 5] rfl)
    · refine lv_sipush (v := 999) hx hb dL_act_44 (by decide +kernel) ?_
      refine lv_goto (tgt := 52) hx hb dL_act_47 (by decide) ?_
      refine lv_irem hx hb dL_act_52 (by decide) ?_
      refine rn_top (y := .int (rn_aS (nI X))) (congrArg Value.int (by rw [rn_aS, if_pos c_41])) ?_
      refine lv_istore (lv' := [(5, .int (rn_aS (nI X))), (4, .int (rn_aF σ (nI X))), (3, .int (rn_aP σ (nI X))), (2, .int (rn_aY (nI X))), (0, .ref h0), (1, .int (nI X))]) hx hb dL_act_53 hl (by decide) rfl (fun ls hl => ?_)
      exact t55 ls (lv_sub hl [0, 1, 2, 3, 4, 5] rfl)
  refine lv_iload_n hx hb dL_act_0 rfl (lv_at hl 1 rfl) ?_
  refine lv_bipush (v := 16) hx hb dL_act_1 (by decide +kernel) ?_
  refine lv_idiv hx hb dL_act_3 (by decide) ?_
  refine rn_top (y := .int (rn_aY (nI X))) (congrArg Value.int rfl) ?_
  refine lv_istore_n (lv' := [(2, .int (rn_aY (nI X))), (0, .ref h0), (1, .int (nI X))]) hx hb dL_act_4 rfl hl (by decide) rfl (fun ls hl => ?_)
  refine lv_iload_n hx hb dL_act_5 rfl (lv_at hl 0 rfl) ?_
  refine lv_aload_n hx hb dL_act_6 rfl (lv_at hl 1 rfl) ?_
  refine rn_cV (As := []) (rest := [.int (rn_aY (nI X))]) 0 hx hb hml hown hts hG (c_processes l hV hC ) gL_act_X4_processes rfl ⟨rfl, rfl⟩ (by decide +kernel) ⟨Nat.le_of_ble_eq_true rfl, Nat.le_of_ble_eq_true rfl⟩ hF (hF _ _ hC.1.1) rfl rfl hl.1 rfl (Nat.le_of_ble_eq_true rfl) ⟨Nat.le_of_ble_eq_true rfl, Nat.le_of_ble_eq_true rfl⟩ dL_act_7 ?_
  refine W.eq (g2 := F0 m 10 ls [.int (nI σ.pn), .int (rn_aY (nI X))]) rfl ?_
  refine lv_irem hx hb dL_act_10 (rn_nz (by have := hV.2.2.2.2.2.1.2.1; omega) hV.2.2.2.2.2.1.1) ?_
  refine rn_top (y := .int (rn_aP σ (nI X))) (congrArg Value.int rfl) ?_
  refine lv_istore_n (lv' := [(3, .int (rn_aP σ (nI X))), (2, .int (rn_aY (nI X))), (0, .ref h0), (1, .int (nI X))]) hx hb dL_act_11 rfl hl (by decide) rfl (fun ls hl => ?_)
  refine lv_aload_n hx hb dL_act_12 rfl (lv_at hl 2 rfl) ?_
  refine rn_cV (As := []) (rest := []) 0 hx hb hml hown hts hG (c_files l hV hC ) gL_act_X4_files rfl ⟨rfl, rfl⟩ (by decide +kernel) ⟨Nat.le_of_ble_eq_true rfl, Nat.le_of_ble_eq_true rfl⟩ hF (hF _ _ hC.1.1) rfl rfl hl.1 rfl (Nat.le_of_ble_eq_true rfl) ⟨Nat.le_of_ble_eq_true rfl, Nat.le_of_ble_eq_true rfl⟩ dL_act_13 ?_
  refine W.eq (g2 := F0 m 16 ls [.int (nI σ.fn)]) rfl ?_
  refine lv_if_ne (tgt := 23) hx hb dL_act_16 (by decide) (fun c_16 => ?_) (fun c_16 => ?_)
  · refine lv_iload_n hx hb dL_act_23 rfl (lv_at hl 1 rfl) ?_
    refine lv_bipush (v := 12) hx hb dL_act_24 (by decide +kernel) ?_
    refine lv_idiv hx hb dL_act_26 (by decide) ?_
    refine lv_aload_n hx hb dL_act_27 rfl (lv_at hl 2 rfl) ?_
    refine rn_cV (As := []) (rest := [.int ((rn_aY (nI X)) / 12)]) 0 hx hb hml hown hts hG (c_files l hV hC ) gL_act_X4_files rfl ⟨rfl, rfl⟩ (by decide +kernel) ⟨Nat.le_of_ble_eq_true rfl, Nat.le_of_ble_eq_true rfl⟩ hF (hF _ _ hC.1.1) rfl rfl hl.1 rfl (Nat.le_of_ble_eq_true rfl) ⟨Nat.le_of_ble_eq_true rfl, Nat.le_of_ble_eq_true rfl⟩ dL_act_28 ?_
    refine W.eq (g2 := F0 m 31 ls [.int (nI σ.fn), .int ((rn_aY (nI X)) / 12)]) rfl ?_
    refine lv_irem hx hb dL_act_31 c_16 ?_
    refine rn_top (y := .int (rn_aF σ (nI X))) (congrArg Value.int (by rw [rn_aF, if_neg c_16])) ?_
    refine lv_istore (lv' := [(4, .int (rn_aF σ (nI X))), (3, .int (rn_aP σ (nI X))), (2, .int (rn_aY (nI X))), (0, .ref h0), (1, .int (nI X))]) hx hb dL_act_32 hl (by decide) rfl (fun ls hl => ?_)
    exact t34 ls (lv_sub hl [0, 1, 2, 3, 4] rfl)
  · refine lv_iconst (v := 0) hx hb dL_act_19 (by decide) ?_
    refine lv_goto (tgt := 32) hx hb dL_act_20 (by decide) ?_
    refine rn_top (y := .int (rn_aF σ (nI X))) (congrArg Value.int (by rw [rn_aF, if_pos c_16])) ?_
    refine lv_istore (lv' := [(4, .int (rn_aF σ (nI X))), (3, .int (rn_aP σ (nI X))), (2, .int (rn_aY (nI X))), (0, .ref h0), (1, .int (nI X))]) hx hb dL_act_32 hl (by decide) rfl (fun ls hl => ?_)
    exact t34 ls (lv_sub hl [0, 1, 2, 3, 4] rfl)

set_option maxHeartbeats 4000000 in
set_option maxRecDepth 100000 in
theorem a_act_250 (l : Launch) {D : va_G} {cR cP cF : ClassId} {h0 aR aP aF : Nat} {ra pa fa : Nat → Nat} {hd : Nat → Option Nat} {dh : Option Nat} {f : rn_T} {σ : rn_St} (hV : rn_V σ) (hC : rn_CI cR cP cF h0 aR aP aF ra pa fa hd dh f σ) {X : Nat} (hX : X < 2 ^ 31) {v : Int32} {σ' : rn_St} (hn : X % 16 = 13) (hM : ∀ sz : Nat, rn_LT l yL_files wsL_files ({ frames := 8, cells := 1, slots := 6, locals := 140 } : Room) D (rn_tys cR cP cF) (rn_S D f) [.ref h0, .int (rn_aP σ (nI X)), .int (rn_aY (nI X) / 12 - rn_aY (nI X) / 12 / 16 * 16)] (some (.int v)) (rn_P D cR cP cF h0 f sz σ') (rn_A f sz) 1 6 sz) (sz : Nat) : rn_LT l yL_act wsL_act ({ frames := 9, cells := 1, slots := 6, locals := 170 } : Room) D (rn_tys cR cP cF) (rn_S D f) [.ref h0, .int (nI X)] (some (.int v)) (rn_P D cR cP cF h0 f sz σ') (rn_A f sz) 1 6 sz := by
  refine rn_LT.ofC (cc := cL_act) (maxL := 6) (ret := (some .int)) (by decide) rfl (Nat.le_of_ble_eq_true rfl) (fun p e s m below meth c ls hx hb hr hml hts hown hlocks hsz hF hG hE hS hl => ?_)
  have hl : lv_has ls 6 [(0, .ref h0), (1, .int (nI X))] := hl
  subst hsz
  have t55 : ∀ (ls : Array Slot), lv_has ls 6 [(5, .int (rn_aS (nI X))), (4, .int (rn_aF σ (nI X))), (3, .int (rn_aP σ (nI X))), (2, .int (rn_aY (nI X))), (0, .ref h0), (1, .int (nI X))] → W p l e ({ frames := 9, cells := 1, slots := 6, locals := 170 } : Room) s m ([.ref h0, .int (nI X)] : List Value).toArray below meth c s.heap [] 0 0 (MQ below (fun _ st o t => (o = .returned (some (.int v)) ∧ (rn_P D cR cP cF h0 f s.heap.size σ') t.heap) ∧ va_F (rn_A f s.heap.size) st t) ([.ref h0, .int (nI X)] : List Value).toArray s 1 6 (rn_A f s.heap.size)) (F0 m 55 ls []) := by
    intro ls hl
    refine lv_iload_n hx hb dL_act_55 rfl (lv_at hl 5 rfl) ?_
    refine lv_bipush (v := 16) hx hb dL_act_56 (by decide +kernel) ?_
    refine lv_irem hx hb dL_act_58 (by decide) ?_
    refine rn_top (y := .int (nI (X % 16))) (congrArg Value.int (pk_rem (d := 16) hX (by decide) (by decide))) ?_
    have T : ∀ ls : Array Slot, lv_has ls 6 [(5, .int (rn_aS (nI X))), (4, .int (rn_aF σ (nI X))), (3, .int (rn_aP σ (nI X))), (2, .int (rn_aY (nI X))), (0, .ref h0), (1, .int (nI X))] → W p l e ({ frames := 9, cells := 1, slots := 6, locals := 170 } : Room) s m ([.ref h0, .int (nI X)] : List Value).toArray below meth c s.heap [] 0 0 (MQ below (fun _ st o t => (o = .returned (some (.int v)) ∧ (rn_P D cR cP cF h0 f s.heap.size σ') t.heap) ∧ va_F (rn_A f s.heap.size) st t) ([.ref h0, .int (nI X)] : List Value).toArray s 1 6 (rn_A f s.heap.size)) (F0 m 250 ls []) := by
      intro ls hl
      refine lv_aload_n hx hb dL_act_250 rfl (lv_at hl 4 rfl) ?_
      refine lv_iload_n hx hb dL_act_251 rfl (lv_at hl 2 rfl) ?_
      refine lv_iload_n hx hb dL_act_252 rfl (lv_at hl 3 rfl) ?_
      refine lv_bipush (v := 12) hx hb dL_act_253 (by decide +kernel) ?_
      refine lv_idiv hx hb dL_act_255 (by decide) ?_
      refine lv_bipush (v := 16) hx hb dL_act_256 (by decide +kernel) ?_
      refine lv_irem hx hb dL_act_258 (by decide) ?_
      refine rn_wLH (As := [.ref h0, .int (rn_aP σ (nI X)), .int (rn_aY (nI X) / 12 - rn_aY (nI X) / 12 / 16 * 16)]) (rest := []) 3 hx hb hml hown hts hG hE.old hS (hM _) (fun q h => h) gL_act_L_files rfl ⟨rfl, rfl⟩ (by decide +kernel) ⟨Nat.le_of_ble_eq_true rfl, Nat.le_of_ble_eq_true rfl⟩ hF rfl hl.1 rfl (Nat.le_of_ble_eq_true rfl) ⟨Nat.le_of_ble_eq_true rfl, Nat.le_of_ble_eq_true rfl⟩ dL_act_259 (fun H locs hP1 _ _ hS => ?_)
      refine W.eq (g2 := F0 m 262 ls [.int v]) rfl ?_
      exact rn_Wiret hx hb hr rfl hlocks hS (by decide) (by decide) rfl hP1 dL_act_262
    rw [hn]; exact lv_tableIn (off := 191) (tgt := 250) hx hb dL_act_59 (by decide) (by decide) (by decide +kernel) (by decide) (T ls hl)
  have t34 : ∀ (ls : Array Slot), lv_has ls 6 [(4, .int (rn_aF σ (nI X))), (3, .int (rn_aP σ (nI X))), (2, .int (rn_aY (nI X))), (0, .ref h0), (1, .int (nI X))] → W p l e ({ frames := 9, cells := 1, slots := 6, locals := 170 } : Room) s m ([.ref h0, .int (nI X)] : List Value).toArray below meth c s.heap [] 0 0 (MQ below (fun _ st o t => (o = .returned (some (.int v)) ∧ (rn_P D cR cP cF h0 f s.heap.size σ') t.heap) ∧ va_F (rn_A f s.heap.size) st t) ([.ref h0, .int (nI X)] : List Value).toArray s 1 6 (rn_A f s.heap.size)) (F0 m 34 ls []) := by
    intro ls hl
    refine lv_iload_n hx hb dL_act_34 rfl (lv_at hl 2 rfl) ?_
    refine lv_bipush (v := 12) hx hb dL_act_35 (by decide +kernel) ?_
    refine lv_idiv hx hb dL_act_37 (by decide) ?_
    refine lv_iload_n hx hb dL_act_38 rfl (lv_at hl 2 rfl) ?_
    refine lv_iconst (v := 5) hx hb dL_act_39 (by decide) ?_
    refine lv_irem hx hb dL_act_40 (by decide) ?_
    refine lv_if_ne (tgt := 50) hx hb dL_act_41 (by decide) (fun c_41 => ?_) (fun c_41 => ?_)
    · refine lv_bipush (v := 12) hx hb dL_act_50 (by decide +kernel) ?_
      refine lv_irem hx hb dL_act_52 (by decide) ?_
      refine rn_top (y := .int (rn_aS (nI X))) (congrArg Value.int (by rw [rn_aS, if_neg c_41])) ?_
      refine lv_istore (lv' := [(5, .int (rn_aS (nI X))), (4, .int (rn_aF σ (nI X))), (3, .int (rn_aP σ (nI X))), (2, .int (rn_aY (nI X))), (0, .ref h0), (1, .int (nI X))]) hx hb dL_act_53 hl (by decide) rfl (fun ls hl => ?_)
      exact t55 ls (lv_sub hl [0, 1, 2, 3, 4, 5] rfl)
    · refine lv_sipush (v := 999) hx hb dL_act_44 (by decide +kernel) ?_
      refine lv_goto (tgt := 52) hx hb dL_act_47 (by decide) ?_
      refine lv_irem hx hb dL_act_52 (by decide) ?_
      refine rn_top (y := .int (rn_aS (nI X))) (congrArg Value.int (by rw [rn_aS, if_pos c_41])) ?_
      refine lv_istore (lv' := [(5, .int (rn_aS (nI X))), (4, .int (rn_aF σ (nI X))), (3, .int (rn_aP σ (nI X))), (2, .int (rn_aY (nI X))), (0, .ref h0), (1, .int (nI X))]) hx hb dL_act_53 hl (by decide) rfl (fun ls hl => ?_)
      exact t55 ls (lv_sub hl [0, 1, 2, 3, 4, 5] rfl)
  refine lv_iload_n hx hb dL_act_0 rfl (lv_at hl 1 rfl) ?_
  refine lv_bipush (v := 16) hx hb dL_act_1 (by decide +kernel) ?_
  refine lv_idiv hx hb dL_act_3 (by decide) ?_
  refine rn_top (y := .int (rn_aY (nI X))) (congrArg Value.int rfl) ?_
  refine lv_istore_n (lv' := [(2, .int (rn_aY (nI X))), (0, .ref h0), (1, .int (nI X))]) hx hb dL_act_4 rfl hl (by decide) rfl (fun ls hl => ?_)
  refine lv_iload_n hx hb dL_act_5 rfl (lv_at hl 0 rfl) ?_
  refine lv_aload_n hx hb dL_act_6 rfl (lv_at hl 1 rfl) ?_
  refine rn_cV (As := []) (rest := [.int (rn_aY (nI X))]) 0 hx hb hml hown hts hG (c_processes l hV hC ) gL_act_X4_processes rfl ⟨rfl, rfl⟩ (by decide +kernel) ⟨Nat.le_of_ble_eq_true rfl, Nat.le_of_ble_eq_true rfl⟩ hF (hF _ _ hC.1.1) rfl rfl hl.1 rfl (Nat.le_of_ble_eq_true rfl) ⟨Nat.le_of_ble_eq_true rfl, Nat.le_of_ble_eq_true rfl⟩ dL_act_7 ?_
  refine W.eq (g2 := F0 m 10 ls [.int (nI σ.pn), .int (rn_aY (nI X))]) rfl ?_
  refine lv_irem hx hb dL_act_10 (rn_nz (by have := hV.2.2.2.2.2.1.2.1; omega) hV.2.2.2.2.2.1.1) ?_
  refine rn_top (y := .int (rn_aP σ (nI X))) (congrArg Value.int rfl) ?_
  refine lv_istore_n (lv' := [(3, .int (rn_aP σ (nI X))), (2, .int (rn_aY (nI X))), (0, .ref h0), (1, .int (nI X))]) hx hb dL_act_11 rfl hl (by decide) rfl (fun ls hl => ?_)
  refine lv_aload_n hx hb dL_act_12 rfl (lv_at hl 2 rfl) ?_
  refine rn_cV (As := []) (rest := []) 0 hx hb hml hown hts hG (c_files l hV hC ) gL_act_X4_files rfl ⟨rfl, rfl⟩ (by decide +kernel) ⟨Nat.le_of_ble_eq_true rfl, Nat.le_of_ble_eq_true rfl⟩ hF (hF _ _ hC.1.1) rfl rfl hl.1 rfl (Nat.le_of_ble_eq_true rfl) ⟨Nat.le_of_ble_eq_true rfl, Nat.le_of_ble_eq_true rfl⟩ dL_act_13 ?_
  refine W.eq (g2 := F0 m 16 ls [.int (nI σ.fn)]) rfl ?_
  refine lv_if_ne (tgt := 23) hx hb dL_act_16 (by decide) (fun c_16 => ?_) (fun c_16 => ?_)
  · refine lv_iload_n hx hb dL_act_23 rfl (lv_at hl 1 rfl) ?_
    refine lv_bipush (v := 12) hx hb dL_act_24 (by decide +kernel) ?_
    refine lv_idiv hx hb dL_act_26 (by decide) ?_
    refine lv_aload_n hx hb dL_act_27 rfl (lv_at hl 2 rfl) ?_
    refine rn_cV (As := []) (rest := [.int ((rn_aY (nI X)) / 12)]) 0 hx hb hml hown hts hG (c_files l hV hC ) gL_act_X4_files rfl ⟨rfl, rfl⟩ (by decide +kernel) ⟨Nat.le_of_ble_eq_true rfl, Nat.le_of_ble_eq_true rfl⟩ hF (hF _ _ hC.1.1) rfl rfl hl.1 rfl (Nat.le_of_ble_eq_true rfl) ⟨Nat.le_of_ble_eq_true rfl, Nat.le_of_ble_eq_true rfl⟩ dL_act_28 ?_
    refine W.eq (g2 := F0 m 31 ls [.int (nI σ.fn), .int ((rn_aY (nI X)) / 12)]) rfl ?_
    refine lv_irem hx hb dL_act_31 c_16 ?_
    refine rn_top (y := .int (rn_aF σ (nI X))) (congrArg Value.int (by rw [rn_aF, if_neg c_16])) ?_
    refine lv_istore (lv' := [(4, .int (rn_aF σ (nI X))), (3, .int (rn_aP σ (nI X))), (2, .int (rn_aY (nI X))), (0, .ref h0), (1, .int (nI X))]) hx hb dL_act_32 hl (by decide) rfl (fun ls hl => ?_)
    exact t34 ls (lv_sub hl [0, 1, 2, 3, 4] rfl)
  · refine lv_iconst (v := 0) hx hb dL_act_19 (by decide) ?_
    refine lv_goto (tgt := 32) hx hb dL_act_20 (by decide) ?_
    refine rn_top (y := .int (rn_aF σ (nI X))) (congrArg Value.int (by rw [rn_aF, if_pos c_16])) ?_
    refine lv_istore (lv' := [(4, .int (rn_aF σ (nI X))), (3, .int (rn_aP σ (nI X))), (2, .int (rn_aY (nI X))), (0, .ref h0), (1, .int (nI X))]) hx hb dL_act_32 hl (by decide) rfl (fun ls hl => ?_)
    exact t34 ls (lv_sub hl [0, 1, 2, 3, 4] rfl)

set_option maxHeartbeats 4000000 in
set_option maxRecDepth 100000 in
theorem a_act_263 (l : Launch) {D : va_G} {cR cP cF : ClassId} {h0 aR aP aF : Nat} {ra pa fa : Nat → Nat} {hd : Nat → Option Nat} {dh : Option Nat} {f : rn_T} {σ : rn_St} (hV : rn_V σ) (hC : rn_CI cR cP cF h0 aR aP aF ra pa fa hd dh f σ) {X : Nat} (hX : X < 2 ^ 31) {v : Int32} {σ' : rn_St} (hn : X % 16 = 14) (hM : ∀ sz : Nat, rn_LT l yL_hands wsL_hands ({ frames := 8, cells := 1, slots := 6, locals := 140 } : Room) D (rn_tys cR cP cF) (rn_S D f) [.ref h0, .int (rn_aP σ (nI X)), .int (rn_aF σ (nI X)), .int (rn_aS (nI X))] (some (.int v)) (rn_P D cR cP cF h0 f sz σ') (rn_A f sz) 1 6 sz) (sz : Nat) : rn_LT l yL_act wsL_act ({ frames := 9, cells := 1, slots := 6, locals := 170 } : Room) D (rn_tys cR cP cF) (rn_S D f) [.ref h0, .int (nI X)] (some (.int v)) (rn_P D cR cP cF h0 f sz σ') (rn_A f sz) 1 6 sz := by
  refine rn_LT.ofC (cc := cL_act) (maxL := 6) (ret := (some .int)) (by decide) rfl (Nat.le_of_ble_eq_true rfl) (fun p e s m below meth c ls hx hb hr hml hts hown hlocks hsz hF hG hE hS hl => ?_)
  have hl : lv_has ls 6 [(0, .ref h0), (1, .int (nI X))] := hl
  subst hsz
  have t55 : ∀ (ls : Array Slot), lv_has ls 6 [(5, .int (rn_aS (nI X))), (4, .int (rn_aF σ (nI X))), (3, .int (rn_aP σ (nI X))), (2, .int (rn_aY (nI X))), (0, .ref h0), (1, .int (nI X))] → W p l e ({ frames := 9, cells := 1, slots := 6, locals := 170 } : Room) s m ([.ref h0, .int (nI X)] : List Value).toArray below meth c s.heap [] 0 0 (MQ below (fun _ st o t => (o = .returned (some (.int v)) ∧ (rn_P D cR cP cF h0 f s.heap.size σ') t.heap) ∧ va_F (rn_A f s.heap.size) st t) ([.ref h0, .int (nI X)] : List Value).toArray s 1 6 (rn_A f s.heap.size)) (F0 m 55 ls []) := by
    intro ls hl
    refine lv_iload_n hx hb dL_act_55 rfl (lv_at hl 5 rfl) ?_
    refine lv_bipush (v := 16) hx hb dL_act_56 (by decide +kernel) ?_
    refine lv_irem hx hb dL_act_58 (by decide) ?_
    refine rn_top (y := .int (nI (X % 16))) (congrArg Value.int (pk_rem (d := 16) hX (by decide) (by decide))) ?_
    have T : ∀ ls : Array Slot, lv_has ls 6 [(5, .int (rn_aS (nI X))), (4, .int (rn_aF σ (nI X))), (3, .int (rn_aP σ (nI X))), (2, .int (rn_aY (nI X))), (0, .ref h0), (1, .int (nI X))] → W p l e ({ frames := 9, cells := 1, slots := 6, locals := 170 } : Room) s m ([.ref h0, .int (nI X)] : List Value).toArray below meth c s.heap [] 0 0 (MQ below (fun _ st o t => (o = .returned (some (.int v)) ∧ (rn_P D cR cP cF h0 f s.heap.size σ') t.heap) ∧ va_F (rn_A f s.heap.size) st t) ([.ref h0, .int (nI X)] : List Value).toArray s 1 6 (rn_A f s.heap.size)) (F0 m 263 ls []) := by
      intro ls hl
      refine lv_aload_n hx hb dL_act_263 rfl (lv_at hl 4 rfl) ?_
      refine lv_iload_n hx hb dL_act_264 rfl (lv_at hl 2 rfl) ?_
      refine lv_iload hx hb dL_act_265 (lv_at hl 1 rfl) ?_
      refine lv_iload hx hb dL_act_267 (lv_at hl 0 rfl) ?_
      refine rn_wLH (As := [.ref h0, .int (rn_aP σ (nI X)), .int (rn_aF σ (nI X)), .int (rn_aS (nI X))]) (rest := []) 4 hx hb hml hown hts hG hE.old hS (hM _) (fun q h => h) gL_act_L_hands rfl ⟨rfl, rfl⟩ (by decide +kernel) ⟨Nat.le_of_ble_eq_true rfl, Nat.le_of_ble_eq_true rfl⟩ hF rfl hl.1 rfl (Nat.le_of_ble_eq_true rfl) ⟨Nat.le_of_ble_eq_true rfl, Nat.le_of_ble_eq_true rfl⟩ dL_act_269 (fun H locs hP1 _ _ hS => ?_)
      refine W.eq (g2 := F0 m 272 ls [.int v]) rfl ?_
      exact rn_Wiret hx hb hr rfl hlocks hS (by decide) (by decide) rfl hP1 dL_act_272
    rw [hn]; exact lv_tableIn (off := 204) (tgt := 263) hx hb dL_act_59 (by decide) (by decide) (by decide +kernel) (by decide) (T ls hl)
  have t34 : ∀ (ls : Array Slot), lv_has ls 6 [(4, .int (rn_aF σ (nI X))), (3, .int (rn_aP σ (nI X))), (2, .int (rn_aY (nI X))), (0, .ref h0), (1, .int (nI X))] → W p l e ({ frames := 9, cells := 1, slots := 6, locals := 170 } : Room) s m ([.ref h0, .int (nI X)] : List Value).toArray below meth c s.heap [] 0 0 (MQ below (fun _ st o t => (o = .returned (some (.int v)) ∧ (rn_P D cR cP cF h0 f s.heap.size σ') t.heap) ∧ va_F (rn_A f s.heap.size) st t) ([.ref h0, .int (nI X)] : List Value).toArray s 1 6 (rn_A f s.heap.size)) (F0 m 34 ls []) := by
    intro ls hl
    refine lv_iload_n hx hb dL_act_34 rfl (lv_at hl 2 rfl) ?_
    refine lv_bipush (v := 12) hx hb dL_act_35 (by decide +kernel) ?_
    refine lv_idiv hx hb dL_act_37 (by decide) ?_
    refine lv_iload_n hx hb dL_act_38 rfl (lv_at hl 2 rfl) ?_
    refine lv_iconst (v := 5) hx hb dL_act_39 (by decide) ?_
    refine lv_irem hx hb dL_act_40 (by decide) ?_
    refine lv_if_ne (tgt := 50) hx hb dL_act_41 (by decide) (fun c_41 => ?_) (fun c_41 => ?_)
    · refine lv_bipush (v := 12) hx hb dL_act_50 (by decide +kernel) ?_
      refine lv_irem hx hb dL_act_52 (by decide) ?_
      refine rn_top (y := .int (rn_aS (nI X))) (congrArg Value.int (by rw [rn_aS, if_neg c_41])) ?_
      refine lv_istore (lv' := [(5, .int (rn_aS (nI X))), (4, .int (rn_aF σ (nI X))), (3, .int (rn_aP σ (nI X))), (2, .int (rn_aY (nI X))), (0, .ref h0), (1, .int (nI X))]) hx hb dL_act_53 hl (by decide) rfl (fun ls hl => ?_)
      exact t55 ls (lv_sub hl [0, 1, 2, 3, 4, 5] rfl)
    · refine lv_sipush (v := 999) hx hb dL_act_44 (by decide +kernel) ?_
      refine lv_goto (tgt := 52) hx hb dL_act_47 (by decide) ?_
      refine lv_irem hx hb dL_act_52 (by decide) ?_
      refine rn_top (y := .int (rn_aS (nI X))) (congrArg Value.int (by rw [rn_aS, if_pos c_41])) ?_
      refine lv_istore (lv' := [(5, .int (rn_aS (nI X))), (4, .int (rn_aF σ (nI X))), (3, .int (rn_aP σ (nI X))), (2, .int (rn_aY (nI X))), (0, .ref h0), (1, .int (nI X))]) hx hb dL_act_53 hl (by decide) rfl (fun ls hl => ?_)
      exact t55 ls (lv_sub hl [0, 1, 2, 3, 4, 5] rfl)
  refine lv_iload_n hx hb dL_act_0 rfl (lv_at hl 1 rfl) ?_
  refine lv_bipush (v := 16) hx hb dL_act_1 (by decide +kernel) ?_
  refine lv_idiv hx hb dL_act_3 (by decide) ?_
  refine rn_top (y := .int (rn_aY (nI X))) (congrArg Value.int rfl) ?_
  refine lv_istore_n (lv' := [(2, .int (rn_aY (nI X))), (0, .ref h0), (1, .int (nI X))]) hx hb dL_act_4 rfl hl (by decide) rfl (fun ls hl => ?_)
  refine lv_iload_n hx hb dL_act_5 rfl (lv_at hl 0 rfl) ?_
  refine lv_aload_n hx hb dL_act_6 rfl (lv_at hl 1 rfl) ?_
  refine rn_cV (As := []) (rest := [.int (rn_aY (nI X))]) 0 hx hb hml hown hts hG (c_processes l hV hC ) gL_act_X4_processes rfl ⟨rfl, rfl⟩ (by decide +kernel) ⟨Nat.le_of_ble_eq_true rfl, Nat.le_of_ble_eq_true rfl⟩ hF (hF _ _ hC.1.1) rfl rfl hl.1 rfl (Nat.le_of_ble_eq_true rfl) ⟨Nat.le_of_ble_eq_true rfl, Nat.le_of_ble_eq_true rfl⟩ dL_act_7 ?_
  refine W.eq (g2 := F0 m 10 ls [.int (nI σ.pn), .int (rn_aY (nI X))]) rfl ?_
  refine lv_irem hx hb dL_act_10 (rn_nz (by have := hV.2.2.2.2.2.1.2.1; omega) hV.2.2.2.2.2.1.1) ?_
  refine rn_top (y := .int (rn_aP σ (nI X))) (congrArg Value.int rfl) ?_
  refine lv_istore_n (lv' := [(3, .int (rn_aP σ (nI X))), (2, .int (rn_aY (nI X))), (0, .ref h0), (1, .int (nI X))]) hx hb dL_act_11 rfl hl (by decide) rfl (fun ls hl => ?_)
  refine lv_aload_n hx hb dL_act_12 rfl (lv_at hl 2 rfl) ?_
  refine rn_cV (As := []) (rest := []) 0 hx hb hml hown hts hG (c_files l hV hC ) gL_act_X4_files rfl ⟨rfl, rfl⟩ (by decide +kernel) ⟨Nat.le_of_ble_eq_true rfl, Nat.le_of_ble_eq_true rfl⟩ hF (hF _ _ hC.1.1) rfl rfl hl.1 rfl (Nat.le_of_ble_eq_true rfl) ⟨Nat.le_of_ble_eq_true rfl, Nat.le_of_ble_eq_true rfl⟩ dL_act_13 ?_
  refine W.eq (g2 := F0 m 16 ls [.int (nI σ.fn)]) rfl ?_
  refine lv_if_ne (tgt := 23) hx hb dL_act_16 (by decide) (fun c_16 => ?_) (fun c_16 => ?_)
  · refine lv_iload_n hx hb dL_act_23 rfl (lv_at hl 1 rfl) ?_
    refine lv_bipush (v := 12) hx hb dL_act_24 (by decide +kernel) ?_
    refine lv_idiv hx hb dL_act_26 (by decide) ?_
    refine lv_aload_n hx hb dL_act_27 rfl (lv_at hl 2 rfl) ?_
    refine rn_cV (As := []) (rest := [.int ((rn_aY (nI X)) / 12)]) 0 hx hb hml hown hts hG (c_files l hV hC ) gL_act_X4_files rfl ⟨rfl, rfl⟩ (by decide +kernel) ⟨Nat.le_of_ble_eq_true rfl, Nat.le_of_ble_eq_true rfl⟩ hF (hF _ _ hC.1.1) rfl rfl hl.1 rfl (Nat.le_of_ble_eq_true rfl) ⟨Nat.le_of_ble_eq_true rfl, Nat.le_of_ble_eq_true rfl⟩ dL_act_28 ?_
    refine W.eq (g2 := F0 m 31 ls [.int (nI σ.fn), .int ((rn_aY (nI X)) / 12)]) rfl ?_
    refine lv_irem hx hb dL_act_31 c_16 ?_
    refine rn_top (y := .int (rn_aF σ (nI X))) (congrArg Value.int (by rw [rn_aF, if_neg c_16])) ?_
    refine lv_istore (lv' := [(4, .int (rn_aF σ (nI X))), (3, .int (rn_aP σ (nI X))), (2, .int (rn_aY (nI X))), (0, .ref h0), (1, .int (nI X))]) hx hb dL_act_32 hl (by decide) rfl (fun ls hl => ?_)
    exact t34 ls (lv_sub hl [0, 1, 2, 3, 4] rfl)
  · refine lv_iconst (v := 0) hx hb dL_act_19 (by decide) ?_
    refine lv_goto (tgt := 32) hx hb dL_act_20 (by decide) ?_
    refine rn_top (y := .int (rn_aF σ (nI X))) (congrArg Value.int (by rw [rn_aF, if_pos c_16])) ?_
    refine lv_istore (lv' := [(4, .int (rn_aF σ (nI X))), (3, .int (rn_aP σ (nI X))), (2, .int (rn_aY (nI X))), (0, .ref h0), (1, .int (nI X))]) hx hb dL_act_32 hl (by decide) rfl (fun ls hl => ?_)
    exact t34 ls (lv_sub hl [0, 1, 2, 3, 4] rfl)

set_option maxHeartbeats 4000000 in
set_option maxRecDepth 100000 in
theorem a_act_273 (l : Launch) {D : va_G} {cR cP cF : ClassId} {h0 aR aP aF : Nat} {ra pa fa : Nat → Nat} {hd : Nat → Option Nat} {dh : Option Nat} {f : rn_T} {σ : rn_St} (hV : rn_V σ) (hC : rn_CI cR cP cF h0 aR aP aF ra pa fa hd dh f σ) {X : Nat} (hX : X < 2 ^ 31) {v : Int32} {σ' : rn_St} (hn : X % 16 = 15) (hM : ∀ sz : Nat, rn_LT l yL_opens wsL_opens ({ frames := 8, cells := 1, slots := 6, locals := 140 } : Room) D (rn_tys cR cP cF) (rn_S D f) [.ref h0, .int (rn_aP σ (nI X)), .int (rn_aF σ (nI X)), .int (rn_b (decide (rn_aY (nI X) / 240 - rn_aY (nI X) / 240 / 2 * 2 = 0)))] (some (.int v)) (rn_P D cR cP cF h0 f sz σ') (rn_A f sz) 1 6 sz) (sz : Nat) : rn_LT l yL_act wsL_act ({ frames := 9, cells := 1, slots := 6, locals := 170 } : Room) D (rn_tys cR cP cF) (rn_S D f) [.ref h0, .int (nI X)] (some (.int v)) (rn_P D cR cP cF h0 f sz σ') (rn_A f sz) 1 6 sz := by
  refine rn_LT.ofC (cc := cL_act) (maxL := 6) (ret := (some .int)) (by decide) rfl (Nat.le_of_ble_eq_true rfl) (fun p e s m below meth c ls hx hb hr hml hts hown hlocks hsz hF hG hE hS hl => ?_)
  have hl : lv_has ls 6 [(0, .ref h0), (1, .int (nI X))] := hl
  subst hsz
  have t55 : ∀ (ls : Array Slot), lv_has ls 6 [(5, .int (rn_aS (nI X))), (4, .int (rn_aF σ (nI X))), (3, .int (rn_aP σ (nI X))), (2, .int (rn_aY (nI X))), (0, .ref h0), (1, .int (nI X))] → W p l e ({ frames := 9, cells := 1, slots := 6, locals := 170 } : Room) s m ([.ref h0, .int (nI X)] : List Value).toArray below meth c s.heap [] 0 0 (MQ below (fun _ st o t => (o = .returned (some (.int v)) ∧ (rn_P D cR cP cF h0 f s.heap.size σ') t.heap) ∧ va_F (rn_A f s.heap.size) st t) ([.ref h0, .int (nI X)] : List Value).toArray s 1 6 (rn_A f s.heap.size)) (F0 m 55 ls []) := by
    intro ls hl
    refine lv_iload_n hx hb dL_act_55 rfl (lv_at hl 5 rfl) ?_
    refine lv_bipush (v := 16) hx hb dL_act_56 (by decide +kernel) ?_
    refine lv_irem hx hb dL_act_58 (by decide) ?_
    refine rn_top (y := .int (nI (X % 16))) (congrArg Value.int (pk_rem (d := 16) hX (by decide) (by decide))) ?_
    rw [hn]
    refine lv_tableOut (tgt := 273) hx hb dL_act_59 (Or.inr (by decide)) (by decide) ?_
    refine lv_aload_n hx hb dL_act_273 rfl (lv_at hl 4 rfl) ?_
    refine lv_iload_n hx hb dL_act_274 rfl (lv_at hl 2 rfl) ?_
    refine lv_iload hx hb dL_act_275 (lv_at hl 1 rfl) ?_
    refine lv_iload_n hx hb dL_act_277 rfl (lv_at hl 3 rfl) ?_
    refine lv_sipush (v := 240) hx hb dL_act_278 (by decide +kernel) ?_
    refine lv_idiv hx hb dL_act_281 (by decide) ?_
    refine lv_iconst (v := 2) hx hb dL_act_282 (by decide) ?_
    refine lv_irem hx hb dL_act_283 (by decide) ?_
    refine lv_if_ne (tgt := 291) hx hb dL_act_284 (by decide) (fun c_284 => ?_) (fun c_284 => ?_)
    · refine lv_iconst (v := 0) hx hb dL_act_291 (by decide) ?_
      refine rn_top (y := .int (rn_b (decide (rn_aY (nI X) / 240 - rn_aY (nI X) / 240 / 2 * 2 = 0)))) (congrArg Value.int (rn_bdf c_284)) ?_
      refine rn_wLH (As := [.ref h0, .int (rn_aP σ (nI X)), .int (rn_aF σ (nI X)), .int (rn_b (decide (rn_aY (nI X) / 240 - rn_aY (nI X) / 240 / 2 * 2 = 0)))]) (rest := []) 4 hx hb hml hown hts hG hE.old hS (hM _) (fun q h => h) gL_act_L_opens rfl ⟨rfl, rfl⟩ (by decide +kernel) ⟨Nat.le_of_ble_eq_true rfl, Nat.le_of_ble_eq_true rfl⟩ hF rfl hl.1 rfl (Nat.le_of_ble_eq_true rfl) ⟨Nat.le_of_ble_eq_true rfl, Nat.le_of_ble_eq_true rfl⟩ dL_act_292 (fun H locs hP1 _ _ hS => ?_)
      refine W.eq (g2 := F0 m 295 ls [.int v]) rfl ?_
      exact rn_Wiret hx hb hr rfl hlocks hS (by decide) (by decide) rfl hP1 dL_act_295
    · refine lv_iconst (v := 1) hx hb dL_act_287 (by decide) ?_
      refine lv_goto (tgt := 292) hx hb dL_act_288 (by decide) ?_
      refine rn_top (y := .int (rn_b (decide (rn_aY (nI X) / 240 - rn_aY (nI X) / 240 / 2 * 2 = 0)))) (congrArg Value.int (rn_bdt c_284)) ?_
      refine rn_wLH (As := [.ref h0, .int (rn_aP σ (nI X)), .int (rn_aF σ (nI X)), .int (rn_b (decide (rn_aY (nI X) / 240 - rn_aY (nI X) / 240 / 2 * 2 = 0)))]) (rest := []) 4 hx hb hml hown hts hG hE.old hS (hM _) (fun q h => h) gL_act_L_opens rfl ⟨rfl, rfl⟩ (by decide +kernel) ⟨Nat.le_of_ble_eq_true rfl, Nat.le_of_ble_eq_true rfl⟩ hF rfl hl.1 rfl (Nat.le_of_ble_eq_true rfl) ⟨Nat.le_of_ble_eq_true rfl, Nat.le_of_ble_eq_true rfl⟩ dL_act_292 (fun H locs hP1 _ _ hS => ?_)
      refine W.eq (g2 := F0 m 295 ls [.int v]) rfl ?_
      exact rn_Wiret hx hb hr rfl hlocks hS (by decide) (by decide) rfl hP1 dL_act_295
  have t34 : ∀ (ls : Array Slot), lv_has ls 6 [(4, .int (rn_aF σ (nI X))), (3, .int (rn_aP σ (nI X))), (2, .int (rn_aY (nI X))), (0, .ref h0), (1, .int (nI X))] → W p l e ({ frames := 9, cells := 1, slots := 6, locals := 170 } : Room) s m ([.ref h0, .int (nI X)] : List Value).toArray below meth c s.heap [] 0 0 (MQ below (fun _ st o t => (o = .returned (some (.int v)) ∧ (rn_P D cR cP cF h0 f s.heap.size σ') t.heap) ∧ va_F (rn_A f s.heap.size) st t) ([.ref h0, .int (nI X)] : List Value).toArray s 1 6 (rn_A f s.heap.size)) (F0 m 34 ls []) := by
    intro ls hl
    refine lv_iload_n hx hb dL_act_34 rfl (lv_at hl 2 rfl) ?_
    refine lv_bipush (v := 12) hx hb dL_act_35 (by decide +kernel) ?_
    refine lv_idiv hx hb dL_act_37 (by decide) ?_
    refine lv_iload_n hx hb dL_act_38 rfl (lv_at hl 2 rfl) ?_
    refine lv_iconst (v := 5) hx hb dL_act_39 (by decide) ?_
    refine lv_irem hx hb dL_act_40 (by decide) ?_
    refine lv_if_ne (tgt := 50) hx hb dL_act_41 (by decide) (fun c_41 => ?_) (fun c_41 => ?_)
    · refine lv_bipush (v := 12) hx hb dL_act_50 (by decide +kernel) ?_
      refine lv_irem hx hb dL_act_52 (by decide) ?_
      refine rn_top (y := .int (rn_aS (nI X))) (congrArg Value.int (by rw [rn_aS, if_neg c_41])) ?_
      refine lv_istore (lv' := [(5, .int (rn_aS (nI X))), (4, .int (rn_aF σ (nI X))), (3, .int (rn_aP σ (nI X))), (2, .int (rn_aY (nI X))), (0, .ref h0), (1, .int (nI X))]) hx hb dL_act_53 hl (by decide) rfl (fun ls hl => ?_)
      exact t55 ls (lv_sub hl [0, 1, 2, 3, 4, 5] rfl)
    · refine lv_sipush (v := 999) hx hb dL_act_44 (by decide +kernel) ?_
      refine lv_goto (tgt := 52) hx hb dL_act_47 (by decide) ?_
      refine lv_irem hx hb dL_act_52 (by decide) ?_
      refine rn_top (y := .int (rn_aS (nI X))) (congrArg Value.int (by rw [rn_aS, if_pos c_41])) ?_
      refine lv_istore (lv' := [(5, .int (rn_aS (nI X))), (4, .int (rn_aF σ (nI X))), (3, .int (rn_aP σ (nI X))), (2, .int (rn_aY (nI X))), (0, .ref h0), (1, .int (nI X))]) hx hb dL_act_53 hl (by decide) rfl (fun ls hl => ?_)
      exact t55 ls (lv_sub hl [0, 1, 2, 3, 4, 5] rfl)
  refine lv_iload_n hx hb dL_act_0 rfl (lv_at hl 1 rfl) ?_
  refine lv_bipush (v := 16) hx hb dL_act_1 (by decide +kernel) ?_
  refine lv_idiv hx hb dL_act_3 (by decide) ?_
  refine rn_top (y := .int (rn_aY (nI X))) (congrArg Value.int rfl) ?_
  refine lv_istore_n (lv' := [(2, .int (rn_aY (nI X))), (0, .ref h0), (1, .int (nI X))]) hx hb dL_act_4 rfl hl (by decide) rfl (fun ls hl => ?_)
  refine lv_iload_n hx hb dL_act_5 rfl (lv_at hl 0 rfl) ?_
  refine lv_aload_n hx hb dL_act_6 rfl (lv_at hl 1 rfl) ?_
  refine rn_cV (As := []) (rest := [.int (rn_aY (nI X))]) 0 hx hb hml hown hts hG (c_processes l hV hC ) gL_act_X4_processes rfl ⟨rfl, rfl⟩ (by decide +kernel) ⟨Nat.le_of_ble_eq_true rfl, Nat.le_of_ble_eq_true rfl⟩ hF (hF _ _ hC.1.1) rfl rfl hl.1 rfl (Nat.le_of_ble_eq_true rfl) ⟨Nat.le_of_ble_eq_true rfl, Nat.le_of_ble_eq_true rfl⟩ dL_act_7 ?_
  refine W.eq (g2 := F0 m 10 ls [.int (nI σ.pn), .int (rn_aY (nI X))]) rfl ?_
  refine lv_irem hx hb dL_act_10 (rn_nz (by have := hV.2.2.2.2.2.1.2.1; omega) hV.2.2.2.2.2.1.1) ?_
  refine rn_top (y := .int (rn_aP σ (nI X))) (congrArg Value.int rfl) ?_
  refine lv_istore_n (lv' := [(3, .int (rn_aP σ (nI X))), (2, .int (rn_aY (nI X))), (0, .ref h0), (1, .int (nI X))]) hx hb dL_act_11 rfl hl (by decide) rfl (fun ls hl => ?_)
  refine lv_aload_n hx hb dL_act_12 rfl (lv_at hl 2 rfl) ?_
  refine rn_cV (As := []) (rest := []) 0 hx hb hml hown hts hG (c_files l hV hC ) gL_act_X4_files rfl ⟨rfl, rfl⟩ (by decide +kernel) ⟨Nat.le_of_ble_eq_true rfl, Nat.le_of_ble_eq_true rfl⟩ hF (hF _ _ hC.1.1) rfl rfl hl.1 rfl (Nat.le_of_ble_eq_true rfl) ⟨Nat.le_of_ble_eq_true rfl, Nat.le_of_ble_eq_true rfl⟩ dL_act_13 ?_
  refine W.eq (g2 := F0 m 16 ls [.int (nI σ.fn)]) rfl ?_
  refine lv_if_ne (tgt := 23) hx hb dL_act_16 (by decide) (fun c_16 => ?_) (fun c_16 => ?_)
  · refine lv_iload_n hx hb dL_act_23 rfl (lv_at hl 1 rfl) ?_
    refine lv_bipush (v := 12) hx hb dL_act_24 (by decide +kernel) ?_
    refine lv_idiv hx hb dL_act_26 (by decide) ?_
    refine lv_aload_n hx hb dL_act_27 rfl (lv_at hl 2 rfl) ?_
    refine rn_cV (As := []) (rest := [.int ((rn_aY (nI X)) / 12)]) 0 hx hb hml hown hts hG (c_files l hV hC ) gL_act_X4_files rfl ⟨rfl, rfl⟩ (by decide +kernel) ⟨Nat.le_of_ble_eq_true rfl, Nat.le_of_ble_eq_true rfl⟩ hF (hF _ _ hC.1.1) rfl rfl hl.1 rfl (Nat.le_of_ble_eq_true rfl) ⟨Nat.le_of_ble_eq_true rfl, Nat.le_of_ble_eq_true rfl⟩ dL_act_28 ?_
    refine W.eq (g2 := F0 m 31 ls [.int (nI σ.fn), .int ((rn_aY (nI X)) / 12)]) rfl ?_
    refine lv_irem hx hb dL_act_31 c_16 ?_
    refine rn_top (y := .int (rn_aF σ (nI X))) (congrArg Value.int (by rw [rn_aF, if_neg c_16])) ?_
    refine lv_istore (lv' := [(4, .int (rn_aF σ (nI X))), (3, .int (rn_aP σ (nI X))), (2, .int (rn_aY (nI X))), (0, .ref h0), (1, .int (nI X))]) hx hb dL_act_32 hl (by decide) rfl (fun ls hl => ?_)
    exact t34 ls (lv_sub hl [0, 1, 2, 3, 4] rfl)
  · refine lv_iconst (v := 0) hx hb dL_act_19 (by decide) ?_
    refine lv_goto (tgt := 32) hx hb dL_act_20 (by decide) ?_
    refine rn_top (y := .int (rn_aF σ (nI X))) (congrArg Value.int (by rw [rn_aF, if_pos c_16])) ?_
    refine lv_istore (lv' := [(4, .int (rn_aF σ (nI X))), (3, .int (rn_aP σ (nI X))), (2, .int (rn_aY (nI X))), (0, .ref h0), (1, .int (nI X))]) hx hb dL_act_32 hl (by decide) rfl (fun ls hl => ?_)
    exact t34 ls (lv_sub hl [0, 1, 2, 3, 4] rfl)

set_option maxHeartbeats 4000000 in
theorem o_act (l : Launch) (hfl : l.stackTraces = false) {σ : rn_St} (hV : rn_V σ) (hq : rn_Q σ) {X : Nat} (hX : X < 2 ^ 31) : ∃ (v : Int32) (σ' : rn_St), rn_Q σ' ∧ ∀ {D : va_G} {cR cP cF : ClassId} {h0 aR aP aF : Nat} {ra pa fa : Nat → Nat} {hd : Nat → Option Nat} {dh : Option Nat} {f : rn_T} (hC : rn_CI cR cP cF h0 aR aP aF ra pa fa hd dh f σ) (sz : Nat), rn_LT l yL_act wsL_act ({ frames := 9, cells := 1, slots := 6, locals := 170 } : Room) D (rn_tys cR cP cF) (rn_S D f) [.ref h0, .int (nI X)] (some (.int v)) (rn_P D cR cP cF h0 f sz σ') (rn_A f sz) 1 6 sz := by
  by_cases h1 : X % 16 = 0 ∨ X % 16 = 1
  · obtain ⟨v, σ', h2, h3⟩ := o_makes l hfl hV hq (rn_aP σ (nI X)); exact ⟨v, σ', h2, fun hC sz => a_act_132 l hV hC hX h1 (fun sz => h3 hC sz) sz⟩
  by_cases h1 : X % 16 = 2 ∨ X % 16 = 3 ∨ X % 16 = 4
  · obtain ⟨v, σ', h2, h3⟩ := o_lines l hfl hV hq (rn_aY (nI X) - rn_aY (nI X) / 10 * 10) (rn_aY (nI X) / 10 - rn_aY (nI X) / 10 / 10 * 10) (1 + rn_aL (nI X)); exact ⟨v, σ', h2, fun hC sz => a_act_138 l hV hC hX h1 (fun sz => h3 hC sz) sz⟩
  by_cases h1 : X % 16 = 5 ∨ X % 16 = 6 ∨ X % 16 = 7
  · obtain ⟨v, σ', h2, h3⟩ := o_writes l hfl hV hq (rn_aP σ (nI X)) (rn_aR σ (nI X)); exact ⟨v, σ', h2, fun hC sz => a_act_176 l hV hC hX h1 (fun sz => h3 hC sz) sz⟩
  by_cases h1 : X % 16 = 8
  · obtain ⟨v, σ', h2, h3⟩ := o_forks l hfl hV hq (rn_aP σ (nI X)); exact ⟨v, σ', h2, fun hC sz => a_act_207 l hV hC hX h1 (fun sz => h3 hC sz) sz⟩
  by_cases h1 : X % 16 = 9
  · obtain ⟨v, σ', h2, h3⟩ := o_drops l hfl hV hq (rn_aP σ (nI X)) (1 <<< ((rn_aY (nI X) / 12 - rn_aY (nI X) / 12 / 4 * 4) &&& 31)); exact ⟨v, σ', h2, fun hC sz => a_act_213 l hV hC hX h1 (fun sz => h3 hC sz) sz⟩
  by_cases h1 : X % 16 = 10
  · obtain ⟨v, σ', h2, h3⟩ := o_enters l hfl hV hq (rn_aP σ (nI X)) (rn_aY (nI X) / 12 - rn_aY (nI X) / 12 / nI σ.sn * nI σ.sn); exact ⟨v, σ', h2, fun hC sz => a_act_227 l hV hC hX h1 (fun sz => h3 hC sz) sz⟩
  by_cases h1 : X % 16 = 11 ∨ X % 16 = 12
  · obtain ⟨v, σ', h2, h3⟩ := o_takes l hfl hV hq (rn_aP σ (nI X)) (rn_aS (nI X)); exact ⟨v, σ', h2, fun hC sz => a_act_242 l hV hC hX h1 (fun sz => h3 hC sz) sz⟩
  by_cases h1 : X % 16 = 13
  · obtain ⟨v, σ', h2, h3⟩ := o_files l hfl hV hq (rn_aP σ (nI X)) (rn_aY (nI X) / 12 - rn_aY (nI X) / 12 / 16 * 16); exact ⟨v, σ', h2, fun hC sz => a_act_250 l hV hC hX h1 (fun sz => h3 hC sz) sz⟩
  by_cases h1 : X % 16 = 14
  · obtain ⟨v, σ', h2, h3⟩ := o_hands l hfl hV hq (rn_aP σ (nI X)) (rn_aF σ (nI X)) (rn_aS (nI X)); exact ⟨v, σ', h2, fun hC sz => a_act_263 l hV hC hX h1 (fun sz => h3 hC sz) sz⟩
  have h1 : X % 16 = 15 := by omega
  obtain ⟨v, σ', h2, h3⟩ := o_opens l hfl hV hq (rn_aP σ (nI X)) (rn_aF σ (nI X)) (decide (rn_aY (nI X) / 240 - rn_aY (nI X) / 240 / 2 * 2 = 0)); exact ⟨v, σ', h2, fun hC sz => a_act_273 l hV hC hX h1 (fun sz => h3 hC sz) sz⟩
