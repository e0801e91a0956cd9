/-! WHAT HOLDS AT THE END: a new process, a new room, its map, a file -/
theorem rn_ledF_cong {o o' : Nat → Nat} {m m' : Nat → List rn_Ln} {n : Nat} (ho : ∀ i, 0 < i → i < n → o i < i) (h1 : ∀ i, i < n → o' i = o i) (h2 : ∀ i, i < n → m' i = m i) : ∀ (k r x : Nat), r < n → rn_ledF o' m' k r x = rn_ledF o m k r x := by
  intro k
  induction k with
  | zero => intro r x _; rfl
  | succ k ih =>
    intro r x hr
    by_cases h0 : r = 0
    · simp only [rn_ledF, if_pos h0]
    · simp only [rn_ledF, if_neg h0]
      rw [h2 r hr, h1 r hr]
      cases rn_to (m r) x with
      | none => rfl
      | some y => exact ih (o r) y (Nat.lt_trans (ho r (by omega) hr) hr)
theorem rn_lead_cong {σ τ : rn_St} {n : Nat} (hV : rn_V σ) (hn : n ≤ σ.sn) (h1 : ∀ i, i < n → τ.so i = σ.so i) (h2 : ∀ i, i < n → τ.sm i = σ.sm i) {r : Nat} (hr : r < n) (x : Nat) : rn_lead τ r x = rn_lead σ r x :=
  rn_ledF_cong (fun i h0 hi => hV.2.1 i h0 (by omega)) h1 h2 r r x hr
theorem rn_pred (n : Nat) : nI (n + 1) - 1 = nI n := by
  rw [← nI_add]
  exact Int32.add_sub_cancel (nI n) 1
/-- in a room of its own: process j, room R, its outer room P, its number U -/
def rn_Z (τ : rn_St) (j R P U : Nat) : Prop := rn_V τ ∧ rn_Q τ ∧ j < τ.pn ∧ R < τ.sn ∧ R ≠ 0 ∧ P < R ∧ τ.so R = P ∧ τ.sw R = nI U ∧ τ.pl j = R ∧ τ.pu j = U ∧ τ.pr j = 15 ∧ U ≤ 998
theorem rn_Z.new {τ : rn_St} {j : Nat} (hV : rn_V τ) (hq : rn_Q τ) (hj : j < τ.pn) (hn : τ.sn < 10) : rn_Z (rn_addRoom τ j) j τ.sn (τ.pl j) (τ.pu j) ∧ (rn_addRoom τ j).sm τ.sn = [] := by
  have h6 := hV.2.2.2.2.2.1.2.2 j hj
  have hs := hV.1
  refine ⟨⟨hV.addRoom hj hn, rn_Q.proc (σ := rn_newRoom τ j) hq ⟨15, by omega, rfl⟩, hj, Nat.lt_succ_self τ.sn, by omega, h6.1, rn_up_eq _ _ _, rn_up_eq _ _ _, rn_up_eq _ _ _, rn_up_eq _ _ _, rn_up_eq _ _ _, h6.2⟩, rn_up_eq _ _ _⟩
theorem rn_Z.held {τ : rn_St} {j R P U : Nat} (h : rn_Z τ j R P U) : rn_held τ j R = 15 := by
  obtain ⟨hV, hq, hj, hR, h0, hP, hso, hsw, hpl, hpu, hpr, hU⟩ := h
  have := rn_held_own hV hj
  rw [hpl] at this
  rw [this, hpr]
theorem rn_Z.none {τ : rn_St} {j R P U : Nat} (h : rn_Z τ j R P U) : rn_held τ j P = 0 := by
  obtain ⟨hV, hq, hj, hR, h0, hP, hso, hsw, hpl, hpu, hpr, hU⟩ := h
  have hle := rn_up_le hV P P (Nat.le_refl _) (by omega)
  have ho : rn_owns τ j P = false := by
    unfold rn_owns
    rw [List.any_eq_false]
    intro a ha hb
    have hb := of_decide_eq_true hb
    have h1 := hle a ha
    have h2 := hV.2.1 a (by omega) (by omega)
    have h3 := hb.2.1
    omega
  have hm : τ.pl j ∉ rn_up τ P := fun hm => by
    have := hle _ hm
    omega
  unfold rn_held
  rw [if_neg (by rw [ho]; exact Bool.false_ne_true), if_neg hm]
theorem rn_Z.outer {τ : rn_St} {j R P U : Nat} (h : rn_Z τ j R P U) : rn_enc (rn_nx τ R) = nI P := by
  rw [rn_enc_nx h.2.2.2.2.1, h.2.2.2.2.2.2.1]
theorem rn_Z.dark {τ : rn_St} {j R P U : Nat} (h : rn_Z τ j R P U) (hm : τ.sm R = []) (x : Nat) : rn_lead τ R x = Option.none := by
  rw [rn_lead_s h.1 x h.2.2.2.2.1 h.2.2.2.1, hm]; rfl
theorem rn_Z.dark9 {τ : rn_St} {j R P U : Nat} (h : rn_Z τ j R P U) (hm : τ.sm R = []) (y : Nat) : rn_see τ R y = 999 := by
  rcases rn_see_spec τ R y with ⟨_, h2⟩ | ⟨h1, _⟩
  · rw [h.dark hm] at h2; cases h2
  · exact h1
/-- the map of one line, as it leads -/
theorem rn_Z.mapped {τ : rn_St} {j R P U : Nat} (h : rn_Z τ j R P U) {q : rn_Ln} (hsd : τ.sd = [q]) (hq2 : q.2.2 = 1) (hl : rn_lead τ P q.2.1 = some U) : rn_V (rn_setMap τ R) ∧ rn_lead (rn_setMap τ R) R q.1 = some U ∧ rn_see (rn_setMap τ R) R U = q.1 ∧ ∀ x, x ≠ q.1 → rn_lead (rn_setMap τ R) R x = Option.none := by
  obtain ⟨hV, hq, hj, hR, h0, hP, hso, hsw, hpl, hpu, hpr, hU⟩ := h
  have hok : rn_okL q := hV.2.2.2.2.1.1 q (by rw [hsd]; exact List.mem_cons_self)
  have hV2 : rn_V (rn_setMap τ R) := hV.setMap h0 (by rw [hsd]; rfl)
  have hm : (rn_setMap τ R).sm R = [q] := by show va_up τ.sm R τ.sd R = [q]; rw [rn_up_eq, hsd]
  have hs2 : (rn_setMap τ R).so R = P := hso
  have hc : ∀ x, rn_lead (rn_setMap τ R) P x = rn_lead τ P x := fun x => rn_lead_cong (σ := τ) (τ := rn_setMap τ R) (n := R) hV (by omega) (fun i _ => rfl) (fun i hi => by show va_up τ.sm R τ.sd i = τ.sm i; rw [rn_up_ne _ _ (by omega)]) hP x
  have e1 : rn_lead (rn_setMap τ R) R q.1 = some U := by
    rw [rn_lead_s hV2 _ h0 hR, hm, hs2]
    simp only [rn_to]
    rw [if_pos ⟨Nat.le_refl _, by omega⟩, Nat.sub_self, Nat.add_zero]
    exact (hc _).trans hl
  refine ⟨hV2, e1, rn_see_uniq hV2 hR (by have := hok.1; omega) e1, fun x hx => ?_⟩
  rw [rn_lead_s hV2 _ h0 hR, hm]
  simp only [rn_to]
  rw [if_neg (by omega)]
theorem rn_wm {τ : rn_St} {j R P U : Nat} (h : rn_Z τ j R P U) (hm : τ.sm R = []) : (rn_o_writeMap τ j R = (1, rn_setMap τ R) ∧ ∃ q : rn_Ln, τ.sd = [q] ∧ q.2.2 = 1 ∧ rn_lead τ P q.2.1 = some U) ∨ ∃ k : Int32, k < 0 ∧ rn_o_writeMap τ j R = (k, rn_ref (rn_draft τ []) k) := by
  have hn := h.none
  obtain ⟨hV, hq, hj, hR, h0, hP, hso, hsw, hpl, hpu, hpr, hU⟩ := h
  unfold rn_o_writeMap
  rw [if_neg (fun g => g hm)]
  split
  · exact Or.inr ⟨-3, by decide, rfl⟩
  · split
    · exact Or.inr ⟨-2, by decide, rfl⟩
    · split
      · next g =>
        refine Or.inl ?_
        rcases g with g | g
        · unfold rn_own1 at g
          split at g
          · next q hsd =>
            have g := of_decide_eq_true g
            refine ⟨by rw [hsd]; rfl, q, hsd, g.1, ?_⟩
            have g3 := g.2.2
            rw [hso, hpu] at g3
            exact g3
          · cases g
        · exfalso
          rw [hso, hn] at g
          exact g (by decide)
      · exact Or.inr ⟨-1, by decide, rfl⟩
theorem rn_wm3 {τ : rn_St} {j R : Nat} (hm : τ.sm R = []) (hd : τ.sd = []) : rn_o_writeMap τ j R = (-3, rn_ref (rn_draft τ []) (-3)) := by
  unfold rn_o_writeMap
  rw [if_neg (fun g => g hm), if_pos (Or.inl hd)]
theorem rn_wm1 {τ : rn_St} {j R P U w : Nat} (h : rn_Z τ j R P U) (hm : τ.sm R = []) (hd : τ.sd = [(3, w, 1)]) (hl : rn_lead τ P w = some U) : rn_o_writeMap τ j R = (1, rn_setMap τ R) := by
  obtain ⟨hV, hq, hj, hR, h0, hP, hso, hsw, hpl, hpu, hpr, hU⟩ := h
  have hlost : rn_lost τ (τ.so R) τ.sd = false := by
    rw [hd, hso]
    show ((List.range 1).any (fun k => (rn_lead τ P (w + k)).isNone) || false) = false
    show (((rn_lead τ P (w + 0)).isNone || false) || false) = false
    rw [Nat.add_zero, hl]; rfl
  have hown : rn_own1 τ j R = true := by
    unfold rn_own1
    rw [hd]
    exact decide_eq_true ⟨rfl, by rw [hpu, hsw], by rw [hso, hpu]; exact hl⟩
  unfold rn_o_writeMap
  rw [if_neg (fun g => g hm), if_neg (fun g => g.elim (fun g => by rw [hd] at g; cases g) (fun g => by rw [hd] at g; cases g)), if_neg (by rw [hlost]; exact Bool.false_ne_true), if_pos (Or.inl hown), hd]
  rfl
/-- .. with a map: 3 leads to U, 4 leads nowhere -/
def rn_Y (τ : rn_St) (j R U : Nat) : Prop := rn_V τ ∧ rn_Q τ ∧ j < τ.pn ∧ R < τ.sn ∧ τ.pl j = R ∧ τ.pu j = U ∧ τ.pr j = 15 ∧ U ≤ 998 ∧ rn_lead τ R 3 = some U ∧ rn_lead τ R 4 = Option.none
theorem rn_Z.toY {τ : rn_St} {j R P U w : Nat} (h : rn_Z τ j R P U) (hd : τ.sd = [(3, w, 1)]) (hl : rn_lead τ P w = some U) : rn_Y (rn_setMap τ R) j R U := by
  obtain ⟨h1, h2, h3, h4⟩ := h.mapped hd rfl hl
  obtain ⟨hV, hq, hj, hR, h0, hP, hso, hsw, hpl, hpu, hpr, hU⟩ := h
  exact ⟨h1, hq, hj, hR, hpl, hpu, hpr, hU, h2, h4 4 (show (4 : Nat) ≠ 3 by decide)⟩
theorem rn_Y.see {τ : rn_St} {j R U : Nat} (h : rn_Y τ j R U) : rn_see τ R U = 3 := rn_see_uniq h.1 h.2.2.2.1 (by decide) h.2.2.2.2.2.2.2.2.1
theorem rn_Y.held {τ : rn_St} {j R U : Nat} (h : rn_Y τ j R U) : rn_held τ j R = 15 := by
  obtain ⟨hV, hq, hj, hR, hpl, hpu, hpr, hU, h3, h4⟩ := h
  have := rn_held_own hV hj
  rw [hpl] at this
  rw [this, hpr]
theorem rn_Y.take {τ : rn_St} {j R U : Nat} (h : rn_Y τ j R U) : rn_o_setNumber τ j 3 = (nI U, rn_proc τ j R U 15) ∧ rn_Y (rn_proc τ j R U 15) j R U := by
  have hs := h.see
  obtain ⟨hV, hq, hj, hR, hpl, hpu, hpr, hU, h3, h4⟩ := h
  constructor
  · unfold rn_o_setNumber
    rw [hpl, h3]
    show (if U ≠ τ.pu j ∧ τ.pr j &&& 8 = 0 then _ else _) = _
    rw [if_neg (fun g => g.1 hpu.symm), if_neg (fun g => by have g2 := g.2; rw [hpu, hs] at g2; cases g2), hpr]
  · exact ⟨hV.proc 15 hR hU, hq.proc ⟨15, by omega, rfl⟩, hj, hR, rn_up_eq _ _ _, rn_up_eq _ _ _, rn_up_eq _ _ _, hU, h3, h4⟩
theorem rn_Y.make {τ : rn_St} {j R U : Nat} (h : rn_Y τ j R U) (hn : τ.fn < 20) (md : Int32) : rn_o_makeFile τ j md = (nI τ.fn, rn_addFile τ j md) ∧ rn_Y (rn_addFile τ j md) j R U := by
  have hs := h.see
  obtain ⟨hV, hq, hj, hR, hpl, hpu, hpr, hU, h3, h4⟩ := h
  constructor
  · unfold rn_o_makeFile
    rw [hpl, hpu, hs, if_neg (by decide)]
  · exact ⟨hV.addFile md hj hn, hq, hj, hR, hpl, hpu, hpr, hU, h3, h4⟩
theorem rn_and1 : ∀ a : Fin 16, (nI a.1 &&& 1 = 1 ↔ ¬ nI a.1 &&& 1 = 0) := by decide +kernel
theorem rn_Y.opened {τ : rn_St} {j R U F k : Nat} (h : rn_Y τ j R U) (hk : k ≤ 15) (hfo : τ.fo F = U) (hfm : τ.fm F = nI k) : rn_o_open τ j F false = (if nI k &&& 1 = 1 then 1 else 2, τ) := by
  have hs := h.see
  obtain ⟨hV, hq, hj, hR, hpl, hpu, hpr, hU, h3, h4⟩ := h
  have h1 := rn_and1 ⟨k, by omega⟩
  have hmay : rn_may (τ.fm F) (nI (τ.pu j)) (nI (τ.fo F)) false = decide (nI k &&& 1 ≠ 0) := by
    rw [hfo, hpu, hfm]; unfold rn_may; rw [if_pos rfl]; rfl
  unfold rn_o_open
  rw [hmay]
  by_cases g : nI k &&& 1 = 0
  · rw [if_neg (by simpa using g), if_neg (by rw [hpr]; decide), if_neg (by rw [hpl, hfo, hs]; decide), if_neg (fun g2 => h1.mp g2 g)]
  · rw [if_pos (by simpa using g), if_pos (h1.mpr g)]
theorem rn_Y.hand {τ : rn_St} {j R U F : Nat} (h : rn_Y τ j R U) (hfo : τ.fo F = U) : rn_o_handOver τ j F 3 = (nI U, rn_hand τ F U) ∧ rn_Y (rn_hand τ F U) j R U := by
  have hs := h.see
  obtain ⟨hV, hq, hj, hR, hpl, hpu, hpr, hU, h3, h4⟩ := h
  constructor
  · unfold rn_o_handOver
    rw [hpl, h3]
    show (if rn_see τ R (τ.fo F) = 999 then _ else _) = _
    rw [if_neg (by rw [hfo, hs]; decide), if_neg (by rw [hpr]; decide)]
  · exact ⟨hV.hand hU, hq, hj, hR, hpl, hpu, hpr, hU, h3, h4⟩
theorem rn_Y.hand4 {τ : rn_St} {j R U F : Nat} (h : rn_Y τ j R U) : rn_o_handOver τ j F 4 = (-2, rn_ref τ (-2)) := by
  obtain ⟨hV, hq, hj, hR, hpl, hpu, hpr, hU, h3, h4⟩ := h
  unfold rn_o_handOver
  rw [hpl, h4]
/-- a new process that drops rights -/
theorem rn_and10 : ∀ a : Fin 16, nI a.1 &&& (5 ^^^ -1) = nI a.1 &&& 10 := by decide +kernel
def rn_F1 (σ : rn_St) (j : Nat) : rn_St := rn_proc (rn_fork σ j) σ.pn ((rn_fork σ j).pl σ.pn) ((rn_fork σ j).pu σ.pn) ((rn_fork σ j).pr σ.pn &&& (5 ^^^ -1))
theorem rn_ff {σ : rn_St} {j : Nat} (hV : rn_V σ) (hq : rn_Q σ) (hj : j < σ.pn) (hn : σ.pn < 12) :
    ((rn_fork σ j).pl σ.pn = σ.pl j ∧ (rn_fork σ j).pu σ.pn = σ.pu j ∧ rn_held (rn_fork σ j) σ.pn (σ.pl j) = σ.pr j ∧ (rn_fork σ j).pr σ.pn &&& (5 ^^^ -1) = σ.pr j &&& 10) ∧
    rn_held (rn_F1 σ j) σ.pn (σ.pl j) = σ.pr j &&& 10 ∧ rn_held (rn_F1 σ j) j (σ.pl j) = σ.pr j ∧ (rn_V (rn_F1 σ j) ∧ rn_Q (rn_F1 σ j) ∧ j < (rn_F1 σ j).pn ∧ (rn_F1 σ j).pl j = σ.pl j ∧ (rn_F1 σ j).pu j = σ.pu j) := by
  have hVf := hV.fork hj hn
  have hqf := hq.fork hj
  have hlt : σ.pn < (rn_fork σ j).pn := Nat.lt_succ_self σ.pn
  have e1 : (rn_fork σ j).pl σ.pn = σ.pl j := rn_up_eq _ _ _
  have e2 : (rn_fork σ j).pu σ.pn = σ.pu j := rn_up_eq _ _ _
  have e3 : (rn_fork σ j).pr σ.pn = σ.pr j := rn_up_eq _ _ _
  have e4 : (rn_fork σ j).pr σ.pn &&& (5 ^^^ -1) = σ.pr j &&& 10 := by
    rw [e3]
    obtain ⟨k, hk, hk2⟩ := hq j hj
    rw [hk2]; exact rn_and10 ⟨k, by omega⟩
  have hh := rn_held_own hVf hlt
  rw [e1, e3] at hh
  have h6 := hVf.2.2.2.2.2.1.2.2 _ hlt
  have hV2 : rn_V (rn_F1 σ j) := hVf.proc _ h6.1 h6.2
  have hq2 : rn_Q (rn_F1 σ j) := hqf.proc (rn_drop15 (b := 5) (hqf _ hlt) (by omega))
  have hlt2 : σ.pn < (rn_F1 σ j).pn := hlt
  have hj2 : j < (rn_F1 σ j).pn := Nat.lt_trans hj hlt
  have g1 : (rn_F1 σ j).pl σ.pn = σ.pl j := (rn_up_eq _ _ _).trans e1
  have g3 : (rn_F1 σ j).pr σ.pn = σ.pr j &&& 10 := (rn_up_eq _ _ _).trans e4
  have hne : j ≠ σ.pn := by omega
  have k1 : (rn_F1 σ j).pl j = σ.pl j := (rn_up_ne _ _ hne).trans (rn_up_ne _ _ hne)
  have k2 : (rn_F1 σ j).pu j = σ.pu j := (rn_up_ne _ _ hne).trans (rn_up_ne _ _ hne)
  have k3 : (rn_F1 σ j).pr j = σ.pr j := (rn_up_ne _ _ hne).trans (rn_up_ne _ _ hne)
  have hA := rn_held_own hV2 hlt2
  rw [g1, g3] at hA
  have hB := rn_held_own hV2 hj2
  rw [k1, k3] at hB
  exact ⟨⟨e1, e2, hh, e4⟩, hA, hB, hV2, hq2, hj2, k1, k2⟩
def rn_PQ (D : va_G) (cR cP cF : ClassId) (h0 : Nat) (f : rn_T) (sz : Nat) (H : Heap) : Prop := ∃ σ' : rn_St, rn_Q σ' ∧ rn_P D cR cP cF h0 f sz σ' H
theorem rn_PQ_mk {D : va_G} {cR cP cF : ClassId} {h0 aR aP aF : Nat} {ra pa fa : Nat → Nat} {hd : Nat → Option Nat} {dh : Option Nat} {f f' : rn_T} {sz : Nat} {σ' : rn_St} {H : Heap} (hq : rn_Q σ') (hV : rn_V σ') (hC : rn_CI cR cP cF h0 aR aP aF ra pa fa hd dh f' σ') (hF : rn_S D f' H) (hdom : ∀ x, f' x ≠ none → rn_A f sz x) : rn_PQ D cR cP cF h0 f sz H := ⟨σ', hq, rn_P_mk hV hC hF hdom⟩
