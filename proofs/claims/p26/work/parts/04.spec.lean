/-! THE HOUSE AS A VALUE, and what its methods say of it -/
/-- a line: first number, first outer number, length -/
abbrev rn_Ln : Type := Nat × Nat × Nat
def rn_to : List rn_Ln → Nat → Option Nat
  | [], _ => none
  | q :: r, x => if q.1 ≤ x ∧ x < q.1 + q.2.2 then some (q.2.1 + (x - q.1)) else rn_to r x
def rn_from : List rn_Ln → Nat → Option Nat
  | [], _ => none
  | q :: r, y => if q.2.1 ≤ y ∧ y < q.2.1 + q.2.2 then some (q.1 + (y - q.2.1)) else rn_from r y
/-- rooms: how many, outer rooms, owners, maps, the draft; processes: how many, places, numbers, rights; files: how many, owners, modes; refusals: how many, the latest -/
abbrev rn_St : Type := (Nat × (Nat → Nat) × (Nat → Int32) × (Nat → List rn_Ln) × List rn_Ln) × (Nat × (Nat → Nat) × (Nat → Nat) × (Nat → Int32)) × (Nat × (Nat → Nat) × (Nat → Int32)) × (Int32 × Int32)
def rn_St.sn (σ : rn_St) : Nat := σ.1.1
def rn_St.so (σ : rn_St) : Nat → Nat := σ.1.2.1
def rn_St.sw (σ : rn_St) : Nat → Int32 := σ.1.2.2.1
def rn_St.sm (σ : rn_St) : Nat → List rn_Ln := σ.1.2.2.2.1
def rn_St.sd (σ : rn_St) : List rn_Ln := σ.1.2.2.2.2
def rn_St.pn (σ : rn_St) : Nat := σ.2.1.1
def rn_St.pl (σ : rn_St) : Nat → Nat := σ.2.1.2.1
def rn_St.pu (σ : rn_St) : Nat → Nat := σ.2.1.2.2.1
def rn_St.pr (σ : rn_St) : Nat → Int32 := σ.2.1.2.2.2
def rn_St.fn (σ : rn_St) : Nat := σ.2.2.1.1
def rn_St.fo (σ : rn_St) : Nat → Nat := σ.2.2.1.2.1
def rn_St.fm (σ : rn_St) : Nat → Int32 := σ.2.2.1.2.2
def rn_St.rc (σ : rn_St) : Int32 := σ.2.2.2.1
def rn_St.la (σ : rn_St) : Int32 := σ.2.2.2.2
/-- the rooms from one outwards -/
def rn_upF (o : Nat → Nat) : Nat → Nat → List Nat
  | 0, r => [r]
  | k + 1, r => if r = 0 then [0] else r :: rn_upF o k (o r)
def rn_ledF (o : Nat → Nat) (m : Nat → List rn_Ln) : Nat → Nat → Nat → Option Nat
  | 0, _, x => some x
  | k + 1, r, x => if r = 0 then some x else match rn_to (m r) x with
    | none => none
    | some y => rn_ledF o m k (o r) y
def rn_up (σ : rn_St) (r : Nat) : List Nat := rn_upF σ.so r r
def rn_lead (σ : rn_St) (r x : Nat) : Option Nat := rn_ledF σ.so σ.sm r r x
def rn_see (σ : rn_St) (r y : Nat) : Nat := ((List.range 999).find? (fun x => decide (rn_lead σ r x = some y))).getD 999
def rn_owns (σ : rn_St) (p r : Nat) : Bool := (rn_up σ r).any (fun a => decide (a ≠ 0 ∧ σ.so a = σ.pl p ∧ σ.sw a = nI (σ.pu p)))
def rn_held (σ : rn_St) (p r : Nat) : Int32 := if rn_owns σ p r = true then 15 else if σ.pl p ∈ rn_up σ r then σ.pr p else 0
def rn_meet (a b : rn_Ln) : Bool := decide ((a.1 < b.1 + b.2.2 ∧ b.1 < a.1 + a.2.2) ∨ (a.2.1 < b.2.1 + b.2.2 ∧ b.2.1 < a.2.1 + a.2.2))
def rn_bad : List rn_Ln → Bool
  | [] => false
  | q :: r => r.any (rn_meet q) || rn_bad r
def rn_lost (σ : rn_St) (r : Nat) (ls : List rn_Ln) : Bool := ls.any (fun q => (List.range q.2.2).any (fun k => (rn_lead σ r (q.2.1 + k)).isNone))
def rn_enc : Option Nat → Int32
  | none => -1
  | some k => nI k
def rn_b (b : Bool) : Int32 := if b = true then 1 else 0
/-- a line as drafts have it -/
def rn_okL (q : rn_Ln) : Prop := q.1 + q.2.2 ≤ 999 ∧ q.2.1 + q.2.2 ≤ 999 ∧ 1 ≤ q.2.2
/-- what holds at all times -/
def rn_V (σ : rn_St) : Prop := (1 ≤ σ.sn ∧ σ.sn ≤ 10) ∧ (∀ i, 0 < i → i < σ.sn → σ.so i < i) ∧ (∀ i, i < σ.sn → (∀ q ∈ σ.sm i, rn_okL q) ∧ (σ.sm i).length ≤ 3 ∧ rn_bad (σ.sm i) = false) ∧ σ.sm 0 = [] ∧ ((∀ q ∈ σ.sd, rn_okL q) ∧ σ.sd.length ≤ 3) ∧ (1 ≤ σ.pn ∧ σ.pn ≤ 12 ∧ ∀ j, j < σ.pn → σ.pl j < σ.sn ∧ σ.pu j ≤ 998) ∧ (σ.fn ≤ 20 ∧ ∀ j, j < σ.fn → σ.fo j ≤ 998)
/-! the way outwards -/
theorem rn_ledF_eq {o : Nat → Nat} {m : Nat → List rn_Ln} {n : Nat} (ho : ∀ i, 0 < i → i < n → o i < i) : ∀ (k k' r x : Nat), r < n → r ≤ k → r ≤ k' → rn_ledF o m k r x = rn_ledF o m k' r x := by
  intro k
  induction k with
  | zero =>
    intro k' r x hn h1 h2
    have hr : r = 0 := by omega
    subst hr
    cases k' with
    | zero => rfl
    | succ k' => simp [rn_ledF]
  | succ k ih =>
    intro k' r x hn h1 h2
    by_cases hr : r = 0
    · subst hr
      cases k' with
      | zero => simp [rn_ledF]
      | succ k' => simp [rn_ledF]
    · cases k' with
      | zero => omega
      | succ k' =>
        have h3 := ho r (by omega) hn
        simp only [rn_ledF, if_neg hr]
        cases rn_to (m r) x with
        | none => rfl
        | some y => exact ih k' (o r) y (by omega) (by omega) (by omega)
theorem rn_upF_eq {o : Nat → Nat} {n : Nat} (ho : ∀ i, 0 < i → i < n → o i < i) : ∀ (k k' r : Nat), r < n → r ≤ k → r ≤ k' → rn_upF o k r = rn_upF o k' r := by
  intro k
  induction k with
  | zero =>
    intro k' r hn h1 h2
    have hr : r = 0 := by omega
    subst hr
    cases k' with
    | zero => rfl
    | succ k' => simp [rn_upF]
  | succ k ih =>
    intro k' r hn h1 h2
    by_cases hr : r = 0
    · subst hr
      cases k' with
      | zero => simp [rn_upF]
      | succ k' => simp [rn_upF]
    · cases k' with
      | zero => omega
      | succ k' =>
        have h3 := ho r (by omega) hn
        simp only [rn_upF, if_neg hr]
        rw [ih k' (o r) (by omega) (by omega) (by omega)]
theorem rn_lead_0 (σ : rn_St) (x : Nat) : rn_lead σ 0 x = some x := rfl
theorem rn_lead_s {σ : rn_St} (hV : rn_V σ) {r : Nat} (x : Nat) (h0 : r ≠ 0) (hn : r < σ.sn) : rn_lead σ r x = match rn_to (σ.sm r) x with
    | none => none
    | some y => rn_lead σ (σ.so r) y := by
  have h3 := hV.2.1 r (by omega) hn
  obtain ⟨k, rfl⟩ : ∃ k, r = k + 1 := ⟨r - 1, by omega⟩
  show rn_ledF σ.so σ.sm (k + 1) (k + 1) x = _
  simp only [rn_ledF, if_neg h0]
  cases rn_to (σ.sm (k + 1)) x with
  | none => rfl
  | some y => exact rn_ledF_eq hV.2.1 k _ _ y (by omega) (by omega) (Nat.le_refl _)
theorem rn_up_0 (σ : rn_St) : rn_up σ 0 = [0] := rfl
theorem rn_up_s {σ : rn_St} (hV : rn_V σ) {r : Nat} (h0 : r ≠ 0) (hn : r < σ.sn) : rn_up σ r = r :: rn_up σ (σ.so r) := by
  have h3 := hV.2.1 r (by omega) hn
  obtain ⟨k, rfl⟩ : ∃ k, r = k + 1 := ⟨r - 1, by omega⟩
  show rn_upF σ.so (k + 1) (k + 1) = _
  simp only [rn_upF, if_neg h0]
  rw [rn_upF_eq hV.2.1 k (σ.so (k + 1)) (σ.so (k + 1)) (by omega) (by omega) (Nat.le_refl _)]
  rfl
theorem rn_up_self {σ : rn_St} (hV : rn_V σ) {r : Nat} (hn : r < σ.sn) : r ∈ rn_up σ r := by
  by_cases h0 : r = 0
  · subst h0; simp [rn_up_0]
  · rw [rn_up_s hV h0 hn]; exact List.mem_cons_self
theorem rn_up_zero {σ : rn_St} (hV : rn_V σ) : ∀ (k r : Nat), r ≤ k → r < σ.sn → 0 ∈ rn_up σ r := by
  intro k
  induction k with
  | zero => intro r hr hn; rw [show r = 0 by omega]; simp [rn_up_0]
  | succ k ih =>
    intro r hr hn
    by_cases h0 : r = 0
    · subst h0; simp [rn_up_0]
    · have h3 := hV.2.1 r (by omega) hn
      rw [rn_up_s hV h0 hn]
      exact List.mem_cons_of_mem _ (ih _ (by omega) (by omega))
theorem rn_up_le {σ : rn_St} (hV : rn_V σ) : ∀ (k r : Nat), r ≤ k → r < σ.sn → ∀ u ∈ rn_up σ r, u ≤ r := by
  intro k
  induction k with
  | zero => intro r hr hn u hu; rw [show r = 0 by omega] at hu ⊢; simp [rn_up_0] at hu; omega
  | succ k ih =>
    intro r hr hn u hu
    by_cases h0 : r = 0
    · subst h0; simp [rn_up_0] at hu; omega
    · have h3 := hV.2.1 r (by omega) hn
      rw [rn_up_s hV h0 hn] at hu
      rcases List.mem_cons.mp hu with rfl | hu
      · exact Nat.le_refl _
      · have := ih _ (by omega) (by omega) u hu
        omega
/-- on one way outwards, what is smaller lies further out -/
theorem rn_up_mid {σ : rn_St} (hV : rn_V σ) : ∀ (k r : Nat), r ≤ k → r < σ.sn → ∀ i ∈ rn_up σ r, i ≠ 0 → σ.so i ∈ rn_up σ r ∧ ∀ u ∈ rn_up σ r, u < i → u ≤ σ.so i := by
  intro k
  induction k with
  | zero => intro r hr hn i hi h; rw [show r = 0 by omega] at hi; simp [rn_up_0] at hi; exact absurd hi h
  | succ k ih =>
    intro r hr hn i hi h
    by_cases h0 : r = 0
    · subst h0; simp [rn_up_0] at hi; exact absurd hi h
    · have h3 := hV.2.1 r (by omega) hn
      rw [rn_up_s hV h0 hn] at hi ⊢
      rcases List.mem_cons.mp hi with rfl | hi
      · refine ⟨List.mem_cons_of_mem _ (rn_up_self hV (by omega)), fun u hu hlt => ?_⟩
        rcases List.mem_cons.mp hu with rfl | hu
        · omega
        · exact rn_up_le hV _ _ (Nat.le_refl _) (by omega) u hu
      · obtain ⟨a, b⟩ := ih _ (by omega) (by omega) i hi h
        refine ⟨List.mem_cons_of_mem _ a, fun u hu hlt => ?_⟩
        rcases List.mem_cons.mp hu with rfl | hu
        · have := rn_up_le hV _ _ (Nat.le_refl _) (by omega) i hi
          omega
        · exact b u hu hlt
/-! lines -/
theorem rn_to_mem {ls : List rn_Ln} {x y : Nat} (h : rn_to ls x = some y) : ∃ q ∈ ls, q.1 ≤ x ∧ x < q.1 + q.2.2 ∧ y = q.2.1 + (x - q.1) := by
  induction ls with
  | nil => simp [rn_to] at h
  | cons q r ih =>
    simp only [rn_to] at h
    by_cases hq : q.1 ≤ x ∧ x < q.1 + q.2.2
    · rw [if_pos hq] at h
      exact ⟨q, List.mem_cons_self, hq.1, hq.2, (Option.some.inj h).symm⟩
    · rw [if_neg hq] at h
      obtain ⟨z, hz, h1⟩ := ih h
      exact ⟨z, List.mem_cons_of_mem _ hz, h1⟩
theorem rn_from_mem {ls : List rn_Ln} {x y : Nat} (h : rn_from ls y = some x) : ∃ q ∈ ls, q.2.1 ≤ y ∧ y < q.2.1 + q.2.2 ∧ x = q.1 + (y - q.2.1) := by
  induction ls with
  | nil => simp [rn_from] at h
  | cons q r ih =>
    simp only [rn_from] at h
    by_cases hq : q.2.1 ≤ y ∧ y < q.2.1 + q.2.2
    · rw [if_pos hq] at h
      exact ⟨q, List.mem_cons_self, hq.1, hq.2, (Option.some.inj h).symm⟩
    · rw [if_neg hq] at h
      obtain ⟨z, hz, h1⟩ := ih h
      exact ⟨z, List.mem_cons_of_mem _ hz, h1⟩
theorem rn_bad_cons {q : rn_Ln} {r : List rn_Ln} (h : rn_bad (q :: r) = false) : (∀ z ∈ r, rn_meet q z = false) ∧ rn_bad r = false := by
  simp only [rn_bad, Bool.or_eq_false_iff, List.any_eq_false] at h
  exact ⟨fun z hz => by simpa using h.1 z hz, h.2⟩
/-- where no two lines meet, to and from are each other's way back -/
theorem rn_to_from {ls : List rn_Ln} (hb : rn_bad ls = false) (x y : Nat) : rn_to ls x = some y ↔ rn_from ls y = some x := by
  induction ls with
  | nil => simp [rn_to, rn_from]
  | cons q r ih =>
    obtain ⟨h1, h2⟩ := rn_bad_cons hb
    have ih := ih h2
    have far : ∀ z ∈ r, ¬ ((q.1 < z.1 + z.2.2 ∧ z.1 < q.1 + q.2.2) ∨ (q.2.1 < z.2.1 + z.2.2 ∧ z.2.1 < q.2.1 + q.2.2)) := fun z hz => by
      have := h1 z hz
      simpa [rn_meet] using this
    simp only [rn_to, rn_from]
    by_cases hx : q.1 ≤ x ∧ x < q.1 + q.2.2
    · rw [if_pos hx]
      by_cases hy : q.2.1 ≤ y ∧ y < q.2.1 + q.2.2
      · rw [if_pos hy]
        simp only [Option.some.injEq]
        omega
      · rw [if_neg hy]
        constructor
        · intro h
          have := Option.some.inj h
          omega
        · intro h
          obtain ⟨z, hz, g1, g2, g3⟩ := rn_from_mem h
          have := far z hz
          omega
    · rw [if_neg hx]
      by_cases hy : q.2.1 ≤ y ∧ y < q.2.1 + q.2.2
      · rw [if_pos hy]
        constructor
        · intro h
          obtain ⟨z, hz, g1, g2, g3⟩ := rn_to_mem h
          have := far z hz
          omega
        · intro h
          have := Option.some.inj h
          omega
      · rw [if_neg hy]
        exact ih
/-- numbers stay in their range, and no two lead to one -/
theorem rn_lead_in {σ : rn_St} (hV : rn_V σ) : ∀ (k r : Nat), r ≤ k → r < σ.sn → ∀ x y, x ≤ 998 → rn_lead σ r x = some y → y ≤ 998 := by
  intro k
  induction k with
  | zero => intro r hr hn x y hx h; rw [show r = 0 by omega, rn_lead_0] at h; have := Option.some.inj h; omega
  | succ k ih =>
    intro r hr hn x y hx h
    by_cases h0 : r = 0
    · rw [h0, rn_lead_0] at h; have := Option.some.inj h; omega
    · have h3 := hV.2.1 r (by omega) hn
      rw [rn_lead_s hV x h0 hn] at h
      cases ht : rn_to (σ.sm r) x with
      | none => rw [ht] at h; cases h
      | some z =>
        rw [ht] at h
        obtain ⟨q, hq, g1, g2, g3⟩ := rn_to_mem ht
        have hok := (hV.2.2.1 r hn).1 q hq
        exact ih _ (by omega) (by omega) z y (by have := hok.2.1; omega) h
theorem rn_to_in {σ : rn_St} (hV : rn_V σ) {r x z : Nat} (hn : r < σ.sn) (ht : rn_to (σ.sm r) x = some z) : z ≤ 998 ∧ x ≤ 998 := by
  obtain ⟨q, hq, g1, g2, g3⟩ := rn_to_mem ht
  have hok := (hV.2.2.1 r hn).1 q hq
  have h1 := hok.1
  have h2 := hok.2.1
  omega
theorem rn_lead_inj {σ : rn_St} (hV : rn_V σ) : ∀ (k r : Nat), r ≤ k → r < σ.sn → ∀ x x' y, rn_lead σ r x = some y → rn_lead σ r x' = some y → x = x' := by
  intro k
  induction k with
  | zero => intro r hr hn x x' y h h'; rw [show r = 0 by omega, rn_lead_0] at h h'; have := Option.some.inj h; have := Option.some.inj h'; omega
  | succ k ih =>
    intro r hr hn x x' y h h'
    by_cases h0 : r = 0
    · rw [h0, rn_lead_0] at h h'; have := Option.some.inj h; have := Option.some.inj h'; omega
    · have h3 := hV.2.1 r (by omega) hn
      rw [rn_lead_s hV _ h0 hn] at h h'
      cases ht : rn_to (σ.sm r) x with
      | none => rw [ht] at h; cases h
      | some z =>
        cases ht' : rn_to (σ.sm r) x' with
        | none => rw [ht'] at h'; cases h'
        | some z' =>
          rw [ht] at h; rw [ht'] at h'
          have hz := ih _ (by omega) (by omega) z z' y h h'
          subst hz
          have hb := (hV.2.2.1 r hn).2.2
          have e1 := (rn_to_from hb x z).mp ht
          have e2 := (rn_to_from hb x' z).mp ht'
          exact Option.some.inj (e1.symm.trans e2)
/-! what is seen -/
theorem rn_see_spec (σ : rn_St) (r y : Nat) : (rn_see σ r y < 999 ∧ rn_lead σ r (rn_see σ r y) = some y) ∨ (rn_see σ r y = 999 ∧ ∀ x, x < 999 → rn_lead σ r x ≠ some y) := by
  unfold rn_see
  cases h : (List.range 999).find? (fun x => decide (rn_lead σ r x = some y)) with
  | none =>
    refine Or.inr ⟨rfl, fun x hx => ?_⟩
    have := List.find?_eq_none.mp h x (List.mem_range.mpr hx)
    simpa using this
  | some x =>
    have h1 := List.find?_some h
    have h2 := List.mem_of_find?_eq_some h
    exact Or.inl ⟨List.mem_range.mp h2, by simpa using h1⟩
theorem rn_see_le (σ : rn_St) (r y : Nat) : rn_see σ r y ≤ 999 := by
  rcases rn_see_spec σ r y with h | h <;> omega
theorem rn_see_uniq {σ : rn_St} (hV : rn_V σ) {r y x : Nat} (hn : r < σ.sn) (hx : x < 999) (h : rn_lead σ r x = some y) : rn_see σ r y = x := by
  rcases rn_see_spec σ r y with ⟨_, h2⟩ | ⟨_, h2⟩
  · exact rn_lead_inj hV r r (Nat.le_refl _) hn _ _ y h2 h
  · exact absurd h (h2 x hx)
theorem rn_see_0 (σ : rn_St) (hV : rn_V σ) {y : Nat} (hy : y ≤ 998) : rn_see σ 0 y = y :=
  rn_see_uniq hV (by have := hV.1.1; omega) (by omega) (rn_lead_0 σ y)
/-- one room inwards -/
theorem rn_see_s {σ : rn_St} (hV : rn_V σ) {r y : Nat} (h0 : r ≠ 0) (hn : r < σ.sn) : rn_see σ r y = (rn_from (σ.sm r) (rn_see σ (σ.so r) y)).getD 999 := by
  have h3 := hV.2.1 r (by omega) hn
  have hb := (hV.2.2.1 r hn).2.2
  cases hf : rn_from (σ.sm r) (rn_see σ (σ.so r) y) with
  | some x =>
    have ht := (rn_to_from hb x _).mpr hf
    have hin := rn_to_in hV hn ht
    show rn_see σ r y = x
    refine rn_see_uniq hV hn (by omega) ?_
    rw [rn_lead_s hV x h0 hn, ht]
    rcases rn_see_spec σ (σ.so r) y with ⟨_, h2⟩ | ⟨h1, _⟩
    · exact h2
    · omega
  | none =>
    rcases rn_see_spec σ r y with ⟨h1, h2⟩ | ⟨h1, _⟩
    · exfalso
      rw [rn_lead_s hV _ h0 hn] at h2
      cases ht : rn_to (σ.sm r) (rn_see σ r y) with
      | none => rw [ht] at h2; cases h2
      | some z =>
        rw [ht] at h2
        have hin := rn_to_in hV hn ht
        have hz : rn_see σ (σ.so r) y = z := rn_see_uniq hV (by omega) (by omega) h2
        have := (rn_to_from hb _ z).mp ht
        rw [hz, this] at hf
        cases hf
    · exact h1
theorem rn_from_999 {σ : rn_St} (hV : rn_V σ) {r : Nat} (hn : r < σ.sn) : rn_from (σ.sm r) 999 = none := by
  cases h : rn_from (σ.sm r) 999 with
  | none => rfl
  | some x =>
    obtain ⟨q, hq, g1, g2, g3⟩ := rn_from_mem h
    have hok := (hV.2.2.1 r hn).1 q hq
    have := hok.2.1
    omega
