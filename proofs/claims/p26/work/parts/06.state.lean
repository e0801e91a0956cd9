/-! THE CLASS'S CELLS, as they hold the value -/
theorem rn_nb (b : Bool) : narrow .boolean (.int (rn_b b)) = .int (rn_b b) := by cases b <;> rfl
theorem rn_nrf (n : String) (r : Option Nat) : narrow (.object n) (va_rf r) = va_rf r := by cases r <;> rfl
theorem rn_fitrf (n : String) (r : Option Nat) : fits (.object n) (va_rf r) = true := by cases r <;> rfl
theorem rn_b0 {b : Bool} : rn_b b = 0 ↔ b = false := by cases b <;> simp [rn_b]
theorem rn_b1 {b : Bool} : ¬ rn_b b = 0 ↔ b = true := by cases b <;> simp [rn_b]
theorem rn_enc_m1 {x : Option Nat} (h : ∀ k, x = some k → k ≤ 998) : rn_enc x = -1 ↔ x = none := by
  cases x with
  | none => simp [rn_enc]
  | some k =>
    have := h k rfl
    constructor
    · intro e
      exfalso
      have e1 : (nI k).toInt = (-1 : Int32).toInt := by rw [show nI k = -1 from e]
      rw [nI_toInt (by omega)] at e1
      have : (-1 : Int32).toInt = -1 := by decide
      omega
    · intro e; cases e
theorem rn_nI_m1 {k : Nat} (h : k ≤ 999) : ¬ nI k = -1 := by
  intro e
  have e1 : (nI k).toInt = (-1 : Int32).toInt := by rw [e]
  rw [nI_toInt (by omega)] at e1
  have : (-1 : Int32).toInt = -1 := by decide
  omega
/-- a chain of lines, the latest first -/
def rn_ch (f : rn_T) : List rn_Ln → Option Nat → Prop
  | [], z => z = none
  | q :: r, z => ∃ (a : Nat) (z' : Option Nat), z = some a ∧ f a = some (.inr (2, [.int (nI q.1), .int (nI q.2.1), .int (nI q.2.2), va_rf z'])) ∧ rn_ch f r z'
def rn_ot (σ : rn_St) (ra : Nat → Nat) (i : Nat) : Option Nat := if i = 0 then none else some (ra (σ.so i))
theorem rn_ot_0 (σ : rn_St) (ra : Nat → Nat) : rn_ot σ ra 0 = none := rfl
theorem rn_ot_s (σ : rn_St) (ra : Nat → Nat) {i : Nat} (h : i ≠ 0) : rn_ot σ ra i = some (ra (σ.so i)) := by simp [rn_ot, h]
/-- the rooms -/
def rn_Rm (f : rn_T) (σ : rn_St) (ra : Nat → Nat) (hd : Nat → Option Nat) : Prop :=
  (∀ i, i < σ.sn → f (ra i) = some (.inr (3, [.int (nI i), va_rf (rn_ot σ ra i), .int (σ.sw i), va_rf (hd i)]))) ∧ ∀ i, i < σ.sn → rn_ch f (σ.sm i) (hd i)
/-- the processes -/
def rn_Pr (f : rn_T) (σ : rn_St) (ra pa : Nat → Nat) : Prop :=
  ∀ j, j < σ.pn → f (pa j) = some (.inr (1, [.ref (ra (σ.pl j)), .int (nI (σ.pu j)), .int (σ.pr j)]))
/-- the files -/
def rn_Fi (f : rn_T) (σ : rn_St) (fa : Nat → Nat) : Prop :=
  ∀ j, j < σ.fn → f (fa j) = some (.inr (0, [.int (nI (σ.fo j)), .int (σ.fm j)]))
def rn_row (n : Nat) (ra : Nat → Nat) : Nat → Option Nat := fun i => if i < n then some (ra i) else none
/-- the house itself: its object and its three rows -/
def rn_Ho (cR cP cF : ClassId) (h0 aR aP aF : Nat) (ra pa fa : Nat → Nat) (dh : Option Nat) (f : rn_T) (σ : rn_St) : Prop :=
  f h0 = some (.inr (4, [.ref aR, .int (nI σ.sn), .ref aP, .int (nI σ.pn), .ref aF, .int (nI σ.fn), va_rf dh, .int σ.rc, .int σ.la])) ∧
  f aR = some (.inl (cR, 10, .inr (.inr (.inr (.inr (rn_row σ.sn ra)))))) ∧
  f aP = some (.inl (cP, 12, .inr (.inr (.inr (.inr (rn_row σ.pn pa)))))) ∧
  f aF = some (.inl (cF, 20, .inr (.inr (.inr (.inr (rn_row σ.fn fa))))))
/-- all that the class holds -/
def rn_CI (cR cP cF : ClassId) (h0 aR aP aF : Nat) (ra pa fa : Nat → Nat) (hd : Nat → Option Nat) (dh : Option Nat) (f : rn_T) (σ : rn_St) : Prop :=
  rn_Ho cR cP cF h0 aR aP aF ra pa fa dh f σ ∧ rn_Rm f σ ra hd ∧ rn_Pr f σ ra pa ∧ rn_Fi f σ fa ∧ rn_ch f σ.sd dh ∧ (∀ i j, i < σ.pn → j < σ.pn → pa i = pa j → i = j) ∧ (∀ i j, i < σ.fn → j < σ.fn → fa i = fa j → i = j)
def rn_C (cR cP cF : ClassId) (h0 : Nat) (f : rn_T) (σ : rn_St) : Prop := rn_V σ ∧ ∃ (aR aP aF : Nat) (ra pa fa : Nat → Nat) (hd : Nat → Option Nat) (dh : Option Nat), rn_CI cR cP cF h0 aR aP aF ra pa fa hd dh f σ
abbrev rn_tys (cR cP cF : ClassId) : List (ClassId × FieldType) := [(cR, .object RX3), (cP, .object RX1), (cF, .object RX0)]
theorem rn_ra_inj {f : rn_T} {σ : rn_St} {ra : Nat → Nat} {hd : Nat → Option Nat} (hV : rn_V σ) (h : rn_Rm f σ ra hd) {i j : Nat} (hi : i < σ.sn) (hj : j < σ.sn) (e : ra i = ra j) : i = j := by
  have h1 := h.1 i hi
  have h2 := h.1 j hj
  rw [e] at h1
  have h3 := Option.some.inj (h1.symm.trans h2)
  have h4 : nI i = nI j := by
    have := Sum.inr.inj h3
    have := congrArg Prod.snd this
    have := congrArg (fun l : List Value => l.head?) this
    simpa using this
  have := hV.1.2
  exact (nI_eq (by omega) (by omega)).mp h4
/-- the value in toOuter, fromOuter -/
def rn_tO (σ : rn_St) (r x : Nat) : Option Nat := if r = 0 then some x else rn_to (σ.sm r) x
def rn_fO (σ : rn_St) (r y : Nat) : Nat := if r = 0 then y else (rn_from (σ.sm r) y).getD 999
theorem rn_tO_in {σ : rn_St} (hV : rn_V σ) {r x z : Nat} (hn : r < σ.sn) (hx : x ≤ 998) (ht : rn_tO σ r x = some z) : z ≤ 998 := by
  unfold rn_tO at ht
  by_cases h : r = 0
  · rw [if_pos h] at ht; have := Option.some.inj ht; omega
  · rw [if_neg h] at ht; exact (rn_to_in hV hn ht).1
/-! steps of the loops outwards -/
def rn_nx (σ : rn_St) (i : Nat) : Option Nat := if i = 0 then none else some (σ.so i)
theorem rn_ot_nx (σ : rn_St) (ra : Nat → Nat) (i : Nat) : rn_ot σ ra i = (rn_nx σ i).map ra := by unfold rn_ot rn_nx; split <;> rfl
theorem rn_nx_lt {σ : rn_St} (hV : rn_V σ) {i k : Nat} (hi : i < σ.sn) (hk : i < k + 1) : ∀ j, rn_nx σ i = some j → j < σ.sn ∧ j < k := by
  intro j hj
  unfold rn_nx at hj
  by_cases h : i = 0
  · rw [if_pos h] at hj; cases hj
  · rw [if_neg h] at hj
    have e := Option.some.inj hj
    have := hV.2.1 i (by omega) hi
    omega
def rn_go (σ : rn_St) : Option Nat → Option Nat → Option Nat
  | none, led => led
  | some _, none => none
  | some i, some x => rn_lead σ i x
theorem rn_go_s {σ : rn_St} (hV : rn_V σ) {i : Nat} (hi : i < σ.sn) (x : Nat) : rn_go σ (rn_nx σ i) (rn_tO σ i x) = rn_lead σ i x := by
  unfold rn_nx rn_tO
  by_cases h : i = 0
  · subst h; rfl
  · rw [if_neg h, if_neg h, rn_lead_s hV x h hi]
    cases rn_to (σ.sm i) x <;> rfl
def rn_insO (σ : rn_St) (b : Nat) : Option Nat → Bool
  | none => false
  | some r => decide (b ∈ rn_up σ r)
theorem rn_insO_s {σ : rn_St} (hV : rn_V σ) {i b : Nat} (hi : i < σ.sn) (h : i ≠ b) : rn_insO σ b (rn_nx σ i) = rn_insO σ b (some i) := by
  unfold rn_nx
  by_cases h0 : i = 0
  · subst h0; simp [rn_insO, rn_up_0, Ne.symm h]
  · rw [if_neg h0]
    simp only [rn_insO]
    rw [rn_up_s hV h0 hi]
    simp [Ne.symm h]
theorem rn_insO_self {σ : rn_St} (hV : rn_V σ) {i : Nat} (hi : i < σ.sn) : rn_insO σ i (some i) = true := by
  simp [rn_insO, rn_up_self hV hi]
def rn_ownO (σ : rn_St) (p : Nat) : Option Nat → Bool
  | none => false
  | some r => rn_owns σ p r
theorem rn_ownO_s {σ : rn_St} (hV : rn_V σ) {i p : Nat} (hi : i < σ.sn) : rn_ownO σ p (some i) = (decide (i ≠ 0 ∧ σ.so i = σ.pl p ∧ σ.sw i = nI (σ.pu p)) || rn_ownO σ p (rn_nx σ i)) := by
  unfold rn_nx
  by_cases h0 : i = 0
  · subst h0; simp [rn_ownO, rn_owns, rn_up_0]
  · rw [if_neg h0]
    simp only [rn_ownO, rn_owns]
    rw [rn_up_s hV h0 hi]
    simp [h0]
/-! what is seen, room by room inwards: the loop of seenFrom -/
def rn_sf (σ : rn_St) (r y i s : Nat) : Prop := (i = 0 ∧ s = y) ∨ ∃ t, t ∈ rn_up σ r ∧ t < i ∧ (∀ u ∈ rn_up σ r, u < i → u ≤ t) ∧ s = rn_see σ t y
theorem rn_sf_no {σ : rn_St} (hV : rn_V σ) {r y i s : Nat} (hr : r < σ.sn) (h : rn_sf σ r y i s) (hi : i ∉ rn_up σ r) : rn_sf σ r y (i + 1) s := by
  rcases h with ⟨h1, h2⟩ | ⟨t, h1, h2, h3, h4⟩
  · subst h1
    exact absurd (rn_up_zero hV r r (Nat.le_refl _) hr) hi
  · refine Or.inr ⟨t, h1, by omega, fun u hu hlt => ?_, h4⟩
    rcases Nat.lt_or_ge u i with h | h
    · exact h3 u hu h
    · have : u = i := by omega
      subst this
      exact absurd hu hi
theorem rn_sf_yes {σ : rn_St} (hV : rn_V σ) {r y i s : Nat} (hr : r < σ.sn) (hy : y ≤ 998) (h : rn_sf σ r y i s) (hi : i ∈ rn_up σ r) : rn_sf σ r y (i + 1) (rn_fO σ i s) := by
  have hin : i < σ.sn := by have := rn_up_le hV r r (Nat.le_refl _) hr i hi; omega
  refine Or.inr ⟨i, hi, by omega, fun u hu hlt => by omega, ?_⟩
  rcases h with ⟨h1, h2⟩ | ⟨t, h1, h2, h3, h4⟩
  · subst h1; subst h2
    rw [rn_see_0 σ hV hy]; rfl
  · have h0 : i ≠ 0 := by omega
    obtain ⟨m1, m2⟩ := rn_up_mid hV r r (Nat.le_refl _) hr i hi h0
    have m3 := hV.2.1 i (by omega) hin
    have e1 := h3 _ m1 m3
    have e2 := m2 t h1 h2
    have e3 : t = σ.so i := by omega
    subst e3
    rw [h4, rn_see_s hV h0 hin]
    simp [rn_fO, h0]
theorem rn_sf_end {σ : rn_St} (hV : rn_V σ) {r y s : Nat} (hr : r < σ.sn) {i : Nat} (hi : σ.sn ≤ i) (h : rn_sf σ r y i s) : s = rn_see σ r y := by
  rcases h with ⟨h1, _⟩ | ⟨t, h1, h2, h3, h4⟩
  · have := hV.1.1; omega
  · have e1 := h3 r (rn_up_self hV hr) (by omega)
    have e2 := rn_up_le hV r r (Nat.le_refl _) hr t h1
    have : t = r := by omega
    rw [h4, this]
theorem rn_sf_le {σ : rn_St} {r y i s : Nat} (hy : y ≤ 998) (h : rn_sf σ r y i s) : s ≤ 999 := by
  rcases h with ⟨_, h⟩ | ⟨t, _, _, _, h⟩
  · omega
  · rw [h]; exact rn_see_le σ t y
theorem rn_row_in {n i : Nat} {ra : Nat → Nat} (h : i < n) : rn_row n ra i = some (ra i) := by simp [rn_row, h]
theorem rn_row_out {n i : Nat} {ra : Nat → Nat} (h : n ≤ i) : rn_row n ra i = none := by simp [rn_row]; omega
/-- a number in the range that a call may name -/
theorem rn_num (x : Int32) (n : Nat) (hn : n < 2 ^ 31) : (∃ k, k ≤ n ∧ x = nI k) ∨ x < 0 ∨ nI n < x := by
  by_cases h0 : x < 0
  · exact Or.inr (Or.inl h0)
  · obtain ⟨j, hj, rfl⟩ := nI_of h0
    by_cases h1 : j ≤ n
    · exact Or.inl ⟨j, h1, rfl⟩
    · exact Or.inr (Or.inr ((nI_ltI hn hj).mpr (by omega)))
