/-! THE REFERENCE'S CELLS: one object, eleven arrays of ints -/
def rn_ln : Nat → Nat
  | 0 => 10 | 1 => 10 | 2 => 10 | 3 => 33 | 4 => 33 | 5 => 33 | 6 => 12 | 7 => 12 | 8 => 12 | _ => 20
abbrev rn_mf (ma : Nat → Nat) (rf n dn pn fn rc la : Int32) : List Value := [.int rf, .int n, .ref (ma 0), .ref (ma 1), .ref (ma 2), .ref (ma 3), .ref (ma 4), .ref (ma 5), .int dn, .int pn, .ref (ma 6), .ref (ma 7), .ref (ma 8), .int fn, .ref (ma 9), .ref (ma 10), .int rc, .int la]
def rn_MW (D : va_G) (cI : ClassId) (m0 : Nat) (ma : Nat → Nat) (rf n dn pn fn rc la : Int32) (V : Nat → Nat → Int32) (H : Heap) : Prop :=
  va_at D vwCl (m0, .inr (5, rn_mf ma rf n dn pn fn rc la)) H ∧ (∀ k, k < 11 → va_at D vwCl (ma k, .inl (cI, rn_ln k, .inl (V k))) H) ∧ (∀ i j, i < 11 → j < 11 → ma i = ma j → i = j) ∧ ∀ k, k < 11 → ma k ≠ m0
def rn_mA (m0 : Nat) (ma : Nat → Nat) : Nat → Prop := fun q => q = m0 ∨ ∃ k, k < 11 ∧ q = ma k
theorem rn_MW.put {D : va_G} {cI : ClassId} {m0 : Nat} {ma : Nat → Nat} {rf n dn pn fn rc la rf' n' dn' pn' fn' rc' la' : Int32} {V : Nat → Nat → Int32} {H H1 : Heap} (h : rn_MW D cI m0 ma rf n dn pn fn rc la V H) (hat : va_at D vwCl (m0, .inr (5, rn_mf ma rf' n' dn' pn' fn' rc' la')) H1) (ho : ∀ q : Nat, q ≠ m0 → H1[q]? = H[q]?) : rn_MW D cI m0 ma rf' n' dn' pn' fn' rc' la' V H1 :=
  ⟨hat, fun k hk => (h.2.1 k hk).kept (ho _ (h.2.2.2 k hk)), h.2.2.1, h.2.2.2⟩
theorem rn_MW.st {D : va_G} {cI : ClassId} {m0 : Nat} {ma : Nat → Nat} {rf n dn pn fn rc la : Int32} {V : Nat → Nat → Int32} {H H1 : Heap} {k : Nat} {g : Nat → Int32} (h : rn_MW D cI m0 ma rf n dn pn fn rc la V H) (hk : k < 11) (hat : va_at D vwCl (ma k, .inl (cI, rn_ln k, .inl g)) H1) (ho : ∀ q : Nat, q ≠ ma k → H1[q]? = H[q]?) : rn_MW D cI m0 ma rf n dn pn fn rc la (va_up V k g) H1 := by
  refine ⟨h.1.kept (ho _ (fun e => h.2.2.2 k hk e.symm)), fun i hi => ?_, h.2.2.1, h.2.2.2⟩
  by_cases e : i = k
  · subst e; rw [rn_up_eq]; exact hat
  · rw [rn_up_ne _ _ e]; exact (h.2.1 i hi).kept (ho _ (fun q => e (h.2.2.1 i k hi hk q)))
theorem rn_mA_0 {m0 : Nat} {ma : Nat → Nat} : rn_mA m0 ma m0 := Or.inl rfl
theorem rn_mA_k {m0 : Nat} {ma : Nat → Nat} (k : Nat) (hk : k < 11) : rn_mA m0 ma (ma k) := Or.inr ⟨k, hk, rfl⟩
/-- the lines of a chain in the order of the drafting -/
def rn_lat (ls : List rn_Ln) (k : Nat) : rn_Ln := ls.reverse.getD k (0, 0, 0)
theorem rn_lat_lt (l : rn_Ln) {ls : List rn_Ln} {k : Nat} (h : k < ls.length) : rn_lat (l :: ls) k = rn_lat ls k := by
  unfold rn_lat
  rw [List.reverse_cons, List.getD_eq_getElem?_getD, List.getD_eq_getElem?_getD, List.getElem?_append_left (by rw [List.length_reverse]; exact h)]
theorem rn_lat_eq (l : rn_Ln) (ls : List rn_Ln) : rn_lat (l :: ls) ls.length = l := by
  unfold rn_lat
  rw [List.reverse_cons, List.getD_eq_getElem?_getD, List.getElem?_append_right (by rw [List.length_reverse]; exact Nat.le_refl _), List.length_reverse, Nat.sub_self]
  rfl
theorem rn_lat_drop (ls : List rn_Ln) {k : Nat} (h : k < ls.length) : ls.drop (ls.length - (k + 1)) = rn_lat ls k :: ls.drop (ls.length - k) := by
  have h1 : ls.length - (k + 1) < ls.length := by omega
  rw [List.drop_eq_getElem_cons h1, show ls.length - (k + 1) + 1 = ls.length - k by omega]
  congr 1
  unfold rn_lat
  rw [List.getD_eq_getElem?_getD, List.getElem?_reverse h, show ls.length - 1 - k = ls.length - (k + 1) by omega, List.getElem?_eq_getElem h1]
  rfl
theorem rn_lat_mem {ls : List rn_Ln} {k : Nat} (h : k < ls.length) : rn_lat ls k ∈ ls := by
  have h1 := rn_lat_drop ls h
  exact List.mem_of_mem_drop (by rw [h1]; exact List.mem_cons_self)
def rn_ml (V : Nat → Nat → Int32) (b : Nat) (ls : List rn_Ln) : Prop := ∀ k, k < ls.length → V 3 (b + k) = nI (rn_lat ls k).1 ∧ V 4 (b + k) = nI (rn_lat ls k).2.1 ∧ V 5 (b + k) = nI (rn_lat ls k).2.2
/-- the arrays hold the value -/
def rn_Mr (σ : rn_St) (V : Nat → Nat → Int32) : Prop :=
  (∀ i, i < σ.sn → V 0 i = rn_enc (rn_nx σ i)) ∧ (∀ i, 0 < i → i < σ.sn → V 1 i = σ.sw i) ∧ (∀ i, i < σ.sn → V 2 i = nI (σ.sm i).length ∧ rn_ml V (3 * i) (σ.sm i)) ∧ (∀ i, σ.sn ≤ i → i < 10 → V 2 i = 0) ∧ rn_ml V 30 σ.sd ∧
  (∀ j, j < σ.pn → V 6 j = nI (σ.pl j) ∧ V 7 j = nI (σ.pu j) ∧ V 8 j = σ.pr j) ∧ ∀ k, k < σ.fn → V 9 k = nI (σ.fo k) ∧ V 10 k = σ.fm k
def rn_MP (D : va_G) (cI : ClassId) (m0 : Nat) (ma : Nat → Nat) (k : Int32) (σ : rn_St) (H : Heap) : Prop := ∃ V : Nat → Nat → Int32, rn_Mr σ V ∧ rn_MW D cI m0 ma k (nI σ.sn) (nI σ.sd.length) (nI σ.pn) (nI σ.fn) σ.rc σ.la V H
/-! numbers -/
def rn_in (v lo hi : Int32) : Bool := decide (lo ≤ v ∧ v ≤ hi)
theorem rn_le {x y : Int32} : x ≤ y ↔ x.toInt ≤ y.toInt := Int32.le_iff_toInt_le
theorem rn_lt {x y : Int32} : x < y ↔ x.toInt < y.toInt := Int32.lt_iff_toInt_lt
theorem rn_nlt {x y : Int32} : ¬ x < y ↔ y ≤ x := by rw [rn_le, rn_lt]; omega
theorem rn_nle2 {x y : Int32} : ¬ x ≤ y ↔ y < x := by rw [rn_le, rn_lt]; omega
theorem rn_0toInt : (0 : Int32).toInt = 0 := by decide
theorem rn_in_nI {i n : Nat} (hn : n ≤ 2000) : rn_in (nI i) 0 (nI n - 1) = decide (i < n) ∨ 2 ^ 30 ≤ i := by
  by_cases h : 2 ^ 30 ≤ i
  · exact Or.inr h
  · refine Or.inl ?_
    unfold rn_in
    congr 1
    rw [rn_le, rn_le, rn_0toInt, nI_toInt (by omega)]
    have e : (nI n - 1).toInt = (n : Int) - 1 := pk_sub_toInt (a := n) (b := 1) (by omega) (by omega)
    rw [e]
    exact propext ⟨fun q => by omega, fun q => by omega⟩
/-- a place of a row of n, or none -/
theorem rn_ok_t {i n : Nat} (hn : n ≤ 2000) (h : i < n) : rn_in (nI i) 0 (nI n - 1) = true := by
  rcases rn_in_nI (i := i) hn with e | e
  · rw [e]; exact decide_eq_true h
  · omega
theorem rn_ok_f {x : Int32} {n : Nat} (hn : n ≤ 2000) (h : ¬ ∃ i, i < n ∧ x = nI i) : rn_in x 0 (nI n - 1) = false := by
  unfold rn_in
  refine decide_eq_false (fun q => h ?_)
  obtain ⟨j, hj, rfl⟩ := nI_of (x := x) (by rw [rn_nlt]; exact q.1)
  refine ⟨j, ?_, rfl⟩
  have h2 := rn_le.mp q.2
  have e : (nI n - 1).toInt = (n : Int) - 1 := pk_sub_toInt (a := n) (b := 1) (by omega) (by omega)
  rw [e, nI_toInt hj] at h2
  omega
theorem rn_rng_t {i n : Nat} (h : i ≤ n) (hn : n ≤ 2000) : rn_in (nI i) 0 (nI n) = true := by
  unfold rn_in
  refine decide_eq_true ⟨nI_pos' (by omega), (nI_leI (by omega) (by omega)).mpr h⟩
theorem rn_rng_f {x : Int32} {n : Nat} (h : x < 0 ∨ nI n < x) : rn_in x 0 (nI n) = false := by
  unfold rn_in
  refine decide_eq_false (fun q => ?_)
  rcases h with h | h
  · exact rn_nle h q.1
  · exact rn_nle h q.2
theorem rn_in_sub {x a c : Nat} (hx : x ≤ 999) (ha : a ≤ 999) (hc : c ≤ 999) (h1 : 1 ≤ c) : rn_in (nI x - nI a) 0 (nI (c - 1)) = decide (a ≤ x ∧ x < a + c) := by
  unfold rn_in
  congr 1
  rw [rn_le, rn_le, rn_0toInt, pk_sub_toInt (by omega) (by omega), nI_toInt (by omega)]
  exact propext ⟨fun q => by omega, fun q => by omega⟩
theorem rn_up_iff {σ : rn_St} (hV : rn_V σ) {r b : Nat} (hr : r < σ.sn) : b ∈ rn_up σ r ↔ b = r ∨ rn_insO σ b (rn_nx σ r) = true := by
  unfold rn_nx
  by_cases h : r = 0
  · subst h; simp [rn_up_0, rn_insO]
  · rw [if_neg h, rn_up_s hV h hr]
    simp [rn_insO]
