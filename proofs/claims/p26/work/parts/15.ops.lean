/-! WHAT EACH CALL ANSWERS WHERE NOTHING IS THROWN, and the value behind it -/
def rn_own1 (σ : rn_St) (j r : Nat) : Bool := match σ.sd with
  | [q] => decide (q.2.2 = 1 ∧ nI (σ.pu j) = σ.sw r ∧ rn_lead σ (σ.so r) q.2.1 = some (σ.pu j))
  | _ => false
def rn_o_writeMap (σ : rn_St) (j r : Nat) : Int32 × rn_St :=
  if σ.sm r ≠ [] then (-4, rn_ref (rn_draft σ []) (-4))
  else if σ.sd = [] ∨ rn_bad σ.sd = true then (-3, rn_ref (rn_draft σ []) (-3))
  else if rn_lost σ (σ.so r) σ.sd = true then (-2, rn_ref (rn_draft σ []) (-2))
  else if rn_own1 σ j r = true ∨ rn_held σ j (σ.so r) &&& 8 ≠ 0 then (nI σ.sd.length, rn_setMap σ r)
  else (-1, rn_ref (rn_draft σ []) (-1))
def rn_o_enter (σ : rn_St) (j r : Nat) : Int32 × rn_St :=
  if rn_insO σ (σ.pl j) (rn_nx σ r) = false then (-5, rn_ref σ (-5))
  else if rn_held σ j r &&& 1 = 0 then (-1, rn_ref σ (-1))
  else (15, rn_proc σ j r (σ.pu j) 15)
def rn_o_setNumber (σ : rn_St) (j x : Nat) : Int32 × rn_St := match rn_lead σ (σ.pl j) x with
  | none => (-2, rn_ref σ (-2))
  | some y => if y ≠ σ.pu j ∧ σ.pr j &&& 8 = 0 then (-1, rn_ref σ (-1))
    else (nI y, rn_proc σ j (σ.pl j) y (if x ≠ 0 ∧ rn_see σ (σ.pl j) (σ.pu j) = 0 then 0 else σ.pr j))
def rn_o_makeFile (σ : rn_St) (j : Nat) (md : Int32) : Int32 × rn_St :=
  if rn_see σ (σ.pl j) (σ.pu j) = 999 then (-2, rn_ref σ (-2)) else (nI σ.fn, rn_addFile σ j md)
def rn_o_handOver (σ : rn_St) (j k x : Nat) : Int32 × rn_St := match rn_lead σ (σ.pl j) x with
  | none => (-2, rn_ref σ (-2))
  | some y => if rn_see σ (σ.pl j) (σ.fo k) = 999 then (-2, rn_ref σ (-2))
    else if σ.pr j &&& 2 = 0 then (-1, rn_ref σ (-1))
    else (nI y, rn_hand σ k y)
def rn_o_open (σ : rn_St) (j k : Nat) (wb : Bool) : Int32 × rn_St :=
  if rn_may (σ.fm k) (nI (σ.pu j)) (nI (σ.fo k)) wb = true then (1, σ)
  else if σ.pr j &&& 4 = 0 then (-6, rn_ref σ (-6))
  else if rn_see σ (σ.pl j) (σ.fo k) = 999 then (-2, rn_ref σ (-2))
  else (2, σ)
theorem rn_P_mk {D : va_G} {cR cP cF : ClassId} {h0 aR aP aF : Nat} {ra pa fa : Nat → Nat} {hd : Nat → Option Nat} {dh : Option Nat} {f f' : rn_T} {sz : Nat} {σ' : rn_St} {H : Heap} (hV : rn_V σ') (hC : rn_CI cR cP cF h0 aR aP aF ra pa fa hd dh f' σ') (hF : rn_S D f' H) (hdom : ∀ x, f' x ≠ none → rn_A f sz x) : rn_P D cR cP cF h0 f sz σ' H :=
  ⟨f', ⟨hV, _, _, _, _, _, _, _, _, hC⟩, hF, hdom⟩
theorem rn_nI999 {k : Nat} (h : k ≤ 999) : nI k = 999 ↔ k = 999 := nI_eq (b := 999) (by omega) (by omega)
theorem rn_nI0 {k : Nat} (h : k ≤ 999) : nI k = 0 ↔ k = 0 := nI_eq (b := 0) (by omega) (by omega)
theorem rn_dec0 {x : Int32} : rn_b (decide (x ≠ 0)) = 0 ↔ x = 0 := by
  rw [rn_b0]; simp
