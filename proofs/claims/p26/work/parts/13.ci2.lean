/-! new cells -/
section CI2
variable {cR cP cF : ClassId} {h0 aR aP aF : Nat} {ra pa fa : Nat → Nat} {hd : Nat → Option Nat} {dh : Option Nat} {f : rn_T} {σ : rn_St}
theorem rn_CI.fresh {q : Nat} (e : va_E) (h : rn_CI cR cP cF h0 aR aP aF ra pa fa hd dh f σ) (hq : f q = none) : rn_CI cR cP cF h0 aR aP aF ra pa fa hd dh (va_up f q (some e)) σ := by
  obtain ⟨⟨hh, hr, hp, hfi⟩, hR, hQ, hI, hd0, i1, i2⟩ := h
  have hp1 : rn_pres (fun _ => True) f (va_up f q (some e)) := fun x e' hx _ => rn_up_keep hx (by rw [hq]; exact fun z => nomatch z)
  exact ⟨⟨hp1 _ _ hh trivial, hp1 _ _ hr trivial, hp1 _ _ hp trivial, hp1 _ _ hfi trivial⟩, hp1.rm trivial trivial hR, hp1.pr trivial hQ, hp1.fi trivial hI, hp1.ch trivial _ _ hd0, i1, i2⟩
theorem rn_fresh_ne {q x : Nat} {e : va_E} (hq : f q = none) (h : f x = some e) : x ≠ q := fun z => by rw [z, hq] at h; cases h
/-- a new line at the draft's head -/
theorem rn_CI.addLine {q : Nat} (l9 : rn_Ln) (h : rn_CI cR cP cF h0 aR aP aF ra pa fa hd dh f σ) (hq : f q = none) :
    rn_CI cR cP cF h0 aR aP aF ra pa fa hd (some q) (va_up (va_up f q (some (.inr (2, [.int (nI l9.1), .int (nI l9.2.1), .int (nI l9.2.2), va_rf dh])))) h0 (some (rn_house aR aP aF (nI σ.sn) (nI σ.pn) (nI σ.fn) (some q) σ.rc σ.la))) (rn_draft σ (l9 :: σ.sd)) := by
  have h1 := h.fresh (.inr (2, [.int (nI l9.1), .int (nI l9.2.1), .int (nI l9.2.2), va_rf dh])) hq
  exact h1.house (σ' := rn_draft σ (l9 :: σ.sd)) ⟨rfl, rfl, rfl, rfl⟩ rfl rfl ⟨q, dh, rfl, rn_up_eq _ _ _, h1.2.2.2.2.1⟩
/-- the stores of the three calls that make -/
abbrev rn_fF (f : rn_T) (q aF h0 aR aP : Nat) (cF : ClassId) (σ : rn_St) (fa : Nat → Nat) (dh : Option Nat) (u : Int32) (md : Int32) : rn_T := va_up (va_up (va_up f q (some (.inr (0, [.int u, .int md])))) aF (some (.inl (cF, 20, .inr (.inr (.inr (.inr (va_up (rn_row σ.fn fa) σ.fn (some q)))))))) ) h0 (some (rn_house aR aP aF (nI σ.sn) (nI σ.pn) (nI (σ.fn + 1)) dh σ.rc σ.la))
abbrev rn_fP (f : rn_T) (q aP h0 aR aF : Nat) (cP : ClassId) (σ : rn_St) (pa : Nat → Nat) (dh : Option Nat) (r : Nat) (u k : Int32) : rn_T := va_up (va_up (va_up f q (some (.inr (1, [.ref r, .int u, .int k])))) aP (some (.inl (cP, 12, .inr (.inr (.inr (.inr (va_up (rn_row σ.pn pa) σ.pn (some q)))))))) ) h0 (some (rn_house aR aP aF (nI σ.sn) (nI (σ.pn + 1)) (nI σ.fn) dh σ.rc σ.la))
abbrev rn_fR (f : rn_T) (q aR h0 aP aF : Nat) (cR : ClassId) (σ : rn_St) (ra : Nat → Nat) (dh : Option Nat) (o : Nat) (w : Int32) : rn_T := va_up (va_up (va_up f q (some (.inr (3, [.int (nI σ.sn), .ref o, .int w, .null])))) aR (some (.inl (cR, 10, .inr (.inr (.inr (.inr (va_up (rn_row σ.sn ra) σ.sn (some q)))))))) ) h0 (some (rn_house aR aP aF (nI (σ.sn + 1)) (nI σ.pn) (nI σ.fn) dh σ.rc σ.la))
theorem rn_CI.addFile {q j : Nat} {md : Int32} (h : rn_CI cR cP cF h0 aR aP aF ra pa fa hd dh f σ) (hq : f q = none) :
    rn_CI cR cP cF h0 aR aP aF ra pa (va_up fa σ.fn q) hd dh (rn_fF f q aF h0 aR aP cF σ fa dh (nI (σ.pu j)) md) (rn_addFile σ j md) := by
  obtain ⟨⟨hh, hr, hp, hfi⟩, hR, hQ, hI, hd0, i1, i2⟩ := h
  have n1 := rn_fresh_ne hq hh
  have n2 := rn_fresh_ne hq hfi
  have n3 : h0 ≠ aF := rn_ne hh hfi (by simp)
  have K : ∀ (K : Nat → Prop), ¬ K 6 → ¬ K 4 → rn_pres K f (rn_fF f q aF h0 aR aP cF σ fa dh (nI (σ.pu j)) md) := fun K k6 k4 => by
    refine ((rn_pres_up _ (rn_kd_no 6 hq) k6).trans (rn_pres_up _ (k := 6) ?_ k6)).trans (rn_pres_up _ (k := 4) ?_ k4)
    · intro e he
      rw [rn_up_ne _ _ n2] at he
      exact rn_kd_of hfi e he
    · intro e he
      rw [rn_up_ne _ _ n3, rn_up_ne _ _ n1] at he
      exact rn_kd_of hh e he
  have P := K (fun k => k ≠ 6 ∧ k ≠ 4) (by simp) (by simp)
  have nR : aR ≠ aF ∧ aP ≠ aF := by
    constructor
    · intro z; rw [z] at hr; have := Option.some.inj (hr.symm.trans hfi); simp at this
    · intro z; rw [z] at hp; have := Option.some.inj (hp.symm.trans hfi); simp at this
  have r1 : ∀ x, x ≠ aF → ∀ a, f x = some (.inl a) → rn_fF f q aF h0 aR aP cF σ fa dh (nI (σ.pu j)) md x = some (.inl a) := fun x hx a ha => by
    show va_up _ _ _ x = _
    rw [rn_up_ne _ _ (fun z => by rw [z, hh] at ha; cases ha), rn_up_ne _ _ hx, rn_up_ne _ _ (rn_fresh_ne hq ha)]
    exact ha
  refine ⟨⟨rn_up_eq _ _ _, r1 _ nR.1 _ hr, r1 _ nR.2 _ hp, ?_⟩, P.rm (by simp) (by simp) hR, P.pr (by simp) hQ, ?_, P.ch (by simp) _ _ hd0, i1, ?_⟩
  · show va_up _ _ _ aF = _
    rw [rn_up_ne _ _ n3.symm, rn_up_eq, rn_row_up]
    rfl
  · intro i hi
    have hi' : i < σ.fn + 1 := hi
    show _ = some (Sum.inr (0, [Value.int (nI (va_up σ.fo σ.fn (σ.pu j) i)), Value.int (va_up σ.fm σ.fn md i)]))
    by_cases e : i = σ.fn
    · subst e
      rw [rn_up_eq, rn_up_eq, rn_up_eq]
      show va_up _ _ _ q = _
      rw [rn_up_ne _ _ n1.symm, rn_up_ne _ _ n2.symm, rn_up_eq]
    · rw [rn_up_ne _ _ e, rn_up_ne _ _ e, rn_up_ne _ _ e]
      exact P _ _ (hI i (by omega)) (by simp [rn_kind])
  · intro a b ha hb hab
    have ha' : a < σ.fn + 1 := ha
    have hb' : b < σ.fn + 1 := hb
    by_cases e1 : a = σ.fn
    · by_cases e2 : b = σ.fn
      · omega
      · rw [e1, rn_up_eq, rn_up_ne _ _ e2] at hab
        exact absurd hab.symm (rn_fresh_ne hq (hI b (by omega)))
    · by_cases e2 : b = σ.fn
      · rw [e2, rn_up_eq, rn_up_ne _ _ e1] at hab
        exact absurd hab (rn_fresh_ne hq (hI a (by omega)))
      · rw [rn_up_ne _ _ e1, rn_up_ne _ _ e2] at hab
        exact i2 a b (by omega) (by omega) hab
theorem rn_CI.addProc {q j : Nat} (h : rn_CI cR cP cF h0 aR aP aF ra pa fa hd dh f σ) (hq : f q = none) :
    rn_CI cR cP cF h0 aR aP aF ra (va_up pa σ.pn q) fa hd dh (rn_fP f q aP h0 aR aF cP σ pa dh (ra (σ.pl j)) (nI (σ.pu j)) (σ.pr j)) (rn_fork σ j) := by
  obtain ⟨⟨hh, hr, hp, hfi⟩, hR, hQ, hI, hd0, i1, i2⟩ := h
  have n1 := rn_fresh_ne hq hh
  have n2 := rn_fresh_ne hq hp
  have n3 : h0 ≠ aP := rn_ne hh hp (by simp)
  have K : ∀ (K : Nat → Prop), ¬ K 6 → ¬ K 4 → rn_pres K f (rn_fP f q aP h0 aR aF cP σ pa dh (ra (σ.pl j)) (nI (σ.pu j)) (σ.pr j)) := fun K k6 k4 => by
    refine ((rn_pres_up _ (rn_kd_no 6 hq) k6).trans (rn_pres_up _ (k := 6) ?_ k6)).trans (rn_pres_up _ (k := 4) ?_ k4)
    · intro e he
      rw [rn_up_ne _ _ n2] at he
      exact rn_kd_of hp e he
    · intro e he
      rw [rn_up_ne _ _ n3, rn_up_ne _ _ n1] at he
      exact rn_kd_of hh e he
  have P := K (fun k => k ≠ 6 ∧ k ≠ 4) (by simp) (by simp)
  have nR : aR ≠ aP ∧ aF ≠ aP := by
    constructor
    · intro z; rw [z] at hr; have := Option.some.inj (hr.symm.trans hp); simp at this
    · intro z; rw [z] at hfi; have := Option.some.inj (hfi.symm.trans hp); simp at this
  have r1 : ∀ x, x ≠ aP → ∀ a, f x = some (.inl a) → rn_fP f q aP h0 aR aF cP σ pa dh (ra (σ.pl j)) (nI (σ.pu j)) (σ.pr j) x = some (.inl a) := fun x hx a ha => by
    show va_up _ _ _ x = _
    rw [rn_up_ne _ _ (fun z => by rw [z, hh] at ha; cases ha), rn_up_ne _ _ hx, rn_up_ne _ _ (rn_fresh_ne hq ha)]
    exact ha
  refine ⟨⟨rn_up_eq _ _ _, r1 _ nR.1 _ hr, ?_, r1 _ nR.2 _ hfi⟩, P.rm (by simp) (by simp) hR, ?_, P.fi (by simp) hI, P.ch (by simp) _ _ hd0, ?_, i2⟩
  · show va_up _ _ _ aP = _
    rw [rn_up_ne _ _ n3.symm, rn_up_eq, rn_row_up]
    rfl
  · intro i hi
    have hi' : i < σ.pn + 1 := hi
    show _ = some (Sum.inr (1, [Value.ref (ra (va_up σ.pl σ.pn (σ.pl j) i)), Value.int (nI (va_up σ.pu σ.pn (σ.pu j) i)), Value.int (va_up σ.pr σ.pn (σ.pr j) i)]))
    by_cases e : i = σ.pn
    · subst e
      rw [rn_up_eq, rn_up_eq, rn_up_eq, rn_up_eq]
      show va_up _ _ _ q = _
      rw [rn_up_ne _ _ n1.symm, rn_up_ne _ _ n2.symm, rn_up_eq]
    · rw [rn_up_ne _ _ e, rn_up_ne _ _ e, rn_up_ne _ _ e, rn_up_ne _ _ e]
      exact P _ _ (hQ i (by omega)) (by simp [rn_kind])
  · intro a b ha hb hab
    have ha' : a < σ.pn + 1 := ha
    have hb' : b < σ.pn + 1 := hb
    by_cases e1 : a = σ.pn
    · by_cases e2 : b = σ.pn
      · omega
      · rw [e1, rn_up_eq, rn_up_ne _ _ e2] at hab
        exact absurd hab.symm (rn_fresh_ne hq (hQ b (by omega)))
    · by_cases e2 : b = σ.pn
      · rw [e2, rn_up_eq, rn_up_ne _ _ e1] at hab
        exact absurd hab (rn_fresh_ne hq (hQ a (by omega)))
      · rw [rn_up_ne _ _ e1, rn_up_ne _ _ e2] at hab
        exact i1 a b (by omega) (by omega) hab
theorem rn_CI.newRoom {q j : Nat} (hV : rn_V σ) (hj : j < σ.pn) (h : rn_CI cR cP cF h0 aR aP aF ra pa fa hd dh f σ) (hq : f q = none) :
    rn_CI cR cP cF h0 aR aP aF (va_up ra σ.sn q) pa fa (va_up hd σ.sn none) dh (rn_fR f q aR h0 aP aF cR σ ra dh (ra (σ.pl j)) (nI (σ.pu j))) (rn_newRoom σ j) := by
  obtain ⟨⟨hh, hr, hp, hfi⟩, hR, hQ, hI, hd0, i1, i2⟩ := h
  have n1 := rn_fresh_ne hq hh
  have n2 := rn_fresh_ne hq hr
  have n3 : h0 ≠ aR := rn_ne hh hr (by simp)
  have K : ∀ (K : Nat → Prop), ¬ K 6 → ¬ K 4 → rn_pres K f (rn_fR f q aR h0 aP aF cR σ ra dh (ra (σ.pl j)) (nI (σ.pu j))) := fun K k6 k4 => by
    refine ((rn_pres_up _ (rn_kd_no 6 hq) k6).trans (rn_pres_up _ (k := 6) ?_ k6)).trans (rn_pres_up _ (k := 4) ?_ k4)
    · intro e he
      rw [rn_up_ne _ _ n2] at he
      exact rn_kd_of hr e he
    · intro e he
      rw [rn_up_ne _ _ n3, rn_up_ne _ _ n1] at he
      exact rn_kd_of hh e he
  have P := K (fun k => k ≠ 6 ∧ k ≠ 4) (by simp) (by simp)
  have nR : aP ≠ aR ∧ aF ≠ aR := by
    constructor
    · intro z; rw [z] at hp; have := Option.some.inj (hp.symm.trans hr); simp at this
    · intro z; rw [z] at hfi; have := Option.some.inj (hfi.symm.trans hr); simp at this
  have r1 : ∀ x, x ≠ aR → ∀ a, f x = some (.inl a) → rn_fR f q aR h0 aP aF cR σ ra dh (ra (σ.pl j)) (nI (σ.pu j)) x = some (.inl a) := fun x hx a ha => by
    show va_up _ _ _ x = _
    rw [rn_up_ne _ _ (fun z => by rw [z, hh] at ha; cases ha), rn_up_ne _ _ hx, rn_up_ne _ _ (rn_fresh_ne hq ha)]
    exact ha
  have hpl := (hV.2.2.2.2.2.1.2.2 j hj).1
  have hsn := hV.1.1
  refine ⟨⟨rn_up_eq _ _ _, ?_, r1 _ nR.1 _ hp, r1 _ nR.2 _ hfi⟩, ⟨?_, ?_⟩, ?_, P.fi (by simp) hI, P.ch (by simp) _ _ hd0, i1, i2⟩
  · show va_up _ _ _ aR = _
    rw [rn_up_ne _ _ n3.symm, rn_up_eq, rn_row_up]
    rfl
  · intro i hi
    have hi' : i < σ.sn + 1 := hi
    by_cases e : i = σ.sn
    · subst e
      rw [rn_up_eq, rn_up_eq]
      have e1 : rn_ot (rn_newRoom σ j) (va_up ra σ.sn q) σ.sn = some (ra (σ.pl j)) := by
        rw [rn_ot_s _ _ (by omega)]
        show some (va_up ra σ.sn q (va_up σ.so σ.sn (σ.pl j) σ.sn)) = _
        rw [rn_up_eq, rn_up_ne _ _ (by omega)]
      have e2 : (rn_newRoom σ j).sw σ.sn = nI (σ.pu j) := rn_up_eq _ _ _
      rw [e1, e2]
      show va_up _ _ _ q = _
      rw [rn_up_ne _ _ n1.symm, rn_up_ne _ _ n2.symm, rn_up_eq]
      rfl
    · rw [rn_up_ne _ _ e, rn_up_ne _ _ e]
      have e1 : rn_ot (rn_newRoom σ j) (va_up ra σ.sn q) i = rn_ot σ ra i := by
        by_cases h00 : i = 0
        · subst h00; rfl
        · rw [rn_ot_s _ _ h00, rn_ot_s _ _ h00]
          have := hV.2.1 i (by omega) (by omega)
          show some (va_up ra σ.sn q (va_up σ.so σ.sn (σ.pl j) i)) = _
          rw [rn_up_ne _ _ e, rn_up_ne _ _ (by omega)]
      have e2 : (rn_newRoom σ j).sw i = σ.sw i := rn_up_ne _ _ e
      rw [e1, e2]
      exact P _ _ (hR.1 i (by omega)) (by simp [rn_kind])
  · intro i hi
    have hi' : i < σ.sn + 1 := hi
    show rn_ch _ (va_up σ.sm σ.sn [] i) _
    by_cases e : i = σ.sn
    · subst e
      rw [rn_up_eq, rn_up_eq]
      rfl
    · rw [rn_up_ne _ _ e, rn_up_ne _ _ e]
      exact P.ch (by simp) _ _ (hR.2 i (by omega))
  · intro i hi
    have hi' : i < σ.pn := hi
    have hpi := (hV.2.2.2.2.2.1.2.2 i hi').1
    show _ = some (Sum.inr (1, [Value.ref (va_up ra σ.sn q (σ.pl i)), Value.int (nI (σ.pu i)), Value.int (σ.pr i)]))
    rw [rn_up_ne _ _ (by omega)]
    exact P _ _ (hQ i hi') (by simp [rn_kind])
end CI2
/-! what holds at all times, holds still -/
theorem rn_V.ref {σ : rn_St} (k : Int32) (h : rn_V σ) : rn_V (rn_ref σ k) := h
theorem rn_V.newRoom {σ : rn_St} {j : Nat} (h : rn_V σ) (hj : j < σ.pn) (hn : σ.sn < 10) : rn_V (rn_newRoom σ j) := by
  obtain ⟨h1, h2, h3, h4, h5, h6, h7⟩ := h
  have hpl := (h6.2.2 j hj).1
  refine ⟨⟨by show 1 ≤ σ.sn + 1; omega, by show σ.sn + 1 ≤ 10; omega⟩, ?_, ?_, ?_, h5, ⟨h6.1, h6.2.1, fun i hi => ⟨by show σ.pl i < σ.sn + 1; have := (h6.2.2 i hi).1; omega, (h6.2.2 i hi).2⟩⟩, h7⟩
  · intro i h0 hi
    have hi' : i < σ.sn + 1 := hi
    show va_up σ.so σ.sn (σ.pl j) i < i
    by_cases e : i = σ.sn
    · subst e; rw [rn_up_eq]; exact hpl
    · rw [rn_up_ne _ _ e]; exact h2 i h0 (by omega)
  · intro i hi
    have hi' : i < σ.sn + 1 := hi
    show (∀ q ∈ va_up σ.sm σ.sn [] i, rn_okL q) ∧ (va_up σ.sm σ.sn [] i).length ≤ 3 ∧ rn_bad (va_up σ.sm σ.sn [] i) = false
    by_cases e : i = σ.sn
    · subst e; rw [rn_up_eq]; exact ⟨(fun q hq => by cases hq), Nat.zero_le _, rfl⟩
    · rw [rn_up_ne _ _ e]; exact h3 i (by omega)
  · show va_up σ.sm σ.sn [] 0 = []
    by_cases e : 0 = σ.sn
    · rw [← e, rn_up_eq]
    · rw [rn_up_ne _ _ e]; exact h4
theorem rn_V.proc {σ : rn_St} {j r u : Nat} (k : Int32) (h : rn_V σ) (hr : r < σ.sn) (hu : u ≤ 998) : rn_V (rn_proc σ j r u k) := by
  obtain ⟨h1, h2, h3, h4, h5, h6, h7⟩ := h
  refine ⟨h1, h2, h3, h4, h5, ⟨h6.1, h6.2.1, fun i hi => ?_⟩, h7⟩
  have hi' : i < σ.pn := hi
  show va_up σ.pl j r i < σ.sn ∧ va_up σ.pu j u i ≤ 998
  by_cases e : i = j
  · subst e; rw [rn_up_eq, rn_up_eq]; exact ⟨hr, hu⟩
  · rw [rn_up_ne _ _ e, rn_up_ne _ _ e]; exact h6.2.2 i hi'
theorem rn_V.addRoom {σ : rn_St} {j : Nat} (h : rn_V σ) (hj : j < σ.pn) (hn : σ.sn < 10) : rn_V (rn_addRoom σ j) :=
  rn_V.proc 15 (h.newRoom hj hn) (Nat.lt_succ_self σ.sn) (h.2.2.2.2.2.1.2.2 j hj).2
theorem rn_V.draft {σ : rn_St} {ls : List rn_Ln} (h : rn_V σ) (h1 : ∀ q ∈ ls, rn_okL q) (h2 : ls.length ≤ 3) : rn_V (rn_draft σ ls) := by
  obtain ⟨a1, a2, a3, a4, a5, a6, a7⟩ := h
  exact ⟨a1, a2, a3, a4, ⟨h1, h2⟩, a6, a7⟩
theorem rn_V.setMap {σ : rn_St} {r : Nat} (h : rn_V σ) (h0 : r ≠ 0) (hb : rn_bad σ.sd = false) : rn_V (rn_setMap σ r) := by
  obtain ⟨a1, a2, a3, a4, a5, a6, a7⟩ := h
  refine ⟨a1, a2, fun i hi => ?_, ?_, ⟨(fun q hq => by cases hq), Nat.zero_le _⟩, a6, a7⟩
  · show (∀ q ∈ va_up σ.sm r σ.sd i, rn_okL q) ∧ (va_up σ.sm r σ.sd i).length ≤ 3 ∧ rn_bad (va_up σ.sm r σ.sd i) = false
    by_cases e : i = r
    · subst e; rw [rn_up_eq]; exact ⟨a5.1, a5.2, hb⟩
    · rw [rn_up_ne _ _ e]; exact a3 i hi
  · show va_up σ.sm r σ.sd 0 = []
    rw [rn_up_ne _ _ (Ne.symm h0)]; exact a4
theorem rn_V.fork {σ : rn_St} {j : Nat} (h : rn_V σ) (hj : j < σ.pn) (hn : σ.pn < 12) : rn_V (rn_fork σ j) := by
  obtain ⟨a1, a2, a3, a4, a5, a6, a7⟩ := h
  refine ⟨a1, a2, a3, a4, a5, ⟨by show 1 ≤ σ.pn + 1; omega, by show σ.pn + 1 ≤ 12; omega, fun i hi => ?_⟩, a7⟩
  have hi' : i < σ.pn + 1 := hi
  show va_up σ.pl σ.pn (σ.pl j) i < σ.sn ∧ va_up σ.pu σ.pn (σ.pu j) i ≤ 998
  by_cases e : i = σ.pn
  · subst e; rw [rn_up_eq, rn_up_eq]; exact a6.2.2 j hj
  · rw [rn_up_ne _ _ e, rn_up_ne _ _ e]; exact a6.2.2 i (by omega)
theorem rn_V.addFile {σ : rn_St} {j : Nat} (md : Int32) (h : rn_V σ) (hj : j < σ.pn) (hn : σ.fn < 20) : rn_V (rn_addFile σ j md) := by
  obtain ⟨a1, a2, a3, a4, a5, a6, a7⟩ := h
  refine ⟨a1, a2, a3, a4, a5, a6, ⟨by show σ.fn + 1 ≤ 20; omega, fun i hi => ?_⟩⟩
  have hi' : i < σ.fn + 1 := hi
  show va_up σ.fo σ.fn (σ.pu j) i ≤ 998
  by_cases e : i = σ.fn
  · subst e; rw [rn_up_eq]; exact (a6.2.2 j hj).2
  · rw [rn_up_ne _ _ e]; exact a7.2 i (by omega)
theorem rn_V.hand {σ : rn_St} {k y : Nat} (h : rn_V σ) (hy : y ≤ 998) : rn_V (rn_hand σ k y) := by
  obtain ⟨a1, a2, a3, a4, a5, a6, a7⟩ := h
  refine ⟨a1, a2, a3, a4, a5, a6, ⟨a7.1, fun i hi => ?_⟩⟩
  show va_up σ.fo k y i ≤ 998
  by_cases e : i = k
  · subst e; rw [rn_up_eq]; exact hy
  · rw [rn_up_ne _ _ e]; exact a7.2 i hi
