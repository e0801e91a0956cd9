/-! WHAT THE CALLS DO TO THE VALUE, and that the cells follow -/
def rn_ref (σ : rn_St) (k : Int32) : rn_St := (σ.1, σ.2.1, σ.2.2.1, (σ.rc + 1, k))
def rn_newRoom (σ : rn_St) (j : Nat) : rn_St := ((σ.sn + 1, va_up σ.so σ.sn (σ.pl j), va_up σ.sw σ.sn (nI (σ.pu j)), va_up σ.sm σ.sn [], σ.sd), σ.2.1, σ.2.2.1, σ.2.2.2)
def rn_draft (σ : rn_St) (ls : List rn_Ln) : rn_St := ((σ.sn, σ.so, σ.sw, σ.sm, ls), σ.2.1, σ.2.2.1, σ.2.2.2)
def rn_setMap (σ : rn_St) (r : Nat) : rn_St := ((σ.sn, σ.so, σ.sw, va_up σ.sm r σ.sd, []), σ.2.1, σ.2.2.1, σ.2.2.2)
def rn_fork (σ : rn_St) (j : Nat) : rn_St := (σ.1, (σ.pn + 1, va_up σ.pl σ.pn (σ.pl j), va_up σ.pu σ.pn (σ.pu j), va_up σ.pr σ.pn (σ.pr j)), σ.2.2.1, σ.2.2.2)
def rn_proc (σ : rn_St) (j r u : Nat) (k : Int32) : rn_St := (σ.1, (σ.pn, va_up σ.pl j r, va_up σ.pu j u, va_up σ.pr j k), σ.2.2.1, σ.2.2.2)
def rn_addRoom (σ : rn_St) (j : Nat) : rn_St := rn_proc (rn_newRoom σ j) j σ.sn (σ.pu j) 15
def rn_addFile (σ : rn_St) (j : Nat) (md : Int32) : rn_St := (σ.1, σ.2.1, (σ.fn + 1, va_up σ.fo σ.fn (σ.pu j), va_up σ.fm σ.fn md), σ.2.2.2)
def rn_hand (σ : rn_St) (k y : Nat) : rn_St := (σ.1, σ.2.1, (σ.fn, va_up σ.fo k y, σ.fm), σ.2.2.2)
/-! kinds of cells, and what an update leaves -/
def rn_kind : va_E → Nat
  | .inl _ => 6
  | .inr o => o.1
def rn_kd (f : rn_T) (a k : Nat) : Prop := ∀ e, f a = some e → rn_kind e = k
def rn_pres (K : Nat → Prop) (f f' : rn_T) : Prop := ∀ x e, f x = some e → K (rn_kind e) → f' x = some e
theorem rn_kd_of {f : rn_T} {a : Nat} {e : va_E} (h : f a = some e) : rn_kd f a (rn_kind e) := fun e' h' => by rw [Option.some.inj (h'.symm.trans h)]
theorem rn_kd_no {f : rn_T} {a : Nat} (k : Nat) (h : f a = none) : rn_kd f a k := fun e' h' => by rw [h] at h'; cases h'
theorem rn_up_keep {f : rn_T} {x a : Nat} {e : va_E} {e' : Option va_E} (h : f x = some e) (hk : f a ≠ some e) : va_up f a e' x = some e := by
  rw [rn_up_ne _ _ (fun he => hk (by rw [← he]; exact h))]; exact h
theorem rn_pres_up {K : Nat → Prop} {f : rn_T} {a k : Nat} (e' : Option va_E) (hk : rn_kd f a k) (hK : ¬ K k) : rn_pres K f (va_up f a e') := by
  intro x e h hx
  by_cases he : x = a
  · subst he
    rw [hk e h] at hx
    exact absurd hx hK
  · rw [rn_up_ne _ _ he]; exact h
theorem rn_pres.trans {K : Nat → Prop} {f g h : rn_T} (h1 : rn_pres K f g) (h2 : rn_pres K g h) : rn_pres K f h := fun x e hx hk => h2 x e (h1 x e hx hk) hk
theorem rn_pres.ch {K : Nat → Prop} {f f' : rn_T} (h : rn_pres K f f') (h2 : K 2) : ∀ (ls : List rn_Ln) (z : Option Nat), rn_ch f ls z → rn_ch f' ls z := by
  intro ls
  induction ls with
  | nil => intro z hz; exact hz
  | cons q r ih =>
    intro z hz
    obtain ⟨a, z', e1, e2, e3⟩ := hz
    exact ⟨a, z', e1, h _ _ e2 h2, ih z' e3⟩
theorem rn_pres.rm {K : Nat → Prop} {f f' : rn_T} {σ : rn_St} {ra : Nat → Nat} {hd : Nat → Option Nat} (h : rn_pres K f f') (h3 : K 3) (h2 : K 2) (hR : rn_Rm f σ ra hd) : rn_Rm f' σ ra hd :=
  ⟨fun i hi => h _ _ (hR.1 i hi) h3, fun i hi => h.ch h2 _ _ (hR.2 i hi)⟩
theorem rn_pres.pr {K : Nat → Prop} {f f' : rn_T} {σ : rn_St} {ra pa : Nat → Nat} (h : rn_pres K f f') (h1 : K 1) (hQ : rn_Pr f σ ra pa) : rn_Pr f' σ ra pa := fun j hj => h _ _ (hQ j hj) h1
theorem rn_pres.fi {K : Nat → Prop} {f f' : rn_T} {σ : rn_St} {fa : Nat → Nat} (h : rn_pres K f f') (h0 : K 0) (hI : rn_Fi f σ fa) : rn_Fi f' σ fa := fun j hj => h _ _ (hI j hj) h0
theorem rn_A_up {f g : rn_T} {sz a : Nat} (e : Option va_E) (h : ∀ x, g x ≠ none → rn_A f sz x) (ha : rn_A f sz a) : ∀ x, va_up g a e x ≠ none → rn_A f sz x := by
  intro x hx
  by_cases he : x = a
  · rw [he]; exact ha
  · rw [rn_up_ne _ _ he] at hx; exact h x hx
theorem rn_A_in {f : rn_T} {sz a : Nat} {e : va_E} (h : f a = some e) : rn_A f sz a := Or.inl (by rw [h]; exact fun z => nomatch z)
theorem rn_row_up {n : Nat} (ra : Nat → Nat) (q : Nat) : va_up (rn_row n ra) n (some q) = rn_row (n + 1) (va_up ra n q) := by
  funext i
  by_cases h : i = n
  · subst h; simp [va_up, rn_row]
  · rw [rn_up_ne _ _ h]
    by_cases h2 : i < n
    · rw [rn_row_in h2, rn_row_in (by omega), rn_up_ne _ _ h]
    · rw [rn_row_out (by omega), rn_row_out (by omega)]
/-- what a call that goes well leaves behind -/
def rn_P (D : va_G) (cR cP cF : ClassId) (h0 : Nat) (f : rn_T) (sz : Nat) (σ : rn_St) (H : Heap) : Prop := ∃ f' : rn_T, rn_C cR cP cF h0 f' σ ∧ rn_S D f' H ∧ ∀ x, f' x ≠ none → rn_A f sz x
section CI
variable {cR cP cF : ClassId} {h0 aR aP aF : Nat} {ra pa fa : Nat → Nat} {hd : Nat → Option Nat} {dh : Option Nat} {f : rn_T} {σ : rn_St} {D : va_G} {sz : Nat} {H : Heap}
abbrev rn_house (aR aP aF : Nat) (n pn fn : Int32) (dh : Option Nat) (rc la : Int32) : va_E := .inr (4, [.ref aR, .int n, .ref aP, .int pn, .ref aF, .int fn, va_rf dh, .int rc, .int la])
/-- an update of the house's own object -/
theorem rn_CI.house {σ' : rn_St} {dh' : Option Nat} (h : rn_CI cR cP cF h0 aR aP aF ra pa fa hd dh f σ) (e1 : σ'.sn = σ.sn ∧ σ'.so = σ.so ∧ σ'.sw = σ.sw ∧ σ'.sm = σ.sm) (e2 : σ'.2.1 = σ.2.1) (e3 : σ'.2.2.1 = σ.2.2.1) (hch : rn_ch f σ'.sd dh') :
    rn_CI cR cP cF h0 aR aP aF ra pa fa hd dh' (va_up f h0 (some (rn_house aR aP aF (nI σ.sn) (nI σ.pn) (nI σ.fn) dh' σ'.rc σ'.la))) σ' := by
  obtain ⟨⟨hh, hr, hp, hfi⟩, hR, hQ, hI, hd0, i1, i2⟩ := h
  obtain ⟨⟨n, o, w, mm, d⟩, P, F, C⟩ := σ
  obtain ⟨⟨n', o', w', mm', d'⟩, P', F', C'⟩ := σ'
  obtain ⟨rfl, rfl, rfl, rfl⟩ := e1
  dsimp only at e2 e3
  subst e2; subst e3
  have hkd := rn_kd_of hh
  have hp4 : rn_pres (fun k => k ≠ 4) f (va_up f h0 (some (rn_house aR aP aF (nI (rn_St.sn ((n', o', w', mm', d), P', F', C))) (nI (rn_St.pn ((n', o', w', mm', d), P', F', C))) (nI (rn_St.fn ((n', o', w', mm', d), P', F', C))) dh' (rn_St.rc ((n', o', w', mm', d'), P', F', C')) (rn_St.la ((n', o', w', mm', d'), P', F', C'))))) := rn_pres_up _ hkd (by simp [rn_kind])
  refine ⟨⟨rn_up_eq _ _ _, hp4 _ _ hr (by simp [rn_kind]), hp4 _ _ hp (by simp [rn_kind]), hp4 _ _ hfi (by simp [rn_kind])⟩, hp4.rm (by simp) (by simp) hR, hp4.pr (by simp) hQ, hp4.fi (by simp) hI, hp4.ch (by simp) _ _ hch, i1, i2⟩
/-- an update of one process -/
theorem rn_CI.proc {j r u : Nat} {k : Int32} (h : rn_CI cR cP cF h0 aR aP aF ra pa fa hd dh f σ) (hj : j < σ.pn) :
    rn_CI cR cP cF h0 aR aP aF ra pa fa hd dh (va_up f (pa j) (some (.inr (1, [.ref (ra r), .int (nI u), .int k])))) (rn_proc σ j r u k) := by
  obtain ⟨⟨hh, hr, hp, hfi⟩, hR, hQ, hI, hd0, i1, i2⟩ := h
  have hkd := rn_kd_of (hQ j hj)
  have hp1 : rn_pres (fun k => k ≠ 1) f (va_up f (pa j) (some (.inr (1, [.ref (ra r), .int (nI u), .int k])))) := rn_pres_up _ hkd (by simp [rn_kind])
  refine ⟨⟨hp1 _ _ hh (by simp [rn_kind]), hp1 _ _ hr (by simp [rn_kind]), hp1 _ _ hp (by simp [rn_kind]), hp1 _ _ hfi (by simp [rn_kind])⟩, hp1.rm (by simp) (by simp) hR, ?_, hp1.fi (by simp) hI, hp1.ch (by simp) _ _ hd0, i1, i2⟩
  intro i hi
  have hi' : i < σ.pn := hi
  by_cases e : i = j
  · subst e
    rw [rn_up_eq]
    show _ = some (Sum.inr (1, [Value.ref (ra (va_up σ.pl i r i)), Value.int (nI (va_up σ.pu i u i)), Value.int (va_up σ.pr i k i)]))
    rw [rn_up_eq, rn_up_eq, rn_up_eq]
  · rw [rn_up_ne _ _ (fun q => e (i1 i j hi' hj q))]
    show _ = some (Sum.inr (1, [Value.ref (ra (va_up σ.pl j r i)), Value.int (nI (va_up σ.pu j u i)), Value.int (va_up σ.pr j k i)]))
    rw [rn_up_ne _ _ e, rn_up_ne _ _ e, rn_up_ne _ _ e]
    exact hQ i hi'
/-- an update of one file's owner -/
theorem rn_CI.file {j y : Nat} (h : rn_CI cR cP cF h0 aR aP aF ra pa fa hd dh f σ) (hj : j < σ.fn) :
    rn_CI cR cP cF h0 aR aP aF ra pa fa hd dh (va_up f (fa j) (some (.inr (0, [.int (nI y), .int (σ.fm j)])))) (rn_hand σ j y) := by
  obtain ⟨⟨hh, hr, hp, hfi⟩, hR, hQ, hI, hd0, i1, i2⟩ := h
  have hkd := rn_kd_of (hI j hj)
  have hp1 : rn_pres (fun k => k ≠ 0) f (va_up f (fa j) (some (.inr (0, [.int (nI y), .int (σ.fm j)])))) := rn_pres_up _ hkd (by simp [rn_kind])
  refine ⟨⟨hp1 _ _ hh (by simp [rn_kind]), hp1 _ _ hr (by simp [rn_kind]), hp1 _ _ hp (by simp [rn_kind]), hp1 _ _ hfi (by simp [rn_kind])⟩, hp1.rm (by simp) (by simp) hR, hp1.pr (by simp) hQ, ?_, hp1.ch (by simp) _ _ hd0, i1, i2⟩
  intro i hi
  have hi' : i < σ.fn := hi
  by_cases e : i = j
  · subst e
    rw [rn_up_eq]
    show _ = some (Sum.inr (0, [Value.int (nI (va_up σ.fo i y i)), Value.int (σ.fm i)]))
    rw [rn_up_eq]
  · rw [rn_up_ne _ _ (fun q => e (i2 i j hi' hj q))]
    show _ = some (Sum.inr (0, [Value.int (nI (va_up σ.fo j y i)), Value.int (σ.fm i)]))
    rw [rn_up_ne _ _ e]
    exact hI i hi'
/-- a room's map -/
theorem rn_CI.map {r : Nat} {z : Option Nat} (h : rn_CI cR cP cF h0 aR aP aF ra pa fa hd dh f σ) (hV : rn_V σ) (hr0 : r < σ.sn) {ls9 : List rn_Ln} (hch : rn_ch f ls9 z) :
    rn_CI cR cP cF h0 aR aP aF ra pa fa (va_up hd r z) dh (va_up f (ra r) (some (.inr (3, [.int (nI r), va_rf (rn_ot σ ra r), .int (σ.sw r), va_rf z])))) ((σ.sn, σ.so, σ.sw, va_up σ.sm r ls9, σ.sd), σ.2.1, σ.2.2.1, σ.2.2.2) := by
  obtain ⟨⟨hh, hr, hp, hfi⟩, hR, hQ, hI, hd0, i1, i2⟩ := h
  have hkd := rn_kd_of (hR.1 r hr0)
  have hp1 : rn_pres (fun k => k ≠ 3) f (va_up f (ra r) (some (.inr (3, [.int (nI r), va_rf (rn_ot σ ra r), .int (σ.sw r), va_rf z])))) := rn_pres_up _ hkd (by simp [rn_kind])
  refine ⟨⟨hp1 _ _ hh (by simp [rn_kind]), hp1 _ _ hr (by simp [rn_kind]), hp1 _ _ hp (by simp [rn_kind]), hp1 _ _ hfi (by simp [rn_kind])⟩, ⟨?_, ?_⟩, hp1.pr (by simp) hQ, hp1.fi (by simp) hI, hp1.ch (by simp) _ _ hd0, i1, i2⟩
  · intro i hi
    have hi' : i < σ.sn := hi
    by_cases e : i = r
    · subst e
      rw [rn_up_eq, rn_up_eq]
      rfl
    · rw [rn_up_ne _ _ (fun q => e (rn_ra_inj hV hR hi' hr0 q)), rn_up_ne _ _ e]
      exact hR.1 i hi'
  · intro i hi
    have hi' : i < σ.sn := hi
    show rn_ch _ (va_up σ.sm r ls9 i) _
    by_cases e : i = r
    · subst e
      rw [rn_up_eq, rn_up_eq]
      exact hp1.ch (by simp) _ _ hch
    · rw [rn_up_ne _ _ e, rn_up_ne _ _ e]
      exact hp1.ch (by simp) _ _ (hR.2 i hi')
end CI
