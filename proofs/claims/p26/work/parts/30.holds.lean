/-! WHAT IS SEEN LEADS BACK, AND THE OTHER WAY ROUND; RIGHTS -/
theorem rn_m1toInt : (-1 : Int32).toInt = -1 := by decide
theorem rn_nImlt {a : Nat} (ha : a < 2 ^ 31) : ¬ nI a < -1 := fun h => by
  rw [rn_lt, nI_toInt ha, rn_m1toInt] at h
  omega
theorem rn_nIgt {a b : Nat} (ha : a < 2 ^ 31) (hb : b < 2 ^ 31) (h : a ≤ b) : ¬ nI b < nI a := fun h2 => by
  have := (nI_ltI hb ha).mp h2
  omega
theorem rn_hold1 {σ : rn_St} (hV : rn_V σ) {K u : Nat} (hK : K < σ.sn) (hu : u ≤ 998) : ∃ O I : Int32, rn_enc (rn_lead σ K u) = O ∧ nI (rn_see σ K u) = I ∧ (¬ O < -1) ∧ (¬ 998 < O) ∧ (¬ O < 0 → ∃ o, o ≤ 998 ∧ O = nI o ∧ rn_see σ K o = u) ∧ (¬ I < 0) ∧ (¬ 999 < I) ∧ (¬ I = 999 → ∃ x, x ≤ 998 ∧ I = nI x ∧ rn_lead σ K x = some u) ∧ (K = 0 → O = nI u ∧ I = nI u) := by
  refine ⟨_, _, rfl, rfl, ?_, ?_, ?_, ?_, ?_, ?_, ?_⟩
  · cases h : rn_lead σ K u with
    | none => exact (by decide : ¬ (-1 : Int32) < -1)
    | some o => exact rn_nImlt (by have := rn_lead_in hV K K (Nat.le_refl _) hK u o hu h; omega)
  · cases h : rn_lead σ K u with
    | none => exact (by decide : ¬ (998 : Int32) < -1)
    | some o => exact rn_nIgt (b := 998) (by have := rn_lead_in hV K K (Nat.le_refl _) hK u o hu h; omega) (by omega) (rn_lead_in hV K K (Nat.le_refl _) hK u o hu h)
  · intro h0
    cases h : rn_lead σ K u with
    | none => rw [h] at h0; exact absurd (by decide : (-1 : Int32) < 0) h0
    | some o => exact ⟨o, rn_lead_in hV K K (Nat.le_refl _) hK u o hu h, rfl, rn_see_uniq hV hK (by omega) h⟩
  · exact nI_pos (by have := rn_see_le σ K u; omega)
  · exact rn_nIgt (b := 999) (by have := rn_see_le σ K u; omega) (by omega) (rn_see_le σ K u)
  · intro h0
    rcases rn_see_spec σ K u with ⟨h1, h2⟩ | ⟨h1, _⟩
    · exact ⟨_, by omega, rfl, h2⟩
    · exact absurd (by rw [h1]; rfl) h0
  · intro h0
    subst h0
    exact ⟨rfl, by rw [rn_see_0 σ hV hu]⟩
theorem rn_hold2 {σ : rn_St} (hV : rn_V σ) {K : Nat} (hK : K < σ.sn) : ¬ nI K ≤ rn_enc (rn_nx σ K) := by
  have hs := hV.1.2
  unfold rn_nx
  by_cases h : K = 0
  · subst h; exact (by decide : ¬ (0 : Int32) ≤ -1)
  · rw [if_neg h]
    have h3 := hV.2.1 K (by omega) hK
    intro h4
    have := (nI_leI (by omega) (by omega)).mp h4
    omega
theorem rn_enc_nx {σ : rn_St} {K : Nat} (h : ¬ K = 0) : rn_enc (rn_nx σ K) = nI (σ.so K) := by unfold rn_nx; rw [if_neg h]; rfl
theorem rn_nI0' {K : Nat} (hK : K < 2 ^ 31) (h : nI K = 0) : K = 0 := (nI_eq (b := 0) hK (by decide)).mp h
theorem rn_hold3 {σ : rn_St} (hV : rn_V σ) {K : Nat} (hK : K < σ.sn) (h : ¬ nI K = 0) : ¬ rn_enc (rn_nx σ K) < 0 := by
  have hs := hV.1.2
  have h0 : ¬ K = 0 := fun e => h (by rw [e]; rfl)
  have h3 := hV.2.1 K (by omega) hK
  rw [rn_enc_nx h0]
  exact nI_pos (by omega)
theorem rn_hold4 {σ : rn_St} (j i : Nat) : rn_held σ j i = 0 ∨ rn_held σ j i = σ.pr j ∨ rn_held σ j i = 15 := by
  unfold rn_held
  split
  · exact Or.inr (Or.inr rfl)
  · split
    · exact Or.inr (Or.inl rfl)
    · exact Or.inl rfl
theorem rn_and16 : ∀ a : Fin 16, (15 : Int32) &&& nI a.1 = nI a.1 := by decide +kernel
theorem rn_hold5 {σ : rn_St} (hV : rn_V σ) (hq : rn_Q σ) {j i : Nat} (hj : j < σ.pn) (hi : i < σ.sn) (h0 : ¬ i = 0) : rn_held σ j i &&& rn_held σ j (σ.so i) = rn_held σ j (σ.so i) := by
  have hup := rn_up_s hV h0 hi
  obtain ⟨k, hk, hk2⟩ := hq j hj
  have h15 : (15 : Int32) &&& σ.pr j = σ.pr j := by rw [hk2]; exact rn_and16 ⟨k, by omega⟩
  have hsub : ∀ a, a ∈ rn_up σ (σ.so i) → a ∈ rn_up σ i := fun a ha => by rw [hup]; exact List.mem_cons_of_mem _ ha
  by_cases ho : rn_owns σ j (σ.so i) = true
  · have ho2 : rn_owns σ j i = true := by
      unfold rn_owns at ho ⊢
      obtain ⟨a, ha, hb⟩ := List.any_eq_true.mp ho
      exact List.any_eq_true.mpr ⟨a, hsub a ha, hb⟩
    unfold rn_held
    rw [if_pos ho, if_pos ho2]; decide
  · by_cases hm : σ.pl j ∈ rn_up σ (σ.so i)
    · have e1 : rn_held σ j (σ.so i) = σ.pr j := by unfold rn_held; rw [if_neg ho, if_pos hm]
      have e2 : rn_held σ j i = 15 ∨ rn_held σ j i = σ.pr j := by
        unfold rn_held
        split
        · exact Or.inl rfl
        · rw [if_pos (hsub _ hm)]; exact Or.inr rfl
      rcases e2 with e2 | e2
      · rw [e1, e2, h15]
      · rw [e1, e2]; exact Int32.and_self
    · have e1 : rn_held σ j (σ.so i) = 0 := by unfold rn_held; rw [if_neg ho, if_neg hm]
      rw [e1]; exact Int32.and_zero
theorem rn_15gt {r : Nat} (h : r ≤ 15) : ¬ 15 < nI r := rn_nIgt (b := 15) (by omega) (by omega) h
theorem rn_998gt {r : Nat} (h : r ≤ 998) : ¬ 998 < nI r := rn_nIgt (b := 998) (by omega) (by omega) h

theorem rn_nIlt8 {a : Nat} (h : ¬ (8 : Int32) ≤ nI a) : a < 2 ^ 31 → a < 8 := fun ha => Nat.not_le.mp (fun h2 => h ((nI_leI (a := 8) (by decide) ha).mpr h2))
theorem rn_nIlt12 {a : Nat} (h : ¬ (12 : Int32) ≤ nI a) (ha : a < 2 ^ 31) : a < 12 := Nat.not_le.mp (fun h2 => h ((nI_leI (a := 12) (by decide) ha).mpr h2))

set_option maxHeartbeats 4000000 in
set_option maxRecDepth 100000 in
theorem a_holds (l : Launch) {D : va_G} {cR cP cF : ClassId} {h0 aR aP aF : Nat} {ra pa fa : Nat → Nat} {hd : Nat → Option Nat} {dh : Option Nat} {f : rn_T} {σ : rn_St} (hV : rn_V σ) (hC : rn_CI cR cP cF h0 aR aP aF ra pa fa hd dh f σ) (hq : rn_Q σ) {X : Nat} (hX : X < 2 ^ 31) : rn_R l yL_holds wsL_holds ({ frames := 9, cells := 0, slots := 0, locals := 170 } : Room) D (rn_tys cR cP cF) (rn_S D f) [.ref h0, .int (nI X)] (some (.int 1)) := by
  refine rn_R.ofW (cc := cL_holds) (maxL := 9) (ret := (some .boolean)) (by decide) rfl (Nat.le_of_ble_eq_true rfl) (fun p e s m below meth c ls hx hb hr hml hts hown hlocks hF hG hl => ?_)
  have hl : lv_has ls 9 [(0, .ref h0), (1, .int (nI X))] := hl
  have hp1 : 1 ≤ σ.pn := hV.2.2.2.2.2.1.1
  have hp2 : σ.pn ≤ 12 := hV.2.2.2.2.2.1.2.1
  have hs1 : 1 ≤ σ.sn := hV.1.1
  have hs2 : σ.sn ≤ 10 := hV.1.2
  have h14 : X % 14 ≤ 998 := by omega
  have p226 : ∀ (n K : Nat), σ.pn ≤ K + n → K ≤ σ.pn → ∀ (ls : Array Slot), lv_has ls 9 [(3, .int (nI K)), (2, .int 1), (0, .ref h0), (1, .int (nI X))] → W p l e ({ frames := 9, cells := 0, slots := 0, locals := 170 } : Room) s m ([.ref h0, .int (nI X)] : List Value).toArray below meth c s.heap [] 0 0 (MQ below (fun _ st o t => o = .returned (some (.int 1)) ∧ t.heap = st.heap) ([.ref h0, .int (nI X)] : List Value).toArray s 0 0 (fun _ => False)) (F0 m 226 ls []) := by
    intro n
    induction n with
    | zero =>
      intro K h1 h2 ls hl
      refine lv_iload_n hx hb dL_holds_226 rfl (lv_at hl 0 rfl) ?_
      refine lv_aload_n hx hb dL_holds_227 rfl (lv_at hl 2 rfl) ?_
      refine rn_cV (As := []) (rest := [.int (nI K)]) 0 hx hb hml hown hts hG (c_processes l hV hC ) gL_holds_X4_processes rfl ⟨rfl, rfl⟩ (by decide +kernel) ⟨Nat.le_of_ble_eq_true rfl, Nat.le_of_ble_eq_true rfl⟩ hF (hF _ _ hC.1.1) rfl rfl hl.1 rfl (Nat.le_of_ble_eq_true rfl) ⟨Nat.zero_le _, Nat.zero_le _⟩ dL_holds_228 ?_
      refine W.eq (g2 := F0 m 231 ls [.int (nI σ.pn), .int (nI K)]) rfl ?_
      refine lv_icmp_ge (tgt := 410) hx hb dL_holds_231 (by decide) (fun c_231 => ?_) (fun c_231 => ?_)
      · refine lv_iload_n hx hb dL_holds_410 rfl (lv_at hl 1 rfl) ?_
        exact rn_iret hx hb hr rfl hlocks rfl dL_holds_411
      · exact absurd (rn_nInle (by omega) (by omega) c_231) (by omega)
    | succ n ihK =>
      intro K h1 h2 ls hl
      refine lv_iload_n hx hb dL_holds_226 rfl (lv_at hl 0 rfl) ?_
      refine lv_aload_n hx hb dL_holds_227 rfl (lv_at hl 2 rfl) ?_
      refine rn_cV (As := []) (rest := [.int (nI K)]) 0 hx hb hml hown hts hG (c_processes l hV hC ) gL_holds_X4_processes rfl ⟨rfl, rfl⟩ (by decide +kernel) ⟨Nat.le_of_ble_eq_true rfl, Nat.le_of_ble_eq_true rfl⟩ hF (hF _ _ hC.1.1) rfl rfl hl.1 rfl (Nat.le_of_ble_eq_true rfl) ⟨Nat.zero_le _, Nat.zero_le _⟩ dL_holds_228 ?_
      refine W.eq (g2 := F0 m 231 ls [.int (nI σ.pn), .int (nI K)]) rfl ?_
      refine lv_icmp_ge (tgt := 410) hx hb dL_holds_231 (by decide) (fun c_231 => ?_) (fun c_231 => ?_)
      · refine lv_iload_n hx hb dL_holds_410 rfl (lv_at hl 1 rfl) ?_
        exact rn_iret hx hb hr rfl hlocks rfl dL_holds_411
      · have hK := rn_nInle (by omega) (by omega) c_231
        obtain ⟨r, hr15, er⟩ := hq K hK
        have hpl := (hV.2.2.2.2.2.1.2.2 K hK).1
        have hpu := (hV.2.2.2.2.2.1.2.2 K hK).2
        have p308 : ∀ (n i : Nat), σ.sn ≤ i + n → i ≤ σ.sn → ∀ (ls : Array Slot), lv_has ls 9 [(6, .int (nI i)), (5, .int (nI r)), (2, .int 1), (3, .int (nI K)), (0, .ref h0), (1, .int (nI X))] → W p l e ({ frames := 9, cells := 0, slots := 0, locals := 170 } : Room) s m ([.ref h0, .int (nI X)] : List Value).toArray below meth c s.heap [] 0 0 (MQ below (fun _ st o t => o = .returned (some (.int 1)) ∧ t.heap = st.heap) ([.ref h0, .int (nI X)] : List Value).toArray s 0 0 (fun _ => False)) (F0 m 308 ls []) := by
          intro n
          induction n with
          | zero =>
            intro i h1 h2 ls hl
            refine lv_iload hx hb dL_holds_308 (lv_at hl 0 rfl) ?_
            refine lv_aload_n hx hb dL_holds_310 rfl (lv_at hl 4 rfl) ?_
            refine rn_cV (As := []) (rest := [.int (nI i)]) 0 hx hb hml hown hts hG (c_rooms l hV hC ) gL_holds_X4_rooms rfl ⟨rfl, rfl⟩ (by decide +kernel) ⟨Nat.le_of_ble_eq_true rfl, Nat.le_of_ble_eq_true rfl⟩ hF (hF _ _ hC.1.1) rfl rfl hl.1 rfl (Nat.le_of_ble_eq_true rfl) ⟨Nat.zero_le _, Nat.zero_le _⟩ dL_holds_311 ?_
            refine W.eq (g2 := F0 m 314 ls [.int (nI σ.sn), .int (nI i)]) rfl ?_
            refine lv_icmp_ge (tgt := 404) hx hb dL_holds_314 (by decide) (fun c_314 => ?_) (fun c_314 => ?_)
            · refine lv_iinc (v := (nI (K + 1))) (lv' := [(3, .int (nI (K + 1))), (6, .int (nI i)), (5, .int (nI r)), (2, .int 1), (0, .ref h0), (1, .int (nI X))]) hx hb dL_holds_404 hl (k := 3) rfl (nI_add K 1) (by decide) rfl (fun ls hl => ?_)
              refine lv_goto (tgt := 226) hx hb dL_holds_407 (by decide) ?_
              exact ihK (K + 1) (by omega) (by omega) ls (lv_sub hl [0, 3, 4, 5] rfl)
            · exact absurd (rn_nInle (by omega) (by omega) c_314) (by omega)
          | succ n ihi =>
            intro i h1 h2 ls hl
            refine lv_iload hx hb dL_holds_308 (lv_at hl 0 rfl) ?_
            refine lv_aload_n hx hb dL_holds_310 rfl (lv_at hl 4 rfl) ?_
            refine rn_cV (As := []) (rest := [.int (nI i)]) 0 hx hb hml hown hts hG (c_rooms l hV hC ) gL_holds_X4_rooms rfl ⟨rfl, rfl⟩ (by decide +kernel) ⟨Nat.le_of_ble_eq_true rfl, Nat.le_of_ble_eq_true rfl⟩ hF (hF _ _ hC.1.1) rfl rfl hl.1 rfl (Nat.le_of_ble_eq_true rfl) ⟨Nat.zero_le _, Nat.zero_le _⟩ dL_holds_311 ?_
            refine W.eq (g2 := F0 m 314 ls [.int (nI σ.sn), .int (nI i)]) rfl ?_
            refine lv_icmp_ge (tgt := 404) hx hb dL_holds_314 (by decide) (fun c_314 => ?_) (fun c_314 => ?_)
            · refine lv_iinc (v := (nI (K + 1))) (lv' := [(3, .int (nI (K + 1))), (6, .int (nI i)), (5, .int (nI r)), (2, .int 1), (0, .ref h0), (1, .int (nI X))]) hx hb dL_holds_404 hl (k := 3) rfl (nI_add K 1) (by decide) rfl (fun ls hl => ?_)
              refine lv_goto (tgt := 226) hx hb dL_holds_407 (by decide) ?_
              exact ihK (K + 1) (by omega) (by omega) ls (lv_sub hl [0, 3, 4, 5] rfl)
            · have hi0 := rn_nInle (by omega) (by omega) c_314
              have t357 : ∀ (ls : Array Slot), lv_has ls 9 [(8, .int (rn_enc (rn_nx σ i))), (7, .int (rn_held σ K i)), (6, .int (nI i)), (5, .int (nI r)), (2, .int 1), (3, .int (nI K)), (0, .ref h0), (1, .int (nI X))] → W p l e ({ frames := 9, cells := 0, slots := 0, locals := 170 } : Room) s m ([.ref h0, .int (nI X)] : List Value).toArray below meth c s.heap [] 0 0 (MQ below (fun _ st o t => o = .returned (some (.int 1)) ∧ t.heap = st.heap) ([.ref h0, .int (nI X)] : List Value).toArray s 0 0 (fun _ => False)) (F0 m 357 ls []) := by
                intro ls hl
                refine lv_iload hx hb dL_holds_357 (lv_at hl 2 rfl) ?_
                refine lv_if_eq (tgt := 392) hx hb dL_holds_359 (by decide) (fun c_359 => ?_) (fun c_359 => ?_)
                · refine lv_iconst (v := 1) hx hb dL_holds_392 (by decide) ?_
                  refine lv_goto (tgt := 397) hx hb dL_holds_393 (by decide) ?_
                  refine lv_istore_n (lv' := [(2, .int 1), (8, .int (rn_enc (rn_nx σ i))), (7, .int (rn_held σ K i)), (6, .int (nI i)), (5, .int (nI r)), (3, .int (nI K)), (0, .ref h0), (1, .int (nI X))]) hx hb dL_holds_397 rfl hl (by decide) rfl (fun ls hl => ?_)
                  refine lv_iinc (v := (nI (i + 1))) (lv' := [(6, .int (nI (i + 1))), (2, .int 1), (8, .int (rn_enc (rn_nx σ i))), (7, .int (rn_held σ K i)), (5, .int (nI r)), (3, .int (nI K)), (0, .ref h0), (1, .int (nI X))]) hx hb dL_holds_398 hl (k := 3) rfl (nI_add i 1) (by decide) rfl (fun ls hl => ?_)
                  refine lv_goto (tgt := 308) hx hb dL_holds_401 (by decide) ?_
                  exact ihi (i + 1) (by omega) (by omega) ls (lv_sub hl [0, 4, 1, 5, 6, 7] rfl)
                · have hi9 : ¬ i = 0 := fun e => c_359 (by rw [e]; rfl)
                  have hso := hV.2.1 i (by omega) hi0
                  refine lv_aload_n hx hb dL_holds_362 rfl (lv_at hl 6 rfl) ?_
                  refine lv_iload_n hx hb dL_holds_363 rfl (lv_at hl 5 rfl) ?_
                  refine lv_iload hx hb dL_holds_364 (lv_at hl 0 rfl) ?_
                  refine rn_top (y := .int (nI (σ.so i))) (congrArg Value.int (rn_enc_nx hi9)) ?_
                  refine rn_cSH (As := [.ref h0, .int (nI K), .int (nI (σ.so i))]) (rest := []) 3 hx hb hml hown hts hG (l_rights_o l hV hC hK (Nat.lt_trans hso hi0)) gL_holds_L_rights rfl ⟨rfl, rfl⟩ (by decide +kernel) ⟨Nat.le_of_ble_eq_true rfl, Nat.le_of_ble_eq_true rfl⟩ hF rfl hl.1 rfl (Nat.le_of_ble_eq_true rfl) ⟨Nat.zero_le _, Nat.zero_le _⟩ dL_holds_366 ?_
                  refine W.eq (g2 := F0 m 369 ls [.int (rn_held σ K (σ.so i))]) rfl ?_
                  refine lv_if_eq (tgt := 392) hx hb dL_holds_369 (by decide) (fun c_369 => ?_) (fun c_369 => ?_)
                  · refine lv_iconst (v := 1) hx hb dL_holds_392 (by decide) ?_
                    refine lv_goto (tgt := 397) hx hb dL_holds_393 (by decide) ?_
                    refine lv_istore_n (lv' := [(2, .int 1), (8, .int (rn_enc (rn_nx σ i))), (7, .int (rn_held σ K i)), (6, .int (nI i)), (5, .int (nI r)), (3, .int (nI K)), (0, .ref h0), (1, .int (nI X))]) hx hb dL_holds_397 rfl hl (by decide) rfl (fun ls hl => ?_)
                    refine lv_iinc (v := (nI (i + 1))) (lv' := [(6, .int (nI (i + 1))), (2, .int 1), (8, .int (rn_enc (rn_nx σ i))), (7, .int (rn_held σ K i)), (5, .int (nI r)), (3, .int (nI K)), (0, .ref h0), (1, .int (nI X))]) hx hb dL_holds_398 hl (k := 3) rfl (nI_add i 1) (by decide) rfl (fun ls hl => ?_)
                    refine lv_goto (tgt := 308) hx hb dL_holds_401 (by decide) ?_
                    exact ihi (i + 1) (by omega) (by omega) ls (lv_sub hl [0, 4, 1, 5, 6, 7] rfl)
                  · refine lv_iload hx hb dL_holds_372 (lv_at hl 1 rfl) ?_
                    refine lv_aload_n hx hb dL_holds_374 rfl (lv_at hl 6 rfl) ?_
                    refine lv_iload_n hx hb dL_holds_375 rfl (lv_at hl 5 rfl) ?_
                    refine lv_iload hx hb dL_holds_376 (lv_at hl 0 rfl) ?_
                    refine rn_top (y := .int (nI (σ.so i))) (congrArg Value.int (rn_enc_nx hi9)) ?_
                    refine rn_cSH (As := [.ref h0, .int (nI K), .int (nI (σ.so i))]) (rest := [.int (rn_held σ K i)]) 3 hx hb hml hown hts hG (l_rights_o l hV hC hK (Nat.lt_trans hso hi0)) gL_holds_L_rights rfl ⟨rfl, rfl⟩ (by decide +kernel) ⟨Nat.le_of_ble_eq_true rfl, Nat.le_of_ble_eq_true rfl⟩ hF rfl hl.1 rfl (Nat.le_of_ble_eq_true rfl) ⟨Nat.zero_le _, Nat.zero_le _⟩ dL_holds_378 ?_
                    refine W.eq (g2 := F0 m 381 ls [.int (rn_held σ K (σ.so i)), .int (rn_held σ K i)]) rfl ?_
                    refine lv_iand hx hb dL_holds_381 ?_
                    refine lv_aload_n hx hb dL_holds_382 rfl (lv_at hl 6 rfl) ?_
                    refine lv_iload_n hx hb dL_holds_383 rfl (lv_at hl 5 rfl) ?_
                    refine lv_iload hx hb dL_holds_384 (lv_at hl 0 rfl) ?_
                    refine rn_top (y := .int (nI (σ.so i))) (congrArg Value.int (rn_enc_nx hi9)) ?_
                    refine rn_cSH (As := [.ref h0, .int (nI K), .int (nI (σ.so i))]) (rest := [.int ((rn_held σ K i) &&& (rn_held σ K (σ.so i)))]) 3 hx hb hml hown hts hG (l_rights_o l hV hC hK (Nat.lt_trans hso hi0)) gL_holds_L_rights rfl ⟨rfl, rfl⟩ (by decide +kernel) ⟨Nat.le_of_ble_eq_true rfl, Nat.le_of_ble_eq_true rfl⟩ hF rfl hl.1 rfl (Nat.le_of_ble_eq_true rfl) ⟨Nat.zero_le _, Nat.zero_le _⟩ dL_holds_386 ?_
                    refine W.eq (g2 := F0 m 389 ls [.int (rn_held σ K (σ.so i)), .int ((rn_held σ K i) &&& (rn_held σ K (σ.so i)))]) rfl ?_
                    refine lv_icmp_ne (tgt := 396) hx hb dL_holds_389 (by decide) (fun c_389 => ?_) (fun c_389 => ?_)
                    · exact absurd (rn_hold5 hV hq hK hi0 hi9) c_389
                    · refine lv_iconst (v := 1) hx hb dL_holds_392 (by decide) ?_
                      refine lv_goto (tgt := 397) hx hb dL_holds_393 (by decide) ?_
                      refine lv_istore_n (lv' := [(2, .int 1), (8, .int (rn_enc (rn_nx σ i))), (7, .int (rn_held σ K i)), (6, .int (nI i)), (5, .int (nI r)), (3, .int (nI K)), (0, .ref h0), (1, .int (nI X))]) hx hb dL_holds_397 rfl hl (by decide) rfl (fun ls hl => ?_)
                      refine lv_iinc (v := (nI (i + 1))) (lv' := [(6, .int (nI (i + 1))), (2, .int 1), (8, .int (rn_enc (rn_nx σ i))), (7, .int (rn_held σ K i)), (5, .int (nI r)), (3, .int (nI K)), (0, .ref h0), (1, .int (nI X))]) hx hb dL_holds_398 hl (k := 3) rfl (nI_add i 1) (by decide) rfl (fun ls hl => ?_)
                      refine lv_goto (tgt := 308) hx hb dL_holds_401 (by decide) ?_
                      exact ihi (i + 1) (by omega) (by omega) ls (lv_sub hl [0, 4, 1, 5, 6, 7] rfl)
              refine lv_iload_n hx hb dL_holds_317 rfl (lv_at hl 2 rfl) ?_
              refine lv_if_eq (tgt := 404) hx hb dL_holds_318 (by decide) (fun c_318 => ?_) (fun c_318 => ?_)
              · exact absurd c_318 (by decide)
              · refine lv_aload_n hx hb dL_holds_321 rfl (lv_at hl 4 rfl) ?_
                refine lv_iload_n hx hb dL_holds_322 rfl (lv_at hl 3 rfl) ?_
                refine lv_iload hx hb dL_holds_323 (lv_at hl 0 rfl) ?_
                refine rn_cSH (As := [.ref h0, .int (nI K), .int (nI i)]) (rest := []) 3 hx hb hml hown hts hG (l_rights_o l hV hC hK hi0) gL_holds_L_rights rfl ⟨rfl, rfl⟩ (by decide +kernel) ⟨Nat.le_of_ble_eq_true rfl, Nat.le_of_ble_eq_true rfl⟩ hF rfl hl.1 rfl (Nat.le_of_ble_eq_true rfl) ⟨Nat.zero_le _, Nat.zero_le _⟩ dL_holds_325 ?_
                refine W.eq (g2 := F0 m 328 ls [.int (rn_held σ K i)]) rfl ?_
                refine lv_istore (lv' := [(7, .int (rn_held σ K i)), (6, .int (nI i)), (5, .int (nI r)), (2, .int 1), (3, .int (nI K)), (0, .ref h0), (1, .int (nI X))]) hx hb dL_holds_328 hl (by decide) rfl (fun ls hl => ?_)
                refine lv_aload_n hx hb dL_holds_330 rfl (lv_at hl 5 rfl) ?_
                refine lv_iload hx hb dL_holds_331 (lv_at hl 1 rfl) ?_
                refine rn_cSH (As := [.ref h0, .int (nI i)]) (rest := []) 2 hx hb hml hown hts hG (l_outer_o l hV hC hi0) gL_holds_L_outer rfl ⟨rfl, rfl⟩ (by decide +kernel) ⟨Nat.le_of_ble_eq_true rfl, Nat.le_of_ble_eq_true rfl⟩ hF rfl hl.1 rfl (Nat.le_of_ble_eq_true rfl) ⟨Nat.zero_le _, Nat.zero_le _⟩ dL_holds_333 ?_
                refine W.eq (g2 := F0 m 336 ls [.int (rn_enc (rn_nx σ i))]) rfl ?_
                refine lv_istore (lv' := [(8, .int (rn_enc (rn_nx σ i))), (7, .int (rn_held σ K i)), (6, .int (nI i)), (5, .int (nI r)), (2, .int 1), (3, .int (nI K)), (0, .ref h0), (1, .int (nI X))]) hx hb dL_holds_336 hl (by decide) rfl (fun ls hl => ?_)
                refine lv_iload hx hb dL_holds_338 (lv_at hl 1 rfl) ?_
                refine lv_if_eq (tgt := 357) hx hb dL_holds_340 (by decide) (fun c_340 => ?_) (fun c_340 => ?_)
                · exact t357 ls (lv_sub hl [0, 1, 2, 3, 4, 5, 6, 7] rfl)
                · refine lv_iload hx hb dL_holds_343 (lv_at hl 1 rfl) ?_
                  refine lv_iload hx hb dL_holds_345 (lv_at hl 3 rfl) ?_
                  refine lv_icmp_eq (tgt := 357) hx hb dL_holds_347 (by decide) (fun c_347 => ?_) (fun c_347 => ?_)
                  · exact t357 ls (lv_sub hl [0, 1, 2, 3, 4, 5, 6, 7] rfl)
                  · refine lv_iload hx hb dL_holds_350 (lv_at hl 1 rfl) ?_
                    refine lv_bipush (v := 15) hx hb dL_holds_352 (by decide +kernel) ?_
                    refine lv_icmp_ne (tgt := 396) hx hb dL_holds_354 (by decide) (fun c_354 => ?_) (fun c_354 => ?_)
                    · exact ((rn_hold4 (σ := σ) K i).elim c_340 (fun h => h.elim (fun h => c_347 (h.trans er)) c_354)).elim
                    · exact t357 ls (lv_sub hl [0, 1, 2, 3, 4, 5, 6, 7] rfl)
        refine lv_iload_n hx hb dL_holds_234 rfl (lv_at hl 1 rfl) ?_
        refine lv_if_eq (tgt := 410) hx hb dL_holds_235 (by decide) (fun c_235 => ?_) (fun c_235 => ?_)
        · exact absurd c_235 (by decide)
        · refine lv_aload_n hx hb dL_holds_238 rfl (lv_at hl 2 rfl) ?_
          refine lv_iload_n hx hb dL_holds_239 rfl (lv_at hl 0 rfl) ?_
          refine rn_cSH (As := [.ref h0, .int (nI K)]) (rest := []) 2 hx hb hml hown hts hG (l_room_o l hV hC hK) gL_holds_L_room rfl ⟨rfl, rfl⟩ (by decide +kernel) ⟨Nat.le_of_ble_eq_true rfl, Nat.le_of_ble_eq_true rfl⟩ hF rfl hl.1 rfl (Nat.le_of_ble_eq_true rfl) ⟨Nat.zero_le _, Nat.zero_le _⟩ dL_holds_240 ?_
          refine W.eq (g2 := F0 m 243 ls [.int (nI (σ.pl K))]) rfl ?_
          refine lv_istore (lv' := [(4, .int (nI (σ.pl K))), (3, .int (nI K)), (2, .int 1), (0, .ref h0), (1, .int (nI X))]) hx hb dL_holds_243 hl (by decide) rfl (fun ls hl => ?_)
          refine lv_aload_n hx hb dL_holds_245 rfl (lv_at hl 3 rfl) ?_
          refine lv_iload_n hx hb dL_holds_246 rfl (lv_at hl 1 rfl) ?_
          refine lv_iload hx hb dL_holds_247 (lv_at hl 0 rfl) ?_
          refine rn_cSH (As := [.ref h0, .int (nI K), .int (nI (σ.pl K))]) (rest := []) 3 hx hb hml hown hts hG (l_rights_o l hV hC hK (hV.2.2.2.2.2.1.2.2 K hK).1) gL_holds_L_rights rfl ⟨rfl, rfl⟩ (by decide +kernel) ⟨Nat.le_of_ble_eq_true rfl, Nat.le_of_ble_eq_true rfl⟩ hF rfl hl.1 rfl (Nat.le_of_ble_eq_true rfl) ⟨Nat.zero_le _, Nat.zero_le _⟩ dL_holds_249 ?_
          refine W.eq (g2 := F0 m 252 ls [.int (rn_held σ K (σ.pl K))]) rfl ?_
          refine rn_top (y := .int (nI r)) (congrArg Value.int ((rn_held_own hV hK).trans er)) ?_
          refine lv_istore (lv' := [(5, .int (nI r)), (4, .int (nI (σ.pl K))), (3, .int (nI K)), (2, .int 1), (0, .ref h0), (1, .int (nI X))]) hx hb dL_holds_252 hl (by decide) rfl (fun ls hl => ?_)
          refine lv_iload hx hb dL_holds_254 (lv_at hl 1 rfl) ?_
          refine lv_if_lt (tgt := 303) hx hb dL_holds_256 (by decide) (fun c_256 => ?_) (fun c_256 => ?_)
          · exact absurd c_256 (nI_pos (by omega))
          · refine lv_iload hx hb dL_holds_259 (lv_at hl 1 rfl) ?_
            refine lv_aload_n hx hb dL_holds_261 rfl (lv_at hl 4 rfl) ?_
            refine rn_cV (As := []) (rest := [.int (nI (σ.pl K))]) 0 hx hb hml hown hts hG (c_rooms l hV hC ) gL_holds_X4_rooms rfl ⟨rfl, rfl⟩ (by decide +kernel) ⟨Nat.le_of_ble_eq_true rfl, Nat.le_of_ble_eq_true rfl⟩ hF (hF _ _ hC.1.1) rfl rfl hl.1 rfl (Nat.le_of_ble_eq_true rfl) ⟨Nat.zero_le _, Nat.zero_le _⟩ dL_holds_262 ?_
            refine W.eq (g2 := F0 m 265 ls [.int (nI σ.sn), .int (nI (σ.pl K))]) rfl ?_
            refine lv_icmp_ge (tgt := 303) hx hb dL_holds_265 (by decide) (fun c_265 => ?_) (fun c_265 => ?_)
            · exact absurd (rn_nIle (by omega) (by omega) c_265) (by omega)
            · refine lv_iload hx hb dL_holds_268 (lv_at hl 0 rfl) ?_
              refine lv_if_lt (tgt := 303) hx hb dL_holds_270 (by decide) (fun c_270 => ?_) (fun c_270 => ?_)
              · exact absurd c_270 (nI_pos (by omega))
              · refine lv_iload hx hb dL_holds_273 (lv_at hl 0 rfl) ?_
                refine lv_bipush (v := 15) hx hb dL_holds_275 (by decide +kernel) ?_
                refine lv_icmp_gt (tgt := 303) hx hb dL_holds_277 (by decide) (fun c_277 => ?_) (fun c_277 => ?_)
                · exact absurd c_277 (rn_15gt hr15)
                · refine lv_aload_n hx hb dL_holds_280 rfl (lv_at hl 4 rfl) ?_
                  refine lv_iload_n hx hb dL_holds_281 rfl (lv_at hl 2 rfl) ?_
                  refine rn_cSH (As := [.ref h0, .int (nI K)]) (rest := []) 2 hx hb hml hown hts hG (l_number_o l hV hC hK) gL_holds_L_number rfl ⟨rfl, rfl⟩ (by decide +kernel) ⟨Nat.le_of_ble_eq_true rfl, Nat.le_of_ble_eq_true rfl⟩ hF rfl hl.1 rfl (Nat.le_of_ble_eq_true rfl) ⟨Nat.zero_le _, Nat.zero_le _⟩ dL_holds_282 ?_
                  refine W.eq (g2 := F0 m 285 ls [.int (nI (σ.pu K))]) rfl ?_
                  refine lv_if_lt (tgt := 303) hx hb dL_holds_285 (by decide) (fun c_285 => ?_) (fun c_285 => ?_)
                  · exact absurd c_285 (nI_pos (by omega))
                  · refine lv_aload_n hx hb dL_holds_288 rfl (lv_at hl 4 rfl) ?_
                    refine lv_iload_n hx hb dL_holds_289 rfl (lv_at hl 2 rfl) ?_
                    refine rn_cSH (As := [.ref h0, .int (nI K)]) (rest := []) 2 hx hb hml hown hts hG (l_number_o l hV hC hK) gL_holds_L_number rfl ⟨rfl, rfl⟩ (by decide +kernel) ⟨Nat.le_of_ble_eq_true rfl, Nat.le_of_ble_eq_true rfl⟩ hF rfl hl.1 rfl (Nat.le_of_ble_eq_true rfl) ⟨Nat.zero_le _, Nat.zero_le _⟩ dL_holds_290 ?_
                    refine W.eq (g2 := F0 m 293 ls [.int (nI (σ.pu K))]) rfl ?_
                    refine lv_sipush (v := 998) hx hb dL_holds_293 (by decide +kernel) ?_
                    refine lv_icmp_gt (tgt := 303) hx hb dL_holds_296 (by decide) (fun c_296 => ?_) (fun c_296 => ?_)
                    · exact absurd c_296 (rn_998gt hpu)
                    · refine lv_iconst (v := 1) hx hb dL_holds_299 (by decide) ?_
                      refine lv_goto (tgt := 304) hx hb dL_holds_300 (by decide) ?_
                      refine lv_istore_n (lv' := [(2, .int 1), (5, .int (nI r)), (4, .int (nI (σ.pl K))), (3, .int (nI K)), (0, .ref h0), (1, .int (nI X))]) hx hb dL_holds_304 rfl hl (by decide) rfl (fun ls hl => ?_)
                      refine lv_iconst (v := 0) hx hb dL_holds_305 (by decide) ?_
                      refine lv_istore (lv' := [(6, .int 0), (2, .int 1), (5, .int (nI r)), (4, .int (nI (σ.pl K))), (3, .int (nI K)), (0, .ref h0), (1, .int (nI X))]) hx hb dL_holds_306 hl (by decide) rfl (fun ls hl => ?_)
                      exact p308 σ.sn 0 (by omega) (by omega) ls (lv_sub hl [0, 2, 1, 4, 5, 6] rfl)
  have p4 : ∀ (n K : Nat), σ.sn ≤ K + n → K ≤ σ.sn → ∀ (ls : Array Slot), lv_has ls 9 [(3, .int (nI K)), (2, .int 1), (0, .ref h0), (1, .int (nI X))] → W p l e ({ frames := 9, cells := 0, slots := 0, locals := 170 } : Room) s m ([.ref h0, .int (nI X)] : List Value).toArray below meth c s.heap [] 0 0 (MQ below (fun _ st o t => o = .returned (some (.int 1)) ∧ t.heap = st.heap) ([.ref h0, .int (nI X)] : List Value).toArray s 0 0 (fun _ => False)) (F0 m 4 ls []) := by
    intro n
    induction n with
    | zero =>
      intro K h1 h2 ls hl
      refine lv_iload_n hx hb dL_holds_4 rfl (lv_at hl 0 rfl) ?_
      refine lv_aload_n hx hb dL_holds_5 rfl (lv_at hl 2 rfl) ?_
      refine rn_cV (As := []) (rest := [.int (nI K)]) 0 hx hb hml hown hts hG (c_rooms l hV hC ) gL_holds_X4_rooms rfl ⟨rfl, rfl⟩ (by decide +kernel) ⟨Nat.le_of_ble_eq_true rfl, Nat.le_of_ble_eq_true rfl⟩ hF (hF _ _ hC.1.1) rfl rfl hl.1 rfl (Nat.le_of_ble_eq_true rfl) ⟨Nat.zero_le _, Nat.zero_le _⟩ dL_holds_6 ?_
      refine W.eq (g2 := F0 m 9 ls [.int (nI σ.sn), .int (nI K)]) rfl ?_
      refine lv_icmp_ge (tgt := 224) hx hb dL_holds_9 (by decide) (fun c_9 => ?_) (fun c_9 => ?_)
      · refine lv_iconst (v := 0) hx hb dL_holds_224 (by decide) ?_
        refine lv_istore_n (lv' := [(3, .int 0), (2, .int 1), (0, .ref h0), (1, .int (nI X))]) hx hb dL_holds_225 rfl hl (by decide) rfl (fun ls hl => ?_)
        exact p226 σ.pn 0 (by omega) (by omega) ls (lv_sub hl [0, 1, 2, 3] rfl)
      · exact absurd (rn_nInle (by omega) (by omega) c_9) (by omega)
    | succ n ihK =>
      intro K h1 h2 ls hl
      refine lv_iload_n hx hb dL_holds_4 rfl (lv_at hl 0 rfl) ?_
      refine lv_aload_n hx hb dL_holds_5 rfl (lv_at hl 2 rfl) ?_
      refine rn_cV (As := []) (rest := [.int (nI K)]) 0 hx hb hml hown hts hG (c_rooms l hV hC ) gL_holds_X4_rooms rfl ⟨rfl, rfl⟩ (by decide +kernel) ⟨Nat.le_of_ble_eq_true rfl, Nat.le_of_ble_eq_true rfl⟩ hF (hF _ _ hC.1.1) rfl rfl hl.1 rfl (Nat.le_of_ble_eq_true rfl) ⟨Nat.zero_le _, Nat.zero_le _⟩ dL_holds_6 ?_
      refine W.eq (g2 := F0 m 9 ls [.int (nI σ.sn), .int (nI K)]) rfl ?_
      refine lv_icmp_ge (tgt := 224) hx hb dL_holds_9 (by decide) (fun c_9 => ?_) (fun c_9 => ?_)
      · refine lv_iconst (v := 0) hx hb dL_holds_224 (by decide) ?_
        refine lv_istore_n (lv' := [(3, .int 0), (2, .int 1), (0, .ref h0), (1, .int (nI X))]) hx hb dL_holds_225 rfl hl (by decide) rfl (fun ls hl => ?_)
        exact p226 σ.pn 0 (by omega) (by omega) ls (lv_sub hl [0, 1, 2, 3] rfl)
      · have hK := rn_nInle (by omega) (by omega) c_9
        have t166 : ∀ (ls : Array Slot), lv_has ls 9 [(2, .int 1), (3, .int (nI K)), (0, .ref h0), (1, .int (nI X))] → W p l e ({ frames := 9, cells := 0, slots := 0, locals := 170 } : Room) s m ([.ref h0, .int (nI X)] : List Value).toArray below meth c s.heap [] 0 0 (MQ below (fun _ st o t => o = .returned (some (.int 1)) ∧ t.heap = st.heap) ([.ref h0, .int (nI X)] : List Value).toArray s 0 0 (fun _ => False)) (F0 m 166 ls []) := by
          intro ls hl
          refine lv_iload_n hx hb dL_holds_166 rfl (lv_at hl 0 rfl) ?_
          refine lv_if_eq (tgt := 216) hx hb dL_holds_167 (by decide) (fun c_167 => ?_) (fun c_167 => ?_)
          · exact absurd c_167 (by decide)
          · refine lv_aload_n hx hb dL_holds_170 rfl (lv_at hl 2 rfl) ?_
            refine lv_iload_n hx hb dL_holds_171 rfl (lv_at hl 1 rfl) ?_
            refine rn_cSH (As := [.ref h0, .int (nI K)]) (rest := []) 2 hx hb hml hown hts hG (l_outer_o l hV hC hK) gL_holds_L_outer rfl ⟨rfl, rfl⟩ (by decide +kernel) ⟨Nat.le_of_ble_eq_true rfl, Nat.le_of_ble_eq_true rfl⟩ hF rfl hl.1 rfl (Nat.le_of_ble_eq_true rfl) ⟨Nat.zero_le _, Nat.zero_le _⟩ dL_holds_172 ?_
            refine W.eq (g2 := F0 m 175 ls [.int (rn_enc (rn_nx σ K))]) rfl ?_
            refine lv_iload_n hx hb dL_holds_175 rfl (lv_at hl 1 rfl) ?_
            refine lv_icmp_ge (tgt := 216) hx hb dL_holds_176 (by decide) (fun c_176 => ?_) (fun c_176 => ?_)
            · exact absurd c_176 (rn_hold2 hV hK)
            · refine lv_iload_n hx hb dL_holds_179 rfl (lv_at hl 1 rfl) ?_
              refine lv_if_eq (tgt := 191) hx hb dL_holds_180 (by decide) (fun c_180 => ?_) (fun c_180 => ?_)
              · refine lv_aload_n hx hb dL_holds_191 rfl (lv_at hl 2 rfl) ?_
                refine lv_iload_n hx hb dL_holds_192 rfl (lv_at hl 1 rfl) ?_
                refine lv_iload_n hx hb dL_holds_193 rfl (lv_at hl 3 rfl) ?_
                refine lv_bipush (v := 14) hx hb dL_holds_194 (by decide +kernel) ?_
                refine lv_irem hx hb dL_holds_196 (by decide) ?_
                refine rn_top (y := .int (nI (X % 14))) (congrArg Value.int (pk_rem (d := 14) hX (by decide) (by decide))) ?_
                refine rn_cSH (As := [.ref h0, .int (nI K), .int (nI (X % 14))]) (rest := []) 3 hx hb hml hown hts hG (l_byLeading_o l hV hC hK h14) gL_holds_L_byLeading rfl ⟨rfl, rfl⟩ (by decide +kernel) ⟨Nat.le_of_ble_eq_true rfl, Nat.le_of_ble_eq_true rfl⟩ hF rfl hl.1 rfl (Nat.le_of_ble_eq_true rfl) ⟨Nat.zero_le _, Nat.zero_le _⟩ dL_holds_197 ?_
                refine W.eq (g2 := F0 m 200 ls [.int (nI (rn_see σ K (X % 14)))]) rfl ?_
                refine lv_aload_n hx hb dL_holds_200 rfl (lv_at hl 2 rfl) ?_
                refine lv_iload_n hx hb dL_holds_201 rfl (lv_at hl 1 rfl) ?_
                refine lv_iload_n hx hb dL_holds_202 rfl (lv_at hl 3 rfl) ?_
                refine lv_bipush (v := 14) hx hb dL_holds_203 (by decide +kernel) ?_
                refine lv_irem hx hb dL_holds_205 (by decide) ?_
                refine rn_top (y := .int (nI (X % 14))) (congrArg Value.int (pk_rem (d := 14) hX (by decide) (by decide))) ?_
                refine rn_cSH (As := [.ref h0, .int (nI K), .int (nI (X % 14))]) (rest := [.int (nI (rn_see σ K (X % 14)))]) 3 hx hb hml hown hts hG (l_seen_o l hV hC hK h14) gL_holds_L_seen rfl ⟨rfl, rfl⟩ (by decide +kernel) ⟨Nat.le_of_ble_eq_true rfl, Nat.le_of_ble_eq_true rfl⟩ hF rfl hl.1 rfl (Nat.le_of_ble_eq_true rfl) ⟨Nat.zero_le _, Nat.zero_le _⟩ dL_holds_206 ?_
                refine W.eq (g2 := F0 m 209 ls [.int (nI (rn_see σ K (X % 14))), .int (nI (rn_see σ K (X % 14)))]) rfl ?_
                refine lv_icmp_ne (tgt := 216) hx hb dL_holds_209 (by decide) (fun c_209 => ?_) (fun c_209 => ?_)
                · exact absurd rfl c_209
                · refine lv_iconst (v := 1) hx hb dL_holds_212 (by decide) ?_
                  refine lv_goto (tgt := 217) hx hb dL_holds_213 (by decide) ?_
                  refine lv_istore_n (lv' := [(2, .int 1), (3, .int (nI K)), (0, .ref h0), (1, .int (nI X))]) hx hb dL_holds_217 rfl hl (by decide) rfl (fun ls hl => ?_)
                  refine lv_iinc (v := (nI (K + 1))) (lv' := [(3, .int (nI (K + 1))), (2, .int 1), (0, .ref h0), (1, .int (nI X))]) hx hb dL_holds_218 hl (k := 1) rfl (nI_add K 1) (by decide) rfl (fun ls hl => ?_)
                  refine lv_goto (tgt := 4) hx hb dL_holds_221 (by decide) ?_
                  exact ihK (K + 1) (by omega) (by omega) ls (lv_sub hl [0, 1, 2, 3] rfl)
              · refine lv_aload_n hx hb dL_holds_183 rfl (lv_at hl 2 rfl) ?_
                refine lv_iload_n hx hb dL_holds_184 rfl (lv_at hl 1 rfl) ?_
                refine rn_cSH (As := [.ref h0, .int (nI K)]) (rest := []) 2 hx hb hml hown hts hG (l_outer_o l hV hC hK) gL_holds_L_outer rfl ⟨rfl, rfl⟩ (by decide +kernel) ⟨Nat.le_of_ble_eq_true rfl, Nat.le_of_ble_eq_true rfl⟩ hF rfl hl.1 rfl (Nat.le_of_ble_eq_true rfl) ⟨Nat.zero_le _, Nat.zero_le _⟩ dL_holds_185 ?_
                refine W.eq (g2 := F0 m 188 ls [.int (rn_enc (rn_nx σ K))]) rfl ?_
                refine lv_if_lt (tgt := 216) hx hb dL_holds_188 (by decide) (fun c_188 => ?_) (fun c_188 => ?_)
                · exact absurd c_188 (rn_hold3 hV hK c_180)
                · refine lv_aload_n hx hb dL_holds_191 rfl (lv_at hl 2 rfl) ?_
                  refine lv_iload_n hx hb dL_holds_192 rfl (lv_at hl 1 rfl) ?_
                  refine lv_iload_n hx hb dL_holds_193 rfl (lv_at hl 3 rfl) ?_
                  refine lv_bipush (v := 14) hx hb dL_holds_194 (by decide +kernel) ?_
                  refine lv_irem hx hb dL_holds_196 (by decide) ?_
                  refine rn_top (y := .int (nI (X % 14))) (congrArg Value.int (pk_rem (d := 14) hX (by decide) (by decide))) ?_
                  refine rn_cSH (As := [.ref h0, .int (nI K), .int (nI (X % 14))]) (rest := []) 3 hx hb hml hown hts hG (l_byLeading_o l hV hC hK h14) gL_holds_L_byLeading rfl ⟨rfl, rfl⟩ (by decide +kernel) ⟨Nat.le_of_ble_eq_true rfl, Nat.le_of_ble_eq_true rfl⟩ hF rfl hl.1 rfl (Nat.le_of_ble_eq_true rfl) ⟨Nat.zero_le _, Nat.zero_le _⟩ dL_holds_197 ?_
                  refine W.eq (g2 := F0 m 200 ls [.int (nI (rn_see σ K (X % 14)))]) rfl ?_
                  refine lv_aload_n hx hb dL_holds_200 rfl (lv_at hl 2 rfl) ?_
                  refine lv_iload_n hx hb dL_holds_201 rfl (lv_at hl 1 rfl) ?_
                  refine lv_iload_n hx hb dL_holds_202 rfl (lv_at hl 3 rfl) ?_
                  refine lv_bipush (v := 14) hx hb dL_holds_203 (by decide +kernel) ?_
                  refine lv_irem hx hb dL_holds_205 (by decide) ?_
                  refine rn_top (y := .int (nI (X % 14))) (congrArg Value.int (pk_rem (d := 14) hX (by decide) (by decide))) ?_
                  refine rn_cSH (As := [.ref h0, .int (nI K), .int (nI (X % 14))]) (rest := [.int (nI (rn_see σ K (X % 14)))]) 3 hx hb hml hown hts hG (l_seen_o l hV hC hK h14) gL_holds_L_seen rfl ⟨rfl, rfl⟩ (by decide +kernel) ⟨Nat.le_of_ble_eq_true rfl, Nat.le_of_ble_eq_true rfl⟩ hF rfl hl.1 rfl (Nat.le_of_ble_eq_true rfl) ⟨Nat.zero_le _, Nat.zero_le _⟩ dL_holds_206 ?_
                  refine W.eq (g2 := F0 m 209 ls [.int (nI (rn_see σ K (X % 14))), .int (nI (rn_see σ K (X % 14)))]) rfl ?_
                  refine lv_icmp_ne (tgt := 216) hx hb dL_holds_209 (by decide) (fun c_209 => ?_) (fun c_209 => ?_)
                  · exact absurd rfl c_209
                  · refine lv_iconst (v := 1) hx hb dL_holds_212 (by decide) ?_
                    refine lv_goto (tgt := 217) hx hb dL_holds_213 (by decide) ?_
                    refine lv_istore_n (lv' := [(2, .int 1), (3, .int (nI K)), (0, .ref h0), (1, .int (nI X))]) hx hb dL_holds_217 rfl hl (by decide) rfl (fun ls hl => ?_)
                    refine lv_iinc (v := (nI (K + 1))) (lv' := [(3, .int (nI (K + 1))), (2, .int 1), (0, .ref h0), (1, .int (nI X))]) hx hb dL_holds_218 hl (k := 1) rfl (nI_add K 1) (by decide) rfl (fun ls hl => ?_)
                    refine lv_goto (tgt := 4) hx hb dL_holds_221 (by decide) ?_
                    exact ihK (K + 1) (by omega) (by omega) ls (lv_sub hl [0, 1, 2, 3] rfl)
        have p19 : ∀ (n J : Nat), 12 ≤ J + n → J ≤ 12 → ∀ (ls : Array Slot), lv_has ls 9 [(4, .int (nI J)), (2, .int 1), (3, .int (nI K)), (0, .ref h0), (1, .int (nI X))] → W p l e ({ frames := 9, cells := 0, slots := 0, locals := 170 } : Room) s m ([.ref h0, .int (nI X)] : List Value).toArray below meth c s.heap [] 0 0 (MQ below (fun _ st o t => o = .returned (some (.int 1)) ∧ t.heap = st.heap) ([.ref h0, .int (nI X)] : List Value).toArray s 0 0 (fun _ => False)) (F0 m 19 ls []) := by
          intro n
          induction n with
          | zero =>
            intro J h1 h2 ls hl
            refine lv_iload hx hb dL_holds_19 (lv_at hl 0 rfl) ?_
            refine lv_bipush (v := 12) hx hb dL_holds_21 (by decide +kernel) ?_
            refine lv_icmp_ge (tgt := 166) hx hb dL_holds_23 (by decide) (fun c_23 => ?_) (fun c_23 => ?_)
            · exact t166 ls (lv_sub hl [1, 2, 3, 4] rfl)
            · exact absurd (rn_nIlt12 c_23 (by omega)) (by omega)
          | succ n ihJ =>
            intro J h1 h2 ls hl
            refine lv_iload hx hb dL_holds_19 (lv_at hl 0 rfl) ?_
            refine lv_bipush (v := 12) hx hb dL_holds_21 (by decide +kernel) ?_
            refine lv_icmp_ge (tgt := 166) hx hb dL_holds_23 (by decide) (fun c_23 => ?_) (fun c_23 => ?_)
            · exact t166 ls (lv_sub hl [1, 2, 3, 4] rfl)
            · have hJ := rn_nIlt12 c_23 (by omega)
              have t54 : ∀ (u : Nat), u ≤ 998 → ∀ (ls : Array Slot), lv_has ls 9 [(5, .int (nI u)), (4, .int (nI J)), (2, .int 1), (3, .int (nI K)), (0, .ref h0), (1, .int (nI X))] → W p l e ({ frames := 9, cells := 0, slots := 0, locals := 170 } : Room) s m ([.ref h0, .int (nI X)] : List Value).toArray below meth c s.heap [] 0 0 (MQ below (fun _ st o t => o = .returned (some (.int 1)) ∧ t.heap = st.heap) ([.ref h0, .int (nI X)] : List Value).toArray s 0 0 (fun _ => False)) (F0 m 54 ls []) := by
                intro u hu ls hl
                obtain ⟨O, I, eO, eI, hO1, hO2, hO3, hI1, hI2, hI3, hz⟩ := rn_hold1 hV hK hu
                have t136 : ∀ (ls : Array Slot), lv_has ls 9 [(7, .int I), (6, .int O), (5, .int (nI u)), (4, .int (nI J)), (2, .int 1), (3, .int (nI K)), (0, .ref h0), (1, .int (nI X))] → W p l e ({ frames := 9, cells := 0, slots := 0, locals := 170 } : Room) s m ([.ref h0, .int (nI X)] : List Value).toArray below meth c s.heap [] 0 0 (MQ below (fun _ st o t => o = .returned (some (.int 1)) ∧ t.heap = st.heap) ([.ref h0, .int (nI X)] : List Value).toArray s 0 0 (fun _ => False)) (F0 m 136 ls []) := by
                  intro ls hl
                  refine lv_iload_n hx hb dL_holds_136 rfl (lv_at hl 5 rfl) ?_
                  refine lv_if_gt (tgt := 154) hx hb dL_holds_137 (by decide) (fun c_137 => ?_) (fun c_137 => ?_)
                  · refine lv_iconst (v := 1) hx hb dL_holds_154 (by decide) ?_
                    refine lv_goto (tgt := 159) hx hb dL_holds_155 (by decide) ?_
                    refine lv_istore_n (lv' := [(2, .int 1), (7, .int I), (6, .int O), (5, .int (nI u)), (4, .int (nI J)), (3, .int (nI K)), (0, .ref h0), (1, .int (nI X))]) hx hb dL_holds_159 rfl hl (by decide) rfl (fun ls hl => ?_)
                    refine lv_iinc (v := (nI (J + 1))) (lv' := [(4, .int (nI (J + 1))), (2, .int 1), (7, .int I), (6, .int O), (5, .int (nI u)), (3, .int (nI K)), (0, .ref h0), (1, .int (nI X))]) hx hb dL_holds_160 hl (k := 4) rfl (nI_add J 1) (by decide) rfl (fun ls hl => ?_)
                    refine lv_goto (tgt := 19) hx hb dL_holds_163 (by decide) ?_
                    exact ihJ (J + 1) (by omega) (by omega) ls (lv_sub hl [0, 1, 5, 6, 7] rfl)
                  · have hK0 : K = 0 := Nat.le_zero.mp (Nat.not_lt.mp (fun h => c_137 ((nI_ltI (a := 0) (by decide) (by omega)).mpr h)))
                    refine lv_iload hx hb dL_holds_140 (lv_at hl 1 rfl) ?_
                    refine lv_iload hx hb dL_holds_142 (lv_at hl 2 rfl) ?_
                    refine lv_icmp_ne (tgt := 158) hx hb dL_holds_144 (by decide) (fun c_144 => ?_) (fun c_144 => ?_)
                    · exact absurd (hz hK0).1 c_144
                    · refine lv_iload hx hb dL_holds_147 (lv_at hl 0 rfl) ?_
                      refine lv_iload hx hb dL_holds_149 (lv_at hl 2 rfl) ?_
                      refine lv_icmp_ne (tgt := 158) hx hb dL_holds_151 (by decide) (fun c_151 => ?_) (fun c_151 => ?_)
                      · exact absurd (hz hK0).2 c_151
                      · refine lv_iconst (v := 1) hx hb dL_holds_154 (by decide) ?_
                        refine lv_goto (tgt := 159) hx hb dL_holds_155 (by decide) ?_
                        refine lv_istore_n (lv' := [(2, .int 1), (7, .int I), (6, .int O), (5, .int (nI u)), (4, .int (nI J)), (3, .int (nI K)), (0, .ref h0), (1, .int (nI X))]) hx hb dL_holds_159 rfl hl (by decide) rfl (fun ls hl => ?_)
                        refine lv_iinc (v := (nI (J + 1))) (lv' := [(4, .int (nI (J + 1))), (2, .int 1), (7, .int I), (6, .int O), (5, .int (nI u)), (3, .int (nI K)), (0, .ref h0), (1, .int (nI X))]) hx hb dL_holds_160 hl (k := 4) rfl (nI_add J 1) (by decide) rfl (fun ls hl => ?_)
                        refine lv_goto (tgt := 19) hx hb dL_holds_163 (by decide) ?_
                        exact ihJ (J + 1) (by omega) (by omega) ls (lv_sub hl [0, 1, 5, 6, 7] rfl)
                have t103 : ∀ (ls : Array Slot), lv_has ls 9 [(7, .int I), (6, .int O), (5, .int (nI u)), (4, .int (nI J)), (2, .int 1), (3, .int (nI K)), (0, .ref h0), (1, .int (nI X))] → W p l e ({ frames := 9, cells := 0, slots := 0, locals := 170 } : Room) s m ([.ref h0, .int (nI X)] : List Value).toArray below meth c s.heap [] 0 0 (MQ below (fun _ st o t => o = .returned (some (.int 1)) ∧ t.heap = st.heap) ([.ref h0, .int (nI X)] : List Value).toArray s 0 0 (fun _ => False)) (F0 m 103 ls []) := by
                  intro ls hl
                  refine lv_iload hx hb dL_holds_103 (lv_at hl 0 rfl) ?_
                  refine lv_if_lt (tgt := 158) hx hb dL_holds_105 (by decide) (fun c_105 => ?_) (fun c_105 => ?_)
                  · exact absurd c_105 hI1
                  · refine lv_iload hx hb dL_holds_108 (lv_at hl 0 rfl) ?_
                    refine lv_sipush (v := 999) hx hb dL_holds_110 (by decide +kernel) ?_
                    refine lv_icmp_gt (tgt := 158) hx hb dL_holds_113 (by decide) (fun c_113 => ?_) (fun c_113 => ?_)
                    · exact absurd c_113 hI2
                    · refine lv_iload hx hb dL_holds_116 (lv_at hl 0 rfl) ?_
                      refine lv_sipush (v := 999) hx hb dL_holds_118 (by decide +kernel) ?_
                      refine lv_icmp_eq (tgt := 136) hx hb dL_holds_121 (by decide) (fun c_121 => ?_) (fun c_121 => ?_)
                      · exact t136 ls (lv_sub hl [0, 1, 2, 3, 4, 5, 6, 7] rfl)
                      · obtain ⟨x, hx9, ex, hlx⟩ := hI3 c_121
                        refine lv_aload_n hx hb dL_holds_124 rfl (lv_at hl 6 rfl) ?_
                        refine lv_iload_n hx hb dL_holds_125 rfl (lv_at hl 5 rfl) ?_
                        refine lv_iload hx hb dL_holds_126 (lv_at hl 0 rfl) ?_
                        refine rn_top (y := .int (nI x)) (congrArg Value.int ex) ?_
                        refine rn_cSH (As := [.ref h0, .int (nI K), .int (nI x)]) (rest := []) 3 hx hb hml hown hts hG (l_leads_o l hV hC hK hx9) gL_holds_L_leads rfl ⟨rfl, rfl⟩ (by decide +kernel) ⟨Nat.le_of_ble_eq_true rfl, Nat.le_of_ble_eq_true rfl⟩ hF rfl hl.1 rfl (Nat.le_of_ble_eq_true rfl) ⟨Nat.zero_le _, Nat.zero_le _⟩ dL_holds_128 ?_
                        refine W.eq (g2 := F0 m 131 ls [.int (rn_enc (rn_lead σ K x))]) rfl ?_
                        refine rn_top (y := .int (nI u)) (congrArg Value.int (by rw [hlx]; rfl)) ?_
                        refine lv_iload hx hb dL_holds_131 (lv_at hl 2 rfl) ?_
                        refine lv_icmp_ne (tgt := 158) hx hb dL_holds_133 (by decide) (fun c_133 => ?_) (fun c_133 => ?_)
                        · exact absurd rfl c_133
                        · exact t136 ls (lv_sub hl [0, 1, 2, 3, 4, 5, 6, 7] rfl)
                refine lv_aload_n hx hb dL_holds_54 rfl (lv_at hl 4 rfl) ?_
                refine lv_iload_n hx hb dL_holds_55 rfl (lv_at hl 3 rfl) ?_
                refine lv_iload hx hb dL_holds_56 (lv_at hl 0 rfl) ?_
                refine rn_cSH (As := [.ref h0, .int (nI K), .int (nI u)]) (rest := []) 3 hx hb hml hown hts hG (l_leads_o l hV hC hK hu) gL_holds_L_leads rfl ⟨rfl, rfl⟩ (by decide +kernel) ⟨Nat.le_of_ble_eq_true rfl, Nat.le_of_ble_eq_true rfl⟩ hF rfl hl.1 rfl (Nat.le_of_ble_eq_true rfl) ⟨Nat.zero_le _, Nat.zero_le _⟩ dL_holds_58 ?_
                refine W.eq (g2 := F0 m 61 ls [.int (rn_enc (rn_lead σ K u))]) rfl ?_
                refine rn_top (y := .int O) (congrArg Value.int eO) ?_
                refine lv_istore (lv' := [(6, .int O), (5, .int (nI u)), (4, .int (nI J)), (2, .int 1), (3, .int (nI K)), (0, .ref h0), (1, .int (nI X))]) hx hb dL_holds_61 hl (by decide) rfl (fun ls hl => ?_)
                refine lv_aload_n hx hb dL_holds_63 rfl (lv_at hl 5 rfl) ?_
                refine lv_iload_n hx hb dL_holds_64 rfl (lv_at hl 4 rfl) ?_
                refine lv_iload hx hb dL_holds_65 (lv_at hl 1 rfl) ?_
                refine rn_cSH (As := [.ref h0, .int (nI K), .int (nI u)]) (rest := []) 3 hx hb hml hown hts hG (l_seen_o l hV hC hK hu) gL_holds_L_seen rfl ⟨rfl, rfl⟩ (by decide +kernel) ⟨Nat.le_of_ble_eq_true rfl, Nat.le_of_ble_eq_true rfl⟩ hF rfl hl.1 rfl (Nat.le_of_ble_eq_true rfl) ⟨Nat.zero_le _, Nat.zero_le _⟩ dL_holds_67 ?_
                refine W.eq (g2 := F0 m 70 ls [.int (nI (rn_see σ K u))]) rfl ?_
                refine rn_top (y := .int I) (congrArg Value.int eI) ?_
                refine lv_istore (lv' := [(7, .int I), (6, .int O), (5, .int (nI u)), (4, .int (nI J)), (2, .int 1), (3, .int (nI K)), (0, .ref h0), (1, .int (nI X))]) hx hb dL_holds_70 hl (by decide) rfl (fun ls hl => ?_)
                refine lv_iload hx hb dL_holds_72 (lv_at hl 1 rfl) ?_
                refine lv_iconst (v := (-1)) hx hb dL_holds_74 (by decide) ?_
                refine lv_icmp_lt (tgt := 158) hx hb dL_holds_75 (by decide) (fun c_75 => ?_) (fun c_75 => ?_)
                · exact absurd c_75 hO1
                · refine lv_iload hx hb dL_holds_78 (lv_at hl 1 rfl) ?_
                  refine lv_sipush (v := 998) hx hb dL_holds_80 (by decide +kernel) ?_
                  refine lv_icmp_gt (tgt := 158) hx hb dL_holds_83 (by decide) (fun c_83 => ?_) (fun c_83 => ?_)
                  · exact absurd c_83 hO2
                  · refine lv_iload hx hb dL_holds_86 (lv_at hl 1 rfl) ?_
                    refine lv_if_lt (tgt := 103) hx hb dL_holds_88 (by decide) (fun c_88 => ?_) (fun c_88 => ?_)
                    · exact t103 ls (lv_sub hl [0, 1, 2, 3, 4, 5, 6, 7] rfl)
                    · obtain ⟨o, ho, eo, hso⟩ := hO3 c_88
                      refine lv_aload_n hx hb dL_holds_91 rfl (lv_at hl 6 rfl) ?_
                      refine lv_iload_n hx hb dL_holds_92 rfl (lv_at hl 5 rfl) ?_
                      refine lv_iload hx hb dL_holds_93 (lv_at hl 1 rfl) ?_
                      refine rn_top (y := .int (nI o)) (congrArg Value.int eo) ?_
                      refine rn_cSH (As := [.ref h0, .int (nI K), .int (nI o)]) (rest := []) 3 hx hb hml hown hts hG (l_seen_o l hV hC hK ho) gL_holds_L_seen rfl ⟨rfl, rfl⟩ (by decide +kernel) ⟨Nat.le_of_ble_eq_true rfl, Nat.le_of_ble_eq_true rfl⟩ hF rfl hl.1 rfl (Nat.le_of_ble_eq_true rfl) ⟨Nat.zero_le _, Nat.zero_le _⟩ dL_holds_95 ?_
                      refine W.eq (g2 := F0 m 98 ls [.int (nI (rn_see σ K o))]) rfl ?_
                      refine rn_top (y := .int (nI u)) (congrArg Value.int (by rw [hso])) ?_
                      refine lv_iload hx hb dL_holds_98 (lv_at hl 2 rfl) ?_
                      refine lv_icmp_ne (tgt := 158) hx hb dL_holds_100 (by decide) (fun c_100 => ?_) (fun c_100 => ?_)
                      · exact absurd rfl c_100
                      · exact t103 ls (lv_sub hl [0, 1, 2, 3, 4, 5, 6, 7] rfl)
              refine lv_iload_n hx hb dL_holds_26 rfl (lv_at hl 1 rfl) ?_
              refine lv_if_eq (tgt := 166) hx hb dL_holds_27 (by decide) (fun c_27 => ?_) (fun c_27 => ?_)
              · exact absurd c_27 (by decide)
              · refine lv_iload hx hb dL_holds_30 (lv_at hl 0 rfl) ?_
                refine lv_bipush (v := 8) hx hb dL_holds_32 (by decide +kernel) ?_
                refine lv_icmp_ge (tgt := 42) hx hb dL_holds_34 (by decide) (fun c_34 => ?_) (fun c_34 => ?_)
                · refine lv_iload_n hx hb dL_holds_42 rfl (lv_at hl 4 rfl) ?_
                  refine lv_iconst (v := 1) hx hb dL_holds_43 (by decide) ?_
                  refine lv_iload hx hb dL_holds_44 (lv_at hl 0 rfl) ?_
                  refine lv_iadd hx hb dL_holds_46 ?_
                  refine rn_top (y := .int (nI (1 + J))) (congrArg Value.int (nI_add 1 J)) ?_
                  refine lv_idiv hx hb dL_holds_47 (rn_nz (by omega) (by omega)) ?_
                  refine rn_top (y := .int (nI (X / (1 + J)))) (congrArg Value.int (pk_div hX (by omega) (by omega))) ?_
                  refine lv_sipush (v := 999) hx hb dL_holds_48 (by decide +kernel) ?_
                  refine lv_irem hx hb dL_holds_51 (by decide) ?_
                  obtain ⟨u, hu, eu⟩ : ∃ u, u ≤ 998 ∧ (nI (X / (1 + J))) - (nI (X / (1 + J))) / 999 * 999 = nI u := ⟨X / (1 + J) % 999, by omega, pk_rem (d := 999) (rn_small hX _) (by decide) (by decide)⟩
                  refine rn_top (y := .int (nI u)) (congrArg Value.int eu) ?_
                  refine lv_istore (lv' := [(5, .int (nI u)), (4, .int (nI J)), (2, .int 1), (3, .int (nI K)), (0, .ref h0), (1, .int (nI X))]) hx hb dL_holds_52 hl (by decide) rfl (fun ls hl => ?_)
                  exact t54 u hu ls (lv_sub hl [0, 1, 2, 3, 4, 5] rfl)
                · refine lv_iload hx hb dL_holds_37 (lv_at hl 0 rfl) ?_
                  refine lv_goto (tgt := 52) hx hb dL_holds_39 (by decide) ?_
                  obtain ⟨u, hu, eu⟩ : ∃ u, u ≤ 998 ∧ nI J = nI u := ⟨J, by have := rn_nIlt8 c_34; omega, rfl⟩
                  refine rn_top (y := .int (nI u)) (congrArg Value.int eu) ?_
                  refine lv_istore (lv' := [(5, .int (nI u)), (4, .int (nI J)), (2, .int 1), (3, .int (nI K)), (0, .ref h0), (1, .int (nI X))]) hx hb dL_holds_52 hl (by decide) rfl (fun ls hl => ?_)
                  exact t54 u hu ls (lv_sub hl [0, 1, 2, 3, 4, 5] rfl)
        refine lv_iload_n hx hb dL_holds_12 rfl (lv_at hl 1 rfl) ?_
        refine lv_if_eq (tgt := 224) hx hb dL_holds_13 (by decide) (fun c_13 => ?_) (fun c_13 => ?_)
        · exact absurd c_13 (by decide)
        · refine lv_iconst (v := 0) hx hb dL_holds_16 (by decide) ?_
          refine lv_istore (lv' := [(4, .int 0), (3, .int (nI K)), (2, .int 1), (0, .ref h0), (1, .int (nI X))]) hx hb dL_holds_17 hl (by decide) rfl (fun ls hl => ?_)
          exact p19 12 0 (by omega) (by omega) ls (lv_sub hl [0, 2, 1, 3, 4] rfl)
  refine lv_iconst (v := 1) hx hb dL_holds_0 (by decide) ?_
  refine lv_istore_n (lv' := [(2, .int 1), (0, .ref h0), (1, .int (nI X))]) hx hb dL_holds_1 rfl hl (by decide) rfl (fun ls hl => ?_)
  refine lv_iconst (v := 0) hx hb dL_holds_2 (by decide) ?_
  refine lv_istore_n (lv' := [(3, .int 0), (2, .int 1), (0, .ref h0), (1, .int (nI X))]) hx hb dL_holds_3 rfl hl (by decide) rfl (fun ls hl => ?_)
  exact p4 σ.sn 0 (by omega) (by omega) ls (lv_sub hl [0, 1, 2, 3] rfl)
