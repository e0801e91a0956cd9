theorem rn_enc_eq {o : Option Nat} {y : Nat} (ho : ∀ k, o = some k → k ≤ 998) (hy : y ≤ 998) : rn_enc o = nI y ↔ o = some y := by
  cases o with
  | none =>
    constructor
    · intro h; exact absurd h.symm (rn_nI_m1 (by omega))
    · intro h; cases h
  | some k =>
    have hk := ho k rfl
    simp only [rn_enc, Option.some.injEq]
    exact nI_eq (by omega) (by omega)
theorem rn_held_own {σ : rn_St} (hV : rn_V σ) {j : Nat} (hj : j < σ.pn) : rn_held σ j (σ.pl j) = σ.pr j := by
  have hp := (hV.2.2.2.2.2.1.2.2 j hj).1
  have ho : rn_owns σ j (σ.pl j) = false := by
    unfold rn_owns
    rw [List.any_eq_false]
    intro a ha
    have h1 := rn_up_le hV _ _ (Nat.le_refl _) hp a ha
    simp only [decide_eq_true_eq]
    intro h
    have h2 := hV.2.1 a (by omega) (by omega)
    omega
  unfold rn_held
  rw [if_neg (by rw [ho]; decide), if_pos (rn_up_self hV hp)]

set_option maxHeartbeats 4000000 in
set_option maxRecDepth 100000 in
theorem c_rooms (l : Launch) {D : va_G} {cR cP cF : ClassId} {h0 aR aP aF : Nat} {ra pa fa : Nat → Nat} {hd : Nat → Option Nat} {dh : Option Nat} {f : rn_T} {σ : rn_St} (hV : rn_V σ) (hC : rn_CI cR cP cF h0 aR aP aF ra pa fa hd dh f σ)  : rn_R l yX4_rooms wsX4_rooms ({ frames := 0, cells := 0, slots := 0, locals := 0 } : Room) D (rn_tys cR cP cF) (rn_S D f) [.ref h0] (some (.int (nI σ.sn))) := by
  refine rn_R.ofW (cc := cX4_rooms) (maxL := 1) (ret := (some .int)) (by decide) rfl (Nat.le_of_ble_eq_true rfl) (fun p e s m below meth c ls hx hb hr hml hts hown hlocks hF hG hl => ?_)
  have hl : lv_has ls 1 [(0, .ref h0)] := hl
  obtain ⟨hH, hR, hQ, hI, hdr, hip, hif⟩ := id hC
  refine lv_aload_n hx hb dX4_rooms_0 rfl (lv_at hl 0 rfl) ?_
  refine rn_get (ci := 4) (v := .int (nI σ.sn)) (C := RX4) (T := TX4) (N := 9) hx hb hts iw_X4_rooms_4 hown hG (hF _ _ hH.1) rfl 1 (by decide) fw_X4_rooms_18 rfl dX4_rooms_1 ?_
  exact rn_iret hx hb hr rfl hlocks rfl dX4_rooms_4

set_option maxHeartbeats 4000000 in
set_option maxRecDepth 100000 in
theorem c_processes (l : Launch) {D : va_G} {cR cP cF : ClassId} {h0 aR aP aF : Nat} {ra pa fa : Nat → Nat} {hd : Nat → Option Nat} {dh : Option Nat} {f : rn_T} {σ : rn_St} (hV : rn_V σ) (hC : rn_CI cR cP cF h0 aR aP aF ra pa fa hd dh f σ)  : rn_R l yX4_processes wsX4_processes ({ frames := 0, cells := 0, slots := 0, locals := 0 } : Room) D (rn_tys cR cP cF) (rn_S D f) [.ref h0] (some (.int (nI σ.pn))) := by
  refine rn_R.ofW (cc := cX4_processes) (maxL := 1) (ret := (some .int)) (by decide) rfl (Nat.le_of_ble_eq_true rfl) (fun p e s m below meth c ls hx hb hr hml hts hown hlocks hF hG hl => ?_)
  have hl : lv_has ls 1 [(0, .ref h0)] := hl
  obtain ⟨hH, hR, hQ, hI, hdr, hip, hif⟩ := id hC
  refine lv_aload_n hx hb dX4_processes_0 rfl (lv_at hl 0 rfl) ?_
  refine rn_get (ci := 4) (v := .int (nI σ.pn)) (C := RX4) (T := TX4) (N := 9) hx hb hts iw_X4_processes_4 hown hG (hF _ _ hH.1) rfl 3 (by decide) fw_X4_processes_31 rfl dX4_processes_1 ?_
  exact rn_iret hx hb hr rfl hlocks rfl dX4_processes_4

set_option maxHeartbeats 4000000 in
set_option maxRecDepth 100000 in
theorem c_files (l : Launch) {D : va_G} {cR cP cF : ClassId} {h0 aR aP aF : Nat} {ra pa fa : Nat → Nat} {hd : Nat → Option Nat} {dh : Option Nat} {f : rn_T} {σ : rn_St} (hV : rn_V σ) (hC : rn_CI cR cP cF h0 aR aP aF ra pa fa hd dh f σ)  : rn_R l yX4_files wsX4_files ({ frames := 0, cells := 0, slots := 0, locals := 0 } : Room) D (rn_tys cR cP cF) (rn_S D f) [.ref h0] (some (.int (nI σ.fn))) := by
  refine rn_R.ofW (cc := cX4_files) (maxL := 1) (ret := (some .int)) (by decide) rfl (Nat.le_of_ble_eq_true rfl) (fun p e s m below meth c ls hx hb hr hml hts hown hlocks hF hG hl => ?_)
  have hl : lv_has ls 1 [(0, .ref h0)] := hl
  obtain ⟨hH, hR, hQ, hI, hdr, hip, hif⟩ := id hC
  refine lv_aload_n hx hb dX4_files_0 rfl (lv_at hl 0 rfl) ?_
  refine rn_get (ci := 4) (v := .int (nI σ.fn)) (C := RX4) (T := TX4) (N := 9) hx hb hts iw_X4_files_4 hown hG (hF _ _ hH.1) rfl 5 (by decide) fw_X4_files_40 rfl dX4_files_1 ?_
  exact rn_iret hx hb hr rfl hlocks rfl dX4_files_4

set_option maxHeartbeats 4000000 in
set_option maxRecDepth 100000 in
theorem c_refusals (l : Launch) {D : va_G} {cR cP cF : ClassId} {h0 aR aP aF : Nat} {ra pa fa : Nat → Nat} {hd : Nat → Option Nat} {dh : Option Nat} {f : rn_T} {σ : rn_St} (hV : rn_V σ) (hC : rn_CI cR cP cF h0 aR aP aF ra pa fa hd dh f σ)  : rn_R l yX4_refusals wsX4_refusals ({ frames := 0, cells := 0, slots := 0, locals := 0 } : Room) D (rn_tys cR cP cF) (rn_S D f) [.ref h0] (some (.int (σ.rc))) := by
  refine rn_R.ofW (cc := cX4_refusals) (maxL := 1) (ret := (some .int)) (by decide) rfl (Nat.le_of_ble_eq_true rfl) (fun p e s m below meth c ls hx hb hr hml hts hown hlocks hF hG hl => ?_)
  have hl : lv_has ls 1 [(0, .ref h0)] := hl
  obtain ⟨hH, hR, hQ, hI, hdr, hip, hif⟩ := id hC
  refine lv_aload_n hx hb dX4_refusals_0 rfl (lv_at hl 0 rfl) ?_
  refine rn_get (ci := 4) (v := .int σ.rc) (C := RX4) (T := TX4) (N := 9) hx hb hts iw_X4_refusals_4 hown hG (hF _ _ hH.1) rfl 7 (by decide) fw_X4_refusals_47 rfl dX4_refusals_1 ?_
  exact rn_iret hx hb hr rfl hlocks rfl dX4_refusals_4

set_option maxHeartbeats 4000000 in
set_option maxRecDepth 100000 in
theorem c_lastRefusal (l : Launch) {D : va_G} {cR cP cF : ClassId} {h0 aR aP aF : Nat} {ra pa fa : Nat → Nat} {hd : Nat → Option Nat} {dh : Option Nat} {f : rn_T} {σ : rn_St} (hV : rn_V σ) (hC : rn_CI cR cP cF h0 aR aP aF ra pa fa hd dh f σ)  : rn_R l yX4_lastRefusal wsX4_lastRefusal ({ frames := 0, cells := 0, slots := 0, locals := 0 } : Room) D (rn_tys cR cP cF) (rn_S D f) [.ref h0] (some (.int (σ.la))) := by
  refine rn_R.ofW (cc := cX4_lastRefusal) (maxL := 1) (ret := (some .int)) (by decide) rfl (Nat.le_of_ble_eq_true rfl) (fun p e s m below meth c ls hx hb hr hml hts hown hlocks hF hG hl => ?_)
  have hl : lv_has ls 1 [(0, .ref h0)] := hl
  obtain ⟨hH, hR, hQ, hI, hdr, hip, hif⟩ := id hC
  refine lv_aload_n hx hb dX4_lastRefusal_0 rfl (lv_at hl 0 rfl) ?_
  refine rn_get (ci := 4) (v := .int σ.la) (C := RX4) (T := TX4) (N := 9) hx hb hts iw_X4_lastRefusal_4 hown hG (hF _ _ hH.1) rfl 8 (by decide) fw_X4_lastRefusal_50 rfl dX4_lastRefusal_1 ?_
  exact rn_iret hx hb hr rfl hlocks rfl dX4_lastRefusal_4

set_option maxHeartbeats 4000000 in
set_option maxRecDepth 100000 in
theorem c_outerOf (l : Launch) {D : va_G} {cR cP cF : ClassId} {h0 aR aP aF : Nat} {ra pa fa : Nat → Nat} {hd : Nat → Option Nat} {dh : Option Nat} {f : rn_T} {σ : rn_St} (hV : rn_V σ) (hC : rn_CI cR cP cF h0 aR aP aF ra pa fa hd dh f σ) {i : Nat} (hi0 : i < σ.sn) : rn_R l yX4_outerOf wsX4_outerOf ({ frames := 1, cells := 0, slots := 0, locals := 22 } : Room) D (rn_tys cR cP cF) (rn_S D f) [.ref h0, .int (nI i)] (some (.int (rn_enc (rn_nx σ i)))) := by
  refine rn_R.ofW (cc := cX4_outerOf) (maxL := 2) (ret := (some .int)) (by decide) rfl (Nat.le_of_ble_eq_true rfl) (fun p e s m below meth c ls hx hb hr hml hts hown hlocks hF hG hl => ?_)
  have hl : lv_has ls 2 [(0, .ref h0), (1, .int (nI i))] := hl
  obtain ⟨hH, hR, hQ, hI, hdr, hip, hif⟩ := id hC
  refine lv_aload_n hx hb dX4_outerOf_0 rfl (lv_at hl 0 rfl) ?_
  refine lv_iload_n hx hb dX4_outerOf_1 rfl (lv_at hl 1 rfl) ?_
  refine rn_cV (As := [.int (nI i)]) (rest := []) 1 hx hb hml hown hts hG (c_roomAt l hV hH hi0) gX4_outerOf_X4_roomAt rfl ⟨rfl, rfl⟩ (by decide +kernel) ⟨Nat.le_of_ble_eq_true rfl, Nat.le_of_ble_eq_true rfl⟩ hF (hF _ _ hH.1) rfl rfl hl.1 rfl (Nat.le_of_ble_eq_true rfl) ⟨Nat.zero_le _, Nat.zero_le _⟩ dX4_outerOf_2 ?_
  refine W.eq (g2 := F0 m 5 ls [.ref (ra i)]) rfl ?_
  refine rn_get (ci := 3) (v := va_rf (rn_ot σ ra i)) (C := RX3) (T := TX3) (N := 4) hx hb hts iw_X4_outerOf_3 hown hG (hF _ _ (hR.1 i hi0)) rfl 1 (by decide) fw_X4_outerOf_100 rfl dX4_outerOf_5 ?_
  refine rn_top (y := va_rf ((rn_nx σ i).map ra)) (congrArg va_rf (rn_ot_nx σ ra i)) ?_
  refine rn_cS (As := [va_rf ((rn_nx σ i).map ra)]) (rest := []) 1 hx hb hml hown hts hG (c_numberOrNone l hV hR (rn_nx σ i) (fun k h => (rn_nx_lt hV hi0 (k := i) (Nat.lt_succ_self i) k h).1)) gX4_outerOf_X4_numberOrNone rfl ⟨rfl, rfl⟩ (by decide +kernel) ⟨Nat.le_of_ble_eq_true rfl, Nat.le_of_ble_eq_true rfl⟩ hF rfl hl.1 rfl (Nat.le_of_ble_eq_true rfl) ⟨Nat.zero_le _, Nat.zero_le _⟩ dX4_outerOf_8 ?_
  refine W.eq (g2 := F0 m 11 ls [.int (rn_enc (rn_nx σ i))]) rfl ?_
  exact rn_iret hx hb hr rfl hlocks rfl dX4_outerOf_11

set_option maxHeartbeats 4000000 in
set_option maxRecDepth 100000 in
theorem c_leadsTo (l : Launch) {D : va_G} {cR cP cF : ClassId} {h0 aR aP aF : Nat} {ra pa fa : Nat → Nat} {hd : Nat → Option Nat} {dh : Option Nat} {f : rn_T} {σ : rn_St} (hV : rn_V σ) (hC : rn_CI cR cP cF h0 aR aP aF ra pa fa hd dh f σ) {i x : Nat} (hi0 : i < σ.sn) (hx0 : x ≤ 998) : rn_R l yX4_leadsTo wsX4_leadsTo ({ frames := 2, cells := 0, slots := 0, locals := 45 } : Room) D (rn_tys cR cP cF) (rn_S D f) [.ref h0, .int (nI i), .int (nI x)] (some (.int (rn_enc (rn_lead σ i x)))) := by
  refine rn_R.ofW (cc := cX4_leadsTo) (maxL := 4) (ret := (some .int)) (by decide) rfl (Nat.le_of_ble_eq_true rfl) (fun p e s m below meth c ls hx hb hr hml hts hown hlocks hF hG hl => ?_)
  have hl : lv_has ls 4 [(0, .ref h0), (1, .int (nI i)), (2, .int (nI x))] := hl
  obtain ⟨hH, hR, hQ, hI, hdr, hip, hif⟩ := id hC
  refine lv_aload_n hx hb dX4_leadsTo_0 rfl (lv_at hl 0 rfl) ?_
  refine lv_iload_n hx hb dX4_leadsTo_1 rfl (lv_at hl 1 rfl) ?_
  refine rn_cV (As := [.int (nI i)]) (rest := []) 1 hx hb hml hown hts hG (c_roomAt l hV hH hi0) gX4_leadsTo_X4_roomAt rfl ⟨rfl, rfl⟩ (by decide +kernel) ⟨Nat.le_of_ble_eq_true rfl, Nat.le_of_ble_eq_true rfl⟩ hF (hF _ _ hH.1) rfl rfl hl.1 rfl (Nat.le_of_ble_eq_true rfl) ⟨Nat.zero_le _, Nat.zero_le _⟩ dX4_leadsTo_2 ?_
  refine W.eq (g2 := F0 m 5 ls [.ref (ra i)]) rfl ?_
  refine lv_astore_n (lv' := [(3, .ref (ra i)), (0, .ref h0), (1, .int (nI i)), (2, .int (nI x))]) hx hb dX4_leadsTo_5 rfl hl (by decide) rfl (fun ls hl => ?_)
  refine lv_iload_n hx hb dX4_leadsTo_6 rfl (lv_at hl 3 rfl) ?_
  refine rn_cS (As := [.int (nI x)]) (rest := []) 1 hx hb hml hown hts hG (c_requireNumber l hx0) gX4_leadsTo_X4_requireNumber rfl ⟨rfl, rfl⟩ (by decide +kernel) ⟨Nat.le_of_ble_eq_true rfl, Nat.le_of_ble_eq_true rfl⟩ hF rfl hl.1 rfl (Nat.le_of_ble_eq_true rfl) ⟨Nat.zero_le _, Nat.zero_le _⟩ dX4_leadsTo_7 ?_
  refine W.eq (g2 := F0 m 10 ls []) rfl ?_
  refine lv_aload_n hx hb dX4_leadsTo_10 rfl (lv_at hl 0 rfl) ?_
  refine lv_iload_n hx hb dX4_leadsTo_11 rfl (lv_at hl 3 rfl) ?_
  refine rn_cS (As := [.ref (ra i), .int (nI x)]) (rest := []) 2 hx hb hml hown hts hG (c_leadOut l hV hR hi0 hx0) gX4_leadsTo_X4_leadOut rfl ⟨rfl, rfl⟩ (by decide +kernel) ⟨Nat.le_of_ble_eq_true rfl, Nat.le_of_ble_eq_true rfl⟩ hF rfl hl.1 rfl (Nat.le_of_ble_eq_true rfl) ⟨Nat.zero_le _, Nat.zero_le _⟩ dX4_leadsTo_12 ?_
  refine W.eq (g2 := F0 m 15 ls [.int (rn_enc (rn_lead σ i x))]) rfl ?_
  exact rn_iret hx hb hr rfl hlocks rfl dX4_leadsTo_15

set_option maxHeartbeats 4000000 in
set_option maxRecDepth 100000 in
theorem c_seenAs (l : Launch) {D : va_G} {cR cP cF : ClassId} {h0 aR aP aF : Nat} {ra pa fa : Nat → Nat} {hd : Nat → Option Nat} {dh : Option Nat} {f : rn_T} {σ : rn_St} (hV : rn_V σ) (hC : rn_CI cR cP cF h0 aR aP aF ra pa fa hd dh f σ) {i x : Nat} (hi0 : i < σ.sn) (hx0 : x ≤ 998) : rn_R l yX4_seenAs wsX4_seenAs ({ frames := 2, cells := 0, slots := 0, locals := 49 } : Room) D (rn_tys cR cP cF) (rn_S D f) [.ref h0, .int (nI i), .int (nI x)] (some (.int (nI (rn_see σ i x)))) := by
  refine rn_R.ofW (cc := cX4_seenAs) (maxL := 4) (ret := (some .int)) (by decide) rfl (Nat.le_of_ble_eq_true rfl) (fun p e s m below meth c ls hx hb hr hml hts hown hlocks hF hG hl => ?_)
  have hl : lv_has ls 4 [(0, .ref h0), (1, .int (nI i)), (2, .int (nI x))] := hl
  obtain ⟨hH, hR, hQ, hI, hdr, hip, hif⟩ := id hC
  refine lv_aload_n hx hb dX4_seenAs_0 rfl (lv_at hl 0 rfl) ?_
  refine lv_iload_n hx hb dX4_seenAs_1 rfl (lv_at hl 1 rfl) ?_
  refine rn_cV (As := [.int (nI i)]) (rest := []) 1 hx hb hml hown hts hG (c_roomAt l hV hH hi0) gX4_seenAs_X4_roomAt rfl ⟨rfl, rfl⟩ (by decide +kernel) ⟨Nat.le_of_ble_eq_true rfl, Nat.le_of_ble_eq_true rfl⟩ hF (hF _ _ hH.1) rfl rfl hl.1 rfl (Nat.le_of_ble_eq_true rfl) ⟨Nat.zero_le _, Nat.zero_le _⟩ dX4_seenAs_2 ?_
  refine W.eq (g2 := F0 m 5 ls [.ref (ra i)]) rfl ?_
  refine lv_astore_n (lv' := [(3, .ref (ra i)), (0, .ref h0), (1, .int (nI i)), (2, .int (nI x))]) hx hb dX4_seenAs_5 rfl hl (by decide) rfl (fun ls hl => ?_)
  refine lv_iload_n hx hb dX4_seenAs_6 rfl (lv_at hl 3 rfl) ?_
  refine rn_cS (As := [.int (nI x)]) (rest := []) 1 hx hb hml hown hts hG (c_requireNumber l hx0) gX4_seenAs_X4_requireNumber rfl ⟨rfl, rfl⟩ (by decide +kernel) ⟨Nat.le_of_ble_eq_true rfl, Nat.le_of_ble_eq_true rfl⟩ hF rfl hl.1 rfl (Nat.le_of_ble_eq_true rfl) ⟨Nat.zero_le _, Nat.zero_le _⟩ dX4_seenAs_7 ?_
  refine W.eq (g2 := F0 m 10 ls []) rfl ?_
  refine lv_aload_n hx hb dX4_seenAs_10 rfl (lv_at hl 1 rfl) ?_
  refine lv_aload_n hx hb dX4_seenAs_11 rfl (lv_at hl 0 rfl) ?_
  refine lv_iload_n hx hb dX4_seenAs_12 rfl (lv_at hl 3 rfl) ?_
  refine rn_cV (As := [.ref (ra i), .int (nI x)]) (rest := []) 2 hx hb hml hown hts hG (c_seenFrom l hV hH hR (r := i) (y := x) hi0 hx0) gX4_seenAs_X4_seenFrom rfl ⟨rfl, rfl⟩ (by decide +kernel) ⟨Nat.le_of_ble_eq_true rfl, Nat.le_of_ble_eq_true rfl⟩ hF (hF _ _ hH.1) rfl rfl hl.1 rfl (Nat.le_of_ble_eq_true rfl) ⟨Nat.zero_le _, Nat.zero_le _⟩ dX4_seenAs_13 ?_
  refine W.eq (g2 := F0 m 16 ls [.int (nI (rn_see σ i x))]) rfl ?_
  exact rn_iret hx hb hr rfl hlocks rfl dX4_seenAs_16

set_option maxHeartbeats 4000000 in
set_option maxRecDepth 100000 in
theorem c_seenByLeading (l : Launch) {D : va_G} {cR cP cF : ClassId} {h0 aR aP aF : Nat} {ra pa fa : Nat → Nat} {hd : Nat → Option Nat} {dh : Option Nat} {f : rn_T} {σ : rn_St} (hV : rn_V σ) (hC : rn_CI cR cP cF h0 aR aP aF ra pa fa hd dh f σ) {i x : Nat} (hi0 : i < σ.sn) (hx0 : x ≤ 998) : rn_R l yX4_seenByLeading wsX4_seenByLeading ({ frames := 2, cells := 0, slots := 0, locals := 45 } : Room) D (rn_tys cR cP cF) (rn_S D f) [.ref h0, .int (nI i), .int (nI x)] (some (.int (nI (rn_see σ i x)))) := by
  refine rn_R.ofW (cc := cX4_seenByLeading) (maxL := 5) (ret := (some .int)) (by decide) rfl (Nat.le_of_ble_eq_true rfl) (fun p e s m below meth c ls hx hb hr hml hts hown hlocks hF hG hl => ?_)
  have hl : lv_has ls 5 [(0, .ref h0), (1, .int (nI i)), (2, .int (nI x))] := hl
  obtain ⟨hH, hR, hQ, hI, hdr, hip, hif⟩ := id hC
  refine lv_aload_n hx hb dX4_seenByLeading_0 rfl (lv_at hl 0 rfl) ?_
  refine lv_iload_n hx hb dX4_seenByLeading_1 rfl (lv_at hl 1 rfl) ?_
  refine rn_cV (As := [.int (nI i)]) (rest := []) 1 hx hb hml hown hts hG (c_roomAt l hV hH hi0) gX4_seenByLeading_X4_roomAt rfl ⟨rfl, rfl⟩ (by decide +kernel) ⟨Nat.le_of_ble_eq_true rfl, Nat.le_of_ble_eq_true rfl⟩ hF (hF _ _ hH.1) rfl rfl hl.1 rfl (Nat.le_of_ble_eq_true rfl) ⟨Nat.zero_le _, Nat.zero_le _⟩ dX4_seenByLeading_2 ?_
  refine W.eq (g2 := F0 m 5 ls [.ref (ra i)]) rfl ?_
  refine lv_astore_n (lv' := [(3, .ref (ra i)), (0, .ref h0), (1, .int (nI i)), (2, .int (nI x))]) hx hb dX4_seenByLeading_5 rfl hl (by decide) rfl (fun ls hl => ?_)
  refine lv_iload_n hx hb dX4_seenByLeading_6 rfl (lv_at hl 3 rfl) ?_
  refine rn_cS (As := [.int (nI x)]) (rest := []) 1 hx hb hml hown hts hG (c_requireNumber l hx0) gX4_seenByLeading_X4_requireNumber rfl ⟨rfl, rfl⟩ (by decide +kernel) ⟨Nat.le_of_ble_eq_true rfl, Nat.le_of_ble_eq_true rfl⟩ hF rfl hl.1 rfl (Nat.le_of_ble_eq_true rfl) ⟨Nat.zero_le _, Nat.zero_le _⟩ dX4_seenByLeading_7 ?_
  refine W.eq (g2 := F0 m 10 ls []) rfl ?_
  refine lv_iconst (v := 0) hx hb dX4_seenByLeading_10 (by decide) ?_
  refine lv_istore (lv' := [(4, .int 0), (3, .ref (ra i)), (0, .ref h0), (1, .int (nI i)), (2, .int (nI x))]) hx hb dX4_seenByLeading_11 hl (by decide) rfl (fun ls hl => ?_)
  have loop : ∀ (n k : Nat), k + n = 999 → (∀ y, y < k → rn_lead σ i y ≠ some x) → ∀ (ls : Array Slot), lv_has ls 5 [(4, .int (nI k)), (3, .ref (ra i)), (0, .ref h0), (1, .int (nI i)), (2, .int (nI x))] → W p l e ({ frames := 2, cells := 0, slots := 0, locals := 45 } : Room) s m ([.ref h0, .int (nI i), .int (nI x)] : List Value).toArray below meth c s.heap [] 0 0 (MQ below (fun _ st o t => o = .returned (some (.int (nI (rn_see σ i x)))) ∧ t.heap = st.heap) ([.ref h0, .int (nI i), .int (nI x)] : List Value).toArray s 0 0 (fun _ => False)) (F0 m 13 ls []) := by
    intro n
    induction n with
    | zero =>
      intro k hkn hno ls hl
      refine lv_iload hx hb dX4_seenByLeading_13 (lv_at hl 0 rfl) ?_
      refine lv_sipush (v := 998) hx hb dX4_seenByLeading_15 (by decide +kernel) ?_
      refine rn_top (y := .int (nI 998)) (congrArg Value.int (rfl)) ?_
      refine lv_icmp_gt (tgt := 40) hx hb dX4_seenByLeading_18 (by decide) (fun c_18 => ?_) (fun c_18 => ?_)
      · refine lv_sipush (v := 999) hx hb dX4_seenByLeading_40 (by decide +kernel) ?_
        exact rn_iret hx hb hr rfl hlocks (by rcases rn_see_spec σ i x with ⟨h1, h2⟩ | ⟨h1, h2⟩; exact absurd h2 (hno _ (by omega)); rw [h1]; rfl) dX4_seenByLeading_43
      · exact absurd ((nI_ltI (by omega) (by omega)).mpr (by omega)) c_18
    | succ n ih =>
      intro k hkn hno ls hl
      refine lv_iload hx hb dX4_seenByLeading_13 (lv_at hl 0 rfl) ?_
      refine lv_sipush (v := 998) hx hb dX4_seenByLeading_15 (by decide +kernel) ?_
      refine rn_top (y := .int (nI 998)) (congrArg Value.int (rfl)) ?_
      refine lv_icmp_gt (tgt := 40) hx hb dX4_seenByLeading_18 (by decide) (fun c_18 => ?_) (fun c_18 => ?_)
      · exact absurd ((nI_ltI (by omega) (by omega)).mp c_18) (by omega)
      · refine lv_aload_n hx hb dX4_seenByLeading_21 rfl (lv_at hl 1 rfl) ?_
        refine lv_iload hx hb dX4_seenByLeading_22 (lv_at hl 0 rfl) ?_
        refine rn_cS (As := [.ref (ra i), .int (nI k)]) (rest := []) 2 hx hb hml hown hts hG (c_leadOut l hV hR hi0 (x := k) (by omega)) gX4_seenByLeading_X4_leadOut rfl ⟨rfl, rfl⟩ (by decide +kernel) ⟨Nat.le_of_ble_eq_true rfl, Nat.le_of_ble_eq_true rfl⟩ hF rfl hl.1 rfl (Nat.le_of_ble_eq_true rfl) ⟨Nat.zero_le _, Nat.zero_le _⟩ dX4_seenByLeading_24 ?_
        refine W.eq (g2 := F0 m 27 ls [.int (rn_enc (rn_lead σ i k))]) rfl ?_
        refine lv_iload_n hx hb dX4_seenByLeading_27 rfl (lv_at hl 4 rfl) ?_
        refine lv_icmp_ne (tgt := 34) hx hb dX4_seenByLeading_28 (by decide) (fun c_28 => ?_) (fun c_28 => ?_)
        · have hne : rn_lead σ i k ≠ some x := fun h => c_28 ((rn_enc_eq (fun y h => rn_lead_in hV i i (Nat.le_refl _) hi0 _ y (by omega) h) hx0).mpr h)
          refine lv_iinc (v := (nI (k + 1))) (lv' := [(4, .int (nI (k + 1))), (3, .ref (ra i)), (0, .ref h0), (1, .int (nI i)), (2, .int (nI x))]) hx hb dX4_seenByLeading_34 hl (k := 0) rfl (nI_1 k) (by decide) rfl (fun ls hl => ?_)
          refine lv_goto (tgt := 13) hx hb dX4_seenByLeading_37 (by decide) ?_
          exact ih (k + 1) (by omega) (fun y hy => by rcases Nat.lt_or_ge y k with h | h; exact hno y h; rw [show y = k by omega]; exact hne) ls (lv_sub hl [0, 1, 2, 3, 4] rfl)
        · have heq : rn_lead σ i k = some x := (rn_enc_eq (fun y h => rn_lead_in hV i i (Nat.le_refl _) hi0 _ y (by omega) h) hx0).mp c_28
          refine lv_iload hx hb dX4_seenByLeading_31 (lv_at hl 0 rfl) ?_
          exact rn_iret hx hb hr rfl hlocks (by rw [rn_see_uniq hV hi0 (by omega) heq]) dX4_seenByLeading_33
  exact loop 999 0 rfl (fun y hy => absurd hy (Nat.not_lt_zero _)) ls (lv_sub hl [0, 1, 2, 3, 4] rfl)

set_option maxHeartbeats 4000000 in
set_option maxRecDepth 100000 in
theorem c_roomOf (l : Launch) {D : va_G} {cR cP cF : ClassId} {h0 aR aP aF : Nat} {ra pa fa : Nat → Nat} {hd : Nat → Option Nat} {dh : Option Nat} {f : rn_T} {σ : rn_St} (hV : rn_V σ) (hC : rn_CI cR cP cF h0 aR aP aF ra pa fa hd dh f σ) {j : Nat} (hj0 : j < σ.pn) : rn_R l yX4_roomOf wsX4_roomOf ({ frames := 1, cells := 0, slots := 0, locals := 22 } : Room) D (rn_tys cR cP cF) (rn_S D f) [.ref h0, .int (nI j)] (some (.int (nI (σ.pl j)))) := by
  refine rn_R.ofW (cc := cX4_roomOf) (maxL := 2) (ret := (some .int)) (by decide) rfl (Nat.le_of_ble_eq_true rfl) (fun p e s m below meth c ls hx hb hr hml hts hown hlocks hF hG hl => ?_)
  have hl : lv_has ls 2 [(0, .ref h0), (1, .int (nI j))] := hl
  obtain ⟨hH, hR, hQ, hI, hdr, hip, hif⟩ := id hC
  refine lv_aload_n hx hb dX4_roomOf_0 rfl (lv_at hl 0 rfl) ?_
  refine lv_iload_n hx hb dX4_roomOf_1 rfl (lv_at hl 1 rfl) ?_
  refine rn_cV (As := [.int (nI j)]) (rest := []) 1 hx hb hml hown hts hG (c_processAt l hV hH hj0) gX4_roomOf_X4_processAt rfl ⟨rfl, rfl⟩ (by decide +kernel) ⟨Nat.le_of_ble_eq_true rfl, Nat.le_of_ble_eq_true rfl⟩ hF (hF _ _ hH.1) rfl rfl hl.1 rfl (Nat.le_of_ble_eq_true rfl) ⟨Nat.zero_le _, Nat.zero_le _⟩ dX4_roomOf_2 ?_
  refine W.eq (g2 := F0 m 5 ls [.ref (pa j)]) rfl ?_
  refine rn_get (ci := 1) (v := .ref (ra (σ.pl j))) (C := RX1) (T := TX1) (N := 3) hx hb hts iw_X4_roomOf_1 hown hG (hF _ _ (hQ j hj0)) rfl 0 (by decide) fw_X4_roomOf_64 rfl dX4_roomOf_5 ?_
  refine rn_cS (As := [.ref (ra (σ.pl j))]) (rest := []) 1 hx hb hml hown hts hG (c_numberOrNone l hV hR (some (σ.pl j)) (fun k h => by cases h; exact (hV.2.2.2.2.2.1.2.2 j hj0).1)) gX4_roomOf_X4_numberOrNone rfl ⟨rfl, rfl⟩ (by decide +kernel) ⟨Nat.le_of_ble_eq_true rfl, Nat.le_of_ble_eq_true rfl⟩ hF rfl hl.1 rfl (Nat.le_of_ble_eq_true rfl) ⟨Nat.zero_le _, Nat.zero_le _⟩ dX4_roomOf_8 ?_
  refine W.eq (g2 := F0 m 11 ls [.int (rn_enc (some (σ.pl j)))]) rfl ?_
  exact rn_iret hx hb hr rfl hlocks rfl dX4_roomOf_11

set_option maxHeartbeats 4000000 in
set_option maxRecDepth 100000 in
theorem c_numberOf (l : Launch) {D : va_G} {cR cP cF : ClassId} {h0 aR aP aF : Nat} {ra pa fa : Nat → Nat} {hd : Nat → Option Nat} {dh : Option Nat} {f : rn_T} {σ : rn_St} (hV : rn_V σ) (hC : rn_CI cR cP cF h0 aR aP aF ra pa fa hd dh f σ) {j : Nat} (hj0 : j < σ.pn) : rn_R l yX4_numberOf wsX4_numberOf ({ frames := 1, cells := 0, slots := 0, locals := 22 } : Room) D (rn_tys cR cP cF) (rn_S D f) [.ref h0, .int (nI j)] (some (.int (nI (σ.pu j)))) := by
  refine rn_R.ofW (cc := cX4_numberOf) (maxL := 2) (ret := (some .int)) (by decide) rfl (Nat.le_of_ble_eq_true rfl) (fun p e s m below meth c ls hx hb hr hml hts hown hlocks hF hG hl => ?_)
  have hl : lv_has ls 2 [(0, .ref h0), (1, .int (nI j))] := hl
  obtain ⟨hH, hR, hQ, hI, hdr, hip, hif⟩ := id hC
  refine lv_aload_n hx hb dX4_numberOf_0 rfl (lv_at hl 0 rfl) ?_
  refine lv_iload_n hx hb dX4_numberOf_1 rfl (lv_at hl 1 rfl) ?_
  refine rn_cV (As := [.int (nI j)]) (rest := []) 1 hx hb hml hown hts hG (c_processAt l hV hH hj0) gX4_numberOf_X4_processAt rfl ⟨rfl, rfl⟩ (by decide +kernel) ⟨Nat.le_of_ble_eq_true rfl, Nat.le_of_ble_eq_true rfl⟩ hF (hF _ _ hH.1) rfl rfl hl.1 rfl (Nat.le_of_ble_eq_true rfl) ⟨Nat.zero_le _, Nat.zero_le _⟩ dX4_numberOf_2 ?_
  refine W.eq (g2 := F0 m 5 ls [.ref (pa j)]) rfl ?_
  refine rn_get (ci := 1) (v := .int (nI (σ.pu j))) (C := RX1) (T := TX1) (N := 3) hx hb hts iw_X4_numberOf_1 hown hG (hF _ _ (hQ j hj0)) rfl 1 (by decide) fw_X4_numberOf_68 rfl dX4_numberOf_5 ?_
  exact rn_iret hx hb hr rfl hlocks rfl dX4_numberOf_8

set_option maxHeartbeats 4000000 in
set_option maxRecDepth 100000 in
theorem c_rightsIn (l : Launch) {D : va_G} {cR cP cF : ClassId} {h0 aR aP aF : Nat} {ra pa fa : Nat → Nat} {hd : Nat → Option Nat} {dh : Option Nat} {f : rn_T} {σ : rn_St} (hV : rn_V σ) (hC : rn_CI cR cP cF h0 aR aP aF ra pa fa hd dh f σ) {j i : Nat} (hj0 : j < σ.pn) (hi0 : i < σ.sn) : rn_R l yX4_rightsIn wsX4_rightsIn ({ frames := 2, cells := 0, slots := 0, locals := 43 } : Room) D (rn_tys cR cP cF) (rn_S D f) [.ref h0, .int (nI j), .int (nI i)] (some (.int (rn_held σ j i))) := by
  refine rn_R.ofW (cc := cX4_rightsIn) (maxL := 4) (ret := (some .int)) (by decide) rfl (Nat.le_of_ble_eq_true rfl) (fun p e s m below meth c ls hx hb hr hml hts hown hlocks hF hG hl => ?_)
  have hl : lv_has ls 4 [(0, .ref h0), (1, .int (nI j)), (2, .int (nI i))] := hl
  obtain ⟨hH, hR, hQ, hI, hdr, hip, hif⟩ := id hC
  refine lv_aload_n hx hb dX4_rightsIn_0 rfl (lv_at hl 0 rfl) ?_
  refine lv_iload_n hx hb dX4_rightsIn_1 rfl (lv_at hl 1 rfl) ?_
  refine rn_cV (As := [.int (nI j)]) (rest := []) 1 hx hb hml hown hts hG (c_processAt l hV hH hj0) gX4_rightsIn_X4_processAt rfl ⟨rfl, rfl⟩ (by decide +kernel) ⟨Nat.le_of_ble_eq_true rfl, Nat.le_of_ble_eq_true rfl⟩ hF (hF _ _ hH.1) rfl rfl hl.1 rfl (Nat.le_of_ble_eq_true rfl) ⟨Nat.zero_le _, Nat.zero_le _⟩ dX4_rightsIn_2 ?_
  refine W.eq (g2 := F0 m 5 ls [.ref (pa j)]) rfl ?_
  refine lv_astore_n (lv' := [(3, .ref (pa j)), (0, .ref h0), (1, .int (nI j)), (2, .int (nI i))]) hx hb dX4_rightsIn_5 rfl hl (by decide) rfl (fun ls hl => ?_)
  refine lv_aload_n hx hb dX4_rightsIn_6 rfl (lv_at hl 0 rfl) ?_
  refine lv_aload_n hx hb dX4_rightsIn_7 rfl (lv_at hl 1 rfl) ?_
  refine lv_iload_n hx hb dX4_rightsIn_8 rfl (lv_at hl 3 rfl) ?_
  refine rn_cV (As := [.int (nI i)]) (rest := [.ref (pa j)]) 1 hx hb hml hown hts hG (c_roomAt l hV hH hi0) gX4_rightsIn_X4_roomAt rfl ⟨rfl, rfl⟩ (by decide +kernel) ⟨Nat.le_of_ble_eq_true rfl, Nat.le_of_ble_eq_true rfl⟩ hF (hF _ _ hH.1) rfl rfl hl.1 rfl (Nat.le_of_ble_eq_true rfl) ⟨Nat.zero_le _, Nat.zero_le _⟩ dX4_rightsIn_9 ?_
  refine W.eq (g2 := F0 m 12 ls [.ref (ra i), .ref (pa j)]) rfl ?_
  refine rn_cV (As := [.ref (ra i)]) (rest := []) 1 hx hb hml hown hts hG (c_rightsHeldIn l hV hR hQ hj0 hi0) gX4_rightsIn_X1_rightsHeldIn rfl ⟨rfl, rfl⟩ (by decide +kernel) ⟨Nat.le_of_ble_eq_true rfl, Nat.le_of_ble_eq_true rfl⟩ hF (hF _ _ (hQ j hj0)) rfl rfl hl.1 rfl (Nat.le_of_ble_eq_true rfl) ⟨Nat.zero_le _, Nat.zero_le _⟩ dX4_rightsIn_12 ?_
  refine W.eq (g2 := F0 m 15 ls [.int (rn_held σ j i)]) rfl ?_
  exact rn_iret hx hb hr rfl hlocks rfl dX4_rightsIn_15

set_option maxHeartbeats 4000000 in
set_option maxRecDepth 100000 in
theorem c_ownerSeenBy (l : Launch) {D : va_G} {cR cP cF : ClassId} {h0 aR aP aF : Nat} {ra pa fa : Nat → Nat} {hd : Nat → Option Nat} {dh : Option Nat} {f : rn_T} {σ : rn_St} (hV : rn_V σ) (hC : rn_CI cR cP cF h0 aR aP aF ra pa fa hd dh f σ) {j k : Nat} (hj0 : j < σ.pn) (hk0 : k < σ.fn) : rn_R l yX4_ownerSeenBy wsX4_ownerSeenBy ({ frames := 2, cells := 0, slots := 0, locals := 49 } : Room) D (rn_tys cR cP cF) (rn_S D f) [.ref h0, .int (nI j), .int (nI k)] (some (.int (nI (rn_see σ (σ.pl j) (σ.fo k))))) := by
  refine rn_R.ofW (cc := cX4_ownerSeenBy) (maxL := 4) (ret := (some .int)) (by decide) rfl (Nat.le_of_ble_eq_true rfl) (fun p e s m below meth c ls hx hb hr hml hts hown hlocks hF hG hl => ?_)
  have hl : lv_has ls 4 [(0, .ref h0), (1, .int (nI j)), (2, .int (nI k))] := hl
  obtain ⟨hH, hR, hQ, hI, hdr, hip, hif⟩ := id hC
  refine lv_aload_n hx hb dX4_ownerSeenBy_0 rfl (lv_at hl 0 rfl) ?_
  refine lv_iload_n hx hb dX4_ownerSeenBy_1 rfl (lv_at hl 1 rfl) ?_
  refine rn_cV (As := [.int (nI j)]) (rest := []) 1 hx hb hml hown hts hG (c_processAt l hV hH hj0) gX4_ownerSeenBy_X4_processAt rfl ⟨rfl, rfl⟩ (by decide +kernel) ⟨Nat.le_of_ble_eq_true rfl, Nat.le_of_ble_eq_true rfl⟩ hF (hF _ _ hH.1) rfl rfl hl.1 rfl (Nat.le_of_ble_eq_true rfl) ⟨Nat.zero_le _, Nat.zero_le _⟩ dX4_ownerSeenBy_2 ?_
  refine W.eq (g2 := F0 m 5 ls [.ref (pa j)]) rfl ?_
  refine lv_astore_n (lv' := [(3, .ref (pa j)), (0, .ref h0), (1, .int (nI j)), (2, .int (nI k))]) hx hb dX4_ownerSeenBy_5 rfl hl (by decide) rfl (fun ls hl => ?_)
  refine lv_aload_n hx hb dX4_ownerSeenBy_6 rfl (lv_at hl 1 rfl) ?_
  refine lv_aload_n hx hb dX4_ownerSeenBy_7 rfl (lv_at hl 0 rfl) ?_
  refine rn_get (ci := 1) (v := .ref (ra (σ.pl j))) (C := RX1) (T := TX1) (N := 3) hx hb hts iw_X4_ownerSeenBy_1 hown hG (hF _ _ (hQ j hj0)) rfl 0 (by decide) fw_X4_ownerSeenBy_64 rfl dX4_ownerSeenBy_8 ?_
  refine lv_aload_n hx hb dX4_ownerSeenBy_11 rfl (lv_at hl 1 rfl) ?_
  refine lv_iload_n hx hb dX4_ownerSeenBy_12 rfl (lv_at hl 3 rfl) ?_
  refine rn_cV (As := [.int (nI k)]) (rest := [.ref (ra (σ.pl j)), .ref h0]) 1 hx hb hml hown hts hG (c_fileAt l hV hH hk0) gX4_ownerSeenBy_X4_fileAt rfl ⟨rfl, rfl⟩ (by decide +kernel) ⟨Nat.le_of_ble_eq_true rfl, Nat.le_of_ble_eq_true rfl⟩ hF (hF _ _ hH.1) rfl rfl hl.1 rfl (Nat.le_of_ble_eq_true rfl) ⟨Nat.zero_le _, Nat.zero_le _⟩ dX4_ownerSeenBy_13 ?_
  refine W.eq (g2 := F0 m 16 ls [.ref (fa k), .ref (ra (σ.pl j)), .ref h0]) rfl ?_
  refine rn_get (ci := 0) (v := .int (nI (σ.fo k))) (C := RX0) (T := TX0) (N := 2) hx hb hts iw_X4_ownerSeenBy_0 hown hG (hF _ _ (hI k hk0)) rfl 0 (by decide) fw_X4_ownerSeenBy_172 rfl dX4_ownerSeenBy_16 ?_
  refine rn_cV (As := [.ref (ra (σ.pl j)), .int (nI (σ.fo k))]) (rest := []) 2 hx hb hml hown hts hG (c_seenFrom l hV hH hR (r := σ.pl j) (y := σ.fo k) (hV.2.2.2.2.2.1.2.2 j hj0).1 (hV.2.2.2.2.2.2.2 k hk0)) gX4_ownerSeenBy_X4_seenFrom rfl ⟨rfl, rfl⟩ (by decide +kernel) ⟨Nat.le_of_ble_eq_true rfl, Nat.le_of_ble_eq_true rfl⟩ hF (hF _ _ hH.1) rfl rfl hl.1 rfl (Nat.le_of_ble_eq_true rfl) ⟨Nat.zero_le _, Nat.zero_le _⟩ dX4_ownerSeenBy_19 ?_
  refine W.eq (g2 := F0 m 22 ls [.int (nI (rn_see σ (σ.pl j) (σ.fo k)))]) rfl ?_
  exact rn_iret hx hb hr rfl hlocks rfl dX4_ownerSeenBy_22

set_option maxHeartbeats 4000000 in
set_option maxRecDepth 100000 in
theorem x_makeRoom_p (l : Launch) (hfl : l.stackTraces = false) {D : va_G} {cR cP cF : ClassId} {h0 aR aP aF : Nat} {ra pa fa : Nat → Nat} {hd : Nat → Option Nat} {dh : Option Nat} {f : rn_T} {σ : rn_St} (hV : rn_V σ) (hC : rn_CI cR cP cF h0 aR aP aF ra pa fa hd dh f σ) {x  : Int32} (hno : ¬ ∃ i, i < σ.pn ∧ x = nI i) (sz : Nat) : rn_X l yX4_makeRoom wsX4_makeRoom ({ frames := 7, cells := 1, slots := 6, locals := 104 } : Room) D (rn_tys cR cP cF) (rn_S D f) [.ref h0, .int x] "java/lang/IndexOutOfBoundsException" sz := by
  refine rn_X.ofW (cc := cX4_makeRoom) (maxL := 4) (ret := (some .int)) (by decide) rfl (Nat.le_of_ble_eq_true rfl) (fun p e s m below meth c ls hx hb hr hml hts hown hlocks hsz hF hG hE hout hl => ?_)
  have hl : lv_has ls 4 [(0, .ref h0), (1, .int x)] := hl
  obtain ⟨hH, hR, hQ, hI, hdr, hip, hif⟩ := id hC
  refine lv_aload_n hx hb dX4_makeRoom_0 rfl (lv_at hl 0 rfl) ?_
  refine lv_iload_n hx hb dX4_makeRoom_1 rfl (lv_at hl 1 rfl) ?_
  exact rn_xV (As := [.int x]) (rest := []) 1 hx hb hml hown hts hG hE hsz hout hlocks (x_processAt l hfl hV hH hno sz) gX4_makeRoom_X4_processAt rfl ⟨rfl, rfl⟩ (by decide +kernel) ⟨Nat.le_of_ble_eq_true rfl, Nat.le_of_ble_eq_true rfl⟩ hF (hF _ _ hH.1) rfl rfl hl.1 rfl (Nat.le_of_ble_eq_true rfl) ⟨Nat.le_refl _, Nat.le_refl _⟩ dX4_makeRoom_2

set_option maxHeartbeats 4000000 in
set_option maxRecDepth 100000 in
theorem x_fork_p (l : Launch) (hfl : l.stackTraces = false) {D : va_G} {cR cP cF : ClassId} {h0 aR aP aF : Nat} {ra pa fa : Nat → Nat} {hd : Nat → Option Nat} {dh : Option Nat} {f : rn_T} {σ : rn_St} (hV : rn_V σ) (hC : rn_CI cR cP cF h0 aR aP aF ra pa fa hd dh f σ) {x  : Int32} (hno : ¬ ∃ i, i < σ.pn ∧ x = nI i) (sz : Nat) : rn_X l yX4_fork wsX4_fork ({ frames := 7, cells := 1, slots := 6, locals := 104 } : Room) D (rn_tys cR cP cF) (rn_S D f) [.ref h0, .int x] "java/lang/IndexOutOfBoundsException" sz := by
  refine rn_X.ofW (cc := cX4_fork) (maxL := 4) (ret := (some .int)) (by decide) rfl (Nat.le_of_ble_eq_true rfl) (fun p e s m below meth c ls hx hb hr hml hts hown hlocks hsz hF hG hE hout hl => ?_)
  have hl : lv_has ls 4 [(0, .ref h0), (1, .int x)] := hl
  obtain ⟨hH, hR, hQ, hI, hdr, hip, hif⟩ := id hC
  refine lv_aload_n hx hb dX4_fork_0 rfl (lv_at hl 0 rfl) ?_
  refine lv_iload_n hx hb dX4_fork_1 rfl (lv_at hl 1 rfl) ?_
  exact rn_xV (As := [.int x]) (rest := []) 1 hx hb hml hown hts hG hE hsz hout hlocks (x_processAt l hfl hV hH hno sz) gX4_fork_X4_processAt rfl ⟨rfl, rfl⟩ (by decide +kernel) ⟨Nat.le_of_ble_eq_true rfl, Nat.le_of_ble_eq_true rfl⟩ hF (hF _ _ hH.1) rfl rfl hl.1 rfl (Nat.le_of_ble_eq_true rfl) ⟨Nat.le_refl _, Nat.le_refl _⟩ dX4_fork_2

set_option maxHeartbeats 4000000 in
set_option maxRecDepth 100000 in
theorem x_roomOf_p (l : Launch) (hfl : l.stackTraces = false) {D : va_G} {cR cP cF : ClassId} {h0 aR aP aF : Nat} {ra pa fa : Nat → Nat} {hd : Nat → Option Nat} {dh : Option Nat} {f : rn_T} {σ : rn_St} (hV : rn_V σ) (hC : rn_CI cR cP cF h0 aR aP aF ra pa fa hd dh f σ) {x  : Int32} (hno : ¬ ∃ i, i < σ.pn ∧ x = nI i) (sz : Nat) : rn_X l yX4_roomOf wsX4_roomOf ({ frames := 7, cells := 1, slots := 6, locals := 104 } : Room) D (rn_tys cR cP cF) (rn_S D f) [.ref h0, .int x] "java/lang/IndexOutOfBoundsException" sz := by
  refine rn_X.ofW (cc := cX4_roomOf) (maxL := 2) (ret := (some .int)) (by decide) rfl (Nat.le_of_ble_eq_true rfl) (fun p e s m below meth c ls hx hb hr hml hts hown hlocks hsz hF hG hE hout hl => ?_)
  have hl : lv_has ls 2 [(0, .ref h0), (1, .int x)] := hl
  obtain ⟨hH, hR, hQ, hI, hdr, hip, hif⟩ := id hC
  refine lv_aload_n hx hb dX4_roomOf_0 rfl (lv_at hl 0 rfl) ?_
  refine lv_iload_n hx hb dX4_roomOf_1 rfl (lv_at hl 1 rfl) ?_
  exact rn_xV (As := [.int x]) (rest := []) 1 hx hb hml hown hts hG hE hsz hout hlocks (x_processAt l hfl hV hH hno sz) gX4_roomOf_X4_processAt rfl ⟨rfl, rfl⟩ (by decide +kernel) ⟨Nat.le_of_ble_eq_true rfl, Nat.le_of_ble_eq_true rfl⟩ hF (hF _ _ hH.1) rfl rfl hl.1 rfl (Nat.le_of_ble_eq_true rfl) ⟨Nat.le_refl _, Nat.le_refl _⟩ dX4_roomOf_2

set_option maxHeartbeats 4000000 in
set_option maxRecDepth 100000 in
theorem x_numberOf_p (l : Launch) (hfl : l.stackTraces = false) {D : va_G} {cR cP cF : ClassId} {h0 aR aP aF : Nat} {ra pa fa : Nat → Nat} {hd : Nat → Option Nat} {dh : Option Nat} {f : rn_T} {σ : rn_St} (hV : rn_V σ) (hC : rn_CI cR cP cF h0 aR aP aF ra pa fa hd dh f σ) {x  : Int32} (hno : ¬ ∃ i, i < σ.pn ∧ x = nI i) (sz : Nat) : rn_X l yX4_numberOf wsX4_numberOf ({ frames := 7, cells := 1, slots := 6, locals := 104 } : Room) D (rn_tys cR cP cF) (rn_S D f) [.ref h0, .int x] "java/lang/IndexOutOfBoundsException" sz := by
  refine rn_X.ofW (cc := cX4_numberOf) (maxL := 2) (ret := (some .int)) (by decide) rfl (Nat.le_of_ble_eq_true rfl) (fun p e s m below meth c ls hx hb hr hml hts hown hlocks hsz hF hG hE hout hl => ?_)
  have hl : lv_has ls 2 [(0, .ref h0), (1, .int x)] := hl
  obtain ⟨hH, hR, hQ, hI, hdr, hip, hif⟩ := id hC
  refine lv_aload_n hx hb dX4_numberOf_0 rfl (lv_at hl 0 rfl) ?_
  refine lv_iload_n hx hb dX4_numberOf_1 rfl (lv_at hl 1 rfl) ?_
  exact rn_xV (As := [.int x]) (rest := []) 1 hx hb hml hown hts hG hE hsz hout hlocks (x_processAt l hfl hV hH hno sz) gX4_numberOf_X4_processAt rfl ⟨rfl, rfl⟩ (by decide +kernel) ⟨Nat.le_of_ble_eq_true rfl, Nat.le_of_ble_eq_true rfl⟩ hF (hF _ _ hH.1) rfl rfl hl.1 rfl (Nat.le_of_ble_eq_true rfl) ⟨Nat.le_refl _, Nat.le_refl _⟩ dX4_numberOf_2

set_option maxHeartbeats 4000000 in
set_option maxRecDepth 100000 in
theorem x_writeMap_p (l : Launch) (hfl : l.stackTraces = false) {D : va_G} {cR cP cF : ClassId} {h0 aR aP aF : Nat} {ra pa fa : Nat → Nat} {hd : Nat → Option Nat} {dh : Option Nat} {f : rn_T} {σ : rn_St} (hV : rn_V σ) (hC : rn_CI cR cP cF h0 aR aP aF ra pa fa hd dh f σ) {x e1 : Int32} (hno : ¬ ∃ i, i < σ.pn ∧ x = nI i) (sz : Nat) : rn_X l yX4_writeMap wsX4_writeMap ({ frames := 7, cells := 1, slots := 6, locals := 104 } : Room) D (rn_tys cR cP cF) (rn_S D f) [.ref h0, .int x, .int e1] "java/lang/IndexOutOfBoundsException" sz := by
  refine rn_X.ofW (cc := cX4_writeMap) (maxL := 8) (ret := (some .int)) (by decide) rfl (Nat.le_of_ble_eq_true rfl) (fun p e s m below meth c ls hx hb hr hml hts hown hlocks hsz hF hG hE hout hl => ?_)
  have hl : lv_has ls 8 [(0, .ref h0), (1, .int x), (2, .int e1)] := hl
  obtain ⟨hH, hR, hQ, hI, hdr, hip, hif⟩ := id hC
  refine lv_aload_n hx hb dX4_writeMap_0 rfl (lv_at hl 0 rfl) ?_
  refine lv_iload_n hx hb dX4_writeMap_1 rfl (lv_at hl 1 rfl) ?_
  exact rn_xV (As := [.int x]) (rest := []) 1 hx hb hml hown hts hG hE hsz hout hlocks (x_processAt l hfl hV hH hno sz) gX4_writeMap_X4_processAt rfl ⟨rfl, rfl⟩ (by decide +kernel) ⟨Nat.le_of_ble_eq_true rfl, Nat.le_of_ble_eq_true rfl⟩ hF (hF _ _ hH.1) rfl rfl hl.1 rfl (Nat.le_of_ble_eq_true rfl) ⟨Nat.le_refl _, Nat.le_refl _⟩ dX4_writeMap_2

set_option maxHeartbeats 4000000 in
set_option maxRecDepth 100000 in
theorem x_enter_p (l : Launch) (hfl : l.stackTraces = false) {D : va_G} {cR cP cF : ClassId} {h0 aR aP aF : Nat} {ra pa fa : Nat → Nat} {hd : Nat → Option Nat} {dh : Option Nat} {f : rn_T} {σ : rn_St} (hV : rn_V σ) (hC : rn_CI cR cP cF h0 aR aP aF ra pa fa hd dh f σ) {x e1 : Int32} (hno : ¬ ∃ i, i < σ.pn ∧ x = nI i) (sz : Nat) : rn_X l yX4_enter wsX4_enter ({ frames := 7, cells := 1, slots := 6, locals := 104 } : Room) D (rn_tys cR cP cF) (rn_S D f) [.ref h0, .int x, .int e1] "java/lang/IndexOutOfBoundsException" sz := by
  refine rn_X.ofW (cc := cX4_enter) (maxL := 5) (ret := (some .int)) (by decide) rfl (Nat.le_of_ble_eq_true rfl) (fun p e s m below meth c ls hx hb hr hml hts hown hlocks hsz hF hG hE hout hl => ?_)
  have hl : lv_has ls 5 [(0, .ref h0), (1, .int x), (2, .int e1)] := hl
  obtain ⟨hH, hR, hQ, hI, hdr, hip, hif⟩ := id hC
  refine lv_aload_n hx hb dX4_enter_0 rfl (lv_at hl 0 rfl) ?_
  refine lv_iload_n hx hb dX4_enter_1 rfl (lv_at hl 1 rfl) ?_
  exact rn_xV (As := [.int x]) (rest := []) 1 hx hb hml hown hts hG hE hsz hout hlocks (x_processAt l hfl hV hH hno sz) gX4_enter_X4_processAt rfl ⟨rfl, rfl⟩ (by decide +kernel) ⟨Nat.le_of_ble_eq_true rfl, Nat.le_of_ble_eq_true rfl⟩ hF (hF _ _ hH.1) rfl rfl hl.1 rfl (Nat.le_of_ble_eq_true rfl) ⟨Nat.le_refl _, Nat.le_refl _⟩ dX4_enter_2

set_option maxHeartbeats 4000000 in
set_option maxRecDepth 100000 in
theorem x_drop_p (l : Launch) (hfl : l.stackTraces = false) {D : va_G} {cR cP cF : ClassId} {h0 aR aP aF : Nat} {ra pa fa : Nat → Nat} {hd : Nat → Option Nat} {dh : Option Nat} {f : rn_T} {σ : rn_St} (hV : rn_V σ) (hC : rn_CI cR cP cF h0 aR aP aF ra pa fa hd dh f σ) {x e1 : Int32} (hno : ¬ ∃ i, i < σ.pn ∧ x = nI i) (sz : Nat) : rn_X l yX4_drop wsX4_drop ({ frames := 7, cells := 1, slots := 6, locals := 104 } : Room) D (rn_tys cR cP cF) (rn_S D f) [.ref h0, .int x, .int e1] "java/lang/IndexOutOfBoundsException" sz := by
  refine rn_X.ofW (cc := cX4_drop) (maxL := 4) (ret := (some .int)) (by decide) rfl (Nat.le_of_ble_eq_true rfl) (fun p e s m below meth c ls hx hb hr hml hts hown hlocks hsz hF hG hE hout hl => ?_)
  have hl : lv_has ls 4 [(0, .ref h0), (1, .int x), (2, .int e1)] := hl
  obtain ⟨hH, hR, hQ, hI, hdr, hip, hif⟩ := id hC
  refine lv_aload_n hx hb dX4_drop_0 rfl (lv_at hl 0 rfl) ?_
  refine lv_iload_n hx hb dX4_drop_1 rfl (lv_at hl 1 rfl) ?_
  exact rn_xV (As := [.int x]) (rest := []) 1 hx hb hml hown hts hG hE hsz hout hlocks (x_processAt l hfl hV hH hno sz) gX4_drop_X4_processAt rfl ⟨rfl, rfl⟩ (by decide +kernel) ⟨Nat.le_of_ble_eq_true rfl, Nat.le_of_ble_eq_true rfl⟩ hF (hF _ _ hH.1) rfl rfl hl.1 rfl (Nat.le_of_ble_eq_true rfl) ⟨Nat.le_refl _, Nat.le_refl _⟩ dX4_drop_2

set_option maxHeartbeats 4000000 in
set_option maxRecDepth 100000 in
theorem x_setNumber_p (l : Launch) (hfl : l.stackTraces = false) {D : va_G} {cR cP cF : ClassId} {h0 aR aP aF : Nat} {ra pa fa : Nat → Nat} {hd : Nat → Option Nat} {dh : Option Nat} {f : rn_T} {σ : rn_St} (hV : rn_V σ) (hC : rn_CI cR cP cF h0 aR aP aF ra pa fa hd dh f σ) {x e1 : Int32} (hno : ¬ ∃ i, i < σ.pn ∧ x = nI i) (sz : Nat) : rn_X l yX4_setNumber wsX4_setNumber ({ frames := 7, cells := 1, slots := 6, locals := 104 } : Room) D (rn_tys cR cP cF) (rn_S D f) [.ref h0, .int x, .int e1] "java/lang/IndexOutOfBoundsException" sz := by
  refine rn_X.ofW (cc := cX4_setNumber) (maxL := 5) (ret := (some .int)) (by decide) rfl (Nat.le_of_ble_eq_true rfl) (fun p e s m below meth c ls hx hb hr hml hts hown hlocks hsz hF hG hE hout hl => ?_)
  have hl : lv_has ls 5 [(0, .ref h0), (1, .int x), (2, .int e1)] := hl
  obtain ⟨hH, hR, hQ, hI, hdr, hip, hif⟩ := id hC
  refine lv_aload_n hx hb dX4_setNumber_0 rfl (lv_at hl 0 rfl) ?_
  refine lv_iload_n hx hb dX4_setNumber_1 rfl (lv_at hl 1 rfl) ?_
  exact rn_xV (As := [.int x]) (rest := []) 1 hx hb hml hown hts hG hE hsz hout hlocks (x_processAt l hfl hV hH hno sz) gX4_setNumber_X4_processAt rfl ⟨rfl, rfl⟩ (by decide +kernel) ⟨Nat.le_of_ble_eq_true rfl, Nat.le_of_ble_eq_true rfl⟩ hF (hF _ _ hH.1) rfl rfl hl.1 rfl (Nat.le_of_ble_eq_true rfl) ⟨Nat.le_refl _, Nat.le_refl _⟩ dX4_setNumber_2

set_option maxHeartbeats 4000000 in
set_option maxRecDepth 100000 in
theorem x_rightsIn_p (l : Launch) (hfl : l.stackTraces = false) {D : va_G} {cR cP cF : ClassId} {h0 aR aP aF : Nat} {ra pa fa : Nat → Nat} {hd : Nat → Option Nat} {dh : Option Nat} {f : rn_T} {σ : rn_St} (hV : rn_V σ) (hC : rn_CI cR cP cF h0 aR aP aF ra pa fa hd dh f σ) {x e1 : Int32} (hno : ¬ ∃ i, i < σ.pn ∧ x = nI i) (sz : Nat) : rn_X l yX4_rightsIn wsX4_rightsIn ({ frames := 7, cells := 1, slots := 6, locals := 104 } : Room) D (rn_tys cR cP cF) (rn_S D f) [.ref h0, .int x, .int e1] "java/lang/IndexOutOfBoundsException" sz := by
  refine rn_X.ofW (cc := cX4_rightsIn) (maxL := 4) (ret := (some .int)) (by decide) rfl (Nat.le_of_ble_eq_true rfl) (fun p e s m below meth c ls hx hb hr hml hts hown hlocks hsz hF hG hE hout hl => ?_)
  have hl : lv_has ls 4 [(0, .ref h0), (1, .int x), (2, .int e1)] := hl
  obtain ⟨hH, hR, hQ, hI, hdr, hip, hif⟩ := id hC
  refine lv_aload_n hx hb dX4_rightsIn_0 rfl (lv_at hl 0 rfl) ?_
  refine lv_iload_n hx hb dX4_rightsIn_1 rfl (lv_at hl 1 rfl) ?_
  exact rn_xV (As := [.int x]) (rest := []) 1 hx hb hml hown hts hG hE hsz hout hlocks (x_processAt l hfl hV hH hno sz) gX4_rightsIn_X4_processAt rfl ⟨rfl, rfl⟩ (by decide +kernel) ⟨Nat.le_of_ble_eq_true rfl, Nat.le_of_ble_eq_true rfl⟩ hF (hF _ _ hH.1) rfl rfl hl.1 rfl (Nat.le_of_ble_eq_true rfl) ⟨Nat.le_refl _, Nat.le_refl _⟩ dX4_rightsIn_2

set_option maxHeartbeats 4000000 in
set_option maxRecDepth 100000 in
theorem x_makeFile_p (l : Launch) (hfl : l.stackTraces = false) {D : va_G} {cR cP cF : ClassId} {h0 aR aP aF : Nat} {ra pa fa : Nat → Nat} {hd : Nat → Option Nat} {dh : Option Nat} {f : rn_T} {σ : rn_St} (hV : rn_V σ) (hC : rn_CI cR cP cF h0 aR aP aF ra pa fa hd dh f σ) {x e1 : Int32} (hno : ¬ ∃ i, i < σ.pn ∧ x = nI i) (sz : Nat) : rn_X l yX4_makeFile wsX4_makeFile ({ frames := 7, cells := 1, slots := 6, locals := 104 } : Room) D (rn_tys cR cP cF) (rn_S D f) [.ref h0, .int x, .int e1] "java/lang/IndexOutOfBoundsException" sz := by
  refine rn_X.ofW (cc := cX4_makeFile) (maxL := 5) (ret := (some .int)) (by decide) rfl (Nat.le_of_ble_eq_true rfl) (fun p e s m below meth c ls hx hb hr hml hts hown hlocks hsz hF hG hE hout hl => ?_)
  have hl : lv_has ls 5 [(0, .ref h0), (1, .int x), (2, .int e1)] := hl
  obtain ⟨hH, hR, hQ, hI, hdr, hip, hif⟩ := id hC
  refine lv_aload_n hx hb dX4_makeFile_0 rfl (lv_at hl 0 rfl) ?_
  refine lv_iload_n hx hb dX4_makeFile_1 rfl (lv_at hl 1 rfl) ?_
  exact rn_xV (As := [.int x]) (rest := []) 1 hx hb hml hown hts hG hE hsz hout hlocks (x_processAt l hfl hV hH hno sz) gX4_makeFile_X4_processAt rfl ⟨rfl, rfl⟩ (by decide +kernel) ⟨Nat.le_of_ble_eq_true rfl, Nat.le_of_ble_eq_true rfl⟩ hF (hF _ _ hH.1) rfl rfl hl.1 rfl (Nat.le_of_ble_eq_true rfl) ⟨Nat.le_refl _, Nat.le_refl _⟩ dX4_makeFile_2

set_option maxHeartbeats 4000000 in
set_option maxRecDepth 100000 in
theorem x_handOver_p (l : Launch) (hfl : l.stackTraces = false) {D : va_G} {cR cP cF : ClassId} {h0 aR aP aF : Nat} {ra pa fa : Nat → Nat} {hd : Nat → Option Nat} {dh : Option Nat} {f : rn_T} {σ : rn_St} (hV : rn_V σ) (hC : rn_CI cR cP cF h0 aR aP aF ra pa fa hd dh f σ) {x e1 e2 : Int32} (hno : ¬ ∃ i, i < σ.pn ∧ x = nI i) (sz : Nat) : rn_X l yX4_handOver wsX4_handOver ({ frames := 7, cells := 1, slots := 6, locals := 104 } : Room) D (rn_tys cR cP cF) (rn_S D f) [.ref h0, .int x, .int e1, .int e2] "java/lang/IndexOutOfBoundsException" sz := by
  refine rn_X.ofW (cc := cX4_handOver) (maxL := 7) (ret := (some .int)) (by decide) rfl (Nat.le_of_ble_eq_true rfl) (fun p e s m below meth c ls hx hb hr hml hts hown hlocks hsz hF hG hE hout hl => ?_)
  have hl : lv_has ls 7 [(0, .ref h0), (1, .int x), (2, .int e1), (3, .int e2)] := hl
  obtain ⟨hH, hR, hQ, hI, hdr, hip, hif⟩ := id hC
  refine lv_aload_n hx hb dX4_handOver_0 rfl (lv_at hl 0 rfl) ?_
  refine lv_iload_n hx hb dX4_handOver_1 rfl (lv_at hl 1 rfl) ?_
  exact rn_xV (As := [.int x]) (rest := []) 1 hx hb hml hown hts hG hE hsz hout hlocks (x_processAt l hfl hV hH hno sz) gX4_handOver_X4_processAt rfl ⟨rfl, rfl⟩ (by decide +kernel) ⟨Nat.le_of_ble_eq_true rfl, Nat.le_of_ble_eq_true rfl⟩ hF (hF _ _ hH.1) rfl rfl hl.1 rfl (Nat.le_of_ble_eq_true rfl) ⟨Nat.le_refl _, Nat.le_refl _⟩ dX4_handOver_2

set_option maxHeartbeats 4000000 in
set_option maxRecDepth 100000 in
theorem x_ownerSeenBy_p (l : Launch) (hfl : l.stackTraces = false) {D : va_G} {cR cP cF : ClassId} {h0 aR aP aF : Nat} {ra pa fa : Nat → Nat} {hd : Nat → Option Nat} {dh : Option Nat} {f : rn_T} {σ : rn_St} (hV : rn_V σ) (hC : rn_CI cR cP cF h0 aR aP aF ra pa fa hd dh f σ) {x e1 : Int32} (hno : ¬ ∃ i, i < σ.pn ∧ x = nI i) (sz : Nat) : rn_X l yX4_ownerSeenBy wsX4_ownerSeenBy ({ frames := 7, cells := 1, slots := 6, locals := 104 } : Room) D (rn_tys cR cP cF) (rn_S D f) [.ref h0, .int x, .int e1] "java/lang/IndexOutOfBoundsException" sz := by
  refine rn_X.ofW (cc := cX4_ownerSeenBy) (maxL := 4) (ret := (some .int)) (by decide) rfl (Nat.le_of_ble_eq_true rfl) (fun p e s m below meth c ls hx hb hr hml hts hown hlocks hsz hF hG hE hout hl => ?_)
  have hl : lv_has ls 4 [(0, .ref h0), (1, .int x), (2, .int e1)] := hl
  obtain ⟨hH, hR, hQ, hI, hdr, hip, hif⟩ := id hC
  refine lv_aload_n hx hb dX4_ownerSeenBy_0 rfl (lv_at hl 0 rfl) ?_
  refine lv_iload_n hx hb dX4_ownerSeenBy_1 rfl (lv_at hl 1 rfl) ?_
  exact rn_xV (As := [.int x]) (rest := []) 1 hx hb hml hown hts hG hE hsz hout hlocks (x_processAt l hfl hV hH hno sz) gX4_ownerSeenBy_X4_processAt rfl ⟨rfl, rfl⟩ (by decide +kernel) ⟨Nat.le_of_ble_eq_true rfl, Nat.le_of_ble_eq_true rfl⟩ hF (hF _ _ hH.1) rfl rfl hl.1 rfl (Nat.le_of_ble_eq_true rfl) ⟨Nat.le_refl _, Nat.le_refl _⟩ dX4_ownerSeenBy_2

set_option maxHeartbeats 4000000 in
set_option maxRecDepth 100000 in
theorem x_open_p (l : Launch) (hfl : l.stackTraces = false) {D : va_G} {cR cP cF : ClassId} {h0 aR aP aF : Nat} {ra pa fa : Nat → Nat} {hd : Nat → Option Nat} {dh : Option Nat} {f : rn_T} {σ : rn_St} (hV : rn_V σ) (hC : rn_CI cR cP cF h0 aR aP aF ra pa fa hd dh f σ) {x e1 e2 : Int32} (hno : ¬ ∃ i, i < σ.pn ∧ x = nI i) (sz : Nat) : rn_X l yX4_open wsX4_open ({ frames := 7, cells := 1, slots := 6, locals := 104 } : Room) D (rn_tys cR cP cF) (rn_S D f) [.ref h0, .int x, .int e1, .int e2] "java/lang/IndexOutOfBoundsException" sz := by
  refine rn_X.ofW (cc := cX4_open) (maxL := 6) (ret := (some .int)) (by decide) rfl (Nat.le_of_ble_eq_true rfl) (fun p e s m below meth c ls hx hb hr hml hts hown hlocks hsz hF hG hE hout hl => ?_)
  have hl : lv_has ls 6 [(0, .ref h0), (1, .int x), (2, .int e1), (3, .int e2)] := hl
  obtain ⟨hH, hR, hQ, hI, hdr, hip, hif⟩ := id hC
  refine lv_aload_n hx hb dX4_open_0 rfl (lv_at hl 0 rfl) ?_
  refine lv_iload_n hx hb dX4_open_1 rfl (lv_at hl 1 rfl) ?_
  exact rn_xV (As := [.int x]) (rest := []) 1 hx hb hml hown hts hG hE hsz hout hlocks (x_processAt l hfl hV hH hno sz) gX4_open_X4_processAt rfl ⟨rfl, rfl⟩ (by decide +kernel) ⟨Nat.le_of_ble_eq_true rfl, Nat.le_of_ble_eq_true rfl⟩ hF (hF _ _ hH.1) rfl rfl hl.1 rfl (Nat.le_of_ble_eq_true rfl) ⟨Nat.le_refl _, Nat.le_refl _⟩ dX4_open_2

set_option maxHeartbeats 4000000 in
set_option maxRecDepth 100000 in
theorem x_outerOf_r (l : Launch) (hfl : l.stackTraces = false) {D : va_G} {cR cP cF : ClassId} {h0 aR aP aF : Nat} {ra pa fa : Nat → Nat} {hd : Nat → Option Nat} {dh : Option Nat} {f : rn_T} {σ : rn_St} (hV : rn_V σ) (hC : rn_CI cR cP cF h0 aR aP aF ra pa fa hd dh f σ) {x  : Int32} (hno : ¬ ∃ i, i < σ.sn ∧ x = nI i) (sz : Nat) : rn_X l yX4_outerOf wsX4_outerOf ({ frames := 7, cells := 1, slots := 6, locals := 104 } : Room) D (rn_tys cR cP cF) (rn_S D f) [.ref h0, .int x] "java/lang/IndexOutOfBoundsException" sz := by
  refine rn_X.ofW (cc := cX4_outerOf) (maxL := 2) (ret := (some .int)) (by decide) rfl (Nat.le_of_ble_eq_true rfl) (fun p e s m below meth c ls hx hb hr hml hts hown hlocks hsz hF hG hE hout hl => ?_)
  have hl : lv_has ls 2 [(0, .ref h0), (1, .int x)] := hl
  obtain ⟨hH, hR, hQ, hI, hdr, hip, hif⟩ := id hC
  refine lv_aload_n hx hb dX4_outerOf_0 rfl (lv_at hl 0 rfl) ?_
  refine lv_iload_n hx hb dX4_outerOf_1 rfl (lv_at hl 1 rfl) ?_
  exact rn_xV (As := [.int x]) (rest := []) 1 hx hb hml hown hts hG hE hsz hout hlocks (x_roomAt l hfl hV hH hno sz) gX4_outerOf_X4_roomAt rfl ⟨rfl, rfl⟩ (by decide +kernel) ⟨Nat.le_of_ble_eq_true rfl, Nat.le_of_ble_eq_true rfl⟩ hF (hF _ _ hH.1) rfl rfl hl.1 rfl (Nat.le_of_ble_eq_true rfl) ⟨Nat.le_refl _, Nat.le_refl _⟩ dX4_outerOf_2

set_option maxHeartbeats 4000000 in
set_option maxRecDepth 100000 in
theorem x_leadsTo_r (l : Launch) (hfl : l.stackTraces = false) {D : va_G} {cR cP cF : ClassId} {h0 aR aP aF : Nat} {ra pa fa : Nat → Nat} {hd : Nat → Option Nat} {dh : Option Nat} {f : rn_T} {σ : rn_St} (hV : rn_V σ) (hC : rn_CI cR cP cF h0 aR aP aF ra pa fa hd dh f σ) {x e1 : Int32} (hno : ¬ ∃ i, i < σ.sn ∧ x = nI i) (sz : Nat) : rn_X l yX4_leadsTo wsX4_leadsTo ({ frames := 7, cells := 1, slots := 6, locals := 104 } : Room) D (rn_tys cR cP cF) (rn_S D f) [.ref h0, .int x, .int e1] "java/lang/IndexOutOfBoundsException" sz := by
  refine rn_X.ofW (cc := cX4_leadsTo) (maxL := 4) (ret := (some .int)) (by decide) rfl (Nat.le_of_ble_eq_true rfl) (fun p e s m below meth c ls hx hb hr hml hts hown hlocks hsz hF hG hE hout hl => ?_)
  have hl : lv_has ls 4 [(0, .ref h0), (1, .int x), (2, .int e1)] := hl
  obtain ⟨hH, hR, hQ, hI, hdr, hip, hif⟩ := id hC
  refine lv_aload_n hx hb dX4_leadsTo_0 rfl (lv_at hl 0 rfl) ?_
  refine lv_iload_n hx hb dX4_leadsTo_1 rfl (lv_at hl 1 rfl) ?_
  exact rn_xV (As := [.int x]) (rest := []) 1 hx hb hml hown hts hG hE hsz hout hlocks (x_roomAt l hfl hV hH hno sz) gX4_leadsTo_X4_roomAt rfl ⟨rfl, rfl⟩ (by decide +kernel) ⟨Nat.le_of_ble_eq_true rfl, Nat.le_of_ble_eq_true rfl⟩ hF (hF _ _ hH.1) rfl rfl hl.1 rfl (Nat.le_of_ble_eq_true rfl) ⟨Nat.le_refl _, Nat.le_refl _⟩ dX4_leadsTo_2

set_option maxHeartbeats 4000000 in
set_option maxRecDepth 100000 in
theorem x_seenAs_r (l : Launch) (hfl : l.stackTraces = false) {D : va_G} {cR cP cF : ClassId} {h0 aR aP aF : Nat} {ra pa fa : Nat → Nat} {hd : Nat → Option Nat} {dh : Option Nat} {f : rn_T} {σ : rn_St} (hV : rn_V σ) (hC : rn_CI cR cP cF h0 aR aP aF ra pa fa hd dh f σ) {x e1 : Int32} (hno : ¬ ∃ i, i < σ.sn ∧ x = nI i) (sz : Nat) : rn_X l yX4_seenAs wsX4_seenAs ({ frames := 7, cells := 1, slots := 6, locals := 104 } : Room) D (rn_tys cR cP cF) (rn_S D f) [.ref h0, .int x, .int e1] "java/lang/IndexOutOfBoundsException" sz := by
  refine rn_X.ofW (cc := cX4_seenAs) (maxL := 4) (ret := (some .int)) (by decide) rfl (Nat.le_of_ble_eq_true rfl) (fun p e s m below meth c ls hx hb hr hml hts hown hlocks hsz hF hG hE hout hl => ?_)
  have hl : lv_has ls 4 [(0, .ref h0), (1, .int x), (2, .int e1)] := hl
  obtain ⟨hH, hR, hQ, hI, hdr, hip, hif⟩ := id hC
  refine lv_aload_n hx hb dX4_seenAs_0 rfl (lv_at hl 0 rfl) ?_
  refine lv_iload_n hx hb dX4_seenAs_1 rfl (lv_at hl 1 rfl) ?_
  exact rn_xV (As := [.int x]) (rest := []) 1 hx hb hml hown hts hG hE hsz hout hlocks (x_roomAt l hfl hV hH hno sz) gX4_seenAs_X4_roomAt rfl ⟨rfl, rfl⟩ (by decide +kernel) ⟨Nat.le_of_ble_eq_true rfl, Nat.le_of_ble_eq_true rfl⟩ hF (hF _ _ hH.1) rfl rfl hl.1 rfl (Nat.le_of_ble_eq_true rfl) ⟨Nat.le_refl _, Nat.le_refl _⟩ dX4_seenAs_2

set_option maxHeartbeats 4000000 in
set_option maxRecDepth 100000 in
theorem x_seenByLeading_r (l : Launch) (hfl : l.stackTraces = false) {D : va_G} {cR cP cF : ClassId} {h0 aR aP aF : Nat} {ra pa fa : Nat → Nat} {hd : Nat → Option Nat} {dh : Option Nat} {f : rn_T} {σ : rn_St} (hV : rn_V σ) (hC : rn_CI cR cP cF h0 aR aP aF ra pa fa hd dh f σ) {x e1 : Int32} (hno : ¬ ∃ i, i < σ.sn ∧ x = nI i) (sz : Nat) : rn_X l yX4_seenByLeading wsX4_seenByLeading ({ frames := 7, cells := 1, slots := 6, locals := 104 } : Room) D (rn_tys cR cP cF) (rn_S D f) [.ref h0, .int x, .int e1] "java/lang/IndexOutOfBoundsException" sz := by
  refine rn_X.ofW (cc := cX4_seenByLeading) (maxL := 5) (ret := (some .int)) (by decide) rfl (Nat.le_of_ble_eq_true rfl) (fun p e s m below meth c ls hx hb hr hml hts hown hlocks hsz hF hG hE hout hl => ?_)
  have hl : lv_has ls 5 [(0, .ref h0), (1, .int x), (2, .int e1)] := hl
  obtain ⟨hH, hR, hQ, hI, hdr, hip, hif⟩ := id hC
  refine lv_aload_n hx hb dX4_seenByLeading_0 rfl (lv_at hl 0 rfl) ?_
  refine lv_iload_n hx hb dX4_seenByLeading_1 rfl (lv_at hl 1 rfl) ?_
  exact rn_xV (As := [.int x]) (rest := []) 1 hx hb hml hown hts hG hE hsz hout hlocks (x_roomAt l hfl hV hH hno sz) gX4_seenByLeading_X4_roomAt rfl ⟨rfl, rfl⟩ (by decide +kernel) ⟨Nat.le_of_ble_eq_true rfl, Nat.le_of_ble_eq_true rfl⟩ hF (hF _ _ hH.1) rfl rfl hl.1 rfl (Nat.le_of_ble_eq_true rfl) ⟨Nat.le_refl _, Nat.le_refl _⟩ dX4_seenByLeading_2

set_option maxHeartbeats 4000000 in
set_option maxRecDepth 100000 in
theorem x_writeMap_r (l : Launch) (hfl : l.stackTraces = false) {D : va_G} {cR cP cF : ClassId} {h0 aR aP aF : Nat} {ra pa fa : Nat → Nat} {hd : Nat → Option Nat} {dh : Option Nat} {f : rn_T} {σ : rn_St} (hV : rn_V σ) (hC : rn_CI cR cP cF h0 aR aP aF ra pa fa hd dh f σ) {j : Nat} (hj0 : j < σ.pn) {x : Int32} (hno : ¬ ∃ i, i < σ.sn ∧ x = nI i) (sz : Nat) : rn_X l yX4_writeMap wsX4_writeMap ({ frames := 7, cells := 1, slots := 6, locals := 104 } : Room) D (rn_tys cR cP cF) (rn_S D f) [.ref h0, .int (nI j), .int x] "java/lang/IndexOutOfBoundsException" sz := by
  refine rn_X.ofW (cc := cX4_writeMap) (maxL := 8) (ret := (some .int)) (by decide) rfl (Nat.le_of_ble_eq_true rfl) (fun p e s m below meth c ls hx hb hr hml hts hown hlocks hsz hF hG hE hout hl => ?_)
  have hl : lv_has ls 8 [(0, .ref h0), (1, .int (nI j)), (2, .int x)] := hl
  obtain ⟨hH, hR, hQ, hI, hdr, hip, hif⟩ := id hC
  refine lv_aload_n hx hb dX4_writeMap_0 rfl (lv_at hl 0 rfl) ?_
  refine lv_iload_n hx hb dX4_writeMap_1 rfl (lv_at hl 1 rfl) ?_
  refine rn_cV (As := [.int (nI j)]) (rest := []) 1 hx hb hml hown hts hG (c_processAt l hV hH hj0) gX4_writeMap_X4_processAt rfl ⟨rfl, rfl⟩ (by decide +kernel) ⟨Nat.le_of_ble_eq_true rfl, Nat.le_of_ble_eq_true rfl⟩ hF (hF _ _ hH.1) rfl rfl hl.1 rfl (Nat.le_of_ble_eq_true rfl) ⟨Nat.zero_le _, Nat.zero_le _⟩ dX4_writeMap_2 ?_
  refine W.eq (g2 := F0 m 5 ls [.ref (pa j)]) rfl ?_
  refine lv_astore_n (lv' := [(3, .ref (pa j)), (0, .ref h0), (1, .int (nI j)), (2, .int x)]) hx hb dX4_writeMap_5 rfl hl (by decide) rfl (fun ls hl => ?_)
  refine lv_aload_n hx hb dX4_writeMap_6 rfl (lv_at hl 1 rfl) ?_
  refine lv_iload_n hx hb dX4_writeMap_7 rfl (lv_at hl 3 rfl) ?_
  exact rn_xV (As := [.int x]) (rest := []) 1 hx hb hml hown hts hG hE hsz hout hlocks (x_roomAt l hfl hV hH hno sz) gX4_writeMap_X4_roomAt rfl ⟨rfl, rfl⟩ (by decide +kernel) ⟨Nat.le_of_ble_eq_true rfl, Nat.le_of_ble_eq_true rfl⟩ hF (hF _ _ hH.1) rfl rfl hl.1 rfl (Nat.le_of_ble_eq_true rfl) ⟨Nat.le_refl _, Nat.le_refl _⟩ dX4_writeMap_8

set_option maxHeartbeats 4000000 in
set_option maxRecDepth 100000 in
theorem x_enter_r (l : Launch) (hfl : l.stackTraces = false) {D : va_G} {cR cP cF : ClassId} {h0 aR aP aF : Nat} {ra pa fa : Nat → Nat} {hd : Nat → Option Nat} {dh : Option Nat} {f : rn_T} {σ : rn_St} (hV : rn_V σ) (hC : rn_CI cR cP cF h0 aR aP aF ra pa fa hd dh f σ) {j : Nat} (hj0 : j < σ.pn) {x : Int32} (hno : ¬ ∃ i, i < σ.sn ∧ x = nI i) (sz : Nat) : rn_X l yX4_enter wsX4_enter ({ frames := 7, cells := 1, slots := 6, locals := 104 } : Room) D (rn_tys cR cP cF) (rn_S D f) [.ref h0, .int (nI j), .int x] "java/lang/IndexOutOfBoundsException" sz := by
  refine rn_X.ofW (cc := cX4_enter) (maxL := 5) (ret := (some .int)) (by decide) rfl (Nat.le_of_ble_eq_true rfl) (fun p e s m below meth c ls hx hb hr hml hts hown hlocks hsz hF hG hE hout hl => ?_)
  have hl : lv_has ls 5 [(0, .ref h0), (1, .int (nI j)), (2, .int x)] := hl
  obtain ⟨hH, hR, hQ, hI, hdr, hip, hif⟩ := id hC
  refine lv_aload_n hx hb dX4_enter_0 rfl (lv_at hl 0 rfl) ?_
  refine lv_iload_n hx hb dX4_enter_1 rfl (lv_at hl 1 rfl) ?_
  refine rn_cV (As := [.int (nI j)]) (rest := []) 1 hx hb hml hown hts hG (c_processAt l hV hH hj0) gX4_enter_X4_processAt rfl ⟨rfl, rfl⟩ (by decide +kernel) ⟨Nat.le_of_ble_eq_true rfl, Nat.le_of_ble_eq_true rfl⟩ hF (hF _ _ hH.1) rfl rfl hl.1 rfl (Nat.le_of_ble_eq_true rfl) ⟨Nat.zero_le _, Nat.zero_le _⟩ dX4_enter_2 ?_
  refine W.eq (g2 := F0 m 5 ls [.ref (pa j)]) rfl ?_
  refine lv_astore_n (lv' := [(3, .ref (pa j)), (0, .ref h0), (1, .int (nI j)), (2, .int x)]) hx hb dX4_enter_5 rfl hl (by decide) rfl (fun ls hl => ?_)
  refine lv_aload_n hx hb dX4_enter_6 rfl (lv_at hl 1 rfl) ?_
  refine lv_iload_n hx hb dX4_enter_7 rfl (lv_at hl 3 rfl) ?_
  exact rn_xV (As := [.int x]) (rest := []) 1 hx hb hml hown hts hG hE hsz hout hlocks (x_roomAt l hfl hV hH hno sz) gX4_enter_X4_roomAt rfl ⟨rfl, rfl⟩ (by decide +kernel) ⟨Nat.le_of_ble_eq_true rfl, Nat.le_of_ble_eq_true rfl⟩ hF (hF _ _ hH.1) rfl rfl hl.1 rfl (Nat.le_of_ble_eq_true rfl) ⟨Nat.le_refl _, Nat.le_refl _⟩ dX4_enter_8

set_option maxHeartbeats 4000000 in
set_option maxRecDepth 100000 in
theorem x_rightsIn_r (l : Launch) (hfl : l.stackTraces = false) {D : va_G} {cR cP cF : ClassId} {h0 aR aP aF : Nat} {ra pa fa : Nat → Nat} {hd : Nat → Option Nat} {dh : Option Nat} {f : rn_T} {σ : rn_St} (hV : rn_V σ) (hC : rn_CI cR cP cF h0 aR aP aF ra pa fa hd dh f σ) {j : Nat} (hj0 : j < σ.pn) {x : Int32} (hno : ¬ ∃ i, i < σ.sn ∧ x = nI i) (sz : Nat) : rn_X l yX4_rightsIn wsX4_rightsIn ({ frames := 7, cells := 1, slots := 6, locals := 104 } : Room) D (rn_tys cR cP cF) (rn_S D f) [.ref h0, .int (nI j), .int x] "java/lang/IndexOutOfBoundsException" sz := by
  refine rn_X.ofW (cc := cX4_rightsIn) (maxL := 4) (ret := (some .int)) (by decide) rfl (Nat.le_of_ble_eq_true rfl) (fun p e s m below meth c ls hx hb hr hml hts hown hlocks hsz hF hG hE hout hl => ?_)
  have hl : lv_has ls 4 [(0, .ref h0), (1, .int (nI j)), (2, .int x)] := hl
  obtain ⟨hH, hR, hQ, hI, hdr, hip, hif⟩ := id hC
  refine lv_aload_n hx hb dX4_rightsIn_0 rfl (lv_at hl 0 rfl) ?_
  refine lv_iload_n hx hb dX4_rightsIn_1 rfl (lv_at hl 1 rfl) ?_
  refine rn_cV (As := [.int (nI j)]) (rest := []) 1 hx hb hml hown hts hG (c_processAt l hV hH hj0) gX4_rightsIn_X4_processAt rfl ⟨rfl, rfl⟩ (by decide +kernel) ⟨Nat.le_of_ble_eq_true rfl, Nat.le_of_ble_eq_true rfl⟩ hF (hF _ _ hH.1) rfl rfl hl.1 rfl (Nat.le_of_ble_eq_true rfl) ⟨Nat.zero_le _, Nat.zero_le _⟩ dX4_rightsIn_2 ?_
  refine W.eq (g2 := F0 m 5 ls [.ref (pa j)]) rfl ?_
  refine lv_astore_n (lv' := [(3, .ref (pa j)), (0, .ref h0), (1, .int (nI j)), (2, .int x)]) hx hb dX4_rightsIn_5 rfl hl (by decide) rfl (fun ls hl => ?_)
  refine lv_aload_n hx hb dX4_rightsIn_6 rfl (lv_at hl 0 rfl) ?_
  refine lv_aload_n hx hb dX4_rightsIn_7 rfl (lv_at hl 1 rfl) ?_
  refine lv_iload_n hx hb dX4_rightsIn_8 rfl (lv_at hl 3 rfl) ?_
  exact rn_xV (As := [.int x]) (rest := [.ref (pa j)]) 1 hx hb hml hown hts hG hE hsz hout hlocks (x_roomAt l hfl hV hH hno sz) gX4_rightsIn_X4_roomAt rfl ⟨rfl, rfl⟩ (by decide +kernel) ⟨Nat.le_of_ble_eq_true rfl, Nat.le_of_ble_eq_true rfl⟩ hF (hF _ _ hH.1) rfl rfl hl.1 rfl (Nat.le_of_ble_eq_true rfl) ⟨Nat.le_refl _, Nat.le_refl _⟩ dX4_rightsIn_9

set_option maxHeartbeats 4000000 in
set_option maxRecDepth 100000 in
theorem x_handOver_f (l : Launch) (hfl : l.stackTraces = false) {D : va_G} {cR cP cF : ClassId} {h0 aR aP aF : Nat} {ra pa fa : Nat → Nat} {hd : Nat → Option Nat} {dh : Option Nat} {f : rn_T} {σ : rn_St} (hV : rn_V σ) (hC : rn_CI cR cP cF h0 aR aP aF ra pa fa hd dh f σ) {j : Nat} (hj0 : j < σ.pn) {x e2 : Int32} (hno : ¬ ∃ i, i < σ.fn ∧ x = nI i) (sz : Nat) : rn_X l yX4_handOver wsX4_handOver ({ frames := 7, cells := 1, slots := 6, locals := 104 } : Room) D (rn_tys cR cP cF) (rn_S D f) [.ref h0, .int (nI j), .int x, .int e2] "java/lang/IndexOutOfBoundsException" sz := by
  refine rn_X.ofW (cc := cX4_handOver) (maxL := 7) (ret := (some .int)) (by decide) rfl (Nat.le_of_ble_eq_true rfl) (fun p e s m below meth c ls hx hb hr hml hts hown hlocks hsz hF hG hE hout hl => ?_)
  have hl : lv_has ls 7 [(0, .ref h0), (1, .int (nI j)), (2, .int x), (3, .int e2)] := hl
  obtain ⟨hH, hR, hQ, hI, hdr, hip, hif⟩ := id hC
  refine lv_aload_n hx hb dX4_handOver_0 rfl (lv_at hl 0 rfl) ?_
  refine lv_iload_n hx hb dX4_handOver_1 rfl (lv_at hl 1 rfl) ?_
  refine rn_cV (As := [.int (nI j)]) (rest := []) 1 hx hb hml hown hts hG (c_processAt l hV hH hj0) gX4_handOver_X4_processAt rfl ⟨rfl, rfl⟩ (by decide +kernel) ⟨Nat.le_of_ble_eq_true rfl, Nat.le_of_ble_eq_true rfl⟩ hF (hF _ _ hH.1) rfl rfl hl.1 rfl (Nat.le_of_ble_eq_true rfl) ⟨Nat.zero_le _, Nat.zero_le _⟩ dX4_handOver_2 ?_
  refine W.eq (g2 := F0 m 5 ls [.ref (pa j)]) rfl ?_
  refine lv_astore (lv' := [(4, .ref (pa j)), (0, .ref h0), (1, .int (nI j)), (2, .int x), (3, .int e2)]) hx hb dX4_handOver_5 hl (by decide) rfl (fun ls hl => ?_)
  refine lv_aload_n hx hb dX4_handOver_7 rfl (lv_at hl 1 rfl) ?_
  refine lv_iload_n hx hb dX4_handOver_8 rfl (lv_at hl 3 rfl) ?_
  exact rn_xV (As := [.int x]) (rest := []) 1 hx hb hml hown hts hG hE hsz hout hlocks (x_fileAt l hfl hV hH hno sz) gX4_handOver_X4_fileAt rfl ⟨rfl, rfl⟩ (by decide +kernel) ⟨Nat.le_of_ble_eq_true rfl, Nat.le_of_ble_eq_true rfl⟩ hF (hF _ _ hH.1) rfl rfl hl.1 rfl (Nat.le_of_ble_eq_true rfl) ⟨Nat.le_refl _, Nat.le_refl _⟩ dX4_handOver_9

set_option maxHeartbeats 4000000 in
set_option maxRecDepth 100000 in
theorem x_ownerSeenBy_f (l : Launch) (hfl : l.stackTraces = false) {D : va_G} {cR cP cF : ClassId} {h0 aR aP aF : Nat} {ra pa fa : Nat → Nat} {hd : Nat → Option Nat} {dh : Option Nat} {f : rn_T} {σ : rn_St} (hV : rn_V σ) (hC : rn_CI cR cP cF h0 aR aP aF ra pa fa hd dh f σ) {j : Nat} (hj0 : j < σ.pn) {x  : Int32} (hno : ¬ ∃ i, i < σ.fn ∧ x = nI i) (sz : Nat) : rn_X l yX4_ownerSeenBy wsX4_ownerSeenBy ({ frames := 7, cells := 1, slots := 6, locals := 104 } : Room) D (rn_tys cR cP cF) (rn_S D f) [.ref h0, .int (nI j), .int x] "java/lang/IndexOutOfBoundsException" sz := by
  refine rn_X.ofW (cc := cX4_ownerSeenBy) (maxL := 4) (ret := (some .int)) (by decide) rfl (Nat.le_of_ble_eq_true rfl) (fun p e s m below meth c ls hx hb hr hml hts hown hlocks hsz hF hG hE hout hl => ?_)
  have hl : lv_has ls 4 [(0, .ref h0), (1, .int (nI j)), (2, .int x)] := hl
  obtain ⟨hH, hR, hQ, hI, hdr, hip, hif⟩ := id hC
  refine lv_aload_n hx hb dX4_ownerSeenBy_0 rfl (lv_at hl 0 rfl) ?_
  refine lv_iload_n hx hb dX4_ownerSeenBy_1 rfl (lv_at hl 1 rfl) ?_
  refine rn_cV (As := [.int (nI j)]) (rest := []) 1 hx hb hml hown hts hG (c_processAt l hV hH hj0) gX4_ownerSeenBy_X4_processAt rfl ⟨rfl, rfl⟩ (by decide +kernel) ⟨Nat.le_of_ble_eq_true rfl, Nat.le_of_ble_eq_true rfl⟩ hF (hF _ _ hH.1) rfl rfl hl.1 rfl (Nat.le_of_ble_eq_true rfl) ⟨Nat.zero_le _, Nat.zero_le _⟩ dX4_ownerSeenBy_2 ?_
  refine W.eq (g2 := F0 m 5 ls [.ref (pa j)]) rfl ?_
  refine lv_astore_n (lv' := [(3, .ref (pa j)), (0, .ref h0), (1, .int (nI j)), (2, .int x)]) hx hb dX4_ownerSeenBy_5 rfl hl (by decide) rfl (fun ls hl => ?_)
  refine lv_aload_n hx hb dX4_ownerSeenBy_6 rfl (lv_at hl 1 rfl) ?_
  refine lv_aload_n hx hb dX4_ownerSeenBy_7 rfl (lv_at hl 0 rfl) ?_
  refine rn_get (ci := 1) (v := .ref (ra (σ.pl j))) (C := RX1) (T := TX1) (N := 3) hx hb hts iw_X4_ownerSeenBy_1 hown hG (hF _ _ (hQ j hj0)) rfl 0 (by decide) fw_X4_ownerSeenBy_64 rfl dX4_ownerSeenBy_8 ?_
  refine lv_aload_n hx hb dX4_ownerSeenBy_11 rfl (lv_at hl 1 rfl) ?_
  refine lv_iload_n hx hb dX4_ownerSeenBy_12 rfl (lv_at hl 3 rfl) ?_
  exact rn_xV (As := [.int x]) (rest := [.ref (ra (σ.pl j)), .ref h0]) 1 hx hb hml hown hts hG hE hsz hout hlocks (x_fileAt l hfl hV hH hno sz) gX4_ownerSeenBy_X4_fileAt rfl ⟨rfl, rfl⟩ (by decide +kernel) ⟨Nat.le_of_ble_eq_true rfl, Nat.le_of_ble_eq_true rfl⟩ hF (hF _ _ hH.1) rfl rfl hl.1 rfl (Nat.le_of_ble_eq_true rfl) ⟨Nat.le_refl _, Nat.le_refl _⟩ dX4_ownerSeenBy_13

set_option maxHeartbeats 4000000 in
set_option maxRecDepth 100000 in
theorem x_open_f (l : Launch) (hfl : l.stackTraces = false) {D : va_G} {cR cP cF : ClassId} {h0 aR aP aF : Nat} {ra pa fa : Nat → Nat} {hd : Nat → Option Nat} {dh : Option Nat} {f : rn_T} {σ : rn_St} (hV : rn_V σ) (hC : rn_CI cR cP cF h0 aR aP aF ra pa fa hd dh f σ) {j : Nat} (hj0 : j < σ.pn) {x e2 : Int32} (hno : ¬ ∃ i, i < σ.fn ∧ x = nI i) (sz : Nat) : rn_X l yX4_open wsX4_open ({ frames := 7, cells := 1, slots := 6, locals := 104 } : Room) D (rn_tys cR cP cF) (rn_S D f) [.ref h0, .int (nI j), .int x, .int e2] "java/lang/IndexOutOfBoundsException" sz := by
  refine rn_X.ofW (cc := cX4_open) (maxL := 6) (ret := (some .int)) (by decide) rfl (Nat.le_of_ble_eq_true rfl) (fun p e s m below meth c ls hx hb hr hml hts hown hlocks hsz hF hG hE hout hl => ?_)
  have hl : lv_has ls 6 [(0, .ref h0), (1, .int (nI j)), (2, .int x), (3, .int e2)] := hl
  obtain ⟨hH, hR, hQ, hI, hdr, hip, hif⟩ := id hC
  refine lv_aload_n hx hb dX4_open_0 rfl (lv_at hl 0 rfl) ?_
  refine lv_iload_n hx hb dX4_open_1 rfl (lv_at hl 1 rfl) ?_
  refine rn_cV (As := [.int (nI j)]) (rest := []) 1 hx hb hml hown hts hG (c_processAt l hV hH hj0) gX4_open_X4_processAt rfl ⟨rfl, rfl⟩ (by decide +kernel) ⟨Nat.le_of_ble_eq_true rfl, Nat.le_of_ble_eq_true rfl⟩ hF (hF _ _ hH.1) rfl rfl hl.1 rfl (Nat.le_of_ble_eq_true rfl) ⟨Nat.zero_le _, Nat.zero_le _⟩ dX4_open_2 ?_
  refine W.eq (g2 := F0 m 5 ls [.ref (pa j)]) rfl ?_
  refine lv_astore (lv' := [(4, .ref (pa j)), (0, .ref h0), (1, .int (nI j)), (2, .int x), (3, .int e2)]) hx hb dX4_open_5 hl (by decide) rfl (fun ls hl => ?_)
  refine lv_aload_n hx hb dX4_open_7 rfl (lv_at hl 1 rfl) ?_
  refine lv_iload_n hx hb dX4_open_8 rfl (lv_at hl 3 rfl) ?_
  exact rn_xV (As := [.int x]) (rest := []) 1 hx hb hml hown hts hG hE hsz hout hlocks (x_fileAt l hfl hV hH hno sz) gX4_open_X4_fileAt rfl ⟨rfl, rfl⟩ (by decide +kernel) ⟨Nat.le_of_ble_eq_true rfl, Nat.le_of_ble_eq_true rfl⟩ hF (hF _ _ hH.1) rfl rfl hl.1 rfl (Nat.le_of_ble_eq_true rfl) ⟨Nat.le_refl _, Nat.le_refl _⟩ dX4_open_9

set_option maxHeartbeats 4000000 in
set_option maxRecDepth 100000 in
theorem x_writeMap_0 (l : Launch) (hfl : l.stackTraces = false) {D : va_G} {cR cP cF : ClassId} {h0 aR aP aF : Nat} {ra pa fa : Nat → Nat} {hd : Nat → Option Nat} {dh : Option Nat} {f : rn_T} {σ : rn_St} (hV : rn_V σ) (hC : rn_CI cR cP cF h0 aR aP aF ra pa fa hd dh f σ) {j : Nat} (hj0 : j < σ.pn) (sz : Nat) : rn_X l yX4_writeMap wsX4_writeMap ({ frames := 6, cells := 1, slots := 6, locals := 82 } : Room) D (rn_tys cR cP cF) (rn_S D f) [.ref h0, .int (nI j), .int (nI 0)] "java/lang/IndexOutOfBoundsException" sz := by
  refine rn_X.ofW (cc := cX4_writeMap) (maxL := 8) (ret := (some .int)) (by decide) rfl (Nat.le_of_ble_eq_true rfl) (fun p e s m below meth c ls hx hb hr hml hts hown hlocks hsz hF hG hE hout hl => ?_)
  have hl : lv_has ls 8 [(0, .ref h0), (1, .int (nI j)), (2, .int (nI 0))] := hl
  obtain ⟨hH, hR, hQ, hI, hdr, hip, hif⟩ := id hC
  refine lv_aload_n hx hb dX4_writeMap_0 rfl (lv_at hl 0 rfl) ?_
  refine lv_iload_n hx hb dX4_writeMap_1 rfl (lv_at hl 1 rfl) ?_
  refine rn_cV (As := [.int (nI j)]) (rest := []) 1 hx hb hml hown hts hG (c_processAt l hV hH hj0) gX4_writeMap_X4_processAt rfl ⟨rfl, rfl⟩ (by decide +kernel) ⟨Nat.le_of_ble_eq_true rfl, Nat.le_of_ble_eq_true rfl⟩ hF (hF _ _ hH.1) rfl rfl hl.1 rfl (Nat.le_of_ble_eq_true rfl) ⟨Nat.zero_le _, Nat.zero_le _⟩ dX4_writeMap_2 ?_
  refine W.eq (g2 := F0 m 5 ls [.ref (pa j)]) rfl ?_
  refine lv_astore_n (lv' := [(3, .ref (pa j)), (0, .ref h0), (1, .int (nI j)), (2, .int (nI 0))]) hx hb dX4_writeMap_5 rfl hl (by decide) rfl (fun ls hl => ?_)
  refine lv_aload_n hx hb dX4_writeMap_6 rfl (lv_at hl 1 rfl) ?_
  refine lv_iload_n hx hb dX4_writeMap_7 rfl (lv_at hl 3 rfl) ?_
  refine rn_cV (As := [.int (nI 0)]) (rest := []) 1 hx hb hml hown hts hG (c_roomAt l hV hH (by have := hV.1.1; omega)) gX4_writeMap_X4_roomAt rfl ⟨rfl, rfl⟩ (by decide +kernel) ⟨Nat.le_of_ble_eq_true rfl, Nat.le_of_ble_eq_true rfl⟩ hF (hF _ _ hH.1) rfl rfl hl.1 rfl (Nat.le_of_ble_eq_true rfl) ⟨Nat.zero_le _, Nat.zero_le _⟩ dX4_writeMap_8 ?_
  refine W.eq (g2 := F0 m 11 ls [.ref (ra 0)]) rfl ?_
  refine lv_astore (lv' := [(4, .ref (ra 0)), (3, .ref (pa j)), (0, .ref h0), (1, .int (nI j)), (2, .int (nI 0))]) hx hb dX4_writeMap_11 hl (by decide) rfl (fun ls hl => ?_)
  refine lv_aload hx hb dX4_writeMap_13 (lv_at hl 0 rfl) ?_
  refine rn_get (ci := 3) (v := va_rf (rn_ot σ ra 0)) (C := RX3) (T := TX3) (N := 4) hx hb hts iw_X4_writeMap_3 hown hG (hF _ _ (hR.1 0 (by have := hV.1.1; omega))) rfl 1 (by decide) fw_X4_writeMap_100 rfl dX4_writeMap_15 ?_
  refine rn_astore (lv' := [(5, va_rf (rn_ot σ ra 0)), (4, .ref (ra 0)), (3, .ref (pa j)), (0, .ref h0), (1, .int (nI j)), (2, .int (nI 0))]) hx hb dX4_writeMap_18 hl (by decide) rfl (fun ls hl => ?_)
  refine rn_aload hx hb dX4_writeMap_20 (lv_at hl 0 rfl) ?_
  refine rn_ifnonnull (tgt := 35) hx hb dX4_writeMap_22 (by decide) (fun z_22 c_22 => ?_) (fun c_22 => ?_)
  · cases c_22
  · exact rn_throw (E := "java/lang/IndexOutOfBoundsException") (ik := 103) (is := 105) (ic := 107) (text := "the room 0 has no map") hx hb hfl hown hts hE hsz (by decide +kernel) xk_X4_writeMap_103 xi_X4_writeMap_103 xn_X4_writeMap_103 xh_107 xg_103_107 (by decide) (by decide) (hl.1.trans hml.symm) dX4_writeMap_25 dX4_writeMap_28 dX4_writeMap_29 dX4_writeMap_31 dX4_writeMap_34 hout (by decide) (by decide) (by decide) (by decide) hlocks

set_option maxHeartbeats 4000000 in
set_option maxRecDepth 100000 in
theorem x_leadsTo_n (l : Launch) (hfl : l.stackTraces = false) {D : va_G} {cR cP cF : ClassId} {h0 aR aP aF : Nat} {ra pa fa : Nat → Nat} {hd : Nat → Option Nat} {dh : Option Nat} {f : rn_T} {σ : rn_St} (hV : rn_V σ) (hC : rn_CI cR cP cF h0 aR aP aF ra pa fa hd dh f σ) {i : Nat} (hi0 : i < σ.sn) {x : Int32} (hbad : x < 0 ∨ nI 998 < x) (sz : Nat) : rn_X l yX4_leadsTo wsX4_leadsTo ({ frames := 7, cells := 1, slots := 6, locals := 102 } : Room) D (rn_tys cR cP cF) (rn_S D f) [.ref h0, .int (nI i), .int x] "java/lang/IllegalArgumentException" sz := by
  refine rn_X.ofW (cc := cX4_leadsTo) (maxL := 4) (ret := (some .int)) (by decide) rfl (Nat.le_of_ble_eq_true rfl) (fun p e s m below meth c ls hx hb hr hml hts hown hlocks hsz hF hG hE hout hl => ?_)
  have hl : lv_has ls 4 [(0, .ref h0), (1, .int (nI i)), (2, .int x)] := hl
  obtain ⟨hH, hR, hQ, hI, hdr, hip, hif⟩ := id hC
  refine lv_aload_n hx hb dX4_leadsTo_0 rfl (lv_at hl 0 rfl) ?_
  refine lv_iload_n hx hb dX4_leadsTo_1 rfl (lv_at hl 1 rfl) ?_
  refine rn_cV (As := [.int (nI i)]) (rest := []) 1 hx hb hml hown hts hG (c_roomAt l hV hH hi0) gX4_leadsTo_X4_roomAt rfl ⟨rfl, rfl⟩ (by decide +kernel) ⟨Nat.le_of_ble_eq_true rfl, Nat.le_of_ble_eq_true rfl⟩ hF (hF _ _ hH.1) rfl rfl hl.1 rfl (Nat.le_of_ble_eq_true rfl) ⟨Nat.zero_le _, Nat.zero_le _⟩ dX4_leadsTo_2 ?_
  refine W.eq (g2 := F0 m 5 ls [.ref (ra i)]) rfl ?_
  refine lv_astore_n (lv' := [(3, .ref (ra i)), (0, .ref h0), (1, .int (nI i)), (2, .int x)]) hx hb dX4_leadsTo_5 rfl hl (by decide) rfl (fun ls hl => ?_)
  refine lv_iload_n hx hb dX4_leadsTo_6 rfl (lv_at hl 3 rfl) ?_
  exact rn_xS (As := [.int x]) (rest := []) 1 hx hb hml hown hts hG hE hsz hout hlocks (x_requireNumber l hfl hbad sz) gX4_leadsTo_X4_requireNumber rfl ⟨rfl, rfl⟩ (by decide +kernel) ⟨Nat.le_of_ble_eq_true rfl, Nat.le_of_ble_eq_true rfl⟩ hF rfl hl.1 rfl (Nat.le_of_ble_eq_true rfl) ⟨Nat.le_refl _, Nat.le_refl _⟩ dX4_leadsTo_7

set_option maxHeartbeats 4000000 in
set_option maxRecDepth 100000 in
theorem x_seenAs_n (l : Launch) (hfl : l.stackTraces = false) {D : va_G} {cR cP cF : ClassId} {h0 aR aP aF : Nat} {ra pa fa : Nat → Nat} {hd : Nat → Option Nat} {dh : Option Nat} {f : rn_T} {σ : rn_St} (hV : rn_V σ) (hC : rn_CI cR cP cF h0 aR aP aF ra pa fa hd dh f σ) {i : Nat} (hi0 : i < σ.sn) {x : Int32} (hbad : x < 0 ∨ nI 998 < x) (sz : Nat) : rn_X l yX4_seenAs wsX4_seenAs ({ frames := 7, cells := 1, slots := 6, locals := 102 } : Room) D (rn_tys cR cP cF) (rn_S D f) [.ref h0, .int (nI i), .int x] "java/lang/IllegalArgumentException" sz := by
  refine rn_X.ofW (cc := cX4_seenAs) (maxL := 4) (ret := (some .int)) (by decide) rfl (Nat.le_of_ble_eq_true rfl) (fun p e s m below meth c ls hx hb hr hml hts hown hlocks hsz hF hG hE hout hl => ?_)
  have hl : lv_has ls 4 [(0, .ref h0), (1, .int (nI i)), (2, .int x)] := hl
  obtain ⟨hH, hR, hQ, hI, hdr, hip, hif⟩ := id hC
  refine lv_aload_n hx hb dX4_seenAs_0 rfl (lv_at hl 0 rfl) ?_
  refine lv_iload_n hx hb dX4_seenAs_1 rfl (lv_at hl 1 rfl) ?_
  refine rn_cV (As := [.int (nI i)]) (rest := []) 1 hx hb hml hown hts hG (c_roomAt l hV hH hi0) gX4_seenAs_X4_roomAt rfl ⟨rfl, rfl⟩ (by decide +kernel) ⟨Nat.le_of_ble_eq_true rfl, Nat.le_of_ble_eq_true rfl⟩ hF (hF _ _ hH.1) rfl rfl hl.1 rfl (Nat.le_of_ble_eq_true rfl) ⟨Nat.zero_le _, Nat.zero_le _⟩ dX4_seenAs_2 ?_
  refine W.eq (g2 := F0 m 5 ls [.ref (ra i)]) rfl ?_
  refine lv_astore_n (lv' := [(3, .ref (ra i)), (0, .ref h0), (1, .int (nI i)), (2, .int x)]) hx hb dX4_seenAs_5 rfl hl (by decide) rfl (fun ls hl => ?_)
  refine lv_iload_n hx hb dX4_seenAs_6 rfl (lv_at hl 3 rfl) ?_
  exact rn_xS (As := [.int x]) (rest := []) 1 hx hb hml hown hts hG hE hsz hout hlocks (x_requireNumber l hfl hbad sz) gX4_seenAs_X4_requireNumber rfl ⟨rfl, rfl⟩ (by decide +kernel) ⟨Nat.le_of_ble_eq_true rfl, Nat.le_of_ble_eq_true rfl⟩ hF rfl hl.1 rfl (Nat.le_of_ble_eq_true rfl) ⟨Nat.le_refl _, Nat.le_refl _⟩ dX4_seenAs_7

set_option maxHeartbeats 4000000 in
set_option maxRecDepth 100000 in
theorem x_seenByLeading_n (l : Launch) (hfl : l.stackTraces = false) {D : va_G} {cR cP cF : ClassId} {h0 aR aP aF : Nat} {ra pa fa : Nat → Nat} {hd : Nat → Option Nat} {dh : Option Nat} {f : rn_T} {σ : rn_St} (hV : rn_V σ) (hC : rn_CI cR cP cF h0 aR aP aF ra pa fa hd dh f σ) {i : Nat} (hi0 : i < σ.sn) {x : Int32} (hbad : x < 0 ∨ nI 998 < x) (sz : Nat) : rn_X l yX4_seenByLeading wsX4_seenByLeading ({ frames := 7, cells := 1, slots := 6, locals := 102 } : Room) D (rn_tys cR cP cF) (rn_S D f) [.ref h0, .int (nI i), .int x] "java/lang/IllegalArgumentException" sz := by
  refine rn_X.ofW (cc := cX4_seenByLeading) (maxL := 5) (ret := (some .int)) (by decide) rfl (Nat.le_of_ble_eq_true rfl) (fun p e s m below meth c ls hx hb hr hml hts hown hlocks hsz hF hG hE hout hl => ?_)
  have hl : lv_has ls 5 [(0, .ref h0), (1, .int (nI i)), (2, .int x)] := hl
  obtain ⟨hH, hR, hQ, hI, hdr, hip, hif⟩ := id hC
  refine lv_aload_n hx hb dX4_seenByLeading_0 rfl (lv_at hl 0 rfl) ?_
  refine lv_iload_n hx hb dX4_seenByLeading_1 rfl (lv_at hl 1 rfl) ?_
  refine rn_cV (As := [.int (nI i)]) (rest := []) 1 hx hb hml hown hts hG (c_roomAt l hV hH hi0) gX4_seenByLeading_X4_roomAt rfl ⟨rfl, rfl⟩ (by decide +kernel) ⟨Nat.le_of_ble_eq_true rfl, Nat.le_of_ble_eq_true rfl⟩ hF (hF _ _ hH.1) rfl rfl hl.1 rfl (Nat.le_of_ble_eq_true rfl) ⟨Nat.zero_le _, Nat.zero_le _⟩ dX4_seenByLeading_2 ?_
  refine W.eq (g2 := F0 m 5 ls [.ref (ra i)]) rfl ?_
  refine lv_astore_n (lv' := [(3, .ref (ra i)), (0, .ref h0), (1, .int (nI i)), (2, .int x)]) hx hb dX4_seenByLeading_5 rfl hl (by decide) rfl (fun ls hl => ?_)
  refine lv_iload_n hx hb dX4_seenByLeading_6 rfl (lv_at hl 3 rfl) ?_
  exact rn_xS (As := [.int x]) (rest := []) 1 hx hb hml hown hts hG hE hsz hout hlocks (x_requireNumber l hfl hbad sz) gX4_seenByLeading_X4_requireNumber rfl ⟨rfl, rfl⟩ (by decide +kernel) ⟨Nat.le_of_ble_eq_true rfl, Nat.le_of_ble_eq_true rfl⟩ hF rfl hl.1 rfl (Nat.le_of_ble_eq_true rfl) ⟨Nat.le_refl _, Nat.le_refl _⟩ dX4_seenByLeading_7

set_option maxHeartbeats 4000000 in
set_option maxRecDepth 100000 in
theorem x_setNumber_n (l : Launch) (hfl : l.stackTraces = false) {D : va_G} {cR cP cF : ClassId} {h0 aR aP aF : Nat} {ra pa fa : Nat → Nat} {hd : Nat → Option Nat} {dh : Option Nat} {f : rn_T} {σ : rn_St} (hV : rn_V σ) (hC : rn_CI cR cP cF h0 aR aP aF ra pa fa hd dh f σ) {j : Nat} (hj0 : j < σ.pn) {x : Int32} (hbad : x < 0 ∨ nI 998 < x) (sz : Nat) : rn_X l yX4_setNumber wsX4_setNumber ({ frames := 7, cells := 1, slots := 6, locals := 102 } : Room) D (rn_tys cR cP cF) (rn_S D f) [.ref h0, .int (nI j), .int x] "java/lang/IllegalArgumentException" sz := by
  refine rn_X.ofW (cc := cX4_setNumber) (maxL := 5) (ret := (some .int)) (by decide) rfl (Nat.le_of_ble_eq_true rfl) (fun p e s m below meth c ls hx hb hr hml hts hown hlocks hsz hF hG hE hout hl => ?_)
  have hl : lv_has ls 5 [(0, .ref h0), (1, .int (nI j)), (2, .int x)] := hl
  obtain ⟨hH, hR, hQ, hI, hdr, hip, hif⟩ := id hC
  refine lv_aload_n hx hb dX4_setNumber_0 rfl (lv_at hl 0 rfl) ?_
  refine lv_iload_n hx hb dX4_setNumber_1 rfl (lv_at hl 1 rfl) ?_
  refine rn_cV (As := [.int (nI j)]) (rest := []) 1 hx hb hml hown hts hG (c_processAt l hV hH hj0) gX4_setNumber_X4_processAt rfl ⟨rfl, rfl⟩ (by decide +kernel) ⟨Nat.le_of_ble_eq_true rfl, Nat.le_of_ble_eq_true rfl⟩ hF (hF _ _ hH.1) rfl rfl hl.1 rfl (Nat.le_of_ble_eq_true rfl) ⟨Nat.zero_le _, Nat.zero_le _⟩ dX4_setNumber_2 ?_
  refine W.eq (g2 := F0 m 5 ls [.ref (pa j)]) rfl ?_
  refine lv_astore_n (lv' := [(3, .ref (pa j)), (0, .ref h0), (1, .int (nI j)), (2, .int x)]) hx hb dX4_setNumber_5 rfl hl (by decide) rfl (fun ls hl => ?_)
  refine lv_iload_n hx hb dX4_setNumber_6 rfl (lv_at hl 3 rfl) ?_
  exact rn_xS (As := [.int x]) (rest := []) 1 hx hb hml hown hts hG hE hsz hout hlocks (x_requireNumber l hfl hbad sz) gX4_setNumber_X4_requireNumber rfl ⟨rfl, rfl⟩ (by decide +kernel) ⟨Nat.le_of_ble_eq_true rfl, Nat.le_of_ble_eq_true rfl⟩ hF rfl hl.1 rfl (Nat.le_of_ble_eq_true rfl) ⟨Nat.le_refl _, Nat.le_refl _⟩ dX4_setNumber_7

set_option maxHeartbeats 4000000 in
set_option maxRecDepth 100000 in
theorem x_handOver_n (l : Launch) (hfl : l.stackTraces = false) {D : va_G} {cR cP cF : ClassId} {h0 aR aP aF : Nat} {ra pa fa : Nat → Nat} {hd : Nat → Option Nat} {dh : Option Nat} {f : rn_T} {σ : rn_St} (hV : rn_V σ) (hC : rn_CI cR cP cF h0 aR aP aF ra pa fa hd dh f σ) {j k : Nat} (hj0 : j < σ.pn) (hk0 : k < σ.fn) {x : Int32} (hbad : x < 0 ∨ nI 998 < x) (sz : Nat) : rn_X l yX4_handOver wsX4_handOver ({ frames := 7, cells := 1, slots := 6, locals := 102 } : Room) D (rn_tys cR cP cF) (rn_S D f) [.ref h0, .int (nI j), .int (nI k), .int x] "java/lang/IllegalArgumentException" sz := by
  refine rn_X.ofW (cc := cX4_handOver) (maxL := 7) (ret := (some .int)) (by decide) rfl (Nat.le_of_ble_eq_true rfl) (fun p e s m below meth c ls hx hb hr hml hts hown hlocks hsz hF hG hE hout hl => ?_)
  have hl : lv_has ls 7 [(0, .ref h0), (1, .int (nI j)), (2, .int (nI k)), (3, .int x)] := hl
  obtain ⟨hH, hR, hQ, hI, hdr, hip, hif⟩ := id hC
  refine lv_aload_n hx hb dX4_handOver_0 rfl (lv_at hl 0 rfl) ?_
  refine lv_iload_n hx hb dX4_handOver_1 rfl (lv_at hl 1 rfl) ?_
  refine rn_cV (As := [.int (nI j)]) (rest := []) 1 hx hb hml hown hts hG (c_processAt l hV hH hj0) gX4_handOver_X4_processAt rfl ⟨rfl, rfl⟩ (by decide +kernel) ⟨Nat.le_of_ble_eq_true rfl, Nat.le_of_ble_eq_true rfl⟩ hF (hF _ _ hH.1) rfl rfl hl.1 rfl (Nat.le_of_ble_eq_true rfl) ⟨Nat.zero_le _, Nat.zero_le _⟩ dX4_handOver_2 ?_
  refine W.eq (g2 := F0 m 5 ls [.ref (pa j)]) rfl ?_
  refine lv_astore (lv' := [(4, .ref (pa j)), (0, .ref h0), (1, .int (nI j)), (2, .int (nI k)), (3, .int x)]) hx hb dX4_handOver_5 hl (by decide) rfl (fun ls hl => ?_)
  refine lv_aload_n hx hb dX4_handOver_7 rfl (lv_at hl 1 rfl) ?_
  refine lv_iload_n hx hb dX4_handOver_8 rfl (lv_at hl 3 rfl) ?_
  refine rn_cV (As := [.int (nI k)]) (rest := []) 1 hx hb hml hown hts hG (c_fileAt l hV hH hk0) gX4_handOver_X4_fileAt rfl ⟨rfl, rfl⟩ (by decide +kernel) ⟨Nat.le_of_ble_eq_true rfl, Nat.le_of_ble_eq_true rfl⟩ hF (hF _ _ hH.1) rfl rfl hl.1 rfl (Nat.le_of_ble_eq_true rfl) ⟨Nat.zero_le _, Nat.zero_le _⟩ dX4_handOver_9 ?_
  refine W.eq (g2 := F0 m 12 ls [.ref (fa k)]) rfl ?_
  refine lv_astore (lv' := [(5, .ref (fa k)), (4, .ref (pa j)), (0, .ref h0), (1, .int (nI j)), (2, .int (nI k)), (3, .int x)]) hx hb dX4_handOver_12 hl (by decide) rfl (fun ls hl => ?_)
  refine lv_iload_n hx hb dX4_handOver_14 rfl (lv_at hl 5 rfl) ?_
  exact rn_xS (As := [.int x]) (rest := []) 1 hx hb hml hown hts hG hE hsz hout hlocks (x_requireNumber l hfl hbad sz) gX4_handOver_X4_requireNumber rfl ⟨rfl, rfl⟩ (by decide +kernel) ⟨Nat.le_of_ble_eq_true rfl, Nat.le_of_ble_eq_true rfl⟩ hF rfl hl.1 rfl (Nat.le_of_ble_eq_true rfl) ⟨Nat.le_refl _, Nat.le_refl _⟩ dX4_handOver_15

set_option maxHeartbeats 4000000 in
set_option maxRecDepth 100000 in
theorem x_drop_n (l : Launch) (hfl : l.stackTraces = false) {D : va_G} {cR cP cF : ClassId} {h0 aR aP aF : Nat} {ra pa fa : Nat → Nat} {hd : Nat → Option Nat} {dh : Option Nat} {f : rn_T} {σ : rn_St} (hV : rn_V σ) (hC : rn_CI cR cP cF h0 aR aP aF ra pa fa hd dh f σ) {j : Nat} (hj0 : j < σ.pn) {x : Int32} (hbad : x < 0 ∨ nI 15 < x) (sz : Nat) : rn_X l yX4_drop wsX4_drop ({ frames := 6, cells := 1, slots := 6, locals := 82 } : Room) D (rn_tys cR cP cF) (rn_S D f) [.ref h0, .int (nI j), .int x] "java/lang/IllegalArgumentException" sz := by
  refine rn_X.ofW (cc := cX4_drop) (maxL := 4) (ret := (some .int)) (by decide) rfl (Nat.le_of_ble_eq_true rfl) (fun p e s m below meth c ls hx hb hr hml hts hown hlocks hsz hF hG hE hout hl => ?_)
  have hl : lv_has ls 4 [(0, .ref h0), (1, .int (nI j)), (2, .int x)] := hl
  obtain ⟨hH, hR, hQ, hI, hdr, hip, hif⟩ := id hC
  refine lv_aload_n hx hb dX4_drop_0 rfl (lv_at hl 0 rfl) ?_
  refine lv_iload_n hx hb dX4_drop_1 rfl (lv_at hl 1 rfl) ?_
  refine rn_cV (As := [.int (nI j)]) (rest := []) 1 hx hb hml hown hts hG (c_processAt l hV hH hj0) gX4_drop_X4_processAt rfl ⟨rfl, rfl⟩ (by decide +kernel) ⟨Nat.le_of_ble_eq_true rfl, Nat.le_of_ble_eq_true rfl⟩ hF (hF _ _ hH.1) rfl rfl hl.1 rfl (Nat.le_of_ble_eq_true rfl) ⟨Nat.zero_le _, Nat.zero_le _⟩ dX4_drop_2 ?_
  refine W.eq (g2 := F0 m 5 ls [.ref (pa j)]) rfl ?_
  refine lv_astore_n (lv' := [(3, .ref (pa j)), (0, .ref h0), (1, .int (nI j)), (2, .int x)]) hx hb dX4_drop_5 rfl hl (by decide) rfl (fun ls hl => ?_)
  refine lv_iload_n hx hb dX4_drop_6 rfl (lv_at hl 3 rfl) ?_
  refine lv_if_lt (tgt := 16) hx hb dX4_drop_7 (by decide) (fun c_7 => ?_) (fun c_7 => ?_)
  · exact rn_throw (E := "java/lang/IllegalArgumentException") (ik := 80) (is := 152) (ic := 84) (text := "rights are 0 to 15") hx hb hfl hown hts hE hsz (by decide +kernel) xk_X4_drop_80 xi_X4_drop_80 xn_X4_drop_80 xh_84 xg_80_84 (by decide) (by decide) (hl.1.trans hml.symm) dX4_drop_16 dX4_drop_19 dX4_drop_20 dX4_drop_22 dX4_drop_25 hout (by decide) (by decide) (by decide) (by decide) hlocks
  · refine lv_iload_n hx hb dX4_drop_10 rfl (lv_at hl 3 rfl) ?_
    refine lv_bipush (v := 15) hx hb dX4_drop_11 (by decide +kernel) ?_
    refine lv_icmp_le (tgt := 26) hx hb dX4_drop_13 (by decide) (fun c_13 => ?_) (fun c_13 => ?_)
    · exact absurd c_13 (rn_nle (hbad.elim (fun h => absurd h c_7) id))
    · exact rn_throw (E := "java/lang/IllegalArgumentException") (ik := 80) (is := 152) (ic := 84) (text := "rights are 0 to 15") hx hb hfl hown hts hE hsz (by decide +kernel) xk_X4_drop_80 xi_X4_drop_80 xn_X4_drop_80 xh_84 xg_80_84 (by decide) (by decide) (hl.1.trans hml.symm) dX4_drop_16 dX4_drop_19 dX4_drop_20 dX4_drop_22 dX4_drop_25 hout (by decide) (by decide) (by decide) (by decide) hlocks

set_option maxHeartbeats 4000000 in
set_option maxRecDepth 100000 in
theorem x_makeFile_n (l : Launch) (hfl : l.stackTraces = false) {D : va_G} {cR cP cF : ClassId} {h0 aR aP aF : Nat} {ra pa fa : Nat → Nat} {hd : Nat → Option Nat} {dh : Option Nat} {f : rn_T} {σ : rn_St} (hV : rn_V σ) (hC : rn_CI cR cP cF h0 aR aP aF ra pa fa hd dh f σ) {j : Nat} (hj0 : j < σ.pn) {x : Int32} (hbad : x < 0 ∨ nI 15 < x) (sz : Nat) : rn_X l yX4_makeFile wsX4_makeFile ({ frames := 6, cells := 1, slots := 6, locals := 82 } : Room) D (rn_tys cR cP cF) (rn_S D f) [.ref h0, .int (nI j), .int x] "java/lang/IllegalArgumentException" sz := by
  refine rn_X.ofW (cc := cX4_makeFile) (maxL := 5) (ret := (some .int)) (by decide) rfl (Nat.le_of_ble_eq_true rfl) (fun p e s m below meth c ls hx hb hr hml hts hown hlocks hsz hF hG hE hout hl => ?_)
  have hl : lv_has ls 5 [(0, .ref h0), (1, .int (nI j)), (2, .int x)] := hl
  obtain ⟨hH, hR, hQ, hI, hdr, hip, hif⟩ := id hC
  refine lv_aload_n hx hb dX4_makeFile_0 rfl (lv_at hl 0 rfl) ?_
  refine lv_iload_n hx hb dX4_makeFile_1 rfl (lv_at hl 1 rfl) ?_
  refine rn_cV (As := [.int (nI j)]) (rest := []) 1 hx hb hml hown hts hG (c_processAt l hV hH hj0) gX4_makeFile_X4_processAt rfl ⟨rfl, rfl⟩ (by decide +kernel) ⟨Nat.le_of_ble_eq_true rfl, Nat.le_of_ble_eq_true rfl⟩ hF (hF _ _ hH.1) rfl rfl hl.1 rfl (Nat.le_of_ble_eq_true rfl) ⟨Nat.zero_le _, Nat.zero_le _⟩ dX4_makeFile_2 ?_
  refine W.eq (g2 := F0 m 5 ls [.ref (pa j)]) rfl ?_
  refine lv_astore_n (lv' := [(3, .ref (pa j)), (0, .ref h0), (1, .int (nI j)), (2, .int x)]) hx hb dX4_makeFile_5 rfl hl (by decide) rfl (fun ls hl => ?_)
  refine lv_iload_n hx hb dX4_makeFile_6 rfl (lv_at hl 3 rfl) ?_
  refine lv_if_lt (tgt := 16) hx hb dX4_makeFile_7 (by decide) (fun c_7 => ?_) (fun c_7 => ?_)
  · exact rn_throw (E := "java/lang/IllegalArgumentException") (ik := 80) (is := 161) (ic := 84) (text := "a mode is 0 to 15") hx hb hfl hown hts hE hsz (by decide +kernel) xk_X4_makeFile_80 xi_X4_makeFile_80 xn_X4_makeFile_80 xh_84 xg_80_84 (by decide) (by decide) (hl.1.trans hml.symm) dX4_makeFile_16 dX4_makeFile_19 dX4_makeFile_20 dX4_makeFile_22 dX4_makeFile_25 hout (by decide) (by decide) (by decide) (by decide) hlocks
  · refine lv_iload_n hx hb dX4_makeFile_10 rfl (lv_at hl 3 rfl) ?_
    refine lv_bipush (v := 15) hx hb dX4_makeFile_11 (by decide +kernel) ?_
    refine lv_icmp_le (tgt := 26) hx hb dX4_makeFile_13 (by decide) (fun c_13 => ?_) (fun c_13 => ?_)
    · exact absurd c_13 (rn_nle (hbad.elim (fun h => absurd h c_7) id))
    · exact rn_throw (E := "java/lang/IllegalArgumentException") (ik := 80) (is := 161) (ic := 84) (text := "a mode is 0 to 15") hx hb hfl hown hts hE hsz (by decide +kernel) xk_X4_makeFile_80 xi_X4_makeFile_80 xn_X4_makeFile_80 xh_84 xg_80_84 (by decide) (by decide) (hl.1.trans hml.symm) dX4_makeFile_16 dX4_makeFile_19 dX4_makeFile_20 dX4_makeFile_22 dX4_makeFile_25 hout (by decide) (by decide) (by decide) (by decide) hlocks

set_option maxHeartbeats 4000000 in
set_option maxRecDepth 100000 in
theorem x_makeRoom_s (l : Launch) (hfl : l.stackTraces = false) {D : va_G} {cR cP cF : ClassId} {h0 aR aP aF : Nat} {ra pa fa : Nat → Nat} {hd : Nat → Option Nat} {dh : Option Nat} {f : rn_T} {σ : rn_St} (hV : rn_V σ) (hC : rn_CI cR cP cF h0 aR aP aF ra pa fa hd dh f σ) {j : Nat} (hj0 : j < σ.pn) (hfull : σ.sn = 10) (sz : Nat) : rn_X l yX4_makeRoom wsX4_makeRoom ({ frames := 6, cells := 1, slots := 6, locals := 82 } : Room) D (rn_tys cR cP cF) (rn_S D f) [.ref h0, .int (nI j)] "java/lang/IllegalStateException" sz := by
  refine rn_X.ofW (cc := cX4_makeRoom) (maxL := 4) (ret := (some .int)) (by decide) rfl (Nat.le_of_ble_eq_true rfl) (fun p e s m below meth c ls hx hb hr hml hts hown hlocks hsz hF hG hE hout hl => ?_)
  have hl : lv_has ls 4 [(0, .ref h0), (1, .int (nI j))] := hl
  obtain ⟨hH, hR, hQ, hI, hdr, hip, hif⟩ := id hC
  refine lv_aload_n hx hb dX4_makeRoom_0 rfl (lv_at hl 0 rfl) ?_
  refine lv_iload_n hx hb dX4_makeRoom_1 rfl (lv_at hl 1 rfl) ?_
  refine rn_cV (As := [.int (nI j)]) (rest := []) 1 hx hb hml hown hts hG (c_processAt l hV hH hj0) gX4_makeRoom_X4_processAt rfl ⟨rfl, rfl⟩ (by decide +kernel) ⟨Nat.le_of_ble_eq_true rfl, Nat.le_of_ble_eq_true rfl⟩ hF (hF _ _ hH.1) rfl rfl hl.1 rfl (Nat.le_of_ble_eq_true rfl) ⟨Nat.zero_le _, Nat.zero_le _⟩ dX4_makeRoom_2 ?_
  refine W.eq (g2 := F0 m 5 ls [.ref (pa j)]) rfl ?_
  refine lv_astore_n (lv' := [(2, .ref (pa j)), (0, .ref h0), (1, .int (nI j))]) hx hb dX4_makeRoom_5 rfl hl (by decide) rfl (fun ls hl => ?_)
  refine lv_aload_n hx hb dX4_makeRoom_6 rfl (lv_at hl 1 rfl) ?_
  refine rn_get (ci := 4) (v := .int (nI σ.sn)) (C := RX4) (T := TX4) (N := 9) hx hb hts iw_X4_makeRoom_4 hown hG (hF _ _ hH.1) rfl 1 (by decide) fw_X4_makeRoom_18 rfl dX4_makeRoom_7 ?_
  refine lv_aload_n hx hb dX4_makeRoom_10 rfl (lv_at hl 1 rfl) ?_
  refine rn_get (ci := 4) (v := .ref aR) (C := RX4) (T := TX4) (N := 9) hx hb hts iw_X4_makeRoom_4 hown hG (hF _ _ hH.1) rfl 0 (by decide) fw_X4_makeRoom_14 rfl dX4_makeRoom_11 ?_
  refine rn_alen hx hb hG (hF _ _ hH.2.1) 0 rfl dX4_makeRoom_14 ?_
  refine rn_top (y := .int (nI 10)) rfl ?_
  refine lv_icmp_lt (tgt := 28) hx hb dX4_makeRoom_15 (by decide) (fun c_15 => ?_) (fun c_15 => ?_)
  · exact absurd ((nI_ltI (by omega) (by omega)).mp c_15) (by omega)
  · exact rn_throw (E := "java/lang/IllegalStateException") (ik := 57) (is := 59) (ic := 61) (text := "there are 10 rooms") hx hb hfl hown hts hE hsz (by decide +kernel) xk_X4_makeRoom_57 xi_X4_makeRoom_57 xn_X4_makeRoom_57 xh_61 xg_57_61 (by decide) (by decide) (hl.1.trans hml.symm) dX4_makeRoom_18 dX4_makeRoom_21 dX4_makeRoom_22 dX4_makeRoom_24 dX4_makeRoom_27 hout (by decide) (by decide) (by decide) (by decide) hlocks

set_option maxHeartbeats 4000000 in
set_option maxRecDepth 100000 in
theorem x_fork_s (l : Launch) (hfl : l.stackTraces = false) {D : va_G} {cR cP cF : ClassId} {h0 aR aP aF : Nat} {ra pa fa : Nat → Nat} {hd : Nat → Option Nat} {dh : Option Nat} {f : rn_T} {σ : rn_St} (hV : rn_V σ) (hC : rn_CI cR cP cF h0 aR aP aF ra pa fa hd dh f σ) {j : Nat} (hj0 : j < σ.pn) (hfull : σ.pn = 12) (sz : Nat) : rn_X l yX4_fork wsX4_fork ({ frames := 6, cells := 1, slots := 6, locals := 82 } : Room) D (rn_tys cR cP cF) (rn_S D f) [.ref h0, .int (nI j)] "java/lang/IllegalStateException" sz := by
  refine rn_X.ofW (cc := cX4_fork) (maxL := 4) (ret := (some .int)) (by decide) rfl (Nat.le_of_ble_eq_true rfl) (fun p e s m below meth c ls hx hb hr hml hts hown hlocks hsz hF hG hE hout hl => ?_)
  have hl : lv_has ls 4 [(0, .ref h0), (1, .int (nI j))] := hl
  obtain ⟨hH, hR, hQ, hI, hdr, hip, hif⟩ := id hC
  refine lv_aload_n hx hb dX4_fork_0 rfl (lv_at hl 0 rfl) ?_
  refine lv_iload_n hx hb dX4_fork_1 rfl (lv_at hl 1 rfl) ?_
  refine rn_cV (As := [.int (nI j)]) (rest := []) 1 hx hb hml hown hts hG (c_processAt l hV hH hj0) gX4_fork_X4_processAt rfl ⟨rfl, rfl⟩ (by decide +kernel) ⟨Nat.le_of_ble_eq_true rfl, Nat.le_of_ble_eq_true rfl⟩ hF (hF _ _ hH.1) rfl rfl hl.1 rfl (Nat.le_of_ble_eq_true rfl) ⟨Nat.zero_le _, Nat.zero_le _⟩ dX4_fork_2 ?_
  refine W.eq (g2 := F0 m 5 ls [.ref (pa j)]) rfl ?_
  refine lv_astore_n (lv' := [(2, .ref (pa j)), (0, .ref h0), (1, .int (nI j))]) hx hb dX4_fork_5 rfl hl (by decide) rfl (fun ls hl => ?_)
  refine lv_aload_n hx hb dX4_fork_6 rfl (lv_at hl 1 rfl) ?_
  refine rn_get (ci := 4) (v := .int (nI σ.pn)) (C := RX4) (T := TX4) (N := 9) hx hb hts iw_X4_fork_4 hown hG (hF _ _ hH.1) rfl 3 (by decide) fw_X4_fork_31 rfl dX4_fork_7 ?_
  refine lv_aload_n hx hb dX4_fork_10 rfl (lv_at hl 1 rfl) ?_
  refine rn_get (ci := 4) (v := .ref aP) (C := RX4) (T := TX4) (N := 9) hx hb hts iw_X4_fork_4 hown hG (hF _ _ hH.1) rfl 2 (by decide) fw_X4_fork_24 rfl dX4_fork_11 ?_
  refine rn_alen hx hb hG (hF _ _ hH.2.2.1) 1 rfl dX4_fork_14 ?_
  refine rn_top (y := .int (nI 12)) rfl ?_
  refine lv_icmp_lt (tgt := 28) hx hb dX4_fork_15 (by decide) (fun c_15 => ?_) (fun c_15 => ?_)
  · exact absurd ((nI_ltI (by omega) (by omega)).mp c_15) (by omega)
  · exact rn_throw (E := "java/lang/IllegalStateException") (ik := 57) (is := 147) (ic := 61) (text := "there are 12 processes") hx hb hfl hown hts hE hsz (by decide +kernel) xk_X4_fork_57 xi_X4_fork_57 xn_X4_fork_57 xh_61 xg_57_61 (by decide) (by decide) (hl.1.trans hml.symm) dX4_fork_18 dX4_fork_21 dX4_fork_22 dX4_fork_24 dX4_fork_27 hout (by decide) (by decide) (by decide) (by decide) hlocks

set_option maxHeartbeats 4000000 in
set_option maxRecDepth 100000 in
theorem x_makeFile_s (l : Launch) (hfl : l.stackTraces = false) {D : va_G} {cR cP cF : ClassId} {h0 aR aP aF : Nat} {ra pa fa : Nat → Nat} {hd : Nat → Option Nat} {dh : Option Nat} {f : rn_T} {σ : rn_St} (hV : rn_V σ) (hC : rn_CI cR cP cF h0 aR aP aF ra pa fa hd dh f σ) {j k : Nat} (hj0 : j < σ.pn) (hk0 : k ≤ 15) (hfull : σ.fn = 20) (sz : Nat) : rn_X l yX4_makeFile wsX4_makeFile ({ frames := 6, cells := 1, slots := 6, locals := 82 } : Room) D (rn_tys cR cP cF) (rn_S D f) [.ref h0, .int (nI j), .int (nI k)] "java/lang/IllegalStateException" sz := by
  refine rn_X.ofW (cc := cX4_makeFile) (maxL := 5) (ret := (some .int)) (by decide) rfl (Nat.le_of_ble_eq_true rfl) (fun p e s m below meth c ls hx hb hr hml hts hown hlocks hsz hF hG hE hout hl => ?_)
  have hl : lv_has ls 5 [(0, .ref h0), (1, .int (nI j)), (2, .int (nI k))] := hl
  obtain ⟨hH, hR, hQ, hI, hdr, hip, hif⟩ := id hC
  refine lv_aload_n hx hb dX4_makeFile_0 rfl (lv_at hl 0 rfl) ?_
  refine lv_iload_n hx hb dX4_makeFile_1 rfl (lv_at hl 1 rfl) ?_
  refine rn_cV (As := [.int (nI j)]) (rest := []) 1 hx hb hml hown hts hG (c_processAt l hV hH hj0) gX4_makeFile_X4_processAt rfl ⟨rfl, rfl⟩ (by decide +kernel) ⟨Nat.le_of_ble_eq_true rfl, Nat.le_of_ble_eq_true rfl⟩ hF (hF _ _ hH.1) rfl rfl hl.1 rfl (Nat.le_of_ble_eq_true rfl) ⟨Nat.zero_le _, Nat.zero_le _⟩ dX4_makeFile_2 ?_
  refine W.eq (g2 := F0 m 5 ls [.ref (pa j)]) rfl ?_
  refine lv_astore_n (lv' := [(3, .ref (pa j)), (0, .ref h0), (1, .int (nI j)), (2, .int (nI k))]) hx hb dX4_makeFile_5 rfl hl (by decide) rfl (fun ls hl => ?_)
  refine lv_iload_n hx hb dX4_makeFile_6 rfl (lv_at hl 3 rfl) ?_
  refine lv_if_lt (tgt := 16) hx hb dX4_makeFile_7 (by decide) (fun c_7 => ?_) (fun c_7 => ?_)
  · exact absurd c_7 (nI_pos (by omega))
  · refine lv_iload_n hx hb dX4_makeFile_10 rfl (lv_at hl 3 rfl) ?_
    refine lv_bipush (v := 15) hx hb dX4_makeFile_11 (by decide +kernel) ?_
    refine rn_top (y := .int (nI 15)) (congrArg Value.int (rfl)) ?_
    refine lv_icmp_le (tgt := 26) hx hb dX4_makeFile_13 (by decide) (fun c_13 => ?_) (fun c_13 => ?_)
    · refine lv_aload_n hx hb dX4_makeFile_26 rfl (lv_at hl 1 rfl) ?_
      refine rn_get (ci := 4) (v := .int (nI σ.fn)) (C := RX4) (T := TX4) (N := 9) hx hb hts iw_X4_makeFile_4 hown hG (hF _ _ hH.1) rfl 5 (by decide) fw_X4_makeFile_40 rfl dX4_makeFile_27 ?_
      refine lv_aload_n hx hb dX4_makeFile_30 rfl (lv_at hl 1 rfl) ?_
      refine rn_get (ci := 4) (v := .ref aF) (C := RX4) (T := TX4) (N := 9) hx hb hts iw_X4_makeFile_4 hown hG (hF _ _ hH.1) rfl 4 (by decide) fw_X4_makeFile_36 rfl dX4_makeFile_31 ?_
      refine rn_alen hx hb hG (hF _ _ hH.2.2.2) 2 rfl dX4_makeFile_34 ?_
      refine rn_top (y := .int (nI 20)) rfl ?_
      refine lv_icmp_lt (tgt := 48) hx hb dX4_makeFile_35 (by decide) (fun c_35 => ?_) (fun c_35 => ?_)
      · exact absurd ((nI_ltI (by omega) (by omega)).mp c_35) (by omega)
      · exact rn_throw (E := "java/lang/IllegalStateException") (ik := 57) (is := 163) (ic := 61) (text := "there are 20 files") hx hb hfl hown hts hE hsz (by decide +kernel) xk_X4_makeFile_57 xi_X4_makeFile_57 xn_X4_makeFile_57 xh_61 xg_57_61 (by decide) (by decide) (hl.1.trans hml.symm) dX4_makeFile_38 dX4_makeFile_41 dX4_makeFile_42 dX4_makeFile_44 dX4_makeFile_47 hout (by decide) (by decide) (by decide) (by decide) hlocks
    · exact absurd ((nI_leI (by omega) (by omega)).mpr (by omega)) c_13

set_option maxHeartbeats 4000000 in
set_option maxRecDepth 100000 in
theorem x_line_1 (l : Launch) (hfl : l.stackTraces = false) {D : va_G} {cR cP cF : ClassId} {h0 aR aP aF : Nat} {ra pa fa : Nat → Nat} {hd : Nat → Option Nat} {dh : Option Nat} {f : rn_T} {σ : rn_St} (hV : rn_V σ) (hC : rn_CI cR cP cF h0 aR aP aF ra pa fa hd dh f σ) {x e1 e2 : Int32} (hbad : x < 0 ∨ nI 998 < x) (sz : Nat) : rn_X l yX4_line wsX4_line ({ frames := 7, cells := 1, slots := 6, locals := 102 } : Room) D (rn_tys cR cP cF) (rn_S D f) [.ref h0, .int x, .int e1, .int e2] "java/lang/IllegalArgumentException" sz := by
  refine rn_X.ofW (cc := cX4_line) (maxL := 5) (ret := (some .int)) (by decide) rfl (Nat.le_of_ble_eq_true rfl) (fun p e s m below meth c ls hx hb hr hml hts hown hlocks hsz hF hG hE hout hl => ?_)
  have hl : lv_has ls 5 [(0, .ref h0), (1, .int x), (2, .int e1), (3, .int e2)] := hl
  obtain ⟨hH, hR, hQ, hI, hdr, hip, hif⟩ := id hC
  refine lv_iload_n hx hb dX4_line_0 rfl (lv_at hl 1 rfl) ?_
  exact rn_xS (As := [.int x]) (rest := []) 1 hx hb hml hown hts hG hE hsz hout hlocks (x_requireNumber l hfl hbad sz) gX4_line_X4_requireNumber rfl ⟨rfl, rfl⟩ (by decide +kernel) ⟨Nat.le_of_ble_eq_true rfl, Nat.le_of_ble_eq_true rfl⟩ hF rfl hl.1 rfl (Nat.le_of_ble_eq_true rfl) ⟨Nat.le_refl _, Nat.le_refl _⟩ dX4_line_1

set_option maxHeartbeats 4000000 in
set_option maxRecDepth 100000 in
theorem x_line_2 (l : Launch) (hfl : l.stackTraces = false) {D : va_G} {cR cP cF : ClassId} {h0 aR aP aF : Nat} {ra pa fa : Nat → Nat} {hd : Nat → Option Nat} {dh : Option Nat} {f : rn_T} {σ : rn_St} (hV : rn_V σ) (hC : rn_CI cR cP cF h0 aR aP aF ra pa fa hd dh f σ) {a : Nat} (ha0 : a ≤ 998) {x e2 : Int32} (hbad : x < 0 ∨ nI 998 < x) (sz : Nat) : rn_X l yX4_line wsX4_line ({ frames := 7, cells := 1, slots := 6, locals := 102 } : Room) D (rn_tys cR cP cF) (rn_S D f) [.ref h0, .int (nI a), .int x, .int e2] "java/lang/IllegalArgumentException" sz := by
  refine rn_X.ofW (cc := cX4_line) (maxL := 5) (ret := (some .int)) (by decide) rfl (Nat.le_of_ble_eq_true rfl) (fun p e s m below meth c ls hx hb hr hml hts hown hlocks hsz hF hG hE hout hl => ?_)
  have hl : lv_has ls 5 [(0, .ref h0), (1, .int (nI a)), (2, .int x), (3, .int e2)] := hl
  obtain ⟨hH, hR, hQ, hI, hdr, hip, hif⟩ := id hC
  refine lv_iload_n hx hb dX4_line_0 rfl (lv_at hl 1 rfl) ?_
  refine rn_cS (As := [.int (nI a)]) (rest := []) 1 hx hb hml hown hts hG (c_requireNumber l ha0) gX4_line_X4_requireNumber rfl ⟨rfl, rfl⟩ (by decide +kernel) ⟨Nat.le_of_ble_eq_true rfl, Nat.le_of_ble_eq_true rfl⟩ hF rfl hl.1 rfl (Nat.le_of_ble_eq_true rfl) ⟨Nat.zero_le _, Nat.zero_le _⟩ dX4_line_1 ?_
  refine W.eq (g2 := F0 m 4 ls []) rfl ?_
  refine lv_iload_n hx hb dX4_line_4 rfl (lv_at hl 2 rfl) ?_
  exact rn_xS (As := [.int x]) (rest := []) 1 hx hb hml hown hts hG hE hsz hout hlocks (x_requireNumber l hfl hbad sz) gX4_line_X4_requireNumber rfl ⟨rfl, rfl⟩ (by decide +kernel) ⟨Nat.le_of_ble_eq_true rfl, Nat.le_of_ble_eq_true rfl⟩ hF rfl hl.1 rfl (Nat.le_of_ble_eq_true rfl) ⟨Nat.le_refl _, Nat.le_refl _⟩ dX4_line_5

set_option maxHeartbeats 4000000 in
set_option maxRecDepth 100000 in
theorem x_line_3 (l : Launch) (hfl : l.stackTraces = false) {D : va_G} {cR cP cF : ClassId} {h0 aR aP aF : Nat} {ra pa fa : Nat → Nat} {hd : Nat → Option Nat} {dh : Option Nat} {f : rn_T} {σ : rn_St} (hV : rn_V σ) (hC : rn_CI cR cP cF h0 aR aP aF ra pa fa hd dh f σ) {a b : Nat} (ha0 : a ≤ 998) (hb0 : b ≤ 998) {x : Int32} (hbad : x < 1 ∨ nI 999 < x) (sz : Nat) : rn_X l yX4_line wsX4_line ({ frames := 6, cells := 1, slots := 6, locals := 82 } : Room) D (rn_tys cR cP cF) (rn_S D f) [.ref h0, .int (nI a), .int (nI b), .int x] "java/lang/IllegalArgumentException" sz := by
  refine rn_X.ofW (cc := cX4_line) (maxL := 5) (ret := (some .int)) (by decide) rfl (Nat.le_of_ble_eq_true rfl) (fun p e s m below meth c ls hx hb hr hml hts hown hlocks hsz hF hG hE hout hl => ?_)
  have hl : lv_has ls 5 [(0, .ref h0), (1, .int (nI a)), (2, .int (nI b)), (3, .int x)] := hl
  obtain ⟨hH, hR, hQ, hI, hdr, hip, hif⟩ := id hC
  refine lv_iload_n hx hb dX4_line_0 rfl (lv_at hl 1 rfl) ?_
  refine rn_cS (As := [.int (nI a)]) (rest := []) 1 hx hb hml hown hts hG (c_requireNumber l ha0) gX4_line_X4_requireNumber rfl ⟨rfl, rfl⟩ (by decide +kernel) ⟨Nat.le_of_ble_eq_true rfl, Nat.le_of_ble_eq_true rfl⟩ hF rfl hl.1 rfl (Nat.le_of_ble_eq_true rfl) ⟨Nat.zero_le _, Nat.zero_le _⟩ dX4_line_1 ?_
  refine W.eq (g2 := F0 m 4 ls []) rfl ?_
  refine lv_iload_n hx hb dX4_line_4 rfl (lv_at hl 2 rfl) ?_
  refine rn_cS (As := [.int (nI b)]) (rest := []) 1 hx hb hml hown hts hG (c_requireNumber l hb0) gX4_line_X4_requireNumber rfl ⟨rfl, rfl⟩ (by decide +kernel) ⟨Nat.le_of_ble_eq_true rfl, Nat.le_of_ble_eq_true rfl⟩ hF rfl hl.1 rfl (Nat.le_of_ble_eq_true rfl) ⟨Nat.zero_le _, Nat.zero_le _⟩ dX4_line_5 ?_
  refine W.eq (g2 := F0 m 8 ls []) rfl ?_
  refine lv_iload_n hx hb dX4_line_8 rfl (lv_at hl 3 rfl) ?_
  refine lv_iconst (v := 1) hx hb dX4_line_9 (by decide) ?_
  refine lv_icmp_lt (tgt := 20) hx hb dX4_line_10 (by decide) (fun c_10 => ?_) (fun c_10 => ?_)
  · exact rn_throw (E := "java/lang/IllegalArgumentException") (ik := 80) (is := 82) (ic := 84) (text := "a length is 1 to 999") hx hb hfl hown hts hE hsz (by decide +kernel) xk_X4_line_80 xi_X4_line_80 xn_X4_line_80 xh_84 xg_80_84 (by decide) (by decide) (hl.1.trans hml.symm) dX4_line_20 dX4_line_23 dX4_line_24 dX4_line_26 dX4_line_29 hout (by decide) (by decide) (by decide) (by decide) hlocks
  · refine lv_iload_n hx hb dX4_line_13 rfl (lv_at hl 3 rfl) ?_
    refine lv_sipush (v := 999) hx hb dX4_line_14 (by decide +kernel) ?_
    refine lv_icmp_le (tgt := 30) hx hb dX4_line_17 (by decide) (fun c_17 => ?_) (fun c_17 => ?_)
    · exact absurd c_17 (rn_nle (hbad.elim (fun h => absurd h c_10) id))
    · exact rn_throw (E := "java/lang/IllegalArgumentException") (ik := 80) (is := 82) (ic := 84) (text := "a length is 1 to 999") hx hb hfl hown hts hE hsz (by decide +kernel) xk_X4_line_80 xi_X4_line_80 xn_X4_line_80 xh_84 xg_80_84 (by decide) (by decide) (hl.1.trans hml.symm) dX4_line_20 dX4_line_23 dX4_line_24 dX4_line_26 dX4_line_29 hout (by decide) (by decide) (by decide) (by decide) hlocks

set_option maxHeartbeats 4000000 in
set_option maxRecDepth 100000 in
theorem x_line_4 (l : Launch) (hfl : l.stackTraces = false) {D : va_G} {cR cP cF : ClassId} {h0 aR aP aF : Nat} {ra pa fa : Nat → Nat} {hd : Nat → Option Nat} {dh : Option Nat} {f : rn_T} {σ : rn_St} (hV : rn_V σ) (hC : rn_CI cR cP cF h0 aR aP aF ra pa fa hd dh f σ) {a b c9 : Nat} (ha0 : a ≤ 998) (hb0 : b ≤ 998) (hc0 : 1 ≤ c9 ∧ c9 ≤ 999) (hbig : 999 < a + c9) (sz : Nat) : rn_X l yX4_line wsX4_line ({ frames := 7, cells := 1, slots := 6, locals := 102 } : Room) D (rn_tys cR cP cF) (rn_S D f) [.ref h0, .int (nI a), .int (nI b), .int (nI c9)] "java/lang/IllegalArgumentException" sz := by
  refine rn_X.ofW (cc := cX4_line) (maxL := 5) (ret := (some .int)) (by decide) rfl (Nat.le_of_ble_eq_true rfl) (fun p e s m below meth c ls hx hb hr hml hts hown hlocks hsz hF hG hE hout hl => ?_)
  have hl : lv_has ls 5 [(0, .ref h0), (1, .int (nI a)), (2, .int (nI b)), (3, .int (nI c9))] := hl
  obtain ⟨hH, hR, hQ, hI, hdr, hip, hif⟩ := id hC
  refine lv_iload_n hx hb dX4_line_0 rfl (lv_at hl 1 rfl) ?_
  refine rn_cS (As := [.int (nI a)]) (rest := []) 1 hx hb hml hown hts hG (c_requireNumber l ha0) gX4_line_X4_requireNumber rfl ⟨rfl, rfl⟩ (by decide +kernel) ⟨Nat.le_of_ble_eq_true rfl, Nat.le_of_ble_eq_true rfl⟩ hF rfl hl.1 rfl (Nat.le_of_ble_eq_true rfl) ⟨Nat.zero_le _, Nat.zero_le _⟩ dX4_line_1 ?_
  refine W.eq (g2 := F0 m 4 ls []) rfl ?_
  refine lv_iload_n hx hb dX4_line_4 rfl (lv_at hl 2 rfl) ?_
  refine rn_cS (As := [.int (nI b)]) (rest := []) 1 hx hb hml hown hts hG (c_requireNumber l hb0) gX4_line_X4_requireNumber rfl ⟨rfl, rfl⟩ (by decide +kernel) ⟨Nat.le_of_ble_eq_true rfl, Nat.le_of_ble_eq_true rfl⟩ hF rfl hl.1 rfl (Nat.le_of_ble_eq_true rfl) ⟨Nat.zero_le _, Nat.zero_le _⟩ dX4_line_5 ?_
  refine W.eq (g2 := F0 m 8 ls []) rfl ?_
  refine lv_iload_n hx hb dX4_line_8 rfl (lv_at hl 3 rfl) ?_
  refine lv_iconst (v := 1) hx hb dX4_line_9 (by decide) ?_
  refine rn_top (y := .int (nI 1)) (congrArg Value.int (rfl)) ?_
  refine lv_icmp_lt (tgt := 20) hx hb dX4_line_10 (by decide) (fun c_10 => ?_) (fun c_10 => ?_)
  · exact absurd ((nI_ltI (by omega) (by omega)).mp c_10) (by omega)
  · refine lv_iload_n hx hb dX4_line_13 rfl (lv_at hl 3 rfl) ?_
    refine lv_sipush (v := 999) hx hb dX4_line_14 (by decide +kernel) ?_
    refine rn_top (y := .int (nI 999)) (congrArg Value.int (rfl)) ?_
    refine lv_icmp_le (tgt := 30) hx hb dX4_line_17 (by decide) (fun c_17 => ?_) (fun c_17 => ?_)
    · refine lv_iload_n hx hb dX4_line_30 rfl (lv_at hl 1 rfl) ?_
      refine lv_iload_n hx hb dX4_line_31 rfl (lv_at hl 3 rfl) ?_
      refine lv_iadd hx hb dX4_line_32 ?_
      refine lv_iconst (v := 1) hx hb dX4_line_33 (by decide) ?_
      refine lv_isub hx hb dX4_line_34 ?_
      refine rn_top (y := .int (nI (a + c9 - 1))) (congrArg Value.int ((by rw [nI_add]; exact pk_sub (a := a + c9) (b := 1) (by omega)))) ?_
      exact rn_xS (As := [.int (nI (a + c9 - 1))]) (rest := []) 1 hx hb hml hown hts hG hE hsz hout hlocks (x_requireNumber l hfl (Or.inr ((nI_ltI (by omega) (by omega)).mpr (by omega))) sz) gX4_line_X4_requireNumber rfl ⟨rfl, rfl⟩ (by decide +kernel) ⟨Nat.le_of_ble_eq_true rfl, Nat.le_of_ble_eq_true rfl⟩ hF rfl hl.1 rfl (Nat.le_of_ble_eq_true rfl) ⟨Nat.le_refl _, Nat.le_refl _⟩ dX4_line_35
    · exact absurd ((nI_leI (by omega) (by omega)).mpr (by omega)) c_17

set_option maxHeartbeats 4000000 in
set_option maxRecDepth 100000 in
theorem x_line_5 (l : Launch) (hfl : l.stackTraces = false) {D : va_G} {cR cP cF : ClassId} {h0 aR aP aF : Nat} {ra pa fa : Nat → Nat} {hd : Nat → Option Nat} {dh : Option Nat} {f : rn_T} {σ : rn_St} (hV : rn_V σ) (hC : rn_CI cR cP cF h0 aR aP aF ra pa fa hd dh f σ) {a b c9 : Nat} (ha0 : a ≤ 998) (hb0 : b ≤ 998) (hc0 : 1 ≤ c9 ∧ c9 ≤ 999) (hfit : a + c9 ≤ 999) (hbig : 999 < b + c9) (sz : Nat) : rn_X l yX4_line wsX4_line ({ frames := 7, cells := 1, slots := 6, locals := 102 } : Room) D (rn_tys cR cP cF) (rn_S D f) [.ref h0, .int (nI a), .int (nI b), .int (nI c9)] "java/lang/IllegalArgumentException" sz := by
  refine rn_X.ofW (cc := cX4_line) (maxL := 5) (ret := (some .int)) (by decide) rfl (Nat.le_of_ble_eq_true rfl) (fun p e s m below meth c ls hx hb hr hml hts hown hlocks hsz hF hG hE hout hl => ?_)
  have hl : lv_has ls 5 [(0, .ref h0), (1, .int (nI a)), (2, .int (nI b)), (3, .int (nI c9))] := hl
  obtain ⟨hH, hR, hQ, hI, hdr, hip, hif⟩ := id hC
  refine lv_iload_n hx hb dX4_line_0 rfl (lv_at hl 1 rfl) ?_
  refine rn_cS (As := [.int (nI a)]) (rest := []) 1 hx hb hml hown hts hG (c_requireNumber l ha0) gX4_line_X4_requireNumber rfl ⟨rfl, rfl⟩ (by decide +kernel) ⟨Nat.le_of_ble_eq_true rfl, Nat.le_of_ble_eq_true rfl⟩ hF rfl hl.1 rfl (Nat.le_of_ble_eq_true rfl) ⟨Nat.zero_le _, Nat.zero_le _⟩ dX4_line_1 ?_
  refine W.eq (g2 := F0 m 4 ls []) rfl ?_
  refine lv_iload_n hx hb dX4_line_4 rfl (lv_at hl 2 rfl) ?_
  refine rn_cS (As := [.int (nI b)]) (rest := []) 1 hx hb hml hown hts hG (c_requireNumber l hb0) gX4_line_X4_requireNumber rfl ⟨rfl, rfl⟩ (by decide +kernel) ⟨Nat.le_of_ble_eq_true rfl, Nat.le_of_ble_eq_true rfl⟩ hF rfl hl.1 rfl (Nat.le_of_ble_eq_true rfl) ⟨Nat.zero_le _, Nat.zero_le _⟩ dX4_line_5 ?_
  refine W.eq (g2 := F0 m 8 ls []) rfl ?_
  refine lv_iload_n hx hb dX4_line_8 rfl (lv_at hl 3 rfl) ?_
  refine lv_iconst (v := 1) hx hb dX4_line_9 (by decide) ?_
  refine rn_top (y := .int (nI 1)) (congrArg Value.int (rfl)) ?_
  refine lv_icmp_lt (tgt := 20) hx hb dX4_line_10 (by decide) (fun c_10 => ?_) (fun c_10 => ?_)
  · exact absurd ((nI_ltI (by omega) (by omega)).mp c_10) (by omega)
  · refine lv_iload_n hx hb dX4_line_13 rfl (lv_at hl 3 rfl) ?_
    refine lv_sipush (v := 999) hx hb dX4_line_14 (by decide +kernel) ?_
    refine rn_top (y := .int (nI 999)) (congrArg Value.int (rfl)) ?_
    refine lv_icmp_le (tgt := 30) hx hb dX4_line_17 (by decide) (fun c_17 => ?_) (fun c_17 => ?_)
    · refine lv_iload_n hx hb dX4_line_30 rfl (lv_at hl 1 rfl) ?_
      refine lv_iload_n hx hb dX4_line_31 rfl (lv_at hl 3 rfl) ?_
      refine lv_iadd hx hb dX4_line_32 ?_
      refine lv_iconst (v := 1) hx hb dX4_line_33 (by decide) ?_
      refine lv_isub hx hb dX4_line_34 ?_
      refine rn_top (y := .int (nI (a + c9 - 1))) (congrArg Value.int ((by rw [nI_add]; exact pk_sub (a := a + c9) (b := 1) (by omega)))) ?_
      refine rn_cS (As := [.int (nI (a + c9 - 1))]) (rest := []) 1 hx hb hml hown hts hG (c_requireNumber l (k := a + c9 - 1) (by omega)) gX4_line_X4_requireNumber rfl ⟨rfl, rfl⟩ (by decide +kernel) ⟨Nat.le_of_ble_eq_true rfl, Nat.le_of_ble_eq_true rfl⟩ hF rfl hl.1 rfl (Nat.le_of_ble_eq_true rfl) ⟨Nat.zero_le _, Nat.zero_le _⟩ dX4_line_35 ?_
      refine W.eq (g2 := F0 m 38 ls []) rfl ?_
      refine lv_iload_n hx hb dX4_line_38 rfl (lv_at hl 2 rfl) ?_
      refine lv_iload_n hx hb dX4_line_39 rfl (lv_at hl 3 rfl) ?_
      refine lv_iadd hx hb dX4_line_40 ?_
      refine lv_iconst (v := 1) hx hb dX4_line_41 (by decide) ?_
      refine lv_isub hx hb dX4_line_42 ?_
      refine rn_top (y := .int (nI (b + c9 - 1))) (congrArg Value.int ((by rw [nI_add]; exact pk_sub (a := b + c9) (b := 1) (by omega)))) ?_
      exact rn_xS (As := [.int (nI (b + c9 - 1))]) (rest := []) 1 hx hb hml hown hts hG hE hsz hout hlocks (x_requireNumber l hfl (Or.inr ((nI_ltI (by omega) (by omega)).mpr (by omega))) sz) gX4_line_X4_requireNumber rfl ⟨rfl, rfl⟩ (by decide +kernel) ⟨Nat.le_of_ble_eq_true rfl, Nat.le_of_ble_eq_true rfl⟩ hF rfl hl.1 rfl (Nat.le_of_ble_eq_true rfl) ⟨Nat.le_refl _, Nat.le_refl _⟩ dX4_line_43
    · exact absurd ((nI_leI (by omega) (by omega)).mpr (by omega)) c_17

set_option maxHeartbeats 4000000 in
set_option maxRecDepth 100000 in
theorem x_line_s (l : Launch) (hfl : l.stackTraces = false) {D : va_G} {cR cP cF : ClassId} {h0 aR aP aF : Nat} {ra pa fa : Nat → Nat} {hd : Nat → Option Nat} {dh : Option Nat} {f : rn_T} {σ : rn_St} (hV : rn_V σ) (hC : rn_CI cR cP cF h0 aR aP aF ra pa fa hd dh f σ) {a b c9 : Nat} (ha0 : a ≤ 998) (hb0 : b ≤ 998) (hc0 : 1 ≤ c9 ∧ c9 ≤ 999) (hfit : a + c9 ≤ 999) (hfit2 : b + c9 ≤ 999) (hfull : σ.sd.length = 3) (sz : Nat) : rn_X l yX4_line wsX4_line ({ frames := 6, cells := 1, slots := 6, locals := 82 } : Room) D (rn_tys cR cP cF) (rn_S D f) [.ref h0, .int (nI a), .int (nI b), .int (nI c9)] "java/lang/IllegalStateException" sz := by
  refine rn_X.ofW (cc := cX4_line) (maxL := 5) (ret := (some .int)) (by decide) rfl (Nat.le_of_ble_eq_true rfl) (fun p e s m below meth c ls hx hb hr hml hts hown hlocks hsz hF hG hE hout hl => ?_)
  have hl : lv_has ls 5 [(0, .ref h0), (1, .int (nI a)), (2, .int (nI b)), (3, .int (nI c9))] := hl
  obtain ⟨hH, hR, hQ, hI, hdr, hip, hif⟩ := id hC
  refine lv_iload_n hx hb dX4_line_0 rfl (lv_at hl 1 rfl) ?_
  refine rn_cS (As := [.int (nI a)]) (rest := []) 1 hx hb hml hown hts hG (c_requireNumber l ha0) gX4_line_X4_requireNumber rfl ⟨rfl, rfl⟩ (by decide +kernel) ⟨Nat.le_of_ble_eq_true rfl, Nat.le_of_ble_eq_true rfl⟩ hF rfl hl.1 rfl (Nat.le_of_ble_eq_true rfl) ⟨Nat.zero_le _, Nat.zero_le _⟩ dX4_line_1 ?_
  refine W.eq (g2 := F0 m 4 ls []) rfl ?_
  refine lv_iload_n hx hb dX4_line_4 rfl (lv_at hl 2 rfl) ?_
  refine rn_cS (As := [.int (nI b)]) (rest := []) 1 hx hb hml hown hts hG (c_requireNumber l hb0) gX4_line_X4_requireNumber rfl ⟨rfl, rfl⟩ (by decide +kernel) ⟨Nat.le_of_ble_eq_true rfl, Nat.le_of_ble_eq_true rfl⟩ hF rfl hl.1 rfl (Nat.le_of_ble_eq_true rfl) ⟨Nat.zero_le _, Nat.zero_le _⟩ dX4_line_5 ?_
  refine W.eq (g2 := F0 m 8 ls []) rfl ?_
  refine lv_iload_n hx hb dX4_line_8 rfl (lv_at hl 3 rfl) ?_
  refine lv_iconst (v := 1) hx hb dX4_line_9 (by decide) ?_
  refine rn_top (y := .int (nI 1)) (congrArg Value.int (rfl)) ?_
  refine lv_icmp_lt (tgt := 20) hx hb dX4_line_10 (by decide) (fun c_10 => ?_) (fun c_10 => ?_)
  · exact absurd ((nI_ltI (by omega) (by omega)).mp c_10) (by omega)
  · refine lv_iload_n hx hb dX4_line_13 rfl (lv_at hl 3 rfl) ?_
    refine lv_sipush (v := 999) hx hb dX4_line_14 (by decide +kernel) ?_
    refine rn_top (y := .int (nI 999)) (congrArg Value.int (rfl)) ?_
    refine lv_icmp_le (tgt := 30) hx hb dX4_line_17 (by decide) (fun c_17 => ?_) (fun c_17 => ?_)
    · refine lv_iload_n hx hb dX4_line_30 rfl (lv_at hl 1 rfl) ?_
      refine lv_iload_n hx hb dX4_line_31 rfl (lv_at hl 3 rfl) ?_
      refine lv_iadd hx hb dX4_line_32 ?_
      refine lv_iconst (v := 1) hx hb dX4_line_33 (by decide) ?_
      refine lv_isub hx hb dX4_line_34 ?_
      refine rn_top (y := .int (nI (a + c9 - 1))) (congrArg Value.int ((by rw [nI_add]; exact pk_sub (a := a + c9) (b := 1) (by omega)))) ?_
      refine rn_cS (As := [.int (nI (a + c9 - 1))]) (rest := []) 1 hx hb hml hown hts hG (c_requireNumber l (k := a + c9 - 1) (by omega)) gX4_line_X4_requireNumber rfl ⟨rfl, rfl⟩ (by decide +kernel) ⟨Nat.le_of_ble_eq_true rfl, Nat.le_of_ble_eq_true rfl⟩ hF rfl hl.1 rfl (Nat.le_of_ble_eq_true rfl) ⟨Nat.zero_le _, Nat.zero_le _⟩ dX4_line_35 ?_
      refine W.eq (g2 := F0 m 38 ls []) rfl ?_
      refine lv_iload_n hx hb dX4_line_38 rfl (lv_at hl 2 rfl) ?_
      refine lv_iload_n hx hb dX4_line_39 rfl (lv_at hl 3 rfl) ?_
      refine lv_iadd hx hb dX4_line_40 ?_
      refine lv_iconst (v := 1) hx hb dX4_line_41 (by decide) ?_
      refine lv_isub hx hb dX4_line_42 ?_
      refine rn_top (y := .int (nI (b + c9 - 1))) (congrArg Value.int ((by rw [nI_add]; exact pk_sub (a := b + c9) (b := 1) (by omega)))) ?_
      refine rn_cS (As := [.int (nI (b + c9 - 1))]) (rest := []) 1 hx hb hml hown hts hG (c_requireNumber l (k := b + c9 - 1) (by omega)) gX4_line_X4_requireNumber rfl ⟨rfl, rfl⟩ (by decide +kernel) ⟨Nat.le_of_ble_eq_true rfl, Nat.le_of_ble_eq_true rfl⟩ hF rfl hl.1 rfl (Nat.le_of_ble_eq_true rfl) ⟨Nat.zero_le _, Nat.zero_le _⟩ dX4_line_43 ?_
      refine W.eq (g2 := F0 m 46 ls []) rfl ?_
      refine lv_aload_n hx hb dX4_line_46 rfl (lv_at hl 0 rfl) ?_
      refine rn_get (ci := 4) (v := va_rf dh) (C := RX4) (T := TX4) (N := 9) hx hb hts iw_X4_line_4 hown hG (hF _ _ hH.1) rfl 6 (by decide) fw_X4_line_43 rfl dX4_line_47 ?_
      refine rn_cS (As := [va_rf dh]) (rest := []) 1 hx hb hml hown hts hG (c_countOf l hdr) gX4_line_X4_countOf rfl ⟨rfl, rfl⟩ (by decide +kernel) ⟨Nat.le_of_ble_eq_true rfl, Nat.le_of_ble_eq_true rfl⟩ hF rfl hl.1 rfl (Nat.le_of_ble_eq_true rfl) ⟨Nat.zero_le _, Nat.zero_le _⟩ dX4_line_50 ?_
      refine W.eq (g2 := F0 m 53 ls [.int (nI σ.sd.length)]) rfl ?_
      refine lv_istore (lv' := [(4, .int (nI σ.sd.length)), (0, .ref h0), (1, .int (nI a)), (2, .int (nI b)), (3, .int (nI c9))]) hx hb dX4_line_53 hl (by decide) rfl (fun ls hl => ?_)
      refine lv_iload hx hb dX4_line_55 (lv_at hl 0 rfl) ?_
      refine lv_iconst (v := 3) hx hb dX4_line_57 (by decide) ?_
      refine rn_top (y := .int (nI 3)) (congrArg Value.int (rfl)) ?_
      refine lv_icmp_lt (tgt := 71) hx hb dX4_line_58 (by decide) (fun c_58 => ?_) (fun c_58 => ?_)
      · exact absurd ((nI_ltI (by omega) (by omega)).mp c_58) (by omega)
      · exact rn_throw (E := "java/lang/IllegalStateException") (ik := 57) (is := 89) (ic := 61) (text := "the draft has 3 lines") hx hb hfl hown hts hE hsz (by decide +kernel) xk_X4_line_57 xi_X4_line_57 xn_X4_line_57 xh_61 xg_57_61 (by decide) (by decide) (hl.1.trans hml.symm) dX4_line_61 dX4_line_64 dX4_line_65 dX4_line_67 dX4_line_70 hout (by decide) (by decide) (by decide) (by decide) hlocks
    · exact absurd ((nI_leI (by omega) (by omega)).mpr (by omega)) c_17
