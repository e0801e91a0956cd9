set_option maxHeartbeats 4000000 in
set_option maxRecDepth 100000 in
theorem w_drop (l : Launch) {D : va_G} {cR cP cF : ClassId} {h0 aR aP aF : Nat} {ra pa fa : Nat → Nat} {hd : Nat → Option Nat} {dh : Option Nat} {f : rn_T} {σ : rn_St} (hV : rn_V σ) (hC : rn_CI cR cP cF h0 aR aP aF ra pa fa hd dh f σ) {j : Nat} {x : Int32} (hj0 : j < σ.pn) (hx0 : ¬ x < 0 ∧ x ≤ 15) (sz : Nat) : rn_W l yX4_drop wsX4_drop ({ frames := 1, cells := 0, slots := 0, locals := 22 } : Room) D (rn_tys cR cP cF) (rn_S D f) [.ref h0, .int (nI j), .int x] (some (.int (σ.pr j &&& (x ^^^ -1)))) (rn_P D cR cP cF h0 f sz (rn_proc σ j (σ.pl j) (σ.pu j) (σ.pr j &&& (x ^^^ -1)))) (rn_A f sz) 0 0 sz := by
  refine rn_W.ofW (cc := cX4_drop) (maxL := 4) (ret := (some .int)) (by decide) rfl (Nat.le_of_ble_eq_true rfl) (fun p e s m below meth c ls hx hb hr hml hts hown hlocks hin hsz hF hG hS hl => ?_)
  have hl : lv_has ls 4 [(0, .ref h0), (1, .int (nI j)), (2, .int x)] := hl
  obtain ⟨hH, hR, hQ, hI, hdr, hip, hif⟩ := id hC
  have aH : rn_A f sz h0 := rn_A_in hH.1
  have aP9 : ∀ j, j < σ.pn → rn_A f sz (pa j) := fun j hj => rn_A_in (hQ j hj)
  have aR9 : ∀ i, i < σ.sn → rn_A f sz (ra i) := fun i hi => rn_A_in (hR.1 i hi)
  have aF9 : ∀ k, k < σ.fn → rn_A f sz (fa k) := fun k hk => rn_A_in (hI k hk)
  have aA9 : rn_A f sz aR ∧ rn_A f sz aP ∧ rn_A f sz aF := ⟨rn_A_in hH.2.1, rn_A_in hH.2.2.1, rn_A_in hH.2.2.2⟩
  have aN : ∀ q : Nat, s.heap.size ≤ q → rn_A f sz q := fun q h => Or.inr (by rw [← hsz]; exact h)
  have d0 : ∀ x, f x ≠ none → rn_A f sz x := fun x hx => Or.inl hx
  refine lv_aload_n hx hb dX4_drop_0 rfl (lv_at hl 0 rfl) ?_
  refine lv_iload_n hx hb dX4_drop_1 rfl (lv_at hl 1 rfl) ?_
  refine rn_cV (As := [.int (nI j)]) (rest := []) 1 hx hb hml hown hts hG (c_processAt l hV hH hj0) gX4_drop_X4_processAt rfl ⟨rfl, rfl⟩ (by decide +kernel) ⟨Nat.le_of_ble_eq_true rfl, Nat.le_of_ble_eq_true rfl⟩ hF (hF _ _ hH.1) rfl rfl hl.1 rfl (Nat.le_of_ble_eq_true rfl) ⟨by decide, by decide⟩ dX4_drop_2 ?_
  refine W.eq (g2 := F0 m 5 ls [.ref (pa j)]) rfl ?_
  refine lv_astore_n (lv' := [(3, .ref (pa j)), (0, .ref h0), (1, .int (nI j)), (2, .int x)]) hx hb dX4_drop_5 rfl hl (by decide) rfl (fun ls hl => ?_)
  refine lv_iload_n hx hb dX4_drop_6 rfl (lv_at hl 3 rfl) ?_
  refine lv_if_lt (tgt := 16) hx hb dX4_drop_7 (by decide) (fun c_7 => ?_) (fun c_7 => ?_)
  · exact absurd c_7 hx0.1
  · refine lv_iload_n hx hb dX4_drop_10 rfl (lv_at hl 3 rfl) ?_
    refine lv_bipush (v := 15) hx hb dX4_drop_11 (by decide +kernel) ?_
    refine lv_icmp_le (tgt := 26) hx hb dX4_drop_13 (by decide) (fun c_13 => ?_) (fun c_13 => ?_)
    · refine lv_aload_n hx hb dX4_drop_26 rfl (lv_at hl 0 rfl) ?_
      refine lv_dup hx hb dX4_drop_27 rfl ?_
      refine rn_get (ci := 1) (v := .int (σ.pr j)) (C := RX1) (T := TX1) (N := 3) hx hb hts iw_X4_drop_1 hown hG (hF _ _ (hQ j hj0)) rfl 2 (by decide) fw_X4_drop_149 rfl dX4_drop_28 ?_
      refine lv_iload_n hx hb dX4_drop_31 rfl (lv_at hl 3 rfl) ?_
      refine lv_iconst (v := (-1)) hx hb dX4_drop_32 (by decide) ?_
      refine lv_ixor hx hb dX4_drop_33 ?_
      refine lv_iand hx hb dX4_drop_34 ?_
      refine rn_put (A := (rn_A f sz)) (ci := 1) (v := .int ((σ.pr j) &&& (x ^^^ (-1)))) (C := RX1) (T := TX1) (N := 3) (fs' := [.ref (ra (σ.pl j)), .int (nI (σ.pu j)), .int ((σ.pr j) &&& (x ^^^ (-1)))]) hx hb hts iw_X4_drop_1 tyX1 tyX1_ok nmX1 hown hG hS (aP9 j hj0) (hF _ _ (hQ j hj0)) rfl 2 (by decide) fw_X4_drop_149 (Or.inl rfl) rfl rfl (Nat.le_of_ble_eq_true rfl) rfl dX4_drop_35 (fun H locs hat hz ho hS => ?_)
      have hF := hF.set hat ho
      have hC1 := hC.proc (r := σ.pl j) (u := σ.pu j) (k := σ.pr j &&& (x ^^^ -1)) hj0
      refine lv_aload_n hx hb dX4_drop_38 rfl (lv_at hl 0 rfl) ?_
      refine rn_get (ci := 1) (v := .int ((σ.pr j) &&& (x ^^^ (-1)))) (C := RX1) (T := TX1) (N := 3) hx hb hts iw_X4_drop_1 hown hG (hF _ _ (rn_up_eq _ _ _)) rfl 2 (by decide) fw_X4_drop_149 rfl dX4_drop_39 ?_
      exact rn_Wiret hx hb hr rfl hlocks hS (by decide) (by decide) rfl (rn_P_mk (rn_V.proc _ hV (hV.2.2.2.2.2.1.2.2 j hj0).1 (hV.2.2.2.2.2.1.2.2 j hj0).2) hC1 hF (rn_A_up _ d0 (aP9 j hj0))) dX4_drop_42
    · exact absurd hx0.2 c_13

set_option maxHeartbeats 4000000 in
set_option maxRecDepth 100000 in
theorem w_enter (l : Launch) {D : va_G} {cR cP cF : ClassId} {h0 aR aP aF : Nat} {ra pa fa : Nat → Nat} {hd : Nat → Option Nat} {dh : Option Nat} {f : rn_T} {σ : rn_St} (hV : rn_V σ) (hC : rn_CI cR cP cF h0 aR aP aF ra pa fa hd dh f σ) {j i : Nat} (hj0 : j < σ.pn) (hi0 : i < σ.sn) (sz : Nat) : rn_W l yX4_enter wsX4_enter ({ frames := 3, cells := 0, slots := 0, locals := 65 } : Room) D (rn_tys cR cP cF) (rn_S D f) [.ref h0, .int (nI j), .int (nI i)] (some (.int ((rn_o_enter σ j i).1))) (rn_P D cR cP cF h0 f sz ((rn_o_enter σ j i).2)) (rn_A f sz) 0 0 sz := by
  refine rn_W.ofW (cc := cX4_enter) (maxL := 5) (ret := (some .int)) (by decide) rfl (Nat.le_of_ble_eq_true rfl) (fun p e s m below meth c ls hx hb hr hml hts hown hlocks hin hsz hF hG hS hl => ?_)
  have hl : lv_has ls 5 [(0, .ref h0), (1, .int (nI j)), (2, .int (nI i))] := hl
  obtain ⟨hH, hR, hQ, hI, hdr, hip, hif⟩ := id hC
  have aH : rn_A f sz h0 := rn_A_in hH.1
  have aP9 : ∀ j, j < σ.pn → rn_A f sz (pa j) := fun j hj => rn_A_in (hQ j hj)
  have aR9 : ∀ i, i < σ.sn → rn_A f sz (ra i) := fun i hi => rn_A_in (hR.1 i hi)
  have aF9 : ∀ k, k < σ.fn → rn_A f sz (fa k) := fun k hk => rn_A_in (hI k hk)
  have aA9 : rn_A f sz aR ∧ rn_A f sz aP ∧ rn_A f sz aF := ⟨rn_A_in hH.2.1, rn_A_in hH.2.2.1, rn_A_in hH.2.2.2⟩
  have aN : ∀ q : Nat, s.heap.size ≤ q → rn_A f sz q := fun q h => Or.inr (by rw [← hsz]; exact h)
  have d0 : ∀ x, f x ≠ none → rn_A f sz x := fun x hx => Or.inl hx
  refine lv_aload_n hx hb dX4_enter_0 rfl (lv_at hl 0 rfl) ?_
  refine lv_iload_n hx hb dX4_enter_1 rfl (lv_at hl 1 rfl) ?_
  refine rn_cV (As := [.int (nI j)]) (rest := []) 1 hx hb hml hown hts hG (c_processAt l hV hH hj0) gX4_enter_X4_processAt rfl ⟨rfl, rfl⟩ (by decide +kernel) ⟨Nat.le_of_ble_eq_true rfl, Nat.le_of_ble_eq_true rfl⟩ hF (hF _ _ hH.1) rfl rfl hl.1 rfl (Nat.le_of_ble_eq_true rfl) ⟨by decide, by decide⟩ dX4_enter_2 ?_
  refine W.eq (g2 := F0 m 5 ls [.ref (pa j)]) rfl ?_
  refine lv_astore_n (lv' := [(3, .ref (pa j)), (0, .ref h0), (1, .int (nI j)), (2, .int (nI i))]) hx hb dX4_enter_5 rfl hl (by decide) rfl (fun ls hl => ?_)
  refine lv_aload_n hx hb dX4_enter_6 rfl (lv_at hl 1 rfl) ?_
  refine lv_iload_n hx hb dX4_enter_7 rfl (lv_at hl 3 rfl) ?_
  refine rn_cV (As := [.int (nI i)]) (rest := []) 1 hx hb hml hown hts hG (c_roomAt l hV hH hi0) gX4_enter_X4_roomAt rfl ⟨rfl, rfl⟩ (by decide +kernel) ⟨Nat.le_of_ble_eq_true rfl, Nat.le_of_ble_eq_true rfl⟩ hF (hF _ _ hH.1) rfl rfl hl.1 rfl (Nat.le_of_ble_eq_true rfl) ⟨by decide, by decide⟩ dX4_enter_8 ?_
  refine W.eq (g2 := F0 m 11 ls [.ref (ra i)]) rfl ?_
  refine lv_astore (lv' := [(4, .ref (ra i)), (3, .ref (pa j)), (0, .ref h0), (1, .int (nI j)), (2, .int (nI i))]) hx hb dX4_enter_11 hl (by decide) rfl (fun ls hl => ?_)
  refine lv_aload hx hb dX4_enter_13 (lv_at hl 0 rfl) ?_
  refine rn_get (ci := 3) (v := va_rf (rn_ot σ ra i)) (C := RX3) (T := TX3) (N := 4) hx hb hts iw_X4_enter_3 hown hG (hF _ _ (hR.1 i hi0)) rfl 1 (by decide) fw_X4_enter_100 rfl dX4_enter_15 ?_
  refine rn_top (y := va_rf ((rn_nx σ i).map ra)) (congrArg va_rf (rn_ot_nx σ ra i)) ?_
  refine lv_aload_n hx hb dX4_enter_18 rfl (lv_at hl 1 rfl) ?_
  refine rn_get (ci := 1) (v := .ref (ra (σ.pl j))) (C := RX1) (T := TX1) (N := 3) hx hb hts iw_X4_enter_1 hown hG (hF _ _ (hQ j hj0)) rfl 0 (by decide) fw_X4_enter_64 rfl dX4_enter_19 ?_
  refine rn_cS (As := [va_rf ((rn_nx σ i).map ra), .ref (ra (σ.pl j))]) (rest := []) 2 hx hb hml hown hts hG (c_isOrIsInside l hV hR (rn_nx σ i) (fun k h => (rn_nx_lt hV hi0 (k := i) (Nat.lt_succ_self i) k h).1) (hV.2.2.2.2.2.1.2.2 j hj0).1) gX4_enter_X4_isOrIsInside rfl ⟨rfl, rfl⟩ (by decide +kernel) ⟨Nat.le_of_ble_eq_true rfl, Nat.le_of_ble_eq_true rfl⟩ hF rfl hl.1 rfl (Nat.le_of_ble_eq_true rfl) ⟨by decide, by decide⟩ dX4_enter_22 ?_
  refine W.eq (g2 := F0 m 25 ls [.int (rn_b (rn_insO σ (σ.pl j) (rn_nx σ i)))]) rfl ?_
  refine lv_if_ne (tgt := 35) hx hb dX4_enter_25 (by decide) (fun c_25 => ?_) (fun c_25 => ?_)
  · rw [rn_b1] at c_25
    refine lv_aload_n hx hb dX4_enter_35 rfl (lv_at hl 1 rfl) ?_
    refine lv_iconst (v := 1) hx hb dX4_enter_36 (by decide) ?_
    refine lv_aload hx hb dX4_enter_37 (lv_at hl 0 rfl) ?_
    refine rn_cV (As := [.int 1, .ref (ra i)]) (rest := []) 2 hx hb hml hown hts hG (c_hasRight l hV hR hQ 1 hj0 hi0) gX4_enter_X1_hasRight rfl ⟨rfl, rfl⟩ (by decide +kernel) ⟨Nat.le_of_ble_eq_true rfl, Nat.le_of_ble_eq_true rfl⟩ hF (hF _ _ (hQ j hj0)) rfl rfl hl.1 rfl (Nat.le_of_ble_eq_true rfl) ⟨by decide, by decide⟩ dX4_enter_39 ?_
    refine W.eq (g2 := F0 m 42 ls [.int (rn_b (decide (rn_held σ j i &&& 1 ≠ 0)))]) rfl ?_
    refine lv_if_ne (tgt := 51) hx hb dX4_enter_42 (by decide) (fun c_42 => ?_) (fun c_42 => ?_)
    · rw [rn_b1, decide_eq_true_eq] at c_42
      refine lv_aload_n hx hb dX4_enter_51 rfl (lv_at hl 1 rfl) ?_
      refine lv_aload hx hb dX4_enter_52 (lv_at hl 0 rfl) ?_
      refine rn_wV (As := [.ref (ra i)]) (rest := []) 1 hx hb hml hown hts hG hS (c_moveInto l (hQ j hj0)) (fun x hx => by rw [show x = pa j from hx]; exact aP9 j hj0) gX4_enter_X1_moveInto rfl ⟨rfl, rfl⟩ (by decide +kernel) ⟨Nat.le_of_ble_eq_true rfl, Nat.le_of_ble_eq_true rfl⟩ hF (hF _ _ (hQ j hj0)) rfl rfl hl.1 rfl (Nat.le_of_ble_eq_true rfl) ⟨by decide, by decide⟩ dX4_enter_54 (fun H locs hP1 hz hk hS => ?_)
      refine W.eq (g2 := F0 m 57 ls []) rfl ?_
      have hF := hP1
      have hC1 := hC.proc (r := i) (u := σ.pu j) (k := 15) hj0
      refine lv_aload_n hx hb dX4_enter_57 rfl (lv_at hl 1 rfl) ?_
      refine rn_get (ci := 1) (v := .int 15) (C := RX1) (T := TX1) (N := 3) hx hb hts iw_X4_enter_1 hown hG (hF _ _ (rn_up_eq _ _ _)) rfl 2 (by decide) fw_X4_enter_149 rfl dX4_enter_58 ?_
      have ho : rn_o_enter σ j i = (15, rn_proc σ j i (σ.pu j) 15) := by rw [rn_o_enter, if_neg (by rw [c_25]; decide), if_neg c_42]
      exact rn_Wiret hx hb hr rfl hlocks hS (by decide) (by decide) (by rw [ho]) (by rw [ho]; exact rn_P_mk (rn_V.proc _ hV hi0 (hV.2.2.2.2.2.1.2.2 j hj0).2) hC1 hF (rn_A_up _ d0 (aP9 j hj0))) dX4_enter_61
    · rw [rn_dec0] at c_42
      refine lv_aload_n hx hb dX4_enter_45 rfl (lv_at hl 2 rfl) ?_
      refine lv_iconst (v := (-1)) hx hb dX4_enter_46 (by decide) ?_
      refine rn_wV (As := [.int (-1)]) (rest := []) 1 hx hb hml hown hts hG hS (c_refuse l ((-1)) hH.1) (fun x hx => by rw [show x = h0 from hx]; exact aH) gX4_enter_X4_refuse rfl ⟨rfl, rfl⟩ (by decide +kernel) ⟨Nat.le_of_ble_eq_true rfl, Nat.le_of_ble_eq_true rfl⟩ hF (hF _ _ hH.1) rfl rfl hl.1 rfl (Nat.le_of_ble_eq_true rfl) ⟨by decide, by decide⟩ dX4_enter_47 (fun H locs hP1 hz hk hS => ?_)
      refine W.eq (g2 := F0 m 50 ls [.int (-1)]) rfl ?_
      have hF := hP1
      have ho : rn_o_enter σ j i = ((-1), rn_ref σ ((-1))) := by rw [rn_o_enter, if_neg (by rw [c_25]; decide), if_pos c_42]
      exact rn_Wiret hx hb hr rfl hlocks hS (by decide) (by decide) (by rw [ho]) (by rw [ho]; exact rn_P_mk (rn_V.ref _ hV) (hC.house (σ' := rn_ref σ ((-1))) ⟨rfl, rfl, rfl, rfl⟩ rfl rfl hdr) hF (rn_A_up _ d0 aH)) dX4_enter_50
  · rw [rn_b0] at c_25
    refine lv_aload_n hx hb dX4_enter_28 rfl (lv_at hl 2 rfl) ?_
    refine lv_bipush (v := (-5)) hx hb dX4_enter_29 (by decide +kernel) ?_
    refine rn_wV (As := [.int (-5)]) (rest := []) 1 hx hb hml hown hts hG hS (c_refuse l ((-5)) hH.1) (fun x hx => by rw [show x = h0 from hx]; exact aH) gX4_enter_X4_refuse rfl ⟨rfl, rfl⟩ (by decide +kernel) ⟨Nat.le_of_ble_eq_true rfl, Nat.le_of_ble_eq_true rfl⟩ hF (hF _ _ hH.1) rfl rfl hl.1 rfl (Nat.le_of_ble_eq_true rfl) ⟨by decide, by decide⟩ dX4_enter_31 (fun H locs hP1 hz hk hS => ?_)
    refine W.eq (g2 := F0 m 34 ls [.int (-5)]) rfl ?_
    have hF := hP1
    have ho : rn_o_enter σ j i = ((-5), rn_ref σ ((-5))) := by rw [rn_o_enter, if_pos c_25]
    exact rn_Wiret hx hb hr rfl hlocks hS (by decide) (by decide) (by rw [ho]) (by rw [ho]; exact rn_P_mk (rn_V.ref _ hV) (hC.house (σ' := rn_ref σ ((-5))) ⟨rfl, rfl, rfl, rfl⟩ rfl rfl hdr) hF (rn_A_up _ d0 aH)) dX4_enter_34

set_option maxHeartbeats 4000000 in
set_option maxRecDepth 100000 in
theorem w_setNumber (l : Launch) {D : va_G} {cR cP cF : ClassId} {h0 aR aP aF : Nat} {ra pa fa : Nat → Nat} {hd : Nat → Option Nat} {dh : Option Nat} {f : rn_T} {σ : rn_St} (hV : rn_V σ) (hC : rn_CI cR cP cF h0 aR aP aF ra pa fa hd dh f σ) {j x : Nat} (hj0 : j < σ.pn) (hx0 : x ≤ 998) (sz : Nat) : rn_W l yX4_setNumber wsX4_setNumber ({ frames := 3, cells := 0, slots := 0, locals := 65 } : Room) D (rn_tys cR cP cF) (rn_S D f) [.ref h0, .int (nI j), .int (nI x)] (some (.int ((rn_o_setNumber σ j x).1))) (rn_P D cR cP cF h0 f sz ((rn_o_setNumber σ j x).2)) (rn_A f sz) 0 0 sz := by
  refine rn_W.ofW (cc := cX4_setNumber) (maxL := 5) (ret := (some .int)) (by decide) rfl (Nat.le_of_ble_eq_true rfl) (fun p e s m below meth c ls hx hb hr hml hts hown hlocks hin hsz hF hG hS hl => ?_)
  have hl : lv_has ls 5 [(0, .ref h0), (1, .int (nI j)), (2, .int (nI x))] := hl
  obtain ⟨hH, hR, hQ, hI, hdr, hip, hif⟩ := id hC
  have aH : rn_A f sz h0 := rn_A_in hH.1
  have aP9 : ∀ j, j < σ.pn → rn_A f sz (pa j) := fun j hj => rn_A_in (hQ j hj)
  have aR9 : ∀ i, i < σ.sn → rn_A f sz (ra i) := fun i hi => rn_A_in (hR.1 i hi)
  have aF9 : ∀ k, k < σ.fn → rn_A f sz (fa k) := fun k hk => rn_A_in (hI k hk)
  have aA9 : rn_A f sz aR ∧ rn_A f sz aP ∧ rn_A f sz aF := ⟨rn_A_in hH.2.1, rn_A_in hH.2.2.1, rn_A_in hH.2.2.2⟩
  have aN : ∀ q : Nat, s.heap.size ≤ q → rn_A f sz q := fun q h => Or.inr (by rw [← hsz]; exact h)
  have d0 : ∀ x, f x ≠ none → rn_A f sz x := fun x hx => Or.inl hx
  refine lv_aload_n hx hb dX4_setNumber_0 rfl (lv_at hl 0 rfl) ?_
  refine lv_iload_n hx hb dX4_setNumber_1 rfl (lv_at hl 1 rfl) ?_
  refine rn_cV (As := [.int (nI j)]) (rest := []) 1 hx hb hml hown hts hG (c_processAt l hV hH hj0) gX4_setNumber_X4_processAt rfl ⟨rfl, rfl⟩ (by decide +kernel) ⟨Nat.le_of_ble_eq_true rfl, Nat.le_of_ble_eq_true rfl⟩ hF (hF _ _ hH.1) rfl rfl hl.1 rfl (Nat.le_of_ble_eq_true rfl) ⟨by decide, by decide⟩ dX4_setNumber_2 ?_
  refine W.eq (g2 := F0 m 5 ls [.ref (pa j)]) rfl ?_
  refine lv_astore_n (lv' := [(3, .ref (pa j)), (0, .ref h0), (1, .int (nI j)), (2, .int (nI x))]) hx hb dX4_setNumber_5 rfl hl (by decide) rfl (fun ls hl => ?_)
  refine lv_iload_n hx hb dX4_setNumber_6 rfl (lv_at hl 3 rfl) ?_
  refine rn_cS (As := [.int (nI x)]) (rest := []) 1 hx hb hml hown hts hG (c_requireNumber l hx0) gX4_setNumber_X4_requireNumber rfl ⟨rfl, rfl⟩ (by decide +kernel) ⟨Nat.le_of_ble_eq_true rfl, Nat.le_of_ble_eq_true rfl⟩ hF rfl hl.1 rfl (Nat.le_of_ble_eq_true rfl) ⟨by decide, by decide⟩ dX4_setNumber_7 ?_
  refine W.eq (g2 := F0 m 10 ls []) rfl ?_
  refine lv_aload_n hx hb dX4_setNumber_10 rfl (lv_at hl 0 rfl) ?_
  refine rn_get (ci := 1) (v := .ref (ra (σ.pl j))) (C := RX1) (T := TX1) (N := 3) hx hb hts iw_X4_setNumber_1 hown hG (hF _ _ (hQ j hj0)) rfl 0 (by decide) fw_X4_setNumber_64 rfl dX4_setNumber_11 ?_
  refine lv_iload_n hx hb dX4_setNumber_14 rfl (lv_at hl 3 rfl) ?_
  refine rn_cS (As := [.ref (ra (σ.pl j)), .int (nI x)]) (rest := []) 2 hx hb hml hown hts hG (c_leadOut l hV hR (hV.2.2.2.2.2.1.2.2 j hj0).1 hx0) gX4_setNumber_X4_leadOut rfl ⟨rfl, rfl⟩ (by decide +kernel) ⟨Nat.le_of_ble_eq_true rfl, Nat.le_of_ble_eq_true rfl⟩ hF rfl hl.1 rfl (Nat.le_of_ble_eq_true rfl) ⟨by decide, by decide⟩ dX4_setNumber_15 ?_
  refine W.eq (g2 := F0 m 18 ls [.int (rn_enc (rn_lead σ (σ.pl j) x))]) rfl ?_
  refine lv_istore (lv' := [(4, .int (rn_enc (rn_lead σ (σ.pl j) x))), (3, .ref (pa j)), (0, .ref h0), (1, .int (nI j)), (2, .int (nI x))]) hx hb dX4_setNumber_18 hl (by decide) rfl (fun ls hl => ?_)
  refine lv_iload hx hb dX4_setNumber_20 (lv_at hl 0 rfl) ?_
  refine lv_iconst (v := (-1)) hx hb dX4_setNumber_22 (by decide) ?_
  refine lv_icmp_ne (tgt := 33) hx hb dX4_setNumber_23 (by decide) (fun c_23 => ?_) (fun c_23 => ?_)
  · obtain ⟨y, hy⟩ : ∃ y, rn_lead σ (σ.pl j) x = some y := by
      cases h : rn_lead σ (σ.pl j) x with
      | none => rw [h] at c_23; exact absurd rfl c_23
      | some y => exact ⟨y, rfl⟩
    have hy9 : y ≤ 998 := (fun y h => rn_lead_in hV _ _ (Nat.le_refl _) (hV.2.2.2.2.2.1.2.2 j hj0).1 _ y hx0 h) y hy
    have hpu := (hV.2.2.2.2.2.1.2.2 j hj0).2
    rw [hy] at hl
    have hl : lv_has ls 5 [(4, .int (nI y)), (3, .ref (pa j)), (0, .ref h0), (1, .int (nI j)), (2, .int (nI x))] := hl
    refine lv_iload hx hb dX4_setNumber_33 (lv_at hl 0 rfl) ?_
    refine lv_aload_n hx hb dX4_setNumber_35 rfl (lv_at hl 1 rfl) ?_
    refine rn_get (ci := 1) (v := .int (nI (σ.pu j))) (C := RX1) (T := TX1) (N := 3) hx hb hts iw_X4_setNumber_1 hown hG (hF _ _ (hQ j hj0)) rfl 1 (by decide) fw_X4_setNumber_68 rfl dX4_setNumber_36 ?_
    refine lv_icmp_eq (tgt := 61) hx hb dX4_setNumber_39 (by decide) (fun c_39 => ?_) (fun c_39 => ?_)
    · have hmay : ¬ (y ≠ σ.pu j ∧ σ.pr j &&& 8 = 0) := fun h => h.1 ((nI_eq (by omega) (by omega)).mp c_39)
      refine lv_iload_n hx hb dX4_setNumber_61 rfl (lv_at hl 4 rfl) ?_
      refine lv_if_eq (tgt := 85) hx hb dX4_setNumber_62 (by decide) (fun c_62 => ?_) (fun c_62 => ?_)
      · have hzr : ¬ (x ≠ 0 ∧ rn_see σ (σ.pl j) (σ.pu j) = 0) := fun h => h.1 ((rn_nI0 (by omega)).mp c_62)
        refine lv_aload_n hx hb dX4_setNumber_85 rfl (lv_at hl 1 rfl) ?_
        refine lv_iload hx hb dX4_setNumber_86 (lv_at hl 0 rfl) ?_
        refine rn_put (A := (rn_A f sz)) (ci := 1) (v := .int (nI y)) (C := RX1) (T := TX1) (N := 3) (fs' := [.ref (ra (σ.pl j)), .int (nI y), .int (σ.pr j)]) hx hb hts iw_X4_setNumber_1 tyX1 tyX1_ok nmX1 hown hG hS (aP9 j hj0) (hF _ _ (hQ j hj0)) rfl 1 (by decide) fw_X4_setNumber_68 (Or.inl rfl) rfl rfl (Nat.le_of_ble_eq_true rfl) rfl dX4_setNumber_88 (fun H locs hat hz ho hS => ?_)
        have hF := hF.set hat ho
        refine lv_iload hx hb dX4_setNumber_91 (lv_at hl 0 rfl) ?_
        have ho : rn_o_setNumber σ j x = (nI y, rn_proc σ j (σ.pl j) y ((σ.pr j))) := by rw [rn_o_setNumber, hy]; simp only []; rw [if_neg hmay, if_neg hzr]
        have hC1 := hC.proc (r := σ.pl j) (u := y) (k := (σ.pr j)) hj0
        exact rn_Wiret hx hb hr rfl hlocks hS (by decide) (by decide) (by rw [ho]) (by rw [ho]; exact rn_P_mk (rn_V.proc _ hV (hV.2.2.2.2.2.1.2.2 j hj0).1 hy9) hC1 hF (rn_A_up _ d0 (aP9 j hj0))) dX4_setNumber_93
      · have hx9 : x ≠ 0 := fun h => c_62 (by rw [h]; rfl)
        refine lv_aload_n hx hb dX4_setNumber_65 rfl (lv_at hl 2 rfl) ?_
        refine lv_aload_n hx hb dX4_setNumber_66 rfl (lv_at hl 1 rfl) ?_
        refine rn_get (ci := 1) (v := .ref (ra (σ.pl j))) (C := RX1) (T := TX1) (N := 3) hx hb hts iw_X4_setNumber_1 hown hG (hF _ _ (hQ j hj0)) rfl 0 (by decide) fw_X4_setNumber_64 rfl dX4_setNumber_67 ?_
        refine lv_aload_n hx hb dX4_setNumber_70 rfl (lv_at hl 1 rfl) ?_
        refine rn_get (ci := 1) (v := .int (nI (σ.pu j))) (C := RX1) (T := TX1) (N := 3) hx hb hts iw_X4_setNumber_1 hown hG (hF _ _ (hQ j hj0)) rfl 1 (by decide) fw_X4_setNumber_68 rfl dX4_setNumber_71 ?_
        refine rn_cV (As := [.ref (ra (σ.pl j)), .int (nI (σ.pu j))]) (rest := []) 2 hx hb hml hown hts hG (c_seenFrom l hV hH hR (r := σ.pl j) (y := σ.pu j) (hV.2.2.2.2.2.1.2.2 j hj0).1 (hV.2.2.2.2.2.1.2.2 j hj0).2) gX4_setNumber_X4_seenFrom rfl ⟨rfl, rfl⟩ (by decide +kernel) ⟨Nat.le_of_ble_eq_true rfl, Nat.le_of_ble_eq_true rfl⟩ hF (hF _ _ hH.1) rfl rfl hl.1 rfl (Nat.le_of_ble_eq_true rfl) ⟨by decide, by decide⟩ dX4_setNumber_74 ?_
        refine W.eq (g2 := F0 m 77 ls [.int (nI (rn_see σ (σ.pl j) (σ.pu j)))]) rfl ?_
        refine lv_if_ne (tgt := 85) hx hb dX4_setNumber_77 (by decide) (fun c_77 => ?_) (fun c_77 => ?_)
        · have hzr : ¬ (x ≠ 0 ∧ rn_see σ (σ.pl j) (σ.pu j) = 0) := fun h => c_77 (by rw [h.2]; rfl)
          refine lv_aload_n hx hb dX4_setNumber_85 rfl (lv_at hl 1 rfl) ?_
          refine lv_iload hx hb dX4_setNumber_86 (lv_at hl 0 rfl) ?_
          refine rn_put (A := (rn_A f sz)) (ci := 1) (v := .int (nI y)) (C := RX1) (T := TX1) (N := 3) (fs' := [.ref (ra (σ.pl j)), .int (nI y), .int (σ.pr j)]) hx hb hts iw_X4_setNumber_1 tyX1 tyX1_ok nmX1 hown hG hS (aP9 j hj0) (hF _ _ (hQ j hj0)) rfl 1 (by decide) fw_X4_setNumber_68 (Or.inl rfl) rfl rfl (Nat.le_of_ble_eq_true rfl) rfl dX4_setNumber_88 (fun H locs hat hz ho hS => ?_)
          have hF := hF.set hat ho
          refine lv_iload hx hb dX4_setNumber_91 (lv_at hl 0 rfl) ?_
          have ho : rn_o_setNumber σ j x = (nI y, rn_proc σ j (σ.pl j) y ((σ.pr j))) := by rw [rn_o_setNumber, hy]; simp only []; rw [if_neg hmay, if_neg hzr]
          have hC1 := hC.proc (r := σ.pl j) (u := y) (k := (σ.pr j)) hj0
          exact rn_Wiret hx hb hr rfl hlocks hS (by decide) (by decide) (by rw [ho]) (by rw [ho]; exact rn_P_mk (rn_V.proc _ hV (hV.2.2.2.2.2.1.2.2 j hj0).1 hy9) hC1 hF (rn_A_up _ d0 (aP9 j hj0))) dX4_setNumber_93
        · have hzr : x ≠ 0 ∧ rn_see σ (σ.pl j) (σ.pu j) = 0 := ⟨hx9, (rn_nI0 (rn_see_le _ _ _)).mp c_77⟩
          refine lv_aload_n hx hb dX4_setNumber_80 rfl (lv_at hl 1 rfl) ?_
          refine lv_iconst (v := 0) hx hb dX4_setNumber_81 (by decide) ?_
          refine rn_put (A := (rn_A f sz)) (ci := 1) (v := .int 0) (C := RX1) (T := TX1) (N := 3) (fs' := [.ref (ra (σ.pl j)), .int (nI (σ.pu j)), .int 0]) hx hb hts iw_X4_setNumber_1 tyX1 tyX1_ok nmX1 hown hG hS (aP9 j hj0) (hF _ _ (hQ j hj0)) rfl 2 (by decide) fw_X4_setNumber_149 (Or.inl rfl) rfl rfl (Nat.le_of_ble_eq_true rfl) rfl dX4_setNumber_82 (fun H locs hat hz ho hS => ?_)
          have hF := hF.set hat ho
          refine lv_aload_n hx hb dX4_setNumber_85 rfl (lv_at hl 1 rfl) ?_
          refine lv_iload hx hb dX4_setNumber_86 (lv_at hl 0 rfl) ?_
          refine rn_put (A := (rn_A f sz)) (ci := 1) (v := .int (nI y)) (C := RX1) (T := TX1) (N := 3) (fs' := [.ref (ra (σ.pl j)), .int (nI y), .int 0]) hx hb hts iw_X4_setNumber_1 tyX1 tyX1_ok nmX1 hown hG hS (aP9 j hj0) (hF _ _ (rn_up_eq _ _ _)) rfl 1 (by decide) fw_X4_setNumber_68 (Or.inl rfl) rfl rfl (Nat.le_of_ble_eq_true rfl) rfl dX4_setNumber_88 (fun H locs hat hz ho hS => ?_)
          have hF := hF.set hat ho
          rw [rn_up_up] at hF
          refine lv_iload hx hb dX4_setNumber_91 (lv_at hl 0 rfl) ?_
          have ho : rn_o_setNumber σ j x = (nI y, rn_proc σ j (σ.pl j) y 0) := by rw [rn_o_setNumber, hy]; simp only []; rw [if_neg hmay, if_pos hzr]
          have hC1 := hC.proc (r := σ.pl j) (u := y) (k := 0) hj0
          exact rn_Wiret hx hb hr rfl hlocks hS (by decide) (by decide) (by rw [ho]) (by rw [ho]; exact rn_P_mk (rn_V.proc _ hV (hV.2.2.2.2.2.1.2.2 j hj0).1 hy9) hC1 hF (rn_A_up _ d0 (aP9 j hj0))) dX4_setNumber_93
    · have hne : y ≠ σ.pu j := fun h => c_39 (by rw [h])
      refine lv_aload_n hx hb dX4_setNumber_42 rfl (lv_at hl 1 rfl) ?_
      refine lv_bipush (v := 8) hx hb dX4_setNumber_43 (by decide +kernel) ?_
      refine lv_aload_n hx hb dX4_setNumber_45 rfl (lv_at hl 1 rfl) ?_
      refine rn_get (ci := 1) (v := .ref (ra (σ.pl j))) (C := RX1) (T := TX1) (N := 3) hx hb hts iw_X4_setNumber_1 hown hG (hF _ _ (hQ j hj0)) rfl 0 (by decide) fw_X4_setNumber_64 rfl dX4_setNumber_46 ?_
      refine rn_cV (As := [.int 8, .ref (ra (σ.pl j))]) (rest := []) 2 hx hb hml hown hts hG (c_hasRight l hV hR hQ 8 hj0 (hV.2.2.2.2.2.1.2.2 j hj0).1) gX4_setNumber_X1_hasRight rfl ⟨rfl, rfl⟩ (by decide +kernel) ⟨Nat.le_of_ble_eq_true rfl, Nat.le_of_ble_eq_true rfl⟩ hF (hF _ _ (hQ j hj0)) rfl rfl hl.1 rfl (Nat.le_of_ble_eq_true rfl) ⟨by decide, by decide⟩ dX4_setNumber_49 ?_
      refine W.eq (g2 := F0 m 52 ls [.int (rn_b (decide (rn_held σ j (σ.pl j) &&& 8 ≠ 0)))]) rfl ?_
      refine lv_if_ne (tgt := 61) hx hb dX4_setNumber_52 (by decide) (fun c_52 => ?_) (fun c_52 => ?_)
      · rw [rn_held_own hV hj0, rn_b1, decide_eq_true_eq] at c_52
        have hmay : ¬ (y ≠ σ.pu j ∧ σ.pr j &&& 8 = 0) := fun h => c_52 h.2
        refine lv_iload_n hx hb dX4_setNumber_61 rfl (lv_at hl 4 rfl) ?_
        refine lv_if_eq (tgt := 85) hx hb dX4_setNumber_62 (by decide) (fun c_62 => ?_) (fun c_62 => ?_)
        · have hzr : ¬ (x ≠ 0 ∧ rn_see σ (σ.pl j) (σ.pu j) = 0) := fun h => h.1 ((rn_nI0 (by omega)).mp c_62)
          refine lv_aload_n hx hb dX4_setNumber_85 rfl (lv_at hl 1 rfl) ?_
          refine lv_iload hx hb dX4_setNumber_86 (lv_at hl 0 rfl) ?_
          refine rn_put (A := (rn_A f sz)) (ci := 1) (v := .int (nI y)) (C := RX1) (T := TX1) (N := 3) (fs' := [.ref (ra (σ.pl j)), .int (nI y), .int (σ.pr j)]) hx hb hts iw_X4_setNumber_1 tyX1 tyX1_ok nmX1 hown hG hS (aP9 j hj0) (hF _ _ (hQ j hj0)) rfl 1 (by decide) fw_X4_setNumber_68 (Or.inl rfl) rfl rfl (Nat.le_of_ble_eq_true rfl) rfl dX4_setNumber_88 (fun H locs hat hz ho hS => ?_)
          have hF := hF.set hat ho
          refine lv_iload hx hb dX4_setNumber_91 (lv_at hl 0 rfl) ?_
          have ho : rn_o_setNumber σ j x = (nI y, rn_proc σ j (σ.pl j) y ((σ.pr j))) := by rw [rn_o_setNumber, hy]; simp only []; rw [if_neg hmay, if_neg hzr]
          have hC1 := hC.proc (r := σ.pl j) (u := y) (k := (σ.pr j)) hj0
          exact rn_Wiret hx hb hr rfl hlocks hS (by decide) (by decide) (by rw [ho]) (by rw [ho]; exact rn_P_mk (rn_V.proc _ hV (hV.2.2.2.2.2.1.2.2 j hj0).1 hy9) hC1 hF (rn_A_up _ d0 (aP9 j hj0))) dX4_setNumber_93
        · have hx9 : x ≠ 0 := fun h => c_62 (by rw [h]; rfl)
          refine lv_aload_n hx hb dX4_setNumber_65 rfl (lv_at hl 2 rfl) ?_
          refine lv_aload_n hx hb dX4_setNumber_66 rfl (lv_at hl 1 rfl) ?_
          refine rn_get (ci := 1) (v := .ref (ra (σ.pl j))) (C := RX1) (T := TX1) (N := 3) hx hb hts iw_X4_setNumber_1 hown hG (hF _ _ (hQ j hj0)) rfl 0 (by decide) fw_X4_setNumber_64 rfl dX4_setNumber_67 ?_
          refine lv_aload_n hx hb dX4_setNumber_70 rfl (lv_at hl 1 rfl) ?_
          refine rn_get (ci := 1) (v := .int (nI (σ.pu j))) (C := RX1) (T := TX1) (N := 3) hx hb hts iw_X4_setNumber_1 hown hG (hF _ _ (hQ j hj0)) rfl 1 (by decide) fw_X4_setNumber_68 rfl dX4_setNumber_71 ?_
          refine rn_cV (As := [.ref (ra (σ.pl j)), .int (nI (σ.pu j))]) (rest := []) 2 hx hb hml hown hts hG (c_seenFrom l hV hH hR (r := σ.pl j) (y := σ.pu j) (hV.2.2.2.2.2.1.2.2 j hj0).1 (hV.2.2.2.2.2.1.2.2 j hj0).2) gX4_setNumber_X4_seenFrom rfl ⟨rfl, rfl⟩ (by decide +kernel) ⟨Nat.le_of_ble_eq_true rfl, Nat.le_of_ble_eq_true rfl⟩ hF (hF _ _ hH.1) rfl rfl hl.1 rfl (Nat.le_of_ble_eq_true rfl) ⟨by decide, by decide⟩ dX4_setNumber_74 ?_
          refine W.eq (g2 := F0 m 77 ls [.int (nI (rn_see σ (σ.pl j) (σ.pu j)))]) rfl ?_
          refine lv_if_ne (tgt := 85) hx hb dX4_setNumber_77 (by decide) (fun c_77 => ?_) (fun c_77 => ?_)
          · have hzr : ¬ (x ≠ 0 ∧ rn_see σ (σ.pl j) (σ.pu j) = 0) := fun h => c_77 (by rw [h.2]; rfl)
            refine lv_aload_n hx hb dX4_setNumber_85 rfl (lv_at hl 1 rfl) ?_
            refine lv_iload hx hb dX4_setNumber_86 (lv_at hl 0 rfl) ?_
            refine rn_put (A := (rn_A f sz)) (ci := 1) (v := .int (nI y)) (C := RX1) (T := TX1) (N := 3) (fs' := [.ref (ra (σ.pl j)), .int (nI y), .int (σ.pr j)]) hx hb hts iw_X4_setNumber_1 tyX1 tyX1_ok nmX1 hown hG hS (aP9 j hj0) (hF _ _ (hQ j hj0)) rfl 1 (by decide) fw_X4_setNumber_68 (Or.inl rfl) rfl rfl (Nat.le_of_ble_eq_true rfl) rfl dX4_setNumber_88 (fun H locs hat hz ho hS => ?_)
            have hF := hF.set hat ho
            refine lv_iload hx hb dX4_setNumber_91 (lv_at hl 0 rfl) ?_
            have ho : rn_o_setNumber σ j x = (nI y, rn_proc σ j (σ.pl j) y ((σ.pr j))) := by rw [rn_o_setNumber, hy]; simp only []; rw [if_neg hmay, if_neg hzr]
            have hC1 := hC.proc (r := σ.pl j) (u := y) (k := (σ.pr j)) hj0
            exact rn_Wiret hx hb hr rfl hlocks hS (by decide) (by decide) (by rw [ho]) (by rw [ho]; exact rn_P_mk (rn_V.proc _ hV (hV.2.2.2.2.2.1.2.2 j hj0).1 hy9) hC1 hF (rn_A_up _ d0 (aP9 j hj0))) dX4_setNumber_93
          · have hzr : x ≠ 0 ∧ rn_see σ (σ.pl j) (σ.pu j) = 0 := ⟨hx9, (rn_nI0 (rn_see_le _ _ _)).mp c_77⟩
            refine lv_aload_n hx hb dX4_setNumber_80 rfl (lv_at hl 1 rfl) ?_
            refine lv_iconst (v := 0) hx hb dX4_setNumber_81 (by decide) ?_
            refine rn_put (A := (rn_A f sz)) (ci := 1) (v := .int 0) (C := RX1) (T := TX1) (N := 3) (fs' := [.ref (ra (σ.pl j)), .int (nI (σ.pu j)), .int 0]) hx hb hts iw_X4_setNumber_1 tyX1 tyX1_ok nmX1 hown hG hS (aP9 j hj0) (hF _ _ (hQ j hj0)) rfl 2 (by decide) fw_X4_setNumber_149 (Or.inl rfl) rfl rfl (Nat.le_of_ble_eq_true rfl) rfl dX4_setNumber_82 (fun H locs hat hz ho hS => ?_)
            have hF := hF.set hat ho
            refine lv_aload_n hx hb dX4_setNumber_85 rfl (lv_at hl 1 rfl) ?_
            refine lv_iload hx hb dX4_setNumber_86 (lv_at hl 0 rfl) ?_
            refine rn_put (A := (rn_A f sz)) (ci := 1) (v := .int (nI y)) (C := RX1) (T := TX1) (N := 3) (fs' := [.ref (ra (σ.pl j)), .int (nI y), .int 0]) hx hb hts iw_X4_setNumber_1 tyX1 tyX1_ok nmX1 hown hG hS (aP9 j hj0) (hF _ _ (rn_up_eq _ _ _)) rfl 1 (by decide) fw_X4_setNumber_68 (Or.inl rfl) rfl rfl (Nat.le_of_ble_eq_true rfl) rfl dX4_setNumber_88 (fun H locs hat hz ho hS => ?_)
            have hF := hF.set hat ho
            rw [rn_up_up] at hF
            refine lv_iload hx hb dX4_setNumber_91 (lv_at hl 0 rfl) ?_
            have ho : rn_o_setNumber σ j x = (nI y, rn_proc σ j (σ.pl j) y 0) := by rw [rn_o_setNumber, hy]; simp only []; rw [if_neg hmay, if_pos hzr]
            have hC1 := hC.proc (r := σ.pl j) (u := y) (k := 0) hj0
            exact rn_Wiret hx hb hr rfl hlocks hS (by decide) (by decide) (by rw [ho]) (by rw [ho]; exact rn_P_mk (rn_V.proc _ hV (hV.2.2.2.2.2.1.2.2 j hj0).1 hy9) hC1 hF (rn_A_up _ d0 (aP9 j hj0))) dX4_setNumber_93
      · rw [rn_held_own hV hj0, rn_dec0] at c_52
        refine lv_aload_n hx hb dX4_setNumber_55 rfl (lv_at hl 2 rfl) ?_
        refine lv_iconst (v := (-1)) hx hb dX4_setNumber_56 (by decide) ?_
        refine rn_wV (As := [.int (-1)]) (rest := []) 1 hx hb hml hown hts hG hS (c_refuse l ((-1)) hH.1) (fun x hx => by rw [show x = h0 from hx]; exact aH) gX4_setNumber_X4_refuse rfl ⟨rfl, rfl⟩ (by decide +kernel) ⟨Nat.le_of_ble_eq_true rfl, Nat.le_of_ble_eq_true rfl⟩ hF (hF _ _ hH.1) rfl rfl hl.1 rfl (Nat.le_of_ble_eq_true rfl) ⟨by decide, by decide⟩ dX4_setNumber_57 (fun H locs hP1 hz hk hS => ?_)
        refine W.eq (g2 := F0 m 60 ls [.int (-1)]) rfl ?_
        have hF := hP1
        have ho : rn_o_setNumber σ j x = ((-1), rn_ref σ ((-1))) := by rw [rn_o_setNumber, hy]; exact if_pos ⟨hne, c_52⟩
        exact rn_Wiret hx hb hr rfl hlocks hS (by decide) (by decide) (by rw [ho]) (by rw [ho]; exact rn_P_mk (rn_V.ref _ hV) (hC.house (σ' := rn_ref σ ((-1))) ⟨rfl, rfl, rfl, rfl⟩ rfl rfl hdr) hF (rn_A_up _ d0 aH)) dX4_setNumber_60
  · have hn := (rn_enc_m1 (fun y h => rn_lead_in hV _ _ (Nat.le_refl _) (hV.2.2.2.2.2.1.2.2 j hj0).1 _ y hx0 h)).mp c_23
    refine lv_aload_n hx hb dX4_setNumber_26 rfl (lv_at hl 2 rfl) ?_
    refine lv_bipush (v := (-2)) hx hb dX4_setNumber_27 (by decide +kernel) ?_
    refine rn_wV (As := [.int (-2)]) (rest := []) 1 hx hb hml hown hts hG hS (c_refuse l ((-2)) hH.1) (fun x hx => by rw [show x = h0 from hx]; exact aH) gX4_setNumber_X4_refuse rfl ⟨rfl, rfl⟩ (by decide +kernel) ⟨Nat.le_of_ble_eq_true rfl, Nat.le_of_ble_eq_true rfl⟩ hF (hF _ _ hH.1) rfl rfl hl.1 rfl (Nat.le_of_ble_eq_true rfl) ⟨by decide, by decide⟩ dX4_setNumber_29 (fun H locs hP1 hz hk hS => ?_)
    refine W.eq (g2 := F0 m 32 ls [.int (-2)]) rfl ?_
    have hF := hP1
    have ho : rn_o_setNumber σ j x = ((-2), rn_ref σ ((-2))) := by rw [rn_o_setNumber, hn]
    exact rn_Wiret hx hb hr rfl hlocks hS (by decide) (by decide) (by rw [ho]) (by rw [ho]; exact rn_P_mk (rn_V.ref _ hV) (hC.house (σ' := rn_ref σ ((-2))) ⟨rfl, rfl, rfl, rfl⟩ rfl rfl hdr) hF (rn_A_up _ d0 aH)) dX4_setNumber_32

set_option maxHeartbeats 4000000 in
set_option maxRecDepth 100000 in
theorem w_handOver (l : Launch) {D : va_G} {cR cP cF : ClassId} {h0 aR aP aF : Nat} {ra pa fa : Nat → Nat} {hd : Nat → Option Nat} {dh : Option Nat} {f : rn_T} {σ : rn_St} (hV : rn_V σ) (hC : rn_CI cR cP cF h0 aR aP aF ra pa fa hd dh f σ) {j k x : Nat} (hj0 : j < σ.pn) (hk0 : k < σ.fn) (hx0 : x ≤ 998) (sz : Nat) : rn_W l yX4_handOver wsX4_handOver ({ frames := 3, cells := 0, slots := 0, locals := 65 } : Room) D (rn_tys cR cP cF) (rn_S D f) [.ref h0, .int (nI j), .int (nI k), .int (nI x)] (some (.int ((rn_o_handOver σ j k x).1))) (rn_P D cR cP cF h0 f sz ((rn_o_handOver σ j k x).2)) (rn_A f sz) 0 0 sz := by
  refine rn_W.ofW (cc := cX4_handOver) (maxL := 7) (ret := (some .int)) (by decide) rfl (Nat.le_of_ble_eq_true rfl) (fun p e s m below meth c ls hx hb hr hml hts hown hlocks hin hsz hF hG hS hl => ?_)
  have hl : lv_has ls 7 [(0, .ref h0), (1, .int (nI j)), (2, .int (nI k)), (3, .int (nI x))] := hl
  obtain ⟨hH, hR, hQ, hI, hdr, hip, hif⟩ := id hC
  have aH : rn_A f sz h0 := rn_A_in hH.1
  have aP9 : ∀ j, j < σ.pn → rn_A f sz (pa j) := fun j hj => rn_A_in (hQ j hj)
  have aR9 : ∀ i, i < σ.sn → rn_A f sz (ra i) := fun i hi => rn_A_in (hR.1 i hi)
  have aF9 : ∀ k, k < σ.fn → rn_A f sz (fa k) := fun k hk => rn_A_in (hI k hk)
  have aA9 : rn_A f sz aR ∧ rn_A f sz aP ∧ rn_A f sz aF := ⟨rn_A_in hH.2.1, rn_A_in hH.2.2.1, rn_A_in hH.2.2.2⟩
  have aN : ∀ q : Nat, s.heap.size ≤ q → rn_A f sz q := fun q h => Or.inr (by rw [← hsz]; exact h)
  have d0 : ∀ x, f x ≠ none → rn_A f sz x := fun x hx => Or.inl hx
  refine lv_aload_n hx hb dX4_handOver_0 rfl (lv_at hl 0 rfl) ?_
  refine lv_iload_n hx hb dX4_handOver_1 rfl (lv_at hl 1 rfl) ?_
  refine rn_cV (As := [.int (nI j)]) (rest := []) 1 hx hb hml hown hts hG (c_processAt l hV hH hj0) gX4_handOver_X4_processAt rfl ⟨rfl, rfl⟩ (by decide +kernel) ⟨Nat.le_of_ble_eq_true rfl, Nat.le_of_ble_eq_true rfl⟩ hF (hF _ _ hH.1) rfl rfl hl.1 rfl (Nat.le_of_ble_eq_true rfl) ⟨by decide, by decide⟩ dX4_handOver_2 ?_
  refine W.eq (g2 := F0 m 5 ls [.ref (pa j)]) rfl ?_
  refine lv_astore (lv' := [(4, .ref (pa j)), (0, .ref h0), (1, .int (nI j)), (2, .int (nI k)), (3, .int (nI x))]) hx hb dX4_handOver_5 hl (by decide) rfl (fun ls hl => ?_)
  refine lv_aload_n hx hb dX4_handOver_7 rfl (lv_at hl 1 rfl) ?_
  refine lv_iload_n hx hb dX4_handOver_8 rfl (lv_at hl 3 rfl) ?_
  refine rn_cV (As := [.int (nI k)]) (rest := []) 1 hx hb hml hown hts hG (c_fileAt l hV hH hk0) gX4_handOver_X4_fileAt rfl ⟨rfl, rfl⟩ (by decide +kernel) ⟨Nat.le_of_ble_eq_true rfl, Nat.le_of_ble_eq_true rfl⟩ hF (hF _ _ hH.1) rfl rfl hl.1 rfl (Nat.le_of_ble_eq_true rfl) ⟨by decide, by decide⟩ dX4_handOver_9 ?_
  refine W.eq (g2 := F0 m 12 ls [.ref (fa k)]) rfl ?_
  refine lv_astore (lv' := [(5, .ref (fa k)), (4, .ref (pa j)), (0, .ref h0), (1, .int (nI j)), (2, .int (nI k)), (3, .int (nI x))]) hx hb dX4_handOver_12 hl (by decide) rfl (fun ls hl => ?_)
  refine lv_iload_n hx hb dX4_handOver_14 rfl (lv_at hl 5 rfl) ?_
  refine rn_cS (As := [.int (nI x)]) (rest := []) 1 hx hb hml hown hts hG (c_requireNumber l hx0) gX4_handOver_X4_requireNumber rfl ⟨rfl, rfl⟩ (by decide +kernel) ⟨Nat.le_of_ble_eq_true rfl, Nat.le_of_ble_eq_true rfl⟩ hF rfl hl.1 rfl (Nat.le_of_ble_eq_true rfl) ⟨by decide, by decide⟩ dX4_handOver_15 ?_
  refine W.eq (g2 := F0 m 18 ls []) rfl ?_
  refine lv_aload hx hb dX4_handOver_18 (lv_at hl 1 rfl) ?_
  refine rn_get (ci := 1) (v := .ref (ra (σ.pl j))) (C := RX1) (T := TX1) (N := 3) hx hb hts iw_X4_handOver_1 hown hG (hF _ _ (hQ j hj0)) rfl 0 (by decide) fw_X4_handOver_64 rfl dX4_handOver_20 ?_
  refine lv_iload_n hx hb dX4_handOver_23 rfl (lv_at hl 5 rfl) ?_
  refine rn_cS (As := [.ref (ra (σ.pl j)), .int (nI x)]) (rest := []) 2 hx hb hml hown hts hG (c_leadOut l hV hR (hV.2.2.2.2.2.1.2.2 j hj0).1 hx0) gX4_handOver_X4_leadOut rfl ⟨rfl, rfl⟩ (by decide +kernel) ⟨Nat.le_of_ble_eq_true rfl, Nat.le_of_ble_eq_true rfl⟩ hF rfl hl.1 rfl (Nat.le_of_ble_eq_true rfl) ⟨by decide, by decide⟩ dX4_handOver_24 ?_
  refine W.eq (g2 := F0 m 27 ls [.int (rn_enc (rn_lead σ (σ.pl j) x))]) rfl ?_
  refine lv_istore (lv' := [(6, .int (rn_enc (rn_lead σ (σ.pl j) x))), (5, .ref (fa k)), (4, .ref (pa j)), (0, .ref h0), (1, .int (nI j)), (2, .int (nI k)), (3, .int (nI x))]) hx hb dX4_handOver_27 hl (by decide) rfl (fun ls hl => ?_)
  refine lv_iload hx hb dX4_handOver_29 (lv_at hl 0 rfl) ?_
  refine lv_iconst (v := (-1)) hx hb dX4_handOver_31 (by decide) ?_
  refine lv_icmp_eq (tgt := 55) hx hb dX4_handOver_32 (by decide) (fun c_32 => ?_) (fun c_32 => ?_)
  · have hn := (rn_enc_m1 (fun y h => rn_lead_in hV _ _ (Nat.le_refl _) (hV.2.2.2.2.2.1.2.2 j hj0).1 _ y hx0 h)).mp c_32
    refine lv_aload_n hx hb dX4_handOver_55 rfl (lv_at hl 3 rfl) ?_
    refine lv_bipush (v := (-2)) hx hb dX4_handOver_56 (by decide +kernel) ?_
    refine rn_wV (As := [.int (-2)]) (rest := []) 1 hx hb hml hown hts hG hS (c_refuse l ((-2)) hH.1) (fun x hx => by rw [show x = h0 from hx]; exact aH) gX4_handOver_X4_refuse rfl ⟨rfl, rfl⟩ (by decide +kernel) ⟨Nat.le_of_ble_eq_true rfl, Nat.le_of_ble_eq_true rfl⟩ hF (hF _ _ hH.1) rfl rfl hl.1 rfl (Nat.le_of_ble_eq_true rfl) ⟨by decide, by decide⟩ dX4_handOver_58 (fun H locs hP1 hz hk hS => ?_)
    refine W.eq (g2 := F0 m 61 ls [.int (-2)]) rfl ?_
    have hF := hP1
    have ho : rn_o_handOver σ j k x = ((-2), rn_ref σ ((-2))) := by rw [rn_o_handOver, hn]
    exact rn_Wiret hx hb hr rfl hlocks hS (by decide) (by decide) (by rw [ho]) (by rw [ho]; exact rn_P_mk (rn_V.ref _ hV) (hC.house (σ' := rn_ref σ ((-2))) ⟨rfl, rfl, rfl, rfl⟩ rfl rfl hdr) hF (rn_A_up _ d0 aH)) dX4_handOver_61
  · obtain ⟨y, hy⟩ : ∃ y, rn_lead σ (σ.pl j) x = some y := by
      cases h : rn_lead σ (σ.pl j) x with
      | none => rw [h] at c_32; exact absurd rfl c_32
      | some y => exact ⟨y, rfl⟩
    have hy9 : y ≤ 998 := (fun y h => rn_lead_in hV _ _ (Nat.le_refl _) (hV.2.2.2.2.2.1.2.2 j hj0).1 _ y hx0 h) y hy
    rw [hy] at hl
    have hl : lv_has ls 7 [(6, .int (nI y)), (5, .ref (fa k)), (4, .ref (pa j)), (0, .ref h0), (1, .int (nI j)), (2, .int (nI k)), (3, .int (nI x))] := hl
    refine lv_aload_n hx hb dX4_handOver_35 rfl (lv_at hl 3 rfl) ?_
    refine lv_aload hx hb dX4_handOver_36 (lv_at hl 2 rfl) ?_
    refine rn_get (ci := 1) (v := .ref (ra (σ.pl j))) (C := RX1) (T := TX1) (N := 3) hx hb hts iw_X4_handOver_1 hown hG (hF _ _ (hQ j hj0)) rfl 0 (by decide) fw_X4_handOver_64 rfl dX4_handOver_38 ?_
    refine lv_aload hx hb dX4_handOver_41 (lv_at hl 1 rfl) ?_
    refine rn_get (ci := 0) (v := .int (nI (σ.fo k))) (C := RX0) (T := TX0) (N := 2) hx hb hts iw_X4_handOver_0 hown hG (hF _ _ (hI k hk0)) rfl 0 (by decide) fw_X4_handOver_172 rfl dX4_handOver_43 ?_
    refine rn_cV (As := [.ref (ra (σ.pl j)), .int (nI (σ.fo k))]) (rest := []) 2 hx hb hml hown hts hG (c_seenFrom l hV hH hR (r := σ.pl j) (y := σ.fo k) (hV.2.2.2.2.2.1.2.2 j hj0).1 (hV.2.2.2.2.2.2.2 k hk0)) gX4_handOver_X4_seenFrom rfl ⟨rfl, rfl⟩ (by decide +kernel) ⟨Nat.le_of_ble_eq_true rfl, Nat.le_of_ble_eq_true rfl⟩ hF (hF _ _ hH.1) rfl rfl hl.1 rfl (Nat.le_of_ble_eq_true rfl) ⟨by decide, by decide⟩ dX4_handOver_46 ?_
    refine W.eq (g2 := F0 m 49 ls [.int (nI (rn_see σ (σ.pl j) (σ.fo k)))]) rfl ?_
    refine lv_sipush (v := 999) hx hb dX4_handOver_49 (by decide +kernel) ?_
    refine lv_icmp_ne (tgt := 62) hx hb dX4_handOver_52 (by decide) (fun c_52 => ?_) (fun c_52 => ?_)
    · rw [rn_nI999 (rn_see_le _ _ _)] at c_52
      refine lv_aload hx hb dX4_handOver_62 (lv_at hl 2 rfl) ?_
      refine lv_iconst (v := 2) hx hb dX4_handOver_64 (by decide) ?_
      refine lv_aload hx hb dX4_handOver_65 (lv_at hl 2 rfl) ?_
      refine rn_get (ci := 1) (v := .ref (ra (σ.pl j))) (C := RX1) (T := TX1) (N := 3) hx hb hts iw_X4_handOver_1 hown hG (hF _ _ (hQ j hj0)) rfl 0 (by decide) fw_X4_handOver_64 rfl dX4_handOver_67 ?_
      refine rn_cV (As := [.int 2, .ref (ra (σ.pl j))]) (rest := []) 2 hx hb hml hown hts hG (c_hasRight l hV hR hQ 2 hj0 (hV.2.2.2.2.2.1.2.2 j hj0).1) gX4_handOver_X1_hasRight rfl ⟨rfl, rfl⟩ (by decide +kernel) ⟨Nat.le_of_ble_eq_true rfl, Nat.le_of_ble_eq_true rfl⟩ hF (hF _ _ (hQ j hj0)) rfl rfl hl.1 rfl (Nat.le_of_ble_eq_true rfl) ⟨by decide, by decide⟩ dX4_handOver_70 ?_
      refine W.eq (g2 := F0 m 73 ls [.int (rn_b (decide (rn_held σ j (σ.pl j) &&& 2 ≠ 0)))]) rfl ?_
      refine lv_if_ne (tgt := 82) hx hb dX4_handOver_73 (by decide) (fun c_73 => ?_) (fun c_73 => ?_)
      · rw [rn_held_own hV hj0, rn_b1, decide_eq_true_eq] at c_73
        refine lv_aload hx hb dX4_handOver_82 (lv_at hl 1 rfl) ?_
        refine lv_iload hx hb dX4_handOver_84 (lv_at hl 0 rfl) ?_
        refine rn_put (A := (rn_A f sz)) (ci := 0) (v := .int (nI y)) (C := RX0) (T := TX0) (N := 2) (fs' := [.int (nI y), .int (σ.fm k)]) hx hb hts iw_X4_handOver_0 tyX0 tyX0_ok nmX0 hown hG hS (aF9 k hk0) (hF _ _ (hI k hk0)) rfl 0 (by decide) fw_X4_handOver_172 (Or.inl rfl) rfl rfl (Nat.le_of_ble_eq_true rfl) rfl dX4_handOver_86 (fun H locs hat hz ho hS => ?_)
        have hF := hF.set hat ho
        have hC1 := hC.file (y := y) hk0
        refine lv_iload hx hb dX4_handOver_89 (lv_at hl 0 rfl) ?_
        have ho : rn_o_handOver σ j k x = (nI y, rn_hand σ k y) := by rw [rn_o_handOver, hy]; simp only []; rw [if_neg c_52, if_neg c_73]
        exact rn_Wiret hx hb hr rfl hlocks hS (by decide) (by decide) (by rw [ho]) (by rw [ho]; exact rn_P_mk (rn_V.hand hV hy9) hC1 hF (rn_A_up _ d0 (aF9 k hk0))) dX4_handOver_91
      · rw [rn_held_own hV hj0, rn_dec0] at c_73
        refine lv_aload_n hx hb dX4_handOver_76 rfl (lv_at hl 3 rfl) ?_
        refine lv_iconst (v := (-1)) hx hb dX4_handOver_77 (by decide) ?_
        refine rn_wV (As := [.int (-1)]) (rest := []) 1 hx hb hml hown hts hG hS (c_refuse l ((-1)) hH.1) (fun x hx => by rw [show x = h0 from hx]; exact aH) gX4_handOver_X4_refuse rfl ⟨rfl, rfl⟩ (by decide +kernel) ⟨Nat.le_of_ble_eq_true rfl, Nat.le_of_ble_eq_true rfl⟩ hF (hF _ _ hH.1) rfl rfl hl.1 rfl (Nat.le_of_ble_eq_true rfl) ⟨by decide, by decide⟩ dX4_handOver_78 (fun H locs hP1 hz hk hS => ?_)
        refine W.eq (g2 := F0 m 81 ls [.int (-1)]) rfl ?_
        have hF := hP1
        have ho : rn_o_handOver σ j k x = ((-1), rn_ref σ ((-1))) := by rw [rn_o_handOver, hy]; simp only []; rw [if_neg c_52, if_pos c_73]
        exact rn_Wiret hx hb hr rfl hlocks hS (by decide) (by decide) (by rw [ho]) (by rw [ho]; exact rn_P_mk (rn_V.ref _ hV) (hC.house (σ' := rn_ref σ ((-1))) ⟨rfl, rfl, rfl, rfl⟩ rfl rfl hdr) hF (rn_A_up _ d0 aH)) dX4_handOver_81
    · rw [rn_nI999 (rn_see_le _ _ _)] at c_52
      refine lv_aload_n hx hb dX4_handOver_55 rfl (lv_at hl 3 rfl) ?_
      refine lv_bipush (v := (-2)) hx hb dX4_handOver_56 (by decide +kernel) ?_
      refine rn_wV (As := [.int (-2)]) (rest := []) 1 hx hb hml hown hts hG hS (c_refuse l ((-2)) hH.1) (fun x hx => by rw [show x = h0 from hx]; exact aH) gX4_handOver_X4_refuse rfl ⟨rfl, rfl⟩ (by decide +kernel) ⟨Nat.le_of_ble_eq_true rfl, Nat.le_of_ble_eq_true rfl⟩ hF (hF _ _ hH.1) rfl rfl hl.1 rfl (Nat.le_of_ble_eq_true rfl) ⟨by decide, by decide⟩ dX4_handOver_58 (fun H locs hP1 hz hk hS => ?_)
      refine W.eq (g2 := F0 m 61 ls [.int (-2)]) rfl ?_
      have hF := hP1
      have ho : rn_o_handOver σ j k x = ((-2), rn_ref σ ((-2))) := by rw [rn_o_handOver, hy]; exact if_pos c_52
      exact rn_Wiret hx hb hr rfl hlocks hS (by decide) (by decide) (by rw [ho]) (by rw [ho]; exact rn_P_mk (rn_V.ref _ hV) (hC.house (σ' := rn_ref σ ((-2))) ⟨rfl, rfl, rfl, rfl⟩ rfl rfl hdr) hF (rn_A_up _ d0 aH)) dX4_handOver_61

set_option maxHeartbeats 4000000 in
set_option maxRecDepth 100000 in
theorem w_open (l : Launch) {D : va_G} {cR cP cF : ClassId} {h0 aR aP aF : Nat} {ra pa fa : Nat → Nat} {hd : Nat → Option Nat} {dh : Option Nat} {f : rn_T} {σ : rn_St} (hV : rn_V σ) (hC : rn_CI cR cP cF h0 aR aP aF ra pa fa hd dh f σ) {j k : Nat} {wb : Bool} (hj0 : j < σ.pn) (hk0 : k < σ.fn) (sz : Nat) : rn_W l yX4_open wsX4_open ({ frames := 3, cells := 0, slots := 0, locals := 65 } : Room) D (rn_tys cR cP cF) (rn_S D f) [.ref h0, .int (nI j), .int (nI k), .int (rn_b wb)] (some (.int ((rn_o_open σ j k wb).1))) (rn_P D cR cP cF h0 f sz ((rn_o_open σ j k wb).2)) (rn_A f sz) 0 0 sz := by
  refine rn_W.ofW (cc := cX4_open) (maxL := 6) (ret := (some .int)) (by decide) rfl (Nat.le_of_ble_eq_true rfl) (fun p e s m below meth c ls hx hb hr hml hts hown hlocks hin hsz hF hG hS hl => ?_)
  have hl : lv_has ls 6 [(0, .ref h0), (1, .int (nI j)), (2, .int (nI k)), (3, .int (rn_b wb))] := hl
  obtain ⟨hH, hR, hQ, hI, hdr, hip, hif⟩ := id hC
  have aH : rn_A f sz h0 := rn_A_in hH.1
  have aP9 : ∀ j, j < σ.pn → rn_A f sz (pa j) := fun j hj => rn_A_in (hQ j hj)
  have aR9 : ∀ i, i < σ.sn → rn_A f sz (ra i) := fun i hi => rn_A_in (hR.1 i hi)
  have aF9 : ∀ k, k < σ.fn → rn_A f sz (fa k) := fun k hk => rn_A_in (hI k hk)
  have aA9 : rn_A f sz aR ∧ rn_A f sz aP ∧ rn_A f sz aF := ⟨rn_A_in hH.2.1, rn_A_in hH.2.2.1, rn_A_in hH.2.2.2⟩
  have aN : ∀ q : Nat, s.heap.size ≤ q → rn_A f sz q := fun q h => Or.inr (by rw [← hsz]; exact h)
  have d0 : ∀ x, f x ≠ none → rn_A f sz x := fun x hx => Or.inl hx
  refine lv_aload_n hx hb dX4_open_0 rfl (lv_at hl 0 rfl) ?_
  refine lv_iload_n hx hb dX4_open_1 rfl (lv_at hl 1 rfl) ?_
  refine rn_cV (As := [.int (nI j)]) (rest := []) 1 hx hb hml hown hts hG (c_processAt l hV hH hj0) gX4_open_X4_processAt rfl ⟨rfl, rfl⟩ (by decide +kernel) ⟨Nat.le_of_ble_eq_true rfl, Nat.le_of_ble_eq_true rfl⟩ hF (hF _ _ hH.1) rfl rfl hl.1 rfl (Nat.le_of_ble_eq_true rfl) ⟨by decide, by decide⟩ dX4_open_2 ?_
  refine W.eq (g2 := F0 m 5 ls [.ref (pa j)]) rfl ?_
  refine lv_astore (lv' := [(4, .ref (pa j)), (0, .ref h0), (1, .int (nI j)), (2, .int (nI k)), (3, .int (rn_b wb))]) hx hb dX4_open_5 hl (by decide) rfl (fun ls hl => ?_)
  refine lv_aload_n hx hb dX4_open_7 rfl (lv_at hl 1 rfl) ?_
  refine lv_iload_n hx hb dX4_open_8 rfl (lv_at hl 3 rfl) ?_
  refine rn_cV (As := [.int (nI k)]) (rest := []) 1 hx hb hml hown hts hG (c_fileAt l hV hH hk0) gX4_open_X4_fileAt rfl ⟨rfl, rfl⟩ (by decide +kernel) ⟨Nat.le_of_ble_eq_true rfl, Nat.le_of_ble_eq_true rfl⟩ hF (hF _ _ hH.1) rfl rfl hl.1 rfl (Nat.le_of_ble_eq_true rfl) ⟨by decide, by decide⟩ dX4_open_9 ?_
  refine W.eq (g2 := F0 m 12 ls [.ref (fa k)]) rfl ?_
  refine lv_astore (lv' := [(5, .ref (fa k)), (4, .ref (pa j)), (0, .ref h0), (1, .int (nI j)), (2, .int (nI k)), (3, .int (rn_b wb))]) hx hb dX4_open_12 hl (by decide) rfl (fun ls hl => ?_)
  refine lv_aload hx hb dX4_open_14 (lv_at hl 0 rfl) ?_
  refine lv_aload hx hb dX4_open_16 (lv_at hl 1 rfl) ?_
  refine rn_get (ci := 1) (v := .int (nI (σ.pu j))) (C := RX1) (T := TX1) (N := 3) hx hb hts iw_X4_open_1 hown hG (hF _ _ (hQ j hj0)) rfl 1 (by decide) fw_X4_open_68 rfl dX4_open_18 ?_
  refine lv_iload_n hx hb dX4_open_21 rfl (lv_at hl 5 rfl) ?_
  refine rn_cV (As := [.int (nI (σ.pu j)), .int (rn_b wb)]) (rest := []) 2 hx hb hml hown hts hG (c_allows l hI (nI (σ.pu j)) wb hk0) gX4_open_X0_allows rfl ⟨rfl, rfl⟩ (by decide +kernel) ⟨Nat.le_of_ble_eq_true rfl, Nat.le_of_ble_eq_true rfl⟩ hF (hF _ _ (hI k hk0)) rfl rfl hl.1 rfl (Nat.le_of_ble_eq_true rfl) ⟨by decide, by decide⟩ dX4_open_22 ?_
  refine W.eq (g2 := F0 m 25 ls [.int (rn_b (rn_may (σ.fm k) (nI (σ.pu j)) (nI (σ.fo k)) wb))]) rfl ?_
  refine lv_if_eq (tgt := 30) hx hb dX4_open_25 (by decide) (fun c_25 => ?_) (fun c_25 => ?_)
  · rw [rn_b0] at c_25
    refine lv_aload hx hb dX4_open_30 (lv_at hl 1 rfl) ?_
    refine lv_iconst (v := 4) hx hb dX4_open_32 (by decide) ?_
    refine lv_aload hx hb dX4_open_33 (lv_at hl 1 rfl) ?_
    refine rn_get (ci := 1) (v := .ref (ra (σ.pl j))) (C := RX1) (T := TX1) (N := 3) hx hb hts iw_X4_open_1 hown hG (hF _ _ (hQ j hj0)) rfl 0 (by decide) fw_X4_open_64 rfl dX4_open_35 ?_
    refine rn_cV (As := [.int 4, .ref (ra (σ.pl j))]) (rest := []) 2 hx hb hml hown hts hG (c_hasRight l hV hR hQ 4 hj0 (hV.2.2.2.2.2.1.2.2 j hj0).1) gX4_open_X1_hasRight rfl ⟨rfl, rfl⟩ (by decide +kernel) ⟨Nat.le_of_ble_eq_true rfl, Nat.le_of_ble_eq_true rfl⟩ hF (hF _ _ (hQ j hj0)) rfl rfl hl.1 rfl (Nat.le_of_ble_eq_true rfl) ⟨by decide, by decide⟩ dX4_open_38 ?_
    refine W.eq (g2 := F0 m 41 ls [.int (rn_b (decide (rn_held σ j (σ.pl j) &&& 4 ≠ 0)))]) rfl ?_
    refine lv_if_ne (tgt := 51) hx hb dX4_open_41 (by decide) (fun c_41 => ?_) (fun c_41 => ?_)
    · rw [rn_held_own hV hj0, rn_b1, decide_eq_true_eq] at c_41
      refine lv_aload_n hx hb dX4_open_51 rfl (lv_at hl 2 rfl) ?_
      refine lv_aload hx hb dX4_open_52 (lv_at hl 1 rfl) ?_
      refine rn_get (ci := 1) (v := .ref (ra (σ.pl j))) (C := RX1) (T := TX1) (N := 3) hx hb hts iw_X4_open_1 hown hG (hF _ _ (hQ j hj0)) rfl 0 (by decide) fw_X4_open_64 rfl dX4_open_54 ?_
      refine lv_aload hx hb dX4_open_57 (lv_at hl 0 rfl) ?_
      refine rn_get (ci := 0) (v := .int (nI (σ.fo k))) (C := RX0) (T := TX0) (N := 2) hx hb hts iw_X4_open_0 hown hG (hF _ _ (hI k hk0)) rfl 0 (by decide) fw_X4_open_172 rfl dX4_open_59 ?_
      refine rn_cV (As := [.ref (ra (σ.pl j)), .int (nI (σ.fo k))]) (rest := []) 2 hx hb hml hown hts hG (c_seenFrom l hV hH hR (r := σ.pl j) (y := σ.fo k) (hV.2.2.2.2.2.1.2.2 j hj0).1 (hV.2.2.2.2.2.2.2 k hk0)) gX4_open_X4_seenFrom rfl ⟨rfl, rfl⟩ (by decide +kernel) ⟨Nat.le_of_ble_eq_true rfl, Nat.le_of_ble_eq_true rfl⟩ hF (hF _ _ hH.1) rfl rfl hl.1 rfl (Nat.le_of_ble_eq_true rfl) ⟨by decide, by decide⟩ dX4_open_62 ?_
      refine W.eq (g2 := F0 m 65 ls [.int (nI (rn_see σ (σ.pl j) (σ.fo k)))]) rfl ?_
      refine lv_sipush (v := 999) hx hb dX4_open_65 (by decide +kernel) ?_
      refine lv_icmp_ne (tgt := 78) hx hb dX4_open_68 (by decide) (fun c_68 => ?_) (fun c_68 => ?_)
      · rw [rn_nI999 (rn_see_le _ _ _)] at c_68
        refine lv_iconst (v := 2) hx hb dX4_open_78 (by decide) ?_
        have ho : rn_o_open σ j k wb = (2, σ) := by rw [rn_o_open, if_neg (by rw [c_25]; decide), if_neg c_41, if_neg c_68]
        exact rn_Wiret hx hb hr rfl hlocks hS (by decide) (by decide) (by rw [ho]) (by rw [ho]; exact rn_P_mk hV hC hF d0) dX4_open_79
      · rw [rn_nI999 (rn_see_le _ _ _)] at c_68
        refine lv_aload_n hx hb dX4_open_71 rfl (lv_at hl 2 rfl) ?_
        refine lv_bipush (v := (-2)) hx hb dX4_open_72 (by decide +kernel) ?_
        refine rn_wV (As := [.int (-2)]) (rest := []) 1 hx hb hml hown hts hG hS (c_refuse l ((-2)) hH.1) (fun x hx => by rw [show x = h0 from hx]; exact aH) gX4_open_X4_refuse rfl ⟨rfl, rfl⟩ (by decide +kernel) ⟨Nat.le_of_ble_eq_true rfl, Nat.le_of_ble_eq_true rfl⟩ hF (hF _ _ hH.1) rfl rfl hl.1 rfl (Nat.le_of_ble_eq_true rfl) ⟨by decide, by decide⟩ dX4_open_74 (fun H locs hP1 hz hk hS => ?_)
        refine W.eq (g2 := F0 m 77 ls [.int (-2)]) rfl ?_
        have hF := hP1
        have ho : rn_o_open σ j k wb = ((-2), rn_ref σ ((-2))) := by rw [rn_o_open, if_neg (by rw [c_25]; decide), if_neg c_41, if_pos c_68]
        exact rn_Wiret hx hb hr rfl hlocks hS (by decide) (by decide) (by rw [ho]) (by rw [ho]; exact rn_P_mk (rn_V.ref _ hV) (hC.house (σ' := rn_ref σ ((-2))) ⟨rfl, rfl, rfl, rfl⟩ rfl rfl hdr) hF (rn_A_up _ d0 aH)) dX4_open_77
    · rw [rn_held_own hV hj0, rn_dec0] at c_41
      refine lv_aload_n hx hb dX4_open_44 rfl (lv_at hl 2 rfl) ?_
      refine lv_bipush (v := (-6)) hx hb dX4_open_45 (by decide +kernel) ?_
      refine rn_wV (As := [.int (-6)]) (rest := []) 1 hx hb hml hown hts hG hS (c_refuse l ((-6)) hH.1) (fun x hx => by rw [show x = h0 from hx]; exact aH) gX4_open_X4_refuse rfl ⟨rfl, rfl⟩ (by decide +kernel) ⟨Nat.le_of_ble_eq_true rfl, Nat.le_of_ble_eq_true rfl⟩ hF (hF _ _ hH.1) rfl rfl hl.1 rfl (Nat.le_of_ble_eq_true rfl) ⟨by decide, by decide⟩ dX4_open_47 (fun H locs hP1 hz hk hS => ?_)
      refine W.eq (g2 := F0 m 50 ls [.int (-6)]) rfl ?_
      have hF := hP1
      have ho : rn_o_open σ j k wb = ((-6), rn_ref σ ((-6))) := by rw [rn_o_open, if_neg (by rw [c_25]; decide), if_pos c_41]
      exact rn_Wiret hx hb hr rfl hlocks hS (by decide) (by decide) (by rw [ho]) (by rw [ho]; exact rn_P_mk (rn_V.ref _ hV) (hC.house (σ' := rn_ref σ ((-6))) ⟨rfl, rfl, rfl, rfl⟩ rfl rfl hdr) hF (rn_A_up _ d0 aH)) dX4_open_50
  · rw [rn_b1] at c_25
    refine lv_iconst (v := 1) hx hb dX4_open_28 (by decide) ?_
    have ho : rn_o_open σ j k wb = (1, σ) := by rw [rn_o_open, if_pos c_25]
    exact rn_Wiret hx hb hr rfl hlocks hS (by decide) (by decide) (by rw [ho]) (by rw [ho]; exact rn_P_mk hV hC hF d0) dX4_open_29
