set_option maxHeartbeats 4000000 in
set_option maxRecDepth 100000 in
theorem w_makeRoom (l : Launch) {D : va_G} {cR cP cF : ClassId} {h0 aR aP aF : Nat} {ra pa fa : Nat → Nat} {hd : Nat → Option Nat} {dh : Option Nat} {f : rn_T} {σ : rn_St} (hV : rn_V σ) (hC : rn_CI cR cP cF h0 aR aP aF ra pa fa hd dh f σ) {j : Nat} (hj0 : j < σ.pn) (hn0 : σ.sn < 10) (sz : Nat) : rn_W l yX4_makeRoom wsX4_makeRoom ({ frames := 2, cells := 1, slots := 4, locals := 35 } : Room) D (rn_tys cR cP cF) (rn_S D f) [.ref h0, .int (nI j)] (some (.int (nI σ.sn))) (rn_P D cR cP cF h0 f sz (rn_addRoom σ j)) (rn_A f sz) 1 4 sz := by
  refine rn_W.ofW (cc := cX4_makeRoom) (maxL := 4) (ret := (some .int)) (by decide) rfl (Nat.le_of_ble_eq_true rfl) (fun p e s m below meth c ls hx hb hr hml hts hown hlocks hin hsz hF hG hS hl => ?_)
  have hl : lv_has ls 4 [(0, .ref h0), (1, .int (nI j))] := hl
  obtain ⟨hH, hR, hQ, hI, hdr, hip, hif⟩ := id hC
  have aH : rn_A f sz h0 := rn_A_in hH.1
  have aP9 : ∀ j, j < σ.pn → rn_A f sz (pa j) := fun j hj => rn_A_in (hQ j hj)
  have aR9 : ∀ i, i < σ.sn → rn_A f sz (ra i) := fun i hi => rn_A_in (hR.1 i hi)
  have aF9 : ∀ k, k < σ.fn → rn_A f sz (fa k) := fun k hk => rn_A_in (hI k hk)
  have aA9 : rn_A f sz aR ∧ rn_A f sz aP ∧ rn_A f sz aF := ⟨rn_A_in hH.2.1, rn_A_in hH.2.2.1, rn_A_in hH.2.2.2⟩
  have aN : ∀ q : Nat, s.heap.size ≤ q → rn_A f sz q := fun q h => Or.inr (by rw [← hsz]; exact h)
  have d0 : ∀ x, f x ≠ none → rn_A f sz x := fun x hx => Or.inl hx
  refine lv_aload_n hx hb dX4_makeRoom_0 rfl (lv_at hl 0 rfl) ?_
  refine lv_iload_n hx hb dX4_makeRoom_1 rfl (lv_at hl 1 rfl) ?_
  refine rn_cV (As := [.int (nI j)]) (rest := []) 1 hx hb hml hown hts hG (c_processAt l hV hH hj0) gX4_makeRoom_X4_processAt rfl ⟨rfl, rfl⟩ (by decide +kernel) ⟨Nat.le_of_ble_eq_true rfl, Nat.le_of_ble_eq_true rfl⟩ hF (hF _ _ hH.1) rfl rfl hl.1 rfl (Nat.le_of_ble_eq_true rfl) ⟨by decide, by decide⟩ dX4_makeRoom_2 ?_
  refine W.eq (g2 := F0 m 5 ls [.ref (pa j)]) rfl ?_
  refine lv_astore_n (lv' := [(2, .ref (pa j)), (0, .ref h0), (1, .int (nI j))]) hx hb dX4_makeRoom_5 rfl hl (by decide) rfl (fun ls hl => ?_)
  refine lv_aload_n hx hb dX4_makeRoom_6 rfl (lv_at hl 1 rfl) ?_
  refine rn_get (ci := 4) (v := .int (nI σ.sn)) (C := RX4) (T := TX4) (N := 9) hx hb hts iw_X4_makeRoom_4 hown hG (hF _ _ hH.1) rfl 1 (by decide) fw_X4_makeRoom_18 rfl dX4_makeRoom_7 ?_
  refine lv_aload_n hx hb dX4_makeRoom_10 rfl (lv_at hl 1 rfl) ?_
  refine rn_get (ci := 4) (v := .ref aR) (C := RX4) (T := TX4) (N := 9) hx hb hts iw_X4_makeRoom_4 hown hG (hF _ _ hH.1) rfl 0 (by decide) fw_X4_makeRoom_14 rfl dX4_makeRoom_11 ?_
  refine rn_alen hx hb hG (hF _ _ hH.2.1) 0 rfl dX4_makeRoom_14 ?_
  refine rn_top (y := .int (nI 10)) rfl ?_
  refine lv_icmp_lt (tgt := 28) hx hb dX4_makeRoom_15 (by decide) (fun c_15 => ?_) (fun c_15 => ?_)
  · refine rn_new (A := (rn_A f sz)) (ci := 3) (C := RX3) (T := TX3) (N := 4) (fs := [.int 0, .null, .int 0, .null]) hx hb hts iw_X4_makeRoom_3 tyX3 tyX3_ok hown cw_X4_makeRoom_7 nw_X4_makeRoom_3 tw_X4_makeRoom_3 hG hS aN rfl (fun j hj => by rcases (show j = 0 ∨ j = 1 ∨ j = 2 ∨ j = 3 by omega) with rfl | rfl | rfl | rfl <;> rfl) (by decide) (by decide) dX4_makeRoom_28 (fun q9 H hq hat hz ho hS => ?_)
    have hq9 : f q9 = none := hF.fresh hq
    have aq9 : rn_A f sz q9 := aN q9 (by rw [hq]; exact Nat.le_refl _)
    have hF := hF.push hq hat ho
    have hC0 := hC
    have hC := hC0.fresh (.inr (3, [.int 0, .null, .int 0, .null])) hq9
    obtain ⟨hH, hR, hQ, hI, hdr, hip, hif⟩ := id hC
    refine lv_dup hx hb dX4_makeRoom_31 rfl ?_
    refine lv_aload_n hx hb dX4_makeRoom_32 rfl (lv_at hl 1 rfl) ?_
    refine rn_get (ci := 4) (v := .int (nI σ.sn)) (C := RX4) (T := TX4) (N := 9) hx hb hts iw_X4_makeRoom_4 hown hG (hF _ _ hH.1) rfl 1 (by decide) fw_X4_makeRoom_18 rfl dX4_makeRoom_33 ?_
    refine lv_aload_n hx hb dX4_makeRoom_36 rfl (lv_at hl 0 rfl) ?_
    refine rn_get (ci := 1) (v := .ref (ra (σ.pl j))) (C := RX1) (T := TX1) (N := 3) hx hb hts iw_X4_makeRoom_1 hown hG (hF _ _ (hQ j hj0)) rfl 0 (by decide) fw_X4_makeRoom_64 rfl dX4_makeRoom_37 ?_
    refine lv_aload_n hx hb dX4_makeRoom_40 rfl (lv_at hl 0 rfl) ?_
    refine rn_get (ci := 1) (v := .int (nI (σ.pu j))) (C := RX1) (T := TX1) (N := 3) hx hb hts iw_X4_makeRoom_1 hown hG (hF _ _ (hQ j hj0)) rfl 1 (by decide) fw_X4_makeRoom_68 rfl dX4_makeRoom_41 ?_
    refine rn_wI (As := [.int (nI σ.sn), .ref (ra (σ.pl j)), .int (nI (σ.pu j))]) (rest := [.ref q9]) 3 hx hb hml hown hts hG hS (c_Room_init l (nI σ.sn) (some (ra (σ.pl j))) (nI (σ.pu j)) (rn_up_eq _ _ _)) (fun x hx => by rw [show x = q9 from hx]; exact aq9) gX4_makeRoom_X3_init rfl ⟨rfl, rfl⟩ (by decide +kernel) (by decide +kernel) (by decide +kernel) rfl (by decide +kernel) ⟨Nat.le_of_ble_eq_true rfl, Nat.le_of_ble_eq_true rfl⟩ hF rfl hl.1 rfl (Nat.le_of_ble_eq_true rfl) ⟨by decide, by decide⟩ dX4_makeRoom_44 (fun H locs hP1 hz hk hS => ?_)
    refine W.eq (g2 := F0 m 47 ls [.ref q9]) rfl ?_
    have hF : rn_S D (va_up f q9 (some (.inr (3, [.int (nI σ.sn), .ref (ra (σ.pl j)), .int (nI (σ.pu j)), .null])))) H := by have h := hP1; rw [rn_up_up] at h; exact h
    have hC := hC0.fresh (.inr (3, [.int (nI σ.sn), .ref (ra (σ.pl j)), .int (nI (σ.pu j)), .null])) hq9
    obtain ⟨hH, hR, hQ, hI, hdr, hip, hif⟩ := id hC
    refine lv_astore_n (lv' := [(3, .ref q9), (2, .ref (pa j)), (0, .ref h0), (1, .int (nI j))]) hx hb dX4_makeRoom_47 rfl hl (by decide) rfl (fun ls hl => ?_)
    refine lv_aload_n hx hb dX4_makeRoom_48 rfl (lv_at hl 2 rfl) ?_
    refine rn_get (ci := 4) (v := .ref aR) (C := RX4) (T := TX4) (N := 9) hx hb hts iw_X4_makeRoom_4 hown hG (hF _ _ hH.1) rfl 0 (by decide) fw_X4_makeRoom_14 rfl dX4_makeRoom_49 ?_
    refine lv_aload_n hx hb dX4_makeRoom_52 rfl (lv_at hl 2 rfl) ?_
    refine rn_get (ci := 4) (v := .int (nI σ.sn)) (C := RX4) (T := TX4) (N := 9) hx hb hts iw_X4_makeRoom_4 hown hG (hF _ _ hH.1) rfl 1 (by decide) fw_X4_makeRoom_18 rfl dX4_makeRoom_53 ?_
    refine lv_aload_n hx hb dX4_makeRoom_56 rfl (lv_at hl 0 rfl) ?_
    refine rn_aast (A := (rn_A f sz)) (ci := 3) (C := RX3) (T := TX3) (N := 4) (j := σ.sn) hx hb hG hS aA9.1 (hF _ _ hH.2.1) 0 rfl (hF _ _ (rn_up_eq _ _ _)) rfl (by omega) (by decide) dX4_makeRoom_57 (fun H locs hat hz ho hS => ?_)
    have hF := hF.set hat ho
    have hH1 := rn_up_keep (a := aR) (e' := some (.inl (cR, 10, .inr (.inr (.inr (.inr (va_up (rn_row σ.sn ra) σ.sn (some q9)))))))) hH.1 (by rw [hH.2.1]; simp)
    refine lv_aload_n hx hb dX4_makeRoom_58 rfl (lv_at hl 2 rfl) ?_
    refine lv_dup hx hb dX4_makeRoom_59 rfl ?_
    refine rn_get (ci := 4) (v := .int (nI σ.sn)) (C := RX4) (T := TX4) (N := 9) hx hb hts iw_X4_makeRoom_4 hown hG (hF _ _ hH1) rfl 1 (by decide) fw_X4_makeRoom_18 rfl dX4_makeRoom_60 ?_
    refine lv_iconst (v := 1) hx hb dX4_makeRoom_63 (by decide) ?_
    refine lv_iadd hx hb dX4_makeRoom_64 ?_
    refine rn_top (y := .int (nI (σ.sn + 1))) (congrArg Value.int (nI_1 _)) ?_
    refine rn_put (A := (rn_A f sz)) (ci := 4) (v := .int (nI (σ.sn + 1))) (C := RX4) (T := TX4) (N := 9) (fs' := [.ref aR, .int (nI (σ.sn + 1)), .ref aP, .int (nI σ.pn), .ref aF, .int (nI σ.fn), va_rf dh, .int σ.rc, .int σ.la]) hx hb hts iw_X4_makeRoom_4 tyX4 tyX4_ok nmX4 hown hG hS aH (hF _ _ hH1) rfl 1 (by decide) fw_X4_makeRoom_18 (Or.inl rfl) rfl rfl (Nat.le_of_ble_eq_true rfl) rfl dX4_makeRoom_65 (fun H locs hat hz ho hS => ?_)
    have hF : rn_S D (rn_fR f q9 aR h0 aP aF cR σ ra dh (ra (σ.pl j)) (nI (σ.pu j))) H := hF.set hat ho
    have hC3 := hC0.newRoom hV hj0 hq9
    have hQ3 := hC3.2.2.1 j hj0
    refine lv_aload_n hx hb dX4_makeRoom_68 rfl (lv_at hl 1 rfl) ?_
    refine lv_aload_n hx hb dX4_makeRoom_69 rfl (lv_at hl 0 rfl) ?_
    refine rn_wV (As := [.ref q9]) (rest := []) 1 hx hb hml hown hts hG hS (c_moveInto l hQ3) (fun x hx => by rw [show x = pa j from hx]; exact aP9 j hj0) gX4_makeRoom_X1_moveInto rfl ⟨rfl, rfl⟩ (by decide +kernel) ⟨Nat.le_of_ble_eq_true rfl, Nat.le_of_ble_eq_true rfl⟩ hF (hF _ _ hQ3) rfl rfl hl.1 rfl (Nat.le_of_ble_eq_true rfl) ⟨by decide, by decide⟩ dX4_makeRoom_70 (fun H locs hP1 hz hk hS => ?_)
    refine W.eq (g2 := F0 m 73 ls []) rfl ?_
    have hF := hP1
    have e9 : va_up ra σ.sn q9 σ.sn = q9 := rn_up_eq _ _ _
    have hC4 := hC3.proc (r := σ.sn) (u := σ.pu j) (k := 15) hj0
    rw [e9] at hC4
    have hq4 := hC4.2.1.1 σ.sn (Nat.lt_succ_self _)
    rw [e9] at hq4
    refine lv_aload_n hx hb dX4_makeRoom_73 rfl (lv_at hl 0 rfl) ?_
    refine rn_get (ci := 3) (v := .int (nI σ.sn)) (C := RX3) (T := TX3) (N := 4) hx hb hts iw_X4_makeRoom_3 hown hG (hF _ _ hq4) rfl 0 (by decide) fw_X4_makeRoom_75 rfl dX4_makeRoom_74 ?_
    exact rn_Wiret hx hb hr rfl hlocks hS (by decide) (by decide) rfl (rn_P_mk (hV.addRoom hj0 hn0) hC4 hF (rn_A_up _ (rn_A_up _ (rn_A_up _ (rn_A_up _ d0 aq9) aA9.1) aH) (aP9 j hj0))) dX4_makeRoom_77
  · exact absurd ((nI_ltI (by omega) (by omega)).mpr (by omega)) c_15

set_option maxHeartbeats 4000000 in
set_option maxRecDepth 100000 in
theorem w_fork (l : Launch) {D : va_G} {cR cP cF : ClassId} {h0 aR aP aF : Nat} {ra pa fa : Nat → Nat} {hd : Nat → Option Nat} {dh : Option Nat} {f : rn_T} {σ : rn_St} (hV : rn_V σ) (hC : rn_CI cR cP cF h0 aR aP aF ra pa fa hd dh f σ) {j : Nat} (hj0 : j < σ.pn) (hn0 : σ.pn < 12) (sz : Nat) : rn_W l yX4_fork wsX4_fork ({ frames := 2, cells := 1, slots := 3, locals := 35 } : Room) D (rn_tys cR cP cF) (rn_S D f) [.ref h0, .int (nI j)] (some (.int (nI σ.pn))) (rn_P D cR cP cF h0 f sz (rn_fork σ j)) (rn_A f sz) 1 3 sz := by
  refine rn_W.ofW (cc := cX4_fork) (maxL := 4) (ret := (some .int)) (by decide) rfl (Nat.le_of_ble_eq_true rfl) (fun p e s m below meth c ls hx hb hr hml hts hown hlocks hin hsz hF hG hS hl => ?_)
  have hl : lv_has ls 4 [(0, .ref h0), (1, .int (nI j))] := hl
  obtain ⟨hH, hR, hQ, hI, hdr, hip, hif⟩ := id hC
  have aH : rn_A f sz h0 := rn_A_in hH.1
  have aP9 : ∀ j, j < σ.pn → rn_A f sz (pa j) := fun j hj => rn_A_in (hQ j hj)
  have aR9 : ∀ i, i < σ.sn → rn_A f sz (ra i) := fun i hi => rn_A_in (hR.1 i hi)
  have aF9 : ∀ k, k < σ.fn → rn_A f sz (fa k) := fun k hk => rn_A_in (hI k hk)
  have aA9 : rn_A f sz aR ∧ rn_A f sz aP ∧ rn_A f sz aF := ⟨rn_A_in hH.2.1, rn_A_in hH.2.2.1, rn_A_in hH.2.2.2⟩
  have aN : ∀ q : Nat, s.heap.size ≤ q → rn_A f sz q := fun q h => Or.inr (by rw [← hsz]; exact h)
  have d0 : ∀ x, f x ≠ none → rn_A f sz x := fun x hx => Or.inl hx
  refine lv_aload_n hx hb dX4_fork_0 rfl (lv_at hl 0 rfl) ?_
  refine lv_iload_n hx hb dX4_fork_1 rfl (lv_at hl 1 rfl) ?_
  refine rn_cV (As := [.int (nI j)]) (rest := []) 1 hx hb hml hown hts hG (c_processAt l hV hH hj0) gX4_fork_X4_processAt rfl ⟨rfl, rfl⟩ (by decide +kernel) ⟨Nat.le_of_ble_eq_true rfl, Nat.le_of_ble_eq_true rfl⟩ hF (hF _ _ hH.1) rfl rfl hl.1 rfl (Nat.le_of_ble_eq_true rfl) ⟨by decide, by decide⟩ dX4_fork_2 ?_
  refine W.eq (g2 := F0 m 5 ls [.ref (pa j)]) rfl ?_
  refine lv_astore_n (lv' := [(2, .ref (pa j)), (0, .ref h0), (1, .int (nI j))]) hx hb dX4_fork_5 rfl hl (by decide) rfl (fun ls hl => ?_)
  refine lv_aload_n hx hb dX4_fork_6 rfl (lv_at hl 1 rfl) ?_
  refine rn_get (ci := 4) (v := .int (nI σ.pn)) (C := RX4) (T := TX4) (N := 9) hx hb hts iw_X4_fork_4 hown hG (hF _ _ hH.1) rfl 3 (by decide) fw_X4_fork_31 rfl dX4_fork_7 ?_
  refine lv_aload_n hx hb dX4_fork_10 rfl (lv_at hl 1 rfl) ?_
  refine rn_get (ci := 4) (v := .ref aP) (C := RX4) (T := TX4) (N := 9) hx hb hts iw_X4_fork_4 hown hG (hF _ _ hH.1) rfl 2 (by decide) fw_X4_fork_24 rfl dX4_fork_11 ?_
  refine rn_alen hx hb hG (hF _ _ hH.2.2.1) 1 rfl dX4_fork_14 ?_
  refine rn_top (y := .int (nI 12)) rfl ?_
  refine lv_icmp_lt (tgt := 28) hx hb dX4_fork_15 (by decide) (fun c_15 => ?_) (fun c_15 => ?_)
  · refine lv_aload_n hx hb dX4_fork_28 rfl (lv_at hl 1 rfl) ?_
    refine rn_get (ci := 4) (v := .int (nI σ.pn)) (C := RX4) (T := TX4) (N := 9) hx hb hts iw_X4_fork_4 hown hG (hF _ _ hH.1) rfl 3 (by decide) fw_X4_fork_31 rfl dX4_fork_29 ?_
    refine lv_istore_n (lv' := [(3, .int (nI σ.pn)), (2, .ref (pa j)), (0, .ref h0), (1, .int (nI j))]) hx hb dX4_fork_32 rfl hl (by decide) rfl (fun ls hl => ?_)
    refine lv_aload_n hx hb dX4_fork_33 rfl (lv_at hl 2 rfl) ?_
    refine rn_get (ci := 4) (v := .ref aP) (C := RX4) (T := TX4) (N := 9) hx hb hts iw_X4_fork_4 hown hG (hF _ _ hH.1) rfl 2 (by decide) fw_X4_fork_24 rfl dX4_fork_34 ?_
    refine lv_iload_n hx hb dX4_fork_37 rfl (lv_at hl 0 rfl) ?_
    refine rn_new (A := (rn_A f sz)) (ci := 1) (C := RX1) (T := TX1) (N := 3) (fs := [.null, .int 0, .int 0]) hx hb hts iw_X4_fork_1 tyX1 tyX1_ok hown cw_X4_fork_22 nw_X4_fork_1 tw_X4_fork_1 hG hS aN rfl (fun j hj => by rcases (show j = 0 ∨ j = 1 ∨ j = 2 by omega) with rfl | rfl | rfl <;> rfl) (by decide) (by decide) dX4_fork_38 (fun q9 H hq hat hz ho hS => ?_)
    have hq9 : f q9 = none := hF.fresh hq
    have aq9 : rn_A f sz q9 := aN q9 (by rw [hq]; exact Nat.le_refl _)
    have hF := hF.push hq hat ho
    have hC0 := hC
    have hC := hC0.fresh (.inr (1, [.null, .int 0, .int 0])) hq9
    obtain ⟨hH, hR, hQ, hI, hdr, hip, hif⟩ := id hC
    refine lv_dup hx hb dX4_fork_41 rfl ?_
    refine lv_aload_n hx hb dX4_fork_42 rfl (lv_at hl 1 rfl) ?_
    refine rn_get (ci := 1) (v := .ref (ra (σ.pl j))) (C := RX1) (T := TX1) (N := 3) hx hb hts iw_X4_fork_1 hown hG (hF _ _ (hQ j hj0)) rfl 0 (by decide) fw_X4_fork_64 rfl dX4_fork_43 ?_
    refine lv_aload_n hx hb dX4_fork_46 rfl (lv_at hl 1 rfl) ?_
    refine rn_get (ci := 1) (v := .int (nI (σ.pu j))) (C := RX1) (T := TX1) (N := 3) hx hb hts iw_X4_fork_1 hown hG (hF _ _ (hQ j hj0)) rfl 1 (by decide) fw_X4_fork_68 rfl dX4_fork_47 ?_
    refine lv_aload_n hx hb dX4_fork_50 rfl (lv_at hl 1 rfl) ?_
    refine rn_get (ci := 1) (v := .int (σ.pr j)) (C := RX1) (T := TX1) (N := 3) hx hb hts iw_X4_fork_1 hown hG (hF _ _ (hQ j hj0)) rfl 2 (by decide) fw_X4_fork_149 rfl dX4_fork_51 ?_
    refine rn_wI (As := [.ref (ra (σ.pl j)), .int (nI (σ.pu j)), .int (σ.pr j)]) (rest := [.ref q9, .int (nI σ.pn), .ref aP]) 3 hx hb hml hown hts hG hS (c_Process_init l (nI (σ.pu j)) (σ.pr j) (rn_up_eq _ _ _)) (fun x hx => by rw [show x = q9 from hx]; exact aq9) gX4_fork_X1_init rfl ⟨rfl, rfl⟩ (by decide +kernel) (by decide +kernel) (by decide +kernel) rfl (by decide +kernel) ⟨Nat.le_of_ble_eq_true rfl, Nat.le_of_ble_eq_true rfl⟩ hF rfl hl.1 rfl (Nat.le_of_ble_eq_true rfl) ⟨by decide, by decide⟩ dX4_fork_54 (fun H locs hP1 hz hk hS => ?_)
    refine W.eq (g2 := F0 m 57 ls [.ref q9, .int (nI σ.pn), .ref aP]) rfl ?_
    have hF : rn_S D (va_up f q9 (some (.inr (1, [.ref (ra (σ.pl j)), .int (nI (σ.pu j)), .int (σ.pr j)])))) H := by have h := hP1; rw [rn_up_up] at h; exact h
    have hC := hC0.fresh (.inr (1, [.ref (ra (σ.pl j)), .int (nI (σ.pu j)), .int (σ.pr j)])) hq9
    obtain ⟨hH, hR, hQ, hI, hdr, hip, hif⟩ := id hC
    refine rn_aast (A := (rn_A f sz)) (ci := 1) (C := RX1) (T := TX1) (N := 3) (j := σ.pn) hx hb hG hS aA9.2.1 (hF _ _ hH.2.2.1) 1 rfl (hF _ _ (rn_up_eq _ _ _)) rfl (by omega) (by decide) dX4_fork_57 (fun H locs hat hz ho hS => ?_)
    have hF := hF.set hat ho
    have hH1 := rn_up_keep (a := aP) (e' := some (.inl (cP, 12, .inr (.inr (.inr (.inr (va_up (rn_row σ.pn pa) σ.pn (some q9)))))))) hH.1 (by rw [hH.2.2.1]; simp)
    refine lv_aload_n hx hb dX4_fork_58 rfl (lv_at hl 2 rfl) ?_
    refine lv_dup hx hb dX4_fork_59 rfl ?_
    refine rn_get (ci := 4) (v := .int (nI σ.pn)) (C := RX4) (T := TX4) (N := 9) hx hb hts iw_X4_fork_4 hown hG (hF _ _ hH1) rfl 3 (by decide) fw_X4_fork_31 rfl dX4_fork_60 ?_
    refine lv_iconst (v := 1) hx hb dX4_fork_63 (by decide) ?_
    refine lv_iadd hx hb dX4_fork_64 ?_
    refine rn_top (y := .int (nI (σ.pn + 1))) (congrArg Value.int (nI_1 _)) ?_
    refine rn_put (A := (rn_A f sz)) (ci := 4) (v := .int (nI (σ.pn + 1))) (C := RX4) (T := TX4) (N := 9) (fs' := [.ref aR, .int (nI σ.sn), .ref aP, .int (nI (σ.pn + 1)), .ref aF, .int (nI σ.fn), va_rf dh, .int σ.rc, .int σ.la]) hx hb hts iw_X4_fork_4 tyX4 tyX4_ok nmX4 hown hG hS aH (hF _ _ hH1) rfl 3 (by decide) fw_X4_fork_31 (Or.inl rfl) rfl rfl (Nat.le_of_ble_eq_true rfl) rfl dX4_fork_65 (fun H locs hat hz ho hS => ?_)
    have hF : rn_S D (rn_fP f q9 aP h0 aR aF cP σ pa dh (ra (σ.pl j)) (nI (σ.pu j)) (σ.pr j)) H := hF.set hat ho
    have hC3 := hC0.addProc (j := j) hq9
    refine lv_iload_n hx hb dX4_fork_68 rfl (lv_at hl 0 rfl) ?_
    exact rn_Wiret hx hb hr rfl hlocks hS (by decide) (by decide) rfl (rn_P_mk (hV.fork hj0 hn0) hC3 hF (rn_A_up _ (rn_A_up _ (rn_A_up _ d0 aq9) aA9.2.1) aH)) dX4_fork_69
  · exact absurd ((nI_ltI (by omega) (by omega)).mpr (by omega)) c_15

set_option maxHeartbeats 4000000 in
set_option maxRecDepth 100000 in
theorem w_makeFile (l : Launch) {D : va_G} {cR cP cF : ClassId} {h0 aR aP aF : Nat} {ra pa fa : Nat → Nat} {hd : Nat → Option Nat} {dh : Option Nat} {f : rn_T} {σ : rn_St} (hV : rn_V σ) (hC : rn_CI cR cP cF h0 aR aP aF ra pa fa hd dh f σ) {j k : Nat} (hj0 : j < σ.pn) (hk0 : k ≤ 15) (hn0 : σ.fn < 20) (sz : Nat) : rn_W l yX4_makeFile wsX4_makeFile ({ frames := 2, cells := 1, slots := 2, locals := 49 } : Room) D (rn_tys cR cP cF) (rn_S D f) [.ref h0, .int (nI j), .int (nI k)] (some (.int ((rn_o_makeFile σ j (nI k)).1))) (rn_P D cR cP cF h0 f sz ((rn_o_makeFile σ j (nI k)).2)) (rn_A f sz) 1 2 sz := by
  refine rn_W.ofW (cc := cX4_makeFile) (maxL := 5) (ret := (some .int)) (by decide) rfl (Nat.le_of_ble_eq_true rfl) (fun p e s m below meth c ls hx hb hr hml hts hown hlocks hin hsz hF hG hS hl => ?_)
  have hl : lv_has ls 5 [(0, .ref h0), (1, .int (nI j)), (2, .int (nI k))] := hl
  obtain ⟨hH, hR, hQ, hI, hdr, hip, hif⟩ := id hC
  have aH : rn_A f sz h0 := rn_A_in hH.1
  have aP9 : ∀ j, j < σ.pn → rn_A f sz (pa j) := fun j hj => rn_A_in (hQ j hj)
  have aR9 : ∀ i, i < σ.sn → rn_A f sz (ra i) := fun i hi => rn_A_in (hR.1 i hi)
  have aF9 : ∀ k, k < σ.fn → rn_A f sz (fa k) := fun k hk => rn_A_in (hI k hk)
  have aA9 : rn_A f sz aR ∧ rn_A f sz aP ∧ rn_A f sz aF := ⟨rn_A_in hH.2.1, rn_A_in hH.2.2.1, rn_A_in hH.2.2.2⟩
  have aN : ∀ q : Nat, s.heap.size ≤ q → rn_A f sz q := fun q h => Or.inr (by rw [← hsz]; exact h)
  have d0 : ∀ x, f x ≠ none → rn_A f sz x := fun x hx => Or.inl hx
  refine lv_aload_n hx hb dX4_makeFile_0 rfl (lv_at hl 0 rfl) ?_
  refine lv_iload_n hx hb dX4_makeFile_1 rfl (lv_at hl 1 rfl) ?_
  refine rn_cV (As := [.int (nI j)]) (rest := []) 1 hx hb hml hown hts hG (c_processAt l hV hH hj0) gX4_makeFile_X4_processAt rfl ⟨rfl, rfl⟩ (by decide +kernel) ⟨Nat.le_of_ble_eq_true rfl, Nat.le_of_ble_eq_true rfl⟩ hF (hF _ _ hH.1) rfl rfl hl.1 rfl (Nat.le_of_ble_eq_true rfl) ⟨by decide, by decide⟩ dX4_makeFile_2 ?_
  refine W.eq (g2 := F0 m 5 ls [.ref (pa j)]) rfl ?_
  refine lv_astore_n (lv' := [(3, .ref (pa j)), (0, .ref h0), (1, .int (nI j)), (2, .int (nI k))]) hx hb dX4_makeFile_5 rfl hl (by decide) rfl (fun ls hl => ?_)
  refine lv_iload_n hx hb dX4_makeFile_6 rfl (lv_at hl 3 rfl) ?_
  refine lv_if_lt (tgt := 16) hx hb dX4_makeFile_7 (by decide) (fun c_7 => ?_) (fun c_7 => ?_)
  · exact absurd c_7 (nI_pos (by omega))
  · refine lv_iload_n hx hb dX4_makeFile_10 rfl (lv_at hl 3 rfl) ?_
    refine lv_bipush (v := 15) hx hb dX4_makeFile_11 (by decide +kernel) ?_
    refine rn_top (y := .int (nI 15)) (congrArg Value.int (rfl)) ?_
    refine lv_icmp_le (tgt := 26) hx hb dX4_makeFile_13 (by decide) (fun c_13 => ?_) (fun c_13 => ?_)
    · refine lv_aload_n hx hb dX4_makeFile_26 rfl (lv_at hl 1 rfl) ?_
      refine rn_get (ci := 4) (v := .int (nI σ.fn)) (C := RX4) (T := TX4) (N := 9) hx hb hts iw_X4_makeFile_4 hown hG (hF _ _ hH.1) rfl 5 (by decide) fw_X4_makeFile_40 rfl dX4_makeFile_27 ?_
      refine lv_aload_n hx hb dX4_makeFile_30 rfl (lv_at hl 1 rfl) ?_
      refine rn_get (ci := 4) (v := .ref aF) (C := RX4) (T := TX4) (N := 9) hx hb hts iw_X4_makeFile_4 hown hG (hF _ _ hH.1) rfl 4 (by decide) fw_X4_makeFile_36 rfl dX4_makeFile_31 ?_
      refine rn_alen hx hb hG (hF _ _ hH.2.2.2) 2 rfl dX4_makeFile_34 ?_
      refine rn_top (y := .int (nI 20)) rfl ?_
      refine lv_icmp_lt (tgt := 48) hx hb dX4_makeFile_35 (by decide) (fun c_35 => ?_) (fun c_35 => ?_)
      · refine lv_aload_n hx hb dX4_makeFile_48 rfl (lv_at hl 1 rfl) ?_
        refine lv_aload_n hx hb dX4_makeFile_49 rfl (lv_at hl 0 rfl) ?_
        refine rn_get (ci := 1) (v := .ref (ra (σ.pl j))) (C := RX1) (T := TX1) (N := 3) hx hb hts iw_X4_makeFile_1 hown hG (hF _ _ (hQ j hj0)) rfl 0 (by decide) fw_X4_makeFile_64 rfl dX4_makeFile_50 ?_
        refine lv_aload_n hx hb dX4_makeFile_53 rfl (lv_at hl 0 rfl) ?_
        refine rn_get (ci := 1) (v := .int (nI (σ.pu j))) (C := RX1) (T := TX1) (N := 3) hx hb hts iw_X4_makeFile_1 hown hG (hF _ _ (hQ j hj0)) rfl 1 (by decide) fw_X4_makeFile_68 rfl dX4_makeFile_54 ?_
        refine rn_cV (As := [.ref (ra (σ.pl j)), .int (nI (σ.pu j))]) (rest := []) 2 hx hb hml hown hts hG (c_seenFrom l hV hH hR (r := σ.pl j) (y := σ.pu j) (hV.2.2.2.2.2.1.2.2 j hj0).1 (hV.2.2.2.2.2.1.2.2 j hj0).2) gX4_makeFile_X4_seenFrom rfl ⟨rfl, rfl⟩ (by decide +kernel) ⟨Nat.le_of_ble_eq_true rfl, Nat.le_of_ble_eq_true rfl⟩ hF (hF _ _ hH.1) rfl rfl hl.1 rfl (Nat.le_of_ble_eq_true rfl) ⟨by decide, by decide⟩ dX4_makeFile_57 ?_
        refine W.eq (g2 := F0 m 60 ls [.int (nI (rn_see σ (σ.pl j) (σ.pu j)))]) rfl ?_
        refine lv_sipush (v := 999) hx hb dX4_makeFile_60 (by decide +kernel) ?_
        refine lv_icmp_ne (tgt := 73) hx hb dX4_makeFile_63 (by decide) (fun c_63 => ?_) (fun c_63 => ?_)
        · rw [rn_nI999 (rn_see_le _ _ _)] at c_63
          refine lv_aload_n hx hb dX4_makeFile_73 rfl (lv_at hl 1 rfl) ?_
          refine rn_get (ci := 4) (v := .int (nI σ.fn)) (C := RX4) (T := TX4) (N := 9) hx hb hts iw_X4_makeFile_4 hown hG (hF _ _ hH.1) rfl 5 (by decide) fw_X4_makeFile_40 rfl dX4_makeFile_74 ?_
          refine lv_istore (lv' := [(4, .int (nI σ.fn)), (3, .ref (pa j)), (0, .ref h0), (1, .int (nI j)), (2, .int (nI k))]) hx hb dX4_makeFile_77 hl (by decide) rfl (fun ls hl => ?_)
          refine lv_aload_n hx hb dX4_makeFile_79 rfl (lv_at hl 2 rfl) ?_
          refine rn_get (ci := 4) (v := .ref aF) (C := RX4) (T := TX4) (N := 9) hx hb hts iw_X4_makeFile_4 hown hG (hF _ _ hH.1) rfl 4 (by decide) fw_X4_makeFile_36 rfl dX4_makeFile_80 ?_
          refine lv_iload hx hb dX4_makeFile_83 (lv_at hl 0 rfl) ?_
          refine rn_new (A := (rn_A f sz)) (ci := 0) (C := RX0) (T := TX0) (N := 2) (fs := [.int 0, .int 0]) hx hb hts iw_X4_makeFile_0 tyX0 tyX0_ok hown cw_X4_makeFile_34 nw_X4_makeFile_0 tw_X4_makeFile_0 hG hS aN rfl (fun j hj => by rcases (show j = 0 ∨ j = 1 by omega) with rfl | rfl <;> rfl) (by decide) (by decide) dX4_makeFile_85 (fun q9 H hq hat hz ho hS => ?_)
          have hq9 : f q9 = none := hF.fresh hq
          have aq9 : rn_A f sz q9 := aN q9 (by rw [hq]; exact Nat.le_refl _)
          have hF := hF.push hq hat ho
          have hC0 := hC
          have hC := hC0.fresh (.inr (0, [.int 0, .int 0])) hq9
          obtain ⟨hH, hR, hQ, hI, hdr, hip, hif⟩ := id hC
          refine lv_dup hx hb dX4_makeFile_88 rfl ?_
          refine lv_aload_n hx hb dX4_makeFile_89 rfl (lv_at hl 1 rfl) ?_
          refine rn_get (ci := 1) (v := .int (nI (σ.pu j))) (C := RX1) (T := TX1) (N := 3) hx hb hts iw_X4_makeFile_1 hown hG (hF _ _ (hQ j hj0)) rfl 1 (by decide) fw_X4_makeFile_68 rfl dX4_makeFile_90 ?_
          refine lv_iload_n hx hb dX4_makeFile_93 rfl (lv_at hl 4 rfl) ?_
          refine rn_wI (As := [.int (nI (σ.pu j)), .int (nI k)]) (rest := [.ref q9, .int (nI σ.fn), .ref aF]) 2 hx hb hml hown hts hG hS (c_File_init l (nI (σ.pu j)) (nI k) (rn_up_eq _ _ _)) (fun x hx => by rw [show x = q9 from hx]; exact aq9) gX4_makeFile_X0_init rfl ⟨rfl, rfl⟩ (by decide +kernel) (by decide +kernel) (by decide +kernel) rfl (by decide +kernel) ⟨Nat.le_of_ble_eq_true rfl, Nat.le_of_ble_eq_true rfl⟩ hF rfl hl.1 rfl (Nat.le_of_ble_eq_true rfl) ⟨by decide, by decide⟩ dX4_makeFile_94 (fun H locs hP1 hz hk hS => ?_)
          refine W.eq (g2 := F0 m 97 ls [.ref q9, .int (nI σ.fn), .ref aF]) rfl ?_
          have hF : rn_S D (va_up f q9 (some (.inr (0, [.int (nI (σ.pu j)), .int (nI k)])))) H := by have h := hP1; rw [rn_up_up] at h; exact h
          have hC := hC0.fresh (.inr (0, [.int (nI (σ.pu j)), .int (nI k)])) hq9
          obtain ⟨hH, hR, hQ, hI, hdr, hip, hif⟩ := id hC
          refine rn_aast (A := (rn_A f sz)) (ci := 0) (C := RX0) (T := TX0) (N := 2) (j := σ.fn) hx hb hG hS aA9.2.2 (hF _ _ hH.2.2.2) 2 rfl (hF _ _ (rn_up_eq _ _ _)) rfl (by omega) (by decide) dX4_makeFile_97 (fun H locs hat hz ho hS => ?_)
          have hF := hF.set hat ho
          have hH1 := rn_up_keep (a := aF) (e' := some (.inl (cF, 20, .inr (.inr (.inr (.inr (va_up (rn_row σ.fn fa) σ.fn (some q9)))))))) hH.1 (by rw [hH.2.2.2]; simp)
          refine lv_aload_n hx hb dX4_makeFile_98 rfl (lv_at hl 2 rfl) ?_
          refine lv_dup hx hb dX4_makeFile_99 rfl ?_
          refine rn_get (ci := 4) (v := .int (nI σ.fn)) (C := RX4) (T := TX4) (N := 9) hx hb hts iw_X4_makeFile_4 hown hG (hF _ _ hH1) rfl 5 (by decide) fw_X4_makeFile_40 rfl dX4_makeFile_100 ?_
          refine lv_iconst (v := 1) hx hb dX4_makeFile_103 (by decide) ?_
          refine lv_iadd hx hb dX4_makeFile_104 ?_
          refine rn_top (y := .int (nI (σ.fn + 1))) (congrArg Value.int (nI_1 _)) ?_
          refine rn_put (A := (rn_A f sz)) (ci := 4) (v := .int (nI (σ.fn + 1))) (C := RX4) (T := TX4) (N := 9) (fs' := [.ref aR, .int (nI σ.sn), .ref aP, .int (nI σ.pn), .ref aF, .int (nI (σ.fn + 1)), va_rf dh, .int σ.rc, .int σ.la]) hx hb hts iw_X4_makeFile_4 tyX4 tyX4_ok nmX4 hown hG hS aH (hF _ _ hH1) rfl 5 (by decide) fw_X4_makeFile_40 (Or.inl rfl) rfl rfl (Nat.le_of_ble_eq_true rfl) rfl dX4_makeFile_105 (fun H locs hat hz ho hS => ?_)
          have hF : rn_S D (rn_fF f q9 aF h0 aR aP cF σ fa dh (nI (σ.pu j)) (nI k)) H := hF.set hat ho
          have hC3 := hC0.addFile (j := j) (md := nI k) hq9
          refine lv_iload hx hb dX4_makeFile_108 (lv_at hl 0 rfl) ?_
          have ho : rn_o_makeFile σ j (nI k) = (nI σ.fn, rn_addFile σ j (nI k)) := by rw [rn_o_makeFile, if_neg c_63]
          exact rn_Wiret hx hb hr rfl hlocks hS (by decide) (by decide) (by rw [ho]) (by rw [ho]; exact rn_P_mk (hV.addFile _ hj0 hn0) hC3 hF (rn_A_up _ (rn_A_up _ (rn_A_up _ d0 aq9) aA9.2.2) aH)) dX4_makeFile_110
        · rw [rn_nI999 (rn_see_le _ _ _)] at c_63
          refine lv_aload_n hx hb dX4_makeFile_66 rfl (lv_at hl 1 rfl) ?_
          refine lv_bipush (v := (-2)) hx hb dX4_makeFile_67 (by decide +kernel) ?_
          refine rn_wV (As := [.int (-2)]) (rest := []) 1 hx hb hml hown hts hG hS (c_refuse l ((-2)) hH.1) (fun x hx => by rw [show x = h0 from hx]; exact aH) gX4_makeFile_X4_refuse rfl ⟨rfl, rfl⟩ (by decide +kernel) ⟨Nat.le_of_ble_eq_true rfl, Nat.le_of_ble_eq_true rfl⟩ hF (hF _ _ hH.1) rfl rfl hl.1 rfl (Nat.le_of_ble_eq_true rfl) ⟨by decide, by decide⟩ dX4_makeFile_69 (fun H locs hP1 hz hk hS => ?_)
          refine W.eq (g2 := F0 m 72 ls [.int (-2)]) rfl ?_
          have hF := hP1
          have ho : rn_o_makeFile σ j (nI k) = ((-2), rn_ref σ ((-2))) := by rw [rn_o_makeFile, if_pos c_63]
          exact rn_Wiret hx hb hr rfl hlocks hS (by decide) (by decide) (by rw [ho]) (by rw [ho]; exact rn_P_mk (rn_V.ref _ hV) (hC.house (σ' := rn_ref σ ((-2))) ⟨rfl, rfl, rfl, rfl⟩ rfl rfl hdr) hF (rn_A_up _ d0 aH)) dX4_makeFile_72
      · exact absurd ((nI_ltI (by omega) (by omega)).mpr (by omega)) c_35
    · exact absurd ((nI_leI (by omega) (by omega)).mpr (by omega)) c_13

set_option maxHeartbeats 4000000 in
set_option maxRecDepth 100000 in
theorem w_line (l : Launch) {D : va_G} {cR cP cF : ClassId} {h0 aR aP aF : Nat} {ra pa fa : Nat → Nat} {hd : Nat → Option Nat} {dh : Option Nat} {f : rn_T} {σ : rn_St} (hV : rn_V σ) (hC : rn_CI cR cP cF h0 aR aP aF ra pa fa hd dh f σ) {a b c9 : Nat} (ha0 : a ≤ 998) (hb0 : b ≤ 998) (hc0 : 1 ≤ c9 ∧ c9 ≤ 999) (hfit : a + c9 ≤ 999) (hfit2 : b + c9 ≤ 999) (hn0 : σ.sd.length < 3) (sz : Nat) : rn_W l yX4_line wsX4_line ({ frames := 2, cells := 1, slots := 4, locals := 36 } : Room) D (rn_tys cR cP cF) (rn_S D f) [.ref h0, .int (nI a), .int (nI b), .int (nI c9)] (some (.int (nI (σ.sd.length + 1)))) (rn_P D cR cP cF h0 f sz (rn_draft σ ((a, b, c9) :: σ.sd))) (rn_A f sz) 1 4 sz := by
  refine rn_W.ofW (cc := cX4_line) (maxL := 5) (ret := (some .int)) (by decide) rfl (Nat.le_of_ble_eq_true rfl) (fun p e s m below meth c ls hx hb hr hml hts hown hlocks hin hsz hF hG hS hl => ?_)
  have hl : lv_has ls 5 [(0, .ref h0), (1, .int (nI a)), (2, .int (nI b)), (3, .int (nI c9))] := hl
  obtain ⟨hH, hR, hQ, hI, hdr, hip, hif⟩ := id hC
  have aH : rn_A f sz h0 := rn_A_in hH.1
  have aP9 : ∀ j, j < σ.pn → rn_A f sz (pa j) := fun j hj => rn_A_in (hQ j hj)
  have aR9 : ∀ i, i < σ.sn → rn_A f sz (ra i) := fun i hi => rn_A_in (hR.1 i hi)
  have aF9 : ∀ k, k < σ.fn → rn_A f sz (fa k) := fun k hk => rn_A_in (hI k hk)
  have aA9 : rn_A f sz aR ∧ rn_A f sz aP ∧ rn_A f sz aF := ⟨rn_A_in hH.2.1, rn_A_in hH.2.2.1, rn_A_in hH.2.2.2⟩
  have aN : ∀ q : Nat, s.heap.size ≤ q → rn_A f sz q := fun q h => Or.inr (by rw [← hsz]; exact h)
  have d0 : ∀ x, f x ≠ none → rn_A f sz x := fun x hx => Or.inl hx
  refine lv_iload_n hx hb dX4_line_0 rfl (lv_at hl 1 rfl) ?_
  refine rn_cS (As := [.int (nI a)]) (rest := []) 1 hx hb hml hown hts hG (c_requireNumber l ha0) gX4_line_X4_requireNumber rfl ⟨rfl, rfl⟩ (by decide +kernel) ⟨Nat.le_of_ble_eq_true rfl, Nat.le_of_ble_eq_true rfl⟩ hF rfl hl.1 rfl (Nat.le_of_ble_eq_true rfl) ⟨by decide, by decide⟩ dX4_line_1 ?_
  refine W.eq (g2 := F0 m 4 ls []) rfl ?_
  refine lv_iload_n hx hb dX4_line_4 rfl (lv_at hl 2 rfl) ?_
  refine rn_cS (As := [.int (nI b)]) (rest := []) 1 hx hb hml hown hts hG (c_requireNumber l hb0) gX4_line_X4_requireNumber rfl ⟨rfl, rfl⟩ (by decide +kernel) ⟨Nat.le_of_ble_eq_true rfl, Nat.le_of_ble_eq_true rfl⟩ hF rfl hl.1 rfl (Nat.le_of_ble_eq_true rfl) ⟨by decide, by decide⟩ dX4_line_5 ?_
  refine W.eq (g2 := F0 m 8 ls []) rfl ?_
  refine lv_iload_n hx hb dX4_line_8 rfl (lv_at hl 3 rfl) ?_
  refine lv_iconst (v := 1) hx hb dX4_line_9 (by decide) ?_
  refine rn_top (y := .int (nI 1)) (congrArg Value.int (rfl)) ?_
  refine lv_icmp_lt (tgt := 20) hx hb dX4_line_10 (by decide) (fun c_10 => ?_) (fun c_10 => ?_)
  · exact absurd ((nI_ltI (by omega) (by omega)).mp c_10) (by omega)
  · refine lv_iload_n hx hb dX4_line_13 rfl (lv_at hl 3 rfl) ?_
    refine lv_sipush (v := 999) hx hb dX4_line_14 (by decide +kernel) ?_
    refine rn_top (y := .int (nI 999)) (congrArg Value.int (rfl)) ?_
    refine lv_icmp_le (tgt := 30) hx hb dX4_line_17 (by decide) (fun c_17 => ?_) (fun c_17 => ?_)
    · refine lv_iload_n hx hb dX4_line_30 rfl (lv_at hl 1 rfl) ?_
      refine lv_iload_n hx hb dX4_line_31 rfl (lv_at hl 3 rfl) ?_
      refine lv_iadd hx hb dX4_line_32 ?_
      refine lv_iconst (v := 1) hx hb dX4_line_33 (by decide) ?_
      refine lv_isub hx hb dX4_line_34 ?_
      refine rn_top (y := .int (nI (a + c9 - 1))) (congrArg Value.int ((by rw [nI_add]; exact pk_sub (a := a + c9) (b := 1) (by omega)))) ?_
      refine rn_cS (As := [.int (nI (a + c9 - 1))]) (rest := []) 1 hx hb hml hown hts hG (c_requireNumber l (k := a + c9 - 1) (by omega)) gX4_line_X4_requireNumber rfl ⟨rfl, rfl⟩ (by decide +kernel) ⟨Nat.le_of_ble_eq_true rfl, Nat.le_of_ble_eq_true rfl⟩ hF rfl hl.1 rfl (Nat.le_of_ble_eq_true rfl) ⟨by decide, by decide⟩ dX4_line_35 ?_
      refine W.eq (g2 := F0 m 38 ls []) rfl ?_
      refine lv_iload_n hx hb dX4_line_38 rfl (lv_at hl 2 rfl) ?_
      refine lv_iload_n hx hb dX4_line_39 rfl (lv_at hl 3 rfl) ?_
      refine lv_iadd hx hb dX4_line_40 ?_
      refine lv_iconst (v := 1) hx hb dX4_line_41 (by decide) ?_
      refine lv_isub hx hb dX4_line_42 ?_
      refine rn_top (y := .int (nI (b + c9 - 1))) (congrArg Value.int ((by rw [nI_add]; exact pk_sub (a := b + c9) (b := 1) (by omega)))) ?_
      refine rn_cS (As := [.int (nI (b + c9 - 1))]) (rest := []) 1 hx hb hml hown hts hG (c_requireNumber l (k := b + c9 - 1) (by omega)) gX4_line_X4_requireNumber rfl ⟨rfl, rfl⟩ (by decide +kernel) ⟨Nat.le_of_ble_eq_true rfl, Nat.le_of_ble_eq_true rfl⟩ hF rfl hl.1 rfl (Nat.le_of_ble_eq_true rfl) ⟨by decide, by decide⟩ dX4_line_43 ?_
      refine W.eq (g2 := F0 m 46 ls []) rfl ?_
      refine lv_aload_n hx hb dX4_line_46 rfl (lv_at hl 0 rfl) ?_
      refine rn_get (ci := 4) (v := va_rf dh) (C := RX4) (T := TX4) (N := 9) hx hb hts iw_X4_line_4 hown hG (hF _ _ hH.1) rfl 6 (by decide) fw_X4_line_43 rfl dX4_line_47 ?_
      refine rn_cS (As := [va_rf dh]) (rest := []) 1 hx hb hml hown hts hG (c_countOf l hdr) gX4_line_X4_countOf rfl ⟨rfl, rfl⟩ (by decide +kernel) ⟨Nat.le_of_ble_eq_true rfl, Nat.le_of_ble_eq_true rfl⟩ hF rfl hl.1 rfl (Nat.le_of_ble_eq_true rfl) ⟨by decide, by decide⟩ dX4_line_50 ?_
      refine W.eq (g2 := F0 m 53 ls [.int (nI σ.sd.length)]) rfl ?_
      refine lv_istore (lv' := [(4, .int (nI σ.sd.length)), (0, .ref h0), (1, .int (nI a)), (2, .int (nI b)), (3, .int (nI c9))]) hx hb dX4_line_53 hl (by decide) rfl (fun ls hl => ?_)
      refine lv_iload hx hb dX4_line_55 (lv_at hl 0 rfl) ?_
      refine lv_iconst (v := 3) hx hb dX4_line_57 (by decide) ?_
      refine rn_top (y := .int (nI 3)) (congrArg Value.int (rfl)) ?_
      refine lv_icmp_lt (tgt := 71) hx hb dX4_line_58 (by decide) (fun c_58 => ?_) (fun c_58 => ?_)
      · refine lv_aload_n hx hb dX4_line_71 rfl (lv_at hl 1 rfl) ?_
        refine rn_new (A := (rn_A f sz)) (ci := 2) (C := RX2) (T := TX2) (N := 4) (fs := [.int 0, .int 0, .int 0, .null]) hx hb hts iw_X4_line_2 tyX2 tyX2_ok hown cw_X4_line_91 nw_X4_line_2 tw_X4_line_2 hG hS aN rfl (fun j hj => by rcases (show j = 0 ∨ j = 1 ∨ j = 2 ∨ j = 3 by omega) with rfl | rfl | rfl | rfl <;> rfl) (by decide) (by decide) dX4_line_72 (fun q9 H hq hat hz ho hS => ?_)
        have hq9 : f q9 = none := hF.fresh hq
        have aq9 : rn_A f sz q9 := aN q9 (by rw [hq]; exact Nat.le_refl _)
        have hF := hF.push hq hat ho
        have hC0 := hC
        have hC := hC0.fresh (.inr (2, [.int 0, .int 0, .int 0, .null])) hq9
        obtain ⟨hH, hR, hQ, hI, hdr, hip, hif⟩ := id hC
        refine lv_dup hx hb dX4_line_75 rfl ?_
        refine lv_iload_n hx hb dX4_line_76 rfl (lv_at hl 2 rfl) ?_
        refine lv_iload_n hx hb dX4_line_77 rfl (lv_at hl 3 rfl) ?_
        refine lv_iload_n hx hb dX4_line_78 rfl (lv_at hl 4 rfl) ?_
        refine lv_aload_n hx hb dX4_line_79 rfl (lv_at hl 1 rfl) ?_
        refine rn_get (ci := 4) (v := va_rf dh) (C := RX4) (T := TX4) (N := 9) hx hb hts iw_X4_line_4 hown hG (hF _ _ hH.1) rfl 6 (by decide) fw_X4_line_43 rfl dX4_line_80 ?_
        refine rn_wI (As := [.int (nI a), .int (nI b), .int (nI c9), va_rf dh]) (rest := [.ref q9, .ref h0]) 4 hx hb hml hown hts hG hS (c_Line_init l (nI a) (nI b) (nI c9) dh (rn_up_eq _ _ _)) (fun x hx => by rw [show x = q9 from hx]; exact aq9) gX4_line_X2_init rfl ⟨rfl, rfl⟩ (by decide +kernel) (by decide +kernel) (by decide +kernel) rfl (by decide +kernel) ⟨Nat.le_of_ble_eq_true rfl, Nat.le_of_ble_eq_true rfl⟩ hF rfl hl.1 rfl (Nat.le_of_ble_eq_true rfl) ⟨by decide, by decide⟩ dX4_line_83 (fun H locs hP1 hz hk hS => ?_)
        refine W.eq (g2 := F0 m 86 ls [.ref q9, .ref h0]) rfl ?_
        have hF : rn_S D (va_up f q9 (some (.inr (2, [.int (nI a), .int (nI b), .int (nI c9), va_rf dh])))) H := by have h := hP1; rw [rn_up_up] at h; exact h
        have hC := hC0.fresh (.inr (2, [.int (nI a), .int (nI b), .int (nI c9), va_rf dh])) hq9
        obtain ⟨hH, hR, hQ, hI, hdr, hip, hif⟩ := id hC
        refine rn_put (A := (rn_A f sz)) (ci := 4) (v := .ref q9) (C := RX4) (T := TX4) (N := 9) (fs' := [.ref aR, .int (nI σ.sn), .ref aP, .int (nI σ.pn), .ref aF, .int (nI σ.fn), .ref q9, .int σ.rc, .int σ.la]) hx hb hts iw_X4_line_4 tyX4 tyX4_ok nmX4 hown hG hS aH (hF _ _ hH.1) rfl 6 (by decide) fw_X4_line_43 (Or.inl rfl) rfl rfl (Nat.le_of_ble_eq_true rfl) rfl dX4_line_86 (fun H locs hat hz ho hS => ?_)
        have hF := hF.set hat ho
        have hC3 := hC0.addLine (a, b, c9) hq9
        refine lv_iload hx hb dX4_line_89 (lv_at hl 0 rfl) ?_
        refine lv_iconst (v := 1) hx hb dX4_line_91 (by decide) ?_
        refine lv_iadd hx hb dX4_line_92 ?_
        refine rn_top (y := .int (nI (σ.sd.length + 1))) (congrArg Value.int (nI_1 _)) ?_
        exact rn_Wiret hx hb hr rfl hlocks hS (by decide) (by decide) rfl (rn_P_mk (hV.draft (ls := (a, b, c9) :: σ.sd) (fun q hq => by rcases List.mem_cons.mp hq with rfl | hq; exact ⟨hfit, hfit2, hc0.1⟩; exact hV.2.2.2.2.1.1 q hq) (by rw [List.length_cons]; omega)) hC3 hF (rn_A_up _ (rn_A_up _ d0 aq9) aH)) dX4_line_93
      · exact absurd ((nI_ltI (by omega) (by omega)).mpr (by omega)) c_58
    · exact absurd ((nI_leI (by omega) (by omega)).mpr (by omega)) c_17

set_option maxHeartbeats 4000000 in
set_option maxRecDepth 100000 in
theorem w_writeMap (l : Launch) {D : va_G} {cR cP cF : ClassId} {h0 aR aP aF : Nat} {ra pa fa : Nat → Nat} {hd : Nat → Option Nat} {dh : Option Nat} {f : rn_T} {σ : rn_St} (hV : rn_V σ) (hC : rn_CI cR cP cF h0 aR aP aF ra pa fa hd dh f σ) {j i : Nat} (hj0 : j < σ.pn) (hi0 : i < σ.sn) (hi9 : i ≠ 0) (sz : Nat) : rn_W l yX4_writeMap wsX4_writeMap ({ frames := 3, cells := 0, slots := 0, locals := 68 } : Room) D (rn_tys cR cP cF) (rn_S D f) [.ref h0, .int (nI j), .int (nI i)] (some (.int ((rn_o_writeMap σ j i).1))) (rn_P D cR cP cF h0 f sz ((rn_o_writeMap σ j i).2)) (rn_A f sz) 0 0 sz := by
  refine rn_W.ofW (cc := cX4_writeMap) (maxL := 8) (ret := (some .int)) (by decide) rfl (Nat.le_of_ble_eq_true rfl) (fun p e s m below meth c ls hx hb hr hml hts hown hlocks hin hsz hF hG hS hl => ?_)
  have hl : lv_has ls 8 [(0, .ref h0), (1, .int (nI j)), (2, .int (nI i))] := hl
  obtain ⟨hH, hR, hQ, hI, hdr, hip, hif⟩ := id hC
  have aH : rn_A f sz h0 := rn_A_in hH.1
  have aP9 : ∀ j, j < σ.pn → rn_A f sz (pa j) := fun j hj => rn_A_in (hQ j hj)
  have aR9 : ∀ i, i < σ.sn → rn_A f sz (ra i) := fun i hi => rn_A_in (hR.1 i hi)
  have aF9 : ∀ k, k < σ.fn → rn_A f sz (fa k) := fun k hk => rn_A_in (hI k hk)
  have aA9 : rn_A f sz aR ∧ rn_A f sz aP ∧ rn_A f sz aF := ⟨rn_A_in hH.2.1, rn_A_in hH.2.2.1, rn_A_in hH.2.2.2⟩
  have aN : ∀ q : Nat, s.heap.size ≤ q → rn_A f sz q := fun q h => Or.inr (by rw [← hsz]; exact h)
  have d0 : ∀ x, f x ≠ none → rn_A f sz x := fun x hx => Or.inl hx
  refine lv_aload_n hx hb dX4_writeMap_0 rfl (lv_at hl 0 rfl) ?_
  refine lv_iload_n hx hb dX4_writeMap_1 rfl (lv_at hl 1 rfl) ?_
  refine rn_cV (As := [.int (nI j)]) (rest := []) 1 hx hb hml hown hts hG (c_processAt l hV hH hj0) gX4_writeMap_X4_processAt rfl ⟨rfl, rfl⟩ (by decide +kernel) ⟨Nat.le_of_ble_eq_true rfl, Nat.le_of_ble_eq_true rfl⟩ hF (hF _ _ hH.1) rfl rfl hl.1 rfl (Nat.le_of_ble_eq_true rfl) ⟨by decide, by decide⟩ dX4_writeMap_2 ?_
  refine W.eq (g2 := F0 m 5 ls [.ref (pa j)]) rfl ?_
  refine lv_astore_n (lv' := [(3, .ref (pa j)), (0, .ref h0), (1, .int (nI j)), (2, .int (nI i))]) hx hb dX4_writeMap_5 rfl hl (by decide) rfl (fun ls hl => ?_)
  refine lv_aload_n hx hb dX4_writeMap_6 rfl (lv_at hl 1 rfl) ?_
  refine lv_iload_n hx hb dX4_writeMap_7 rfl (lv_at hl 3 rfl) ?_
  refine rn_cV (As := [.int (nI i)]) (rest := []) 1 hx hb hml hown hts hG (c_roomAt l hV hH hi0) gX4_writeMap_X4_roomAt rfl ⟨rfl, rfl⟩ (by decide +kernel) ⟨Nat.le_of_ble_eq_true rfl, Nat.le_of_ble_eq_true rfl⟩ hF (hF _ _ hH.1) rfl rfl hl.1 rfl (Nat.le_of_ble_eq_true rfl) ⟨by decide, by decide⟩ dX4_writeMap_8 ?_
  refine W.eq (g2 := F0 m 11 ls [.ref (ra i)]) rfl ?_
  refine lv_astore (lv' := [(4, .ref (ra i)), (3, .ref (pa j)), (0, .ref h0), (1, .int (nI j)), (2, .int (nI i))]) hx hb dX4_writeMap_11 hl (by decide) rfl (fun ls hl => ?_)
  refine lv_aload hx hb dX4_writeMap_13 (lv_at hl 0 rfl) ?_
  refine rn_get (ci := 3) (v := va_rf (rn_ot σ ra i)) (C := RX3) (T := TX3) (N := 4) hx hb hts iw_X4_writeMap_3 hown hG (hF _ _ (hR.1 i hi0)) rfl 1 (by decide) fw_X4_writeMap_100 rfl dX4_writeMap_15 ?_
  refine rn_top (y := .ref (ra (σ.so i))) (by rw [rn_ot_s _ _ hi9]; rfl) ?_
  refine lv_astore (lv' := [(5, .ref (ra (σ.so i))), (4, .ref (ra i)), (3, .ref (pa j)), (0, .ref h0), (1, .int (nI j)), (2, .int (nI i))]) hx hb dX4_writeMap_18 hl (by decide) rfl (fun ls hl => ?_)
  refine lv_aload hx hb dX4_writeMap_20 (lv_at hl 0 rfl) ?_
  refine lv_ifnonnull (tgt := 35) hx hb dX4_writeMap_22 (by decide) ?_
  refine lv_aload_n hx hb dX4_writeMap_35 rfl (lv_at hl 3 rfl) ?_
  refine rn_get (ci := 4) (v := va_rf dh) (C := RX4) (T := TX4) (N := 9) hx hb hts iw_X4_writeMap_4 hown hG (hF _ _ hH.1) rfl 6 (by decide) fw_X4_writeMap_43 rfl dX4_writeMap_36 ?_
  refine rn_astore (lv' := [(6, va_rf dh), (5, .ref (ra (σ.so i))), (4, .ref (ra i)), (3, .ref (pa j)), (0, .ref h0), (1, .int (nI j)), (2, .int (nI i))]) hx hb dX4_writeMap_39 hl (by decide) rfl (fun ls hl => ?_)
  refine lv_aload_n hx hb dX4_writeMap_41 rfl (lv_at hl 4 rfl) ?_
  refine lv_null hx hb dX4_writeMap_42 ?_
  refine rn_put (A := (rn_A f sz)) (ci := 4) (v := .null) (C := RX4) (T := TX4) (N := 9) (fs' := [.ref aR, .int (nI σ.sn), .ref aP, .int (nI σ.pn), .ref aF, .int (nI σ.fn), .null, .int σ.rc, .int σ.la]) hx hb hts iw_X4_writeMap_4 tyX4 tyX4_ok nmX4 hown hG hS aH (hF _ _ hH.1) rfl 6 (by decide) fw_X4_writeMap_43 (Or.inl rfl) rfl rfl (Nat.le_of_ble_eq_true rfl) rfl dX4_writeMap_43 (fun H locs hat hz ho hS => ?_)
  have hF1 := hF.set hat ho
  have hC1 := hC.house (σ' := rn_draft σ []) (dh' := none) ⟨rfl, rfl, rfl, rfl⟩ rfl rfl rfl
  have hdr9 := (rn_pres_up (K := fun k => k = 2) (some (rn_house aR aP aF (nI σ.sn) (nI σ.pn) (nI σ.fn) none σ.rc σ.la)) (rn_kd_of hH.1) (by simp [rn_kind])).ch rfl _ _ hdr
  have d1 := rn_A_up (some (rn_house aR aP aF (nI σ.sn) (nI σ.pn) (nI σ.fn) none σ.rc σ.la)) d0 aH
  obtain ⟨f1, hf1⟩ : ∃ z, z = va_up f h0 (some (rn_house aR aP aF (nI σ.sn) (nI σ.pn) (nI σ.fn) none σ.rc σ.la)) := ⟨_, rfl⟩
  have hF : rn_S D f1 H := by rw [hf1]; exact hF1
  have hC1 : rn_CI cR cP cF h0 aR aP aF ra pa fa hd none f1 (rn_draft σ []) := by rw [hf1]; exact hC1
  rw [← hf1] at hdr9 d1
  have hH1 := hC1.1
  have hR : rn_Rm f1 σ ra hd := hC1.2.1
  have hQ : rn_Pr f1 σ ra pa := hC1.2.2.1
  clear hf1 hF1
  refine lv_aload hx hb dX4_writeMap_46 (lv_at hl 2 rfl) ?_
  refine rn_get (ci := 3) (v := va_rf (hd i)) (C := RX3) (T := TX3) (N := 4) hx hb hts iw_X4_writeMap_3 hown hG (hF _ _ (hR.1 i hi0)) rfl 3 (by decide) fw_X4_writeMap_108 rfl dX4_writeMap_48 ?_
  refine rn_ifnull (tgt := 61) hx hb dX4_writeMap_51 (by decide) (fun c_51 => ?_) (fun z_51 c_51 => ?_)
  · have hm : σ.sm i = [] := by
      have h := hR.2 i hi0
      rw [c_51] at h
      cases hsm : σ.sm i with
      | nil => rfl
      | cons q r => rw [hsm] at h; obtain ⟨_, _, h9, _⟩ := h; cases h9
    refine rn_aload hx hb dX4_writeMap_61 (lv_at hl 0 rfl) ?_
    refine rn_ifnull (tgt := 74) hx hb dX4_writeMap_63 (by decide) (fun c_63 => ?_) (fun z_63 c_63 => ?_)
    · have hs : σ.sd = [] := by
        have h := hdr9
        rw [c_63] at h
        cases hsm : σ.sd with
        | nil => rfl
        | cons q r => rw [hsm] at h; obtain ⟨_, _, h9, _⟩ := h; cases h9
      refine lv_aload_n hx hb dX4_writeMap_74 rfl (lv_at hl 4 rfl) ?_
      refine lv_bipush (v := (-3)) hx hb dX4_writeMap_75 (by decide +kernel) ?_
      refine rn_wV (As := [.int (-3)]) (rest := []) 1 hx hb hml hown hts hG hS (c_refuse l ((-3)) hH1.1) (fun x hx => by rw [show x = h0 from hx]; exact aH) gX4_writeMap_X4_refuse rfl ⟨rfl, rfl⟩ (by decide +kernel) ⟨Nat.le_of_ble_eq_true rfl, Nat.le_of_ble_eq_true rfl⟩ hF (hF _ _ hH1.1) rfl rfl hl.1 rfl (Nat.le_of_ble_eq_true rfl) ⟨by decide, by decide⟩ dX4_writeMap_77 (fun H locs hP1 hz hk hS => ?_)
      refine W.eq (g2 := F0 m 80 ls [.int (-3)]) rfl ?_
      have hF := hP1
      have ho : rn_o_writeMap σ j i = ((-3), rn_ref (rn_draft σ []) ((-3))) := by rw [rn_o_writeMap, if_neg (fun h => h hm), if_pos (Or.inl hs)]
      exact rn_Wiret hx hb hr rfl hlocks hS (by decide) (by decide) (by rw [ho]) (by rw [ho]; exact rn_P_mk (rn_V.ref _ (hV.draft (ls := []) (fun q hq => by cases hq) (Nat.zero_le _))) (hC1.house (σ' := rn_ref (rn_draft σ []) ((-3))) ⟨rfl, rfl, rfl, rfl⟩ rfl rfl rfl) hF (rn_A_up _ d1 aH)) dX4_writeMap_80
    · subst c_63
      have hokd := hV.2.2.2.2.1.1
      have hso : σ.so i < σ.sn := by have := hV.2.1 i (by omega) hi0; omega
      obtain ⟨q, qs, hsd⟩ : ∃ q qs, σ.sd = q :: qs := by
        cases hsm : σ.sd with
        | nil => rw [hsm] at hdr9; cases hdr9
        | cons q r => exact ⟨q, r, rfl⟩
      have hdr8 := hdr9
      rw [hsd] at hdr8
      obtain ⟨a9, z9, h9, ha9, hch9⟩ := id hdr8
      obtain rfl : z_63 = a9 := Option.some.inj h9
      have hokq : rn_okL q := hokd q (by rw [hsd]; exact List.mem_cons_self)
      have hl : lv_has ls 8 [(6, .ref z_63), (5, .ref (ra (σ.so i))), (4, .ref (ra i)), (3, .ref (pa j)), (0, .ref h0), (1, .int (nI j)), (2, .int (nI i))] := hl
      refine lv_aload hx hb dX4_writeMap_66 (lv_at hl 0 rfl) ?_
      refine rn_cS (As := [.ref z_63]) (rest := []) 1 hx hb hml hown hts hG (c_anyMeet l hdr9 hokd) gX4_writeMap_X4_anyMeet rfl ⟨rfl, rfl⟩ (by decide +kernel) ⟨Nat.le_of_ble_eq_true rfl, Nat.le_of_ble_eq_true rfl⟩ hF rfl hl.1 rfl (Nat.le_of_ble_eq_true rfl) ⟨by decide, by decide⟩ dX4_writeMap_68 ?_
      refine W.eq (g2 := F0 m 71 ls [.int (rn_b (rn_bad σ.sd))]) rfl ?_
      refine lv_if_eq (tgt := 81) hx hb dX4_writeMap_71 (by decide) (fun c_71 => ?_) (fun c_71 => ?_)
      · rw [rn_b0] at c_71
        refine lv_aload hx hb dX4_writeMap_81 (lv_at hl 0 rfl) ?_
        refine lv_aload hx hb dX4_writeMap_83 (lv_at hl 1 rfl) ?_
        refine rn_cS (As := [.ref z_63, .ref (ra (σ.so i))]) (rest := []) 2 hx hb hml hown hts hG (c_allLeadOut l hV hR hdr9 hokd hso) gX4_writeMap_X4_allLeadOut rfl ⟨rfl, rfl⟩ (by decide +kernel) ⟨Nat.le_of_ble_eq_true rfl, Nat.le_of_ble_eq_true rfl⟩ hF rfl hl.1 rfl (Nat.le_of_ble_eq_true rfl) ⟨by decide, by decide⟩ dX4_writeMap_85 ?_
        refine W.eq (g2 := F0 m 88 ls [.int (rn_b (!rn_lost σ (σ.so i) σ.sd))]) rfl ?_
        refine lv_if_ne (tgt := 98) hx hb dX4_writeMap_88 (by decide) (fun c_88 => ?_) (fun c_88 => ?_)
        · rw [rn_b1, Bool.not_eq_true'] at c_88
          refine lv_aload hx hb dX4_writeMap_98 (lv_at hl 0 rfl) ?_
          refine rn_cV (As := []) (rest := []) 0 hx hb hml hown hts hG (c_isOfOneNumber l hokq hdr8) gX4_writeMap_X2_isOfOneNumber rfl ⟨rfl, rfl⟩ (by decide +kernel) ⟨Nat.le_of_ble_eq_true rfl, Nat.le_of_ble_eq_true rfl⟩ hF (hF _ _ ha9) rfl rfl hl.1 rfl (Nat.le_of_ble_eq_true rfl) ⟨by decide, by decide⟩ dX4_writeMap_100 ?_
          refine W.eq (g2 := F0 m 103 ls [.int (rn_b (decide (qs = [] ∧ q.2.2 = 1)))]) rfl ?_
          refine lv_if_eq (tgt := 139) hx hb dX4_writeMap_103 (by decide) (fun c_103 => ?_) (fun c_103 => ?_)
          · rw [rn_b0, decide_eq_false_iff_not] at c_103
            refine lv_iconst (v := 0) hx hb dX4_writeMap_139 (by decide) ?_
            have hown1 : rn_own1 σ j i = false := by
              cases hqs : qs with
              | cons q2 r2 => simp only [rn_own1, hsd, hqs]
              | nil =>
                simp only [rn_own1, hsd, hqs]
                refine decide_eq_false (fun h => ?_)
                exact c_103 ⟨hqs, h.1⟩
            refine lv_istore (lv' := [(7, .int 0), (6, .ref z_63), (5, .ref (ra (σ.so i))), (4, .ref (ra i)), (3, .ref (pa j)), (0, .ref h0), (1, .int (nI j)), (2, .int (nI i))]) hx hb dX4_writeMap_140 hl (by decide) rfl (fun ls hl => ?_)
            refine lv_iload hx hb dX4_writeMap_142 (lv_at hl 0 rfl) ?_
            refine lv_if_ne (tgt := 164) hx hb dX4_writeMap_144 (by decide) (fun c_144 => ?_) (fun c_144 => ?_)
            · exact absurd rfl c_144
            · refine lv_aload_n hx hb dX4_writeMap_147 rfl (lv_at hl 4 rfl) ?_
              refine lv_bipush (v := 8) hx hb dX4_writeMap_148 (by decide +kernel) ?_
              refine lv_aload hx hb dX4_writeMap_150 (lv_at hl 2 rfl) ?_
              refine rn_cV (As := [.int 8, .ref (ra (σ.so i))]) (rest := []) 2 hx hb hml hown hts hG (c_hasRight l hV hR hQ 8 hj0 hso) gX4_writeMap_X1_hasRight rfl ⟨rfl, rfl⟩ (by decide +kernel) ⟨Nat.le_of_ble_eq_true rfl, Nat.le_of_ble_eq_true rfl⟩ hF (hF _ _ (hQ j hj0)) rfl rfl hl.1 rfl (Nat.le_of_ble_eq_true rfl) ⟨by decide, by decide⟩ dX4_writeMap_152 ?_
              refine W.eq (g2 := F0 m 155 ls [.int (rn_b (decide (rn_held σ j (σ.so i) &&& 8 ≠ 0)))]) rfl ?_
              refine lv_if_ne (tgt := 164) hx hb dX4_writeMap_155 (by decide) (fun c_155 => ?_) (fun c_155 => ?_)
              · rw [rn_b1, decide_eq_true_eq] at c_155
                have hmay : rn_own1 σ j i = true ∨ rn_held σ j (σ.so i) &&& 8 ≠ 0 := Or.inr c_155
                refine lv_aload hx hb dX4_writeMap_164 (lv_at hl 3 rfl) ?_
                refine lv_aload hx hb dX4_writeMap_166 (lv_at hl 1 rfl) ?_
                refine rn_put (A := (rn_A f sz)) (ci := 3) (v := .ref z_63) (C := RX3) (T := TX3) (N := 4) (fs' := [.int (nI i), va_rf (rn_ot σ ra i), .int (σ.sw i), .ref z_63]) hx hb hts iw_X4_writeMap_3 tyX3 tyX3_ok nmX3 hown hG hS (aR9 i hi0) (hF _ _ (hR.1 i hi0)) rfl 3 (by decide) fw_X4_writeMap_108 (Or.inl rfl) rfl rfl (Nat.le_of_ble_eq_true rfl) rfl dX4_writeMap_168 (fun H locs hat hz ho hS => ?_)
                have hF := hF.set hat ho
                have hC2 := hC1.map (r := i) (z := some z_63) (hV.draft (ls := []) (fun q hq => by cases hq) (Nat.zero_le _)) hi0 hdr9
                have hdr2 := (rn_pres_up (K := fun k => k = 2) (some (.inr (3, [.int (nI i), va_rf (rn_ot σ ra i), .int (σ.sw i), va_rf (some z_63)]))) (rn_kd_of (hR.1 i hi0)) (by simp [rn_kind])).ch rfl _ _ hdr9
                refine lv_aload hx hb dX4_writeMap_171 (lv_at hl 1 rfl) ?_
                refine rn_cS (As := [.ref z_63]) (rest := []) 1 hx hb hml hown hts hG (c_countOf l hdr2) gX4_writeMap_X4_countOf rfl ⟨rfl, rfl⟩ (by decide +kernel) ⟨Nat.le_of_ble_eq_true rfl, Nat.le_of_ble_eq_true rfl⟩ hF rfl hl.1 rfl (Nat.le_of_ble_eq_true rfl) ⟨by decide, by decide⟩ dX4_writeMap_173 ?_
                refine W.eq (g2 := F0 m 176 ls [.int (nI σ.sd.length)]) rfl ?_
                have ho : rn_o_writeMap σ j i = (nI σ.sd.length, rn_setMap σ i) := by rw [rn_o_writeMap, if_neg (fun h => h hm), if_neg (fun h => h.elim (fun h => by rw [hsd] at h; cases h) (fun h => by rw [c_71] at h; cases h)), if_neg (by rw [c_88]; decide), if_pos hmay]
                exact rn_Wiret hx hb hr rfl hlocks hS (by decide) (by decide) (by rw [ho]) (by rw [ho]; exact rn_P_mk (hV.setMap hi9 c_71) hC2 hF (rn_A_up _ d1 (aR9 i hi0))) dX4_writeMap_176
              · rw [rn_dec0] at c_155
                refine lv_aload_n hx hb dX4_writeMap_158 rfl (lv_at hl 5 rfl) ?_
                refine lv_iconst (v := (-1)) hx hb dX4_writeMap_159 (by decide) ?_
                refine rn_wV (As := [.int (-1)]) (rest := []) 1 hx hb hml hown hts hG hS (c_refuse l ((-1)) hH1.1) (fun x hx => by rw [show x = h0 from hx]; exact aH) gX4_writeMap_X4_refuse rfl ⟨rfl, rfl⟩ (by decide +kernel) ⟨Nat.le_of_ble_eq_true rfl, Nat.le_of_ble_eq_true rfl⟩ hF (hF _ _ hH1.1) rfl rfl hl.1 rfl (Nat.le_of_ble_eq_true rfl) ⟨by decide, by decide⟩ dX4_writeMap_160 (fun H locs hP1 hz hk hS => ?_)
                refine W.eq (g2 := F0 m 163 ls [.int (-1)]) rfl ?_
                have hF := hP1
                have ho : rn_o_writeMap σ j i = ((-1), rn_ref (rn_draft σ []) ((-1))) := by rw [rn_o_writeMap, if_neg (fun h => h hm), if_neg (fun h => h.elim (fun h => by rw [hsd] at h; cases h) (fun h => by rw [c_71] at h; cases h)), if_neg (by rw [c_88]; decide), if_neg (fun h => h.elim (fun h => by rw [hown1] at h; cases h) (fun h => h c_155))]
                exact rn_Wiret hx hb hr rfl hlocks hS (by decide) (by decide) (by rw [ho]) (by rw [ho]; exact rn_P_mk (rn_V.ref _ (hV.draft (ls := []) (fun q hq => by cases hq) (Nat.zero_le _))) (hC1.house (σ' := rn_ref (rn_draft σ []) ((-1))) ⟨rfl, rfl, rfl, rfl⟩ rfl rfl rfl) hF (rn_A_up _ d1 aH)) dX4_writeMap_163
          · rw [rn_b1] at c_103
            refine lv_aload_n hx hb dX4_writeMap_106 rfl (lv_at hl 3 rfl) ?_
            refine rn_get (ci := 1) (v := .int (nI (σ.pu j))) (C := RX1) (T := TX1) (N := 3) hx hb hts iw_X4_writeMap_1 hown hG (hF _ _ (hQ j hj0)) rfl 1 (by decide) fw_X4_writeMap_68 rfl dX4_writeMap_107 ?_
            refine lv_aload hx hb dX4_writeMap_110 (lv_at hl 2 rfl) ?_
            refine rn_get (ci := 3) (v := .int (σ.sw i)) (C := RX3) (T := TX3) (N := 4) hx hb hts iw_X4_writeMap_3 hown hG (hF _ _ (hR.1 i hi0)) rfl 2 (by decide) fw_X4_writeMap_127 rfl dX4_writeMap_112 ?_
            refine lv_icmp_ne (tgt := 139) hx hb dX4_writeMap_115 (by decide) (fun c_115 => ?_) (fun c_115 => ?_)
            · refine lv_iconst (v := 0) hx hb dX4_writeMap_139 (by decide) ?_
              have hown1 : rn_own1 σ j i = false := by
                cases hqs : qs with
                | cons q2 r2 => simp only [rn_own1, hsd, hqs]
                | nil =>
                  simp only [rn_own1, hsd, hqs]
                  refine decide_eq_false (fun h => ?_)
                  exact c_115 h.2.1
              refine lv_istore (lv' := [(7, .int 0), (6, .ref z_63), (5, .ref (ra (σ.so i))), (4, .ref (ra i)), (3, .ref (pa j)), (0, .ref h0), (1, .int (nI j)), (2, .int (nI i))]) hx hb dX4_writeMap_140 hl (by decide) rfl (fun ls hl => ?_)
              refine lv_iload hx hb dX4_writeMap_142 (lv_at hl 0 rfl) ?_
              refine lv_if_ne (tgt := 164) hx hb dX4_writeMap_144 (by decide) (fun c_144 => ?_) (fun c_144 => ?_)
              · exact absurd rfl c_144
              · refine lv_aload_n hx hb dX4_writeMap_147 rfl (lv_at hl 4 rfl) ?_
                refine lv_bipush (v := 8) hx hb dX4_writeMap_148 (by decide +kernel) ?_
                refine lv_aload hx hb dX4_writeMap_150 (lv_at hl 2 rfl) ?_
                refine rn_cV (As := [.int 8, .ref (ra (σ.so i))]) (rest := []) 2 hx hb hml hown hts hG (c_hasRight l hV hR hQ 8 hj0 hso) gX4_writeMap_X1_hasRight rfl ⟨rfl, rfl⟩ (by decide +kernel) ⟨Nat.le_of_ble_eq_true rfl, Nat.le_of_ble_eq_true rfl⟩ hF (hF _ _ (hQ j hj0)) rfl rfl hl.1 rfl (Nat.le_of_ble_eq_true rfl) ⟨by decide, by decide⟩ dX4_writeMap_152 ?_
                refine W.eq (g2 := F0 m 155 ls [.int (rn_b (decide (rn_held σ j (σ.so i) &&& 8 ≠ 0)))]) rfl ?_
                refine lv_if_ne (tgt := 164) hx hb dX4_writeMap_155 (by decide) (fun c_155 => ?_) (fun c_155 => ?_)
                · rw [rn_b1, decide_eq_true_eq] at c_155
                  have hmay : rn_own1 σ j i = true ∨ rn_held σ j (σ.so i) &&& 8 ≠ 0 := Or.inr c_155
                  refine lv_aload hx hb dX4_writeMap_164 (lv_at hl 3 rfl) ?_
                  refine lv_aload hx hb dX4_writeMap_166 (lv_at hl 1 rfl) ?_
                  refine rn_put (A := (rn_A f sz)) (ci := 3) (v := .ref z_63) (C := RX3) (T := TX3) (N := 4) (fs' := [.int (nI i), va_rf (rn_ot σ ra i), .int (σ.sw i), .ref z_63]) hx hb hts iw_X4_writeMap_3 tyX3 tyX3_ok nmX3 hown hG hS (aR9 i hi0) (hF _ _ (hR.1 i hi0)) rfl 3 (by decide) fw_X4_writeMap_108 (Or.inl rfl) rfl rfl (Nat.le_of_ble_eq_true rfl) rfl dX4_writeMap_168 (fun H locs hat hz ho hS => ?_)
                  have hF := hF.set hat ho
                  have hC2 := hC1.map (r := i) (z := some z_63) (hV.draft (ls := []) (fun q hq => by cases hq) (Nat.zero_le _)) hi0 hdr9
                  have hdr2 := (rn_pres_up (K := fun k => k = 2) (some (.inr (3, [.int (nI i), va_rf (rn_ot σ ra i), .int (σ.sw i), va_rf (some z_63)]))) (rn_kd_of (hR.1 i hi0)) (by simp [rn_kind])).ch rfl _ _ hdr9
                  refine lv_aload hx hb dX4_writeMap_171 (lv_at hl 1 rfl) ?_
                  refine rn_cS (As := [.ref z_63]) (rest := []) 1 hx hb hml hown hts hG (c_countOf l hdr2) gX4_writeMap_X4_countOf rfl ⟨rfl, rfl⟩ (by decide +kernel) ⟨Nat.le_of_ble_eq_true rfl, Nat.le_of_ble_eq_true rfl⟩ hF rfl hl.1 rfl (Nat.le_of_ble_eq_true rfl) ⟨by decide, by decide⟩ dX4_writeMap_173 ?_
                  refine W.eq (g2 := F0 m 176 ls [.int (nI σ.sd.length)]) rfl ?_
                  have ho : rn_o_writeMap σ j i = (nI σ.sd.length, rn_setMap σ i) := by rw [rn_o_writeMap, if_neg (fun h => h hm), if_neg (fun h => h.elim (fun h => by rw [hsd] at h; cases h) (fun h => by rw [c_71] at h; cases h)), if_neg (by rw [c_88]; decide), if_pos hmay]
                  exact rn_Wiret hx hb hr rfl hlocks hS (by decide) (by decide) (by rw [ho]) (by rw [ho]; exact rn_P_mk (hV.setMap hi9 c_71) hC2 hF (rn_A_up _ d1 (aR9 i hi0))) dX4_writeMap_176
                · rw [rn_dec0] at c_155
                  refine lv_aload_n hx hb dX4_writeMap_158 rfl (lv_at hl 5 rfl) ?_
                  refine lv_iconst (v := (-1)) hx hb dX4_writeMap_159 (by decide) ?_
                  refine rn_wV (As := [.int (-1)]) (rest := []) 1 hx hb hml hown hts hG hS (c_refuse l ((-1)) hH1.1) (fun x hx => by rw [show x = h0 from hx]; exact aH) gX4_writeMap_X4_refuse rfl ⟨rfl, rfl⟩ (by decide +kernel) ⟨Nat.le_of_ble_eq_true rfl, Nat.le_of_ble_eq_true rfl⟩ hF (hF _ _ hH1.1) rfl rfl hl.1 rfl (Nat.le_of_ble_eq_true rfl) ⟨by decide, by decide⟩ dX4_writeMap_160 (fun H locs hP1 hz hk hS => ?_)
                  refine W.eq (g2 := F0 m 163 ls [.int (-1)]) rfl ?_
                  have hF := hP1
                  have ho : rn_o_writeMap σ j i = ((-1), rn_ref (rn_draft σ []) ((-1))) := by rw [rn_o_writeMap, if_neg (fun h => h hm), if_neg (fun h => h.elim (fun h => by rw [hsd] at h; cases h) (fun h => by rw [c_71] at h; cases h)), if_neg (by rw [c_88]; decide), if_neg (fun h => h.elim (fun h => by rw [hown1] at h; cases h) (fun h => h c_155))]
                  exact rn_Wiret hx hb hr rfl hlocks hS (by decide) (by decide) (by rw [ho]) (by rw [ho]; exact rn_P_mk (rn_V.ref _ (hV.draft (ls := []) (fun q hq => by cases hq) (Nat.zero_le _))) (hC1.house (σ' := rn_ref (rn_draft σ []) ((-1))) ⟨rfl, rfl, rfl, rfl⟩ rfl rfl rfl) hF (rn_A_up _ d1 aH)) dX4_writeMap_163
            · refine lv_aload hx hb dX4_writeMap_118 (lv_at hl 1 rfl) ?_
              refine lv_aload hx hb dX4_writeMap_120 (lv_at hl 0 rfl) ?_
              refine rn_get (ci := 2) (v := .int (nI q.2.1)) (C := RX2) (T := TX2) (N := 4) hx hb hts iw_X4_writeMap_2 hown hG (hF _ _ ha9) rfl 1 (by decide) fw_X4_writeMap_130 rfl dX4_writeMap_122 ?_
              refine rn_cS (As := [.ref (ra (σ.so i)), .int (nI q.2.1)]) (rest := []) 2 hx hb hml hown hts hG (c_leadOut l hV hR hso (x := q.2.1) (by have := hokq.2.1; have := hokq.2.2; omega)) gX4_writeMap_X4_leadOut rfl ⟨rfl, rfl⟩ (by decide +kernel) ⟨Nat.le_of_ble_eq_true rfl, Nat.le_of_ble_eq_true rfl⟩ hF rfl hl.1 rfl (Nat.le_of_ble_eq_true rfl) ⟨by decide, by decide⟩ dX4_writeMap_125 ?_
              refine W.eq (g2 := F0 m 128 ls [.int (rn_enc (rn_lead σ (σ.so i) q.2.1))]) rfl ?_
              refine lv_aload_n hx hb dX4_writeMap_128 rfl (lv_at hl 3 rfl) ?_
              refine rn_get (ci := 1) (v := .int (nI (σ.pu j))) (C := RX1) (T := TX1) (N := 3) hx hb hts iw_X4_writeMap_1 hown hG (hF _ _ (hQ j hj0)) rfl 1 (by decide) fw_X4_writeMap_68 rfl dX4_writeMap_129 ?_
              refine lv_icmp_ne (tgt := 139) hx hb dX4_writeMap_132 (by decide) (fun c_132 => ?_) (fun c_132 => ?_)
              · refine lv_iconst (v := 0) hx hb dX4_writeMap_139 (by decide) ?_
                have hown1 : rn_own1 σ j i = false := by
                  cases hqs : qs with
                  | cons q2 r2 => simp only [rn_own1, hsd, hqs]
                  | nil =>
                    simp only [rn_own1, hsd, hqs]
                    refine decide_eq_false (fun h => ?_)
                    exact c_132 (by rw [h.2.2]; rfl)
                refine lv_istore (lv' := [(7, .int 0), (6, .ref z_63), (5, .ref (ra (σ.so i))), (4, .ref (ra i)), (3, .ref (pa j)), (0, .ref h0), (1, .int (nI j)), (2, .int (nI i))]) hx hb dX4_writeMap_140 hl (by decide) rfl (fun ls hl => ?_)
                refine lv_iload hx hb dX4_writeMap_142 (lv_at hl 0 rfl) ?_
                refine lv_if_ne (tgt := 164) hx hb dX4_writeMap_144 (by decide) (fun c_144 => ?_) (fun c_144 => ?_)
                · exact absurd rfl c_144
                · refine lv_aload_n hx hb dX4_writeMap_147 rfl (lv_at hl 4 rfl) ?_
                  refine lv_bipush (v := 8) hx hb dX4_writeMap_148 (by decide +kernel) ?_
                  refine lv_aload hx hb dX4_writeMap_150 (lv_at hl 2 rfl) ?_
                  refine rn_cV (As := [.int 8, .ref (ra (σ.so i))]) (rest := []) 2 hx hb hml hown hts hG (c_hasRight l hV hR hQ 8 hj0 hso) gX4_writeMap_X1_hasRight rfl ⟨rfl, rfl⟩ (by decide +kernel) ⟨Nat.le_of_ble_eq_true rfl, Nat.le_of_ble_eq_true rfl⟩ hF (hF _ _ (hQ j hj0)) rfl rfl hl.1 rfl (Nat.le_of_ble_eq_true rfl) ⟨by decide, by decide⟩ dX4_writeMap_152 ?_
                  refine W.eq (g2 := F0 m 155 ls [.int (rn_b (decide (rn_held σ j (σ.so i) &&& 8 ≠ 0)))]) rfl ?_
                  refine lv_if_ne (tgt := 164) hx hb dX4_writeMap_155 (by decide) (fun c_155 => ?_) (fun c_155 => ?_)
                  · rw [rn_b1, decide_eq_true_eq] at c_155
                    have hmay : rn_own1 σ j i = true ∨ rn_held σ j (σ.so i) &&& 8 ≠ 0 := Or.inr c_155
                    refine lv_aload hx hb dX4_writeMap_164 (lv_at hl 3 rfl) ?_
                    refine lv_aload hx hb dX4_writeMap_166 (lv_at hl 1 rfl) ?_
                    refine rn_put (A := (rn_A f sz)) (ci := 3) (v := .ref z_63) (C := RX3) (T := TX3) (N := 4) (fs' := [.int (nI i), va_rf (rn_ot σ ra i), .int (σ.sw i), .ref z_63]) hx hb hts iw_X4_writeMap_3 tyX3 tyX3_ok nmX3 hown hG hS (aR9 i hi0) (hF _ _ (hR.1 i hi0)) rfl 3 (by decide) fw_X4_writeMap_108 (Or.inl rfl) rfl rfl (Nat.le_of_ble_eq_true rfl) rfl dX4_writeMap_168 (fun H locs hat hz ho hS => ?_)
                    have hF := hF.set hat ho
                    have hC2 := hC1.map (r := i) (z := some z_63) (hV.draft (ls := []) (fun q hq => by cases hq) (Nat.zero_le _)) hi0 hdr9
                    have hdr2 := (rn_pres_up (K := fun k => k = 2) (some (.inr (3, [.int (nI i), va_rf (rn_ot σ ra i), .int (σ.sw i), va_rf (some z_63)]))) (rn_kd_of (hR.1 i hi0)) (by simp [rn_kind])).ch rfl _ _ hdr9
                    refine lv_aload hx hb dX4_writeMap_171 (lv_at hl 1 rfl) ?_
                    refine rn_cS (As := [.ref z_63]) (rest := []) 1 hx hb hml hown hts hG (c_countOf l hdr2) gX4_writeMap_X4_countOf rfl ⟨rfl, rfl⟩ (by decide +kernel) ⟨Nat.le_of_ble_eq_true rfl, Nat.le_of_ble_eq_true rfl⟩ hF rfl hl.1 rfl (Nat.le_of_ble_eq_true rfl) ⟨by decide, by decide⟩ dX4_writeMap_173 ?_
                    refine W.eq (g2 := F0 m 176 ls [.int (nI σ.sd.length)]) rfl ?_
                    have ho : rn_o_writeMap σ j i = (nI σ.sd.length, rn_setMap σ i) := by rw [rn_o_writeMap, if_neg (fun h => h hm), if_neg (fun h => h.elim (fun h => by rw [hsd] at h; cases h) (fun h => by rw [c_71] at h; cases h)), if_neg (by rw [c_88]; decide), if_pos hmay]
                    exact rn_Wiret hx hb hr rfl hlocks hS (by decide) (by decide) (by rw [ho]) (by rw [ho]; exact rn_P_mk (hV.setMap hi9 c_71) hC2 hF (rn_A_up _ d1 (aR9 i hi0))) dX4_writeMap_176
                  · rw [rn_dec0] at c_155
                    refine lv_aload_n hx hb dX4_writeMap_158 rfl (lv_at hl 5 rfl) ?_
                    refine lv_iconst (v := (-1)) hx hb dX4_writeMap_159 (by decide) ?_
                    refine rn_wV (As := [.int (-1)]) (rest := []) 1 hx hb hml hown hts hG hS (c_refuse l ((-1)) hH1.1) (fun x hx => by rw [show x = h0 from hx]; exact aH) gX4_writeMap_X4_refuse rfl ⟨rfl, rfl⟩ (by decide +kernel) ⟨Nat.le_of_ble_eq_true rfl, Nat.le_of_ble_eq_true rfl⟩ hF (hF _ _ hH1.1) rfl rfl hl.1 rfl (Nat.le_of_ble_eq_true rfl) ⟨by decide, by decide⟩ dX4_writeMap_160 (fun H locs hP1 hz hk hS => ?_)
                    refine W.eq (g2 := F0 m 163 ls [.int (-1)]) rfl ?_
                    have hF := hP1
                    have ho : rn_o_writeMap σ j i = ((-1), rn_ref (rn_draft σ []) ((-1))) := by rw [rn_o_writeMap, if_neg (fun h => h hm), if_neg (fun h => h.elim (fun h => by rw [hsd] at h; cases h) (fun h => by rw [c_71] at h; cases h)), if_neg (by rw [c_88]; decide), if_neg (fun h => h.elim (fun h => by rw [hown1] at h; cases h) (fun h => h c_155))]
                    exact rn_Wiret hx hb hr rfl hlocks hS (by decide) (by decide) (by rw [ho]) (by rw [ho]; exact rn_P_mk (rn_V.ref _ (hV.draft (ls := []) (fun q hq => by cases hq) (Nat.zero_le _))) (hC1.house (σ' := rn_ref (rn_draft σ []) ((-1))) ⟨rfl, rfl, rfl, rfl⟩ rfl rfl rfl) hF (rn_A_up _ d1 aH)) dX4_writeMap_163
              · refine lv_iconst (v := 1) hx hb dX4_writeMap_135 (by decide) ?_
                refine lv_goto (tgt := 140) hx hb dX4_writeMap_136 (by decide) ?_
                have hown1 : rn_own1 σ j i = true := by
                  rw [decide_eq_true_eq] at c_103
                  simp only [rn_own1, hsd, c_103.1]
                  exact decide_eq_true ⟨c_103.2, c_115, (rn_enc_eq (fun y h => rn_lead_in hV _ _ (Nat.le_refl _) hso _ y (by have := hokq.2.1; have := hokq.2.2; omega) h) (hV.2.2.2.2.2.1.2.2 j hj0).2).mp c_132⟩
                refine lv_istore (lv' := [(7, .int 1), (6, .ref z_63), (5, .ref (ra (σ.so i))), (4, .ref (ra i)), (3, .ref (pa j)), (0, .ref h0), (1, .int (nI j)), (2, .int (nI i))]) hx hb dX4_writeMap_140 hl (by decide) rfl (fun ls hl => ?_)
                refine lv_iload hx hb dX4_writeMap_142 (lv_at hl 0 rfl) ?_
                refine lv_if_ne (tgt := 164) hx hb dX4_writeMap_144 (by decide) (fun c_144 => ?_) (fun c_144 => ?_)
                · have hmay : rn_own1 σ j i = true ∨ rn_held σ j (σ.so i) &&& 8 ≠ 0 := Or.inl hown1
                  refine lv_aload hx hb dX4_writeMap_164 (lv_at hl 3 rfl) ?_
                  refine lv_aload hx hb dX4_writeMap_166 (lv_at hl 1 rfl) ?_
                  refine rn_put (A := (rn_A f sz)) (ci := 3) (v := .ref z_63) (C := RX3) (T := TX3) (N := 4) (fs' := [.int (nI i), va_rf (rn_ot σ ra i), .int (σ.sw i), .ref z_63]) hx hb hts iw_X4_writeMap_3 tyX3 tyX3_ok nmX3 hown hG hS (aR9 i hi0) (hF _ _ (hR.1 i hi0)) rfl 3 (by decide) fw_X4_writeMap_108 (Or.inl rfl) rfl rfl (Nat.le_of_ble_eq_true rfl) rfl dX4_writeMap_168 (fun H locs hat hz ho hS => ?_)
                  have hF := hF.set hat ho
                  have hC2 := hC1.map (r := i) (z := some z_63) (hV.draft (ls := []) (fun q hq => by cases hq) (Nat.zero_le _)) hi0 hdr9
                  have hdr2 := (rn_pres_up (K := fun k => k = 2) (some (.inr (3, [.int (nI i), va_rf (rn_ot σ ra i), .int (σ.sw i), va_rf (some z_63)]))) (rn_kd_of (hR.1 i hi0)) (by simp [rn_kind])).ch rfl _ _ hdr9
                  refine lv_aload hx hb dX4_writeMap_171 (lv_at hl 1 rfl) ?_
                  refine rn_cS (As := [.ref z_63]) (rest := []) 1 hx hb hml hown hts hG (c_countOf l hdr2) gX4_writeMap_X4_countOf rfl ⟨rfl, rfl⟩ (by decide +kernel) ⟨Nat.le_of_ble_eq_true rfl, Nat.le_of_ble_eq_true rfl⟩ hF rfl hl.1 rfl (Nat.le_of_ble_eq_true rfl) ⟨by decide, by decide⟩ dX4_writeMap_173 ?_
                  refine W.eq (g2 := F0 m 176 ls [.int (nI σ.sd.length)]) rfl ?_
                  have ho : rn_o_writeMap σ j i = (nI σ.sd.length, rn_setMap σ i) := by rw [rn_o_writeMap, if_neg (fun h => h hm), if_neg (fun h => h.elim (fun h => by rw [hsd] at h; cases h) (fun h => by rw [c_71] at h; cases h)), if_neg (by rw [c_88]; decide), if_pos hmay]
                  exact rn_Wiret hx hb hr rfl hlocks hS (by decide) (by decide) (by rw [ho]) (by rw [ho]; exact rn_P_mk (hV.setMap hi9 c_71) hC2 hF (rn_A_up _ d1 (aR9 i hi0))) dX4_writeMap_176
                · exact absurd c_144 (by decide)
        · rw [rn_b0, Bool.not_eq_false'] at c_88
          refine lv_aload_n hx hb dX4_writeMap_91 rfl (lv_at hl 4 rfl) ?_
          refine lv_bipush (v := (-2)) hx hb dX4_writeMap_92 (by decide +kernel) ?_
          refine rn_wV (As := [.int (-2)]) (rest := []) 1 hx hb hml hown hts hG hS (c_refuse l ((-2)) hH1.1) (fun x hx => by rw [show x = h0 from hx]; exact aH) gX4_writeMap_X4_refuse rfl ⟨rfl, rfl⟩ (by decide +kernel) ⟨Nat.le_of_ble_eq_true rfl, Nat.le_of_ble_eq_true rfl⟩ hF (hF _ _ hH1.1) rfl rfl hl.1 rfl (Nat.le_of_ble_eq_true rfl) ⟨by decide, by decide⟩ dX4_writeMap_94 (fun H locs hP1 hz hk hS => ?_)
          refine W.eq (g2 := F0 m 97 ls [.int (-2)]) rfl ?_
          have hF := hP1
          have ho : rn_o_writeMap σ j i = ((-2), rn_ref (rn_draft σ []) ((-2))) := by rw [rn_o_writeMap, if_neg (fun h => h hm), if_neg (fun h => h.elim (fun h => by rw [hsd] at h; cases h) (fun h => by rw [c_71] at h; cases h)), if_pos c_88]
          exact rn_Wiret hx hb hr rfl hlocks hS (by decide) (by decide) (by rw [ho]) (by rw [ho]; exact rn_P_mk (rn_V.ref _ (hV.draft (ls := []) (fun q hq => by cases hq) (Nat.zero_le _))) (hC1.house (σ' := rn_ref (rn_draft σ []) ((-2))) ⟨rfl, rfl, rfl, rfl⟩ rfl rfl rfl) hF (rn_A_up _ d1 aH)) dX4_writeMap_97
      · rw [rn_b1] at c_71
        refine lv_aload_n hx hb dX4_writeMap_74 rfl (lv_at hl 4 rfl) ?_
        refine lv_bipush (v := (-3)) hx hb dX4_writeMap_75 (by decide +kernel) ?_
        refine rn_wV (As := [.int (-3)]) (rest := []) 1 hx hb hml hown hts hG hS (c_refuse l ((-3)) hH1.1) (fun x hx => by rw [show x = h0 from hx]; exact aH) gX4_writeMap_X4_refuse rfl ⟨rfl, rfl⟩ (by decide +kernel) ⟨Nat.le_of_ble_eq_true rfl, Nat.le_of_ble_eq_true rfl⟩ hF (hF _ _ hH1.1) rfl rfl hl.1 rfl (Nat.le_of_ble_eq_true rfl) ⟨by decide, by decide⟩ dX4_writeMap_77 (fun H locs hP1 hz hk hS => ?_)
        refine W.eq (g2 := F0 m 80 ls [.int (-3)]) rfl ?_
        have hF := hP1
        have ho : rn_o_writeMap σ j i = ((-3), rn_ref (rn_draft σ []) ((-3))) := by rw [rn_o_writeMap, if_neg (fun h => h hm), if_pos (Or.inr c_71)]
        exact rn_Wiret hx hb hr rfl hlocks hS (by decide) (by decide) (by rw [ho]) (by rw [ho]; exact rn_P_mk (rn_V.ref _ (hV.draft (ls := []) (fun q hq => by cases hq) (Nat.zero_le _))) (hC1.house (σ' := rn_ref (rn_draft σ []) ((-3))) ⟨rfl, rfl, rfl, rfl⟩ rfl rfl rfl) hF (rn_A_up _ d1 aH)) dX4_writeMap_80
  · have hm : σ.sm i ≠ [] := fun h9 => by
      have h := hR.2 i hi0
      rw [h9] at h
      rw [show hd i = none from h] at c_51; cases c_51
    refine lv_aload_n hx hb dX4_writeMap_54 rfl (lv_at hl 4 rfl) ?_
    refine lv_bipush (v := (-4)) hx hb dX4_writeMap_55 (by decide +kernel) ?_
    refine rn_wV (As := [.int (-4)]) (rest := []) 1 hx hb hml hown hts hG hS (c_refuse l ((-4)) hH1.1) (fun x hx => by rw [show x = h0 from hx]; exact aH) gX4_writeMap_X4_refuse rfl ⟨rfl, rfl⟩ (by decide +kernel) ⟨Nat.le_of_ble_eq_true rfl, Nat.le_of_ble_eq_true rfl⟩ hF (hF _ _ hH1.1) rfl rfl hl.1 rfl (Nat.le_of_ble_eq_true rfl) ⟨by decide, by decide⟩ dX4_writeMap_57 (fun H locs hP1 hz hk hS => ?_)
    refine W.eq (g2 := F0 m 60 ls [.int (-4)]) rfl ?_
    have hF := hP1
    have ho : rn_o_writeMap σ j i = ((-4), rn_ref (rn_draft σ []) ((-4))) := by rw [rn_o_writeMap, if_pos hm]
    exact rn_Wiret hx hb hr rfl hlocks hS (by decide) (by decide) (by rw [ho]) (by rw [ho]; exact rn_P_mk (rn_V.ref _ (hV.draft (ls := []) (fun q hq => by cases hq) (Nat.zero_le _))) (hC1.house (σ' := rn_ref (rn_draft σ []) ((-4))) ⟨rfl, rfl, rfl, rfl⟩ rfl rfl rfl) hF (rn_A_up _ d1 aH)) dX4_writeMap_60
