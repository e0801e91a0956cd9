set_option maxHeartbeats 4000000 in
set_option maxRecDepth 100000 in
theorem m_isDraftLost (l : Launch) {D : va_G} {cI : ClassId} {m0 : Nat} {ma : Nat → Nat} {rf : Int32} {V : Nat → Nat → Int32} {σ : rn_St} (hV : rn_V σ) (hM : rn_Mr σ V) {i : Nat} (hi0 : i < σ.sn) : rn_R l yX5_isDraftLost wsX5_isDraftLost ({ frames := 3, cells := 0, slots := 0, locals := 71 } : Room) D [(cI, .int)] ((rn_MW D cI m0 ma rf (nI σ.sn) (nI σ.sd.length) (nI σ.pn) (nI σ.fn) σ.rc σ.la V)) [.ref m0, .int (nI i)] (some (.int (rn_b (rn_lost σ i σ.sd)))) := by
  refine rn_R.ofW (cc := cX5_isDraftLost) (maxL := 6) (ret := (some .boolean)) (by decide) rfl (Nat.le_of_ble_eq_true rfl) (fun p e s m below meth c ls hx hb hr hml hts hown hlocks hF hG hl => ?_)
  have hl : lv_has ls 6 [(0, .ref m0), (1, .int (nI i))] := hl
  have hs10 := hV.1.2
  have hp12 := hV.2.2.2.2.2.1.2.1
  have hf20 := hV.2.2.2.2.2.2.1
  have hd3 := hV.2.2.2.2.1.2
  refine lv_iconst (v := 0) hx hb dX5_isDraftLost_0 (by decide) ?_
  refine lv_istore_n (lv' := [(2, .int 0), (0, .ref m0), (1, .int (nI i))]) hx hb dX5_isDraftLost_1 rfl hl (by decide) rfl (fun ls hl => ?_)
  refine lv_bipush (v := 30) hx hb dX5_isDraftLost_2 (by decide +kernel) ?_
  refine rn_top (y := .int (nI 30)) (congrArg Value.int (rfl)) ?_
  refine lv_istore_n (lv' := [(3, .int (nI 30)), (2, .int 0), (0, .ref m0), (1, .int (nI i))]) hx hb dX5_isDraftLost_4 rfl hl (by decide) rfl (fun ls hl => ?_)
  refine lv_iload_n hx hb dX5_isDraftLost_5 rfl (lv_at hl 0 rfl) ?_
  refine lv_istore (lv' := [(4, .int (nI 30)), (3, .int (nI 30)), (2, .int 0), (0, .ref m0), (1, .int (nI i))]) hx hb dX5_isDraftLost_6 hl (by decide) rfl (fun ls hl => ?_)
  have loop : ∀ (n k : Nat), k + n = σ.sd.length → ∀ (ls : Array Slot), lv_has ls 6 [(4, .int (nI (30 + k))), (2, .int (rn_b (rn_lost σ i (σ.sd.drop (σ.sd.length - k))))), (3, .int (nI 30)), (0, .ref m0), (1, .int (nI i))] → W p l e ({ frames := 3, cells := 0, slots := 0, locals := 71 } : Room) s m ([.ref m0, .int (nI i)] : List Value).toArray below meth c s.heap [] 0 0 (MQ below (fun _ st o t => o = .returned (some (.int (rn_b (rn_lost σ i σ.sd)))) ∧ t.heap = st.heap) ([.ref m0, .int (nI i)] : List Value).toArray s 0 0 (fun _ => False)) (F0 m 8 ls []) := by
    intro n
    induction n with
    | zero =>
      intro k hkn ls hl
      refine lv_iload hx hb dX5_isDraftLost_8 (lv_at hl 0 rfl) ?_
      refine lv_iload_n hx hb dX5_isDraftLost_10 rfl (lv_at hl 2 rfl) ?_
      refine lv_aload_n hx hb dX5_isDraftLost_11 rfl (lv_at hl 3 rfl) ?_
      refine rn_get (ci := 5) (v := .int (nI σ.sd.length)) (C := RX5) (T := TX5) (N := 18) hx hb hts iw_X5_isDraftLost_5 hown hG hF.1 rfl 8 (by decide) fw_X5_isDraftLost_76 rfl dX5_isDraftLost_12 ?_
      refine lv_iadd hx hb dX5_isDraftLost_15 ?_
      refine rn_top (y := .int (nI (30 + σ.sd.length))) (congrArg Value.int (nI_add _ _)) ?_
      refine lv_icmp_ge (tgt := 81) hx hb dX5_isDraftLost_16 (by decide) (fun c_16 => ?_) (fun c_16 => ?_)
      · refine lv_iload_n hx hb dX5_isDraftLost_81 rfl (lv_at hl 1 rfl) ?_
        exact rn_iret hx hb hr (rn_nb _) hlocks (by rw [show σ.sd.length - k = 0 by omega]; rfl) dX5_isDraftLost_82
      · exact absurd ((nI_leI (by omega) (by omega)).mpr (by omega)) c_16
    | succ n ih =>
      intro k hkn ls hl
      obtain ⟨v1, v2, v3⟩ := hM.2.2.2.2.1 k (by omega)
      obtain ⟨q, hq⟩ : ∃ q, q = rn_lat σ.sd k := ⟨_, rfl⟩
      rw [← hq] at v1 v2 v3
      obtain ⟨k1, k2, k3⟩ : rn_okL q := hV.2.2.2.2.1.1 _ (by rw [hq]; exact rn_lat_mem (by omega))
      refine lv_iload hx hb dX5_isDraftLost_8 (lv_at hl 0 rfl) ?_
      refine lv_iload_n hx hb dX5_isDraftLost_10 rfl (lv_at hl 2 rfl) ?_
      refine lv_aload_n hx hb dX5_isDraftLost_11 rfl (lv_at hl 3 rfl) ?_
      refine rn_get (ci := 5) (v := .int (nI σ.sd.length)) (C := RX5) (T := TX5) (N := 18) hx hb hts iw_X5_isDraftLost_5 hown hG hF.1 rfl 8 (by decide) fw_X5_isDraftLost_76 rfl dX5_isDraftLost_12 ?_
      refine lv_iadd hx hb dX5_isDraftLost_15 ?_
      refine rn_top (y := .int (nI (30 + σ.sd.length))) (congrArg Value.int (nI_add _ _)) ?_
      refine lv_icmp_ge (tgt := 81) hx hb dX5_isDraftLost_16 (by decide) (fun c_16 => ?_) (fun c_16 => ?_)
      · exact absurd ((nI_leI (by omega) (by omega)).mp c_16) (by omega)
      · refine lv_aload_n hx hb dX5_isDraftLost_19 rfl (lv_at hl 3 rfl) ?_
        refine rn_get (ci := 5) (v := .ref (ma 4)) (C := RX5) (T := TX5) (N := 18) hx hb hts iw_X5_isDraftLost_5 hown hG hF.1 rfl 6 (by decide) fw_X5_isDraftLost_26 rfl dX5_isDraftLost_20 ?_
        refine lv_iload hx hb dX5_isDraftLost_23 (lv_at hl 0 rfl) ?_
        refine rn_iald (j := (30 + k)) hx hb hG (show va_at D vwCl (ma 4, .inl (cI, 33, .inl (V 4))) _ from hF.2.1 4 (by decide)) 0 rfl (by omega) (by decide) dX5_isDraftLost_25 ?_
        refine rn_top (y := .int (nI q.2.1)) (congrArg Value.int v2) ?_
        refine lv_istore (lv' := [(5, .int (nI q.2.1)), (4, .int (nI (30 + k))), (2, .int (rn_b (rn_lost σ i (σ.sd.drop (σ.sd.length - k))))), (3, .int (nI 30)), (0, .ref m0), (1, .int (nI i))]) hx hb dX5_isDraftLost_26 hl (by decide) rfl (fun ls hl => ?_)
        have inner : ∀ (n j : Nat), j + n = q.2.2 → ∀ (ls : Array Slot), lv_has ls 6 [(5, .int (nI (q.2.1 + j))), (4, .int (nI (30 + k))), (2, .int (rn_b ((rn_lost σ i (σ.sd.drop (σ.sd.length - k))) || (List.range j).any (fun z => (rn_lead σ i (q.2.1 + z)).isNone)))), (3, .int (nI 30)), (0, .ref m0), (1, .int (nI i))] → W p l e ({ frames := 3, cells := 0, slots := 0, locals := 71 } : Room) s m ([.ref m0, .int (nI i)] : List Value).toArray below meth c s.heap [] 0 0 (MQ below (fun _ st o t => o = .returned (some (.int (rn_b (rn_lost σ i σ.sd)))) ∧ t.heap = st.heap) ([.ref m0, .int (nI i)] : List Value).toArray s 0 0 (fun _ => False)) (F0 m 28 ls []) := by
          intro n
          induction n with
          | zero =>
            intro j hjn ls hl
            refine lv_iload hx hb dX5_isDraftLost_28 (lv_at hl 0 rfl) ?_
            refine lv_aload_n hx hb dX5_isDraftLost_30 rfl (lv_at hl 4 rfl) ?_
            refine rn_get (ci := 5) (v := .ref (ma 4)) (C := RX5) (T := TX5) (N := 18) hx hb hts iw_X5_isDraftLost_5 hown hG hF.1 rfl 6 (by decide) fw_X5_isDraftLost_26 rfl dX5_isDraftLost_31 ?_
            refine lv_iload hx hb dX5_isDraftLost_34 (lv_at hl 1 rfl) ?_
            refine rn_iald (j := (30 + k)) hx hb hG (show va_at D vwCl (ma 4, .inl (cI, 33, .inl (V 4))) _ from hF.2.1 4 (by decide)) 0 rfl (by omega) (by decide) dX5_isDraftLost_36 ?_
            refine rn_top (y := .int (nI q.2.1)) (congrArg Value.int v2) ?_
            refine lv_aload_n hx hb dX5_isDraftLost_37 rfl (lv_at hl 4 rfl) ?_
            refine rn_get (ci := 5) (v := .ref (ma 5)) (C := RX5) (T := TX5) (N := 18) hx hb hts iw_X5_isDraftLost_5 hown hG hF.1 rfl 7 (by decide) fw_X5_isDraftLost_29 rfl dX5_isDraftLost_38 ?_
            refine lv_iload hx hb dX5_isDraftLost_41 (lv_at hl 1 rfl) ?_
            refine rn_iald (j := (30 + k)) hx hb hG (show va_at D vwCl (ma 5, .inl (cI, 33, .inl (V 5))) _ from hF.2.1 5 (by decide)) 0 rfl (by omega) (by decide) dX5_isDraftLost_43 ?_
            refine rn_top (y := .int (nI q.2.2)) (congrArg Value.int v3) ?_
            refine lv_iadd hx hb dX5_isDraftLost_44 ?_
            refine rn_top (y := .int (nI (q.2.1 + q.2.2))) (congrArg Value.int (nI_add _ _)) ?_
            refine lv_icmp_ge (tgt := 75) hx hb dX5_isDraftLost_45 (by decide) (fun c_45 => ?_) (fun c_45 => ?_)
            · refine lv_iinc (v := (nI (30 + (k + 1)))) (lv' := [(4, .int (nI (30 + (k + 1)))), (5, .int (nI (q.2.1 + j))), (2, .int (rn_b ((rn_lost σ i (σ.sd.drop (σ.sd.length - k))) || (List.range j).any (fun z => (rn_lead σ i (q.2.1 + z)).isNone)))), (3, .int (nI 30)), (0, .ref m0), (1, .int (nI i))]) hx hb dX5_isDraftLost_75 hl (k := 1) rfl (nI_1 (30 + k)) (by decide) rfl (fun ls hl => ?_)
              refine lv_goto (tgt := 8) hx hb dX5_isDraftLost_78 (by decide) ?_
              have e9 : rn_lost σ i (σ.sd.drop (σ.sd.length - (k + 1))) = ((rn_lost σ i (σ.sd.drop (σ.sd.length - k))) || (List.range j).any (fun z => (rn_lead σ i (q.2.1 + z)).isNone)) := by rw [rn_lat_drop _ (by omega), ← hq, rn_lost_cons, Bool.or_comm, show j = q.2.2 by omega]
              exact ih (k + 1) (by omega) ls (by rw [e9]; exact lv_sub hl [0, 2, 3, 4, 5] rfl)
            · exact absurd ((nI_leI (by omega) (by omega)).mpr (by omega)) c_45
          | succ n ih2 =>
            intro j hjn ls hl
            refine lv_iload hx hb dX5_isDraftLost_28 (lv_at hl 0 rfl) ?_
            refine lv_aload_n hx hb dX5_isDraftLost_30 rfl (lv_at hl 4 rfl) ?_
            refine rn_get (ci := 5) (v := .ref (ma 4)) (C := RX5) (T := TX5) (N := 18) hx hb hts iw_X5_isDraftLost_5 hown hG hF.1 rfl 6 (by decide) fw_X5_isDraftLost_26 rfl dX5_isDraftLost_31 ?_
            refine lv_iload hx hb dX5_isDraftLost_34 (lv_at hl 1 rfl) ?_
            refine rn_iald (j := (30 + k)) hx hb hG (show va_at D vwCl (ma 4, .inl (cI, 33, .inl (V 4))) _ from hF.2.1 4 (by decide)) 0 rfl (by omega) (by decide) dX5_isDraftLost_36 ?_
            refine rn_top (y := .int (nI q.2.1)) (congrArg Value.int v2) ?_
            refine lv_aload_n hx hb dX5_isDraftLost_37 rfl (lv_at hl 4 rfl) ?_
            refine rn_get (ci := 5) (v := .ref (ma 5)) (C := RX5) (T := TX5) (N := 18) hx hb hts iw_X5_isDraftLost_5 hown hG hF.1 rfl 7 (by decide) fw_X5_isDraftLost_29 rfl dX5_isDraftLost_38 ?_
            refine lv_iload hx hb dX5_isDraftLost_41 (lv_at hl 1 rfl) ?_
            refine rn_iald (j := (30 + k)) hx hb hG (show va_at D vwCl (ma 5, .inl (cI, 33, .inl (V 5))) _ from hF.2.1 5 (by decide)) 0 rfl (by omega) (by decide) dX5_isDraftLost_43 ?_
            refine rn_top (y := .int (nI q.2.2)) (congrArg Value.int v3) ?_
            refine lv_iadd hx hb dX5_isDraftLost_44 ?_
            refine rn_top (y := .int (nI (q.2.1 + q.2.2))) (congrArg Value.int (nI_add _ _)) ?_
            refine lv_icmp_ge (tgt := 75) hx hb dX5_isDraftLost_45 (by decide) (fun c_45 => ?_) (fun c_45 => ?_)
            · exact absurd ((nI_leI (by omega) (by omega)).mp c_45) (by omega)
            · refine lv_iload_n hx hb dX5_isDraftLost_48 rfl (lv_at hl 2 rfl) ?_
              refine lv_if_ne (tgt := 63) hx hb dX5_isDraftLost_49 (by decide) (fun c_49 => ?_) (fun c_49 => ?_)
              · rw [rn_b1] at c_49
                refine lv_iconst (v := 1) hx hb dX5_isDraftLost_63 (by decide) ?_
                refine lv_goto (tgt := 68) hx hb dX5_isDraftLost_64 (by decide) ?_
                have hmt : (((rn_lost σ i (σ.sd.drop (σ.sd.length - k))) || (List.range j).any (fun z => (rn_lead σ i (q.2.1 + z)).isNone)) || (rn_lead σ i (q.2.1 + j)).isNone) = true := by rw [c_49, Bool.true_or]
                refine rn_top (y := .int (rn_b true)) rfl ?_
                refine lv_istore_n (lv' := [(2, .int (rn_b true)), (5, .int (nI (q.2.1 + j))), (4, .int (nI (30 + k))), (3, .int (nI 30)), (0, .ref m0), (1, .int (nI i))]) hx hb dX5_isDraftLost_68 rfl hl (by decide) rfl (fun ls hl => ?_)
                refine lv_iinc (v := (nI (q.2.1 + (j + 1)))) (lv' := [(5, .int (nI (q.2.1 + (j + 1)))), (2, .int (rn_b true)), (4, .int (nI (30 + k))), (3, .int (nI 30)), (0, .ref m0), (1, .int (nI i))]) hx hb dX5_isDraftLost_69 hl (k := 1) rfl (nI_1 (q.2.1 + j)) (by decide) rfl (fun ls hl => ?_)
                refine lv_goto (tgt := 28) hx hb dX5_isDraftLost_72 (by decide) ?_
                exact ih2 (j + 1) (by omega) ls (by rw [List.range_succ, List.any_append, List.any_cons, List.any_nil, Bool.or_false, ← Bool.or_assoc, hmt]; exact lv_sub hl [0, 2, 1, 3, 4, 5] rfl)
              · rw [rn_b0] at c_49
                refine lv_aload_n hx hb dX5_isDraftLost_52 rfl (lv_at hl 4 rfl) ?_
                refine lv_iload_n hx hb dX5_isDraftLost_53 rfl (lv_at hl 5 rfl) ?_
                refine lv_iload hx hb dX5_isDraftLost_54 (lv_at hl 0 rfl) ?_
                refine rn_cV (As := [.int (nI i), .int (nI (q.2.1 + j))]) (rest := []) 2 hx hb hml hown hts hG (m_led l hV hM hi0 (x := q.2.1 + j) (by omega)) gX5_isDraftLost_X5_led rfl ⟨rfl, rfl⟩ (by decide +kernel) ⟨Nat.le_of_ble_eq_true rfl, Nat.le_of_ble_eq_true rfl⟩ hF hF.1 rfl rfl hl.1 rfl (Nat.le_of_ble_eq_true rfl) ⟨Nat.zero_le _, Nat.zero_le _⟩ dX5_isDraftLost_56 ?_
                refine W.eq (g2 := F0 m 59 ls [.int (rn_enc (rn_lead σ i (q.2.1 + j)))]) rfl ?_
                refine lv_iconst (v := (-1)) hx hb dX5_isDraftLost_59 (by decide) ?_
                refine lv_icmp_ne (tgt := 67) hx hb dX5_isDraftLost_60 (by decide) (fun c_60 => ?_) (fun c_60 => ?_)
                · rw [(rn_enc_m1 (fun z hz => rn_lead_in hV _ _ (Nat.le_refl _) hi0 _ z (by omega) hz))] at c_60
                  have c_60 : (rn_lead σ i (q.2.1 + j)).isNone = false := by
                    cases h : rn_lead σ i (q.2.1 + j) with
                    | none => exact absurd h c_60
                    | some z => rfl
                  refine lv_iconst (v := 0) hx hb dX5_isDraftLost_67 (by decide) ?_
                  have hmt : (((rn_lost σ i (σ.sd.drop (σ.sd.length - k))) || (List.range j).any (fun z => (rn_lead σ i (q.2.1 + z)).isNone)) || (rn_lead σ i (q.2.1 + j)).isNone) = false := by rw [c_49, c_60]; rfl
                  refine rn_top (y := .int (rn_b false)) rfl ?_
                  refine lv_istore_n (lv' := [(2, .int (rn_b false)), (5, .int (nI (q.2.1 + j))), (4, .int (nI (30 + k))), (3, .int (nI 30)), (0, .ref m0), (1, .int (nI i))]) hx hb dX5_isDraftLost_68 rfl hl (by decide) rfl (fun ls hl => ?_)
                  refine lv_iinc (v := (nI (q.2.1 + (j + 1)))) (lv' := [(5, .int (nI (q.2.1 + (j + 1)))), (2, .int (rn_b false)), (4, .int (nI (30 + k))), (3, .int (nI 30)), (0, .ref m0), (1, .int (nI i))]) hx hb dX5_isDraftLost_69 hl (k := 1) rfl (nI_1 (q.2.1 + j)) (by decide) rfl (fun ls hl => ?_)
                  refine lv_goto (tgt := 28) hx hb dX5_isDraftLost_72 (by decide) ?_
                  exact ih2 (j + 1) (by omega) ls (by rw [List.range_succ, List.any_append, List.any_cons, List.any_nil, Bool.or_false, ← Bool.or_assoc, hmt]; exact lv_sub hl [0, 2, 1, 3, 4, 5] rfl)
                · rw [(rn_enc_m1 (fun z hz => rn_lead_in hV _ _ (Nat.le_refl _) hi0 _ z (by omega) hz))] at c_60
                  have c_60 : (rn_lead σ i (q.2.1 + j)).isNone = true := by rw [c_60]; rfl
                  refine lv_iconst (v := 1) hx hb dX5_isDraftLost_63 (by decide) ?_
                  refine lv_goto (tgt := 68) hx hb dX5_isDraftLost_64 (by decide) ?_
                  have hmt : (((rn_lost σ i (σ.sd.drop (σ.sd.length - k))) || (List.range j).any (fun z => (rn_lead σ i (q.2.1 + z)).isNone)) || (rn_lead σ i (q.2.1 + j)).isNone) = true := by rw [c_60, Bool.or_true]
                  refine rn_top (y := .int (rn_b true)) rfl ?_
                  refine lv_istore_n (lv' := [(2, .int (rn_b true)), (5, .int (nI (q.2.1 + j))), (4, .int (nI (30 + k))), (3, .int (nI 30)), (0, .ref m0), (1, .int (nI i))]) hx hb dX5_isDraftLost_68 rfl hl (by decide) rfl (fun ls hl => ?_)
                  refine lv_iinc (v := (nI (q.2.1 + (j + 1)))) (lv' := [(5, .int (nI (q.2.1 + (j + 1)))), (2, .int (rn_b true)), (4, .int (nI (30 + k))), (3, .int (nI 30)), (0, .ref m0), (1, .int (nI i))]) hx hb dX5_isDraftLost_69 hl (k := 1) rfl (nI_1 (q.2.1 + j)) (by decide) rfl (fun ls hl => ?_)
                  refine lv_goto (tgt := 28) hx hb dX5_isDraftLost_72 (by decide) ?_
                  exact ih2 (j + 1) (by omega) ls (by rw [List.range_succ, List.any_append, List.any_cons, List.any_nil, Bool.or_false, ← Bool.or_assoc, hmt]; exact lv_sub hl [0, 2, 1, 3, 4, 5] rfl)
        exact inner q.2.2 0 (Nat.zero_add _) ls (by rw [List.range_zero, List.any_nil, Bool.or_false]; exact lv_sub hl [0, 1, 2, 3, 4, 5] rfl)
  exact loop _ 0 (Nat.zero_add _) ls (by rw [Nat.sub_zero, List.drop_length]; exact lv_sub hl [0, 2, 1, 3, 4] rfl)

set_option maxHeartbeats 4000000 in
set_option maxRecDepth 100000 in
theorem m_isInside (l : Launch) {D : va_G} {cI : ClassId} {m0 : Nat} {ma : Nat → Nat} {rf : Int32} {V : Nat → Nat → Int32} {σ : rn_St} (hV : rn_V σ) (hM : rn_Mr σ V) {i b : Nat} (hi0 : i < σ.sn) (hb0 : b < σ.sn) : rn_R l yX5_isInside wsX5_isInside ({ frames := 0, cells := 0, slots := 0, locals := 0 } : Room) D [(cI, .int)] ((rn_MW D cI m0 ma rf (nI σ.sn) (nI σ.sd.length) (nI σ.pn) (nI σ.fn) σ.rc σ.la V)) [.ref m0, .int (nI i), .int (nI b)] (some (.int (rn_b (rn_insO σ b (rn_nx σ i))))) := by
  refine rn_R.ofW (cc := cX5_isInside) (maxL := 4) (ret := (some .boolean)) (by decide) rfl (Nat.le_of_ble_eq_true rfl) (fun p e s m below meth c ls hx hb hr hml hts hown hlocks hF hG hl => ?_)
  have hl : lv_has ls 4 [(0, .ref m0), (1, .int (nI i)), (2, .int (nI b))] := hl
  have hs10 := hV.1.2
  have hp12 := hV.2.2.2.2.2.1.2.1
  have hf20 := hV.2.2.2.2.2.2.1
  have hd3 := hV.2.2.2.2.1.2
  refine lv_iload_n hx hb dX5_isInside_0 rfl (lv_at hl 1 rfl) ?_
  refine lv_if_ne (tgt := 8) hx hb dX5_isInside_1 (by decide) (fun c_1 => ?_) (fun c_1 => ?_)
  · refine lv_aload_n hx hb dX5_isInside_8 rfl (lv_at hl 0 rfl) ?_
    refine rn_get (ci := 5) (v := .ref (ma 0)) (C := RX5) (T := TX5) (N := 18) hx hb hts iw_X5_isInside_5 hown hG hF.1 rfl 2 (by decide) fw_X5_isInside_13 rfl dX5_isInside_9 ?_
    refine lv_iload_n hx hb dX5_isInside_12 rfl (lv_at hl 1 rfl) ?_
    refine rn_iald (j := i) hx hb hG (show va_at D vwCl (ma 0, .inl (cI, 10, .inl (V 0))) _ from hF.2.1 0 (by decide)) 0 rfl (by omega) (by decide) dX5_isInside_13 ?_
    refine rn_top (y := .int (rn_enc (rn_nx σ i))) (congrArg Value.int (hM.1 i hi0)) ?_
    refine lv_istore_n (lv' := [(3, .int (rn_enc (rn_nx σ i))), (0, .ref m0), (1, .int (nI i)), (2, .int (nI b))]) hx hb dX5_isInside_14 rfl hl (by decide) rfl (fun ls hl => ?_)
    have loop : ∀ (k : Nat) (at_ : Option Nat), (∀ z, at_ = some z → z < σ.sn ∧ z < k) → rn_insO σ b at_ = rn_insO σ b (rn_nx σ i) → ∀ (ls : Array Slot), lv_has ls 4 [(3, .int (rn_enc at_)), (0, .ref m0), (1, .int (nI i)), (2, .int (nI b))] → W p l e ({ frames := 0, cells := 0, slots := 0, locals := 0 } : Room) s m ([.ref m0, .int (nI i), .int (nI b)] : List Value).toArray below meth c s.heap [] 0 0 (MQ below (fun _ st o t => o = .returned (some (.int (rn_b (rn_insO σ b (rn_nx σ i))))) ∧ t.heap = st.heap) ([.ref m0, .int (nI i), .int (nI b)] : List Value).toArray s 0 0 (fun _ => False)) (F0 m 15 ls []) := by
      intro k
      induction k with
      | zero =>
        intro at_ hat hgo ls hl
        cases at_ with
        | none =>
          have hl : lv_has ls 4 [(3, .int (-1)), (0, .ref m0), (1, .int (nI i)), (2, .int (nI b))] := hl
          refine lv_iload_n hx hb dX5_isInside_15 rfl (lv_at hl 0 rfl) ?_
          refine lv_iconst (v := (-1)) hx hb dX5_isInside_16 (by decide) ?_
          refine lv_icmp_eq (tgt := 35) hx hb dX5_isInside_17 (by decide) (fun c_17 => ?_) (fun c_17 => ?_)
          · refine lv_iload_n hx hb dX5_isInside_35 rfl (lv_at hl 0 rfl) ?_
            refine lv_iload_n hx hb dX5_isInside_36 rfl (lv_at hl 3 rfl) ?_
            refine lv_icmp_ne (tgt := 44) hx hb dX5_isInside_37 (by decide) (fun c_37 => ?_) (fun c_37 => ?_)
            · refine lv_iconst (v := 0) hx hb dX5_isInside_44 (by decide) ?_
              exact rn_iret hx hb hr rfl hlocks (by rw [← hgo]; rfl) dX5_isInside_45
            · exact absurd c_37.symm (rn_nI_m1 (by omega))
          · exact absurd rfl c_17
        | some a9 =>
          exact absurd (hat a9 rfl).2 (Nat.not_lt_zero _)
      | succ k ih =>
        intro at_ hat hgo ls hl
        cases at_ with
        | none =>
          have hl : lv_has ls 4 [(3, .int (-1)), (0, .ref m0), (1, .int (nI i)), (2, .int (nI b))] := hl
          refine lv_iload_n hx hb dX5_isInside_15 rfl (lv_at hl 0 rfl) ?_
          refine lv_iconst (v := (-1)) hx hb dX5_isInside_16 (by decide) ?_
          refine lv_icmp_eq (tgt := 35) hx hb dX5_isInside_17 (by decide) (fun c_17 => ?_) (fun c_17 => ?_)
          · refine lv_iload_n hx hb dX5_isInside_35 rfl (lv_at hl 0 rfl) ?_
            refine lv_iload_n hx hb dX5_isInside_36 rfl (lv_at hl 3 rfl) ?_
            refine lv_icmp_ne (tgt := 44) hx hb dX5_isInside_37 (by decide) (fun c_37 => ?_) (fun c_37 => ?_)
            · refine lv_iconst (v := 0) hx hb dX5_isInside_44 (by decide) ?_
              exact rn_iret hx hb hr rfl hlocks (by rw [← hgo]; rfl) dX5_isInside_45
            · exact absurd c_37.symm (rn_nI_m1 (by omega))
          · exact absurd rfl c_17
        | some a9 =>
          obtain ⟨ha9, hk⟩ := hat a9 rfl
          have hl : lv_has ls 4 [(3, .int (nI a9)), (0, .ref m0), (1, .int (nI i)), (2, .int (nI b))] := hl
          refine lv_iload_n hx hb dX5_isInside_15 rfl (lv_at hl 0 rfl) ?_
          refine lv_iconst (v := (-1)) hx hb dX5_isInside_16 (by decide) ?_
          refine lv_icmp_eq (tgt := 35) hx hb dX5_isInside_17 (by decide) (fun c_17 => ?_) (fun c_17 => ?_)
          · exact absurd c_17 (rn_nI_m1 (by omega))
          · refine lv_iload_n hx hb dX5_isInside_20 rfl (lv_at hl 0 rfl) ?_
            refine lv_iload_n hx hb dX5_isInside_21 rfl (lv_at hl 3 rfl) ?_
            refine lv_icmp_eq (tgt := 35) hx hb dX5_isInside_22 (by decide) (fun c_22 => ?_) (fun c_22 => ?_)
            · have hab : a9 = b := (nI_eq (by omega) (by omega)).mp c_22
              refine lv_iload_n hx hb dX5_isInside_35 rfl (lv_at hl 0 rfl) ?_
              refine lv_iload_n hx hb dX5_isInside_36 rfl (lv_at hl 3 rfl) ?_
              refine lv_icmp_ne (tgt := 44) hx hb dX5_isInside_37 (by decide) (fun c_37 => ?_) (fun c_37 => ?_)
              · exact absurd (congrArg nI hab) c_37
              · refine lv_iconst (v := 1) hx hb dX5_isInside_40 (by decide) ?_
                refine lv_goto (tgt := 45) hx hb dX5_isInside_41 (by decide) ?_
                exact rn_iret hx hb hr rfl hlocks (by rw [← hgo, hab, rn_insO_self hV (by omega)]; rfl) dX5_isInside_45
            · have hab : a9 ≠ b := fun h => c_22 (by rw [h])
              refine lv_aload_n hx hb dX5_isInside_25 rfl (lv_at hl 1 rfl) ?_
              refine rn_get (ci := 5) (v := .ref (ma 0)) (C := RX5) (T := TX5) (N := 18) hx hb hts iw_X5_isInside_5 hown hG hF.1 rfl 2 (by decide) fw_X5_isInside_13 rfl dX5_isInside_26 ?_
              refine lv_iload_n hx hb dX5_isInside_29 rfl (lv_at hl 0 rfl) ?_
              refine rn_iald (j := a9) hx hb hG (show va_at D vwCl (ma 0, .inl (cI, 10, .inl (V 0))) _ from hF.2.1 0 (by decide)) 0 rfl (by omega) (by decide) dX5_isInside_30 ?_
              refine rn_top (y := .int (rn_enc (rn_nx σ a9))) (congrArg Value.int (hM.1 a9 ha9)) ?_
              refine lv_istore_n (lv' := [(3, .int (rn_enc (rn_nx σ a9))), (0, .ref m0), (1, .int (nI i)), (2, .int (nI b))]) hx hb dX5_isInside_31 rfl hl (by decide) rfl (fun ls hl => ?_)
              refine lv_goto (tgt := 15) hx hb dX5_isInside_32 (by decide) ?_
              exact ih _ (rn_nx_lt hV ha9 hk) ((rn_insO_s hV ha9 hab).trans hgo) ls (lv_sub hl [0, 1, 2, 3] rfl)
    exact loop σ.sn (rn_nx σ i) (fun z h => ⟨(rn_nx_lt hV hi0 (k := i) (Nat.lt_succ_self i) z h).1, (rn_nx_lt hV hi0 (k := i) (Nat.lt_succ_self i) z h).1⟩) rfl ls (lv_sub hl [0, 1, 2, 3] rfl)
  · have c_1 : i = 0 := (rn_nI0 (by omega)).mp c_1
    refine lv_iconst (v := (-1)) hx hb dX5_isInside_4 (by decide) ?_
    refine lv_goto (tgt := 14) hx hb dX5_isInside_5 (by decide) ?_
    refine rn_top (y := .int (rn_enc (rn_nx σ i))) (by rw [show i = 0 from c_1, rn_nx, if_pos rfl]; rfl) ?_
    refine lv_istore_n (lv' := [(3, .int (rn_enc (rn_nx σ i))), (0, .ref m0), (1, .int (nI i)), (2, .int (nI b))]) hx hb dX5_isInside_14 rfl hl (by decide) rfl (fun ls hl => ?_)
    have loop : ∀ (k : Nat) (at_ : Option Nat), (∀ z, at_ = some z → z < σ.sn ∧ z < k) → rn_insO σ b at_ = rn_insO σ b (rn_nx σ i) → ∀ (ls : Array Slot), lv_has ls 4 [(3, .int (rn_enc at_)), (0, .ref m0), (1, .int (nI i)), (2, .int (nI b))] → W p l e ({ frames := 0, cells := 0, slots := 0, locals := 0 } : Room) s m ([.ref m0, .int (nI i), .int (nI b)] : List Value).toArray below meth c s.heap [] 0 0 (MQ below (fun _ st o t => o = .returned (some (.int (rn_b (rn_insO σ b (rn_nx σ i))))) ∧ t.heap = st.heap) ([.ref m0, .int (nI i), .int (nI b)] : List Value).toArray s 0 0 (fun _ => False)) (F0 m 15 ls []) := by
      intro k
      induction k with
      | zero =>
        intro at_ hat hgo ls hl
        cases at_ with
        | none =>
          have hl : lv_has ls 4 [(3, .int (-1)), (0, .ref m0), (1, .int (nI i)), (2, .int (nI b))] := hl
          refine lv_iload_n hx hb dX5_isInside_15 rfl (lv_at hl 0 rfl) ?_
          refine lv_iconst (v := (-1)) hx hb dX5_isInside_16 (by decide) ?_
          refine lv_icmp_eq (tgt := 35) hx hb dX5_isInside_17 (by decide) (fun c_17 => ?_) (fun c_17 => ?_)
          · refine lv_iload_n hx hb dX5_isInside_35 rfl (lv_at hl 0 rfl) ?_
            refine lv_iload_n hx hb dX5_isInside_36 rfl (lv_at hl 3 rfl) ?_
            refine lv_icmp_ne (tgt := 44) hx hb dX5_isInside_37 (by decide) (fun c_37 => ?_) (fun c_37 => ?_)
            · refine lv_iconst (v := 0) hx hb dX5_isInside_44 (by decide) ?_
              exact rn_iret hx hb hr rfl hlocks (by rw [← hgo]; rfl) dX5_isInside_45
            · exact absurd c_37.symm (rn_nI_m1 (by omega))
          · exact absurd rfl c_17
        | some a9 =>
          exact absurd (hat a9 rfl).2 (Nat.not_lt_zero _)
      | succ k ih =>
        intro at_ hat hgo ls hl
        cases at_ with
        | none =>
          have hl : lv_has ls 4 [(3, .int (-1)), (0, .ref m0), (1, .int (nI i)), (2, .int (nI b))] := hl
          refine lv_iload_n hx hb dX5_isInside_15 rfl (lv_at hl 0 rfl) ?_
          refine lv_iconst (v := (-1)) hx hb dX5_isInside_16 (by decide) ?_
          refine lv_icmp_eq (tgt := 35) hx hb dX5_isInside_17 (by decide) (fun c_17 => ?_) (fun c_17 => ?_)
          · refine lv_iload_n hx hb dX5_isInside_35 rfl (lv_at hl 0 rfl) ?_
            refine lv_iload_n hx hb dX5_isInside_36 rfl (lv_at hl 3 rfl) ?_
            refine lv_icmp_ne (tgt := 44) hx hb dX5_isInside_37 (by decide) (fun c_37 => ?_) (fun c_37 => ?_)
            · refine lv_iconst (v := 0) hx hb dX5_isInside_44 (by decide) ?_
              exact rn_iret hx hb hr rfl hlocks (by rw [← hgo]; rfl) dX5_isInside_45
            · exact absurd c_37.symm (rn_nI_m1 (by omega))
          · exact absurd rfl c_17
        | some a9 =>
          obtain ⟨ha9, hk⟩ := hat a9 rfl
          have hl : lv_has ls 4 [(3, .int (nI a9)), (0, .ref m0), (1, .int (nI i)), (2, .int (nI b))] := hl
          refine lv_iload_n hx hb dX5_isInside_15 rfl (lv_at hl 0 rfl) ?_
          refine lv_iconst (v := (-1)) hx hb dX5_isInside_16 (by decide) ?_
          refine lv_icmp_eq (tgt := 35) hx hb dX5_isInside_17 (by decide) (fun c_17 => ?_) (fun c_17 => ?_)
          · exact absurd c_17 (rn_nI_m1 (by omega))
          · refine lv_iload_n hx hb dX5_isInside_20 rfl (lv_at hl 0 rfl) ?_
            refine lv_iload_n hx hb dX5_isInside_21 rfl (lv_at hl 3 rfl) ?_
            refine lv_icmp_eq (tgt := 35) hx hb dX5_isInside_22 (by decide) (fun c_22 => ?_) (fun c_22 => ?_)
            · have hab : a9 = b := (nI_eq (by omega) (by omega)).mp c_22
              refine lv_iload_n hx hb dX5_isInside_35 rfl (lv_at hl 0 rfl) ?_
              refine lv_iload_n hx hb dX5_isInside_36 rfl (lv_at hl 3 rfl) ?_
              refine lv_icmp_ne (tgt := 44) hx hb dX5_isInside_37 (by decide) (fun c_37 => ?_) (fun c_37 => ?_)
              · exact absurd (congrArg nI hab) c_37
              · refine lv_iconst (v := 1) hx hb dX5_isInside_40 (by decide) ?_
                refine lv_goto (tgt := 45) hx hb dX5_isInside_41 (by decide) ?_
                exact rn_iret hx hb hr rfl hlocks (by rw [← hgo, hab, rn_insO_self hV (by omega)]; rfl) dX5_isInside_45
            · have hab : a9 ≠ b := fun h => c_22 (by rw [h])
              refine lv_aload_n hx hb dX5_isInside_25 rfl (lv_at hl 1 rfl) ?_
              refine rn_get (ci := 5) (v := .ref (ma 0)) (C := RX5) (T := TX5) (N := 18) hx hb hts iw_X5_isInside_5 hown hG hF.1 rfl 2 (by decide) fw_X5_isInside_13 rfl dX5_isInside_26 ?_
              refine lv_iload_n hx hb dX5_isInside_29 rfl (lv_at hl 0 rfl) ?_
              refine rn_iald (j := a9) hx hb hG (show va_at D vwCl (ma 0, .inl (cI, 10, .inl (V 0))) _ from hF.2.1 0 (by decide)) 0 rfl (by omega) (by decide) dX5_isInside_30 ?_
              refine rn_top (y := .int (rn_enc (rn_nx σ a9))) (congrArg Value.int (hM.1 a9 ha9)) ?_
              refine lv_istore_n (lv' := [(3, .int (rn_enc (rn_nx σ a9))), (0, .ref m0), (1, .int (nI i)), (2, .int (nI b))]) hx hb dX5_isInside_31 rfl hl (by decide) rfl (fun ls hl => ?_)
              refine lv_goto (tgt := 15) hx hb dX5_isInside_32 (by decide) ?_
              exact ih _ (rn_nx_lt hV ha9 hk) ((rn_insO_s hV ha9 hab).trans hgo) ls (lv_sub hl [0, 1, 2, 3] rfl)
    exact loop σ.sn (rn_nx σ i) (fun z h => ⟨(rn_nx_lt hV hi0 (k := i) (Nat.lt_succ_self i) z h).1, (rn_nx_lt hV hi0 (k := i) (Nat.lt_succ_self i) z h).1⟩) rfl ls (lv_sub hl [0, 1, 2, 3] rfl)

set_option maxHeartbeats 4000000 in
set_option maxRecDepth 100000 in
theorem m_seen (l : Launch) {D : va_G} {cI : ClassId} {m0 : Nat} {ma : Nat → Nat} {rf : Int32} {V : Nat → Nat → Int32} {σ : rn_St} (hV : rn_V σ) (hM : rn_Mr σ V) {i y : Nat} (hi0 : i < σ.sn) (hy0 : y ≤ 998) : rn_R l yX5_seen wsX5_seen ({ frames := 3, cells := 0, slots := 0, locals := 71 } : Room) D [(cI, .int)] ((rn_MW D cI m0 ma rf (nI σ.sn) (nI σ.sd.length) (nI σ.pn) (nI σ.fn) σ.rc σ.la V)) [.ref m0, .int (nI i), .int (nI y)] (some (.int (nI (rn_see σ i y)))) := by
  refine rn_R.ofW (cc := cX5_seen) (maxL := 5) (ret := (some .int)) (by decide) rfl (Nat.le_of_ble_eq_true rfl) (fun p e s m below meth c ls hx hb hr hml hts hown hlocks hF hG hl => ?_)
  have hl : lv_has ls 5 [(0, .ref m0), (1, .int (nI i)), (2, .int (nI y))] := hl
  have hs10 := hV.1.2
  have hp12 := hV.2.2.2.2.2.1.2.1
  have hf20 := hV.2.2.2.2.2.2.1
  have hd3 := hV.2.2.2.2.1.2
  refine lv_sipush (v := 999) hx hb dX5_seen_0 (by decide +kernel) ?_
  refine rn_top (y := .int (nI 999)) (congrArg Value.int (rfl)) ?_
  refine lv_istore_n (lv' := [(3, .int (nI 999)), (0, .ref m0), (1, .int (nI i)), (2, .int (nI y))]) hx hb dX5_seen_3 rfl hl (by decide) rfl (fun ls hl => ?_)
  refine lv_iconst (v := 0) hx hb dX5_seen_4 (by decide) ?_
  refine rn_top (y := .int (nI 0)) (congrArg Value.int (rfl)) ?_
  refine lv_istore (lv' := [(4, .int (nI 0)), (3, .int (nI 999)), (0, .ref m0), (1, .int (nI i)), (2, .int (nI y))]) hx hb dX5_seen_5 hl (by decide) rfl (fun ls hl => ?_)
  have loop : ∀ (n k : Nat), k + n = 999 → ∀ (ls : Array Slot), lv_has ls 5 [(4, .int (nI k)), (3, .int (nI (if rn_see σ i y < k then rn_see σ i y else 999))), (0, .ref m0), (1, .int (nI i)), (2, .int (nI y))] → W p l e ({ frames := 3, cells := 0, slots := 0, locals := 71 } : Room) s m ([.ref m0, .int (nI i), .int (nI y)] : List Value).toArray below meth c s.heap [] 0 0 (MQ below (fun _ st o t => o = .returned (some (.int (nI (rn_see σ i y)))) ∧ t.heap = st.heap) ([.ref m0, .int (nI i), .int (nI y)] : List Value).toArray s 0 0 (fun _ => False)) (F0 m 7 ls []) := by
    intro n
    induction n with
    | zero =>
      intro k hkn ls hl
      refine lv_iload hx hb dX5_seen_7 (lv_at hl 0 rfl) ?_
      refine lv_sipush (v := 999) hx hb dX5_seen_9 (by decide +kernel) ?_
      refine rn_top (y := .int (nI 999)) (congrArg Value.int (rfl)) ?_
      refine lv_icmp_ge (tgt := 39) hx hb dX5_seen_12 (by decide) (fun c_12 => ?_) (fun c_12 => ?_)
      · refine lv_iload_n hx hb dX5_seen_39 rfl (lv_at hl 1 rfl) ?_
        exact rn_iret hx hb hr rfl hlocks (by rcases rn_see_spec σ i y with ⟨h1, h2⟩ | ⟨h1, h2⟩; rw [if_pos (by omega)]; rw [if_neg (by omega), h1]) dX5_seen_40
      · exact absurd ((nI_leI (b := k) (by omega) (by omega)).mpr (by omega)) c_12
    | succ n ih =>
      intro k hkn ls hl
      refine lv_iload hx hb dX5_seen_7 (lv_at hl 0 rfl) ?_
      refine lv_sipush (v := 999) hx hb dX5_seen_9 (by decide +kernel) ?_
      refine rn_top (y := .int (nI 999)) (congrArg Value.int (rfl)) ?_
      refine lv_icmp_ge (tgt := 39) hx hb dX5_seen_12 (by decide) (fun c_12 => ?_) (fun c_12 => ?_)
      · exact absurd ((nI_leI (by omega) (by omega)).mp c_12) (by omega)
      · refine lv_aload_n hx hb dX5_seen_15 rfl (lv_at hl 2 rfl) ?_
        refine lv_iload_n hx hb dX5_seen_16 rfl (lv_at hl 3 rfl) ?_
        refine lv_iload hx hb dX5_seen_17 (lv_at hl 0 rfl) ?_
        refine rn_cV (As := [.int (nI i), .int (nI k)]) (rest := []) 2 hx hb hml hown hts hG (m_led l hV hM hi0 (x := k) (by omega)) gX5_seen_X5_led rfl ⟨rfl, rfl⟩ (by decide +kernel) ⟨Nat.le_of_ble_eq_true rfl, Nat.le_of_ble_eq_true rfl⟩ hF hF.1 rfl rfl hl.1 rfl (Nat.le_of_ble_eq_true rfl) ⟨Nat.zero_le _, Nat.zero_le _⟩ dX5_seen_19 ?_
        refine W.eq (g2 := F0 m 22 ls [.int (rn_enc (rn_lead σ i k))]) rfl ?_
        refine lv_iload_n hx hb dX5_seen_22 rfl (lv_at hl 4 rfl) ?_
        refine lv_icmp_ne (tgt := 31) hx hb dX5_seen_23 (by decide) (fun c_23 => ?_) (fun c_23 => ?_)
        · have hne : rn_lead σ i k ≠ some y := fun h => c_23 ((rn_enc_eq (fun z h => rn_lead_in hV i i (Nat.le_refl _) hi0 _ z (by omega) h) hy0).mpr h)
          have e9 : (if rn_see σ i y < k + 1 then rn_see σ i y else 999) = (if rn_see σ i y < k then rn_see σ i y else 999) := by
            rcases rn_see_spec σ i y with ⟨h1, h2⟩ | ⟨h1, h2⟩
            · have : rn_see σ i y ≠ k := fun h => hne (by rw [← h]; exact h2)
              by_cases h3 : rn_see σ i y < k
              · rw [if_pos h3, if_pos (by omega)]
              · rw [if_neg h3, if_neg (by omega)]
            · rw [if_neg (by omega), if_neg (by omega)]
          refine lv_iload_n hx hb dX5_seen_31 rfl (lv_at hl 1 rfl) ?_
          refine lv_istore_n (lv' := [(3, .int (nI (if rn_see σ i y < k then rn_see σ i y else 999))), (4, .int (nI k)), (0, .ref m0), (1, .int (nI i)), (2, .int (nI y))]) hx hb dX5_seen_32 rfl hl (by decide) rfl (fun ls hl => ?_)
          refine lv_iinc (v := (nI (k + 1))) (lv' := [(4, .int (nI (k + 1))), (3, .int (nI (if rn_see σ i y < k then rn_see σ i y else 999))), (0, .ref m0), (1, .int (nI i)), (2, .int (nI y))]) hx hb dX5_seen_33 hl (k := 1) rfl (nI_1 k) (by decide) rfl (fun ls hl => ?_)
          refine lv_goto (tgt := 7) hx hb dX5_seen_36 (by decide) ?_
          exact ih (k + 1) (by omega) ls (by rw [e9]; exact lv_sub hl [0, 1, 2, 3, 4] rfl)
        · have heq := rn_see_uniq hV hi0 (by omega) ((rn_enc_eq (fun z h => rn_lead_in hV i i (Nat.le_refl _) hi0 _ z (by omega) h) hy0).mp c_23)
          have e9 : (if rn_see σ i y < k + 1 then rn_see σ i y else 999) = k := by rw [if_pos (by omega), heq]
          refine lv_iload hx hb dX5_seen_26 (lv_at hl 0 rfl) ?_
          refine lv_goto (tgt := 32) hx hb dX5_seen_28 (by decide) ?_
          refine lv_istore_n (lv' := [(3, .int (nI k)), (4, .int (nI k)), (0, .ref m0), (1, .int (nI i)), (2, .int (nI y))]) hx hb dX5_seen_32 rfl hl (by decide) rfl (fun ls hl => ?_)
          refine lv_iinc (v := (nI (k + 1))) (lv' := [(4, .int (nI (k + 1))), (3, .int (nI k)), (0, .ref m0), (1, .int (nI i)), (2, .int (nI y))]) hx hb dX5_seen_33 hl (k := 1) rfl (nI_1 k) (by decide) rfl (fun ls hl => ?_)
          refine lv_goto (tgt := 7) hx hb dX5_seen_36 (by decide) ?_
          exact ih (k + 1) (by omega) ls (by rw [e9]; exact lv_sub hl [0, 1, 2, 3, 4] rfl)
  exact loop 999 0 rfl ls (by rw [if_neg (Nat.not_lt_zero _)]; exact lv_sub hl [0, 1, 2, 3, 4] rfl)

set_option maxHeartbeats 4000000 in
set_option maxRecDepth 100000 in
theorem m_held (l : Launch) {D : va_G} {cI : ClassId} {m0 : Nat} {ma : Nat → Nat} {rf : Int32} {V : Nat → Nat → Int32} {σ : rn_St} (hV : rn_V σ) (hM : rn_Mr σ V) {j i : Nat} (hj0 : j < σ.pn) (hi0 : i < σ.sn) : rn_R l yX5_held wsX5_held ({ frames := 1, cells := 0, slots := 0, locals := 23 } : Room) D [(cI, .int)] ((rn_MW D cI m0 ma rf (nI σ.sn) (nI σ.sd.length) (nI σ.pn) (nI σ.fn) σ.rc σ.la V)) [.ref m0, .int (nI j), .int (nI i)] (some (.int (rn_held σ j i))) := by
  refine rn_R.ofW (cc := cX5_held) (maxL := 5) (ret := (some .int)) (by decide) rfl (Nat.le_of_ble_eq_true rfl) (fun p e s m below meth c ls hx hb hr hml hts hown hlocks hF hG hl => ?_)
  have hl : lv_has ls 5 [(0, .ref m0), (1, .int (nI j)), (2, .int (nI i))] := hl
  have hs10 := hV.1.2
  have hp12 := hV.2.2.2.2.2.1.2.1
  have hf20 := hV.2.2.2.2.2.2.1
  have hd3 := hV.2.2.2.2.1.2
  have hpl := (hV.2.2.2.2.2.1.2.2 j hj0).1
  refine lv_iconst (v := 1) hx hb dX5_held_0 (by decide) ?_
  refine lv_istore_n (lv' := [(3, .int 1), (0, .ref m0), (1, .int (nI j)), (2, .int (nI i))]) hx hb dX5_held_1 rfl hl (by decide) rfl (fun ls hl => ?_)
  have loop : ∀ (n k : Nat), k + n = σ.sn → 0 < k → (∀ a, 0 < a → a < k → a ∈ rn_up σ i → ¬ (σ.so a = σ.pl j ∧ σ.sw a = nI (σ.pu j))) → ∀ (ls : Array Slot), lv_has ls 5 [(3, .int (nI k)), (0, .ref m0), (1, .int (nI j)), (2, .int (nI i))] → W p l e ({ frames := 1, cells := 0, slots := 0, locals := 23 } : Room) s m ([.ref m0, .int (nI j), .int (nI i)] : List Value).toArray below meth c s.heap [] 0 0 (MQ below (fun _ st o t => o = .returned (some (.int (rn_held σ j i))) ∧ t.heap = st.heap) ([.ref m0, .int (nI j), .int (nI i)] : List Value).toArray s 0 0 (fun _ => False)) (F0 m 2 ls []) := by
    intro n
    induction n with
    | zero =>
      intro k hkn hk0 hno ls hl
      have hown9 : rn_owns σ j i = false := by
        unfold rn_owns; rw [List.any_eq_false]; intro a ha
        have := rn_up_le hV _ _ (Nat.le_refl _) hi0 a ha
        simp only [decide_eq_true_eq]; intro h; exact hno a (by omega) (by omega) ha h.2
      refine lv_iload_n hx hb dX5_held_2 rfl (lv_at hl 0 rfl) ?_
      refine lv_aload_n hx hb dX5_held_3 rfl (lv_at hl 1 rfl) ?_
      refine rn_get (ci := 5) (v := .int (nI σ.sn)) (C := RX5) (T := TX5) (N := 18) hx hb hts iw_X5_held_5 hown hG hF.1 rfl 1 (by decide) fw_X5_held_7 rfl dX5_held_4 ?_
      refine lv_icmp_ge (tgt := 75) hx hb dX5_held_7 (by decide) (fun c_7 => ?_) (fun c_7 => ?_)
      · refine lv_iload_n hx hb dX5_held_75 rfl (lv_at hl 3 rfl) ?_
        refine lv_aload_n hx hb dX5_held_76 rfl (lv_at hl 1 rfl) ?_
        refine rn_get (ci := 5) (v := .ref (ma 6)) (C := RX5) (T := TX5) (N := 18) hx hb hts iw_X5_held_5 hown hG hF.1 rfl 10 (by decide) fw_X5_held_35 rfl dX5_held_77 ?_
        refine lv_iload_n hx hb dX5_held_80 rfl (lv_at hl 2 rfl) ?_
        refine rn_iald (j := j) hx hb hG (show va_at D vwCl (ma 6, .inl (cI, 12, .inl (V 6))) _ from hF.2.1 6 (by decide)) 0 rfl (by omega) (by decide) dX5_held_81 ?_
        refine rn_top (y := .int (nI (σ.pl j))) (congrArg Value.int (hM.2.2.2.2.2.1 j hj0).1) ?_
        refine lv_icmp_eq (tgt := 99) hx hb dX5_held_82 (by decide) (fun c_82 => ?_) (fun c_82 => ?_)
        · have hmem : σ.pl j ∈ rn_up σ i := (rn_up_iff hV hi0).mpr (Or.inl ((nI_eq (by omega) (by omega)).mp c_82).symm)
          refine lv_aload_n hx hb dX5_held_99 rfl (lv_at hl 1 rfl) ?_
          refine rn_get (ci := 5) (v := .ref (ma 8)) (C := RX5) (T := TX5) (N := 18) hx hb hts iw_X5_held_5 hown hG hF.1 rfl 12 (by decide) fw_X5_held_41 rfl dX5_held_100 ?_
          refine lv_iload_n hx hb dX5_held_103 rfl (lv_at hl 2 rfl) ?_
          refine rn_iald (j := j) hx hb hG (show va_at D vwCl (ma 8, .inl (cI, 12, .inl (V 8))) _ from hF.2.1 8 (by decide)) 0 rfl (by omega) (by decide) dX5_held_104 ?_
          refine rn_top (y := .int (σ.pr j)) (congrArg Value.int (hM.2.2.2.2.2.1 j hj0).2.2) ?_
          refine lv_goto (tgt := 109) hx hb dX5_held_105 (by decide) ?_
          exact rn_iret hx hb hr rfl hlocks (by rw [rn_held, if_neg (by rw [hown9]; decide), if_pos hmem]) dX5_held_109
        · refine lv_aload_n hx hb dX5_held_85 rfl (lv_at hl 1 rfl) ?_
          refine lv_iload_n hx hb dX5_held_86 rfl (lv_at hl 3 rfl) ?_
          refine lv_aload_n hx hb dX5_held_87 rfl (lv_at hl 1 rfl) ?_
          refine rn_get (ci := 5) (v := .ref (ma 6)) (C := RX5) (T := TX5) (N := 18) hx hb hts iw_X5_held_5 hown hG hF.1 rfl 10 (by decide) fw_X5_held_35 rfl dX5_held_88 ?_
          refine lv_iload_n hx hb dX5_held_91 rfl (lv_at hl 2 rfl) ?_
          refine rn_iald (j := j) hx hb hG (show va_at D vwCl (ma 6, .inl (cI, 12, .inl (V 6))) _ from hF.2.1 6 (by decide)) 0 rfl (by omega) (by decide) dX5_held_92 ?_
          refine rn_top (y := .int (nI (σ.pl j))) (congrArg Value.int (hM.2.2.2.2.2.1 j hj0).1) ?_
          refine rn_cV (As := [.int (nI i), .int (nI (σ.pl j))]) (rest := []) 2 hx hb hml hown hts hG (m_isInside l hV hM hi0 (b := σ.pl j) hpl) gX5_held_X5_isInside rfl ⟨rfl, rfl⟩ (by decide +kernel) ⟨Nat.le_of_ble_eq_true rfl, Nat.le_of_ble_eq_true rfl⟩ hF hF.1 rfl rfl hl.1 rfl (Nat.le_of_ble_eq_true rfl) ⟨Nat.zero_le _, Nat.zero_le _⟩ dX5_held_93 ?_
          refine W.eq (g2 := F0 m 96 ls [.int (rn_b (rn_insO σ (σ.pl j) (rn_nx σ i)))]) rfl ?_
          refine lv_if_eq (tgt := 108) hx hb dX5_held_96 (by decide) (fun c_96 => ?_) (fun c_96 => ?_)
          · rw [rn_b0] at c_96
            have hmem : σ.pl j ∉ rn_up σ i := fun h => ((rn_up_iff hV hi0).mp h).elim (fun h => c_82 (by rw [h])) (fun h => by rw [c_96] at h; cases h)
            refine lv_iconst (v := 0) hx hb dX5_held_108 (by decide) ?_
            exact rn_iret hx hb hr rfl hlocks (by rw [rn_held, if_neg (by rw [hown9]; decide), if_neg hmem]) dX5_held_109
          · rw [rn_b1] at c_96
            have hmem : σ.pl j ∈ rn_up σ i := (rn_up_iff hV hi0).mpr (Or.inr c_96)
            refine lv_aload_n hx hb dX5_held_99 rfl (lv_at hl 1 rfl) ?_
            refine rn_get (ci := 5) (v := .ref (ma 8)) (C := RX5) (T := TX5) (N := 18) hx hb hts iw_X5_held_5 hown hG hF.1 rfl 12 (by decide) fw_X5_held_41 rfl dX5_held_100 ?_
            refine lv_iload_n hx hb dX5_held_103 rfl (lv_at hl 2 rfl) ?_
            refine rn_iald (j := j) hx hb hG (show va_at D vwCl (ma 8, .inl (cI, 12, .inl (V 8))) _ from hF.2.1 8 (by decide)) 0 rfl (by omega) (by decide) dX5_held_104 ?_
            refine rn_top (y := .int (σ.pr j)) (congrArg Value.int (hM.2.2.2.2.2.1 j hj0).2.2) ?_
            refine lv_goto (tgt := 109) hx hb dX5_held_105 (by decide) ?_
            exact rn_iret hx hb hr rfl hlocks (by rw [rn_held, if_neg (by rw [hown9]; decide), if_pos hmem]) dX5_held_109
      · exact absurd ((nI_leI (by omega) (by omega)).mpr (by omega)) c_7
    | succ n ih =>
      intro k hkn hk0 hno ls hl
      refine lv_iload_n hx hb dX5_held_2 rfl (lv_at hl 0 rfl) ?_
      refine lv_aload_n hx hb dX5_held_3 rfl (lv_at hl 1 rfl) ?_
      refine rn_get (ci := 5) (v := .int (nI σ.sn)) (C := RX5) (T := TX5) (N := 18) hx hb hts iw_X5_held_5 hown hG hF.1 rfl 1 (by decide) fw_X5_held_7 rfl dX5_held_4 ?_
      refine lv_icmp_ge (tgt := 75) hx hb dX5_held_7 (by decide) (fun c_7 => ?_) (fun c_7 => ?_)
      · exact absurd ((nI_leI (by omega) (by omega)).mp c_7) (by omega)
      · refine lv_aload_n hx hb dX5_held_10 rfl (lv_at hl 1 rfl) ?_
        refine rn_get (ci := 5) (v := .ref (ma 1)) (C := RX5) (T := TX5) (N := 18) hx hb hts iw_X5_held_5 hown hG hF.1 rfl 3 (by decide) fw_X5_held_17 rfl dX5_held_11 ?_
        refine lv_iload_n hx hb dX5_held_14 rfl (lv_at hl 0 rfl) ?_
        refine rn_iald (j := k) hx hb hG (show va_at D vwCl (ma 1, .inl (cI, 10, .inl (V 1))) _ from hF.2.1 1 (by decide)) 0 rfl (by omega) (by decide) dX5_held_15 ?_
        refine rn_top (y := .int (σ.sw k)) (congrArg Value.int (hM.2.1 k hk0 (by omega))) ?_
        refine lv_aload_n hx hb dX5_held_16 rfl (lv_at hl 1 rfl) ?_
        refine rn_get (ci := 5) (v := .ref (ma 7)) (C := RX5) (T := TX5) (N := 18) hx hb hts iw_X5_held_5 hown hG hF.1 rfl 11 (by decide) fw_X5_held_38 rfl dX5_held_17 ?_
        refine lv_iload_n hx hb dX5_held_20 rfl (lv_at hl 2 rfl) ?_
        refine rn_iald (j := j) hx hb hG (show va_at D vwCl (ma 7, .inl (cI, 12, .inl (V 7))) _ from hF.2.1 7 (by decide)) 0 rfl (by omega) (by decide) dX5_held_21 ?_
        refine rn_top (y := .int (nI (σ.pu j))) (congrArg Value.int (hM.2.2.2.2.2.1 j hj0).2.1) ?_
        refine lv_icmp_ne (tgt := 44) hx hb dX5_held_22 (by decide) (fun c_22 => ?_) (fun c_22 => ?_)
        · have hnk : k ∈ rn_up σ i → ¬ (σ.so k = σ.pl j ∧ σ.sw k = nI (σ.pu j)) := fun _ h => c_22 h.2
          refine lv_iconst (v := 0) hx hb dX5_held_44 (by decide) ?_
          refine lv_istore (lv' := [(4, .int 0), (3, .int (nI k)), (0, .ref m0), (1, .int (nI j)), (2, .int (nI i))]) hx hb dX5_held_45 hl (by decide) rfl (fun ls hl => ?_)
          refine lv_iload hx hb dX5_held_47 (lv_at hl 0 rfl) ?_
          refine lv_if_eq (tgt := 69) hx hb dX5_held_49 (by decide) (fun c_49 => ?_) (fun c_49 => ?_)
          · refine lv_iinc (v := (nI (k + 1))) (lv' := [(3, .int (nI (k + 1))), (4, .int 0), (0, .ref m0), (1, .int (nI j)), (2, .int (nI i))]) hx hb dX5_held_69 hl (k := 1) rfl (nI_1 k) (by decide) rfl (fun ls hl => ?_)
            refine lv_goto (tgt := 2) hx hb dX5_held_72 (by decide) ?_
            exact ih (k + 1) (by omega) (by omega) (fun a h1 h2 h3 => by rcases Nat.lt_or_ge a k with h | h; exact hno a h1 h h3; rw [show a = k by omega] at h3 ⊢; exact hnk h3) ls (lv_sub hl [0, 2, 3, 4] rfl)
          · exact absurd rfl c_49
        · refine lv_aload_n hx hb dX5_held_25 rfl (lv_at hl 1 rfl) ?_
          refine rn_get (ci := 5) (v := .ref (ma 0)) (C := RX5) (T := TX5) (N := 18) hx hb hts iw_X5_held_5 hown hG hF.1 rfl 2 (by decide) fw_X5_held_13 rfl dX5_held_26 ?_
          refine lv_iload_n hx hb dX5_held_29 rfl (lv_at hl 0 rfl) ?_
          refine rn_iald (j := k) hx hb hG (show va_at D vwCl (ma 0, .inl (cI, 10, .inl (V 0))) _ from hF.2.1 0 (by decide)) 0 rfl (by omega) (by decide) dX5_held_30 ?_
          refine rn_top (y := .int (nI (σ.so k))) (congrArg Value.int (rn_V0 hM (by omega) (by omega))) ?_
          refine lv_aload_n hx hb dX5_held_31 rfl (lv_at hl 1 rfl) ?_
          refine rn_get (ci := 5) (v := .ref (ma 6)) (C := RX5) (T := TX5) (N := 18) hx hb hts iw_X5_held_5 hown hG hF.1 rfl 10 (by decide) fw_X5_held_35 rfl dX5_held_32 ?_
          refine lv_iload_n hx hb dX5_held_35 rfl (lv_at hl 2 rfl) ?_
          refine rn_iald (j := j) hx hb hG (show va_at D vwCl (ma 6, .inl (cI, 12, .inl (V 6))) _ from hF.2.1 6 (by decide)) 0 rfl (by omega) (by decide) dX5_held_36 ?_
          refine rn_top (y := .int (nI (σ.pl j))) (congrArg Value.int (hM.2.2.2.2.2.1 j hj0).1) ?_
          refine lv_icmp_ne (tgt := 44) hx hb dX5_held_37 (by decide) (fun c_37 => ?_) (fun c_37 => ?_)
          · have hnk : k ∈ rn_up σ i → ¬ (σ.so k = σ.pl j ∧ σ.sw k = nI (σ.pu j)) := fun _ h => c_37 (by rw [h.1])
            refine lv_iconst (v := 0) hx hb dX5_held_44 (by decide) ?_
            refine lv_istore (lv' := [(4, .int 0), (3, .int (nI k)), (0, .ref m0), (1, .int (nI j)), (2, .int (nI i))]) hx hb dX5_held_45 hl (by decide) rfl (fun ls hl => ?_)
            refine lv_iload hx hb dX5_held_47 (lv_at hl 0 rfl) ?_
            refine lv_if_eq (tgt := 69) hx hb dX5_held_49 (by decide) (fun c_49 => ?_) (fun c_49 => ?_)
            · refine lv_iinc (v := (nI (k + 1))) (lv' := [(3, .int (nI (k + 1))), (4, .int 0), (0, .ref m0), (1, .int (nI j)), (2, .int (nI i))]) hx hb dX5_held_69 hl (k := 1) rfl (nI_1 k) (by decide) rfl (fun ls hl => ?_)
              refine lv_goto (tgt := 2) hx hb dX5_held_72 (by decide) ?_
              exact ih (k + 1) (by omega) (by omega) (fun a h1 h2 h3 => by rcases Nat.lt_or_ge a k with h | h; exact hno a h1 h h3; rw [show a = k by omega] at h3 ⊢; exact hnk h3) ls (lv_sub hl [0, 2, 3, 4] rfl)
            · exact absurd rfl c_49
          · have c_37 : σ.so k = σ.pl j := (nI_eq (by have := hV.2.1 k hk0 (by omega); omega) (by omega)).mp c_37
            refine lv_iconst (v := 1) hx hb dX5_held_40 (by decide) ?_
            refine lv_goto (tgt := 45) hx hb dX5_held_41 (by decide) ?_
            refine lv_istore (lv' := [(4, .int 1), (3, .int (nI k)), (0, .ref m0), (1, .int (nI j)), (2, .int (nI i))]) hx hb dX5_held_45 hl (by decide) rfl (fun ls hl => ?_)
            refine lv_iload hx hb dX5_held_47 (lv_at hl 0 rfl) ?_
            refine lv_if_eq (tgt := 69) hx hb dX5_held_49 (by decide) (fun c_49 => ?_) (fun c_49 => ?_)
            · exact absurd c_49 (by decide)
            · refine lv_iload_n hx hb dX5_held_52 rfl (lv_at hl 1 rfl) ?_
              refine lv_iload_n hx hb dX5_held_53 rfl (lv_at hl 4 rfl) ?_
              refine lv_icmp_eq (tgt := 66) hx hb dX5_held_54 (by decide) (fun c_54 => ?_) (fun c_54 => ?_)
              · have hown9 : rn_owns σ j i = true := by
                  unfold rn_owns; rw [List.any_eq_true]
                  exact ⟨k, (rn_up_iff hV hi0).mpr (Or.inl ((nI_eq (by omega) (by omega)).mp c_54)), by simp only [decide_eq_true_eq]; exact ⟨by omega, c_37, c_22⟩⟩
                refine lv_bipush (v := 15) hx hb dX5_held_66 (by decide +kernel) ?_
                exact rn_iret hx hb hr rfl hlocks (by rw [rn_held, if_pos hown9]) dX5_held_68
              · refine lv_aload_n hx hb dX5_held_57 rfl (lv_at hl 2 rfl) ?_
                refine lv_iload_n hx hb dX5_held_58 rfl (lv_at hl 4 rfl) ?_
                refine lv_iload_n hx hb dX5_held_59 rfl (lv_at hl 1 rfl) ?_
                refine rn_cV (As := [.int (nI i), .int (nI k)]) (rest := []) 2 hx hb hml hown hts hG (m_isInside l hV hM hi0 (b := k) (by omega)) gX5_held_X5_isInside rfl ⟨rfl, rfl⟩ (by decide +kernel) ⟨Nat.le_of_ble_eq_true rfl, Nat.le_of_ble_eq_true rfl⟩ hF hF.1 rfl rfl hl.1 rfl (Nat.le_of_ble_eq_true rfl) ⟨Nat.zero_le _, Nat.zero_le _⟩ dX5_held_60 ?_
                refine W.eq (g2 := F0 m 63 ls [.int (rn_b (rn_insO σ k (rn_nx σ i)))]) rfl ?_
                refine lv_if_eq (tgt := 69) hx hb dX5_held_63 (by decide) (fun c_63 => ?_) (fun c_63 => ?_)
                · rw [rn_b0] at c_63
                  have hnk : k ∈ rn_up σ i → ¬ (σ.so k = σ.pl j ∧ σ.sw k = nI (σ.pu j)) := fun h _ => ((rn_up_iff hV hi0).mp h).elim (fun h => c_54 (by rw [h])) (fun h => by rw [c_63] at h; cases h)
                  refine lv_iinc (v := (nI (k + 1))) (lv' := [(3, .int (nI (k + 1))), (4, .int 1), (0, .ref m0), (1, .int (nI j)), (2, .int (nI i))]) hx hb dX5_held_69 hl (k := 1) rfl (nI_1 k) (by decide) rfl (fun ls hl => ?_)
                  refine lv_goto (tgt := 2) hx hb dX5_held_72 (by decide) ?_
                  exact ih (k + 1) (by omega) (by omega) (fun a h1 h2 h3 => by rcases Nat.lt_or_ge a k with h | h; exact hno a h1 h h3; rw [show a = k by omega] at h3 ⊢; exact hnk h3) ls (lv_sub hl [0, 2, 3, 4] rfl)
                · rw [rn_b1] at c_63
                  have hown9 : rn_owns σ j i = true := by
                    unfold rn_owns; rw [List.any_eq_true]
                    exact ⟨k, (rn_up_iff hV hi0).mpr (Or.inr c_63), by simp only [decide_eq_true_eq]; exact ⟨by omega, c_37, c_22⟩⟩
                  refine lv_bipush (v := 15) hx hb dX5_held_66 (by decide +kernel) ?_
                  exact rn_iret hx hb hr rfl hlocks (by rw [rn_held, if_pos hown9]) dX5_held_68
  exact loop (σ.sn - 1) 1 (by have := hV.1.1; omega) (by omega) (fun a h1 h2 => by omega) ls (lv_sub hl [0, 1, 2, 3] rfl)

set_option maxHeartbeats 4000000 in
set_option maxRecDepth 100000 in
theorem m_mayWrite (l : Launch) {D : va_G} {cI : ClassId} {m0 : Nat} {ma : Nat → Nat} {rf : Int32} {V : Nat → Nat → Int32} {σ : rn_St} (hV : rn_V σ) (hM : rn_Mr σ V) {j i : Nat} (hj0 : j < σ.pn) (hi0 : i < σ.sn) (hi9 : i ≠ 0) : rn_R l yX5_mayWrite wsX5_mayWrite ({ frames := 3, cells := 0, slots := 0, locals := 71 } : Room) D [(cI, .int)] ((rn_MW D cI m0 ma rf (nI σ.sn) (nI σ.sd.length) (nI σ.pn) (nI σ.fn) σ.rc σ.la V)) [.ref m0, .int (nI j), .int (nI i)] (some (.int (rn_b (rn_own1 σ j i || decide (rn_held σ j (σ.so i) &&& 8 ≠ 0))))) := by
  refine rn_R.ofW (cc := cX5_mayWrite) (maxL := 5) (ret := (some .boolean)) (by decide) rfl (Nat.le_of_ble_eq_true rfl) (fun p e s m below meth c ls hx hb hr hml hts hown hlocks hF hG hl => ?_)
  have hl : lv_has ls 5 [(0, .ref m0), (1, .int (nI j)), (2, .int (nI i))] := hl
  have hs10 := hV.1.2
  have hp12 := hV.2.2.2.2.2.1.2.1
  have hf20 := hV.2.2.2.2.2.2.1
  have hd3 := hV.2.2.2.2.1.2
  have hpu := (hV.2.2.2.2.2.1.2.2 j hj0).2
  have hso : σ.so i < σ.sn := by have := hV.2.1 i (by omega) hi0; omega
  refine lv_bipush (v := 30) hx hb dX5_mayWrite_0 (by decide +kernel) ?_
  refine rn_top (y := .int (nI 30)) (congrArg Value.int (rfl)) ?_
  refine lv_istore_n (lv' := [(3, .int (nI 30)), (0, .ref m0), (1, .int (nI j)), (2, .int (nI i))]) hx hb dX5_mayWrite_2 rfl hl (by decide) rfl (fun ls hl => ?_)
  refine lv_aload_n hx hb dX5_mayWrite_3 rfl (lv_at hl 1 rfl) ?_
  refine rn_get (ci := 5) (v := .int (nI σ.sd.length)) (C := RX5) (T := TX5) (N := 18) hx hb hts iw_X5_mayWrite_5 hown hG hF.1 rfl 8 (by decide) fw_X5_mayWrite_76 rfl dX5_mayWrite_4 ?_
  refine lv_iconst (v := 1) hx hb dX5_mayWrite_7 (by decide) ?_
  refine lv_icmp_ne (tgt := 65) hx hb dX5_mayWrite_8 (by decide) (fun c_8 => ?_) (fun c_8 => ?_)
  · have hown9 : rn_own1 σ j i = false := by
      unfold rn_own1
      split
      · next q hsd => exact absurd (by rw [hsd]; rfl) c_8
      · rfl
    refine lv_iconst (v := 0) hx hb dX5_mayWrite_65 (by decide) ?_
    refine lv_istore (lv' := [(4, .int 0), (3, .int (nI 30)), (0, .ref m0), (1, .int (nI j)), (2, .int (nI i))]) hx hb dX5_mayWrite_66 hl (by decide) rfl (fun ls hl => ?_)
    refine lv_iload hx hb dX5_mayWrite_68 (lv_at hl 0 rfl) ?_
    refine lv_if_ne (tgt := 90) hx hb dX5_mayWrite_70 (by decide) (fun c_70 => ?_) (fun c_70 => ?_)
    · exact absurd rfl c_70
    · refine lv_aload_n hx hb dX5_mayWrite_73 rfl (lv_at hl 2 rfl) ?_
      refine lv_iload_n hx hb dX5_mayWrite_74 rfl (lv_at hl 3 rfl) ?_
      refine lv_aload_n hx hb dX5_mayWrite_75 rfl (lv_at hl 2 rfl) ?_
      refine rn_get (ci := 5) (v := .ref (ma 0)) (C := RX5) (T := TX5) (N := 18) hx hb hts iw_X5_mayWrite_5 hown hG hF.1 rfl 2 (by decide) fw_X5_mayWrite_13 rfl dX5_mayWrite_76 ?_
      refine lv_iload_n hx hb dX5_mayWrite_79 rfl (lv_at hl 4 rfl) ?_
      refine rn_iald (j := i) hx hb hG (show va_at D vwCl (ma 0, .inl (cI, 10, .inl (V 0))) _ from hF.2.1 0 (by decide)) 0 rfl (by omega) (by decide) dX5_mayWrite_80 ?_
      refine rn_top (y := .int (nI (σ.so i))) (congrArg Value.int (rn_V0 hM hi0 hi9)) ?_
      refine rn_cV (As := [.int (nI j), .int (nI (σ.so i))]) (rest := []) 2 hx hb hml hown hts hG (m_held l hV hM hj0 hso) gX5_mayWrite_X5_held rfl ⟨rfl, rfl⟩ (by decide +kernel) ⟨Nat.le_of_ble_eq_true rfl, Nat.le_of_ble_eq_true rfl⟩ hF hF.1 rfl rfl hl.1 rfl (Nat.le_of_ble_eq_true rfl) ⟨Nat.zero_le _, Nat.zero_le _⟩ dX5_mayWrite_81 ?_
      refine W.eq (g2 := F0 m 84 ls [.int (rn_held σ j (σ.so i))]) rfl ?_
      refine lv_bipush (v := 8) hx hb dX5_mayWrite_84 (by decide +kernel) ?_
      refine lv_iand hx hb dX5_mayWrite_86 ?_
      refine lv_if_eq (tgt := 94) hx hb dX5_mayWrite_87 (by decide) (fun c_87 => ?_) (fun c_87 => ?_)
      · refine lv_iconst (v := 0) hx hb dX5_mayWrite_94 (by decide) ?_
        exact rn_iret hx hb hr rfl hlocks (by rw [hown9, decide_eq_false (fun h => h c_87)]; rfl) dX5_mayWrite_95
      · refine lv_iconst (v := 1) hx hb dX5_mayWrite_90 (by decide) ?_
        refine lv_goto (tgt := 95) hx hb dX5_mayWrite_91 (by decide) ?_
        exact rn_iret hx hb hr rfl hlocks (by rw [hown9, decide_eq_true c_87]; rfl) dX5_mayWrite_95
  · obtain ⟨q, hsd⟩ : ∃ q, σ.sd = [q] := List.length_eq_one_iff.mp ((nI_eq (b := 1) (by omega) (by omega)).mp c_8)
    obtain ⟨v1, v2, v3⟩ := hM.2.2.2.2.1 0 (by rw [hsd]; exact Nat.zero_lt_one)
    rw [hsd] at v1 v2 v3
    obtain ⟨k1, k2, k3⟩ : rn_okL q := hV.2.2.2.2.1.1 q (by rw [hsd]; exact List.mem_cons_self)
    refine lv_aload_n hx hb dX5_mayWrite_11 rfl (lv_at hl 1 rfl) ?_
    refine rn_get (ci := 5) (v := .ref (ma 5)) (C := RX5) (T := TX5) (N := 18) hx hb hts iw_X5_mayWrite_5 hown hG hF.1 rfl 7 (by decide) fw_X5_mayWrite_29 rfl dX5_mayWrite_12 ?_
    refine lv_iload_n hx hb dX5_mayWrite_15 rfl (lv_at hl 0 rfl) ?_
    refine rn_iald (j := 30) hx hb hG (show va_at D vwCl (ma 5, .inl (cI, 33, .inl (V 5))) _ from hF.2.1 5 (by decide)) 0 rfl (by omega) (by decide) dX5_mayWrite_16 ?_
    refine rn_top (y := .int (nI q.2.2)) (congrArg Value.int v3) ?_
    refine lv_iconst (v := 1) hx hb dX5_mayWrite_17 (by decide) ?_
    refine lv_icmp_ne (tgt := 65) hx hb dX5_mayWrite_18 (by decide) (fun c_18 => ?_) (fun c_18 => ?_)
    · have hown9 : rn_own1 σ j i = false := by
        simp only [rn_own1, hsd]
        exact decide_eq_false (fun h => c_18 (by rw [h.1]; rfl))
      refine lv_iconst (v := 0) hx hb dX5_mayWrite_65 (by decide) ?_
      refine lv_istore (lv' := [(4, .int 0), (3, .int (nI 30)), (0, .ref m0), (1, .int (nI j)), (2, .int (nI i))]) hx hb dX5_mayWrite_66 hl (by decide) rfl (fun ls hl => ?_)
      refine lv_iload hx hb dX5_mayWrite_68 (lv_at hl 0 rfl) ?_
      refine lv_if_ne (tgt := 90) hx hb dX5_mayWrite_70 (by decide) (fun c_70 => ?_) (fun c_70 => ?_)
      · exact absurd rfl c_70
      · refine lv_aload_n hx hb dX5_mayWrite_73 rfl (lv_at hl 2 rfl) ?_
        refine lv_iload_n hx hb dX5_mayWrite_74 rfl (lv_at hl 3 rfl) ?_
        refine lv_aload_n hx hb dX5_mayWrite_75 rfl (lv_at hl 2 rfl) ?_
        refine rn_get (ci := 5) (v := .ref (ma 0)) (C := RX5) (T := TX5) (N := 18) hx hb hts iw_X5_mayWrite_5 hown hG hF.1 rfl 2 (by decide) fw_X5_mayWrite_13 rfl dX5_mayWrite_76 ?_
        refine lv_iload_n hx hb dX5_mayWrite_79 rfl (lv_at hl 4 rfl) ?_
        refine rn_iald (j := i) hx hb hG (show va_at D vwCl (ma 0, .inl (cI, 10, .inl (V 0))) _ from hF.2.1 0 (by decide)) 0 rfl (by omega) (by decide) dX5_mayWrite_80 ?_
        refine rn_top (y := .int (nI (σ.so i))) (congrArg Value.int (rn_V0 hM hi0 hi9)) ?_
        refine rn_cV (As := [.int (nI j), .int (nI (σ.so i))]) (rest := []) 2 hx hb hml hown hts hG (m_held l hV hM hj0 hso) gX5_mayWrite_X5_held rfl ⟨rfl, rfl⟩ (by decide +kernel) ⟨Nat.le_of_ble_eq_true rfl, Nat.le_of_ble_eq_true rfl⟩ hF hF.1 rfl rfl hl.1 rfl (Nat.le_of_ble_eq_true rfl) ⟨Nat.zero_le _, Nat.zero_le _⟩ dX5_mayWrite_81 ?_
        refine W.eq (g2 := F0 m 84 ls [.int (rn_held σ j (σ.so i))]) rfl ?_
        refine lv_bipush (v := 8) hx hb dX5_mayWrite_84 (by decide +kernel) ?_
        refine lv_iand hx hb dX5_mayWrite_86 ?_
        refine lv_if_eq (tgt := 94) hx hb dX5_mayWrite_87 (by decide) (fun c_87 => ?_) (fun c_87 => ?_)
        · refine lv_iconst (v := 0) hx hb dX5_mayWrite_94 (by decide) ?_
          exact rn_iret hx hb hr rfl hlocks (by rw [hown9, decide_eq_false (fun h => h c_87)]; rfl) dX5_mayWrite_95
        · refine lv_iconst (v := 1) hx hb dX5_mayWrite_90 (by decide) ?_
          refine lv_goto (tgt := 95) hx hb dX5_mayWrite_91 (by decide) ?_
          exact rn_iret hx hb hr rfl hlocks (by rw [hown9, decide_eq_true c_87]; rfl) dX5_mayWrite_95
    · refine lv_aload_n hx hb dX5_mayWrite_21 rfl (lv_at hl 1 rfl) ?_
      refine rn_get (ci := 5) (v := .ref (ma 7)) (C := RX5) (T := TX5) (N := 18) hx hb hts iw_X5_mayWrite_5 hown hG hF.1 rfl 11 (by decide) fw_X5_mayWrite_38 rfl dX5_mayWrite_22 ?_
      refine lv_iload_n hx hb dX5_mayWrite_25 rfl (lv_at hl 2 rfl) ?_
      refine rn_iald (j := j) hx hb hG (show va_at D vwCl (ma 7, .inl (cI, 12, .inl (V 7))) _ from hF.2.1 7 (by decide)) 0 rfl (by omega) (by decide) dX5_mayWrite_26 ?_
      refine rn_top (y := .int (nI (σ.pu j))) (congrArg Value.int (hM.2.2.2.2.2.1 j hj0).2.1) ?_
      refine lv_aload_n hx hb dX5_mayWrite_27 rfl (lv_at hl 1 rfl) ?_
      refine rn_get (ci := 5) (v := .ref (ma 1)) (C := RX5) (T := TX5) (N := 18) hx hb hts iw_X5_mayWrite_5 hown hG hF.1 rfl 3 (by decide) fw_X5_mayWrite_17 rfl dX5_mayWrite_28 ?_
      refine lv_iload_n hx hb dX5_mayWrite_31 rfl (lv_at hl 3 rfl) ?_
      refine rn_iald (j := i) hx hb hG (show va_at D vwCl (ma 1, .inl (cI, 10, .inl (V 1))) _ from hF.2.1 1 (by decide)) 0 rfl (by omega) (by decide) dX5_mayWrite_32 ?_
      refine rn_top (y := .int (σ.sw i)) (congrArg Value.int (hM.2.1 i (by omega) hi0)) ?_
      refine lv_icmp_ne (tgt := 65) hx hb dX5_mayWrite_33 (by decide) (fun c_33 => ?_) (fun c_33 => ?_)
      · have hown9 : rn_own1 σ j i = false := by
          simp only [rn_own1, hsd]
          exact decide_eq_false (fun h => c_33 h.2.1)
        refine lv_iconst (v := 0) hx hb dX5_mayWrite_65 (by decide) ?_
        refine lv_istore (lv' := [(4, .int 0), (3, .int (nI 30)), (0, .ref m0), (1, .int (nI j)), (2, .int (nI i))]) hx hb dX5_mayWrite_66 hl (by decide) rfl (fun ls hl => ?_)
        refine lv_iload hx hb dX5_mayWrite_68 (lv_at hl 0 rfl) ?_
        refine lv_if_ne (tgt := 90) hx hb dX5_mayWrite_70 (by decide) (fun c_70 => ?_) (fun c_70 => ?_)
        · exact absurd rfl c_70
        · refine lv_aload_n hx hb dX5_mayWrite_73 rfl (lv_at hl 2 rfl) ?_
          refine lv_iload_n hx hb dX5_mayWrite_74 rfl (lv_at hl 3 rfl) ?_
          refine lv_aload_n hx hb dX5_mayWrite_75 rfl (lv_at hl 2 rfl) ?_
          refine rn_get (ci := 5) (v := .ref (ma 0)) (C := RX5) (T := TX5) (N := 18) hx hb hts iw_X5_mayWrite_5 hown hG hF.1 rfl 2 (by decide) fw_X5_mayWrite_13 rfl dX5_mayWrite_76 ?_
          refine lv_iload_n hx hb dX5_mayWrite_79 rfl (lv_at hl 4 rfl) ?_
          refine rn_iald (j := i) hx hb hG (show va_at D vwCl (ma 0, .inl (cI, 10, .inl (V 0))) _ from hF.2.1 0 (by decide)) 0 rfl (by omega) (by decide) dX5_mayWrite_80 ?_
          refine rn_top (y := .int (nI (σ.so i))) (congrArg Value.int (rn_V0 hM hi0 hi9)) ?_
          refine rn_cV (As := [.int (nI j), .int (nI (σ.so i))]) (rest := []) 2 hx hb hml hown hts hG (m_held l hV hM hj0 hso) gX5_mayWrite_X5_held rfl ⟨rfl, rfl⟩ (by decide +kernel) ⟨Nat.le_of_ble_eq_true rfl, Nat.le_of_ble_eq_true rfl⟩ hF hF.1 rfl rfl hl.1 rfl (Nat.le_of_ble_eq_true rfl) ⟨Nat.zero_le _, Nat.zero_le _⟩ dX5_mayWrite_81 ?_
          refine W.eq (g2 := F0 m 84 ls [.int (rn_held σ j (σ.so i))]) rfl ?_
          refine lv_bipush (v := 8) hx hb dX5_mayWrite_84 (by decide +kernel) ?_
          refine lv_iand hx hb dX5_mayWrite_86 ?_
          refine lv_if_eq (tgt := 94) hx hb dX5_mayWrite_87 (by decide) (fun c_87 => ?_) (fun c_87 => ?_)
          · refine lv_iconst (v := 0) hx hb dX5_mayWrite_94 (by decide) ?_
            exact rn_iret hx hb hr rfl hlocks (by rw [hown9, decide_eq_false (fun h => h c_87)]; rfl) dX5_mayWrite_95
          · refine lv_iconst (v := 1) hx hb dX5_mayWrite_90 (by decide) ?_
            refine lv_goto (tgt := 95) hx hb dX5_mayWrite_91 (by decide) ?_
            exact rn_iret hx hb hr rfl hlocks (by rw [hown9, decide_eq_true c_87]; rfl) dX5_mayWrite_95
      · refine lv_aload_n hx hb dX5_mayWrite_36 rfl (lv_at hl 1 rfl) ?_
        refine lv_aload_n hx hb dX5_mayWrite_37 rfl (lv_at hl 1 rfl) ?_
        refine rn_get (ci := 5) (v := .ref (ma 0)) (C := RX5) (T := TX5) (N := 18) hx hb hts iw_X5_mayWrite_5 hown hG hF.1 rfl 2 (by decide) fw_X5_mayWrite_13 rfl dX5_mayWrite_38 ?_
        refine lv_iload_n hx hb dX5_mayWrite_41 rfl (lv_at hl 3 rfl) ?_
        refine rn_iald (j := i) hx hb hG (show va_at D vwCl (ma 0, .inl (cI, 10, .inl (V 0))) _ from hF.2.1 0 (by decide)) 0 rfl (by omega) (by decide) dX5_mayWrite_42 ?_
        refine rn_top (y := .int (nI (σ.so i))) (congrArg Value.int (rn_V0 hM hi0 hi9)) ?_
        refine lv_aload_n hx hb dX5_mayWrite_43 rfl (lv_at hl 1 rfl) ?_
        refine rn_get (ci := 5) (v := .ref (ma 4)) (C := RX5) (T := TX5) (N := 18) hx hb hts iw_X5_mayWrite_5 hown hG hF.1 rfl 6 (by decide) fw_X5_mayWrite_26 rfl dX5_mayWrite_44 ?_
        refine lv_iload_n hx hb dX5_mayWrite_47 rfl (lv_at hl 0 rfl) ?_
        refine rn_iald (j := 30) hx hb hG (show va_at D vwCl (ma 4, .inl (cI, 33, .inl (V 4))) _ from hF.2.1 4 (by decide)) 0 rfl (by omega) (by decide) dX5_mayWrite_48 ?_
        refine rn_top (y := .int (nI q.2.1)) (congrArg Value.int v2) ?_
        refine rn_cV (As := [.int (nI (σ.so i)), .int (nI q.2.1)]) (rest := []) 2 hx hb hml hown hts hG (m_led l hV hM hso (x := q.2.1) (by omega)) gX5_mayWrite_X5_led rfl ⟨rfl, rfl⟩ (by decide +kernel) ⟨Nat.le_of_ble_eq_true rfl, Nat.le_of_ble_eq_true rfl⟩ hF hF.1 rfl rfl hl.1 rfl (Nat.le_of_ble_eq_true rfl) ⟨Nat.zero_le _, Nat.zero_le _⟩ dX5_mayWrite_49 ?_
        refine W.eq (g2 := F0 m 52 ls [.int (rn_enc (rn_lead σ (σ.so i) q.2.1))]) rfl ?_
        refine lv_aload_n hx hb dX5_mayWrite_52 rfl (lv_at hl 1 rfl) ?_
        refine rn_get (ci := 5) (v := .ref (ma 7)) (C := RX5) (T := TX5) (N := 18) hx hb hts iw_X5_mayWrite_5 hown hG hF.1 rfl 11 (by decide) fw_X5_mayWrite_38 rfl dX5_mayWrite_53 ?_
        refine lv_iload_n hx hb dX5_mayWrite_56 rfl (lv_at hl 2 rfl) ?_
        refine rn_iald (j := j) hx hb hG (show va_at D vwCl (ma 7, .inl (cI, 12, .inl (V 7))) _ from hF.2.1 7 (by decide)) 0 rfl (by omega) (by decide) dX5_mayWrite_57 ?_
        refine rn_top (y := .int (nI (σ.pu j))) (congrArg Value.int (hM.2.2.2.2.2.1 j hj0).2.1) ?_
        refine lv_icmp_ne (tgt := 65) hx hb dX5_mayWrite_58 (by decide) (fun c_58 => ?_) (fun c_58 => ?_)
        · have hown9 : rn_own1 σ j i = false := by
            simp only [rn_own1, hsd]
            exact decide_eq_false (fun h => c_58 (by rw [h.2.2]; rfl))
          refine lv_iconst (v := 0) hx hb dX5_mayWrite_65 (by decide) ?_
          refine lv_istore (lv' := [(4, .int 0), (3, .int (nI 30)), (0, .ref m0), (1, .int (nI j)), (2, .int (nI i))]) hx hb dX5_mayWrite_66 hl (by decide) rfl (fun ls hl => ?_)
          refine lv_iload hx hb dX5_mayWrite_68 (lv_at hl 0 rfl) ?_
          refine lv_if_ne (tgt := 90) hx hb dX5_mayWrite_70 (by decide) (fun c_70 => ?_) (fun c_70 => ?_)
          · exact absurd rfl c_70
          · refine lv_aload_n hx hb dX5_mayWrite_73 rfl (lv_at hl 2 rfl) ?_
            refine lv_iload_n hx hb dX5_mayWrite_74 rfl (lv_at hl 3 rfl) ?_
            refine lv_aload_n hx hb dX5_mayWrite_75 rfl (lv_at hl 2 rfl) ?_
            refine rn_get (ci := 5) (v := .ref (ma 0)) (C := RX5) (T := TX5) (N := 18) hx hb hts iw_X5_mayWrite_5 hown hG hF.1 rfl 2 (by decide) fw_X5_mayWrite_13 rfl dX5_mayWrite_76 ?_
            refine lv_iload_n hx hb dX5_mayWrite_79 rfl (lv_at hl 4 rfl) ?_
            refine rn_iald (j := i) hx hb hG (show va_at D vwCl (ma 0, .inl (cI, 10, .inl (V 0))) _ from hF.2.1 0 (by decide)) 0 rfl (by omega) (by decide) dX5_mayWrite_80 ?_
            refine rn_top (y := .int (nI (σ.so i))) (congrArg Value.int (rn_V0 hM hi0 hi9)) ?_
            refine rn_cV (As := [.int (nI j), .int (nI (σ.so i))]) (rest := []) 2 hx hb hml hown hts hG (m_held l hV hM hj0 hso) gX5_mayWrite_X5_held rfl ⟨rfl, rfl⟩ (by decide +kernel) ⟨Nat.le_of_ble_eq_true rfl, Nat.le_of_ble_eq_true rfl⟩ hF hF.1 rfl rfl hl.1 rfl (Nat.le_of_ble_eq_true rfl) ⟨Nat.zero_le _, Nat.zero_le _⟩ dX5_mayWrite_81 ?_
            refine W.eq (g2 := F0 m 84 ls [.int (rn_held σ j (σ.so i))]) rfl ?_
            refine lv_bipush (v := 8) hx hb dX5_mayWrite_84 (by decide +kernel) ?_
            refine lv_iand hx hb dX5_mayWrite_86 ?_
            refine lv_if_eq (tgt := 94) hx hb dX5_mayWrite_87 (by decide) (fun c_87 => ?_) (fun c_87 => ?_)
            · refine lv_iconst (v := 0) hx hb dX5_mayWrite_94 (by decide) ?_
              exact rn_iret hx hb hr rfl hlocks (by rw [hown9, decide_eq_false (fun h => h c_87)]; rfl) dX5_mayWrite_95
            · refine lv_iconst (v := 1) hx hb dX5_mayWrite_90 (by decide) ?_
              refine lv_goto (tgt := 95) hx hb dX5_mayWrite_91 (by decide) ?_
              exact rn_iret hx hb hr rfl hlocks (by rw [hown9, decide_eq_true c_87]; rfl) dX5_mayWrite_95
        · have hown9 : rn_own1 σ j i = true := by
            simp only [rn_own1, hsd]
            exact decide_eq_true ⟨(nI_eq (b := 1) (by omega) (by omega)).mp c_18, c_33, (rn_enc_eq (fun z h => rn_lead_in hV _ _ (Nat.le_refl _) hso _ z (by omega) h) hpu).mp c_58⟩
          refine lv_iconst (v := 1) hx hb dX5_mayWrite_61 (by decide) ?_
          refine lv_goto (tgt := 66) hx hb dX5_mayWrite_62 (by decide) ?_
          refine lv_istore (lv' := [(4, .int 1), (3, .int (nI 30)), (0, .ref m0), (1, .int (nI j)), (2, .int (nI i))]) hx hb dX5_mayWrite_66 hl (by decide) rfl (fun ls hl => ?_)
          refine lv_iload hx hb dX5_mayWrite_68 (lv_at hl 0 rfl) ?_
          refine lv_if_ne (tgt := 90) hx hb dX5_mayWrite_70 (by decide) (fun c_70 => ?_) (fun c_70 => ?_)
          · refine lv_iconst (v := 1) hx hb dX5_mayWrite_90 (by decide) ?_
            refine lv_goto (tgt := 95) hx hb dX5_mayWrite_91 (by decide) ?_
            exact rn_iret hx hb hr rfl hlocks (by rw [hown9]; rfl) dX5_mayWrite_95
          · exact absurd c_70 (by decide)
