theorem rn_may_m (m u o : Int32) (wb : Bool) : rn_may m u o wb = decide (m &&& ((if wb = true then 2 else 1) * (if u = o then 1 else 4)) ≠ 0) := by
  unfold rn_may
  cases wb <;> by_cases h : u = o <;> simp [h] <;> rfl

set_option maxHeartbeats 4000000 in
set_option maxRecDepth 100000 in
theorem n_makeRoom (l : Launch) {D : va_G} {cI : ClassId} {m0 : Nat} {ma : Nat → Nat} {rf : Int32} {V : Nat → Nat → Int32} {σ : rn_St} (hV : rn_V σ) (hM : rn_Mr σ V) {j : Nat} (hj0 : j < σ.pn) (hn0 : σ.sn < 10) (sz : Nat) : rn_W l yX5_makeRoom wsX5_makeRoom ({ frames := 4, cells := 0, slots := 0, locals := 96 } : Room) D [(cI, .int)] ((rn_MW D cI m0 ma rf (nI σ.sn) (nI σ.sd.length) (nI σ.pn) (nI σ.fn) σ.rc σ.la V)) [.ref m0, .int (nI j)] (some (.int (nI σ.sn))) (rn_MP D cI m0 ma 0 (rn_addRoom σ j)) (rn_mA m0 ma) 0 0 sz := by
  refine rn_W.ofW (cc := cX5_makeRoom) (maxL := 2) (ret := (some .int)) (by decide) rfl (Nat.le_of_ble_eq_true rfl) (fun p e s m below meth c ls hx hb hr hml hts hown hlocks hin hsz hF hG hS hl => ?_)
  have hl : lv_has ls 2 [(0, .ref m0), (1, .int (nI j))] := hl
  have hs10 := hV.1.2
  have hp12 := hV.2.2.2.2.2.1.2.1
  have hf20 := hV.2.2.2.2.2.2.1
  have hd3 := hV.2.2.2.2.1.2
  refine lv_aload_n hx hb dX5_makeRoom_0 rfl (lv_at hl 0 rfl) ?_
  refine lv_aload_n hx hb dX5_makeRoom_1 rfl (lv_at hl 0 rfl) ?_
  refine lv_iload_n hx hb dX5_makeRoom_2 rfl (lv_at hl 1 rfl) ?_
  refine rn_cV (As := [.int (nI j)]) (rest := [.ref m0]) 1 hx hb hml hown hts hG (m_isProcess l ((nI j))) gX5_makeRoom_X5_isProcess rfl ⟨rfl, rfl⟩ (by decide +kernel) ⟨Nat.le_of_ble_eq_true rfl, Nat.le_of_ble_eq_true rfl⟩ hF hF.1 rfl rfl hl.1 rfl (Nat.le_of_ble_eq_true rfl) ⟨by decide, by decide⟩ dX5_makeRoom_3 ?_
  refine W.eq (g2 := F0 m 6 ls [.int (rn_b (rn_in ((nI j)) 0 (nI σ.pn - 1))), .ref m0]) rfl ?_
  refine rn_top (y := .int 1) (congrArg Value.int (by rw [rn_ok_t (by omega) hj0]; rfl)) ?_
  refine lv_if_ne (tgt := 13) hx hb dX5_makeRoom_6 (by decide) (fun c_6 => ?_) (fun c_6 => ?_)
  · refine lv_aload_n hx hb dX5_makeRoom_13 rfl (lv_at hl 0 rfl) ?_
    refine rn_get (ci := 5) (v := .int (nI σ.sn)) (C := RX5) (T := TX5) (N := 18) hx hb hts iw_X5_makeRoom_5 hown hG hF.1 rfl 1 (by decide) fw_X5_makeRoom_7 rfl dX5_makeRoom_14 ?_
    refine lv_bipush (v := 10) hx hb dX5_makeRoom_17 (by decide +kernel) ?_
    refine lv_icmp_ne (tgt := 26) hx hb dX5_makeRoom_19 (by decide) (fun c_19 => ?_) (fun c_19 => ?_)
    · refine lv_iconst (v := 0) hx hb dX5_makeRoom_26 (by decide) ?_
      refine rn_wV (As := [.int 0]) (rest := []) 1 hx hb hml hown hts hG hS (m_refused l 0) (fun x hx => by rw [show x = m0 from hx]; exact rn_mA_0) gX5_makeRoom_X5_refused rfl ⟨rfl, rfl⟩ (by decide +kernel) ⟨Nat.le_of_ble_eq_true rfl, Nat.le_of_ble_eq_true rfl⟩ hF hF.1 rfl rfl hl.1 rfl (Nat.le_of_ble_eq_true rfl) ⟨by decide, by decide⟩ dX5_makeRoom_27 (fun H locs hP1 hz hk hS => ?_)
      refine W.eq (g2 := F0 m 30 ls [.int (rn_b (decide (0 ≠ 0)))]) rfl ?_
      have hF := hP1
      refine rn_top (y := .int 0) (congrArg Value.int (rfl)) ?_
      refine lv_if_eq (tgt := 35) hx hb dX5_makeRoom_30 (by decide) (fun c_30 => ?_) (fun c_30 => ?_)
      · refine lv_aload_n hx hb dX5_makeRoom_35 rfl (lv_at hl 0 rfl) ?_
        refine rn_get (ci := 5) (v := .ref (ma 0)) (C := RX5) (T := TX5) (N := 18) hx hb hts iw_X5_makeRoom_5 hown hG hF.1 rfl 2 (by decide) fw_X5_makeRoom_13 rfl dX5_makeRoom_36 ?_
        refine lv_aload_n hx hb dX5_makeRoom_39 rfl (lv_at hl 0 rfl) ?_
        refine rn_get (ci := 5) (v := .int (nI σ.sn)) (C := RX5) (T := TX5) (N := 18) hx hb hts iw_X5_makeRoom_5 hown hG hF.1 rfl 1 (by decide) fw_X5_makeRoom_7 rfl dX5_makeRoom_40 ?_
        refine lv_aload_n hx hb dX5_makeRoom_43 rfl (lv_at hl 0 rfl) ?_
        refine rn_get (ci := 5) (v := .ref (ma 6)) (C := RX5) (T := TX5) (N := 18) hx hb hts iw_X5_makeRoom_5 hown hG hF.1 rfl 10 (by decide) fw_X5_makeRoom_35 rfl dX5_makeRoom_44 ?_
        refine lv_iload_n hx hb dX5_makeRoom_47 rfl (lv_at hl 1 rfl) ?_
        refine rn_iald (j := j) hx hb hG (show va_at D vwCl (ma 6, .inl (cI, 12, .inl (V 6))) _ from hF.2.1 6 (by decide)) 0 rfl (by omega) (by decide) dX5_makeRoom_48 ?_
        refine rn_top (y := .int (nI (σ.pl j))) (congrArg Value.int (hM.2.2.2.2.2.1 j hj0).1) ?_
        refine rn_iast (A := (rn_mA m0 ma)) (j := σ.sn) (x := (nI (σ.pl j))) (g := V 0) (n := 10) hx hb hG hS (rn_mA_k 0 (by decide)) (show va_at D vwCl (ma 0, .inl (cI, 10, .inl (V 0))) _ from hF.2.1 0 (by decide)) 0 rfl (by omega) (by decide) dX5_makeRoom_49 (fun H locs hat hz ho hS => ?_)
        have hF := hF.st (k := 0) (by decide) hat ho
        refine lv_aload_n hx hb dX5_makeRoom_50 rfl (lv_at hl 0 rfl) ?_
        refine rn_get (ci := 5) (v := .ref (ma 1)) (C := RX5) (T := TX5) (N := 18) hx hb hts iw_X5_makeRoom_5 hown hG hF.1 rfl 3 (by decide) fw_X5_makeRoom_17 rfl dX5_makeRoom_51 ?_
        refine lv_aload_n hx hb dX5_makeRoom_54 rfl (lv_at hl 0 rfl) ?_
        refine rn_get (ci := 5) (v := .int (nI σ.sn)) (C := RX5) (T := TX5) (N := 18) hx hb hts iw_X5_makeRoom_5 hown hG hF.1 rfl 1 (by decide) fw_X5_makeRoom_7 rfl dX5_makeRoom_55 ?_
        refine lv_aload_n hx hb dX5_makeRoom_58 rfl (lv_at hl 0 rfl) ?_
        refine rn_get (ci := 5) (v := .ref (ma 7)) (C := RX5) (T := TX5) (N := 18) hx hb hts iw_X5_makeRoom_5 hown hG hF.1 rfl 11 (by decide) fw_X5_makeRoom_38 rfl dX5_makeRoom_59 ?_
        refine lv_iload_n hx hb dX5_makeRoom_62 rfl (lv_at hl 1 rfl) ?_
        refine rn_iald (j := j) hx hb hG (show va_at D vwCl (ma 7, .inl (cI, 12, .inl (V 7))) _ from hF.2.1 7 (by decide)) 0 rfl (by omega) (by decide) dX5_makeRoom_63 ?_
        refine rn_top (y := .int (nI (σ.pu j))) (congrArg Value.int (hM.2.2.2.2.2.1 j hj0).2.1) ?_
        refine rn_iast (A := (rn_mA m0 ma)) (j := σ.sn) (x := (nI (σ.pu j))) (g := V 1) (n := 10) hx hb hG hS (rn_mA_k 1 (by decide)) (show va_at D vwCl (ma 1, .inl (cI, 10, .inl (V 1))) _ from hF.2.1 1 (by decide)) 0 rfl (by omega) (by decide) dX5_makeRoom_64 (fun H locs hat hz ho hS => ?_)
        have hF := hF.st (k := 1) (by decide) hat ho
        refine lv_aload_n hx hb dX5_makeRoom_65 rfl (lv_at hl 0 rfl) ?_
        refine rn_get (ci := 5) (v := .ref (ma 6)) (C := RX5) (T := TX5) (N := 18) hx hb hts iw_X5_makeRoom_5 hown hG hF.1 rfl 10 (by decide) fw_X5_makeRoom_35 rfl dX5_makeRoom_66 ?_
        refine lv_iload_n hx hb dX5_makeRoom_69 rfl (lv_at hl 1 rfl) ?_
        refine lv_aload_n hx hb dX5_makeRoom_70 rfl (lv_at hl 0 rfl) ?_
        refine rn_get (ci := 5) (v := .int (nI σ.sn)) (C := RX5) (T := TX5) (N := 18) hx hb hts iw_X5_makeRoom_5 hown hG hF.1 rfl 1 (by decide) fw_X5_makeRoom_7 rfl dX5_makeRoom_71 ?_
        refine rn_iast (A := (rn_mA m0 ma)) (j := j) (x := (nI σ.sn)) (g := V 6) (n := 12) hx hb hG hS (rn_mA_k 6 (by decide)) (show va_at D vwCl (ma 6, .inl (cI, 12, .inl (V 6))) _ from hF.2.1 6 (by decide)) 0 rfl (by omega) (by decide) dX5_makeRoom_74 (fun H locs hat hz ho hS => ?_)
        have hF := hF.st (k := 6) (by decide) hat ho
        refine lv_aload_n hx hb dX5_makeRoom_75 rfl (lv_at hl 0 rfl) ?_
        refine rn_get (ci := 5) (v := .ref (ma 8)) (C := RX5) (T := TX5) (N := 18) hx hb hts iw_X5_makeRoom_5 hown hG hF.1 rfl 12 (by decide) fw_X5_makeRoom_41 rfl dX5_makeRoom_76 ?_
        refine lv_iload_n hx hb dX5_makeRoom_79 rfl (lv_at hl 1 rfl) ?_
        refine lv_bipush (v := 15) hx hb dX5_makeRoom_80 (by decide +kernel) ?_
        refine rn_iast (A := (rn_mA m0 ma)) (j := j) (x := 15) (g := V 8) (n := 12) hx hb hG hS (rn_mA_k 8 (by decide)) (show va_at D vwCl (ma 8, .inl (cI, 12, .inl (V 8))) _ from hF.2.1 8 (by decide)) 0 rfl (by omega) (by decide) dX5_makeRoom_82 (fun H locs hat hz ho hS => ?_)
        have hF := hF.st (k := 8) (by decide) hat ho
        refine lv_aload_n hx hb dX5_makeRoom_83 rfl (lv_at hl 0 rfl) ?_
        refine lv_dup hx hb dX5_makeRoom_84 rfl ?_
        refine rn_get (ci := 5) (v := .int (nI σ.sn)) (C := RX5) (T := TX5) (N := 18) hx hb hts iw_X5_makeRoom_5 hown hG hF.1 rfl 1 (by decide) fw_X5_makeRoom_7 rfl dX5_makeRoom_85 ?_
        refine lv_iconst (v := 1) hx hb dX5_makeRoom_88 (by decide) ?_
        refine lv_iadd hx hb dX5_makeRoom_89 ?_
        refine rn_top (y := .int (nI (σ.sn + 1))) (congrArg Value.int (nI_1 _)) ?_
        refine rn_put (A := (rn_mA m0 ma)) (ci := 5) (v := .int (nI (σ.sn + 1))) (C := RX5) (T := TX5) (N := 18) (fs' := [.int 0, .int (nI (σ.sn + 1)), .ref (ma 0), .ref (ma 1), .ref (ma 2), .ref (ma 3), .ref (ma 4), .ref (ma 5), .int (nI σ.sd.length), .int (nI σ.pn), .ref (ma 6), .ref (ma 7), .ref (ma 8), .int (nI σ.fn), .ref (ma 9), .ref (ma 10), .int σ.rc, .int σ.la]) hx hb hts iw_X5_makeRoom_5 tyX5 tyX5_ok nmX5 hown hG hS rn_mA_0 hF.1 rfl 1 (by decide) fw_X5_makeRoom_7 (Or.inl rfl) rfl rfl (Nat.le_of_ble_eq_true rfl) rfl dX5_makeRoom_90 (fun H locs hat hz ho hS => ?_)
        have hF := hF.put hat ho
        refine lv_aload_n hx hb dX5_makeRoom_93 rfl (lv_at hl 0 rfl) ?_
        refine rn_get (ci := 5) (v := .int (nI (σ.sn + 1))) (C := RX5) (T := TX5) (N := 18) hx hb hts iw_X5_makeRoom_5 hown hG hF.1 rfl 1 (by decide) fw_X5_makeRoom_7 rfl dX5_makeRoom_94 ?_
        refine lv_iconst (v := 1) hx hb dX5_makeRoom_97 (by decide) ?_
        refine lv_isub hx hb dX5_makeRoom_98 ?_
        refine rn_top (y := .int (nI σ.sn)) (congrArg Value.int (nI_pred _)) ?_
        have hM9 : rn_Mr (rn_addRoom σ j) (va_up (va_up (va_up (va_up V 0 (upd (V 0) σ.sn ((nI (σ.pl j))))) 1 (upd (V 1) σ.sn ((nI (σ.pu j))))) 6 (upd (V 6) j ((nI σ.sn)))) 8 (upd (V 8) j (15))) := rn_Mr.proc (rn_Mr.newRoom (j := j) (V' := va_up (va_up V 0 (upd (V 0) σ.sn (nI (σ.pl j)))) 1 (upd (V 1) σ.sn (nI (σ.pu j)))) hV hn0 hM (fun i => rfl) (fun i => rfl) (fun q a0 a1 => by simp [va_up, a0, a1])) (fun i hi => rfl) (fun i hi => by by_cases e : i = j; rw [if_pos e, e]; exact (hM.2.2.2.2.2.1 j hj0).2.1; rw [if_neg e]; rfl) (fun i hi => rfl) (fun q a6 a7 a8 => by simp [va_up, a6, a7, a8])
        exact rn_Wiret hx hb hr rfl hlocks hS (by decide) (by decide) rfl ⟨_, hM9, hF⟩ dX5_makeRoom_99
      · exact absurd c_30 (by decide)
    · exact absurd ((nI_eq (b := 10) (by omega) (by omega)).mp c_19) (by omega)
  · exact absurd c_6 (by decide)

set_option maxHeartbeats 4000000 in
set_option maxRecDepth 100000 in
theorem n_fork (l : Launch) {D : va_G} {cI : ClassId} {m0 : Nat} {ma : Nat → Nat} {rf : Int32} {V : Nat → Nat → Int32} {σ : rn_St} (hV : rn_V σ) (hM : rn_Mr σ V) {j : Nat} (hj0 : j < σ.pn) (hn0 : σ.pn < 12) (sz : Nat) : rn_W l yX5_fork wsX5_fork ({ frames := 4, cells := 0, slots := 0, locals := 96 } : Room) D [(cI, .int)] ((rn_MW D cI m0 ma rf (nI σ.sn) (nI σ.sd.length) (nI σ.pn) (nI σ.fn) σ.rc σ.la V)) [.ref m0, .int (nI j)] (some (.int (nI σ.pn))) (rn_MP D cI m0 ma 0 (rn_fork σ j)) (rn_mA m0 ma) 0 0 sz := by
  refine rn_W.ofW (cc := cX5_fork) (maxL := 2) (ret := (some .int)) (by decide) rfl (Nat.le_of_ble_eq_true rfl) (fun p e s m below meth c ls hx hb hr hml hts hown hlocks hin hsz hF hG hS hl => ?_)
  have hl : lv_has ls 2 [(0, .ref m0), (1, .int (nI j))] := hl
  have hs10 := hV.1.2
  have hp12 := hV.2.2.2.2.2.1.2.1
  have hf20 := hV.2.2.2.2.2.2.1
  have hd3 := hV.2.2.2.2.1.2
  refine lv_aload_n hx hb dX5_fork_0 rfl (lv_at hl 0 rfl) ?_
  refine lv_aload_n hx hb dX5_fork_1 rfl (lv_at hl 0 rfl) ?_
  refine lv_iload_n hx hb dX5_fork_2 rfl (lv_at hl 1 rfl) ?_
  refine rn_cV (As := [.int (nI j)]) (rest := [.ref m0]) 1 hx hb hml hown hts hG (m_isProcess l ((nI j))) gX5_fork_X5_isProcess rfl ⟨rfl, rfl⟩ (by decide +kernel) ⟨Nat.le_of_ble_eq_true rfl, Nat.le_of_ble_eq_true rfl⟩ hF hF.1 rfl rfl hl.1 rfl (Nat.le_of_ble_eq_true rfl) ⟨by decide, by decide⟩ dX5_fork_3 ?_
  refine W.eq (g2 := F0 m 6 ls [.int (rn_b (rn_in ((nI j)) 0 (nI σ.pn - 1))), .ref m0]) rfl ?_
  refine rn_top (y := .int 1) (congrArg Value.int (by rw [rn_ok_t (by omega) hj0]; rfl)) ?_
  refine lv_if_ne (tgt := 13) hx hb dX5_fork_6 (by decide) (fun c_6 => ?_) (fun c_6 => ?_)
  · refine lv_aload_n hx hb dX5_fork_13 rfl (lv_at hl 0 rfl) ?_
    refine rn_get (ci := 5) (v := .int (nI σ.pn)) (C := RX5) (T := TX5) (N := 18) hx hb hts iw_X5_fork_5 hown hG hF.1 rfl 9 (by decide) fw_X5_fork_32 rfl dX5_fork_14 ?_
    refine lv_bipush (v := 12) hx hb dX5_fork_17 (by decide +kernel) ?_
    refine lv_icmp_ne (tgt := 26) hx hb dX5_fork_19 (by decide) (fun c_19 => ?_) (fun c_19 => ?_)
    · refine lv_iconst (v := 0) hx hb dX5_fork_26 (by decide) ?_
      refine rn_wV (As := [.int 0]) (rest := []) 1 hx hb hml hown hts hG hS (m_refused l 0) (fun x hx => by rw [show x = m0 from hx]; exact rn_mA_0) gX5_fork_X5_refused rfl ⟨rfl, rfl⟩ (by decide +kernel) ⟨Nat.le_of_ble_eq_true rfl, Nat.le_of_ble_eq_true rfl⟩ hF hF.1 rfl rfl hl.1 rfl (Nat.le_of_ble_eq_true rfl) ⟨by decide, by decide⟩ dX5_fork_27 (fun H locs hP1 hz hk hS => ?_)
      refine W.eq (g2 := F0 m 30 ls [.int (rn_b (decide (0 ≠ 0)))]) rfl ?_
      have hF := hP1
      refine rn_top (y := .int 0) (congrArg Value.int (rfl)) ?_
      refine lv_if_eq (tgt := 35) hx hb dX5_fork_30 (by decide) (fun c_30 => ?_) (fun c_30 => ?_)
      · refine lv_aload_n hx hb dX5_fork_35 rfl (lv_at hl 0 rfl) ?_
        refine rn_get (ci := 5) (v := .ref (ma 6)) (C := RX5) (T := TX5) (N := 18) hx hb hts iw_X5_fork_5 hown hG hF.1 rfl 10 (by decide) fw_X5_fork_35 rfl dX5_fork_36 ?_
        refine lv_aload_n hx hb dX5_fork_39 rfl (lv_at hl 0 rfl) ?_
        refine rn_get (ci := 5) (v := .int (nI σ.pn)) (C := RX5) (T := TX5) (N := 18) hx hb hts iw_X5_fork_5 hown hG hF.1 rfl 9 (by decide) fw_X5_fork_32 rfl dX5_fork_40 ?_
        refine lv_aload_n hx hb dX5_fork_43 rfl (lv_at hl 0 rfl) ?_
        refine rn_get (ci := 5) (v := .ref (ma 6)) (C := RX5) (T := TX5) (N := 18) hx hb hts iw_X5_fork_5 hown hG hF.1 rfl 10 (by decide) fw_X5_fork_35 rfl dX5_fork_44 ?_
        refine lv_iload_n hx hb dX5_fork_47 rfl (lv_at hl 1 rfl) ?_
        refine rn_iald (j := j) hx hb hG (show va_at D vwCl (ma 6, .inl (cI, 12, .inl (V 6))) _ from hF.2.1 6 (by decide)) 0 rfl (by omega) (by decide) dX5_fork_48 ?_
        refine rn_top (y := .int (nI (σ.pl j))) (congrArg Value.int (hM.2.2.2.2.2.1 j hj0).1) ?_
        refine rn_iast (A := (rn_mA m0 ma)) (j := σ.pn) (x := (nI (σ.pl j))) (g := V 6) (n := 12) hx hb hG hS (rn_mA_k 6 (by decide)) (show va_at D vwCl (ma 6, .inl (cI, 12, .inl (V 6))) _ from hF.2.1 6 (by decide)) 0 rfl (by omega) (by decide) dX5_fork_49 (fun H locs hat hz ho hS => ?_)
        have hF := hF.st (k := 6) (by decide) hat ho
        refine lv_aload_n hx hb dX5_fork_50 rfl (lv_at hl 0 rfl) ?_
        refine rn_get (ci := 5) (v := .ref (ma 7)) (C := RX5) (T := TX5) (N := 18) hx hb hts iw_X5_fork_5 hown hG hF.1 rfl 11 (by decide) fw_X5_fork_38 rfl dX5_fork_51 ?_
        refine lv_aload_n hx hb dX5_fork_54 rfl (lv_at hl 0 rfl) ?_
        refine rn_get (ci := 5) (v := .int (nI σ.pn)) (C := RX5) (T := TX5) (N := 18) hx hb hts iw_X5_fork_5 hown hG hF.1 rfl 9 (by decide) fw_X5_fork_32 rfl dX5_fork_55 ?_
        refine lv_aload_n hx hb dX5_fork_58 rfl (lv_at hl 0 rfl) ?_
        refine rn_get (ci := 5) (v := .ref (ma 7)) (C := RX5) (T := TX5) (N := 18) hx hb hts iw_X5_fork_5 hown hG hF.1 rfl 11 (by decide) fw_X5_fork_38 rfl dX5_fork_59 ?_
        refine lv_iload_n hx hb dX5_fork_62 rfl (lv_at hl 1 rfl) ?_
        refine rn_iald (j := j) hx hb hG (show va_at D vwCl (ma 7, .inl (cI, 12, .inl (V 7))) _ from hF.2.1 7 (by decide)) 0 rfl (by omega) (by decide) dX5_fork_63 ?_
        refine rn_top (y := .int (nI (σ.pu j))) (congrArg Value.int (hM.2.2.2.2.2.1 j hj0).2.1) ?_
        refine rn_iast (A := (rn_mA m0 ma)) (j := σ.pn) (x := (nI (σ.pu j))) (g := V 7) (n := 12) hx hb hG hS (rn_mA_k 7 (by decide)) (show va_at D vwCl (ma 7, .inl (cI, 12, .inl (V 7))) _ from hF.2.1 7 (by decide)) 0 rfl (by omega) (by decide) dX5_fork_64 (fun H locs hat hz ho hS => ?_)
        have hF := hF.st (k := 7) (by decide) hat ho
        refine lv_aload_n hx hb dX5_fork_65 rfl (lv_at hl 0 rfl) ?_
        refine rn_get (ci := 5) (v := .ref (ma 8)) (C := RX5) (T := TX5) (N := 18) hx hb hts iw_X5_fork_5 hown hG hF.1 rfl 12 (by decide) fw_X5_fork_41 rfl dX5_fork_66 ?_
        refine lv_aload_n hx hb dX5_fork_69 rfl (lv_at hl 0 rfl) ?_
        refine rn_get (ci := 5) (v := .int (nI σ.pn)) (C := RX5) (T := TX5) (N := 18) hx hb hts iw_X5_fork_5 hown hG hF.1 rfl 9 (by decide) fw_X5_fork_32 rfl dX5_fork_70 ?_
        refine lv_aload_n hx hb dX5_fork_73 rfl (lv_at hl 0 rfl) ?_
        refine rn_get (ci := 5) (v := .ref (ma 8)) (C := RX5) (T := TX5) (N := 18) hx hb hts iw_X5_fork_5 hown hG hF.1 rfl 12 (by decide) fw_X5_fork_41 rfl dX5_fork_74 ?_
        refine lv_iload_n hx hb dX5_fork_77 rfl (lv_at hl 1 rfl) ?_
        refine rn_iald (j := j) hx hb hG (show va_at D vwCl (ma 8, .inl (cI, 12, .inl (V 8))) _ from hF.2.1 8 (by decide)) 0 rfl (by omega) (by decide) dX5_fork_78 ?_
        refine rn_top (y := .int (σ.pr j)) (congrArg Value.int (hM.2.2.2.2.2.1 j hj0).2.2) ?_
        refine rn_iast (A := (rn_mA m0 ma)) (j := σ.pn) (x := (σ.pr j)) (g := V 8) (n := 12) hx hb hG hS (rn_mA_k 8 (by decide)) (show va_at D vwCl (ma 8, .inl (cI, 12, .inl (V 8))) _ from hF.2.1 8 (by decide)) 0 rfl (by omega) (by decide) dX5_fork_79 (fun H locs hat hz ho hS => ?_)
        have hF := hF.st (k := 8) (by decide) hat ho
        refine lv_aload_n hx hb dX5_fork_80 rfl (lv_at hl 0 rfl) ?_
        refine lv_dup hx hb dX5_fork_81 rfl ?_
        refine rn_get (ci := 5) (v := .int (nI σ.pn)) (C := RX5) (T := TX5) (N := 18) hx hb hts iw_X5_fork_5 hown hG hF.1 rfl 9 (by decide) fw_X5_fork_32 rfl dX5_fork_82 ?_
        refine lv_iconst (v := 1) hx hb dX5_fork_85 (by decide) ?_
        refine lv_iadd hx hb dX5_fork_86 ?_
        refine rn_top (y := .int (nI (σ.pn + 1))) (congrArg Value.int (nI_1 _)) ?_
        refine rn_put (A := (rn_mA m0 ma)) (ci := 5) (v := .int (nI (σ.pn + 1))) (C := RX5) (T := TX5) (N := 18) (fs' := [.int 0, .int (nI σ.sn), .ref (ma 0), .ref (ma 1), .ref (ma 2), .ref (ma 3), .ref (ma 4), .ref (ma 5), .int (nI σ.sd.length), .int (nI (σ.pn + 1)), .ref (ma 6), .ref (ma 7), .ref (ma 8), .int (nI σ.fn), .ref (ma 9), .ref (ma 10), .int σ.rc, .int σ.la]) hx hb hts iw_X5_fork_5 tyX5 tyX5_ok nmX5 hown hG hS rn_mA_0 hF.1 rfl 9 (by decide) fw_X5_fork_32 (Or.inl rfl) rfl rfl (Nat.le_of_ble_eq_true rfl) rfl dX5_fork_87 (fun H locs hat hz ho hS => ?_)
        have hF := hF.put hat ho
        refine lv_aload_n hx hb dX5_fork_90 rfl (lv_at hl 0 rfl) ?_
        refine rn_get (ci := 5) (v := .int (nI (σ.pn + 1))) (C := RX5) (T := TX5) (N := 18) hx hb hts iw_X5_fork_5 hown hG hF.1 rfl 9 (by decide) fw_X5_fork_32 rfl dX5_fork_91 ?_
        refine lv_iconst (v := 1) hx hb dX5_fork_94 (by decide) ?_
        refine lv_isub hx hb dX5_fork_95 ?_
        refine rn_top (y := .int (nI σ.pn)) (congrArg Value.int (nI_pred _)) ?_
        have hM9 : rn_Mr (rn_fork σ j) (va_up (va_up (va_up V 6 (upd (V 6) σ.pn ((nI (σ.pl j))))) 7 (upd (V 7) σ.pn ((nI (σ.pu j))))) 8 (upd (V 8) σ.pn ((σ.pr j)))) := rn_Mr.fork hj0 hM (fun i => rfl) (fun i => rfl) (fun i => rfl) (fun q a6 a7 a8 => by simp [va_up, a6, a7, a8])
        exact rn_Wiret hx hb hr rfl hlocks hS (by decide) (by decide) rfl ⟨_, hM9, hF⟩ dX5_fork_96
      · exact absurd c_30 (by decide)
    · exact absurd ((nI_eq (b := 12) (by omega) (by omega)).mp c_19) (by omega)
  · exact absurd c_6 (by decide)

set_option maxHeartbeats 4000000 in
set_option maxRecDepth 100000 in
theorem n_makeFile (l : Launch) {D : va_G} {cI : ClassId} {m0 : Nat} {ma : Nat → Nat} {rf : Int32} {V : Nat → Nat → Int32} {σ : rn_St} (hV : rn_V σ) (hM : rn_Mr σ V) {j k : Nat} (hj0 : j < σ.pn) (hk0 : k ≤ 15) (hn0 : σ.fn < 20) (sz : Nat) : rn_W l yX5_makeFile wsX5_makeFile ({ frames := 4, cells := 0, slots := 0, locals := 96 } : Room) D [(cI, .int)] ((rn_MW D cI m0 ma rf (nI σ.sn) (nI σ.sd.length) (nI σ.pn) (nI σ.fn) σ.rc σ.la V)) [.ref m0, .int (nI j), .int (nI k)] (some (.int ((rn_o_makeFile σ j (nI k)).1))) (rn_MP D cI m0 ma 0 ((rn_o_makeFile σ j (nI k)).2)) (rn_mA m0 ma) 0 0 sz := by
  refine rn_W.ofW (cc := cX5_makeFile) (maxL := 3) (ret := (some .int)) (by decide) rfl (Nat.le_of_ble_eq_true rfl) (fun p e s m below meth c ls hx hb hr hml hts hown hlocks hin hsz hF hG hS hl => ?_)
  have hl : lv_has ls 3 [(0, .ref m0), (1, .int (nI j)), (2, .int (nI k))] := hl
  have hs10 := hV.1.2
  have hp12 := hV.2.2.2.2.2.1.2.1
  have hf20 := hV.2.2.2.2.2.2.1
  have hd3 := hV.2.2.2.2.1.2
  refine lv_aload_n hx hb dX5_makeFile_0 rfl (lv_at hl 0 rfl) ?_
  refine lv_aload_n hx hb dX5_makeFile_1 rfl (lv_at hl 0 rfl) ?_
  refine lv_iload_n hx hb dX5_makeFile_2 rfl (lv_at hl 1 rfl) ?_
  refine rn_cV (As := [.int (nI j)]) (rest := [.ref m0]) 1 hx hb hml hown hts hG (m_isProcess l ((nI j))) gX5_makeFile_X5_isProcess rfl ⟨rfl, rfl⟩ (by decide +kernel) ⟨Nat.le_of_ble_eq_true rfl, Nat.le_of_ble_eq_true rfl⟩ hF hF.1 rfl rfl hl.1 rfl (Nat.le_of_ble_eq_true rfl) ⟨by decide, by decide⟩ dX5_makeFile_3 ?_
  refine W.eq (g2 := F0 m 6 ls [.int (rn_b (rn_in ((nI j)) 0 (nI σ.pn - 1))), .ref m0]) rfl ?_
  refine rn_top (y := .int 1) (congrArg Value.int (by rw [rn_ok_t (by omega) hj0]; rfl)) ?_
  refine lv_if_ne (tgt := 13) hx hb dX5_makeFile_6 (by decide) (fun c_6 => ?_) (fun c_6 => ?_)
  · refine lv_iload_n hx hb dX5_makeFile_13 rfl (lv_at hl 2 rfl) ?_
    refine lv_iconst (v := 0) hx hb dX5_makeFile_14 (by decide) ?_
    refine lv_bipush (v := 15) hx hb dX5_makeFile_15 (by decide +kernel) ?_
    refine rn_cS (As := [.int (nI k), .int 0, .int 15]) (rest := [.ref m0]) 3 hx hb hml hown hts hG (m_in l ((nI k)) 0 15) gX5_makeFile_X5_in rfl ⟨rfl, rfl⟩ (by decide +kernel) ⟨Nat.le_of_ble_eq_true rfl, Nat.le_of_ble_eq_true rfl⟩ trivial rfl hl.1 rfl (Nat.le_of_ble_eq_true rfl) ⟨by decide, by decide⟩ dX5_makeFile_17 ?_
    refine W.eq (g2 := F0 m 20 ls [.int (rn_b (rn_in ((nI k)) 0 15)), .ref m0]) rfl ?_
    refine rn_top (y := .int 1) (congrArg Value.int (by rw [show (rn_in ((nI k)) 0 15) = true from rn_rng_t (n := 15) hk0 (by omega)]; rfl)) ?_
    refine lv_if_ne (tgt := 27) hx hb dX5_makeFile_20 (by decide) (fun c_20 => ?_) (fun c_20 => ?_)
    · refine lv_aload_n hx hb dX5_makeFile_27 rfl (lv_at hl 0 rfl) ?_
      refine rn_get (ci := 5) (v := .int (nI σ.fn)) (C := RX5) (T := TX5) (N := 18) hx hb hts iw_X5_makeFile_5 hown hG hF.1 rfl 13 (by decide) fw_X5_makeFile_63 rfl dX5_makeFile_28 ?_
      refine lv_bipush (v := 20) hx hb dX5_makeFile_31 (by decide +kernel) ?_
      refine lv_icmp_ne (tgt := 40) hx hb dX5_makeFile_33 (by decide) (fun c_33 => ?_) (fun c_33 => ?_)
      · refine lv_iconst (v := 0) hx hb dX5_makeFile_40 (by decide) ?_
        refine rn_wV (As := [.int 0]) (rest := []) 1 hx hb hml hown hts hG hS (m_refused l 0) (fun x hx => by rw [show x = m0 from hx]; exact rn_mA_0) gX5_makeFile_X5_refused rfl ⟨rfl, rfl⟩ (by decide +kernel) ⟨Nat.le_of_ble_eq_true rfl, Nat.le_of_ble_eq_true rfl⟩ hF hF.1 rfl rfl hl.1 rfl (Nat.le_of_ble_eq_true rfl) ⟨by decide, by decide⟩ dX5_makeFile_41 (fun H locs hP1 hz hk hS => ?_)
        refine W.eq (g2 := F0 m 44 ls [.int (rn_b (decide (0 ≠ 0)))]) rfl ?_
        have hF := hP1
        refine rn_top (y := .int 0) (congrArg Value.int (rfl)) ?_
        refine lv_if_eq (tgt := 49) hx hb dX5_makeFile_44 (by decide) (fun c_44 => ?_) (fun c_44 => ?_)
        · refine lv_aload_n hx hb dX5_makeFile_49 rfl (lv_at hl 0 rfl) ?_
          refine lv_aload_n hx hb dX5_makeFile_50 rfl (lv_at hl 0 rfl) ?_
          refine rn_get (ci := 5) (v := .ref (ma 6)) (C := RX5) (T := TX5) (N := 18) hx hb hts iw_X5_makeFile_5 hown hG hF.1 rfl 10 (by decide) fw_X5_makeFile_35 rfl dX5_makeFile_51 ?_
          refine lv_iload_n hx hb dX5_makeFile_54 rfl (lv_at hl 1 rfl) ?_
          refine rn_iald (j := j) hx hb hG (show va_at D vwCl (ma 6, .inl (cI, 12, .inl (V 6))) _ from hF.2.1 6 (by decide)) 0 rfl (by omega) (by decide) dX5_makeFile_55 ?_
          refine rn_top (y := .int (nI (σ.pl j))) (congrArg Value.int (hM.2.2.2.2.2.1 j hj0).1) ?_
          refine lv_aload_n hx hb dX5_makeFile_56 rfl (lv_at hl 0 rfl) ?_
          refine rn_get (ci := 5) (v := .ref (ma 7)) (C := RX5) (T := TX5) (N := 18) hx hb hts iw_X5_makeFile_5 hown hG hF.1 rfl 11 (by decide) fw_X5_makeFile_38 rfl dX5_makeFile_57 ?_
          refine lv_iload_n hx hb dX5_makeFile_60 rfl (lv_at hl 1 rfl) ?_
          refine rn_iald (j := j) hx hb hG (show va_at D vwCl (ma 7, .inl (cI, 12, .inl (V 7))) _ from hF.2.1 7 (by decide)) 0 rfl (by omega) (by decide) dX5_makeFile_61 ?_
          refine rn_top (y := .int (nI (σ.pu j))) (congrArg Value.int (hM.2.2.2.2.2.1 j hj0).2.1) ?_
          refine rn_cV (As := [.int (nI (σ.pl j)), .int (nI (σ.pu j))]) (rest := []) 2 hx hb hml hown hts hG (m_seen l hV hM (hV.2.2.2.2.2.1.2.2 j hj0).1 (y := σ.pu j) (hV.2.2.2.2.2.1.2.2 j hj0).2) gX5_makeFile_X5_seen rfl ⟨rfl, rfl⟩ (by decide +kernel) ⟨Nat.le_of_ble_eq_true rfl, Nat.le_of_ble_eq_true rfl⟩ hF hF.1 rfl rfl hl.1 rfl (Nat.le_of_ble_eq_true rfl) ⟨by decide, by decide⟩ dX5_makeFile_62 ?_
          refine W.eq (g2 := F0 m 65 ls [.int (nI (rn_see σ (σ.pl j) (σ.pu j)))]) rfl ?_
          refine lv_sipush (v := 999) hx hb dX5_makeFile_65 (by decide +kernel) ?_
          refine lv_icmp_ne (tgt := 78) hx hb dX5_makeFile_68 (by decide) (fun c_68 => ?_) (fun c_68 => ?_)
          · rw [rn_nI999 (rn_see_le _ _ _)] at c_68
            refine lv_aload_n hx hb dX5_makeFile_78 rfl (lv_at hl 0 rfl) ?_
            refine rn_get (ci := 5) (v := .ref (ma 9)) (C := RX5) (T := TX5) (N := 18) hx hb hts iw_X5_makeFile_5 hown hG hF.1 rfl 14 (by decide) fw_X5_makeFile_44 rfl dX5_makeFile_79 ?_
            refine lv_aload_n hx hb dX5_makeFile_82 rfl (lv_at hl 0 rfl) ?_
            refine rn_get (ci := 5) (v := .int (nI σ.fn)) (C := RX5) (T := TX5) (N := 18) hx hb hts iw_X5_makeFile_5 hown hG hF.1 rfl 13 (by decide) fw_X5_makeFile_63 rfl dX5_makeFile_83 ?_
            refine lv_aload_n hx hb dX5_makeFile_86 rfl (lv_at hl 0 rfl) ?_
            refine rn_get (ci := 5) (v := .ref (ma 7)) (C := RX5) (T := TX5) (N := 18) hx hb hts iw_X5_makeFile_5 hown hG hF.1 rfl 11 (by decide) fw_X5_makeFile_38 rfl dX5_makeFile_87 ?_
            refine lv_iload_n hx hb dX5_makeFile_90 rfl (lv_at hl 1 rfl) ?_
            refine rn_iald (j := j) hx hb hG (show va_at D vwCl (ma 7, .inl (cI, 12, .inl (V 7))) _ from hF.2.1 7 (by decide)) 0 rfl (by omega) (by decide) dX5_makeFile_91 ?_
            refine rn_top (y := .int (nI (σ.pu j))) (congrArg Value.int (hM.2.2.2.2.2.1 j hj0).2.1) ?_
            refine rn_iast (A := (rn_mA m0 ma)) (j := σ.fn) (x := (nI (σ.pu j))) (g := V 9) (n := 20) hx hb hG hS (rn_mA_k 9 (by decide)) (show va_at D vwCl (ma 9, .inl (cI, 20, .inl (V 9))) _ from hF.2.1 9 (by decide)) 0 rfl (by omega) (by decide) dX5_makeFile_92 (fun H locs hat hz ho hS => ?_)
            have hF := hF.st (k := 9) (by decide) hat ho
            refine lv_aload_n hx hb dX5_makeFile_93 rfl (lv_at hl 0 rfl) ?_
            refine rn_get (ci := 5) (v := .ref (ma 10)) (C := RX5) (T := TX5) (N := 18) hx hb hts iw_X5_makeFile_5 hown hG hF.1 rfl 15 (by decide) fw_X5_makeFile_47 rfl dX5_makeFile_94 ?_
            refine lv_aload_n hx hb dX5_makeFile_97 rfl (lv_at hl 0 rfl) ?_
            refine rn_get (ci := 5) (v := .int (nI σ.fn)) (C := RX5) (T := TX5) (N := 18) hx hb hts iw_X5_makeFile_5 hown hG hF.1 rfl 13 (by decide) fw_X5_makeFile_63 rfl dX5_makeFile_98 ?_
            refine lv_iload_n hx hb dX5_makeFile_101 rfl (lv_at hl 2 rfl) ?_
            refine rn_iast (A := (rn_mA m0 ma)) (j := σ.fn) (x := (nI k)) (g := V 10) (n := 20) hx hb hG hS (rn_mA_k 10 (by decide)) (show va_at D vwCl (ma 10, .inl (cI, 20, .inl (V 10))) _ from hF.2.1 10 (by decide)) 0 rfl (by omega) (by decide) dX5_makeFile_102 (fun H locs hat hz ho hS => ?_)
            have hF := hF.st (k := 10) (by decide) hat ho
            refine lv_aload_n hx hb dX5_makeFile_103 rfl (lv_at hl 0 rfl) ?_
            refine lv_dup hx hb dX5_makeFile_104 rfl ?_
            refine rn_get (ci := 5) (v := .int (nI σ.fn)) (C := RX5) (T := TX5) (N := 18) hx hb hts iw_X5_makeFile_5 hown hG hF.1 rfl 13 (by decide) fw_X5_makeFile_63 rfl dX5_makeFile_105 ?_
            refine lv_iconst (v := 1) hx hb dX5_makeFile_108 (by decide) ?_
            refine lv_iadd hx hb dX5_makeFile_109 ?_
            refine rn_top (y := .int (nI (σ.fn + 1))) (congrArg Value.int (nI_1 _)) ?_
            refine rn_put (A := (rn_mA m0 ma)) (ci := 5) (v := .int (nI (σ.fn + 1))) (C := RX5) (T := TX5) (N := 18) (fs' := [.int 0, .int (nI σ.sn), .ref (ma 0), .ref (ma 1), .ref (ma 2), .ref (ma 3), .ref (ma 4), .ref (ma 5), .int (nI σ.sd.length), .int (nI σ.pn), .ref (ma 6), .ref (ma 7), .ref (ma 8), .int (nI (σ.fn + 1)), .ref (ma 9), .ref (ma 10), .int σ.rc, .int σ.la]) hx hb hts iw_X5_makeFile_5 tyX5 tyX5_ok nmX5 hown hG hS rn_mA_0 hF.1 rfl 13 (by decide) fw_X5_makeFile_63 (Or.inl rfl) rfl rfl (Nat.le_of_ble_eq_true rfl) rfl dX5_makeFile_110 (fun H locs hat hz ho hS => ?_)
            have hF := hF.put hat ho
            refine lv_aload_n hx hb dX5_makeFile_113 rfl (lv_at hl 0 rfl) ?_
            refine rn_get (ci := 5) (v := .int (nI (σ.fn + 1))) (C := RX5) (T := TX5) (N := 18) hx hb hts iw_X5_makeFile_5 hown hG hF.1 rfl 13 (by decide) fw_X5_makeFile_63 rfl dX5_makeFile_114 ?_
            refine lv_iconst (v := 1) hx hb dX5_makeFile_117 (by decide) ?_
            refine lv_isub hx hb dX5_makeFile_118 ?_
            refine rn_top (y := .int (nI σ.fn)) (congrArg Value.int (nI_pred _)) ?_
            have hM9 : rn_Mr (rn_addFile σ j (nI k)) (va_up (va_up V 9 (upd (V 9) σ.fn ((nI (σ.pu j))))) 10 (upd (V 10) σ.fn ((nI k)))) := rn_Mr.addFile hM (fun i => rfl) (fun i => rfl) (fun q a9 a10 => by simp [va_up, a9, a10])
            have ho9 : rn_o_makeFile σ j (nI k) = ((nI σ.fn), rn_addFile σ j (nI k)) := by rw [rn_o_makeFile, if_neg c_68]
            exact rn_Wiret hx hb hr rfl hlocks hS (by decide) (by decide) (by rw [ho9]) (by rw [ho9]; exact ⟨_, hM9, hF⟩) dX5_makeFile_119
          · rw [rn_nI999 (rn_see_le _ _ _)] at c_68
            refine lv_aload_n hx hb dX5_makeFile_71 rfl (lv_at hl 0 rfl) ?_
            refine lv_bipush (v := (-2)) hx hb dX5_makeFile_72 (by decide +kernel) ?_
            refine rn_wV (As := [.int (-2)]) (rest := []) 1 hx hb hml hown hts hG hS (m_told l ((-2))) (fun x hx => by rw [show x = m0 from hx]; exact rn_mA_0) gX5_makeFile_X5_told rfl ⟨rfl, rfl⟩ (by decide +kernel) ⟨Nat.le_of_ble_eq_true rfl, Nat.le_of_ble_eq_true rfl⟩ hF hF.1 rfl rfl hl.1 rfl (Nat.le_of_ble_eq_true rfl) ⟨by decide, by decide⟩ dX5_makeFile_74 (fun H locs hP1 hz hk hS => ?_)
            refine W.eq (g2 := F0 m 77 ls [.int (-2)]) rfl ?_
            have hF := hP1
            have ho9 : rn_o_makeFile σ j (nI k) = ((-2), rn_ref σ ((-2))) := by rw [rn_o_makeFile, if_pos c_68]
            exact rn_Wiret hx hb hr rfl hlocks hS (by decide) (by decide) (by rw [ho9]) (by rw [ho9]; exact ⟨_, hM, hF⟩) dX5_makeFile_77
        · exact absurd c_44 (by decide)
      · exact absurd ((nI_eq (b := 20) (by omega) (by omega)).mp c_33) (by omega)
    · exact absurd c_20 (by decide)
  · exact absurd c_6 (by decide)

set_option maxHeartbeats 4000000 in
set_option maxRecDepth 100000 in
theorem n_line (l : Launch) {D : va_G} {cI : ClassId} {m0 : Nat} {ma : Nat → Nat} {rf : Int32} {V : Nat → Nat → Int32} {σ : rn_St} (hV : rn_V σ) (hM : rn_Mr σ V) {a b c9 : Nat} (ha0 : a ≤ 998) (hb0 : b ≤ 998) (hc0 : 1 ≤ c9 ∧ c9 ≤ 999) (hfit : a + c9 ≤ 999) (hfit2 : b + c9 ≤ 999) (hn0 : σ.sd.length < 3) (sz : Nat) : rn_W l yX5_line wsX5_line ({ frames := 4, cells := 0, slots := 0, locals := 96 } : Room) D [(cI, .int)] ((rn_MW D cI m0 ma rf (nI σ.sn) (nI σ.sd.length) (nI σ.pn) (nI σ.fn) σ.rc σ.la V)) [.ref m0, .int (nI a), .int (nI b), .int (nI c9)] (some (.int (nI (σ.sd.length + 1)))) (rn_MP D cI m0 ma 0 (rn_draft σ ((a, b, c9) :: σ.sd))) (rn_mA m0 ma) 0 0 sz := by
  refine rn_W.ofW (cc := cX5_line) (maxL := 7) (ret := (some .int)) (by decide) rfl (Nat.le_of_ble_eq_true rfl) (fun p e s m below meth c ls hx hb hr hml hts hown hlocks hin hsz hF hG hS hl => ?_)
  have hl : lv_has ls 7 [(0, .ref m0), (1, .int (nI a)), (2, .int (nI b)), (3, .int (nI c9))] := hl
  have hs10 := hV.1.2
  have hp12 := hV.2.2.2.2.2.1.2.1
  have hf20 := hV.2.2.2.2.2.2.1
  have hd3 := hV.2.2.2.2.1.2
  refine lv_iload_n hx hb dX5_line_0 rfl (lv_at hl 1 rfl) ?_
  refine rn_cS (As := [.int (nI a)]) (rest := []) 1 hx hb hml hown hts hG (m_isNumber l ((nI a))) gX5_line_X5_isNumber rfl ⟨rfl, rfl⟩ (by decide +kernel) ⟨Nat.le_of_ble_eq_true rfl, Nat.le_of_ble_eq_true rfl⟩ trivial rfl hl.1 rfl (Nat.le_of_ble_eq_true rfl) ⟨by decide, by decide⟩ dX5_line_1 ?_
  refine W.eq (g2 := F0 m 4 ls [.int (rn_b (rn_in ((nI a)) 0 998))]) rfl ?_
  refine rn_top (y := .int 1) (congrArg Value.int (by rw [show rn_in ((nI a)) 0 998 = true from rn_rng_t (n := 998) ha0 (by omega)]; rfl)) ?_
  refine lv_if_eq (tgt := 29) hx hb dX5_line_4 (by decide) (fun c_4 => ?_) (fun c_4 => ?_)
  · exact absurd c_4 (by decide)
  · refine lv_iload_n hx hb dX5_line_7 rfl (lv_at hl 2 rfl) ?_
    refine rn_cS (As := [.int (nI b)]) (rest := []) 1 hx hb hml hown hts hG (m_isNumber l ((nI b))) gX5_line_X5_isNumber rfl ⟨rfl, rfl⟩ (by decide +kernel) ⟨Nat.le_of_ble_eq_true rfl, Nat.le_of_ble_eq_true rfl⟩ trivial rfl hl.1 rfl (Nat.le_of_ble_eq_true rfl) ⟨by decide, by decide⟩ dX5_line_8 ?_
    refine W.eq (g2 := F0 m 11 ls [.int (rn_b (rn_in ((nI b)) 0 998))]) rfl ?_
    refine rn_top (y := .int 1) (congrArg Value.int (by rw [show rn_in ((nI b)) 0 998 = true from rn_rng_t (n := 998) hb0 (by omega)]; rfl)) ?_
    refine lv_if_eq (tgt := 29) hx hb dX5_line_11 (by decide) (fun c_11 => ?_) (fun c_11 => ?_)
    · exact absurd c_11 (by decide)
    · refine lv_iload_n hx hb dX5_line_14 rfl (lv_at hl 3 rfl) ?_
      refine lv_iconst (v := 1) hx hb dX5_line_15 (by decide) ?_
      refine lv_sipush (v := 999) hx hb dX5_line_16 (by decide +kernel) ?_
      refine rn_cS (As := [.int (nI c9), .int 1, .int 999]) (rest := []) 3 hx hb hml hown hts hG (m_in l ((nI c9)) 1 999) gX5_line_X5_in rfl ⟨rfl, rfl⟩ (by decide +kernel) ⟨Nat.le_of_ble_eq_true rfl, Nat.le_of_ble_eq_true rfl⟩ trivial rfl hl.1 rfl (Nat.le_of_ble_eq_true rfl) ⟨by decide, by decide⟩ dX5_line_19 ?_
      refine W.eq (g2 := F0 m 22 ls [.int (rn_b (rn_in ((nI c9)) 1 999))]) rfl ?_
      refine rn_top (y := .int 1) (congrArg Value.int (by rw [show (rn_in ((nI c9)) 1 999) = true from decide_eq_true ⟨(nI_leI (a := 1) (by omega) (by omega)).mpr hc0.1, (nI_leI (b := 999) (by omega) (by omega)).mpr hc0.2⟩]; rfl)) ?_
      refine lv_if_eq (tgt := 29) hx hb dX5_line_22 (by decide) (fun c_22 => ?_) (fun c_22 => ?_)
      · exact absurd c_22 (by decide)
      · refine lv_iconst (v := 1) hx hb dX5_line_25 (by decide) ?_
        refine lv_goto (tgt := 30) hx hb dX5_line_26 (by decide) ?_
        refine lv_istore (lv' := [(4, .int 1), (0, .ref m0), (1, .int (nI a)), (2, .int (nI b)), (3, .int (nI c9))]) hx hb dX5_line_30 hl (by decide) rfl (fun ls hl => ?_)
        refine lv_iload hx hb dX5_line_32 (lv_at hl 0 rfl) ?_
        refine lv_if_eq (tgt := 59) hx hb dX5_line_34 (by decide) (fun c_34 => ?_) (fun c_34 => ?_)
        · exact absurd c_34 (by decide)
        · refine lv_iload_n hx hb dX5_line_37 rfl (lv_at hl 2 rfl) ?_
          refine lv_iload_n hx hb dX5_line_38 rfl (lv_at hl 4 rfl) ?_
          refine lv_iadd hx hb dX5_line_39 ?_
          refine rn_top (y := .int (nI (a + c9))) (congrArg Value.int (nI_add _ _)) ?_
          refine lv_sipush (v := 999) hx hb dX5_line_40 (by decide +kernel) ?_
          refine lv_icmp_gt (tgt := 59) hx hb dX5_line_43 (by decide) (fun c_43 => ?_) (fun c_43 => ?_)
          · exact absurd ((nI_ltI (a := 999) (by omega) (by omega)).mp c_43) (by omega)
          · refine lv_iload_n hx hb dX5_line_46 rfl (lv_at hl 3 rfl) ?_
            refine lv_iload_n hx hb dX5_line_47 rfl (lv_at hl 4 rfl) ?_
            refine lv_iadd hx hb dX5_line_48 ?_
            refine rn_top (y := .int (nI (b + c9))) (congrArg Value.int (nI_add _ _)) ?_
            refine lv_sipush (v := 999) hx hb dX5_line_49 (by decide +kernel) ?_
            refine lv_icmp_gt (tgt := 59) hx hb dX5_line_52 (by decide) (fun c_52 => ?_) (fun c_52 => ?_)
            · exact absurd ((nI_ltI (a := 999) (by omega) (by omega)).mp c_52) (by omega)
            · refine lv_iconst (v := 1) hx hb dX5_line_55 (by decide) ?_
              refine lv_goto (tgt := 60) hx hb dX5_line_56 (by decide) ?_
              refine lv_istore (lv' := [(5, .int 1), (4, .int 1), (0, .ref m0), (1, .int (nI a)), (2, .int (nI b)), (3, .int (nI c9))]) hx hb dX5_line_60 hl (by decide) rfl (fun ls hl => ?_)
              refine lv_aload_n hx hb dX5_line_62 rfl (lv_at hl 2 rfl) ?_
              refine lv_iload hx hb dX5_line_63 (lv_at hl 0 rfl) ?_
              refine lv_if_ne (tgt := 72) hx hb dX5_line_65 (by decide) (fun c_65 => ?_) (fun c_65 => ?_)
              · refine lv_aload_n hx hb dX5_line_72 rfl (lv_at hl 2 rfl) ?_
                refine rn_get (ci := 5) (v := .int (nI σ.sd.length)) (C := RX5) (T := TX5) (N := 18) hx hb hts iw_X5_line_5 hown hG hF.1 rfl 8 (by decide) fw_X5_line_76 rfl dX5_line_73 ?_
                refine lv_iconst (v := 3) hx hb dX5_line_76 (by decide) ?_
                refine lv_icmp_ne (tgt := 84) hx hb dX5_line_77 (by decide) (fun c_77 => ?_) (fun c_77 => ?_)
                · refine lv_iconst (v := 0) hx hb dX5_line_84 (by decide) ?_
                  refine rn_wV (As := [.int 0]) (rest := []) 1 hx hb hml hown hts hG hS (m_refused l 0) (fun x hx => by rw [show x = m0 from hx]; exact rn_mA_0) gX5_line_X5_refused rfl ⟨rfl, rfl⟩ (by decide +kernel) ⟨Nat.le_of_ble_eq_true rfl, Nat.le_of_ble_eq_true rfl⟩ hF hF.1 rfl rfl hl.1 rfl (Nat.le_of_ble_eq_true rfl) ⟨by decide, by decide⟩ dX5_line_85 (fun H locs hP1 hz hk hS => ?_)
                  refine W.eq (g2 := F0 m 88 ls [.int (rn_b (decide (0 ≠ 0)))]) rfl ?_
                  have hF := hP1
                  refine rn_top (y := .int 0) (congrArg Value.int (rfl)) ?_
                  refine lv_if_eq (tgt := 93) hx hb dX5_line_88 (by decide) (fun c_88 => ?_) (fun c_88 => ?_)
                  · refine lv_bipush (v := 30) hx hb dX5_line_93 (by decide +kernel) ?_
                    refine lv_aload_n hx hb dX5_line_95 rfl (lv_at hl 2 rfl) ?_
                    refine rn_get (ci := 5) (v := .int (nI σ.sd.length)) (C := RX5) (T := TX5) (N := 18) hx hb hts iw_X5_line_5 hown hG hF.1 rfl 8 (by decide) fw_X5_line_76 rfl dX5_line_96 ?_
                    refine lv_iadd hx hb dX5_line_99 ?_
                    refine rn_top (y := .int (nI (30 + σ.sd.length))) (congrArg Value.int (nI_add 30 _)) ?_
                    refine lv_istore (lv' := [(6, .int (nI (30 + σ.sd.length))), (5, .int 1), (4, .int 1), (0, .ref m0), (1, .int (nI a)), (2, .int (nI b)), (3, .int (nI c9))]) hx hb dX5_line_100 hl (by decide) rfl (fun ls hl => ?_)
                    refine lv_aload_n hx hb dX5_line_102 rfl (lv_at hl 3 rfl) ?_
                    refine rn_get (ci := 5) (v := .ref (ma 3)) (C := RX5) (T := TX5) (N := 18) hx hb hts iw_X5_line_5 hown hG hF.1 rfl 5 (by decide) fw_X5_line_23 rfl dX5_line_103 ?_
                    refine lv_iload hx hb dX5_line_106 (lv_at hl 0 rfl) ?_
                    refine lv_iload_n hx hb dX5_line_108 rfl (lv_at hl 4 rfl) ?_
                    refine rn_iast (A := (rn_mA m0 ma)) (j := (30 + σ.sd.length)) (x := (nI a)) (g := V 3) (n := 33) hx hb hG hS (rn_mA_k 3 (by decide)) (show va_at D vwCl (ma 3, .inl (cI, 33, .inl (V 3))) _ from hF.2.1 3 (by decide)) 0 rfl (by omega) (by decide) dX5_line_109 (fun H locs hat hz ho hS => ?_)
                    have hF := hF.st (k := 3) (by decide) hat ho
                    refine lv_aload_n hx hb dX5_line_110 rfl (lv_at hl 3 rfl) ?_
                    refine rn_get (ci := 5) (v := .ref (ma 4)) (C := RX5) (T := TX5) (N := 18) hx hb hts iw_X5_line_5 hown hG hF.1 rfl 6 (by decide) fw_X5_line_26 rfl dX5_line_111 ?_
                    refine lv_iload hx hb dX5_line_114 (lv_at hl 0 rfl) ?_
                    refine lv_iload_n hx hb dX5_line_116 rfl (lv_at hl 5 rfl) ?_
                    refine rn_iast (A := (rn_mA m0 ma)) (j := (30 + σ.sd.length)) (x := (nI b)) (g := V 4) (n := 33) hx hb hG hS (rn_mA_k 4 (by decide)) (show va_at D vwCl (ma 4, .inl (cI, 33, .inl (V 4))) _ from hF.2.1 4 (by decide)) 0 rfl (by omega) (by decide) dX5_line_117 (fun H locs hat hz ho hS => ?_)
                    have hF := hF.st (k := 4) (by decide) hat ho
                    refine lv_aload_n hx hb dX5_line_118 rfl (lv_at hl 3 rfl) ?_
                    refine rn_get (ci := 5) (v := .ref (ma 5)) (C := RX5) (T := TX5) (N := 18) hx hb hts iw_X5_line_5 hown hG hF.1 rfl 7 (by decide) fw_X5_line_29 rfl dX5_line_119 ?_
                    refine lv_iload hx hb dX5_line_122 (lv_at hl 0 rfl) ?_
                    refine lv_iload_n hx hb dX5_line_124 rfl (lv_at hl 6 rfl) ?_
                    refine rn_iast (A := (rn_mA m0 ma)) (j := (30 + σ.sd.length)) (x := (nI c9)) (g := V 5) (n := 33) hx hb hG hS (rn_mA_k 5 (by decide)) (show va_at D vwCl (ma 5, .inl (cI, 33, .inl (V 5))) _ from hF.2.1 5 (by decide)) 0 rfl (by omega) (by decide) dX5_line_125 (fun H locs hat hz ho hS => ?_)
                    have hF := hF.st (k := 5) (by decide) hat ho
                    refine lv_aload_n hx hb dX5_line_126 rfl (lv_at hl 3 rfl) ?_
                    refine lv_dup hx hb dX5_line_127 rfl ?_
                    refine rn_get (ci := 5) (v := .int (nI σ.sd.length)) (C := RX5) (T := TX5) (N := 18) hx hb hts iw_X5_line_5 hown hG hF.1 rfl 8 (by decide) fw_X5_line_76 rfl dX5_line_128 ?_
                    refine lv_iconst (v := 1) hx hb dX5_line_131 (by decide) ?_
                    refine lv_iadd hx hb dX5_line_132 ?_
                    refine rn_top (y := .int (nI (σ.sd.length + 1))) (congrArg Value.int (nI_1 _)) ?_
                    refine rn_put (A := (rn_mA m0 ma)) (ci := 5) (v := .int (nI (σ.sd.length + 1))) (C := RX5) (T := TX5) (N := 18) (fs' := [.int 0, .int (nI σ.sn), .ref (ma 0), .ref (ma 1), .ref (ma 2), .ref (ma 3), .ref (ma 4), .ref (ma 5), .int (nI (σ.sd.length + 1)), .int (nI σ.pn), .ref (ma 6), .ref (ma 7), .ref (ma 8), .int (nI σ.fn), .ref (ma 9), .ref (ma 10), .int σ.rc, .int σ.la]) hx hb hts iw_X5_line_5 tyX5 tyX5_ok nmX5 hown hG hS rn_mA_0 hF.1 rfl 8 (by decide) fw_X5_line_76 (Or.inl rfl) rfl rfl (Nat.le_of_ble_eq_true rfl) rfl dX5_line_133 (fun H locs hat hz ho hS => ?_)
                    have hF := hF.put hat ho
                    refine lv_aload_n hx hb dX5_line_136 rfl (lv_at hl 3 rfl) ?_
                    refine rn_get (ci := 5) (v := .int (nI (σ.sd.length + 1))) (C := RX5) (T := TX5) (N := 18) hx hb hts iw_X5_line_5 hown hG hF.1 rfl 8 (by decide) fw_X5_line_76 rfl dX5_line_137 ?_
                    have hM9 : rn_Mr (rn_draft σ ((a, b, c9) :: σ.sd)) (va_up (va_up (va_up V 3 (upd (V 3) ((30 + σ.sd.length)) ((nI a)))) 4 (upd (V 4) ((30 + σ.sd.length)) ((nI b)))) 5 (upd (V 5) ((30 + σ.sd.length)) ((nI c9)))) := rn_Mr.line hV hn0 hM (fun i => rfl) (fun i => rfl) (fun i => rfl) (fun q a3 a4 a5 => by simp [va_up, a3, a4, a5])
                    exact rn_Wiret hx hb hr rfl hlocks hS (by decide) (by decide) rfl ⟨_, hM9, hF⟩ dX5_line_140
                  · exact absurd c_88 (by decide)
                · exact absurd ((nI_eq (b := 3) (by omega) (by omega)).mp c_77) (by omega)
              · exact absurd c_65 (by decide)

set_option maxHeartbeats 4000000 in
set_option maxRecDepth 100000 in
theorem n_drop (l : Launch) {D : va_G} {cI : ClassId} {m0 : Nat} {ma : Nat → Nat} {rf : Int32} {V : Nat → Nat → Int32} {σ : rn_St} (hV : rn_V σ) (hM : rn_Mr σ V) {j : Nat} {x : Int32} (hj0 : j < σ.pn) (hx0 : ¬ x < 0 ∧ x ≤ 15) (sz : Nat) : rn_W l yX5_drop wsX5_drop ({ frames := 4, cells := 0, slots := 0, locals := 96 } : Room) D [(cI, .int)] ((rn_MW D cI m0 ma rf (nI σ.sn) (nI σ.sd.length) (nI σ.pn) (nI σ.fn) σ.rc σ.la V)) [.ref m0, .int (nI j), .int x] (some (.int (σ.pr j &&& (x ^^^ -1)))) (rn_MP D cI m0 ma 0 (rn_proc σ j (σ.pl j) (σ.pu j) (σ.pr j &&& (x ^^^ -1)))) (rn_mA m0 ma) 0 0 sz := by
  refine rn_W.ofW (cc := cX5_drop) (maxL := 3) (ret := (some .int)) (by decide) rfl (Nat.le_of_ble_eq_true rfl) (fun p e s m below meth c ls hx hb hr hml hts hown hlocks hin hsz hF hG hS hl => ?_)
  have hl : lv_has ls 3 [(0, .ref m0), (1, .int (nI j)), (2, .int x)] := hl
  have hs10 := hV.1.2
  have hp12 := hV.2.2.2.2.2.1.2.1
  have hf20 := hV.2.2.2.2.2.2.1
  have hd3 := hV.2.2.2.2.1.2
  refine lv_aload_n hx hb dX5_drop_0 rfl (lv_at hl 0 rfl) ?_
  refine lv_aload_n hx hb dX5_drop_1 rfl (lv_at hl 0 rfl) ?_
  refine lv_iload_n hx hb dX5_drop_2 rfl (lv_at hl 1 rfl) ?_
  refine rn_cV (As := [.int (nI j)]) (rest := [.ref m0]) 1 hx hb hml hown hts hG (m_isProcess l ((nI j))) gX5_drop_X5_isProcess rfl ⟨rfl, rfl⟩ (by decide +kernel) ⟨Nat.le_of_ble_eq_true rfl, Nat.le_of_ble_eq_true rfl⟩ hF hF.1 rfl rfl hl.1 rfl (Nat.le_of_ble_eq_true rfl) ⟨by decide, by decide⟩ dX5_drop_3 ?_
  refine W.eq (g2 := F0 m 6 ls [.int (rn_b (rn_in ((nI j)) 0 (nI σ.pn - 1))), .ref m0]) rfl ?_
  refine rn_top (y := .int 1) (congrArg Value.int (by rw [rn_ok_t (by omega) hj0]; rfl)) ?_
  refine lv_if_ne (tgt := 13) hx hb dX5_drop_6 (by decide) (fun c_6 => ?_) (fun c_6 => ?_)
  · refine lv_iload_n hx hb dX5_drop_13 rfl (lv_at hl 2 rfl) ?_
    refine lv_iconst (v := 0) hx hb dX5_drop_14 (by decide) ?_
    refine lv_bipush (v := 15) hx hb dX5_drop_15 (by decide +kernel) ?_
    refine rn_cS (As := [.int x, .int 0, .int 15]) (rest := [.ref m0]) 3 hx hb hml hown hts hG (m_in l x 0 15) gX5_drop_X5_in rfl ⟨rfl, rfl⟩ (by decide +kernel) ⟨Nat.le_of_ble_eq_true rfl, Nat.le_of_ble_eq_true rfl⟩ trivial rfl hl.1 rfl (Nat.le_of_ble_eq_true rfl) ⟨by decide, by decide⟩ dX5_drop_17 ?_
    refine W.eq (g2 := F0 m 20 ls [.int (rn_b (rn_in x 0 15)), .ref m0]) rfl ?_
    refine rn_top (y := .int 1) (congrArg Value.int (by rw [show (rn_in x 0 15) = true from decide_eq_true ⟨rn_nlt.mp hx0.1, hx0.2⟩]; rfl)) ?_
    refine lv_if_eq (tgt := 27) hx hb dX5_drop_20 (by decide) (fun c_20 => ?_) (fun c_20 => ?_)
    · exact absurd c_20 (by decide)
    · refine lv_iconst (v := 0) hx hb dX5_drop_23 (by decide) ?_
      refine lv_goto (tgt := 28) hx hb dX5_drop_24 (by decide) ?_
      refine rn_wV (As := [.int 0]) (rest := []) 1 hx hb hml hown hts hG hS (m_refused l 0) (fun x hx => by rw [show x = m0 from hx]; exact rn_mA_0) gX5_drop_X5_refused rfl ⟨rfl, rfl⟩ (by decide +kernel) ⟨Nat.le_of_ble_eq_true rfl, Nat.le_of_ble_eq_true rfl⟩ hF hF.1 rfl rfl hl.1 rfl (Nat.le_of_ble_eq_true rfl) ⟨by decide, by decide⟩ dX5_drop_28 (fun H locs hP1 hz hk hS => ?_)
      refine W.eq (g2 := F0 m 31 ls [.int (rn_b (decide (0 ≠ 0)))]) rfl ?_
      have hF := hP1
      refine rn_top (y := .int 0) (congrArg Value.int (rfl)) ?_
      refine lv_if_eq (tgt := 36) hx hb dX5_drop_31 (by decide) (fun c_31 => ?_) (fun c_31 => ?_)
      · refine lv_aload_n hx hb dX5_drop_36 rfl (lv_at hl 0 rfl) ?_
        refine rn_get (ci := 5) (v := .ref (ma 8)) (C := RX5) (T := TX5) (N := 18) hx hb hts iw_X5_drop_5 hown hG hF.1 rfl 12 (by decide) fw_X5_drop_41 rfl dX5_drop_37 ?_
        refine lv_iload_n hx hb dX5_drop_40 rfl (lv_at hl 1 rfl) ?_
        refine lv_dup2_11 hx hb dX5_drop_41 rfl rfl ?_
        refine rn_iald (j := j) hx hb hG (show va_at D vwCl (ma 8, .inl (cI, 12, .inl (V 8))) _ from hF.2.1 8 (by decide)) 0 rfl (by omega) (by decide) dX5_drop_42 ?_
        refine rn_top (y := .int (σ.pr j)) (congrArg Value.int (hM.2.2.2.2.2.1 j hj0).2.2) ?_
        refine lv_iload_n hx hb dX5_drop_43 rfl (lv_at hl 2 rfl) ?_
        refine lv_iconst (v := (-1)) hx hb dX5_drop_44 (by decide) ?_
        refine lv_ixor hx hb dX5_drop_45 ?_
        refine lv_iand hx hb dX5_drop_46 ?_
        refine rn_iast (A := (rn_mA m0 ma)) (j := j) (x := ((σ.pr j) &&& (x ^^^ (-1)))) (g := V 8) (n := 12) hx hb hG hS (rn_mA_k 8 (by decide)) (show va_at D vwCl (ma 8, .inl (cI, 12, .inl (V 8))) _ from hF.2.1 8 (by decide)) 0 rfl (by omega) (by decide) dX5_drop_47 (fun H locs hat hz ho hS => ?_)
        have hF := hF.st (k := 8) (by decide) hat ho
        refine lv_aload_n hx hb dX5_drop_48 rfl (lv_at hl 0 rfl) ?_
        refine rn_get (ci := 5) (v := .ref (ma 8)) (C := RX5) (T := TX5) (N := 18) hx hb hts iw_X5_drop_5 hown hG hF.1 rfl 12 (by decide) fw_X5_drop_41 rfl dX5_drop_49 ?_
        refine lv_iload_n hx hb dX5_drop_52 rfl (lv_at hl 1 rfl) ?_
        refine rn_iald (j := j) hx hb hG (show va_at D vwCl (ma 8, .inl (cI, 12, .inl (upd (V 8) j (((σ.pr j) &&& (x ^^^ (-1))))))) _ from hF.2.1 8 (by decide)) 0 rfl (by omega) (by decide) dX5_drop_53 ?_
        refine rn_top (y := .int (σ.pr j &&& (x ^^^ -1))) (congrArg Value.int pk_us) ?_
        have hM9 : rn_Mr (rn_proc σ j (σ.pl j) (σ.pu j) (σ.pr j &&& (x ^^^ -1))) (va_up V 8 (upd (V 8) j (((σ.pr j) &&& (x ^^^ (-1)))))) := rn_Mr.proc hM (fun i hi => by by_cases e : i = j; rw [if_pos e, e]; exact (hM.2.2.2.2.2.1 j hj0).1; rw [if_neg e]; rfl) (fun i hi => by by_cases e : i = j; rw [if_pos e, e]; exact (hM.2.2.2.2.2.1 j hj0).2.1; rw [if_neg e]; rfl) (fun i hi => rfl) (fun q a6 a7 a8 => by simp [va_up, a6, a7, a8])
        exact rn_Wiret hx hb hr rfl hlocks hS (by decide) (by decide) rfl ⟨_, hM9, hF⟩ dX5_drop_54
      · exact absurd c_31 (by decide)
  · exact absurd c_6 (by decide)

set_option maxHeartbeats 4000000 in
set_option maxRecDepth 100000 in
theorem n_enter (l : Launch) {D : va_G} {cI : ClassId} {m0 : Nat} {ma : Nat → Nat} {rf : Int32} {V : Nat → Nat → Int32} {σ : rn_St} (hV : rn_V σ) (hM : rn_Mr σ V) {j i : Nat} (hj0 : j < σ.pn) (hi0 : i < σ.sn) (sz : Nat) : rn_W l yX5_enter wsX5_enter ({ frames := 4, cells := 0, slots := 0, locals := 96 } : Room) D [(cI, .int)] ((rn_MW D cI m0 ma rf (nI σ.sn) (nI σ.sd.length) (nI σ.pn) (nI σ.fn) σ.rc σ.la V)) [.ref m0, .int (nI j), .int (nI i)] (some (.int ((rn_o_enter σ j i).1))) (rn_MP D cI m0 ma 0 ((rn_o_enter σ j i).2)) (rn_mA m0 ma) 0 0 sz := by
  refine rn_W.ofW (cc := cX5_enter) (maxL := 4) (ret := (some .int)) (by decide) rfl (Nat.le_of_ble_eq_true rfl) (fun p e s m below meth c ls hx hb hr hml hts hown hlocks hin hsz hF hG hS hl => ?_)
  have hl : lv_has ls 4 [(0, .ref m0), (1, .int (nI j)), (2, .int (nI i))] := hl
  have hs10 := hV.1.2
  have hp12 := hV.2.2.2.2.2.1.2.1
  have hf20 := hV.2.2.2.2.2.2.1
  have hd3 := hV.2.2.2.2.1.2
  refine lv_aload_n hx hb dX5_enter_0 rfl (lv_at hl 0 rfl) ?_
  refine lv_aload_n hx hb dX5_enter_1 rfl (lv_at hl 0 rfl) ?_
  refine lv_iload_n hx hb dX5_enter_2 rfl (lv_at hl 1 rfl) ?_
  refine rn_cV (As := [.int (nI j)]) (rest := [.ref m0]) 1 hx hb hml hown hts hG (m_isProcess l ((nI j))) gX5_enter_X5_isProcess rfl ⟨rfl, rfl⟩ (by decide +kernel) ⟨Nat.le_of_ble_eq_true rfl, Nat.le_of_ble_eq_true rfl⟩ hF hF.1 rfl rfl hl.1 rfl (Nat.le_of_ble_eq_true rfl) ⟨by decide, by decide⟩ dX5_enter_3 ?_
  refine W.eq (g2 := F0 m 6 ls [.int (rn_b (rn_in ((nI j)) 0 (nI σ.pn - 1))), .ref m0]) rfl ?_
  refine rn_top (y := .int 1) (congrArg Value.int (by rw [rn_ok_t (by omega) hj0]; rfl)) ?_
  refine lv_if_eq (tgt := 21) hx hb dX5_enter_6 (by decide) (fun c_6 => ?_) (fun c_6 => ?_)
  · exact absurd c_6 (by decide)
  · refine lv_aload_n hx hb dX5_enter_9 rfl (lv_at hl 0 rfl) ?_
    refine lv_iload_n hx hb dX5_enter_10 rfl (lv_at hl 2 rfl) ?_
    refine rn_cV (As := [.int (nI i)]) (rest := [.ref m0]) 1 hx hb hml hown hts hG (m_isRoom l ((nI i))) gX5_enter_X5_isRoom rfl ⟨rfl, rfl⟩ (by decide +kernel) ⟨Nat.le_of_ble_eq_true rfl, Nat.le_of_ble_eq_true rfl⟩ hF hF.1 rfl rfl hl.1 rfl (Nat.le_of_ble_eq_true rfl) ⟨by decide, by decide⟩ dX5_enter_11 ?_
    refine W.eq (g2 := F0 m 14 ls [.int (rn_b (rn_in ((nI i)) 0 (nI σ.sn - 1))), .ref m0]) rfl ?_
    refine rn_top (y := .int 1) (congrArg Value.int (by rw [rn_ok_t (by omega) hi0]; rfl)) ?_
    refine lv_if_eq (tgt := 21) hx hb dX5_enter_14 (by decide) (fun c_14 => ?_) (fun c_14 => ?_)
    · exact absurd c_14 (by decide)
    · refine lv_iconst (v := 0) hx hb dX5_enter_17 (by decide) ?_
      refine lv_goto (tgt := 22) hx hb dX5_enter_18 (by decide) ?_
      refine rn_wV (As := [.int 0]) (rest := []) 1 hx hb hml hown hts hG hS (m_refused l 0) (fun x hx => by rw [show x = m0 from hx]; exact rn_mA_0) gX5_enter_X5_refused rfl ⟨rfl, rfl⟩ (by decide +kernel) ⟨Nat.le_of_ble_eq_true rfl, Nat.le_of_ble_eq_true rfl⟩ hF hF.1 rfl rfl hl.1 rfl (Nat.le_of_ble_eq_true rfl) ⟨by decide, by decide⟩ dX5_enter_22 (fun H locs hP1 hz hk hS => ?_)
      refine W.eq (g2 := F0 m 25 ls [.int (rn_b (decide (0 ≠ 0)))]) rfl ?_
      have hF := hP1
      refine rn_top (y := .int 0) (congrArg Value.int (rfl)) ?_
      refine lv_if_eq (tgt := 30) hx hb dX5_enter_25 (by decide) (fun c_25 => ?_) (fun c_25 => ?_)
      · refine lv_aload_n hx hb dX5_enter_30 rfl (lv_at hl 0 rfl) ?_
        refine lv_iload_n hx hb dX5_enter_31 rfl (lv_at hl 2 rfl) ?_
        refine lv_aload_n hx hb dX5_enter_32 rfl (lv_at hl 0 rfl) ?_
        refine rn_get (ci := 5) (v := .ref (ma 6)) (C := RX5) (T := TX5) (N := 18) hx hb hts iw_X5_enter_5 hown hG hF.1 rfl 10 (by decide) fw_X5_enter_35 rfl dX5_enter_33 ?_
        refine lv_iload_n hx hb dX5_enter_36 rfl (lv_at hl 1 rfl) ?_
        refine rn_iald (j := j) hx hb hG (show va_at D vwCl (ma 6, .inl (cI, 12, .inl (V 6))) _ from hF.2.1 6 (by decide)) 0 rfl (by omega) (by decide) dX5_enter_37 ?_
        refine rn_top (y := .int (nI (σ.pl j))) (congrArg Value.int (hM.2.2.2.2.2.1 j hj0).1) ?_
        refine rn_cV (As := [.int (nI i), .int (nI (σ.pl j))]) (rest := []) 2 hx hb hml hown hts hG (m_isInside l hV hM hi0 (b := σ.pl j) (hV.2.2.2.2.2.1.2.2 j hj0).1) gX5_enter_X5_isInside rfl ⟨rfl, rfl⟩ (by decide +kernel) ⟨Nat.le_of_ble_eq_true rfl, Nat.le_of_ble_eq_true rfl⟩ hF hF.1 rfl rfl hl.1 rfl (Nat.le_of_ble_eq_true rfl) ⟨by decide, by decide⟩ dX5_enter_38 ?_
        refine W.eq (g2 := F0 m 41 ls [.int (rn_b (rn_insO σ (σ.pl j) (rn_nx σ i)))]) rfl ?_
        refine lv_istore_n (lv' := [(3, .int (rn_b (rn_insO σ (σ.pl j) (rn_nx σ i)))), (0, .ref m0), (1, .int (nI j)), (2, .int (nI i))]) hx hb dX5_enter_41 rfl hl (by decide) rfl (fun ls hl => ?_)
        refine lv_iload_n hx hb dX5_enter_42 rfl (lv_at hl 0 rfl) ?_
        refine lv_if_eq (tgt := 57) hx hb dX5_enter_43 (by decide) (fun c_43 => ?_) (fun c_43 => ?_)
        · rw [rn_b0] at c_43
          refine lv_aload_n hx hb dX5_enter_57 rfl (lv_at hl 1 rfl) ?_
          refine lv_iload_n hx hb dX5_enter_58 rfl (lv_at hl 0 rfl) ?_
          refine lv_if_eq (tgt := 66) hx hb dX5_enter_59 (by decide) (fun c_59 => ?_) (fun c_59 => ?_)
          · refine lv_bipush (v := (-5)) hx hb dX5_enter_66 (by decide +kernel) ?_
            refine rn_wV (As := [.int (-5)]) (rest := []) 1 hx hb hml hown hts hG hS (m_told l ((-5))) (fun x hx => by rw [show x = m0 from hx]; exact rn_mA_0) gX5_enter_X5_told rfl ⟨rfl, rfl⟩ (by decide +kernel) ⟨Nat.le_of_ble_eq_true rfl, Nat.le_of_ble_eq_true rfl⟩ hF hF.1 rfl rfl hl.1 rfl (Nat.le_of_ble_eq_true rfl) ⟨by decide, by decide⟩ dX5_enter_68 (fun H locs hP1 hz hk hS => ?_)
            refine W.eq (g2 := F0 m 71 ls [.int (-5)]) rfl ?_
            have hF := hP1
            have ho9 : rn_o_enter σ j i = ((-5), rn_ref σ ((-5))) := by rw [rn_o_enter, if_pos c_43]
            exact rn_Wiret hx hb hr rfl hlocks hS (by decide) (by decide) (by rw [ho9]) (by rw [ho9]; exact ⟨_, hM, hF⟩) dX5_enter_71
          · exact absurd (by rw [c_43]; rfl) c_59
        · rw [rn_b1] at c_43
          refine lv_aload_n hx hb dX5_enter_46 rfl (lv_at hl 1 rfl) ?_
          refine lv_iload_n hx hb dX5_enter_47 rfl (lv_at hl 2 rfl) ?_
          refine lv_iload_n hx hb dX5_enter_48 rfl (lv_at hl 3 rfl) ?_
          refine rn_cV (As := [.int (nI j), .int (nI i)]) (rest := []) 2 hx hb hml hown hts hG (m_held l hV hM hj0 hi0) gX5_enter_X5_held rfl ⟨rfl, rfl⟩ (by decide +kernel) ⟨Nat.le_of_ble_eq_true rfl, Nat.le_of_ble_eq_true rfl⟩ hF hF.1 rfl rfl hl.1 rfl (Nat.le_of_ble_eq_true rfl) ⟨by decide, by decide⟩ dX5_enter_49 ?_
          refine W.eq (g2 := F0 m 52 ls [.int (rn_held σ j i)]) rfl ?_
          refine lv_iconst (v := 1) hx hb dX5_enter_52 (by decide) ?_
          refine lv_iand hx hb dX5_enter_53 ?_
          refine lv_if_ne (tgt := 72) hx hb dX5_enter_54 (by decide) (fun c_54 => ?_) (fun c_54 => ?_)
          · refine lv_aload_n hx hb dX5_enter_72 rfl (lv_at hl 1 rfl) ?_
            refine rn_get (ci := 5) (v := .ref (ma 6)) (C := RX5) (T := TX5) (N := 18) hx hb hts iw_X5_enter_5 hown hG hF.1 rfl 10 (by decide) fw_X5_enter_35 rfl dX5_enter_73 ?_
            refine lv_iload_n hx hb dX5_enter_76 rfl (lv_at hl 2 rfl) ?_
            refine lv_iload_n hx hb dX5_enter_77 rfl (lv_at hl 3 rfl) ?_
            refine rn_iast (A := (rn_mA m0 ma)) (j := j) (x := (nI i)) (g := V 6) (n := 12) hx hb hG hS (rn_mA_k 6 (by decide)) (show va_at D vwCl (ma 6, .inl (cI, 12, .inl (V 6))) _ from hF.2.1 6 (by decide)) 0 rfl (by omega) (by decide) dX5_enter_78 (fun H locs hat hz ho hS => ?_)
            have hF := hF.st (k := 6) (by decide) hat ho
            refine lv_aload_n hx hb dX5_enter_79 rfl (lv_at hl 1 rfl) ?_
            refine rn_get (ci := 5) (v := .ref (ma 8)) (C := RX5) (T := TX5) (N := 18) hx hb hts iw_X5_enter_5 hown hG hF.1 rfl 12 (by decide) fw_X5_enter_41 rfl dX5_enter_80 ?_
            refine lv_iload_n hx hb dX5_enter_83 rfl (lv_at hl 2 rfl) ?_
            refine lv_bipush (v := 15) hx hb dX5_enter_84 (by decide +kernel) ?_
            refine rn_iast (A := (rn_mA m0 ma)) (j := j) (x := 15) (g := V 8) (n := 12) hx hb hG hS (rn_mA_k 8 (by decide)) (show va_at D vwCl (ma 8, .inl (cI, 12, .inl (V 8))) _ from hF.2.1 8 (by decide)) 0 rfl (by omega) (by decide) dX5_enter_86 (fun H locs hat hz ho hS => ?_)
            have hF := hF.st (k := 8) (by decide) hat ho
            refine lv_bipush (v := 15) hx hb dX5_enter_87 (by decide +kernel) ?_
            have hM9 : rn_Mr (rn_proc σ j i (σ.pu j) 15) (va_up (va_up V 6 (upd (V 6) j ((nI i)))) 8 (upd (V 8) j (15))) := rn_Mr.proc hM (fun i hi => rfl) (fun i hi => by by_cases e : i = j; rw [if_pos e, e]; exact (hM.2.2.2.2.2.1 j hj0).2.1; rw [if_neg e]; rfl) (fun i hi => rfl) (fun q a6 a7 a8 => by simp [va_up, a6, a7, a8])
            have ho9 : rn_o_enter σ j i = (15, rn_proc σ j i (σ.pu j) 15) := by rw [rn_o_enter, if_neg (by rw [c_43]; decide), if_neg c_54]
            exact rn_Wiret hx hb hr rfl hlocks hS (by decide) (by decide) (by rw [ho9]) (by rw [ho9]; exact ⟨_, hM9, hF⟩) dX5_enter_89
          · refine lv_aload_n hx hb dX5_enter_57 rfl (lv_at hl 1 rfl) ?_
            refine lv_iload_n hx hb dX5_enter_58 rfl (lv_at hl 0 rfl) ?_
            refine lv_if_eq (tgt := 66) hx hb dX5_enter_59 (by decide) (fun c_59 => ?_) (fun c_59 => ?_)
            · exact absurd c_59 (by rw [c_43]; decide)
            · refine lv_iconst (v := (-1)) hx hb dX5_enter_62 (by decide) ?_
              refine lv_goto (tgt := 68) hx hb dX5_enter_63 (by decide) ?_
              refine rn_wV (As := [.int (-1)]) (rest := []) 1 hx hb hml hown hts hG hS (m_told l ((-1))) (fun x hx => by rw [show x = m0 from hx]; exact rn_mA_0) gX5_enter_X5_told rfl ⟨rfl, rfl⟩ (by decide +kernel) ⟨Nat.le_of_ble_eq_true rfl, Nat.le_of_ble_eq_true rfl⟩ hF hF.1 rfl rfl hl.1 rfl (Nat.le_of_ble_eq_true rfl) ⟨by decide, by decide⟩ dX5_enter_68 (fun H locs hP1 hz hk hS => ?_)
              refine W.eq (g2 := F0 m 71 ls [.int (-1)]) rfl ?_
              have hF := hP1
              have ho9 : rn_o_enter σ j i = ((-1), rn_ref σ ((-1))) := by rw [rn_o_enter, if_neg (by rw [c_43]; decide), if_pos c_54]
              exact rn_Wiret hx hb hr rfl hlocks hS (by decide) (by decide) (by rw [ho9]) (by rw [ho9]; exact ⟨_, hM, hF⟩) dX5_enter_71
      · exact absurd c_25 (by decide)

set_option maxHeartbeats 4000000 in
set_option maxRecDepth 100000 in
theorem n_setNumber (l : Launch) {D : va_G} {cI : ClassId} {m0 : Nat} {ma : Nat → Nat} {rf : Int32} {V : Nat → Nat → Int32} {σ : rn_St} (hV : rn_V σ) (hM : rn_Mr σ V) {j x : Nat} (hj0 : j < σ.pn) (hx0 : x ≤ 998) (sz : Nat) : rn_W l yX5_setNumber wsX5_setNumber ({ frames := 4, cells := 0, slots := 0, locals := 96 } : Room) D [(cI, .int)] ((rn_MW D cI m0 ma rf (nI σ.sn) (nI σ.sd.length) (nI σ.pn) (nI σ.fn) σ.rc σ.la V)) [.ref m0, .int (nI j), .int (nI x)] (some (.int ((rn_o_setNumber σ j x).1))) (rn_MP D cI m0 ma 0 ((rn_o_setNumber σ j x).2)) (rn_mA m0 ma) 0 0 sz := by
  refine rn_W.ofW (cc := cX5_setNumber) (maxL := 6) (ret := (some .int)) (by decide) rfl (Nat.le_of_ble_eq_true rfl) (fun p e s m below meth c ls hx hb hr hml hts hown hlocks hin hsz hF hG hS hl => ?_)
  have hl : lv_has ls 6 [(0, .ref m0), (1, .int (nI j)), (2, .int (nI x))] := hl
  have hs10 := hV.1.2
  have hp12 := hV.2.2.2.2.2.1.2.1
  have hf20 := hV.2.2.2.2.2.2.1
  have hd3 := hV.2.2.2.2.1.2
  refine lv_aload_n hx hb dX5_setNumber_0 rfl (lv_at hl 0 rfl) ?_
  have hplb := (hV.2.2.2.2.2.1.2.2 j hj0).1
  have hpub := (hV.2.2.2.2.2.1.2.2 j hj0).2
  refine lv_aload_n hx hb dX5_setNumber_1 rfl (lv_at hl 0 rfl) ?_
  refine lv_iload_n hx hb dX5_setNumber_2 rfl (lv_at hl 1 rfl) ?_
  refine rn_cV (As := [.int (nI j)]) (rest := [.ref m0]) 1 hx hb hml hown hts hG (m_isProcess l ((nI j))) gX5_setNumber_X5_isProcess rfl ⟨rfl, rfl⟩ (by decide +kernel) ⟨Nat.le_of_ble_eq_true rfl, Nat.le_of_ble_eq_true rfl⟩ hF hF.1 rfl rfl hl.1 rfl (Nat.le_of_ble_eq_true rfl) ⟨by decide, by decide⟩ dX5_setNumber_3 ?_
  refine W.eq (g2 := F0 m 6 ls [.int (rn_b (rn_in ((nI j)) 0 (nI σ.pn - 1))), .ref m0]) rfl ?_
  refine rn_top (y := .int 1) (congrArg Value.int (by rw [rn_ok_t (by omega) hj0]; rfl)) ?_
  refine lv_if_ne (tgt := 13) hx hb dX5_setNumber_6 (by decide) (fun c_6 => ?_) (fun c_6 => ?_)
  · refine lv_iload_n hx hb dX5_setNumber_13 rfl (lv_at hl 2 rfl) ?_
    refine rn_cS (As := [.int (nI x)]) (rest := [.ref m0]) 1 hx hb hml hown hts hG (m_isNumber l ((nI x))) gX5_setNumber_X5_isNumber rfl ⟨rfl, rfl⟩ (by decide +kernel) ⟨Nat.le_of_ble_eq_true rfl, Nat.le_of_ble_eq_true rfl⟩ trivial rfl hl.1 rfl (Nat.le_of_ble_eq_true rfl) ⟨by decide, by decide⟩ dX5_setNumber_14 ?_
    refine W.eq (g2 := F0 m 17 ls [.int (rn_b (rn_in ((nI x)) 0 998)), .ref m0]) rfl ?_
    refine rn_top (y := .int 1) (congrArg Value.int (by rw [show rn_in ((nI x)) 0 998 = true from rn_rng_t (n := 998) hx0 (by omega)]; rfl)) ?_
    refine lv_if_eq (tgt := 24) hx hb dX5_setNumber_17 (by decide) (fun c_17 => ?_) (fun c_17 => ?_)
    · exact absurd c_17 (by decide)
    · refine lv_iconst (v := 0) hx hb dX5_setNumber_20 (by decide) ?_
      refine lv_goto (tgt := 25) hx hb dX5_setNumber_21 (by decide) ?_
      refine rn_wV (As := [.int 0]) (rest := []) 1 hx hb hml hown hts hG hS (m_refused l 0) (fun x hx => by rw [show x = m0 from hx]; exact rn_mA_0) gX5_setNumber_X5_refused rfl ⟨rfl, rfl⟩ (by decide +kernel) ⟨Nat.le_of_ble_eq_true rfl, Nat.le_of_ble_eq_true rfl⟩ hF hF.1 rfl rfl hl.1 rfl (Nat.le_of_ble_eq_true rfl) ⟨by decide, by decide⟩ dX5_setNumber_25 (fun H locs hP1 hz hk hS => ?_)
      refine W.eq (g2 := F0 m 28 ls [.int (rn_b (decide (0 ≠ 0)))]) rfl ?_
      have hF := hP1
      refine rn_top (y := .int 0) (congrArg Value.int (rfl)) ?_
      refine lv_if_eq (tgt := 33) hx hb dX5_setNumber_28 (by decide) (fun c_28 => ?_) (fun c_28 => ?_)
      · refine lv_aload_n hx hb dX5_setNumber_33 rfl (lv_at hl 0 rfl) ?_
        refine lv_aload_n hx hb dX5_setNumber_34 rfl (lv_at hl 0 rfl) ?_
        refine rn_get (ci := 5) (v := .ref (ma 6)) (C := RX5) (T := TX5) (N := 18) hx hb hts iw_X5_setNumber_5 hown hG hF.1 rfl 10 (by decide) fw_X5_setNumber_35 rfl dX5_setNumber_35 ?_
        refine lv_iload_n hx hb dX5_setNumber_38 rfl (lv_at hl 1 rfl) ?_
        refine rn_iald (j := j) hx hb hG (show va_at D vwCl (ma 6, .inl (cI, 12, .inl (V 6))) _ from hF.2.1 6 (by decide)) 0 rfl (by omega) (by decide) dX5_setNumber_39 ?_
        refine rn_top (y := .int (nI (σ.pl j))) (congrArg Value.int (hM.2.2.2.2.2.1 j hj0).1) ?_
        refine lv_iload_n hx hb dX5_setNumber_40 rfl (lv_at hl 2 rfl) ?_
        refine rn_cV (As := [.int (nI (σ.pl j)), .int (nI x)]) (rest := []) 2 hx hb hml hown hts hG (m_led l hV hM hplb (x := x) hx0) gX5_setNumber_X5_led rfl ⟨rfl, rfl⟩ (by decide +kernel) ⟨Nat.le_of_ble_eq_true rfl, Nat.le_of_ble_eq_true rfl⟩ hF hF.1 rfl rfl hl.1 rfl (Nat.le_of_ble_eq_true rfl) ⟨by decide, by decide⟩ dX5_setNumber_41 ?_
        refine W.eq (g2 := F0 m 44 ls [.int (rn_enc (rn_lead σ (σ.pl j) x))]) rfl ?_
        refine lv_istore_n (lv' := [(3, .int (rn_enc (rn_lead σ (σ.pl j) x))), (0, .ref m0), (1, .int (nI j)), (2, .int (nI x))]) hx hb dX5_setNumber_44 rfl hl (by decide) rfl (fun ls hl => ?_)
        cases hld : rn_lead σ (σ.pl j) x with
        | none =>
          rw [hld] at hl
          have hl : lv_has ls 6 [(3, .int (-1)), (0, .ref m0), (1, .int (nI j)), (2, .int (nI x))] := hl
          refine lv_iload_n hx hb dX5_setNumber_45 rfl (lv_at hl 0 rfl) ?_
          refine lv_aload_n hx hb dX5_setNumber_46 rfl (lv_at hl 1 rfl) ?_
          refine rn_get (ci := 5) (v := .ref (ma 7)) (C := RX5) (T := TX5) (N := 18) hx hb hts iw_X5_setNumber_5 hown hG hF.1 rfl 11 (by decide) fw_X5_setNumber_38 rfl dX5_setNumber_47 ?_
          refine lv_iload_n hx hb dX5_setNumber_50 rfl (lv_at hl 2 rfl) ?_
          refine rn_iald (j := j) hx hb hG (show va_at D vwCl (ma 7, .inl (cI, 12, .inl (V 7))) _ from hF.2.1 7 (by decide)) 0 rfl (by omega) (by decide) dX5_setNumber_51 ?_
          refine rn_top (y := .int (nI (σ.pu j))) (congrArg Value.int (hM.2.2.2.2.2.1 j hj0).2.1) ?_
          refine lv_icmp_eq (tgt := 67) hx hb dX5_setNumber_52 (by decide) (fun c_52 => ?_) (fun c_52 => ?_)
          · exact absurd c_52.symm (rn_nI_m1 (by omega))
          · refine lv_aload_n hx hb dX5_setNumber_55 rfl (lv_at hl 1 rfl) ?_
            refine rn_get (ci := 5) (v := .ref (ma 8)) (C := RX5) (T := TX5) (N := 18) hx hb hts iw_X5_setNumber_5 hown hG hF.1 rfl 12 (by decide) fw_X5_setNumber_41 rfl dX5_setNumber_56 ?_
            refine lv_iload_n hx hb dX5_setNumber_59 rfl (lv_at hl 2 rfl) ?_
            refine rn_iald (j := j) hx hb hG (show va_at D vwCl (ma 8, .inl (cI, 12, .inl (V 8))) _ from hF.2.1 8 (by decide)) 0 rfl (by omega) (by decide) dX5_setNumber_60 ?_
            refine rn_top (y := .int (σ.pr j)) (congrArg Value.int (hM.2.2.2.2.2.1 j hj0).2.2) ?_
            refine lv_bipush (v := 8) hx hb dX5_setNumber_61 (by decide +kernel) ?_
            refine lv_iand hx hb dX5_setNumber_63 ?_
            refine lv_if_eq (tgt := 71) hx hb dX5_setNumber_64 (by decide) (fun c_64 => ?_) (fun c_64 => ?_)
            · refine lv_iconst (v := 0) hx hb dX5_setNumber_71 (by decide) ?_
              refine lv_istore (lv' := [(4, .int 0), (3, .int (-1)), (0, .ref m0), (1, .int (nI j)), (2, .int (nI x))]) hx hb dX5_setNumber_72 hl (by decide) rfl (fun ls hl => ?_)
              refine lv_iload_n hx hb dX5_setNumber_74 rfl (lv_at hl 1 rfl) ?_
              refine lv_iconst (v := (-1)) hx hb dX5_setNumber_75 (by decide) ?_
              refine lv_icmp_eq (tgt := 84) hx hb dX5_setNumber_76 (by decide) (fun c_76 => ?_) (fun c_76 => ?_)
              · refine lv_aload_n hx hb dX5_setNumber_84 rfl (lv_at hl 2 rfl) ?_
                refine lv_iload_n hx hb dX5_setNumber_85 rfl (lv_at hl 1 rfl) ?_
                refine lv_iconst (v := (-1)) hx hb dX5_setNumber_86 (by decide) ?_
                refine lv_icmp_ne (tgt := 95) hx hb dX5_setNumber_87 (by decide) (fun c_87 => ?_) (fun c_87 => ?_)
                · exact absurd rfl c_87
                · refine lv_bipush (v := (-2)) hx hb dX5_setNumber_90 (by decide +kernel) ?_
                  refine lv_goto (tgt := 96) hx hb dX5_setNumber_92 (by decide) ?_
                  refine rn_wV (As := [.int (-2)]) (rest := []) 1 hx hb hml hown hts hG hS (m_told l ((-2))) (fun x hx => by rw [show x = m0 from hx]; exact rn_mA_0) gX5_setNumber_X5_told rfl ⟨rfl, rfl⟩ (by decide +kernel) ⟨Nat.le_of_ble_eq_true rfl, Nat.le_of_ble_eq_true rfl⟩ hF hF.1 rfl rfl hl.1 rfl (Nat.le_of_ble_eq_true rfl) ⟨by decide, by decide⟩ dX5_setNumber_96 (fun H locs hP1 hz hk hS => ?_)
                  refine W.eq (g2 := F0 m 99 ls [.int (-2)]) rfl ?_
                  have hF := hP1
                  have ho9 : rn_o_setNumber σ j x = ((-2), rn_ref σ ((-2))) := by rw [rn_o_setNumber, hld]
                  exact rn_Wiret hx hb hr rfl hlocks hS (by decide) (by decide) (by rw [ho9]) (by rw [ho9]; exact ⟨_, hM, hF⟩) dX5_setNumber_99
              · exact absurd rfl c_76
            · refine lv_iconst (v := 1) hx hb dX5_setNumber_67 (by decide) ?_
              refine lv_goto (tgt := 72) hx hb dX5_setNumber_68 (by decide) ?_
              refine lv_istore (lv' := [(4, .int 1), (3, .int (-1)), (0, .ref m0), (1, .int (nI j)), (2, .int (nI x))]) hx hb dX5_setNumber_72 hl (by decide) rfl (fun ls hl => ?_)
              refine lv_iload_n hx hb dX5_setNumber_74 rfl (lv_at hl 1 rfl) ?_
              refine lv_iconst (v := (-1)) hx hb dX5_setNumber_75 (by decide) ?_
              refine lv_icmp_eq (tgt := 84) hx hb dX5_setNumber_76 (by decide) (fun c_76 => ?_) (fun c_76 => ?_)
              · refine lv_aload_n hx hb dX5_setNumber_84 rfl (lv_at hl 2 rfl) ?_
                refine lv_iload_n hx hb dX5_setNumber_85 rfl (lv_at hl 1 rfl) ?_
                refine lv_iconst (v := (-1)) hx hb dX5_setNumber_86 (by decide) ?_
                refine lv_icmp_ne (tgt := 95) hx hb dX5_setNumber_87 (by decide) (fun c_87 => ?_) (fun c_87 => ?_)
                · exact absurd rfl c_87
                · refine lv_bipush (v := (-2)) hx hb dX5_setNumber_90 (by decide +kernel) ?_
                  refine lv_goto (tgt := 96) hx hb dX5_setNumber_92 (by decide) ?_
                  refine rn_wV (As := [.int (-2)]) (rest := []) 1 hx hb hml hown hts hG hS (m_told l ((-2))) (fun x hx => by rw [show x = m0 from hx]; exact rn_mA_0) gX5_setNumber_X5_told rfl ⟨rfl, rfl⟩ (by decide +kernel) ⟨Nat.le_of_ble_eq_true rfl, Nat.le_of_ble_eq_true rfl⟩ hF hF.1 rfl rfl hl.1 rfl (Nat.le_of_ble_eq_true rfl) ⟨by decide, by decide⟩ dX5_setNumber_96 (fun H locs hP1 hz hk hS => ?_)
                  refine W.eq (g2 := F0 m 99 ls [.int (-2)]) rfl ?_
                  have hF := hP1
                  have ho9 : rn_o_setNumber σ j x = ((-2), rn_ref σ ((-2))) := by rw [rn_o_setNumber, hld]
                  exact rn_Wiret hx hb hr rfl hlocks hS (by decide) (by decide) (by rw [ho9]) (by rw [ho9]; exact ⟨_, hM, hF⟩) dX5_setNumber_99
              · exact absurd rfl c_76
        | some y =>
          rw [hld] at hl
          have hl : lv_has ls 6 [(3, .int (nI y)), (0, .ref m0), (1, .int (nI j)), (2, .int (nI x))] := hl
          have hy : y ≤ 998 := rn_lead_in hV _ _ (Nat.le_refl _) hplb _ y (by omega) hld
          refine lv_iload_n hx hb dX5_setNumber_45 rfl (lv_at hl 0 rfl) ?_
          refine lv_aload_n hx hb dX5_setNumber_46 rfl (lv_at hl 1 rfl) ?_
          refine rn_get (ci := 5) (v := .ref (ma 7)) (C := RX5) (T := TX5) (N := 18) hx hb hts iw_X5_setNumber_5 hown hG hF.1 rfl 11 (by decide) fw_X5_setNumber_38 rfl dX5_setNumber_47 ?_
          refine lv_iload_n hx hb dX5_setNumber_50 rfl (lv_at hl 2 rfl) ?_
          refine rn_iald (j := j) hx hb hG (show va_at D vwCl (ma 7, .inl (cI, 12, .inl (V 7))) _ from hF.2.1 7 (by decide)) 0 rfl (by omega) (by decide) dX5_setNumber_51 ?_
          refine rn_top (y := .int (nI (σ.pu j))) (congrArg Value.int (hM.2.2.2.2.2.1 j hj0).2.1) ?_
          refine lv_icmp_eq (tgt := 67) hx hb dX5_setNumber_52 (by decide) (fun c_52 => ?_) (fun c_52 => ?_)
          · refine lv_iconst (v := 1) hx hb dX5_setNumber_67 (by decide) ?_
            refine lv_goto (tgt := 72) hx hb dX5_setNumber_68 (by decide) ?_
            refine lv_istore (lv' := [(4, .int 1), (3, .int (nI y)), (0, .ref m0), (1, .int (nI j)), (2, .int (nI x))]) hx hb dX5_setNumber_72 hl (by decide) rfl (fun ls hl => ?_)
            refine lv_iload_n hx hb dX5_setNumber_74 rfl (lv_at hl 1 rfl) ?_
            refine lv_iconst (v := (-1)) hx hb dX5_setNumber_75 (by decide) ?_
            refine lv_icmp_eq (tgt := 84) hx hb dX5_setNumber_76 (by decide) (fun c_76 => ?_) (fun c_76 => ?_)
            · exact absurd c_76 (rn_nI_m1 (by omega))
            · refine lv_iload hx hb dX5_setNumber_79 (lv_at hl 0 rfl) ?_
              refine lv_if_ne (tgt := 100) hx hb dX5_setNumber_81 (by decide) (fun c_81 => ?_) (fun c_81 => ?_)
              · have hmay : ¬ (y ≠ σ.pu j ∧ σ.pr j &&& 8 = 0) := fun h => h.1 ((nI_eq (by omega) (by omega)).mp c_52)
                refine lv_aload_n hx hb dX5_setNumber_100 rfl (lv_at hl 2 rfl) ?_
                refine lv_aload_n hx hb dX5_setNumber_101 rfl (lv_at hl 2 rfl) ?_
                refine rn_get (ci := 5) (v := .ref (ma 6)) (C := RX5) (T := TX5) (N := 18) hx hb hts iw_X5_setNumber_5 hown hG hF.1 rfl 10 (by decide) fw_X5_setNumber_35 rfl dX5_setNumber_102 ?_
                refine lv_iload_n hx hb dX5_setNumber_105 rfl (lv_at hl 3 rfl) ?_
                refine rn_iald (j := j) hx hb hG (show va_at D vwCl (ma 6, .inl (cI, 12, .inl (V 6))) _ from hF.2.1 6 (by decide)) 0 rfl (by omega) (by decide) dX5_setNumber_106 ?_
                refine rn_top (y := .int (nI (σ.pl j))) (congrArg Value.int (hM.2.2.2.2.2.1 j hj0).1) ?_
                refine lv_aload_n hx hb dX5_setNumber_107 rfl (lv_at hl 2 rfl) ?_
                refine rn_get (ci := 5) (v := .ref (ma 7)) (C := RX5) (T := TX5) (N := 18) hx hb hts iw_X5_setNumber_5 hown hG hF.1 rfl 11 (by decide) fw_X5_setNumber_38 rfl dX5_setNumber_108 ?_
                refine lv_iload_n hx hb dX5_setNumber_111 rfl (lv_at hl 3 rfl) ?_
                refine rn_iald (j := j) hx hb hG (show va_at D vwCl (ma 7, .inl (cI, 12, .inl (V 7))) _ from hF.2.1 7 (by decide)) 0 rfl (by omega) (by decide) dX5_setNumber_112 ?_
                refine rn_top (y := .int (nI (σ.pu j))) (congrArg Value.int (hM.2.2.2.2.2.1 j hj0).2.1) ?_
                refine rn_cV (As := [.int (nI (σ.pl j)), .int (nI (σ.pu j))]) (rest := []) 2 hx hb hml hown hts hG (m_seen l hV hM hplb (y := σ.pu j) hpub) gX5_setNumber_X5_seen rfl ⟨rfl, rfl⟩ (by decide +kernel) ⟨Nat.le_of_ble_eq_true rfl, Nat.le_of_ble_eq_true rfl⟩ hF hF.1 rfl rfl hl.1 rfl (Nat.le_of_ble_eq_true rfl) ⟨by decide, by decide⟩ dX5_setNumber_113 ?_
                refine W.eq (g2 := F0 m 116 ls [.int (nI (rn_see σ (σ.pl j) (σ.pu j)))]) rfl ?_
                refine lv_if_ne (tgt := 123) hx hb dX5_setNumber_116 (by decide) (fun c_116 => ?_) (fun c_116 => ?_)
                · refine lv_iconst (v := 0) hx hb dX5_setNumber_123 (by decide) ?_
                  refine lv_istore (lv' := [(5, .int 0), (4, .int 1), (3, .int (nI y)), (0, .ref m0), (1, .int (nI j)), (2, .int (nI x))]) hx hb dX5_setNumber_124 hl (by decide) rfl (fun ls hl => ?_)
                  refine lv_aload_n hx hb dX5_setNumber_126 rfl (lv_at hl 3 rfl) ?_
                  refine rn_get (ci := 5) (v := .ref (ma 7)) (C := RX5) (T := TX5) (N := 18) hx hb hts iw_X5_setNumber_5 hown hG hF.1 rfl 11 (by decide) fw_X5_setNumber_38 rfl dX5_setNumber_127 ?_
                  refine lv_iload_n hx hb dX5_setNumber_130 rfl (lv_at hl 4 rfl) ?_
                  refine lv_iload_n hx hb dX5_setNumber_131 rfl (lv_at hl 2 rfl) ?_
                  refine rn_iast (A := (rn_mA m0 ma)) (j := j) (x := (nI y)) (g := V 7) (n := 12) hx hb hG hS (rn_mA_k 7 (by decide)) (show va_at D vwCl (ma 7, .inl (cI, 12, .inl (V 7))) _ from hF.2.1 7 (by decide)) 0 rfl (by omega) (by decide) dX5_setNumber_132 (fun H locs hat hz ho hS => ?_)
                  have hF := hF.st (k := 7) (by decide) hat ho
                  refine lv_aload_n hx hb dX5_setNumber_133 rfl (lv_at hl 3 rfl) ?_
                  refine rn_get (ci := 5) (v := .ref (ma 8)) (C := RX5) (T := TX5) (N := 18) hx hb hts iw_X5_setNumber_5 hown hG hF.1 rfl 12 (by decide) fw_X5_setNumber_41 rfl dX5_setNumber_134 ?_
                  refine lv_iload_n hx hb dX5_setNumber_137 rfl (lv_at hl 4 rfl) ?_
                  refine lv_iload hx hb dX5_setNumber_138 (lv_at hl 0 rfl) ?_
                  refine lv_if_eq (tgt := 151) hx hb dX5_setNumber_140 (by decide) (fun c_140 => ?_) (fun c_140 => ?_)
                  · refine lv_aload_n hx hb dX5_setNumber_151 rfl (lv_at hl 3 rfl) ?_
                    refine rn_get (ci := 5) (v := .ref (ma 8)) (C := RX5) (T := TX5) (N := 18) hx hb hts iw_X5_setNumber_5 hown hG hF.1 rfl 12 (by decide) fw_X5_setNumber_41 rfl dX5_setNumber_152 ?_
                    refine lv_iload_n hx hb dX5_setNumber_155 rfl (lv_at hl 4 rfl) ?_
                    refine rn_iald (j := j) hx hb hG (show va_at D vwCl (ma 8, .inl (cI, 12, .inl (V 8))) _ from hF.2.1 8 (by decide)) 0 rfl (by omega) (by decide) dX5_setNumber_156 ?_
                    refine rn_top (y := .int (σ.pr j)) (congrArg Value.int (hM.2.2.2.2.2.1 j hj0).2.2) ?_
                    refine rn_iast (A := (rn_mA m0 ma)) (j := j) (x := (σ.pr j)) (g := V 8) (n := 12) hx hb hG hS (rn_mA_k 8 (by decide)) (show va_at D vwCl (ma 8, .inl (cI, 12, .inl (V 8))) _ from hF.2.1 8 (by decide)) 0 rfl (by omega) (by decide) dX5_setNumber_157 (fun H locs hat hz ho hS => ?_)
                    have hF := hF.st (k := 8) (by decide) hat ho
                    refine lv_iload_n hx hb dX5_setNumber_158 rfl (lv_at hl 2 rfl) ?_
                    have hk9 : (if x ≠ 0 ∧ rn_see σ (σ.pl j) (σ.pu j) = 0 then (0 : Int32) else σ.pr j) = σ.pr j := if_neg (fun h => c_116 (by rw [h.2]; rfl))
                    have hM9 : rn_Mr (rn_proc σ j (σ.pl j) y (if x ≠ 0 ∧ rn_see σ (σ.pl j) (σ.pu j) = 0 then (0 : Int32) else σ.pr j)) (va_up (va_up V 7 (upd (V 7) j ((nI y)))) 8 (upd (V 8) j ((σ.pr j)))) := by rw [hk9]; exact rn_Mr.proc hM (fun i hi => by by_cases e : i = j; rw [if_pos e, e]; exact (hM.2.2.2.2.2.1 j hj0).1; rw [if_neg e]; rfl) (fun i hi => rfl) (fun i hi => rfl) (fun q a6 a7 a8 => by simp [va_up, a6, a7, a8])
                    have ho9 : rn_o_setNumber σ j x = (nI y, rn_proc σ j (σ.pl j) y (if x ≠ 0 ∧ rn_see σ (σ.pl j) (σ.pu j) = 0 then (0 : Int32) else σ.pr j)) := by rw [rn_o_setNumber, hld]; exact if_neg hmay
                    exact rn_Wiret hx hb hr rfl hlocks hS (by decide) (by decide) (by rw [ho9]) (by rw [ho9]; exact ⟨_, hM9, hF⟩) dX5_setNumber_159
                  · exact absurd c_140 (by decide)
                · refine lv_iconst (v := 1) hx hb dX5_setNumber_119 (by decide) ?_
                  refine lv_goto (tgt := 124) hx hb dX5_setNumber_120 (by decide) ?_
                  refine lv_istore (lv' := [(5, .int 1), (4, .int 1), (3, .int (nI y)), (0, .ref m0), (1, .int (nI j)), (2, .int (nI x))]) hx hb dX5_setNumber_124 hl (by decide) rfl (fun ls hl => ?_)
                  refine lv_aload_n hx hb dX5_setNumber_126 rfl (lv_at hl 3 rfl) ?_
                  refine rn_get (ci := 5) (v := .ref (ma 7)) (C := RX5) (T := TX5) (N := 18) hx hb hts iw_X5_setNumber_5 hown hG hF.1 rfl 11 (by decide) fw_X5_setNumber_38 rfl dX5_setNumber_127 ?_
                  refine lv_iload_n hx hb dX5_setNumber_130 rfl (lv_at hl 4 rfl) ?_
                  refine lv_iload_n hx hb dX5_setNumber_131 rfl (lv_at hl 2 rfl) ?_
                  refine rn_iast (A := (rn_mA m0 ma)) (j := j) (x := (nI y)) (g := V 7) (n := 12) hx hb hG hS (rn_mA_k 7 (by decide)) (show va_at D vwCl (ma 7, .inl (cI, 12, .inl (V 7))) _ from hF.2.1 7 (by decide)) 0 rfl (by omega) (by decide) dX5_setNumber_132 (fun H locs hat hz ho hS => ?_)
                  have hF := hF.st (k := 7) (by decide) hat ho
                  refine lv_aload_n hx hb dX5_setNumber_133 rfl (lv_at hl 3 rfl) ?_
                  refine rn_get (ci := 5) (v := .ref (ma 8)) (C := RX5) (T := TX5) (N := 18) hx hb hts iw_X5_setNumber_5 hown hG hF.1 rfl 12 (by decide) fw_X5_setNumber_41 rfl dX5_setNumber_134 ?_
                  refine lv_iload_n hx hb dX5_setNumber_137 rfl (lv_at hl 4 rfl) ?_
                  refine lv_iload hx hb dX5_setNumber_138 (lv_at hl 0 rfl) ?_
                  refine lv_if_eq (tgt := 151) hx hb dX5_setNumber_140 (by decide) (fun c_140 => ?_) (fun c_140 => ?_)
                  · exact absurd c_140 (by decide)
                  · refine lv_iload_n hx hb dX5_setNumber_143 rfl (lv_at hl 5 rfl) ?_
                    refine lv_if_eq (tgt := 151) hx hb dX5_setNumber_144 (by decide) (fun c_144 => ?_) (fun c_144 => ?_)
                    · refine lv_aload_n hx hb dX5_setNumber_151 rfl (lv_at hl 3 rfl) ?_
                      refine rn_get (ci := 5) (v := .ref (ma 8)) (C := RX5) (T := TX5) (N := 18) hx hb hts iw_X5_setNumber_5 hown hG hF.1 rfl 12 (by decide) fw_X5_setNumber_41 rfl dX5_setNumber_152 ?_
                      refine lv_iload_n hx hb dX5_setNumber_155 rfl (lv_at hl 4 rfl) ?_
                      refine rn_iald (j := j) hx hb hG (show va_at D vwCl (ma 8, .inl (cI, 12, .inl (V 8))) _ from hF.2.1 8 (by decide)) 0 rfl (by omega) (by decide) dX5_setNumber_156 ?_
                      refine rn_top (y := .int (σ.pr j)) (congrArg Value.int (hM.2.2.2.2.2.1 j hj0).2.2) ?_
                      refine rn_iast (A := (rn_mA m0 ma)) (j := j) (x := (σ.pr j)) (g := V 8) (n := 12) hx hb hG hS (rn_mA_k 8 (by decide)) (show va_at D vwCl (ma 8, .inl (cI, 12, .inl (V 8))) _ from hF.2.1 8 (by decide)) 0 rfl (by omega) (by decide) dX5_setNumber_157 (fun H locs hat hz ho hS => ?_)
                      have hF := hF.st (k := 8) (by decide) hat ho
                      refine lv_iload_n hx hb dX5_setNumber_158 rfl (lv_at hl 2 rfl) ?_
                      have hk9 : (if x ≠ 0 ∧ rn_see σ (σ.pl j) (σ.pu j) = 0 then (0 : Int32) else σ.pr j) = σ.pr j := if_neg (fun h => h.1 ((rn_nI0 (by omega)).mp c_144))
                      have hM9 : rn_Mr (rn_proc σ j (σ.pl j) y (if x ≠ 0 ∧ rn_see σ (σ.pl j) (σ.pu j) = 0 then (0 : Int32) else σ.pr j)) (va_up (va_up V 7 (upd (V 7) j ((nI y)))) 8 (upd (V 8) j ((σ.pr j)))) := by rw [hk9]; exact rn_Mr.proc hM (fun i hi => by by_cases e : i = j; rw [if_pos e, e]; exact (hM.2.2.2.2.2.1 j hj0).1; rw [if_neg e]; rfl) (fun i hi => rfl) (fun i hi => rfl) (fun q a6 a7 a8 => by simp [va_up, a6, a7, a8])
                      have ho9 : rn_o_setNumber σ j x = (nI y, rn_proc σ j (σ.pl j) y (if x ≠ 0 ∧ rn_see σ (σ.pl j) (σ.pu j) = 0 then (0 : Int32) else σ.pr j)) := by rw [rn_o_setNumber, hld]; exact if_neg hmay
                      exact rn_Wiret hx hb hr rfl hlocks hS (by decide) (by decide) (by rw [ho9]) (by rw [ho9]; exact ⟨_, hM9, hF⟩) dX5_setNumber_159
                    · refine lv_iconst (v := 0) hx hb dX5_setNumber_147 (by decide) ?_
                      refine lv_goto (tgt := 157) hx hb dX5_setNumber_148 (by decide) ?_
                      refine rn_iast (A := (rn_mA m0 ma)) (j := j) (x := 0) (g := V 8) (n := 12) hx hb hG hS (rn_mA_k 8 (by decide)) (show va_at D vwCl (ma 8, .inl (cI, 12, .inl (V 8))) _ from hF.2.1 8 (by decide)) 0 rfl (by omega) (by decide) dX5_setNumber_157 (fun H locs hat hz ho hS => ?_)
                      have hF := hF.st (k := 8) (by decide) hat ho
                      refine lv_iload_n hx hb dX5_setNumber_158 rfl (lv_at hl 2 rfl) ?_
                      have hk9 : (if x ≠ 0 ∧ rn_see σ (σ.pl j) (σ.pu j) = 0 then (0 : Int32) else σ.pr j) = 0 := if_pos ⟨fun h => c_144 (by rw [h]; rfl), (rn_nI0 (rn_see_le _ _ _)).mp c_116⟩
                      have hM9 : rn_Mr (rn_proc σ j (σ.pl j) y (if x ≠ 0 ∧ rn_see σ (σ.pl j) (σ.pu j) = 0 then (0 : Int32) else σ.pr j)) (va_up (va_up V 7 (upd (V 7) j ((nI y)))) 8 (upd (V 8) j (0))) := by rw [hk9]; exact rn_Mr.proc hM (fun i hi => by by_cases e : i = j; rw [if_pos e, e]; exact (hM.2.2.2.2.2.1 j hj0).1; rw [if_neg e]; rfl) (fun i hi => rfl) (fun i hi => rfl) (fun q a6 a7 a8 => by simp [va_up, a6, a7, a8])
                      have ho9 : rn_o_setNumber σ j x = (nI y, rn_proc σ j (σ.pl j) y (if x ≠ 0 ∧ rn_see σ (σ.pl j) (σ.pu j) = 0 then (0 : Int32) else σ.pr j)) := by rw [rn_o_setNumber, hld]; exact if_neg hmay
                      exact rn_Wiret hx hb hr rfl hlocks hS (by decide) (by decide) (by rw [ho9]) (by rw [ho9]; exact ⟨_, hM9, hF⟩) dX5_setNumber_159
              · exact absurd c_81 (by decide)
          · refine lv_aload_n hx hb dX5_setNumber_55 rfl (lv_at hl 1 rfl) ?_
            refine rn_get (ci := 5) (v := .ref (ma 8)) (C := RX5) (T := TX5) (N := 18) hx hb hts iw_X5_setNumber_5 hown hG hF.1 rfl 12 (by decide) fw_X5_setNumber_41 rfl dX5_setNumber_56 ?_
            refine lv_iload_n hx hb dX5_setNumber_59 rfl (lv_at hl 2 rfl) ?_
            refine rn_iald (j := j) hx hb hG (show va_at D vwCl (ma 8, .inl (cI, 12, .inl (V 8))) _ from hF.2.1 8 (by decide)) 0 rfl (by omega) (by decide) dX5_setNumber_60 ?_
            refine rn_top (y := .int (σ.pr j)) (congrArg Value.int (hM.2.2.2.2.2.1 j hj0).2.2) ?_
            refine lv_bipush (v := 8) hx hb dX5_setNumber_61 (by decide +kernel) ?_
            refine lv_iand hx hb dX5_setNumber_63 ?_
            refine lv_if_eq (tgt := 71) hx hb dX5_setNumber_64 (by decide) (fun c_64 => ?_) (fun c_64 => ?_)
            · refine lv_iconst (v := 0) hx hb dX5_setNumber_71 (by decide) ?_
              refine lv_istore (lv' := [(4, .int 0), (3, .int (nI y)), (0, .ref m0), (1, .int (nI j)), (2, .int (nI x))]) hx hb dX5_setNumber_72 hl (by decide) rfl (fun ls hl => ?_)
              refine lv_iload_n hx hb dX5_setNumber_74 rfl (lv_at hl 1 rfl) ?_
              refine lv_iconst (v := (-1)) hx hb dX5_setNumber_75 (by decide) ?_
              refine lv_icmp_eq (tgt := 84) hx hb dX5_setNumber_76 (by decide) (fun c_76 => ?_) (fun c_76 => ?_)
              · exact absurd c_76 (rn_nI_m1 (by omega))
              · refine lv_iload hx hb dX5_setNumber_79 (lv_at hl 0 rfl) ?_
                refine lv_if_ne (tgt := 100) hx hb dX5_setNumber_81 (by decide) (fun c_81 => ?_) (fun c_81 => ?_)
                · exact absurd c_81 (by decide)
                · refine lv_aload_n hx hb dX5_setNumber_84 rfl (lv_at hl 2 rfl) ?_
                  refine lv_iload_n hx hb dX5_setNumber_85 rfl (lv_at hl 1 rfl) ?_
                  refine lv_iconst (v := (-1)) hx hb dX5_setNumber_86 (by decide) ?_
                  refine lv_icmp_ne (tgt := 95) hx hb dX5_setNumber_87 (by decide) (fun c_87 => ?_) (fun c_87 => ?_)
                  · refine lv_iconst (v := (-1)) hx hb dX5_setNumber_95 (by decide) ?_
                    refine rn_wV (As := [.int (-1)]) (rest := []) 1 hx hb hml hown hts hG hS (m_told l ((-1))) (fun x hx => by rw [show x = m0 from hx]; exact rn_mA_0) gX5_setNumber_X5_told rfl ⟨rfl, rfl⟩ (by decide +kernel) ⟨Nat.le_of_ble_eq_true rfl, Nat.le_of_ble_eq_true rfl⟩ hF hF.1 rfl rfl hl.1 rfl (Nat.le_of_ble_eq_true rfl) ⟨by decide, by decide⟩ dX5_setNumber_96 (fun H locs hP1 hz hk hS => ?_)
                    refine W.eq (g2 := F0 m 99 ls [.int (-1)]) rfl ?_
                    have hF := hP1
                    have ho9 : rn_o_setNumber σ j x = ((-1), rn_ref σ ((-1))) := by rw [rn_o_setNumber, hld]; exact if_pos ⟨fun h => c_52 (by rw [h]), c_64⟩
                    exact rn_Wiret hx hb hr rfl hlocks hS (by decide) (by decide) (by rw [ho9]) (by rw [ho9]; exact ⟨_, hM, hF⟩) dX5_setNumber_99
                  · exact absurd c_87 (rn_nI_m1 (by omega))
            · refine lv_iconst (v := 1) hx hb dX5_setNumber_67 (by decide) ?_
              refine lv_goto (tgt := 72) hx hb dX5_setNumber_68 (by decide) ?_
              refine lv_istore (lv' := [(4, .int 1), (3, .int (nI y)), (0, .ref m0), (1, .int (nI j)), (2, .int (nI x))]) hx hb dX5_setNumber_72 hl (by decide) rfl (fun ls hl => ?_)
              refine lv_iload_n hx hb dX5_setNumber_74 rfl (lv_at hl 1 rfl) ?_
              refine lv_iconst (v := (-1)) hx hb dX5_setNumber_75 (by decide) ?_
              refine lv_icmp_eq (tgt := 84) hx hb dX5_setNumber_76 (by decide) (fun c_76 => ?_) (fun c_76 => ?_)
              · exact absurd c_76 (rn_nI_m1 (by omega))
              · refine lv_iload hx hb dX5_setNumber_79 (lv_at hl 0 rfl) ?_
                refine lv_if_ne (tgt := 100) hx hb dX5_setNumber_81 (by decide) (fun c_81 => ?_) (fun c_81 => ?_)
                · have hmay : ¬ (y ≠ σ.pu j ∧ σ.pr j &&& 8 = 0) := fun h => c_64 h.2
                  refine lv_aload_n hx hb dX5_setNumber_100 rfl (lv_at hl 2 rfl) ?_
                  refine lv_aload_n hx hb dX5_setNumber_101 rfl (lv_at hl 2 rfl) ?_
                  refine rn_get (ci := 5) (v := .ref (ma 6)) (C := RX5) (T := TX5) (N := 18) hx hb hts iw_X5_setNumber_5 hown hG hF.1 rfl 10 (by decide) fw_X5_setNumber_35 rfl dX5_setNumber_102 ?_
                  refine lv_iload_n hx hb dX5_setNumber_105 rfl (lv_at hl 3 rfl) ?_
                  refine rn_iald (j := j) hx hb hG (show va_at D vwCl (ma 6, .inl (cI, 12, .inl (V 6))) _ from hF.2.1 6 (by decide)) 0 rfl (by omega) (by decide) dX5_setNumber_106 ?_
                  refine rn_top (y := .int (nI (σ.pl j))) (congrArg Value.int (hM.2.2.2.2.2.1 j hj0).1) ?_
                  refine lv_aload_n hx hb dX5_setNumber_107 rfl (lv_at hl 2 rfl) ?_
                  refine rn_get (ci := 5) (v := .ref (ma 7)) (C := RX5) (T := TX5) (N := 18) hx hb hts iw_X5_setNumber_5 hown hG hF.1 rfl 11 (by decide) fw_X5_setNumber_38 rfl dX5_setNumber_108 ?_
                  refine lv_iload_n hx hb dX5_setNumber_111 rfl (lv_at hl 3 rfl) ?_
                  refine rn_iald (j := j) hx hb hG (show va_at D vwCl (ma 7, .inl (cI, 12, .inl (V 7))) _ from hF.2.1 7 (by decide)) 0 rfl (by omega) (by decide) dX5_setNumber_112 ?_
                  refine rn_top (y := .int (nI (σ.pu j))) (congrArg Value.int (hM.2.2.2.2.2.1 j hj0).2.1) ?_
                  refine rn_cV (As := [.int (nI (σ.pl j)), .int (nI (σ.pu j))]) (rest := []) 2 hx hb hml hown hts hG (m_seen l hV hM hplb (y := σ.pu j) hpub) gX5_setNumber_X5_seen rfl ⟨rfl, rfl⟩ (by decide +kernel) ⟨Nat.le_of_ble_eq_true rfl, Nat.le_of_ble_eq_true rfl⟩ hF hF.1 rfl rfl hl.1 rfl (Nat.le_of_ble_eq_true rfl) ⟨by decide, by decide⟩ dX5_setNumber_113 ?_
                  refine W.eq (g2 := F0 m 116 ls [.int (nI (rn_see σ (σ.pl j) (σ.pu j)))]) rfl ?_
                  refine lv_if_ne (tgt := 123) hx hb dX5_setNumber_116 (by decide) (fun c_116 => ?_) (fun c_116 => ?_)
                  · refine lv_iconst (v := 0) hx hb dX5_setNumber_123 (by decide) ?_
                    refine lv_istore (lv' := [(5, .int 0), (4, .int 1), (3, .int (nI y)), (0, .ref m0), (1, .int (nI j)), (2, .int (nI x))]) hx hb dX5_setNumber_124 hl (by decide) rfl (fun ls hl => ?_)
                    refine lv_aload_n hx hb dX5_setNumber_126 rfl (lv_at hl 3 rfl) ?_
                    refine rn_get (ci := 5) (v := .ref (ma 7)) (C := RX5) (T := TX5) (N := 18) hx hb hts iw_X5_setNumber_5 hown hG hF.1 rfl 11 (by decide) fw_X5_setNumber_38 rfl dX5_setNumber_127 ?_
                    refine lv_iload_n hx hb dX5_setNumber_130 rfl (lv_at hl 4 rfl) ?_
                    refine lv_iload_n hx hb dX5_setNumber_131 rfl (lv_at hl 2 rfl) ?_
                    refine rn_iast (A := (rn_mA m0 ma)) (j := j) (x := (nI y)) (g := V 7) (n := 12) hx hb hG hS (rn_mA_k 7 (by decide)) (show va_at D vwCl (ma 7, .inl (cI, 12, .inl (V 7))) _ from hF.2.1 7 (by decide)) 0 rfl (by omega) (by decide) dX5_setNumber_132 (fun H locs hat hz ho hS => ?_)
                    have hF := hF.st (k := 7) (by decide) hat ho
                    refine lv_aload_n hx hb dX5_setNumber_133 rfl (lv_at hl 3 rfl) ?_
                    refine rn_get (ci := 5) (v := .ref (ma 8)) (C := RX5) (T := TX5) (N := 18) hx hb hts iw_X5_setNumber_5 hown hG hF.1 rfl 12 (by decide) fw_X5_setNumber_41 rfl dX5_setNumber_134 ?_
                    refine lv_iload_n hx hb dX5_setNumber_137 rfl (lv_at hl 4 rfl) ?_
                    refine lv_iload hx hb dX5_setNumber_138 (lv_at hl 0 rfl) ?_
                    refine lv_if_eq (tgt := 151) hx hb dX5_setNumber_140 (by decide) (fun c_140 => ?_) (fun c_140 => ?_)
                    · refine lv_aload_n hx hb dX5_setNumber_151 rfl (lv_at hl 3 rfl) ?_
                      refine rn_get (ci := 5) (v := .ref (ma 8)) (C := RX5) (T := TX5) (N := 18) hx hb hts iw_X5_setNumber_5 hown hG hF.1 rfl 12 (by decide) fw_X5_setNumber_41 rfl dX5_setNumber_152 ?_
                      refine lv_iload_n hx hb dX5_setNumber_155 rfl (lv_at hl 4 rfl) ?_
                      refine rn_iald (j := j) hx hb hG (show va_at D vwCl (ma 8, .inl (cI, 12, .inl (V 8))) _ from hF.2.1 8 (by decide)) 0 rfl (by omega) (by decide) dX5_setNumber_156 ?_
                      refine rn_top (y := .int (σ.pr j)) (congrArg Value.int (hM.2.2.2.2.2.1 j hj0).2.2) ?_
                      refine rn_iast (A := (rn_mA m0 ma)) (j := j) (x := (σ.pr j)) (g := V 8) (n := 12) hx hb hG hS (rn_mA_k 8 (by decide)) (show va_at D vwCl (ma 8, .inl (cI, 12, .inl (V 8))) _ from hF.2.1 8 (by decide)) 0 rfl (by omega) (by decide) dX5_setNumber_157 (fun H locs hat hz ho hS => ?_)
                      have hF := hF.st (k := 8) (by decide) hat ho
                      refine lv_iload_n hx hb dX5_setNumber_158 rfl (lv_at hl 2 rfl) ?_
                      have hk9 : (if x ≠ 0 ∧ rn_see σ (σ.pl j) (σ.pu j) = 0 then (0 : Int32) else σ.pr j) = σ.pr j := if_neg (fun h => c_116 (by rw [h.2]; rfl))
                      have hM9 : rn_Mr (rn_proc σ j (σ.pl j) y (if x ≠ 0 ∧ rn_see σ (σ.pl j) (σ.pu j) = 0 then (0 : Int32) else σ.pr j)) (va_up (va_up V 7 (upd (V 7) j ((nI y)))) 8 (upd (V 8) j ((σ.pr j)))) := by rw [hk9]; exact rn_Mr.proc hM (fun i hi => by by_cases e : i = j; rw [if_pos e, e]; exact (hM.2.2.2.2.2.1 j hj0).1; rw [if_neg e]; rfl) (fun i hi => rfl) (fun i hi => rfl) (fun q a6 a7 a8 => by simp [va_up, a6, a7, a8])
                      have ho9 : rn_o_setNumber σ j x = (nI y, rn_proc σ j (σ.pl j) y (if x ≠ 0 ∧ rn_see σ (σ.pl j) (σ.pu j) = 0 then (0 : Int32) else σ.pr j)) := by rw [rn_o_setNumber, hld]; exact if_neg hmay
                      exact rn_Wiret hx hb hr rfl hlocks hS (by decide) (by decide) (by rw [ho9]) (by rw [ho9]; exact ⟨_, hM9, hF⟩) dX5_setNumber_159
                    · exact absurd c_140 (by decide)
                  · refine lv_iconst (v := 1) hx hb dX5_setNumber_119 (by decide) ?_
                    refine lv_goto (tgt := 124) hx hb dX5_setNumber_120 (by decide) ?_
                    refine lv_istore (lv' := [(5, .int 1), (4, .int 1), (3, .int (nI y)), (0, .ref m0), (1, .int (nI j)), (2, .int (nI x))]) hx hb dX5_setNumber_124 hl (by decide) rfl (fun ls hl => ?_)
                    refine lv_aload_n hx hb dX5_setNumber_126 rfl (lv_at hl 3 rfl) ?_
                    refine rn_get (ci := 5) (v := .ref (ma 7)) (C := RX5) (T := TX5) (N := 18) hx hb hts iw_X5_setNumber_5 hown hG hF.1 rfl 11 (by decide) fw_X5_setNumber_38 rfl dX5_setNumber_127 ?_
                    refine lv_iload_n hx hb dX5_setNumber_130 rfl (lv_at hl 4 rfl) ?_
                    refine lv_iload_n hx hb dX5_setNumber_131 rfl (lv_at hl 2 rfl) ?_
                    refine rn_iast (A := (rn_mA m0 ma)) (j := j) (x := (nI y)) (g := V 7) (n := 12) hx hb hG hS (rn_mA_k 7 (by decide)) (show va_at D vwCl (ma 7, .inl (cI, 12, .inl (V 7))) _ from hF.2.1 7 (by decide)) 0 rfl (by omega) (by decide) dX5_setNumber_132 (fun H locs hat hz ho hS => ?_)
                    have hF := hF.st (k := 7) (by decide) hat ho
                    refine lv_aload_n hx hb dX5_setNumber_133 rfl (lv_at hl 3 rfl) ?_
                    refine rn_get (ci := 5) (v := .ref (ma 8)) (C := RX5) (T := TX5) (N := 18) hx hb hts iw_X5_setNumber_5 hown hG hF.1 rfl 12 (by decide) fw_X5_setNumber_41 rfl dX5_setNumber_134 ?_
                    refine lv_iload_n hx hb dX5_setNumber_137 rfl (lv_at hl 4 rfl) ?_
                    refine lv_iload hx hb dX5_setNumber_138 (lv_at hl 0 rfl) ?_
                    refine lv_if_eq (tgt := 151) hx hb dX5_setNumber_140 (by decide) (fun c_140 => ?_) (fun c_140 => ?_)
                    · exact absurd c_140 (by decide)
                    · refine lv_iload_n hx hb dX5_setNumber_143 rfl (lv_at hl 5 rfl) ?_
                      refine lv_if_eq (tgt := 151) hx hb dX5_setNumber_144 (by decide) (fun c_144 => ?_) (fun c_144 => ?_)
                      · refine lv_aload_n hx hb dX5_setNumber_151 rfl (lv_at hl 3 rfl) ?_
                        refine rn_get (ci := 5) (v := .ref (ma 8)) (C := RX5) (T := TX5) (N := 18) hx hb hts iw_X5_setNumber_5 hown hG hF.1 rfl 12 (by decide) fw_X5_setNumber_41 rfl dX5_setNumber_152 ?_
                        refine lv_iload_n hx hb dX5_setNumber_155 rfl (lv_at hl 4 rfl) ?_
                        refine rn_iald (j := j) hx hb hG (show va_at D vwCl (ma 8, .inl (cI, 12, .inl (V 8))) _ from hF.2.1 8 (by decide)) 0 rfl (by omega) (by decide) dX5_setNumber_156 ?_
                        refine rn_top (y := .int (σ.pr j)) (congrArg Value.int (hM.2.2.2.2.2.1 j hj0).2.2) ?_
                        refine rn_iast (A := (rn_mA m0 ma)) (j := j) (x := (σ.pr j)) (g := V 8) (n := 12) hx hb hG hS (rn_mA_k 8 (by decide)) (show va_at D vwCl (ma 8, .inl (cI, 12, .inl (V 8))) _ from hF.2.1 8 (by decide)) 0 rfl (by omega) (by decide) dX5_setNumber_157 (fun H locs hat hz ho hS => ?_)
                        have hF := hF.st (k := 8) (by decide) hat ho
                        refine lv_iload_n hx hb dX5_setNumber_158 rfl (lv_at hl 2 rfl) ?_
                        have hk9 : (if x ≠ 0 ∧ rn_see σ (σ.pl j) (σ.pu j) = 0 then (0 : Int32) else σ.pr j) = σ.pr j := if_neg (fun h => h.1 ((rn_nI0 (by omega)).mp c_144))
                        have hM9 : rn_Mr (rn_proc σ j (σ.pl j) y (if x ≠ 0 ∧ rn_see σ (σ.pl j) (σ.pu j) = 0 then (0 : Int32) else σ.pr j)) (va_up (va_up V 7 (upd (V 7) j ((nI y)))) 8 (upd (V 8) j ((σ.pr j)))) := by rw [hk9]; exact rn_Mr.proc hM (fun i hi => by by_cases e : i = j; rw [if_pos e, e]; exact (hM.2.2.2.2.2.1 j hj0).1; rw [if_neg e]; rfl) (fun i hi => rfl) (fun i hi => rfl) (fun q a6 a7 a8 => by simp [va_up, a6, a7, a8])
                        have ho9 : rn_o_setNumber σ j x = (nI y, rn_proc σ j (σ.pl j) y (if x ≠ 0 ∧ rn_see σ (σ.pl j) (σ.pu j) = 0 then (0 : Int32) else σ.pr j)) := by rw [rn_o_setNumber, hld]; exact if_neg hmay
                        exact rn_Wiret hx hb hr rfl hlocks hS (by decide) (by decide) (by rw [ho9]) (by rw [ho9]; exact ⟨_, hM9, hF⟩) dX5_setNumber_159
                      · refine lv_iconst (v := 0) hx hb dX5_setNumber_147 (by decide) ?_
                        refine lv_goto (tgt := 157) hx hb dX5_setNumber_148 (by decide) ?_
                        refine rn_iast (A := (rn_mA m0 ma)) (j := j) (x := 0) (g := V 8) (n := 12) hx hb hG hS (rn_mA_k 8 (by decide)) (show va_at D vwCl (ma 8, .inl (cI, 12, .inl (V 8))) _ from hF.2.1 8 (by decide)) 0 rfl (by omega) (by decide) dX5_setNumber_157 (fun H locs hat hz ho hS => ?_)
                        have hF := hF.st (k := 8) (by decide) hat ho
                        refine lv_iload_n hx hb dX5_setNumber_158 rfl (lv_at hl 2 rfl) ?_
                        have hk9 : (if x ≠ 0 ∧ rn_see σ (σ.pl j) (σ.pu j) = 0 then (0 : Int32) else σ.pr j) = 0 := if_pos ⟨fun h => c_144 (by rw [h]; rfl), (rn_nI0 (rn_see_le _ _ _)).mp c_116⟩
                        have hM9 : rn_Mr (rn_proc σ j (σ.pl j) y (if x ≠ 0 ∧ rn_see σ (σ.pl j) (σ.pu j) = 0 then (0 : Int32) else σ.pr j)) (va_up (va_up V 7 (upd (V 7) j ((nI y)))) 8 (upd (V 8) j (0))) := by rw [hk9]; exact rn_Mr.proc hM (fun i hi => by by_cases e : i = j; rw [if_pos e, e]; exact (hM.2.2.2.2.2.1 j hj0).1; rw [if_neg e]; rfl) (fun i hi => rfl) (fun i hi => rfl) (fun q a6 a7 a8 => by simp [va_up, a6, a7, a8])
                        have ho9 : rn_o_setNumber σ j x = (nI y, rn_proc σ j (σ.pl j) y (if x ≠ 0 ∧ rn_see σ (σ.pl j) (σ.pu j) = 0 then (0 : Int32) else σ.pr j)) := by rw [rn_o_setNumber, hld]; exact if_neg hmay
                        exact rn_Wiret hx hb hr rfl hlocks hS (by decide) (by decide) (by rw [ho9]) (by rw [ho9]; exact ⟨_, hM9, hF⟩) dX5_setNumber_159
                · exact absurd c_81 (by decide)
      · exact absurd c_28 (by decide)
  · exact absurd c_6 (by decide)

set_option maxHeartbeats 4000000 in
set_option maxRecDepth 100000 in
theorem n_handOver (l : Launch) {D : va_G} {cI : ClassId} {m0 : Nat} {ma : Nat → Nat} {rf : Int32} {V : Nat → Nat → Int32} {σ : rn_St} (hV : rn_V σ) (hM : rn_Mr σ V) {j k x : Nat} (hj0 : j < σ.pn) (hk0 : k < σ.fn) (hx0 : x ≤ 998) (sz : Nat) : rn_W l yX5_handOver wsX5_handOver ({ frames := 4, cells := 0, slots := 0, locals := 96 } : Room) D [(cI, .int)] ((rn_MW D cI m0 ma rf (nI σ.sn) (nI σ.sd.length) (nI σ.pn) (nI σ.fn) σ.rc σ.la V)) [.ref m0, .int (nI j), .int (nI k), .int (nI x)] (some (.int ((rn_o_handOver σ j k x).1))) (rn_MP D cI m0 ma 0 ((rn_o_handOver σ j k x).2)) (rn_mA m0 ma) 0 0 sz := by
  refine rn_W.ofW (cc := cX5_handOver) (maxL := 7) (ret := (some .int)) (by decide) rfl (Nat.le_of_ble_eq_true rfl) (fun p e s m below meth c ls hx hb hr hml hts hown hlocks hin hsz hF hG hS hl => ?_)
  have hl : lv_has ls 7 [(0, .ref m0), (1, .int (nI j)), (2, .int (nI k)), (3, .int (nI x))] := hl
  have hs10 := hV.1.2
  have hp12 := hV.2.2.2.2.2.1.2.1
  have hf20 := hV.2.2.2.2.2.2.1
  have hd3 := hV.2.2.2.2.1.2
  refine lv_aload_n hx hb dX5_handOver_0 rfl (lv_at hl 0 rfl) ?_
  have hplb := (hV.2.2.2.2.2.1.2.2 j hj0).1
  have hfob := (hV.2.2.2.2.2.2.2 k hk0)
  refine lv_iload_n hx hb dX5_handOver_1 rfl (lv_at hl 1 rfl) ?_
  refine rn_cV (As := [.int (nI j)]) (rest := []) 1 hx hb hml hown hts hG (m_isProcess l ((nI j))) gX5_handOver_X5_isProcess rfl ⟨rfl, rfl⟩ (by decide +kernel) ⟨Nat.le_of_ble_eq_true rfl, Nat.le_of_ble_eq_true rfl⟩ hF hF.1 rfl rfl hl.1 rfl (Nat.le_of_ble_eq_true rfl) ⟨by decide, by decide⟩ dX5_handOver_2 ?_
  refine W.eq (g2 := F0 m 5 ls [.int (rn_b (rn_in ((nI j)) 0 (nI σ.pn - 1)))]) rfl ?_
  refine rn_top (y := .int 1) (congrArg Value.int (by rw [rn_ok_t (by omega) hj0]; rfl)) ?_
  refine lv_if_eq (tgt := 20) hx hb dX5_handOver_5 (by decide) (fun c_5 => ?_) (fun c_5 => ?_)
  · exact absurd c_5 (by decide)
  · refine lv_aload_n hx hb dX5_handOver_8 rfl (lv_at hl 0 rfl) ?_
    refine lv_iload_n hx hb dX5_handOver_9 rfl (lv_at hl 2 rfl) ?_
    refine rn_cV (As := [.int (nI k)]) (rest := []) 1 hx hb hml hown hts hG (m_isFile l ((nI k))) gX5_handOver_X5_isFile rfl ⟨rfl, rfl⟩ (by decide +kernel) ⟨Nat.le_of_ble_eq_true rfl, Nat.le_of_ble_eq_true rfl⟩ hF hF.1 rfl rfl hl.1 rfl (Nat.le_of_ble_eq_true rfl) ⟨by decide, by decide⟩ dX5_handOver_10 ?_
    refine W.eq (g2 := F0 m 13 ls [.int (rn_b (rn_in ((nI k)) 0 (nI σ.fn - 1)))]) rfl ?_
    refine rn_top (y := .int 1) (congrArg Value.int (by rw [rn_ok_t (by omega) hk0]; rfl)) ?_
    refine lv_if_eq (tgt := 20) hx hb dX5_handOver_13 (by decide) (fun c_13 => ?_) (fun c_13 => ?_)
    · exact absurd c_13 (by decide)
    · refine lv_iconst (v := 1) hx hb dX5_handOver_16 (by decide) ?_
      refine lv_goto (tgt := 21) hx hb dX5_handOver_17 (by decide) ?_
      refine lv_istore (lv' := [(4, .int 1), (0, .ref m0), (1, .int (nI j)), (2, .int (nI k)), (3, .int (nI x))]) hx hb dX5_handOver_21 hl (by decide) rfl (fun ls hl => ?_)
      refine lv_aload_n hx hb dX5_handOver_23 rfl (lv_at hl 1 rfl) ?_
      refine lv_iload hx hb dX5_handOver_24 (lv_at hl 0 rfl) ?_
      refine lv_if_ne (tgt := 33) hx hb dX5_handOver_26 (by decide) (fun c_26 => ?_) (fun c_26 => ?_)
      · refine lv_iload_n hx hb dX5_handOver_33 rfl (lv_at hl 4 rfl) ?_
        refine rn_cS (As := [.int (nI x)]) (rest := [.ref m0]) 1 hx hb hml hown hts hG (m_isNumber l ((nI x))) gX5_handOver_X5_isNumber rfl ⟨rfl, rfl⟩ (by decide +kernel) ⟨Nat.le_of_ble_eq_true rfl, Nat.le_of_ble_eq_true rfl⟩ trivial rfl hl.1 rfl (Nat.le_of_ble_eq_true rfl) ⟨by decide, by decide⟩ dX5_handOver_34 ?_
        refine W.eq (g2 := F0 m 37 ls [.int (rn_b (rn_in ((nI x)) 0 998)), .ref m0]) rfl ?_
        refine rn_top (y := .int 1) (congrArg Value.int (by rw [show rn_in ((nI x)) 0 998 = true from rn_rng_t (n := 998) hx0 (by omega)]; rfl)) ?_
        refine lv_if_eq (tgt := 44) hx hb dX5_handOver_37 (by decide) (fun c_37 => ?_) (fun c_37 => ?_)
        · exact absurd c_37 (by decide)
        · refine lv_iconst (v := 0) hx hb dX5_handOver_40 (by decide) ?_
          refine lv_goto (tgt := 45) hx hb dX5_handOver_41 (by decide) ?_
          refine rn_wV (As := [.int 0]) (rest := []) 1 hx hb hml hown hts hG hS (m_refused l 0) (fun x hx => by rw [show x = m0 from hx]; exact rn_mA_0) gX5_handOver_X5_refused rfl ⟨rfl, rfl⟩ (by decide +kernel) ⟨Nat.le_of_ble_eq_true rfl, Nat.le_of_ble_eq_true rfl⟩ hF hF.1 rfl rfl hl.1 rfl (Nat.le_of_ble_eq_true rfl) ⟨by decide, by decide⟩ dX5_handOver_45 (fun H locs hP1 hz hk hS => ?_)
          refine W.eq (g2 := F0 m 48 ls [.int (rn_b (decide (0 ≠ 0)))]) rfl ?_
          have hF := hP1
          refine rn_top (y := .int 0) (congrArg Value.int (rfl)) ?_
          refine lv_if_eq (tgt := 53) hx hb dX5_handOver_48 (by decide) (fun c_48 => ?_) (fun c_48 => ?_)
          · refine lv_aload_n hx hb dX5_handOver_53 rfl (lv_at hl 1 rfl) ?_
            refine lv_aload_n hx hb dX5_handOver_54 rfl (lv_at hl 1 rfl) ?_
            refine rn_get (ci := 5) (v := .ref (ma 6)) (C := RX5) (T := TX5) (N := 18) hx hb hts iw_X5_handOver_5 hown hG hF.1 rfl 10 (by decide) fw_X5_handOver_35 rfl dX5_handOver_55 ?_
            refine lv_iload_n hx hb dX5_handOver_58 rfl (lv_at hl 2 rfl) ?_
            refine rn_iald (j := j) hx hb hG (show va_at D vwCl (ma 6, .inl (cI, 12, .inl (V 6))) _ from hF.2.1 6 (by decide)) 0 rfl (by omega) (by decide) dX5_handOver_59 ?_
            refine rn_top (y := .int (nI (σ.pl j))) (congrArg Value.int (hM.2.2.2.2.2.1 j hj0).1) ?_
            refine lv_iload_n hx hb dX5_handOver_60 rfl (lv_at hl 4 rfl) ?_
            refine rn_cV (As := [.int (nI (σ.pl j)), .int (nI x)]) (rest := []) 2 hx hb hml hown hts hG (m_led l hV hM hplb (x := x) hx0) gX5_handOver_X5_led rfl ⟨rfl, rfl⟩ (by decide +kernel) ⟨Nat.le_of_ble_eq_true rfl, Nat.le_of_ble_eq_true rfl⟩ hF hF.1 rfl rfl hl.1 rfl (Nat.le_of_ble_eq_true rfl) ⟨by decide, by decide⟩ dX5_handOver_61 ?_
            refine W.eq (g2 := F0 m 64 ls [.int (rn_enc (rn_lead σ (σ.pl j) x))]) rfl ?_
            refine lv_istore (lv' := [(5, .int (rn_enc (rn_lead σ (σ.pl j) x))), (4, .int 1), (0, .ref m0), (1, .int (nI j)), (2, .int (nI k)), (3, .int (nI x))]) hx hb dX5_handOver_64 hl (by decide) rfl (fun ls hl => ?_)
            cases hld : rn_lead σ (σ.pl j) x with
            | none =>
              rw [hld] at hl
              have hl : lv_has ls 7 [(5, .int (-1)), (4, .int 1), (0, .ref m0), (1, .int (nI j)), (2, .int (nI k)), (3, .int (nI x))] := hl
              refine lv_iload hx hb dX5_handOver_66 (lv_at hl 0 rfl) ?_
              refine lv_iconst (v := (-1)) hx hb dX5_handOver_68 (by decide) ?_
              refine lv_icmp_eq (tgt := 94) hx hb dX5_handOver_69 (by decide) (fun c_69 => ?_) (fun c_69 => ?_)
              · refine lv_iconst (v := 1) hx hb dX5_handOver_94 (by decide) ?_
                refine lv_goto (tgt := 99) hx hb dX5_handOver_95 (by decide) ?_
                refine lv_istore (lv' := [(6, .int 1), (5, .int (-1)), (4, .int 1), (0, .ref m0), (1, .int (nI j)), (2, .int (nI k)), (3, .int (nI x))]) hx hb dX5_handOver_99 hl (by decide) rfl (fun ls hl => ?_)
                refine lv_iload hx hb dX5_handOver_101 (lv_at hl 0 rfl) ?_
                refine lv_if_ne (tgt := 117) hx hb dX5_handOver_103 (by decide) (fun c_103 => ?_) (fun c_103 => ?_)
                · refine lv_aload_n hx hb dX5_handOver_117 rfl (lv_at hl 3 rfl) ?_
                  refine lv_iload hx hb dX5_handOver_118 (lv_at hl 0 rfl) ?_
                  refine lv_if_eq (tgt := 128) hx hb dX5_handOver_120 (by decide) (fun c_120 => ?_) (fun c_120 => ?_)
                  · exact absurd c_120 (by decide)
                  · refine lv_bipush (v := (-2)) hx hb dX5_handOver_123 (by decide +kernel) ?_
                    refine lv_goto (tgt := 129) hx hb dX5_handOver_125 (by decide) ?_
                    refine rn_wV (As := [.int (-2)]) (rest := []) 1 hx hb hml hown hts hG hS (m_told l ((-2))) (fun x hx => by rw [show x = m0 from hx]; exact rn_mA_0) gX5_handOver_X5_told rfl ⟨rfl, rfl⟩ (by decide +kernel) ⟨Nat.le_of_ble_eq_true rfl, Nat.le_of_ble_eq_true rfl⟩ hF hF.1 rfl rfl hl.1 rfl (Nat.le_of_ble_eq_true rfl) ⟨by decide, by decide⟩ dX5_handOver_129 (fun H locs hP1 hz hk hS => ?_)
                    refine W.eq (g2 := F0 m 132 ls [.int (-2)]) rfl ?_
                    have hF := hP1
                    have ho9 : rn_o_handOver σ j k x = ((-2), rn_ref σ ((-2))) := by rw [rn_o_handOver, hld]
                    exact rn_Wiret hx hb hr rfl hlocks hS (by decide) (by decide) (by rw [ho9]) (by rw [ho9]; exact ⟨_, hM, hF⟩) dX5_handOver_132
                · exact absurd c_103 (by decide)
              · exact absurd rfl c_69
            | some y =>
              rw [hld] at hl
              have hl : lv_has ls 7 [(5, .int (nI y)), (4, .int 1), (0, .ref m0), (1, .int (nI j)), (2, .int (nI k)), (3, .int (nI x))] := hl
              have hy : y ≤ 998 := rn_lead_in hV _ _ (Nat.le_refl _) hplb _ y (by omega) hld
              refine lv_iload hx hb dX5_handOver_66 (lv_at hl 0 rfl) ?_
              refine lv_iconst (v := (-1)) hx hb dX5_handOver_68 (by decide) ?_
              refine lv_icmp_eq (tgt := 94) hx hb dX5_handOver_69 (by decide) (fun c_69 => ?_) (fun c_69 => ?_)
              · exact absurd c_69 (rn_nI_m1 (by omega))
              · refine lv_aload_n hx hb dX5_handOver_72 rfl (lv_at hl 2 rfl) ?_
                refine lv_aload_n hx hb dX5_handOver_73 rfl (lv_at hl 2 rfl) ?_
                refine rn_get (ci := 5) (v := .ref (ma 6)) (C := RX5) (T := TX5) (N := 18) hx hb hts iw_X5_handOver_5 hown hG hF.1 rfl 10 (by decide) fw_X5_handOver_35 rfl dX5_handOver_74 ?_
                refine lv_iload_n hx hb dX5_handOver_77 rfl (lv_at hl 3 rfl) ?_
                refine rn_iald (j := j) hx hb hG (show va_at D vwCl (ma 6, .inl (cI, 12, .inl (V 6))) _ from hF.2.1 6 (by decide)) 0 rfl (by omega) (by decide) dX5_handOver_78 ?_
                refine rn_top (y := .int (nI (σ.pl j))) (congrArg Value.int (hM.2.2.2.2.2.1 j hj0).1) ?_
                refine lv_aload_n hx hb dX5_handOver_79 rfl (lv_at hl 2 rfl) ?_
                refine rn_get (ci := 5) (v := .ref (ma 9)) (C := RX5) (T := TX5) (N := 18) hx hb hts iw_X5_handOver_5 hown hG hF.1 rfl 14 (by decide) fw_X5_handOver_44 rfl dX5_handOver_80 ?_
                refine lv_iload_n hx hb dX5_handOver_83 rfl (lv_at hl 4 rfl) ?_
                refine rn_iald (j := k) hx hb hG (show va_at D vwCl (ma 9, .inl (cI, 20, .inl (V 9))) _ from hF.2.1 9 (by decide)) 0 rfl (by omega) (by decide) dX5_handOver_84 ?_
                refine rn_top (y := .int (nI (σ.fo k))) (congrArg Value.int (hM.2.2.2.2.2.2 k hk0).1) ?_
                refine rn_cV (As := [.int (nI (σ.pl j)), .int (nI (σ.fo k))]) (rest := []) 2 hx hb hml hown hts hG (m_seen l hV hM hplb (y := σ.fo k) hfob) gX5_handOver_X5_seen rfl ⟨rfl, rfl⟩ (by decide +kernel) ⟨Nat.le_of_ble_eq_true rfl, Nat.le_of_ble_eq_true rfl⟩ hF hF.1 rfl rfl hl.1 rfl (Nat.le_of_ble_eq_true rfl) ⟨by decide, by decide⟩ dX5_handOver_85 ?_
                refine W.eq (g2 := F0 m 88 ls [.int (nI (rn_see σ (σ.pl j) (σ.fo k)))]) rfl ?_
                refine lv_sipush (v := 999) hx hb dX5_handOver_88 (by decide +kernel) ?_
                refine lv_icmp_ne (tgt := 98) hx hb dX5_handOver_91 (by decide) (fun c_91 => ?_) (fun c_91 => ?_)
                · rw [rn_nI999 (rn_see_le _ _ _)] at c_91
                  refine lv_iconst (v := 0) hx hb dX5_handOver_98 (by decide) ?_
                  refine lv_istore (lv' := [(6, .int 0), (5, .int (nI y)), (4, .int 1), (0, .ref m0), (1, .int (nI j)), (2, .int (nI k)), (3, .int (nI x))]) hx hb dX5_handOver_99 hl (by decide) rfl (fun ls hl => ?_)
                  refine lv_iload hx hb dX5_handOver_101 (lv_at hl 0 rfl) ?_
                  refine lv_if_ne (tgt := 117) hx hb dX5_handOver_103 (by decide) (fun c_103 => ?_) (fun c_103 => ?_)
                  · exact absurd c_103 (by decide)
                  · refine lv_aload_n hx hb dX5_handOver_106 rfl (lv_at hl 3 rfl) ?_
                    refine rn_get (ci := 5) (v := .ref (ma 8)) (C := RX5) (T := TX5) (N := 18) hx hb hts iw_X5_handOver_5 hown hG hF.1 rfl 12 (by decide) fw_X5_handOver_41 rfl dX5_handOver_107 ?_
                    refine lv_iload_n hx hb dX5_handOver_110 rfl (lv_at hl 4 rfl) ?_
                    refine rn_iald (j := j) hx hb hG (show va_at D vwCl (ma 8, .inl (cI, 12, .inl (V 8))) _ from hF.2.1 8 (by decide)) 0 rfl (by omega) (by decide) dX5_handOver_111 ?_
                    refine rn_top (y := .int (σ.pr j)) (congrArg Value.int (hM.2.2.2.2.2.1 j hj0).2.2) ?_
                    refine lv_iconst (v := 2) hx hb dX5_handOver_112 (by decide) ?_
                    refine lv_iand hx hb dX5_handOver_113 ?_
                    refine lv_if_ne (tgt := 133) hx hb dX5_handOver_114 (by decide) (fun c_114 => ?_) (fun c_114 => ?_)
                    · refine lv_aload_n hx hb dX5_handOver_133 rfl (lv_at hl 3 rfl) ?_
                      refine rn_get (ci := 5) (v := .ref (ma 9)) (C := RX5) (T := TX5) (N := 18) hx hb hts iw_X5_handOver_5 hown hG hF.1 rfl 14 (by decide) fw_X5_handOver_44 rfl dX5_handOver_134 ?_
                      refine lv_iload_n hx hb dX5_handOver_137 rfl (lv_at hl 5 rfl) ?_
                      refine lv_iload hx hb dX5_handOver_138 (lv_at hl 1 rfl) ?_
                      refine rn_iast (A := (rn_mA m0 ma)) (j := k) (x := (nI y)) (g := V 9) (n := 20) hx hb hG hS (rn_mA_k 9 (by decide)) (show va_at D vwCl (ma 9, .inl (cI, 20, .inl (V 9))) _ from hF.2.1 9 (by decide)) 0 rfl (by omega) (by decide) dX5_handOver_140 (fun H locs hat hz ho hS => ?_)
                      have hF := hF.st (k := 9) (by decide) hat ho
                      refine lv_iload hx hb dX5_handOver_141 (lv_at hl 1 rfl) ?_
                      have hM9 : rn_Mr (rn_hand σ k y) (va_up V 9 (upd (V 9) k ((nI y)))) := rn_Mr.hand hM (fun i => rfl) (fun q a9 => by simp [va_up, a9])
                      have ho9 : rn_o_handOver σ j k x = ((nI y), rn_hand σ k y) := by rw [rn_o_handOver, hld]; exact (if_neg c_91).trans (if_neg c_114)
                      exact rn_Wiret hx hb hr rfl hlocks hS (by decide) (by decide) (by rw [ho9]) (by rw [ho9]; exact ⟨_, hM9, hF⟩) dX5_handOver_143
                    · refine lv_aload_n hx hb dX5_handOver_117 rfl (lv_at hl 3 rfl) ?_
                      refine lv_iload hx hb dX5_handOver_118 (lv_at hl 0 rfl) ?_
                      refine lv_if_eq (tgt := 128) hx hb dX5_handOver_120 (by decide) (fun c_120 => ?_) (fun c_120 => ?_)
                      · refine lv_iconst (v := (-1)) hx hb dX5_handOver_128 (by decide) ?_
                        refine rn_wV (As := [.int (-1)]) (rest := []) 1 hx hb hml hown hts hG hS (m_told l ((-1))) (fun x hx => by rw [show x = m0 from hx]; exact rn_mA_0) gX5_handOver_X5_told rfl ⟨rfl, rfl⟩ (by decide +kernel) ⟨Nat.le_of_ble_eq_true rfl, Nat.le_of_ble_eq_true rfl⟩ hF hF.1 rfl rfl hl.1 rfl (Nat.le_of_ble_eq_true rfl) ⟨by decide, by decide⟩ dX5_handOver_129 (fun H locs hP1 hz hk hS => ?_)
                        refine W.eq (g2 := F0 m 132 ls [.int (-1)]) rfl ?_
                        have hF := hP1
                        have ho9 : rn_o_handOver σ j k x = ((-1), rn_ref σ ((-1))) := by rw [rn_o_handOver, hld]; exact (if_neg c_91).trans (if_pos c_114)
                        exact rn_Wiret hx hb hr rfl hlocks hS (by decide) (by decide) (by rw [ho9]) (by rw [ho9]; exact ⟨_, hM, hF⟩) dX5_handOver_132
                      · exact absurd c_120 (by decide)
                · rw [rn_nI999 (rn_see_le _ _ _)] at c_91
                  refine lv_iconst (v := 1) hx hb dX5_handOver_94 (by decide) ?_
                  refine lv_goto (tgt := 99) hx hb dX5_handOver_95 (by decide) ?_
                  refine lv_istore (lv' := [(6, .int 1), (5, .int (nI y)), (4, .int 1), (0, .ref m0), (1, .int (nI j)), (2, .int (nI k)), (3, .int (nI x))]) hx hb dX5_handOver_99 hl (by decide) rfl (fun ls hl => ?_)
                  refine lv_iload hx hb dX5_handOver_101 (lv_at hl 0 rfl) ?_
                  refine lv_if_ne (tgt := 117) hx hb dX5_handOver_103 (by decide) (fun c_103 => ?_) (fun c_103 => ?_)
                  · refine lv_aload_n hx hb dX5_handOver_117 rfl (lv_at hl 3 rfl) ?_
                    refine lv_iload hx hb dX5_handOver_118 (lv_at hl 0 rfl) ?_
                    refine lv_if_eq (tgt := 128) hx hb dX5_handOver_120 (by decide) (fun c_120 => ?_) (fun c_120 => ?_)
                    · exact absurd c_120 (by decide)
                    · refine lv_bipush (v := (-2)) hx hb dX5_handOver_123 (by decide +kernel) ?_
                      refine lv_goto (tgt := 129) hx hb dX5_handOver_125 (by decide) ?_
                      refine rn_wV (As := [.int (-2)]) (rest := []) 1 hx hb hml hown hts hG hS (m_told l ((-2))) (fun x hx => by rw [show x = m0 from hx]; exact rn_mA_0) gX5_handOver_X5_told rfl ⟨rfl, rfl⟩ (by decide +kernel) ⟨Nat.le_of_ble_eq_true rfl, Nat.le_of_ble_eq_true rfl⟩ hF hF.1 rfl rfl hl.1 rfl (Nat.le_of_ble_eq_true rfl) ⟨by decide, by decide⟩ dX5_handOver_129 (fun H locs hP1 hz hk hS => ?_)
                      refine W.eq (g2 := F0 m 132 ls [.int (-2)]) rfl ?_
                      have hF := hP1
                      have ho9 : rn_o_handOver σ j k x = ((-2), rn_ref σ ((-2))) := by rw [rn_o_handOver, hld]; exact if_pos c_91
                      exact rn_Wiret hx hb hr rfl hlocks hS (by decide) (by decide) (by rw [ho9]) (by rw [ho9]; exact ⟨_, hM, hF⟩) dX5_handOver_132
                  · exact absurd c_103 (by decide)
          · exact absurd c_48 (by decide)
      · exact absurd c_26 (by decide)

set_option maxHeartbeats 4000000 in
set_option maxRecDepth 100000 in
theorem n_open (l : Launch) {D : va_G} {cI : ClassId} {m0 : Nat} {ma : Nat → Nat} {rf : Int32} {V : Nat → Nat → Int32} {σ : rn_St} (hV : rn_V σ) (hM : rn_Mr σ V) {j k : Nat} {wb : Bool} (hj0 : j < σ.pn) (hk0 : k < σ.fn) (sz : Nat) : rn_W l yX5_open wsX5_open ({ frames := 4, cells := 0, slots := 0, locals := 96 } : Room) D [(cI, .int)] ((rn_MW D cI m0 ma rf (nI σ.sn) (nI σ.sd.length) (nI σ.pn) (nI σ.fn) σ.rc σ.la V)) [.ref m0, .int (nI j), .int (nI k), .int (rn_b wb)] (some (.int ((rn_o_open σ j k wb).1))) (rn_MP D cI m0 ma 0 ((rn_o_open σ j k wb).2)) (rn_mA m0 ma) 0 0 sz := by
  refine rn_W.ofW (cc := cX5_open) (maxL := 5) (ret := (some .int)) (by decide) rfl (Nat.le_of_ble_eq_true rfl) (fun p e s m below meth c ls hx hb hr hml hts hown hlocks hin hsz hF hG hS hl => ?_)
  have hl : lv_has ls 5 [(0, .ref m0), (1, .int (nI j)), (2, .int (nI k)), (3, .int (rn_b wb))] := hl
  have hs10 := hV.1.2
  have hp12 := hV.2.2.2.2.2.1.2.1
  have hf20 := hV.2.2.2.2.2.2.1
  have hd3 := hV.2.2.2.2.1.2
  refine lv_aload_n hx hb dX5_open_0 rfl (lv_at hl 0 rfl) ?_
  refine lv_aload_n hx hb dX5_open_1 rfl (lv_at hl 0 rfl) ?_
  refine lv_iload_n hx hb dX5_open_2 rfl (lv_at hl 1 rfl) ?_
  refine rn_cV (As := [.int (nI j)]) (rest := [.ref m0]) 1 hx hb hml hown hts hG (m_isProcess l ((nI j))) gX5_open_X5_isProcess rfl ⟨rfl, rfl⟩ (by decide +kernel) ⟨Nat.le_of_ble_eq_true rfl, Nat.le_of_ble_eq_true rfl⟩ hF hF.1 rfl rfl hl.1 rfl (Nat.le_of_ble_eq_true rfl) ⟨by decide, by decide⟩ dX5_open_3 ?_
  refine W.eq (g2 := F0 m 6 ls [.int (rn_b (rn_in ((nI j)) 0 (nI σ.pn - 1))), .ref m0]) rfl ?_
  refine rn_top (y := .int 1) (congrArg Value.int (by rw [rn_ok_t (by omega) hj0]; rfl)) ?_
  refine lv_if_eq (tgt := 21) hx hb dX5_open_6 (by decide) (fun c_6 => ?_) (fun c_6 => ?_)
  · exact absurd c_6 (by decide)
  · refine lv_aload_n hx hb dX5_open_9 rfl (lv_at hl 0 rfl) ?_
    refine lv_iload_n hx hb dX5_open_10 rfl (lv_at hl 2 rfl) ?_
    refine rn_cV (As := [.int (nI k)]) (rest := [.ref m0]) 1 hx hb hml hown hts hG (m_isFile l ((nI k))) gX5_open_X5_isFile rfl ⟨rfl, rfl⟩ (by decide +kernel) ⟨Nat.le_of_ble_eq_true rfl, Nat.le_of_ble_eq_true rfl⟩ hF hF.1 rfl rfl hl.1 rfl (Nat.le_of_ble_eq_true rfl) ⟨by decide, by decide⟩ dX5_open_11 ?_
    refine W.eq (g2 := F0 m 14 ls [.int (rn_b (rn_in ((nI k)) 0 (nI σ.fn - 1))), .ref m0]) rfl ?_
    refine rn_top (y := .int 1) (congrArg Value.int (by rw [rn_ok_t (by omega) hk0]; rfl)) ?_
    refine lv_if_eq (tgt := 21) hx hb dX5_open_14 (by decide) (fun c_14 => ?_) (fun c_14 => ?_)
    · exact absurd c_14 (by decide)
    · refine lv_iconst (v := 0) hx hb dX5_open_17 (by decide) ?_
      refine lv_goto (tgt := 22) hx hb dX5_open_18 (by decide) ?_
      refine rn_wV (As := [.int 0]) (rest := []) 1 hx hb hml hown hts hG hS (m_refused l 0) (fun x hx => by rw [show x = m0 from hx]; exact rn_mA_0) gX5_open_X5_refused rfl ⟨rfl, rfl⟩ (by decide +kernel) ⟨Nat.le_of_ble_eq_true rfl, Nat.le_of_ble_eq_true rfl⟩ hF hF.1 rfl rfl hl.1 rfl (Nat.le_of_ble_eq_true rfl) ⟨by decide, by decide⟩ dX5_open_22 (fun H locs hP1 hz hk hS => ?_)
      refine W.eq (g2 := F0 m 25 ls [.int (rn_b (decide (0 ≠ 0)))]) rfl ?_
      have hF := hP1
      refine rn_top (y := .int 0) (congrArg Value.int (rfl)) ?_
      refine lv_if_eq (tgt := 30) hx hb dX5_open_25 (by decide) (fun c_25 => ?_) (fun c_25 => ?_)
      · refine lv_iload_n hx hb dX5_open_30 rfl (lv_at hl 3 rfl) ?_
        refine lv_if_eq (tgt := 38) hx hb dX5_open_31 (by decide) (fun c_31 => ?_) (fun c_31 => ?_)
        · refine lv_iconst (v := 1) hx hb dX5_open_38 (by decide) ?_
          refine lv_aload_n hx hb dX5_open_39 rfl (lv_at hl 0 rfl) ?_
          refine rn_get (ci := 5) (v := .ref (ma 7)) (C := RX5) (T := TX5) (N := 18) hx hb hts iw_X5_open_5 hown hG hF.1 rfl 11 (by decide) fw_X5_open_38 rfl dX5_open_40 ?_
          refine lv_iload_n hx hb dX5_open_43 rfl (lv_at hl 1 rfl) ?_
          refine rn_iald (j := j) hx hb hG (show va_at D vwCl (ma 7, .inl (cI, 12, .inl (V 7))) _ from hF.2.1 7 (by decide)) 0 rfl (by omega) (by decide) dX5_open_44 ?_
          refine rn_top (y := .int (nI (σ.pu j))) (congrArg Value.int (hM.2.2.2.2.2.1 j hj0).2.1) ?_
          refine lv_aload_n hx hb dX5_open_45 rfl (lv_at hl 0 rfl) ?_
          refine rn_get (ci := 5) (v := .ref (ma 9)) (C := RX5) (T := TX5) (N := 18) hx hb hts iw_X5_open_5 hown hG hF.1 rfl 14 (by decide) fw_X5_open_44 rfl dX5_open_46 ?_
          refine lv_iload_n hx hb dX5_open_49 rfl (lv_at hl 2 rfl) ?_
          refine rn_iald (j := k) hx hb hG (show va_at D vwCl (ma 9, .inl (cI, 20, .inl (V 9))) _ from hF.2.1 9 (by decide)) 0 rfl (by omega) (by decide) dX5_open_50 ?_
          refine rn_top (y := .int (nI (σ.fo k))) (congrArg Value.int (hM.2.2.2.2.2.2 k hk0).1) ?_
          refine lv_icmp_ne (tgt := 58) hx hb dX5_open_51 (by decide) (fun c_51 => ?_) (fun c_51 => ?_)
          · refine lv_iconst (v := 4) hx hb dX5_open_58 (by decide) ?_
            refine lv_imul hx hb dX5_open_59 ?_
            refine lv_istore (lv' := [(4, .int (1 * 4)), (0, .ref m0), (1, .int (nI j)), (2, .int (nI k)), (3, .int (rn_b wb))]) hx hb dX5_open_60 hl (by decide) rfl (fun ls hl => ?_)
            refine lv_aload_n hx hb dX5_open_62 rfl (lv_at hl 1 rfl) ?_
            refine rn_get (ci := 5) (v := .ref (ma 10)) (C := RX5) (T := TX5) (N := 18) hx hb hts iw_X5_open_5 hown hG hF.1 rfl 15 (by decide) fw_X5_open_47 rfl dX5_open_63 ?_
            refine lv_iload_n hx hb dX5_open_66 rfl (lv_at hl 3 rfl) ?_
            refine rn_iald (j := k) hx hb hG (show va_at D vwCl (ma 10, .inl (cI, 20, .inl (V 10))) _ from hF.2.1 10 (by decide)) 0 rfl (by omega) (by decide) dX5_open_67 ?_
            refine rn_top (y := .int (σ.fm k)) (congrArg Value.int (hM.2.2.2.2.2.2 k hk0).2) ?_
            refine lv_iload hx hb dX5_open_68 (lv_at hl 0 rfl) ?_
            refine lv_iand hx hb dX5_open_70 ?_
            refine lv_if_eq (tgt := 76) hx hb dX5_open_71 (by decide) (fun c_71 => ?_) (fun c_71 => ?_)
            · have hm9 : rn_may (σ.fm k) (nI (σ.pu j)) (nI (σ.fo k)) wb = false := by
                rw [rn_may_m, if_neg c_51, show wb = false from rn_b0.mp c_31]
                exact decide_eq_false (fun h => h c_71)
              refine lv_aload_n hx hb dX5_open_76 rfl (lv_at hl 1 rfl) ?_
              refine rn_get (ci := 5) (v := .ref (ma 8)) (C := RX5) (T := TX5) (N := 18) hx hb hts iw_X5_open_5 hown hG hF.1 rfl 12 (by decide) fw_X5_open_41 rfl dX5_open_77 ?_
              refine lv_iload_n hx hb dX5_open_80 rfl (lv_at hl 2 rfl) ?_
              refine rn_iald (j := j) hx hb hG (show va_at D vwCl (ma 8, .inl (cI, 12, .inl (V 8))) _ from hF.2.1 8 (by decide)) 0 rfl (by omega) (by decide) dX5_open_81 ?_
              refine rn_top (y := .int (σ.pr j)) (congrArg Value.int (hM.2.2.2.2.2.1 j hj0).2.2) ?_
              refine lv_iconst (v := 4) hx hb dX5_open_82 (by decide) ?_
              refine lv_iand hx hb dX5_open_83 ?_
              refine lv_if_ne (tgt := 94) hx hb dX5_open_84 (by decide) (fun c_84 => ?_) (fun c_84 => ?_)
              · refine lv_aload_n hx hb dX5_open_94 rfl (lv_at hl 1 rfl) ?_
                refine lv_aload_n hx hb dX5_open_95 rfl (lv_at hl 1 rfl) ?_
                refine rn_get (ci := 5) (v := .ref (ma 6)) (C := RX5) (T := TX5) (N := 18) hx hb hts iw_X5_open_5 hown hG hF.1 rfl 10 (by decide) fw_X5_open_35 rfl dX5_open_96 ?_
                refine lv_iload_n hx hb dX5_open_99 rfl (lv_at hl 2 rfl) ?_
                refine rn_iald (j := j) hx hb hG (show va_at D vwCl (ma 6, .inl (cI, 12, .inl (V 6))) _ from hF.2.1 6 (by decide)) 0 rfl (by omega) (by decide) dX5_open_100 ?_
                refine rn_top (y := .int (nI (σ.pl j))) (congrArg Value.int (hM.2.2.2.2.2.1 j hj0).1) ?_
                refine lv_aload_n hx hb dX5_open_101 rfl (lv_at hl 1 rfl) ?_
                refine rn_get (ci := 5) (v := .ref (ma 9)) (C := RX5) (T := TX5) (N := 18) hx hb hts iw_X5_open_5 hown hG hF.1 rfl 14 (by decide) fw_X5_open_44 rfl dX5_open_102 ?_
                refine lv_iload_n hx hb dX5_open_105 rfl (lv_at hl 3 rfl) ?_
                refine rn_iald (j := k) hx hb hG (show va_at D vwCl (ma 9, .inl (cI, 20, .inl (V 9))) _ from hF.2.1 9 (by decide)) 0 rfl (by omega) (by decide) dX5_open_106 ?_
                refine rn_top (y := .int (nI (σ.fo k))) (congrArg Value.int (hM.2.2.2.2.2.2 k hk0).1) ?_
                refine rn_cV (As := [.int (nI (σ.pl j)), .int (nI (σ.fo k))]) (rest := []) 2 hx hb hml hown hts hG (m_seen l hV hM (hV.2.2.2.2.2.1.2.2 j hj0).1 (y := σ.fo k) (hV.2.2.2.2.2.2.2 k hk0)) gX5_open_X5_seen rfl ⟨rfl, rfl⟩ (by decide +kernel) ⟨Nat.le_of_ble_eq_true rfl, Nat.le_of_ble_eq_true rfl⟩ hF hF.1 rfl rfl hl.1 rfl (Nat.le_of_ble_eq_true rfl) ⟨by decide, by decide⟩ dX5_open_107 ?_
                refine W.eq (g2 := F0 m 110 ls [.int (nI (rn_see σ (σ.pl j) (σ.fo k)))]) rfl ?_
                refine lv_sipush (v := 999) hx hb dX5_open_110 (by decide +kernel) ?_
                refine lv_icmp_ne (tgt := 125) hx hb dX5_open_113 (by decide) (fun c_113 => ?_) (fun c_113 => ?_)
                · rw [rn_nI999 (rn_see_le _ _ _)] at c_113
                  refine lv_iconst (v := 2) hx hb dX5_open_125 (by decide) ?_
                  have hM9 : rn_Mr (σ) V := hM
                  have ho9 : rn_o_open σ j k wb = (2, σ) := by rw [rn_o_open, if_neg (by rw [hm9]; decide), if_neg c_84, if_neg c_113]
                  exact rn_Wiret hx hb hr rfl hlocks hS (by decide) (by decide) (by rw [ho9]) (by rw [ho9]; exact ⟨_, hM9, hF⟩) dX5_open_126
                · rw [rn_nI999 (rn_see_le _ _ _)] at c_113
                  refine lv_aload_n hx hb dX5_open_116 rfl (lv_at hl 1 rfl) ?_
                  refine lv_bipush (v := (-2)) hx hb dX5_open_117 (by decide +kernel) ?_
                  refine rn_wV (As := [.int (-2)]) (rest := []) 1 hx hb hml hown hts hG hS (m_told l ((-2))) (fun x hx => by rw [show x = m0 from hx]; exact rn_mA_0) gX5_open_X5_told rfl ⟨rfl, rfl⟩ (by decide +kernel) ⟨Nat.le_of_ble_eq_true rfl, Nat.le_of_ble_eq_true rfl⟩ hF hF.1 rfl rfl hl.1 rfl (Nat.le_of_ble_eq_true rfl) ⟨by decide, by decide⟩ dX5_open_119 (fun H locs hP1 hz hk hS => ?_)
                  refine W.eq (g2 := F0 m 122 ls [.int (-2)]) rfl ?_
                  have hF := hP1
                  refine lv_goto (tgt := 126) hx hb dX5_open_122 (by decide) ?_
                  have ho9 : rn_o_open σ j k wb = ((-2), rn_ref σ ((-2))) := by rw [rn_o_open, if_neg (by rw [hm9]; decide), if_neg c_84, if_pos c_113]
                  exact rn_Wiret hx hb hr rfl hlocks hS (by decide) (by decide) (by rw [ho9]) (by rw [ho9]; exact ⟨_, hM, hF⟩) dX5_open_126
              · refine lv_aload_n hx hb dX5_open_87 rfl (lv_at hl 1 rfl) ?_
                refine lv_bipush (v := (-6)) hx hb dX5_open_88 (by decide +kernel) ?_
                refine rn_wV (As := [.int (-6)]) (rest := []) 1 hx hb hml hown hts hG hS (m_told l ((-6))) (fun x hx => by rw [show x = m0 from hx]; exact rn_mA_0) gX5_open_X5_told rfl ⟨rfl, rfl⟩ (by decide +kernel) ⟨Nat.le_of_ble_eq_true rfl, Nat.le_of_ble_eq_true rfl⟩ hF hF.1 rfl rfl hl.1 rfl (Nat.le_of_ble_eq_true rfl) ⟨by decide, by decide⟩ dX5_open_90 (fun H locs hP1 hz hk hS => ?_)
                refine W.eq (g2 := F0 m 93 ls [.int (-6)]) rfl ?_
                have hF := hP1
                have ho9 : rn_o_open σ j k wb = ((-6), rn_ref σ ((-6))) := by rw [rn_o_open, if_neg (by rw [hm9]; decide), if_pos c_84]
                exact rn_Wiret hx hb hr rfl hlocks hS (by decide) (by decide) (by rw [ho9]) (by rw [ho9]; exact ⟨_, hM, hF⟩) dX5_open_93
            · have hm9 : rn_may (σ.fm k) (nI (σ.pu j)) (nI (σ.fo k)) wb = true := by
                rw [rn_may_m, if_neg c_51, show wb = false from rn_b0.mp c_31]
                exact decide_eq_true c_71
              refine lv_iconst (v := 1) hx hb dX5_open_74 (by decide) ?_
              have hM9 : rn_Mr (σ) V := hM
              have ho9 : rn_o_open σ j k wb = (1, σ) := by rw [rn_o_open, if_pos hm9]
              exact rn_Wiret hx hb hr rfl hlocks hS (by decide) (by decide) (by rw [ho9]) (by rw [ho9]; exact ⟨_, hM9, hF⟩) dX5_open_75
          · refine lv_iconst (v := 1) hx hb dX5_open_54 (by decide) ?_
            refine lv_goto (tgt := 59) hx hb dX5_open_55 (by decide) ?_
            refine lv_imul hx hb dX5_open_59 ?_
            refine lv_istore (lv' := [(4, .int (1 * 1)), (0, .ref m0), (1, .int (nI j)), (2, .int (nI k)), (3, .int (rn_b wb))]) hx hb dX5_open_60 hl (by decide) rfl (fun ls hl => ?_)
            refine lv_aload_n hx hb dX5_open_62 rfl (lv_at hl 1 rfl) ?_
            refine rn_get (ci := 5) (v := .ref (ma 10)) (C := RX5) (T := TX5) (N := 18) hx hb hts iw_X5_open_5 hown hG hF.1 rfl 15 (by decide) fw_X5_open_47 rfl dX5_open_63 ?_
            refine lv_iload_n hx hb dX5_open_66 rfl (lv_at hl 3 rfl) ?_
            refine rn_iald (j := k) hx hb hG (show va_at D vwCl (ma 10, .inl (cI, 20, .inl (V 10))) _ from hF.2.1 10 (by decide)) 0 rfl (by omega) (by decide) dX5_open_67 ?_
            refine rn_top (y := .int (σ.fm k)) (congrArg Value.int (hM.2.2.2.2.2.2 k hk0).2) ?_
            refine lv_iload hx hb dX5_open_68 (lv_at hl 0 rfl) ?_
            refine lv_iand hx hb dX5_open_70 ?_
            refine lv_if_eq (tgt := 76) hx hb dX5_open_71 (by decide) (fun c_71 => ?_) (fun c_71 => ?_)
            · have hm9 : rn_may (σ.fm k) (nI (σ.pu j)) (nI (σ.fo k)) wb = false := by
                rw [rn_may_m, if_pos c_51, show wb = false from rn_b0.mp c_31]
                exact decide_eq_false (fun h => h c_71)
              refine lv_aload_n hx hb dX5_open_76 rfl (lv_at hl 1 rfl) ?_
              refine rn_get (ci := 5) (v := .ref (ma 8)) (C := RX5) (T := TX5) (N := 18) hx hb hts iw_X5_open_5 hown hG hF.1 rfl 12 (by decide) fw_X5_open_41 rfl dX5_open_77 ?_
              refine lv_iload_n hx hb dX5_open_80 rfl (lv_at hl 2 rfl) ?_
              refine rn_iald (j := j) hx hb hG (show va_at D vwCl (ma 8, .inl (cI, 12, .inl (V 8))) _ from hF.2.1 8 (by decide)) 0 rfl (by omega) (by decide) dX5_open_81 ?_
              refine rn_top (y := .int (σ.pr j)) (congrArg Value.int (hM.2.2.2.2.2.1 j hj0).2.2) ?_
              refine lv_iconst (v := 4) hx hb dX5_open_82 (by decide) ?_
              refine lv_iand hx hb dX5_open_83 ?_
              refine lv_if_ne (tgt := 94) hx hb dX5_open_84 (by decide) (fun c_84 => ?_) (fun c_84 => ?_)
              · refine lv_aload_n hx hb dX5_open_94 rfl (lv_at hl 1 rfl) ?_
                refine lv_aload_n hx hb dX5_open_95 rfl (lv_at hl 1 rfl) ?_
                refine rn_get (ci := 5) (v := .ref (ma 6)) (C := RX5) (T := TX5) (N := 18) hx hb hts iw_X5_open_5 hown hG hF.1 rfl 10 (by decide) fw_X5_open_35 rfl dX5_open_96 ?_
                refine lv_iload_n hx hb dX5_open_99 rfl (lv_at hl 2 rfl) ?_
                refine rn_iald (j := j) hx hb hG (show va_at D vwCl (ma 6, .inl (cI, 12, .inl (V 6))) _ from hF.2.1 6 (by decide)) 0 rfl (by omega) (by decide) dX5_open_100 ?_
                refine rn_top (y := .int (nI (σ.pl j))) (congrArg Value.int (hM.2.2.2.2.2.1 j hj0).1) ?_
                refine lv_aload_n hx hb dX5_open_101 rfl (lv_at hl 1 rfl) ?_
                refine rn_get (ci := 5) (v := .ref (ma 9)) (C := RX5) (T := TX5) (N := 18) hx hb hts iw_X5_open_5 hown hG hF.1 rfl 14 (by decide) fw_X5_open_44 rfl dX5_open_102 ?_
                refine lv_iload_n hx hb dX5_open_105 rfl (lv_at hl 3 rfl) ?_
                refine rn_iald (j := k) hx hb hG (show va_at D vwCl (ma 9, .inl (cI, 20, .inl (V 9))) _ from hF.2.1 9 (by decide)) 0 rfl (by omega) (by decide) dX5_open_106 ?_
                refine rn_top (y := .int (nI (σ.fo k))) (congrArg Value.int (hM.2.2.2.2.2.2 k hk0).1) ?_
                refine rn_cV (As := [.int (nI (σ.pl j)), .int (nI (σ.fo k))]) (rest := []) 2 hx hb hml hown hts hG (m_seen l hV hM (hV.2.2.2.2.2.1.2.2 j hj0).1 (y := σ.fo k) (hV.2.2.2.2.2.2.2 k hk0)) gX5_open_X5_seen rfl ⟨rfl, rfl⟩ (by decide +kernel) ⟨Nat.le_of_ble_eq_true rfl, Nat.le_of_ble_eq_true rfl⟩ hF hF.1 rfl rfl hl.1 rfl (Nat.le_of_ble_eq_true rfl) ⟨by decide, by decide⟩ dX5_open_107 ?_
                refine W.eq (g2 := F0 m 110 ls [.int (nI (rn_see σ (σ.pl j) (σ.fo k)))]) rfl ?_
                refine lv_sipush (v := 999) hx hb dX5_open_110 (by decide +kernel) ?_
                refine lv_icmp_ne (tgt := 125) hx hb dX5_open_113 (by decide) (fun c_113 => ?_) (fun c_113 => ?_)
                · rw [rn_nI999 (rn_see_le _ _ _)] at c_113
                  refine lv_iconst (v := 2) hx hb dX5_open_125 (by decide) ?_
                  have hM9 : rn_Mr (σ) V := hM
                  have ho9 : rn_o_open σ j k wb = (2, σ) := by rw [rn_o_open, if_neg (by rw [hm9]; decide), if_neg c_84, if_neg c_113]
                  exact rn_Wiret hx hb hr rfl hlocks hS (by decide) (by decide) (by rw [ho9]) (by rw [ho9]; exact ⟨_, hM9, hF⟩) dX5_open_126
                · rw [rn_nI999 (rn_see_le _ _ _)] at c_113
                  refine lv_aload_n hx hb dX5_open_116 rfl (lv_at hl 1 rfl) ?_
                  refine lv_bipush (v := (-2)) hx hb dX5_open_117 (by decide +kernel) ?_
                  refine rn_wV (As := [.int (-2)]) (rest := []) 1 hx hb hml hown hts hG hS (m_told l ((-2))) (fun x hx => by rw [show x = m0 from hx]; exact rn_mA_0) gX5_open_X5_told rfl ⟨rfl, rfl⟩ (by decide +kernel) ⟨Nat.le_of_ble_eq_true rfl, Nat.le_of_ble_eq_true rfl⟩ hF hF.1 rfl rfl hl.1 rfl (Nat.le_of_ble_eq_true rfl) ⟨by decide, by decide⟩ dX5_open_119 (fun H locs hP1 hz hk hS => ?_)
                  refine W.eq (g2 := F0 m 122 ls [.int (-2)]) rfl ?_
                  have hF := hP1
                  refine lv_goto (tgt := 126) hx hb dX5_open_122 (by decide) ?_
                  have ho9 : rn_o_open σ j k wb = ((-2), rn_ref σ ((-2))) := by rw [rn_o_open, if_neg (by rw [hm9]; decide), if_neg c_84, if_pos c_113]
                  exact rn_Wiret hx hb hr rfl hlocks hS (by decide) (by decide) (by rw [ho9]) (by rw [ho9]; exact ⟨_, hM, hF⟩) dX5_open_126
              · refine lv_aload_n hx hb dX5_open_87 rfl (lv_at hl 1 rfl) ?_
                refine lv_bipush (v := (-6)) hx hb dX5_open_88 (by decide +kernel) ?_
                refine rn_wV (As := [.int (-6)]) (rest := []) 1 hx hb hml hown hts hG hS (m_told l ((-6))) (fun x hx => by rw [show x = m0 from hx]; exact rn_mA_0) gX5_open_X5_told rfl ⟨rfl, rfl⟩ (by decide +kernel) ⟨Nat.le_of_ble_eq_true rfl, Nat.le_of_ble_eq_true rfl⟩ hF hF.1 rfl rfl hl.1 rfl (Nat.le_of_ble_eq_true rfl) ⟨by decide, by decide⟩ dX5_open_90 (fun H locs hP1 hz hk hS => ?_)
                refine W.eq (g2 := F0 m 93 ls [.int (-6)]) rfl ?_
                have hF := hP1
                have ho9 : rn_o_open σ j k wb = ((-6), rn_ref σ ((-6))) := by rw [rn_o_open, if_neg (by rw [hm9]; decide), if_pos c_84]
                exact rn_Wiret hx hb hr rfl hlocks hS (by decide) (by decide) (by rw [ho9]) (by rw [ho9]; exact ⟨_, hM, hF⟩) dX5_open_93
            · have hm9 : rn_may (σ.fm k) (nI (σ.pu j)) (nI (σ.fo k)) wb = true := by
                rw [rn_may_m, if_pos c_51, show wb = false from rn_b0.mp c_31]
                exact decide_eq_true c_71
              refine lv_iconst (v := 1) hx hb dX5_open_74 (by decide) ?_
              have hM9 : rn_Mr (σ) V := hM
              have ho9 : rn_o_open σ j k wb = (1, σ) := by rw [rn_o_open, if_pos hm9]
              exact rn_Wiret hx hb hr rfl hlocks hS (by decide) (by decide) (by rw [ho9]) (by rw [ho9]; exact ⟨_, hM9, hF⟩) dX5_open_75
        · refine lv_iconst (v := 2) hx hb dX5_open_34 (by decide) ?_
          refine lv_goto (tgt := 39) hx hb dX5_open_35 (by decide) ?_
          refine lv_aload_n hx hb dX5_open_39 rfl (lv_at hl 0 rfl) ?_
          refine rn_get (ci := 5) (v := .ref (ma 7)) (C := RX5) (T := TX5) (N := 18) hx hb hts iw_X5_open_5 hown hG hF.1 rfl 11 (by decide) fw_X5_open_38 rfl dX5_open_40 ?_
          refine lv_iload_n hx hb dX5_open_43 rfl (lv_at hl 1 rfl) ?_
          refine rn_iald (j := j) hx hb hG (show va_at D vwCl (ma 7, .inl (cI, 12, .inl (V 7))) _ from hF.2.1 7 (by decide)) 0 rfl (by omega) (by decide) dX5_open_44 ?_
          refine rn_top (y := .int (nI (σ.pu j))) (congrArg Value.int (hM.2.2.2.2.2.1 j hj0).2.1) ?_
          refine lv_aload_n hx hb dX5_open_45 rfl (lv_at hl 0 rfl) ?_
          refine rn_get (ci := 5) (v := .ref (ma 9)) (C := RX5) (T := TX5) (N := 18) hx hb hts iw_X5_open_5 hown hG hF.1 rfl 14 (by decide) fw_X5_open_44 rfl dX5_open_46 ?_
          refine lv_iload_n hx hb dX5_open_49 rfl (lv_at hl 2 rfl) ?_
          refine rn_iald (j := k) hx hb hG (show va_at D vwCl (ma 9, .inl (cI, 20, .inl (V 9))) _ from hF.2.1 9 (by decide)) 0 rfl (by omega) (by decide) dX5_open_50 ?_
          refine rn_top (y := .int (nI (σ.fo k))) (congrArg Value.int (hM.2.2.2.2.2.2 k hk0).1) ?_
          refine lv_icmp_ne (tgt := 58) hx hb dX5_open_51 (by decide) (fun c_51 => ?_) (fun c_51 => ?_)
          · refine lv_iconst (v := 4) hx hb dX5_open_58 (by decide) ?_
            refine lv_imul hx hb dX5_open_59 ?_
            refine lv_istore (lv' := [(4, .int (2 * 4)), (0, .ref m0), (1, .int (nI j)), (2, .int (nI k)), (3, .int (rn_b wb))]) hx hb dX5_open_60 hl (by decide) rfl (fun ls hl => ?_)
            refine lv_aload_n hx hb dX5_open_62 rfl (lv_at hl 1 rfl) ?_
            refine rn_get (ci := 5) (v := .ref (ma 10)) (C := RX5) (T := TX5) (N := 18) hx hb hts iw_X5_open_5 hown hG hF.1 rfl 15 (by decide) fw_X5_open_47 rfl dX5_open_63 ?_
            refine lv_iload_n hx hb dX5_open_66 rfl (lv_at hl 3 rfl) ?_
            refine rn_iald (j := k) hx hb hG (show va_at D vwCl (ma 10, .inl (cI, 20, .inl (V 10))) _ from hF.2.1 10 (by decide)) 0 rfl (by omega) (by decide) dX5_open_67 ?_
            refine rn_top (y := .int (σ.fm k)) (congrArg Value.int (hM.2.2.2.2.2.2 k hk0).2) ?_
            refine lv_iload hx hb dX5_open_68 (lv_at hl 0 rfl) ?_
            refine lv_iand hx hb dX5_open_70 ?_
            refine lv_if_eq (tgt := 76) hx hb dX5_open_71 (by decide) (fun c_71 => ?_) (fun c_71 => ?_)
            · have hm9 : rn_may (σ.fm k) (nI (σ.pu j)) (nI (σ.fo k)) wb = false := by
                rw [rn_may_m, if_neg c_51, show wb = true from rn_b1.mp c_31]
                exact decide_eq_false (fun h => h c_71)
              refine lv_aload_n hx hb dX5_open_76 rfl (lv_at hl 1 rfl) ?_
              refine rn_get (ci := 5) (v := .ref (ma 8)) (C := RX5) (T := TX5) (N := 18) hx hb hts iw_X5_open_5 hown hG hF.1 rfl 12 (by decide) fw_X5_open_41 rfl dX5_open_77 ?_
              refine lv_iload_n hx hb dX5_open_80 rfl (lv_at hl 2 rfl) ?_
              refine rn_iald (j := j) hx hb hG (show va_at D vwCl (ma 8, .inl (cI, 12, .inl (V 8))) _ from hF.2.1 8 (by decide)) 0 rfl (by omega) (by decide) dX5_open_81 ?_
              refine rn_top (y := .int (σ.pr j)) (congrArg Value.int (hM.2.2.2.2.2.1 j hj0).2.2) ?_
              refine lv_iconst (v := 4) hx hb dX5_open_82 (by decide) ?_
              refine lv_iand hx hb dX5_open_83 ?_
              refine lv_if_ne (tgt := 94) hx hb dX5_open_84 (by decide) (fun c_84 => ?_) (fun c_84 => ?_)
              · refine lv_aload_n hx hb dX5_open_94 rfl (lv_at hl 1 rfl) ?_
                refine lv_aload_n hx hb dX5_open_95 rfl (lv_at hl 1 rfl) ?_
                refine rn_get (ci := 5) (v := .ref (ma 6)) (C := RX5) (T := TX5) (N := 18) hx hb hts iw_X5_open_5 hown hG hF.1 rfl 10 (by decide) fw_X5_open_35 rfl dX5_open_96 ?_
                refine lv_iload_n hx hb dX5_open_99 rfl (lv_at hl 2 rfl) ?_
                refine rn_iald (j := j) hx hb hG (show va_at D vwCl (ma 6, .inl (cI, 12, .inl (V 6))) _ from hF.2.1 6 (by decide)) 0 rfl (by omega) (by decide) dX5_open_100 ?_
                refine rn_top (y := .int (nI (σ.pl j))) (congrArg Value.int (hM.2.2.2.2.2.1 j hj0).1) ?_
                refine lv_aload_n hx hb dX5_open_101 rfl (lv_at hl 1 rfl) ?_
                refine rn_get (ci := 5) (v := .ref (ma 9)) (C := RX5) (T := TX5) (N := 18) hx hb hts iw_X5_open_5 hown hG hF.1 rfl 14 (by decide) fw_X5_open_44 rfl dX5_open_102 ?_
                refine lv_iload_n hx hb dX5_open_105 rfl (lv_at hl 3 rfl) ?_
                refine rn_iald (j := k) hx hb hG (show va_at D vwCl (ma 9, .inl (cI, 20, .inl (V 9))) _ from hF.2.1 9 (by decide)) 0 rfl (by omega) (by decide) dX5_open_106 ?_
                refine rn_top (y := .int (nI (σ.fo k))) (congrArg Value.int (hM.2.2.2.2.2.2 k hk0).1) ?_
                refine rn_cV (As := [.int (nI (σ.pl j)), .int (nI (σ.fo k))]) (rest := []) 2 hx hb hml hown hts hG (m_seen l hV hM (hV.2.2.2.2.2.1.2.2 j hj0).1 (y := σ.fo k) (hV.2.2.2.2.2.2.2 k hk0)) gX5_open_X5_seen rfl ⟨rfl, rfl⟩ (by decide +kernel) ⟨Nat.le_of_ble_eq_true rfl, Nat.le_of_ble_eq_true rfl⟩ hF hF.1 rfl rfl hl.1 rfl (Nat.le_of_ble_eq_true rfl) ⟨by decide, by decide⟩ dX5_open_107 ?_
                refine W.eq (g2 := F0 m 110 ls [.int (nI (rn_see σ (σ.pl j) (σ.fo k)))]) rfl ?_
                refine lv_sipush (v := 999) hx hb dX5_open_110 (by decide +kernel) ?_
                refine lv_icmp_ne (tgt := 125) hx hb dX5_open_113 (by decide) (fun c_113 => ?_) (fun c_113 => ?_)
                · rw [rn_nI999 (rn_see_le _ _ _)] at c_113
                  refine lv_iconst (v := 2) hx hb dX5_open_125 (by decide) ?_
                  have hM9 : rn_Mr (σ) V := hM
                  have ho9 : rn_o_open σ j k wb = (2, σ) := by rw [rn_o_open, if_neg (by rw [hm9]; decide), if_neg c_84, if_neg c_113]
                  exact rn_Wiret hx hb hr rfl hlocks hS (by decide) (by decide) (by rw [ho9]) (by rw [ho9]; exact ⟨_, hM9, hF⟩) dX5_open_126
                · rw [rn_nI999 (rn_see_le _ _ _)] at c_113
                  refine lv_aload_n hx hb dX5_open_116 rfl (lv_at hl 1 rfl) ?_
                  refine lv_bipush (v := (-2)) hx hb dX5_open_117 (by decide +kernel) ?_
                  refine rn_wV (As := [.int (-2)]) (rest := []) 1 hx hb hml hown hts hG hS (m_told l ((-2))) (fun x hx => by rw [show x = m0 from hx]; exact rn_mA_0) gX5_open_X5_told rfl ⟨rfl, rfl⟩ (by decide +kernel) ⟨Nat.le_of_ble_eq_true rfl, Nat.le_of_ble_eq_true rfl⟩ hF hF.1 rfl rfl hl.1 rfl (Nat.le_of_ble_eq_true rfl) ⟨by decide, by decide⟩ dX5_open_119 (fun H locs hP1 hz hk hS => ?_)
                  refine W.eq (g2 := F0 m 122 ls [.int (-2)]) rfl ?_
                  have hF := hP1
                  refine lv_goto (tgt := 126) hx hb dX5_open_122 (by decide) ?_
                  have ho9 : rn_o_open σ j k wb = ((-2), rn_ref σ ((-2))) := by rw [rn_o_open, if_neg (by rw [hm9]; decide), if_neg c_84, if_pos c_113]
                  exact rn_Wiret hx hb hr rfl hlocks hS (by decide) (by decide) (by rw [ho9]) (by rw [ho9]; exact ⟨_, hM, hF⟩) dX5_open_126
              · refine lv_aload_n hx hb dX5_open_87 rfl (lv_at hl 1 rfl) ?_
                refine lv_bipush (v := (-6)) hx hb dX5_open_88 (by decide +kernel) ?_
                refine rn_wV (As := [.int (-6)]) (rest := []) 1 hx hb hml hown hts hG hS (m_told l ((-6))) (fun x hx => by rw [show x = m0 from hx]; exact rn_mA_0) gX5_open_X5_told rfl ⟨rfl, rfl⟩ (by decide +kernel) ⟨Nat.le_of_ble_eq_true rfl, Nat.le_of_ble_eq_true rfl⟩ hF hF.1 rfl rfl hl.1 rfl (Nat.le_of_ble_eq_true rfl) ⟨by decide, by decide⟩ dX5_open_90 (fun H locs hP1 hz hk hS => ?_)
                refine W.eq (g2 := F0 m 93 ls [.int (-6)]) rfl ?_
                have hF := hP1
                have ho9 : rn_o_open σ j k wb = ((-6), rn_ref σ ((-6))) := by rw [rn_o_open, if_neg (by rw [hm9]; decide), if_pos c_84]
                exact rn_Wiret hx hb hr rfl hlocks hS (by decide) (by decide) (by rw [ho9]) (by rw [ho9]; exact ⟨_, hM, hF⟩) dX5_open_93
            · have hm9 : rn_may (σ.fm k) (nI (σ.pu j)) (nI (σ.fo k)) wb = true := by
                rw [rn_may_m, if_neg c_51, show wb = true from rn_b1.mp c_31]
                exact decide_eq_true c_71
              refine lv_iconst (v := 1) hx hb dX5_open_74 (by decide) ?_
              have hM9 : rn_Mr (σ) V := hM
              have ho9 : rn_o_open σ j k wb = (1, σ) := by rw [rn_o_open, if_pos hm9]
              exact rn_Wiret hx hb hr rfl hlocks hS (by decide) (by decide) (by rw [ho9]) (by rw [ho9]; exact ⟨_, hM9, hF⟩) dX5_open_75
          · refine lv_iconst (v := 1) hx hb dX5_open_54 (by decide) ?_
            refine lv_goto (tgt := 59) hx hb dX5_open_55 (by decide) ?_
            refine lv_imul hx hb dX5_open_59 ?_
            refine lv_istore (lv' := [(4, .int (2 * 1)), (0, .ref m0), (1, .int (nI j)), (2, .int (nI k)), (3, .int (rn_b wb))]) hx hb dX5_open_60 hl (by decide) rfl (fun ls hl => ?_)
            refine lv_aload_n hx hb dX5_open_62 rfl (lv_at hl 1 rfl) ?_
            refine rn_get (ci := 5) (v := .ref (ma 10)) (C := RX5) (T := TX5) (N := 18) hx hb hts iw_X5_open_5 hown hG hF.1 rfl 15 (by decide) fw_X5_open_47 rfl dX5_open_63 ?_
            refine lv_iload_n hx hb dX5_open_66 rfl (lv_at hl 3 rfl) ?_
            refine rn_iald (j := k) hx hb hG (show va_at D vwCl (ma 10, .inl (cI, 20, .inl (V 10))) _ from hF.2.1 10 (by decide)) 0 rfl (by omega) (by decide) dX5_open_67 ?_
            refine rn_top (y := .int (σ.fm k)) (congrArg Value.int (hM.2.2.2.2.2.2 k hk0).2) ?_
            refine lv_iload hx hb dX5_open_68 (lv_at hl 0 rfl) ?_
            refine lv_iand hx hb dX5_open_70 ?_
            refine lv_if_eq (tgt := 76) hx hb dX5_open_71 (by decide) (fun c_71 => ?_) (fun c_71 => ?_)
            · have hm9 : rn_may (σ.fm k) (nI (σ.pu j)) (nI (σ.fo k)) wb = false := by
                rw [rn_may_m, if_pos c_51, show wb = true from rn_b1.mp c_31]
                exact decide_eq_false (fun h => h c_71)
              refine lv_aload_n hx hb dX5_open_76 rfl (lv_at hl 1 rfl) ?_
              refine rn_get (ci := 5) (v := .ref (ma 8)) (C := RX5) (T := TX5) (N := 18) hx hb hts iw_X5_open_5 hown hG hF.1 rfl 12 (by decide) fw_X5_open_41 rfl dX5_open_77 ?_
              refine lv_iload_n hx hb dX5_open_80 rfl (lv_at hl 2 rfl) ?_
              refine rn_iald (j := j) hx hb hG (show va_at D vwCl (ma 8, .inl (cI, 12, .inl (V 8))) _ from hF.2.1 8 (by decide)) 0 rfl (by omega) (by decide) dX5_open_81 ?_
              refine rn_top (y := .int (σ.pr j)) (congrArg Value.int (hM.2.2.2.2.2.1 j hj0).2.2) ?_
              refine lv_iconst (v := 4) hx hb dX5_open_82 (by decide) ?_
              refine lv_iand hx hb dX5_open_83 ?_
              refine lv_if_ne (tgt := 94) hx hb dX5_open_84 (by decide) (fun c_84 => ?_) (fun c_84 => ?_)
              · refine lv_aload_n hx hb dX5_open_94 rfl (lv_at hl 1 rfl) ?_
                refine lv_aload_n hx hb dX5_open_95 rfl (lv_at hl 1 rfl) ?_
                refine rn_get (ci := 5) (v := .ref (ma 6)) (C := RX5) (T := TX5) (N := 18) hx hb hts iw_X5_open_5 hown hG hF.1 rfl 10 (by decide) fw_X5_open_35 rfl dX5_open_96 ?_
                refine lv_iload_n hx hb dX5_open_99 rfl (lv_at hl 2 rfl) ?_
                refine rn_iald (j := j) hx hb hG (show va_at D vwCl (ma 6, .inl (cI, 12, .inl (V 6))) _ from hF.2.1 6 (by decide)) 0 rfl (by omega) (by decide) dX5_open_100 ?_
                refine rn_top (y := .int (nI (σ.pl j))) (congrArg Value.int (hM.2.2.2.2.2.1 j hj0).1) ?_
                refine lv_aload_n hx hb dX5_open_101 rfl (lv_at hl 1 rfl) ?_
                refine rn_get (ci := 5) (v := .ref (ma 9)) (C := RX5) (T := TX5) (N := 18) hx hb hts iw_X5_open_5 hown hG hF.1 rfl 14 (by decide) fw_X5_open_44 rfl dX5_open_102 ?_
                refine lv_iload_n hx hb dX5_open_105 rfl (lv_at hl 3 rfl) ?_
                refine rn_iald (j := k) hx hb hG (show va_at D vwCl (ma 9, .inl (cI, 20, .inl (V 9))) _ from hF.2.1 9 (by decide)) 0 rfl (by omega) (by decide) dX5_open_106 ?_
                refine rn_top (y := .int (nI (σ.fo k))) (congrArg Value.int (hM.2.2.2.2.2.2 k hk0).1) ?_
                refine rn_cV (As := [.int (nI (σ.pl j)), .int (nI (σ.fo k))]) (rest := []) 2 hx hb hml hown hts hG (m_seen l hV hM (hV.2.2.2.2.2.1.2.2 j hj0).1 (y := σ.fo k) (hV.2.2.2.2.2.2.2 k hk0)) gX5_open_X5_seen rfl ⟨rfl, rfl⟩ (by decide +kernel) ⟨Nat.le_of_ble_eq_true rfl, Nat.le_of_ble_eq_true rfl⟩ hF hF.1 rfl rfl hl.1 rfl (Nat.le_of_ble_eq_true rfl) ⟨by decide, by decide⟩ dX5_open_107 ?_
                refine W.eq (g2 := F0 m 110 ls [.int (nI (rn_see σ (σ.pl j) (σ.fo k)))]) rfl ?_
                refine lv_sipush (v := 999) hx hb dX5_open_110 (by decide +kernel) ?_
                refine lv_icmp_ne (tgt := 125) hx hb dX5_open_113 (by decide) (fun c_113 => ?_) (fun c_113 => ?_)
                · rw [rn_nI999 (rn_see_le _ _ _)] at c_113
                  refine lv_iconst (v := 2) hx hb dX5_open_125 (by decide) ?_
                  have hM9 : rn_Mr (σ) V := hM
                  have ho9 : rn_o_open σ j k wb = (2, σ) := by rw [rn_o_open, if_neg (by rw [hm9]; decide), if_neg c_84, if_neg c_113]
                  exact rn_Wiret hx hb hr rfl hlocks hS (by decide) (by decide) (by rw [ho9]) (by rw [ho9]; exact ⟨_, hM9, hF⟩) dX5_open_126
                · rw [rn_nI999 (rn_see_le _ _ _)] at c_113
                  refine lv_aload_n hx hb dX5_open_116 rfl (lv_at hl 1 rfl) ?_
                  refine lv_bipush (v := (-2)) hx hb dX5_open_117 (by decide +kernel) ?_
                  refine rn_wV (As := [.int (-2)]) (rest := []) 1 hx hb hml hown hts hG hS (m_told l ((-2))) (fun x hx => by rw [show x = m0 from hx]; exact rn_mA_0) gX5_open_X5_told rfl ⟨rfl, rfl⟩ (by decide +kernel) ⟨Nat.le_of_ble_eq_true rfl, Nat.le_of_ble_eq_true rfl⟩ hF hF.1 rfl rfl hl.1 rfl (Nat.le_of_ble_eq_true rfl) ⟨by decide, by decide⟩ dX5_open_119 (fun H locs hP1 hz hk hS => ?_)
                  refine W.eq (g2 := F0 m 122 ls [.int (-2)]) rfl ?_
                  have hF := hP1
                  refine lv_goto (tgt := 126) hx hb dX5_open_122 (by decide) ?_
                  have ho9 : rn_o_open σ j k wb = ((-2), rn_ref σ ((-2))) := by rw [rn_o_open, if_neg (by rw [hm9]; decide), if_neg c_84, if_pos c_113]
                  exact rn_Wiret hx hb hr rfl hlocks hS (by decide) (by decide) (by rw [ho9]) (by rw [ho9]; exact ⟨_, hM, hF⟩) dX5_open_126
              · refine lv_aload_n hx hb dX5_open_87 rfl (lv_at hl 1 rfl) ?_
                refine lv_bipush (v := (-6)) hx hb dX5_open_88 (by decide +kernel) ?_
                refine rn_wV (As := [.int (-6)]) (rest := []) 1 hx hb hml hown hts hG hS (m_told l ((-6))) (fun x hx => by rw [show x = m0 from hx]; exact rn_mA_0) gX5_open_X5_told rfl ⟨rfl, rfl⟩ (by decide +kernel) ⟨Nat.le_of_ble_eq_true rfl, Nat.le_of_ble_eq_true rfl⟩ hF hF.1 rfl rfl hl.1 rfl (Nat.le_of_ble_eq_true rfl) ⟨by decide, by decide⟩ dX5_open_90 (fun H locs hP1 hz hk hS => ?_)
                refine W.eq (g2 := F0 m 93 ls [.int (-6)]) rfl ?_
                have hF := hP1
                have ho9 : rn_o_open σ j k wb = ((-6), rn_ref σ ((-6))) := by rw [rn_o_open, if_neg (by rw [hm9]; decide), if_pos c_84]
                exact rn_Wiret hx hb hr rfl hlocks hS (by decide) (by decide) (by rw [ho9]) (by rw [ho9]; exact ⟨_, hM, hF⟩) dX5_open_93
            · have hm9 : rn_may (σ.fm k) (nI (σ.pu j)) (nI (σ.fo k)) wb = true := by
                rw [rn_may_m, if_pos c_51, show wb = true from rn_b1.mp c_31]
                exact decide_eq_true c_71
              refine lv_iconst (v := 1) hx hb dX5_open_74 (by decide) ?_
              have hM9 : rn_Mr (σ) V := hM
              have ho9 : rn_o_open σ j k wb = (1, σ) := by rw [rn_o_open, if_pos hm9]
              exact rn_Wiret hx hb hr rfl hlocks hS (by decide) (by decide) (by rw [ho9]) (by rw [ho9]; exact ⟨_, hM9, hF⟩) dX5_open_75
      · exact absurd c_25 (by decide)

set_option maxHeartbeats 4000000 in
set_option maxRecDepth 100000 in
theorem n_writeMap (l : Launch) {D : va_G} {cI : ClassId} {m0 : Nat} {ma : Nat → Nat} {rf : Int32} {V : Nat → Nat → Int32} {σ : rn_St} (hV : rn_V σ) (hM : rn_Mr σ V) {j i : Nat} (hj0 : j < σ.pn) (hi0 : i < σ.sn) (hi9 : i ≠ 0) (sz : Nat) : rn_W l yX5_writeMap wsX5_writeMap ({ frames := 4, cells := 0, slots := 0, locals := 96 } : Room) D [(cI, .int)] ((rn_MW D cI m0 ma rf (nI σ.sn) (nI σ.sd.length) (nI σ.pn) (nI σ.fn) σ.rc σ.la V)) [.ref m0, .int (nI j), .int (nI i)] (some (.int ((rn_o_writeMap σ j i).1))) (rn_MP D cI m0 ma 0 ((rn_o_writeMap σ j i).2)) (rn_mA m0 ma) 0 0 sz := by
  refine rn_W.ofW (cc := cX5_writeMap) (maxL := 7) (ret := (some .int)) (by decide) rfl (Nat.le_of_ble_eq_true rfl) (fun p e s m below meth c ls hx hb hr hml hts hown hlocks hin hsz hF hG hS hl => ?_)
  have hl : lv_has ls 7 [(0, .ref m0), (1, .int (nI j)), (2, .int (nI i))] := hl
  have hs10 := hV.1.2
  have hp12 := hV.2.2.2.2.2.1.2.1
  have hf20 := hV.2.2.2.2.2.2.1
  have hd3 := hV.2.2.2.2.1.2
  refine lv_aload_n hx hb dX5_writeMap_0 rfl (lv_at hl 0 rfl) ?_
  have hl3 := (hV.2.2.1 i hi0).2.1
  have hso : σ.so i < σ.sn := by have := hV.2.1 i (by omega) hi0; omega
  refine lv_aload_n hx hb dX5_writeMap_1 rfl (lv_at hl 0 rfl) ?_
  refine lv_iload_n hx hb dX5_writeMap_2 rfl (lv_at hl 1 rfl) ?_
  refine rn_cV (As := [.int (nI j)]) (rest := [.ref m0]) 1 hx hb hml hown hts hG (m_isProcess l ((nI j))) gX5_writeMap_X5_isProcess rfl ⟨rfl, rfl⟩ (by decide +kernel) ⟨Nat.le_of_ble_eq_true rfl, Nat.le_of_ble_eq_true rfl⟩ hF hF.1 rfl rfl hl.1 rfl (Nat.le_of_ble_eq_true rfl) ⟨by decide, by decide⟩ dX5_writeMap_3 ?_
  refine W.eq (g2 := F0 m 6 ls [.int (rn_b (rn_in ((nI j)) 0 (nI σ.pn - 1))), .ref m0]) rfl ?_
  refine rn_top (y := .int 1) (congrArg Value.int (by rw [rn_ok_t (by omega) hj0]; rfl)) ?_
  refine lv_if_eq (tgt := 25) hx hb dX5_writeMap_6 (by decide) (fun c_6 => ?_) (fun c_6 => ?_)
  · exact absurd c_6 (by decide)
  · refine lv_aload_n hx hb dX5_writeMap_9 rfl (lv_at hl 0 rfl) ?_
    refine lv_iload_n hx hb dX5_writeMap_10 rfl (lv_at hl 2 rfl) ?_
    refine rn_cV (As := [.int (nI i)]) (rest := [.ref m0]) 1 hx hb hml hown hts hG (m_isRoom l ((nI i))) gX5_writeMap_X5_isRoom rfl ⟨rfl, rfl⟩ (by decide +kernel) ⟨Nat.le_of_ble_eq_true rfl, Nat.le_of_ble_eq_true rfl⟩ hF hF.1 rfl rfl hl.1 rfl (Nat.le_of_ble_eq_true rfl) ⟨by decide, by decide⟩ dX5_writeMap_11 ?_
    refine W.eq (g2 := F0 m 14 ls [.int (rn_b (rn_in ((nI i)) 0 (nI σ.sn - 1))), .ref m0]) rfl ?_
    refine rn_top (y := .int 1) (congrArg Value.int (by rw [rn_ok_t (by omega) hi0]; rfl)) ?_
    refine lv_if_eq (tgt := 25) hx hb dX5_writeMap_14 (by decide) (fun c_14 => ?_) (fun c_14 => ?_)
    · exact absurd c_14 (by decide)
    · refine lv_iload_n hx hb dX5_writeMap_17 rfl (lv_at hl 2 rfl) ?_
      refine lv_if_le (tgt := 25) hx hb dX5_writeMap_18 (by decide) (fun c_18 => ?_) (fun c_18 => ?_)
      · exact absurd ((nI_leI (b := 0) (by omega) (by omega)).mp c_18) (by omega)
      · refine lv_iconst (v := 0) hx hb dX5_writeMap_21 (by decide) ?_
        refine lv_goto (tgt := 26) hx hb dX5_writeMap_22 (by decide) ?_
        refine rn_wV (As := [.int 0]) (rest := []) 1 hx hb hml hown hts hG hS (m_refused l 0) (fun x hx => by rw [show x = m0 from hx]; exact rn_mA_0) gX5_writeMap_X5_refused rfl ⟨rfl, rfl⟩ (by decide +kernel) ⟨Nat.le_of_ble_eq_true rfl, Nat.le_of_ble_eq_true rfl⟩ hF hF.1 rfl rfl hl.1 rfl (Nat.le_of_ble_eq_true rfl) ⟨by decide, by decide⟩ dX5_writeMap_26 (fun H locs hP1 hz hk hS => ?_)
        refine W.eq (g2 := F0 m 29 ls [.int (rn_b (decide (0 ≠ 0)))]) rfl ?_
        have hF := hP1
        refine rn_top (y := .int 0) (congrArg Value.int (rfl)) ?_
        refine lv_if_eq (tgt := 34) hx hb dX5_writeMap_29 (by decide) (fun c_29 => ?_) (fun c_29 => ?_)
        · refine lv_aload_n hx hb dX5_writeMap_34 rfl (lv_at hl 0 rfl) ?_
          refine rn_get (ci := 5) (v := .ref (ma 2)) (C := RX5) (T := TX5) (N := 18) hx hb hts iw_X5_writeMap_5 hown hG hF.1 rfl 4 (by decide) fw_X5_writeMap_20 rfl dX5_writeMap_35 ?_
          refine lv_iload_n hx hb dX5_writeMap_38 rfl (lv_at hl 2 rfl) ?_
          refine rn_iald (j := i) hx hb hG (show va_at D vwCl (ma 2, .inl (cI, 10, .inl (V 2))) _ from hF.2.1 2 (by decide)) 0 rfl (by omega) (by decide) dX5_writeMap_39 ?_
          refine rn_top (y := .int (nI (σ.sm i).length)) (congrArg Value.int (hM.2.2.1 i hi0).1) ?_
          refine lv_if_le (tgt := 48) hx hb dX5_writeMap_40 (by decide) (fun c_40 => ?_) (fun c_40 => ?_)
          · have hm : σ.sm i = [] := List.length_eq_zero_iff.mp (by have := (nI_leI (b := 0) (by omega) (by omega)).mp c_40; omega)
            refine lv_aload_n hx hb dX5_writeMap_48 rfl (lv_at hl 0 rfl) ?_
            refine rn_cV (As := []) (rest := []) 0 hx hb hml hown hts hG (m_isDraftBad l hV hM) gX5_writeMap_X5_isDraftBad rfl ⟨rfl, rfl⟩ (by decide +kernel) ⟨Nat.le_of_ble_eq_true rfl, Nat.le_of_ble_eq_true rfl⟩ hF hF.1 rfl rfl hl.1 rfl (Nat.le_of_ble_eq_true rfl) ⟨by decide, by decide⟩ dX5_writeMap_49 ?_
            refine W.eq (g2 := F0 m 52 ls [.int (rn_b (decide (σ.sd = []) || rn_bad σ.sd))]) rfl ?_
            refine lv_if_eq (tgt := 60) hx hb dX5_writeMap_52 (by decide) (fun c_52 => ?_) (fun c_52 => ?_)
            · rw [rn_b0, Bool.or_eq_false_iff, decide_eq_false_iff_not] at c_52
              refine lv_aload_n hx hb dX5_writeMap_60 rfl (lv_at hl 0 rfl) ?_
              refine lv_aload_n hx hb dX5_writeMap_61 rfl (lv_at hl 0 rfl) ?_
              refine rn_get (ci := 5) (v := .ref (ma 0)) (C := RX5) (T := TX5) (N := 18) hx hb hts iw_X5_writeMap_5 hown hG hF.1 rfl 2 (by decide) fw_X5_writeMap_13 rfl dX5_writeMap_62 ?_
              refine lv_iload_n hx hb dX5_writeMap_65 rfl (lv_at hl 2 rfl) ?_
              refine rn_iald (j := i) hx hb hG (show va_at D vwCl (ma 0, .inl (cI, 10, .inl (V 0))) _ from hF.2.1 0 (by decide)) 0 rfl (by omega) (by decide) dX5_writeMap_66 ?_
              refine rn_top (y := .int (nI (σ.so i))) (congrArg Value.int (rn_V0 hM hi0 hi9)) ?_
              refine rn_cV (As := [.int (nI (σ.so i))]) (rest := []) 1 hx hb hml hown hts hG (m_isDraftLost l hV hM hso) gX5_writeMap_X5_isDraftLost rfl ⟨rfl, rfl⟩ (by decide +kernel) ⟨Nat.le_of_ble_eq_true rfl, Nat.le_of_ble_eq_true rfl⟩ hF hF.1 rfl rfl hl.1 rfl (Nat.le_of_ble_eq_true rfl) ⟨by decide, by decide⟩ dX5_writeMap_67 ?_
              refine W.eq (g2 := F0 m 70 ls [.int (rn_b (rn_lost σ (σ.so i) σ.sd))]) rfl ?_
              refine lv_if_eq (tgt := 78) hx hb dX5_writeMap_70 (by decide) (fun c_70 => ?_) (fun c_70 => ?_)
              · rw [rn_b0] at c_70
                refine lv_aload_n hx hb dX5_writeMap_78 rfl (lv_at hl 0 rfl) ?_
                refine lv_iload_n hx hb dX5_writeMap_79 rfl (lv_at hl 1 rfl) ?_
                refine lv_iload_n hx hb dX5_writeMap_80 rfl (lv_at hl 2 rfl) ?_
                refine rn_cV (As := [.int (nI j), .int (nI i)]) (rest := []) 2 hx hb hml hown hts hG (m_mayWrite l hV hM hj0 hi0 hi9) gX5_writeMap_X5_mayWrite rfl ⟨rfl, rfl⟩ (by decide +kernel) ⟨Nat.le_of_ble_eq_true rfl, Nat.le_of_ble_eq_true rfl⟩ hF hF.1 rfl rfl hl.1 rfl (Nat.le_of_ble_eq_true rfl) ⟨by decide, by decide⟩ dX5_writeMap_81 ?_
                refine W.eq (g2 := F0 m 84 ls [.int (rn_b (rn_own1 σ j i || decide (rn_held σ j (σ.so i) &&& 8 ≠ 0)))]) rfl ?_
                refine lv_if_eq (tgt := 91) hx hb dX5_writeMap_84 (by decide) (fun c_84 => ?_) (fun c_84 => ?_)
                · rw [rn_b0, Bool.or_eq_false_iff] at c_84
                  refine lv_iconst (v := (-1)) hx hb dX5_writeMap_91 (by decide) ?_
                  refine lv_istore_n (lv' := [(3, .int (-1)), (0, .ref m0), (1, .int (nI j)), (2, .int (nI i))]) hx hb dX5_writeMap_92 rfl hl (by decide) rfl (fun ls hl => ?_)
                  refine lv_aload_n hx hb dX5_writeMap_93 rfl (lv_at hl 1 rfl) ?_
                  refine rn_get (ci := 5) (v := .int (nI σ.sd.length)) (C := RX5) (T := TX5) (N := 18) hx hb hts iw_X5_writeMap_5 hown hG hF.1 rfl 8 (by decide) fw_X5_writeMap_76 rfl dX5_writeMap_94 ?_
                  refine lv_istore (lv' := [(4, .int (nI σ.sd.length)), (3, .int (-1)), (0, .ref m0), (1, .int (nI j)), (2, .int (nI i))]) hx hb dX5_writeMap_97 hl (by decide) rfl (fun ls hl => ?_)
                  refine lv_aload_n hx hb dX5_writeMap_99 rfl (lv_at hl 2 rfl) ?_
                  refine lv_iconst (v := 0) hx hb dX5_writeMap_100 (by decide) ?_
                  refine rn_top (y := .int (nI 0)) (congrArg Value.int (rfl)) ?_
                  refine rn_put (A := (rn_mA m0 ma)) (ci := 5) (v := .int (nI 0)) (C := RX5) (T := TX5) (N := 18) (fs' := [.int 0, .int (nI σ.sn), .ref (ma 0), .ref (ma 1), .ref (ma 2), .ref (ma 3), .ref (ma 4), .ref (ma 5), .int (nI 0), .int (nI σ.pn), .ref (ma 6), .ref (ma 7), .ref (ma 8), .int (nI σ.fn), .ref (ma 9), .ref (ma 10), .int σ.rc, .int σ.la]) hx hb hts iw_X5_writeMap_5 tyX5 tyX5_ok nmX5 hown hG hS rn_mA_0 hF.1 rfl 8 (by decide) fw_X5_writeMap_76 (Or.inl rfl) rfl rfl (Nat.le_of_ble_eq_true rfl) rfl dX5_writeMap_101 (fun H locs hat hz ho hS => ?_)
                  have hF := hF.put hat ho
                  refine lv_iload_n hx hb dX5_writeMap_104 rfl (lv_at hl 1 rfl) ?_
                  refine lv_if_ge (tgt := 114) hx hb dX5_writeMap_105 (by decide) (fun c_105 => ?_) (fun c_105 => ?_)
                  · exact absurd c_105 (by decide)
                  · refine lv_aload_n hx hb dX5_writeMap_108 rfl (lv_at hl 2 rfl) ?_
                    refine lv_iload_n hx hb dX5_writeMap_109 rfl (lv_at hl 1 rfl) ?_
                    refine rn_wV (As := [.int (-1)]) (rest := []) 1 hx hb hml hown hts hG hS (m_told l ((-1))) (fun x hx => by rw [show x = m0 from hx]; exact rn_mA_0) gX5_writeMap_X5_told rfl ⟨rfl, rfl⟩ (by decide +kernel) ⟨Nat.le_of_ble_eq_true rfl, Nat.le_of_ble_eq_true rfl⟩ hF hF.1 rfl rfl hl.1 rfl (Nat.le_of_ble_eq_true rfl) ⟨by decide, by decide⟩ dX5_writeMap_110 (fun H locs hP1 hz hk hS => ?_)
                    refine W.eq (g2 := F0 m 113 ls [.int (-1)]) rfl ?_
                    have hF := hP1
                    have ho9 : rn_o_writeMap σ j i = ((-1), rn_ref (rn_draft σ []) ((-1))) := by rw [rn_o_writeMap, if_neg (fun h => h hm), if_neg (fun h => h.elim c_52.1 (fun h => by rw [c_52.2] at h; cases h)), if_neg (by rw [c_70]; decide), if_neg (fun h => h.elim (fun h => by rw [c_84.1] at h; cases h) (fun h => of_decide_eq_false c_84.2 h))]
                    exact rn_Wiret hx hb hr rfl hlocks hS (by decide) (by decide) (by rw [ho9]) (by rw [ho9]; exact ⟨_, hM.draft0, hF⟩) dX5_writeMap_113
                · rw [rn_b1, Bool.or_eq_true, decide_eq_true_eq] at c_84
                  refine lv_iconst (v := 0) hx hb dX5_writeMap_87 (by decide) ?_
                  refine lv_goto (tgt := 92) hx hb dX5_writeMap_88 (by decide) ?_
                  refine lv_istore_n (lv' := [(3, .int 0), (0, .ref m0), (1, .int (nI j)), (2, .int (nI i))]) hx hb dX5_writeMap_92 rfl hl (by decide) rfl (fun ls hl => ?_)
                  refine lv_aload_n hx hb dX5_writeMap_93 rfl (lv_at hl 1 rfl) ?_
                  refine rn_get (ci := 5) (v := .int (nI σ.sd.length)) (C := RX5) (T := TX5) (N := 18) hx hb hts iw_X5_writeMap_5 hown hG hF.1 rfl 8 (by decide) fw_X5_writeMap_76 rfl dX5_writeMap_94 ?_
                  refine lv_istore (lv' := [(4, .int (nI σ.sd.length)), (3, .int 0), (0, .ref m0), (1, .int (nI j)), (2, .int (nI i))]) hx hb dX5_writeMap_97 hl (by decide) rfl (fun ls hl => ?_)
                  refine lv_aload_n hx hb dX5_writeMap_99 rfl (lv_at hl 2 rfl) ?_
                  refine lv_iconst (v := 0) hx hb dX5_writeMap_100 (by decide) ?_
                  refine rn_top (y := .int (nI 0)) (congrArg Value.int (rfl)) ?_
                  refine rn_put (A := (rn_mA m0 ma)) (ci := 5) (v := .int (nI 0)) (C := RX5) (T := TX5) (N := 18) (fs' := [.int 0, .int (nI σ.sn), .ref (ma 0), .ref (ma 1), .ref (ma 2), .ref (ma 3), .ref (ma 4), .ref (ma 5), .int (nI 0), .int (nI σ.pn), .ref (ma 6), .ref (ma 7), .ref (ma 8), .int (nI σ.fn), .ref (ma 9), .ref (ma 10), .int σ.rc, .int σ.la]) hx hb hts iw_X5_writeMap_5 tyX5 tyX5_ok nmX5 hown hG hS rn_mA_0 hF.1 rfl 8 (by decide) fw_X5_writeMap_76 (Or.inl rfl) rfl rfl (Nat.le_of_ble_eq_true rfl) rfl dX5_writeMap_101 (fun H locs hat hz ho hS => ?_)
                  have hF := hF.put hat ho
                  refine lv_iload_n hx hb dX5_writeMap_104 rfl (lv_at hl 1 rfl) ?_
                  refine lv_if_ge (tgt := 114) hx hb dX5_writeMap_105 (by decide) (fun c_105 => ?_) (fun c_105 => ?_)
                  · refine lv_iconst (v := 0) hx hb dX5_writeMap_114 (by decide) ?_
                    refine rn_top (y := .int (nI 0)) (congrArg Value.int (rfl)) ?_
                    refine lv_istore (lv' := [(5, .int (nI 0)), (4, .int (nI σ.sd.length)), (3, .int 0), (0, .ref m0), (1, .int (nI j)), (2, .int (nI i))]) hx hb dX5_writeMap_115 hl (by decide) rfl (fun ls hl => ?_)
                    have loop : ∀ (n k : Nat) (V1 : Nat → Nat → Int32) (H : Heap) (locs : List Loc), k + n = σ.sd.length → (∀ q, q < k → V1 3 (3 * i + q) = V 3 (30 + q) ∧ V1 4 (3 * i + q) = V 4 (30 + q) ∧ V1 5 (3 * i + q) = V 5 (30 + q)) → (∀ x, (x < 3 * i ∨ 3 * i + 3 ≤ x) → V1 3 x = V 3 x ∧ V1 4 x = V 4 x ∧ V1 5 x = V 5 x) → (∀ z, z ≠ 3 → z ≠ 4 → z ≠ 5 → V1 z = V z) → va_S (rn_mA m0 ma) s.heap H locs → rn_MW D cI m0 ma 0 (nI σ.sn) (nI 0) (nI σ.pn) (nI σ.fn) σ.rc σ.la V1 H → ∀ (ls : Array Slot), lv_has ls 7 [(5, .int (nI k)), (4, .int (nI σ.sd.length)), (3, .int 0), (0, .ref m0), (1, .int (nI j)), (2, .int (nI i))] → W p l e ({ frames := 4, cells := 0, slots := 0, locals := 96 } : Room) s m ([.ref m0, .int (nI j), .int (nI i)] : List Value).toArray below meth c H locs 0 0 (MQ below (fun _ st o t => (o = .returned (some (.int ((rn_o_writeMap σ j i).1))) ∧ (rn_MP D cI m0 ma 0 ((rn_o_writeMap σ j i).2)) t.heap) ∧ va_F (rn_mA m0 ma) st t) ([.ref m0, .int (nI j), .int (nI i)] : List Value).toArray s 0 0 (rn_mA m0 ma)) (F0 m 117 ls []) := by
                      intro n
                      induction n with
                      | zero =>
                        intro k V1 H locs hkn h1 h2 h3 hS hF ls hl
                        refine lv_iload hx hb dX5_writeMap_117 (lv_at hl 0 rfl) ?_
                        refine lv_iload hx hb dX5_writeMap_119 (lv_at hl 1 rfl) ?_
                        refine lv_icmp_ge (tgt := 191) hx hb dX5_writeMap_121 (by decide) (fun c_121 => ?_) (fun c_121 => ?_)
                        · refine lv_aload_n hx hb dX5_writeMap_191 rfl (lv_at hl 3 rfl) ?_
                          refine rn_get (ci := 5) (v := .ref (ma 2)) (C := RX5) (T := TX5) (N := 18) hx hb hts iw_X5_writeMap_5 hown hG hF.1 rfl 4 (by decide) fw_X5_writeMap_20 rfl dX5_writeMap_192 ?_
                          refine lv_iload_n hx hb dX5_writeMap_195 rfl (lv_at hl 5 rfl) ?_
                          refine lv_iload hx hb dX5_writeMap_196 (lv_at hl 1 rfl) ?_
                          refine rn_iast (A := (rn_mA m0 ma)) (j := i) (x := (nI σ.sd.length)) (g := V1 2) (n := 10) hx hb hG hS (rn_mA_k 2 (by decide)) (show va_at D vwCl (ma 2, .inl (cI, 10, .inl (V1 2))) _ from hF.2.1 2 (by decide)) 0 rfl (by omega) (by decide) dX5_writeMap_198 (fun H locs hat hz ho hS => ?_)
                          have hF := hF.st (k := 2) (by decide) hat ho
                          refine lv_iload hx hb dX5_writeMap_199 (lv_at hl 1 rfl) ?_
                          have hM9 : rn_Mr (rn_setMap σ i) (va_up V1 2 (upd (V1 2) i ((nI σ.sd.length)))) := rn_Mr.setMap hV hi0 hM (fun x => by rw [← h3 2 (by decide) (by decide) (by decide)]; rfl) (fun q hq => h1 q (by omega)) h2 (fun z a2 a3 a4 a5 => by rw [show (va_up V1 2 (upd (V1 2) i ((nI σ.sd.length)))) z = V1 z by simp [va_up, a2]]; exact h3 z a3 a4 a5)
                          have ho9 : rn_o_writeMap σ j i = (nI σ.sd.length, rn_setMap σ i) := by rw [rn_o_writeMap, if_neg (fun h => h hm), if_neg (fun h => h.elim c_52.1 (fun h => by rw [c_52.2] at h; cases h)), if_neg (by rw [c_70]; decide), if_pos c_84]
                          exact rn_Wiret hx hb hr rfl hlocks hS (by decide) (by decide) (by rw [ho9]) (by rw [ho9]; exact ⟨_, hM9, hF⟩) dX5_writeMap_201
                        · exact absurd ((nI_leI (by omega) (by omega)).mpr (by omega)) c_121
                      | succ n ih =>
                        intro k V1 H locs hkn h1 h2 h3 hS hF ls hl
                        refine lv_iload hx hb dX5_writeMap_117 (lv_at hl 0 rfl) ?_
                        refine lv_iload hx hb dX5_writeMap_119 (lv_at hl 1 rfl) ?_
                        refine lv_icmp_ge (tgt := 191) hx hb dX5_writeMap_121 (by decide) (fun c_121 => ?_) (fun c_121 => ?_)
                        · exact absurd ((nI_leI (by omega) (by omega)).mp c_121) (by omega)
                        · refine lv_bipush (v := 30) hx hb dX5_writeMap_124 (by decide +kernel) ?_
                          refine lv_iload hx hb dX5_writeMap_126 (lv_at hl 0 rfl) ?_
                          refine lv_iadd hx hb dX5_writeMap_128 ?_
                          refine rn_top (y := .int (nI (30 + k))) (congrArg Value.int (nI_add 30 k)) ?_
                          refine lv_istore (lv' := [(6, .int (nI (30 + k))), (5, .int (nI k)), (4, .int (nI σ.sd.length)), (3, .int 0), (0, .ref m0), (1, .int (nI j)), (2, .int (nI i))]) hx hb dX5_writeMap_129 hl (by decide) rfl (fun ls hl => ?_)
                          refine lv_aload_n hx hb dX5_writeMap_131 rfl (lv_at hl 4 rfl) ?_
                          refine rn_get (ci := 5) (v := .ref (ma 3)) (C := RX5) (T := TX5) (N := 18) hx hb hts iw_X5_writeMap_5 hown hG hF.1 rfl 5 (by decide) fw_X5_writeMap_23 rfl dX5_writeMap_132 ?_
                          refine lv_iconst (v := 3) hx hb dX5_writeMap_135 (by decide) ?_
                          refine lv_iload_n hx hb dX5_writeMap_136 rfl (lv_at hl 6 rfl) ?_
                          refine lv_imul hx hb dX5_writeMap_137 ?_
                          refine rn_top (y := .int (nI (3 * i))) (congrArg Value.int (pk_mul 3 i)) ?_
                          refine lv_iload hx hb dX5_writeMap_138 (lv_at hl 1 rfl) ?_
                          refine lv_iadd hx hb dX5_writeMap_140 ?_
                          refine rn_top (y := .int (nI (3 * i + k))) (congrArg Value.int (nI_add _ _)) ?_
                          refine lv_aload_n hx hb dX5_writeMap_141 rfl (lv_at hl 4 rfl) ?_
                          refine rn_get (ci := 5) (v := .ref (ma 3)) (C := RX5) (T := TX5) (N := 18) hx hb hts iw_X5_writeMap_5 hown hG hF.1 rfl 5 (by decide) fw_X5_writeMap_23 rfl dX5_writeMap_142 ?_
                          refine lv_iload hx hb dX5_writeMap_145 (lv_at hl 0 rfl) ?_
                          refine rn_iald (j := (30 + k)) hx hb hG (show va_at D vwCl (ma 3, .inl (cI, 33, .inl (V1 3))) _ from hF.2.1 3 (by decide)) 0 rfl (by omega) (by decide) dX5_writeMap_147 ?_
                          refine rn_iast (A := (rn_mA m0 ma)) (j := (3 * i + k)) (x := (V1 3 ((30 + k)))) (g := V1 3) (n := 33) hx hb hG hS (rn_mA_k 3 (by decide)) (show va_at D vwCl (ma 3, .inl (cI, 33, .inl (V1 3))) _ from hF.2.1 3 (by decide)) 0 rfl (by omega) (by decide) dX5_writeMap_148 (fun H locs hat hz ho hS => ?_)
                          have hF := hF.st (k := 3) (by decide) hat ho
                          refine lv_aload_n hx hb dX5_writeMap_149 rfl (lv_at hl 4 rfl) ?_
                          refine rn_get (ci := 5) (v := .ref (ma 4)) (C := RX5) (T := TX5) (N := 18) hx hb hts iw_X5_writeMap_5 hown hG hF.1 rfl 6 (by decide) fw_X5_writeMap_26 rfl dX5_writeMap_150 ?_
                          refine lv_iconst (v := 3) hx hb dX5_writeMap_153 (by decide) ?_
                          refine lv_iload_n hx hb dX5_writeMap_154 rfl (lv_at hl 6 rfl) ?_
                          refine lv_imul hx hb dX5_writeMap_155 ?_
                          refine rn_top (y := .int (nI (3 * i))) (congrArg Value.int (pk_mul 3 i)) ?_
                          refine lv_iload hx hb dX5_writeMap_156 (lv_at hl 1 rfl) ?_
                          refine lv_iadd hx hb dX5_writeMap_158 ?_
                          refine rn_top (y := .int (nI (3 * i + k))) (congrArg Value.int (nI_add _ _)) ?_
                          refine lv_aload_n hx hb dX5_writeMap_159 rfl (lv_at hl 4 rfl) ?_
                          refine rn_get (ci := 5) (v := .ref (ma 4)) (C := RX5) (T := TX5) (N := 18) hx hb hts iw_X5_writeMap_5 hown hG hF.1 rfl 6 (by decide) fw_X5_writeMap_26 rfl dX5_writeMap_160 ?_
                          refine lv_iload hx hb dX5_writeMap_163 (lv_at hl 0 rfl) ?_
                          refine rn_iald (j := (30 + k)) hx hb hG (show va_at D vwCl (ma 4, .inl (cI, 33, .inl (V1 4))) _ from hF.2.1 4 (by decide)) 0 rfl (by omega) (by decide) dX5_writeMap_165 ?_
                          refine rn_iast (A := (rn_mA m0 ma)) (j := (3 * i + k)) (x := (V1 4 ((30 + k)))) (g := V1 4) (n := 33) hx hb hG hS (rn_mA_k 4 (by decide)) (show va_at D vwCl (ma 4, .inl (cI, 33, .inl (V1 4))) _ from hF.2.1 4 (by decide)) 0 rfl (by omega) (by decide) dX5_writeMap_166 (fun H locs hat hz ho hS => ?_)
                          have hF := hF.st (k := 4) (by decide) hat ho
                          refine lv_aload_n hx hb dX5_writeMap_167 rfl (lv_at hl 4 rfl) ?_
                          refine rn_get (ci := 5) (v := .ref (ma 5)) (C := RX5) (T := TX5) (N := 18) hx hb hts iw_X5_writeMap_5 hown hG hF.1 rfl 7 (by decide) fw_X5_writeMap_29 rfl dX5_writeMap_168 ?_
                          refine lv_iconst (v := 3) hx hb dX5_writeMap_171 (by decide) ?_
                          refine lv_iload_n hx hb dX5_writeMap_172 rfl (lv_at hl 6 rfl) ?_
                          refine lv_imul hx hb dX5_writeMap_173 ?_
                          refine rn_top (y := .int (nI (3 * i))) (congrArg Value.int (pk_mul 3 i)) ?_
                          refine lv_iload hx hb dX5_writeMap_174 (lv_at hl 1 rfl) ?_
                          refine lv_iadd hx hb dX5_writeMap_176 ?_
                          refine rn_top (y := .int (nI (3 * i + k))) (congrArg Value.int (nI_add _ _)) ?_
                          refine lv_aload_n hx hb dX5_writeMap_177 rfl (lv_at hl 4 rfl) ?_
                          refine rn_get (ci := 5) (v := .ref (ma 5)) (C := RX5) (T := TX5) (N := 18) hx hb hts iw_X5_writeMap_5 hown hG hF.1 rfl 7 (by decide) fw_X5_writeMap_29 rfl dX5_writeMap_178 ?_
                          refine lv_iload hx hb dX5_writeMap_181 (lv_at hl 0 rfl) ?_
                          refine rn_iald (j := (30 + k)) hx hb hG (show va_at D vwCl (ma 5, .inl (cI, 33, .inl (V1 5))) _ from hF.2.1 5 (by decide)) 0 rfl (by omega) (by decide) dX5_writeMap_183 ?_
                          refine rn_iast (A := (rn_mA m0 ma)) (j := (3 * i + k)) (x := (V1 5 ((30 + k)))) (g := V1 5) (n := 33) hx hb hG hS (rn_mA_k 5 (by decide)) (show va_at D vwCl (ma 5, .inl (cI, 33, .inl (V1 5))) _ from hF.2.1 5 (by decide)) 0 rfl (by omega) (by decide) dX5_writeMap_184 (fun H locs hat hz ho hS => ?_)
                          have hF := hF.st (k := 5) (by decide) hat ho
                          refine lv_iinc (v := (nI (k + 1))) (lv' := [(5, .int (nI (k + 1))), (6, .int (nI (30 + k))), (4, .int (nI σ.sd.length)), (3, .int 0), (0, .ref m0), (1, .int (nI j)), (2, .int (nI i))]) hx hb dX5_writeMap_185 hl (k := 1) rfl (nI_1 k) (by decide) rfl (fun ls hl => ?_)
                          refine lv_goto (tgt := 117) hx hb dX5_writeMap_188 (by decide) ?_
                          refine ih (k + 1) (va_up (va_up (va_up V1 3 (upd (V1 3) ((3 * i + k)) ((V1 3 ((30 + k)))))) 4 (upd (V1 4) ((3 * i + k)) ((V1 4 ((30 + k)))))) 5 (upd (V1 5) ((3 * i + k)) ((V1 5 ((30 + k)))))) H locs (by omega) (fun q hq => ?_) (fun x hx => ?_) (fun z a3 a4 a5 => ?_) hS hF ls (lv_sub hl [0, 2, 3, 4, 5, 6] rfl)
                          · rcases Nat.lt_or_ge q k with h | h
                            · have e := h1 q h
                              exact ⟨(pk_un (f := V1 3) (k := 3 * i + k) (x := V1 3 (30 + k)) (j := 3 * i + q) (by omega)).trans e.1, (pk_un (f := V1 4) (k := 3 * i + k) (x := V1 4 (30 + k)) (j := 3 * i + q) (by omega)).trans e.2.1, (pk_un (f := V1 5) (k := 3 * i + k) (x := V1 5 (30 + k)) (j := 3 * i + q) (by omega)).trans e.2.2⟩
                            · rw [show q = k by omega]
                              have e := h2 (30 + k) (Or.inr (by omega))
                              exact ⟨(pk_us (f := V1 3) (k := 3 * i + k) (x := V1 3 (30 + k))).trans e.1, (pk_us (f := V1 4) (k := 3 * i + k) (x := V1 4 (30 + k))).trans e.2.1, (pk_us (f := V1 5) (k := 3 * i + k) (x := V1 5 (30 + k))).trans e.2.2⟩
                          · have e := h2 x hx
                            exact ⟨(pk_un (f := V1 3) (k := 3 * i + k) (x := V1 3 (30 + k)) (j := x) (by omega)).trans e.1, (pk_un (f := V1 4) (k := 3 * i + k) (x := V1 4 (30 + k)) (j := x) (by omega)).trans e.2.1, (pk_un (f := V1 5) (k := 3 * i + k) (x := V1 5 (30 + k)) (j := x) (by omega)).trans e.2.2⟩
                          · rw [show (va_up (va_up (va_up V1 3 (upd (V1 3) ((3 * i + k)) ((V1 3 ((30 + k)))))) 4 (upd (V1 4) ((3 * i + k)) ((V1 4 ((30 + k)))))) 5 (upd (V1 5) ((3 * i + k)) ((V1 5 ((30 + k)))))) z = V1 z by simp [va_up, a3, a4, a5]]
                            exact h3 z a3 a4 a5
                    exact loop _ 0 V _ _ (Nat.zero_add _) (fun q hq => absurd hq (Nat.not_lt_zero _)) (fun x hx => ⟨rfl, rfl, rfl⟩) (fun z a b c => rfl) hS hF ls (lv_sub hl [0, 1, 2, 3, 4, 5] rfl)
                  · exact absurd c_105 (by decide)
              · rw [rn_b1] at c_70
                refine lv_bipush (v := (-2)) hx hb dX5_writeMap_73 (by decide +kernel) ?_
                refine lv_goto (tgt := 92) hx hb dX5_writeMap_75 (by decide) ?_
                refine lv_istore_n (lv' := [(3, .int (-2)), (0, .ref m0), (1, .int (nI j)), (2, .int (nI i))]) hx hb dX5_writeMap_92 rfl hl (by decide) rfl (fun ls hl => ?_)
                refine lv_aload_n hx hb dX5_writeMap_93 rfl (lv_at hl 1 rfl) ?_
                refine rn_get (ci := 5) (v := .int (nI σ.sd.length)) (C := RX5) (T := TX5) (N := 18) hx hb hts iw_X5_writeMap_5 hown hG hF.1 rfl 8 (by decide) fw_X5_writeMap_76 rfl dX5_writeMap_94 ?_
                refine lv_istore (lv' := [(4, .int (nI σ.sd.length)), (3, .int (-2)), (0, .ref m0), (1, .int (nI j)), (2, .int (nI i))]) hx hb dX5_writeMap_97 hl (by decide) rfl (fun ls hl => ?_)
                refine lv_aload_n hx hb dX5_writeMap_99 rfl (lv_at hl 2 rfl) ?_
                refine lv_iconst (v := 0) hx hb dX5_writeMap_100 (by decide) ?_
                refine rn_top (y := .int (nI 0)) (congrArg Value.int (rfl)) ?_
                refine rn_put (A := (rn_mA m0 ma)) (ci := 5) (v := .int (nI 0)) (C := RX5) (T := TX5) (N := 18) (fs' := [.int 0, .int (nI σ.sn), .ref (ma 0), .ref (ma 1), .ref (ma 2), .ref (ma 3), .ref (ma 4), .ref (ma 5), .int (nI 0), .int (nI σ.pn), .ref (ma 6), .ref (ma 7), .ref (ma 8), .int (nI σ.fn), .ref (ma 9), .ref (ma 10), .int σ.rc, .int σ.la]) hx hb hts iw_X5_writeMap_5 tyX5 tyX5_ok nmX5 hown hG hS rn_mA_0 hF.1 rfl 8 (by decide) fw_X5_writeMap_76 (Or.inl rfl) rfl rfl (Nat.le_of_ble_eq_true rfl) rfl dX5_writeMap_101 (fun H locs hat hz ho hS => ?_)
                have hF := hF.put hat ho
                refine lv_iload_n hx hb dX5_writeMap_104 rfl (lv_at hl 1 rfl) ?_
                refine lv_if_ge (tgt := 114) hx hb dX5_writeMap_105 (by decide) (fun c_105 => ?_) (fun c_105 => ?_)
                · exact absurd c_105 (by decide)
                · refine lv_aload_n hx hb dX5_writeMap_108 rfl (lv_at hl 2 rfl) ?_
                  refine lv_iload_n hx hb dX5_writeMap_109 rfl (lv_at hl 1 rfl) ?_
                  refine rn_wV (As := [.int (-2)]) (rest := []) 1 hx hb hml hown hts hG hS (m_told l ((-2))) (fun x hx => by rw [show x = m0 from hx]; exact rn_mA_0) gX5_writeMap_X5_told rfl ⟨rfl, rfl⟩ (by decide +kernel) ⟨Nat.le_of_ble_eq_true rfl, Nat.le_of_ble_eq_true rfl⟩ hF hF.1 rfl rfl hl.1 rfl (Nat.le_of_ble_eq_true rfl) ⟨by decide, by decide⟩ dX5_writeMap_110 (fun H locs hP1 hz hk hS => ?_)
                  refine W.eq (g2 := F0 m 113 ls [.int (-2)]) rfl ?_
                  have hF := hP1
                  have ho9 : rn_o_writeMap σ j i = ((-2), rn_ref (rn_draft σ []) ((-2))) := by rw [rn_o_writeMap, if_neg (fun h => h hm), if_neg (fun h => h.elim c_52.1 (fun h => by rw [c_52.2] at h; cases h)), if_pos c_70]
                  exact rn_Wiret hx hb hr rfl hlocks hS (by decide) (by decide) (by rw [ho9]) (by rw [ho9]; exact ⟨_, hM.draft0, hF⟩) dX5_writeMap_113
            · rw [rn_b1, Bool.or_eq_true, decide_eq_true_eq] at c_52
              refine lv_bipush (v := (-3)) hx hb dX5_writeMap_55 (by decide +kernel) ?_
              refine lv_goto (tgt := 92) hx hb dX5_writeMap_57 (by decide) ?_
              refine lv_istore_n (lv' := [(3, .int (-3)), (0, .ref m0), (1, .int (nI j)), (2, .int (nI i))]) hx hb dX5_writeMap_92 rfl hl (by decide) rfl (fun ls hl => ?_)
              refine lv_aload_n hx hb dX5_writeMap_93 rfl (lv_at hl 1 rfl) ?_
              refine rn_get (ci := 5) (v := .int (nI σ.sd.length)) (C := RX5) (T := TX5) (N := 18) hx hb hts iw_X5_writeMap_5 hown hG hF.1 rfl 8 (by decide) fw_X5_writeMap_76 rfl dX5_writeMap_94 ?_
              refine lv_istore (lv' := [(4, .int (nI σ.sd.length)), (3, .int (-3)), (0, .ref m0), (1, .int (nI j)), (2, .int (nI i))]) hx hb dX5_writeMap_97 hl (by decide) rfl (fun ls hl => ?_)
              refine lv_aload_n hx hb dX5_writeMap_99 rfl (lv_at hl 2 rfl) ?_
              refine lv_iconst (v := 0) hx hb dX5_writeMap_100 (by decide) ?_
              refine rn_top (y := .int (nI 0)) (congrArg Value.int (rfl)) ?_
              refine rn_put (A := (rn_mA m0 ma)) (ci := 5) (v := .int (nI 0)) (C := RX5) (T := TX5) (N := 18) (fs' := [.int 0, .int (nI σ.sn), .ref (ma 0), .ref (ma 1), .ref (ma 2), .ref (ma 3), .ref (ma 4), .ref (ma 5), .int (nI 0), .int (nI σ.pn), .ref (ma 6), .ref (ma 7), .ref (ma 8), .int (nI σ.fn), .ref (ma 9), .ref (ma 10), .int σ.rc, .int σ.la]) hx hb hts iw_X5_writeMap_5 tyX5 tyX5_ok nmX5 hown hG hS rn_mA_0 hF.1 rfl 8 (by decide) fw_X5_writeMap_76 (Or.inl rfl) rfl rfl (Nat.le_of_ble_eq_true rfl) rfl dX5_writeMap_101 (fun H locs hat hz ho hS => ?_)
              have hF := hF.put hat ho
              refine lv_iload_n hx hb dX5_writeMap_104 rfl (lv_at hl 1 rfl) ?_
              refine lv_if_ge (tgt := 114) hx hb dX5_writeMap_105 (by decide) (fun c_105 => ?_) (fun c_105 => ?_)
              · exact absurd c_105 (by decide)
              · refine lv_aload_n hx hb dX5_writeMap_108 rfl (lv_at hl 2 rfl) ?_
                refine lv_iload_n hx hb dX5_writeMap_109 rfl (lv_at hl 1 rfl) ?_
                refine rn_wV (As := [.int (-3)]) (rest := []) 1 hx hb hml hown hts hG hS (m_told l ((-3))) (fun x hx => by rw [show x = m0 from hx]; exact rn_mA_0) gX5_writeMap_X5_told rfl ⟨rfl, rfl⟩ (by decide +kernel) ⟨Nat.le_of_ble_eq_true rfl, Nat.le_of_ble_eq_true rfl⟩ hF hF.1 rfl rfl hl.1 rfl (Nat.le_of_ble_eq_true rfl) ⟨by decide, by decide⟩ dX5_writeMap_110 (fun H locs hP1 hz hk hS => ?_)
                refine W.eq (g2 := F0 m 113 ls [.int (-3)]) rfl ?_
                have hF := hP1
                have ho9 : rn_o_writeMap σ j i = ((-3), rn_ref (rn_draft σ []) ((-3))) := by rw [rn_o_writeMap, if_neg (fun h => h hm), if_pos c_52]
                exact rn_Wiret hx hb hr rfl hlocks hS (by decide) (by decide) (by rw [ho9]) (by rw [ho9]; exact ⟨_, hM.draft0, hF⟩) dX5_writeMap_113
          · have hm : σ.sm i ≠ [] := fun h => c_40 (by rw [h]; decide)
            refine lv_bipush (v := (-4)) hx hb dX5_writeMap_43 (by decide +kernel) ?_
            refine lv_goto (tgt := 92) hx hb dX5_writeMap_45 (by decide) ?_
            refine lv_istore_n (lv' := [(3, .int (-4)), (0, .ref m0), (1, .int (nI j)), (2, .int (nI i))]) hx hb dX5_writeMap_92 rfl hl (by decide) rfl (fun ls hl => ?_)
            refine lv_aload_n hx hb dX5_writeMap_93 rfl (lv_at hl 1 rfl) ?_
            refine rn_get (ci := 5) (v := .int (nI σ.sd.length)) (C := RX5) (T := TX5) (N := 18) hx hb hts iw_X5_writeMap_5 hown hG hF.1 rfl 8 (by decide) fw_X5_writeMap_76 rfl dX5_writeMap_94 ?_
            refine lv_istore (lv' := [(4, .int (nI σ.sd.length)), (3, .int (-4)), (0, .ref m0), (1, .int (nI j)), (2, .int (nI i))]) hx hb dX5_writeMap_97 hl (by decide) rfl (fun ls hl => ?_)
            refine lv_aload_n hx hb dX5_writeMap_99 rfl (lv_at hl 2 rfl) ?_
            refine lv_iconst (v := 0) hx hb dX5_writeMap_100 (by decide) ?_
            refine rn_top (y := .int (nI 0)) (congrArg Value.int (rfl)) ?_
            refine rn_put (A := (rn_mA m0 ma)) (ci := 5) (v := .int (nI 0)) (C := RX5) (T := TX5) (N := 18) (fs' := [.int 0, .int (nI σ.sn), .ref (ma 0), .ref (ma 1), .ref (ma 2), .ref (ma 3), .ref (ma 4), .ref (ma 5), .int (nI 0), .int (nI σ.pn), .ref (ma 6), .ref (ma 7), .ref (ma 8), .int (nI σ.fn), .ref (ma 9), .ref (ma 10), .int σ.rc, .int σ.la]) hx hb hts iw_X5_writeMap_5 tyX5 tyX5_ok nmX5 hown hG hS rn_mA_0 hF.1 rfl 8 (by decide) fw_X5_writeMap_76 (Or.inl rfl) rfl rfl (Nat.le_of_ble_eq_true rfl) rfl dX5_writeMap_101 (fun H locs hat hz ho hS => ?_)
            have hF := hF.put hat ho
            refine lv_iload_n hx hb dX5_writeMap_104 rfl (lv_at hl 1 rfl) ?_
            refine lv_if_ge (tgt := 114) hx hb dX5_writeMap_105 (by decide) (fun c_105 => ?_) (fun c_105 => ?_)
            · exact absurd c_105 (by decide)
            · refine lv_aload_n hx hb dX5_writeMap_108 rfl (lv_at hl 2 rfl) ?_
              refine lv_iload_n hx hb dX5_writeMap_109 rfl (lv_at hl 1 rfl) ?_
              refine rn_wV (As := [.int (-4)]) (rest := []) 1 hx hb hml hown hts hG hS (m_told l ((-4))) (fun x hx => by rw [show x = m0 from hx]; exact rn_mA_0) gX5_writeMap_X5_told rfl ⟨rfl, rfl⟩ (by decide +kernel) ⟨Nat.le_of_ble_eq_true rfl, Nat.le_of_ble_eq_true rfl⟩ hF hF.1 rfl rfl hl.1 rfl (Nat.le_of_ble_eq_true rfl) ⟨by decide, by decide⟩ dX5_writeMap_110 (fun H locs hP1 hz hk hS => ?_)
              refine W.eq (g2 := F0 m 113 ls [.int (-4)]) rfl ?_
              have hF := hP1
              have ho9 : rn_o_writeMap σ j i = ((-4), rn_ref (rn_draft σ []) ((-4))) := by rw [rn_o_writeMap, if_pos hm]
              exact rn_Wiret hx hb hr rfl hlocks hS (by decide) (by decide) (by rw [ho9]) (by rw [ho9]; exact ⟨_, hM.draft0, hF⟩) dX5_writeMap_113
        · exact absurd c_29 (by decide)
