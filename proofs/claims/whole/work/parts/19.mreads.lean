set_option maxHeartbeats 4000000 in
set_option maxRecDepth 100000 in
theorem m_in (l : Launch) {D : va_G} {tys : List (ClassId × FieldType)} (x lo hi : Int32) : rn_R l yX5_in wsX5_in ({ frames := 0, cells := 0, slots := 0, locals := 0 } : Room) D tys ((fun _ => True)) [.int x, .int lo, .int hi] (some (.int (rn_b (rn_in x lo hi)))) := by
  refine rn_R.ofW (cc := cX5_in) (maxL := 3) (ret := (some .boolean)) (by decide) rfl (Nat.le_of_ble_eq_true rfl) (fun p e s m below meth c ls hx hb hr hml hts hown hlocks hF hG hl => ?_)
  have hl : lv_has ls 3 [(0, .int x), (1, .int lo), (2, .int hi)] := hl
  refine lv_iload_n hx hb dX5_in_0 rfl (lv_at hl 0 rfl) ?_
  refine lv_iload_n hx hb dX5_in_1 rfl (lv_at hl 1 rfl) ?_
  refine lv_icmp_lt (tgt := 14) hx hb dX5_in_2 (by decide) (fun c_2 => ?_) (fun c_2 => ?_)
  · have hr9 : rn_in x lo hi = false := decide_eq_false (fun h => rn_nle c_2 h.1)
    refine lv_iconst (v := 0) hx hb dX5_in_14 (by decide) ?_
    exact rn_iret hx hb hr rfl hlocks (by rw [hr9]; rfl) dX5_in_15
  · refine lv_iload_n hx hb dX5_in_5 rfl (lv_at hl 0 rfl) ?_
    refine lv_iload_n hx hb dX5_in_6 rfl (lv_at hl 2 rfl) ?_
    refine lv_icmp_gt (tgt := 14) hx hb dX5_in_7 (by decide) (fun c_7 => ?_) (fun c_7 => ?_)
    · have hr9 : rn_in x lo hi = false := decide_eq_false (fun h => rn_nle c_7 h.2)
      refine lv_iconst (v := 0) hx hb dX5_in_14 (by decide) ?_
      exact rn_iret hx hb hr rfl hlocks (by rw [hr9]; rfl) dX5_in_15
    · have hr9 : rn_in x lo hi = true := decide_eq_true ⟨rn_nlt.mp c_2, rn_nlt.mp c_7⟩
      refine lv_iconst (v := 1) hx hb dX5_in_10 (by decide) ?_
      refine lv_goto (tgt := 15) hx hb dX5_in_11 (by decide) ?_
      exact rn_iret hx hb hr rfl hlocks (by rw [hr9]; rfl) dX5_in_15

set_option maxHeartbeats 4000000 in
set_option maxRecDepth 100000 in
theorem m_isRoom (l : Launch) {D : va_G} {cI : ClassId} {m0 : Nat} {ma : Nat → Nat} {rf : Int32} {V : Nat → Nat → Int32} {σ : rn_St} (x : Int32) : rn_R l yX5_isRoom wsX5_isRoom ({ frames := 1, cells := 0, slots := 0, locals := 22 } : Room) D [(cI, .int)] ((rn_MW D cI m0 ma rf (nI σ.sn) (nI σ.sd.length) (nI σ.pn) (nI σ.fn) σ.rc σ.la V)) [.ref m0, .int x] (some (.int (rn_b (rn_in x 0 (nI σ.sn - 1))))) := by
  refine rn_R.ofW (cc := cX5_isRoom) (maxL := 2) (ret := (some .boolean)) (by decide) rfl (Nat.le_of_ble_eq_true rfl) (fun p e s m below meth c ls hx hb hr hml hts hown hlocks hF hG hl => ?_)
  have hl : lv_has ls 2 [(0, .ref m0), (1, .int x)] := hl
  refine lv_iload_n hx hb dX5_isRoom_0 rfl (lv_at hl 1 rfl) ?_
  refine lv_iconst (v := 0) hx hb dX5_isRoom_1 (by decide) ?_
  refine lv_aload_n hx hb dX5_isRoom_2 rfl (lv_at hl 0 rfl) ?_
  refine rn_get (ci := 5) (v := .int (nI σ.sn)) (C := RX5) (T := TX5) (N := 18) hx hb hts iw_X5_isRoom_5 hown hG hF.1 rfl 1 (by decide) fw_X5_isRoom_7 rfl dX5_isRoom_3 ?_
  refine lv_iconst (v := 1) hx hb dX5_isRoom_6 (by decide) ?_
  refine lv_isub hx hb dX5_isRoom_7 ?_
  refine rn_cS (As := [.int x, .int 0, .int ((nI σ.sn) - 1)]) (rest := []) 3 hx hb hml hown hts hG (m_in l x 0 (((nI σ.sn) - 1))) gX5_isRoom_X5_in rfl ⟨rfl, rfl⟩ (by decide +kernel) ⟨Nat.le_of_ble_eq_true rfl, Nat.le_of_ble_eq_true rfl⟩ trivial rfl hl.1 rfl (Nat.le_of_ble_eq_true rfl) ⟨Nat.zero_le _, Nat.zero_le _⟩ dX5_isRoom_8 ?_
  refine W.eq (g2 := F0 m 11 ls [.int (rn_b (rn_in x 0 (((nI σ.sn) - 1))))]) rfl ?_
  exact rn_iret hx hb hr (rn_nb _) hlocks rfl dX5_isRoom_11

set_option maxHeartbeats 4000000 in
set_option maxRecDepth 100000 in
theorem m_isProcess (l : Launch) {D : va_G} {cI : ClassId} {m0 : Nat} {ma : Nat → Nat} {rf : Int32} {V : Nat → Nat → Int32} {σ : rn_St} (x : Int32) : rn_R l yX5_isProcess wsX5_isProcess ({ frames := 1, cells := 0, slots := 0, locals := 22 } : Room) D [(cI, .int)] ((rn_MW D cI m0 ma rf (nI σ.sn) (nI σ.sd.length) (nI σ.pn) (nI σ.fn) σ.rc σ.la V)) [.ref m0, .int x] (some (.int (rn_b (rn_in x 0 (nI σ.pn - 1))))) := by
  refine rn_R.ofW (cc := cX5_isProcess) (maxL := 2) (ret := (some .boolean)) (by decide) rfl (Nat.le_of_ble_eq_true rfl) (fun p e s m below meth c ls hx hb hr hml hts hown hlocks hF hG hl => ?_)
  have hl : lv_has ls 2 [(0, .ref m0), (1, .int x)] := hl
  refine lv_iload_n hx hb dX5_isProcess_0 rfl (lv_at hl 1 rfl) ?_
  refine lv_iconst (v := 0) hx hb dX5_isProcess_1 (by decide) ?_
  refine lv_aload_n hx hb dX5_isProcess_2 rfl (lv_at hl 0 rfl) ?_
  refine rn_get (ci := 5) (v := .int (nI σ.pn)) (C := RX5) (T := TX5) (N := 18) hx hb hts iw_X5_isProcess_5 hown hG hF.1 rfl 9 (by decide) fw_X5_isProcess_32 rfl dX5_isProcess_3 ?_
  refine lv_iconst (v := 1) hx hb dX5_isProcess_6 (by decide) ?_
  refine lv_isub hx hb dX5_isProcess_7 ?_
  refine rn_cS (As := [.int x, .int 0, .int ((nI σ.pn) - 1)]) (rest := []) 3 hx hb hml hown hts hG (m_in l x 0 (((nI σ.pn) - 1))) gX5_isProcess_X5_in rfl ⟨rfl, rfl⟩ (by decide +kernel) ⟨Nat.le_of_ble_eq_true rfl, Nat.le_of_ble_eq_true rfl⟩ trivial rfl hl.1 rfl (Nat.le_of_ble_eq_true rfl) ⟨Nat.zero_le _, Nat.zero_le _⟩ dX5_isProcess_8 ?_
  refine W.eq (g2 := F0 m 11 ls [.int (rn_b (rn_in x 0 (((nI σ.pn) - 1))))]) rfl ?_
  exact rn_iret hx hb hr (rn_nb _) hlocks rfl dX5_isProcess_11

set_option maxHeartbeats 4000000 in
set_option maxRecDepth 100000 in
theorem m_isFile (l : Launch) {D : va_G} {cI : ClassId} {m0 : Nat} {ma : Nat → Nat} {rf : Int32} {V : Nat → Nat → Int32} {σ : rn_St} (x : Int32) : rn_R l yX5_isFile wsX5_isFile ({ frames := 1, cells := 0, slots := 0, locals := 22 } : Room) D [(cI, .int)] ((rn_MW D cI m0 ma rf (nI σ.sn) (nI σ.sd.length) (nI σ.pn) (nI σ.fn) σ.rc σ.la V)) [.ref m0, .int x] (some (.int (rn_b (rn_in x 0 (nI σ.fn - 1))))) := by
  refine rn_R.ofW (cc := cX5_isFile) (maxL := 2) (ret := (some .boolean)) (by decide) rfl (Nat.le_of_ble_eq_true rfl) (fun p e s m below meth c ls hx hb hr hml hts hown hlocks hF hG hl => ?_)
  have hl : lv_has ls 2 [(0, .ref m0), (1, .int x)] := hl
  refine lv_iload_n hx hb dX5_isFile_0 rfl (lv_at hl 1 rfl) ?_
  refine lv_iconst (v := 0) hx hb dX5_isFile_1 (by decide) ?_
  refine lv_aload_n hx hb dX5_isFile_2 rfl (lv_at hl 0 rfl) ?_
  refine rn_get (ci := 5) (v := .int (nI σ.fn)) (C := RX5) (T := TX5) (N := 18) hx hb hts iw_X5_isFile_5 hown hG hF.1 rfl 13 (by decide) fw_X5_isFile_63 rfl dX5_isFile_3 ?_
  refine lv_iconst (v := 1) hx hb dX5_isFile_6 (by decide) ?_
  refine lv_isub hx hb dX5_isFile_7 ?_
  refine rn_cS (As := [.int x, .int 0, .int ((nI σ.fn) - 1)]) (rest := []) 3 hx hb hml hown hts hG (m_in l x 0 (((nI σ.fn) - 1))) gX5_isFile_X5_in rfl ⟨rfl, rfl⟩ (by decide +kernel) ⟨Nat.le_of_ble_eq_true rfl, Nat.le_of_ble_eq_true rfl⟩ trivial rfl hl.1 rfl (Nat.le_of_ble_eq_true rfl) ⟨Nat.zero_le _, Nat.zero_le _⟩ dX5_isFile_8 ?_
  refine W.eq (g2 := F0 m 11 ls [.int (rn_b (rn_in x 0 (((nI σ.fn) - 1))))]) rfl ?_
  exact rn_iret hx hb hr (rn_nb _) hlocks rfl dX5_isFile_11

set_option maxHeartbeats 4000000 in
set_option maxRecDepth 100000 in
theorem m_isNumber (l : Launch) {D : va_G} {tys : List (ClassId × FieldType)} (x : Int32) : rn_R l yX5_isNumber wsX5_isNumber ({ frames := 1, cells := 0, slots := 0, locals := 22 } : Room) D tys ((fun _ => True)) [.int x] (some (.int (rn_b (rn_in x 0 998)))) := by
  refine rn_R.ofW (cc := cX5_isNumber) (maxL := 1) (ret := (some .boolean)) (by decide) rfl (Nat.le_of_ble_eq_true rfl) (fun p e s m below meth c ls hx hb hr hml hts hown hlocks hF hG hl => ?_)
  have hl : lv_has ls 1 [(0, .int x)] := hl
  refine lv_iload_n hx hb dX5_isNumber_0 rfl (lv_at hl 0 rfl) ?_
  refine lv_iconst (v := 0) hx hb dX5_isNumber_1 (by decide) ?_
  refine lv_sipush (v := 998) hx hb dX5_isNumber_2 (by decide +kernel) ?_
  refine rn_cS (As := [.int x, .int 0, .int 998]) (rest := []) 3 hx hb hml hown hts hG (m_in l x 0 998) gX5_isNumber_X5_in rfl ⟨rfl, rfl⟩ (by decide +kernel) ⟨Nat.le_of_ble_eq_true rfl, Nat.le_of_ble_eq_true rfl⟩ trivial rfl hl.1 rfl (Nat.le_of_ble_eq_true rfl) ⟨Nat.zero_le _, Nat.zero_le _⟩ dX5_isNumber_5 ?_
  refine W.eq (g2 := F0 m 8 ls [.int (rn_b (rn_in x 0 998))]) rfl ?_
  exact rn_iret hx hb hr (rn_nb _) hlocks rfl dX5_isNumber_8

set_option maxHeartbeats 4000000 in
set_option maxRecDepth 100000 in
theorem m_mapped (l : Launch) {D : va_G} {cI : ClassId} {m0 : Nat} {ma : Nat → Nat} {rf : Int32} {V : Nat → Nat → Int32} {σ : rn_St} (hV : rn_V σ) (hM : rn_Mr σ V) {i x : Nat} (hi0 : i < σ.sn) (hx0 : x ≤ 998) : rn_R l yX5_mapped wsX5_mapped ({ frames := 1, cells := 0, slots := 0, locals := 22 } : Room) D [(cI, .int)] ((rn_MW D cI m0 ma rf (nI σ.sn) (nI σ.sd.length) (nI σ.pn) (nI σ.fn) σ.rc σ.la V)) [.ref m0, .int (nI i), .int (nI x)] (some (.int (rn_enc (rn_to (σ.sm i) x)))) := by
  refine rn_R.ofW (cc := cX5_mapped) (maxL := 6) (ret := (some .int)) (by decide) rfl (Nat.le_of_ble_eq_true rfl) (fun p e s m below meth c ls hx hb hr hml hts hown hlocks hF hG hl => ?_)
  have hl : lv_has ls 6 [(0, .ref m0), (1, .int (nI i)), (2, .int (nI x))] := hl
  have hs10 := hV.1.2
  have hp12 := hV.2.2.2.2.2.1.2.1
  have hf20 := hV.2.2.2.2.2.2.1
  have hd3 := hV.2.2.2.2.1.2
  have hl3 := (hV.2.2.1 i hi0).2.1
  refine lv_iconst (v := (-1)) hx hb dX5_mapped_0 (by decide) ?_
  refine lv_istore_n (lv' := [(3, .int (-1)), (0, .ref m0), (1, .int (nI i)), (2, .int (nI x))]) hx hb dX5_mapped_1 rfl hl (by decide) rfl (fun ls hl => ?_)
  refine lv_iconst (v := 3) hx hb dX5_mapped_2 (by decide) ?_
  refine lv_iload_n hx hb dX5_mapped_3 rfl (lv_at hl 2 rfl) ?_
  refine lv_imul hx hb dX5_mapped_4 ?_
  refine rn_top (y := .int (nI (3 * i))) (congrArg Value.int (pk_mul 3 i)) ?_
  refine lv_istore (lv' := [(4, .int (nI (3 * i))), (3, .int (-1)), (0, .ref m0), (1, .int (nI i)), (2, .int (nI x))]) hx hb dX5_mapped_5 hl (by decide) rfl (fun ls hl => ?_)
  have loop : ∀ (n k : Nat), k + n = (σ.sm i).length → ∀ (ls : Array Slot), lv_has ls 6 [(4, .int (nI (3 * i + k))), (3, .int (rn_enc (rn_to ((σ.sm i).drop ((σ.sm i).length - k)) x))), (0, .ref m0), (1, .int (nI i)), (2, .int (nI x))] → W p l e ({ frames := 1, cells := 0, slots := 0, locals := 22 } : Room) s m ([.ref m0, .int (nI i), .int (nI x)] : List Value).toArray below meth c s.heap [] 0 0 (MQ below (fun _ st o t => o = .returned (some (.int (rn_enc (rn_to (σ.sm i) x)))) ∧ t.heap = st.heap) ([.ref m0, .int (nI i), .int (nI x)] : List Value).toArray s 0 0 (fun _ => False)) (F0 m 7 ls []) := by
    intro n
    induction n with
    | zero =>
      intro k hkn ls hl
      refine lv_iload hx hb dX5_mapped_7 (lv_at hl 0 rfl) ?_
      refine lv_iconst (v := 3) hx hb dX5_mapped_9 (by decide) ?_
      refine lv_iload_n hx hb dX5_mapped_10 rfl (lv_at hl 3 rfl) ?_
      refine lv_imul hx hb dX5_mapped_11 ?_
      refine rn_top (y := .int (nI (3 * i))) (congrArg Value.int (pk_mul 3 i)) ?_
      refine lv_aload_n hx hb dX5_mapped_12 rfl (lv_at hl 2 rfl) ?_
      refine rn_get (ci := 5) (v := .ref (ma 2)) (C := RX5) (T := TX5) (N := 18) hx hb hts iw_X5_mapped_5 hown hG hF.1 rfl 4 (by decide) fw_X5_mapped_20 rfl dX5_mapped_13 ?_
      refine lv_iload_n hx hb dX5_mapped_16 rfl (lv_at hl 3 rfl) ?_
      refine rn_iald (j := i) hx hb hG (show va_at D vwCl (ma 2, .inl (cI, 10, .inl (V 2))) _ from hF.2.1 2 (by decide)) 0 rfl (by omega) (by decide) dX5_mapped_17 ?_
      refine rn_top (y := .int (nI (σ.sm i).length)) (congrArg Value.int (hM.2.2.1 i hi0).1) ?_
      refine lv_iadd hx hb dX5_mapped_18 ?_
      refine rn_top (y := .int (nI (3 * i + (σ.sm i).length))) (congrArg Value.int (nI_add _ _)) ?_
      refine lv_icmp_ge (tgt := 72) hx hb dX5_mapped_19 (by decide) (fun c_19 => ?_) (fun c_19 => ?_)
      · refine lv_iload_n hx hb dX5_mapped_72 rfl (lv_at hl 1 rfl) ?_
        exact rn_iret hx hb hr rfl hlocks (by rw [show (σ.sm i).length - k = 0 by omega]; rfl) dX5_mapped_73
      · exact absurd ((nI_leI (by omega) (by omega)).mpr (by omega)) c_19
    | succ n ih =>
      intro k hkn ls hl
      obtain ⟨v1, v2, v3⟩ := (hM.2.2.1 i hi0).2 k (by omega)
      obtain ⟨q, hq⟩ : ∃ q, q = rn_lat (σ.sm i) k := ⟨_, rfl⟩
      rw [← hq] at v1 v2 v3
      have hok : rn_okL q := (hV.2.2.1 i hi0).1 q (by rw [hq]; exact rn_lat_mem (by omega))
      obtain ⟨k1, k2, k3⟩ := id hok
      refine lv_iload hx hb dX5_mapped_7 (lv_at hl 0 rfl) ?_
      refine lv_iconst (v := 3) hx hb dX5_mapped_9 (by decide) ?_
      refine lv_iload_n hx hb dX5_mapped_10 rfl (lv_at hl 3 rfl) ?_
      refine lv_imul hx hb dX5_mapped_11 ?_
      refine rn_top (y := .int (nI (3 * i))) (congrArg Value.int (pk_mul 3 i)) ?_
      refine lv_aload_n hx hb dX5_mapped_12 rfl (lv_at hl 2 rfl) ?_
      refine rn_get (ci := 5) (v := .ref (ma 2)) (C := RX5) (T := TX5) (N := 18) hx hb hts iw_X5_mapped_5 hown hG hF.1 rfl 4 (by decide) fw_X5_mapped_20 rfl dX5_mapped_13 ?_
      refine lv_iload_n hx hb dX5_mapped_16 rfl (lv_at hl 3 rfl) ?_
      refine rn_iald (j := i) hx hb hG (show va_at D vwCl (ma 2, .inl (cI, 10, .inl (V 2))) _ from hF.2.1 2 (by decide)) 0 rfl (by omega) (by decide) dX5_mapped_17 ?_
      refine rn_top (y := .int (nI (σ.sm i).length)) (congrArg Value.int (hM.2.2.1 i hi0).1) ?_
      refine lv_iadd hx hb dX5_mapped_18 ?_
      refine rn_top (y := .int (nI (3 * i + (σ.sm i).length))) (congrArg Value.int (nI_add _ _)) ?_
      refine lv_icmp_ge (tgt := 72) hx hb dX5_mapped_19 (by decide) (fun c_19 => ?_) (fun c_19 => ?_)
      · exact absurd ((nI_leI (by omega) (by omega)).mp c_19) (by omega)
      · refine lv_iload_n hx hb dX5_mapped_22 rfl (lv_at hl 4 rfl) ?_
        refine lv_aload_n hx hb dX5_mapped_23 rfl (lv_at hl 2 rfl) ?_
        refine rn_get (ci := 5) (v := .ref (ma 3)) (C := RX5) (T := TX5) (N := 18) hx hb hts iw_X5_mapped_5 hown hG hF.1 rfl 5 (by decide) fw_X5_mapped_23 rfl dX5_mapped_24 ?_
        refine lv_iload hx hb dX5_mapped_27 (lv_at hl 0 rfl) ?_
        refine rn_iald (j := (3 * i + k)) hx hb hG (show va_at D vwCl (ma 3, .inl (cI, 33, .inl (V 3))) _ from hF.2.1 3 (by decide)) 0 rfl (by omega) (by decide) dX5_mapped_29 ?_
        refine rn_top (y := .int (nI q.1)) (congrArg Value.int v1) ?_
        refine lv_isub hx hb dX5_mapped_30 ?_
        refine lv_istore (lv' := [(5, .int ((nI x) - (nI q.1))), (4, .int (nI (3 * i + k))), (3, .int (rn_enc (rn_to ((σ.sm i).drop ((σ.sm i).length - k)) x))), (0, .ref m0), (1, .int (nI i)), (2, .int (nI x))]) hx hb dX5_mapped_31 hl (by decide) rfl (fun ls hl => ?_)
        refine lv_iload hx hb dX5_mapped_33 (lv_at hl 0 rfl) ?_
        refine lv_iconst (v := 0) hx hb dX5_mapped_35 (by decide) ?_
        refine lv_aload_n hx hb dX5_mapped_36 rfl (lv_at hl 3 rfl) ?_
        refine rn_get (ci := 5) (v := .ref (ma 5)) (C := RX5) (T := TX5) (N := 18) hx hb hts iw_X5_mapped_5 hown hG hF.1 rfl 7 (by decide) fw_X5_mapped_29 rfl dX5_mapped_37 ?_
        refine lv_iload hx hb dX5_mapped_40 (lv_at hl 1 rfl) ?_
        refine rn_iald (j := (3 * i + k)) hx hb hG (show va_at D vwCl (ma 5, .inl (cI, 33, .inl (V 5))) _ from hF.2.1 5 (by decide)) 0 rfl (by omega) (by decide) dX5_mapped_42 ?_
        refine rn_top (y := .int (nI q.2.2)) (congrArg Value.int v3) ?_
        refine lv_iconst (v := 1) hx hb dX5_mapped_43 (by decide) ?_
        refine lv_isub hx hb dX5_mapped_44 ?_
        refine rn_top (y := .int (nI (q.2.2 - 1))) (congrArg Value.int (pk_sub (b := 1) k3)) ?_
        refine rn_cS (As := [.int ((nI x) - (nI q.1)), .int 0, .int (nI (q.2.2 - 1))]) (rest := []) 3 hx hb hml hown hts hG (m_in l (((nI x) - (nI q.1))) 0 ((nI (q.2.2 - 1)))) gX5_mapped_X5_in rfl ⟨rfl, rfl⟩ (by decide +kernel) ⟨Nat.le_of_ble_eq_true rfl, Nat.le_of_ble_eq_true rfl⟩ trivial rfl hl.1 rfl (Nat.le_of_ble_eq_true rfl) ⟨Nat.zero_le _, Nat.zero_le _⟩ dX5_mapped_45 ?_
        refine W.eq (g2 := F0 m 48 ls [.int (rn_b (rn_in (((nI x) - (nI q.1))) 0 ((nI (q.2.2 - 1)))))]) rfl ?_
        refine rn_top (y := .int (rn_b (decide (q.1 ≤ x ∧ x < q.1 + q.2.2)))) (congrArg Value.int (congrArg rn_b (rn_in_sub (by omega) (by omega) (by omega) k3))) ?_
        refine lv_if_eq (tgt := 64) hx hb dX5_mapped_48 (by decide) (fun c_48 => ?_) (fun c_48 => ?_)
        · rw [rn_b0, decide_eq_false_iff_not] at c_48
          refine lv_iload_n hx hb dX5_mapped_64 rfl (lv_at hl 2 rfl) ?_
          refine lv_istore_n (lv' := [(3, .int (rn_enc (rn_to ((σ.sm i).drop ((σ.sm i).length - k)) x))), (5, .int ((nI x) - (nI q.1))), (4, .int (nI (3 * i + k))), (0, .ref m0), (1, .int (nI i)), (2, .int (nI x))]) hx hb dX5_mapped_65 rfl hl (by decide) rfl (fun ls hl => ?_)
          refine lv_iinc (v := (nI (3 * i + (k + 1)))) (lv' := [(4, .int (nI (3 * i + (k + 1)))), (3, .int (rn_enc (rn_to ((σ.sm i).drop ((σ.sm i).length - k)) x))), (5, .int ((nI x) - (nI q.1))), (0, .ref m0), (1, .int (nI i)), (2, .int (nI x))]) hx hb dX5_mapped_66 hl (k := 2) rfl (nI_1 (3 * i + k)) (by decide) rfl (fun ls hl => ?_)
          refine lv_goto (tgt := 7) hx hb dX5_mapped_69 (by decide) ?_
          have e9 : rn_enc (rn_to ((σ.sm i).drop ((σ.sm i).length - (k + 1))) x) = (rn_enc (rn_to ((σ.sm i).drop ((σ.sm i).length - k)) x)) := by
            rw [rn_lat_drop _ (by omega), ← hq]; simp only [rn_to]; rw [if_neg c_48]
          exact ih (k + 1) (by omega) ls (by rw [e9]; exact lv_sub hl [0, 1, 3, 4, 5] rfl)
        · rw [rn_b1, decide_eq_true_eq] at c_48
          refine lv_aload_n hx hb dX5_mapped_51 rfl (lv_at hl 3 rfl) ?_
          refine rn_get (ci := 5) (v := .ref (ma 4)) (C := RX5) (T := TX5) (N := 18) hx hb hts iw_X5_mapped_5 hown hG hF.1 rfl 6 (by decide) fw_X5_mapped_26 rfl dX5_mapped_52 ?_
          refine lv_iload hx hb dX5_mapped_55 (lv_at hl 1 rfl) ?_
          refine rn_iald (j := (3 * i + k)) hx hb hG (show va_at D vwCl (ma 4, .inl (cI, 33, .inl (V 4))) _ from hF.2.1 4 (by decide)) 0 rfl (by omega) (by decide) dX5_mapped_57 ?_
          refine rn_top (y := .int (nI q.2.1)) (congrArg Value.int v2) ?_
          refine lv_iload hx hb dX5_mapped_58 (lv_at hl 0 rfl) ?_
          refine lv_iadd hx hb dX5_mapped_60 ?_
          refine rn_top (y := .int (nI (q.2.1 + (x - q.1)))) (congrArg Value.int (by rw [pk_sub c_48.1]; exact nI_add _ _)) ?_
          refine lv_goto (tgt := 65) hx hb dX5_mapped_61 (by decide) ?_
          refine lv_istore_n (lv' := [(3, .int (nI (q.2.1 + (x - q.1)))), (5, .int ((nI x) - (nI q.1))), (4, .int (nI (3 * i + k))), (0, .ref m0), (1, .int (nI i)), (2, .int (nI x))]) hx hb dX5_mapped_65 rfl hl (by decide) rfl (fun ls hl => ?_)
          refine lv_iinc (v := (nI (3 * i + (k + 1)))) (lv' := [(4, .int (nI (3 * i + (k + 1)))), (3, .int (nI (q.2.1 + (x - q.1)))), (5, .int ((nI x) - (nI q.1))), (0, .ref m0), (1, .int (nI i)), (2, .int (nI x))]) hx hb dX5_mapped_66 hl (k := 2) rfl (nI_1 (3 * i + k)) (by decide) rfl (fun ls hl => ?_)
          refine lv_goto (tgt := 7) hx hb dX5_mapped_69 (by decide) ?_
          have e9 : rn_enc (rn_to ((σ.sm i).drop ((σ.sm i).length - (k + 1))) x) = (nI (q.2.1 + (x - q.1))) := by
            rw [rn_lat_drop _ (by omega), ← hq]; simp only [rn_to]; rw [if_pos c_48]; rfl
          exact ih (k + 1) (by omega) ls (by rw [e9]; exact lv_sub hl [0, 1, 3, 4, 5] rfl)
  exact loop _ 0 (Nat.zero_add _) ls (by rw [Nat.sub_zero, List.drop_length]; exact lv_sub hl [0, 1, 2, 3, 4] rfl)

theorem rn_go_m {σ : rn_St} (hV : rn_V σ) {a : Nat} (ha : a < σ.sn) (h0 : a ≠ 0) (y : Nat) : rn_go σ (some (σ.so a)) (rn_to (σ.sm a) y) = rn_lead σ a y := by
  rw [rn_lead_s hV y h0 ha]
  cases rn_to (σ.sm a) y <;> rfl
theorem rn_V0 {σ : rn_St} {V : Nat → Nat → Int32} (hM : rn_Mr σ V) {a : Nat} (ha : a < σ.sn) (h0 : a ≠ 0) : V 0 a = nI (σ.so a) := by
  rw [hM.1 a ha, rn_nx, if_neg h0]; rfl

set_option maxHeartbeats 4000000 in
set_option maxRecDepth 100000 in
theorem m_led (l : Launch) {D : va_G} {cI : ClassId} {m0 : Nat} {ma : Nat → Nat} {rf : Int32} {V : Nat → Nat → Int32} {σ : rn_St} (hV : rn_V σ) (hM : rn_Mr σ V) {i x : Nat} (hi0 : i < σ.sn) (hx0 : x ≤ 998) : rn_R l yX5_led wsX5_led ({ frames := 2, cells := 0, slots := 0, locals := 47 } : Room) D [(cI, .int)] ((rn_MW D cI m0 ma rf (nI σ.sn) (nI σ.sd.length) (nI σ.pn) (nI σ.fn) σ.rc σ.la V)) [.ref m0, .int (nI i), .int (nI x)] (some (.int (rn_enc (rn_lead σ i x)))) := by
  refine rn_R.ofW (cc := cX5_led) (maxL := 5) (ret := (some .int)) (by decide) rfl (Nat.le_of_ble_eq_true rfl) (fun p e s m below meth c ls hx hb hr hml hts hown hlocks hF hG hl => ?_)
  have hl : lv_has ls 5 [(0, .ref m0), (1, .int (nI i)), (2, .int (nI x))] := hl
  have hs10 := hV.1.2
  have hp12 := hV.2.2.2.2.2.1.2.1
  have hf20 := hV.2.2.2.2.2.2.1
  have hd3 := hV.2.2.2.2.1.2
  refine lv_iload_n hx hb dX5_led_0 rfl (lv_at hl 1 rfl) ?_
  refine lv_istore_n (lv' := [(3, .int (nI i)), (0, .ref m0), (1, .int (nI i)), (2, .int (nI x))]) hx hb dX5_led_1 rfl hl (by decide) rfl (fun ls hl => ?_)
  refine lv_iload_n hx hb dX5_led_2 rfl (lv_at hl 3 rfl) ?_
  refine lv_istore (lv' := [(4, .int (nI x)), (3, .int (nI i)), (0, .ref m0), (1, .int (nI i)), (2, .int (nI x))]) hx hb dX5_led_3 hl (by decide) rfl (fun ls hl => ?_)
  have loop : ∀ (k a9 : Nat) (led : Option Nat), a9 < σ.sn → a9 < k → (∀ y, led = some y → y ≤ 998) → rn_go σ (some a9) led = rn_lead σ i x → ∀ (ls : Array Slot), lv_has ls 5 [(4, .int (rn_enc led)), (3, .int (nI a9)), (0, .ref m0), (1, .int (nI i)), (2, .int (nI x))] → W p l e ({ frames := 2, cells := 0, slots := 0, locals := 47 } : Room) s m ([.ref m0, .int (nI i), .int (nI x)] : List Value).toArray below meth c s.heap [] 0 0 (MQ below (fun _ st o t => o = .returned (some (.int (rn_enc (rn_lead σ i x)))) ∧ t.heap = st.heap) ([.ref m0, .int (nI i), .int (nI x)] : List Value).toArray s 0 0 (fun _ => False)) (F0 m 5 ls []) := by
    intro k
    induction k with
    | zero =>
      intro a9 led ha9 hk
      exact absurd hk (Nat.not_lt_zero _)
    | succ k ih =>
      intro a9 led ha9 hk hled hgo ls hl
      cases led with
      | none =>
        have hl : lv_has ls 5 [(4, .int (-1)), (3, .int (nI a9)), (0, .ref m0), (1, .int (nI i)), (2, .int (nI x))] := hl
        refine lv_iload_n hx hb dX5_led_5 rfl (lv_at hl 1 rfl) ?_
        refine lv_if_eq (tgt := 34) hx hb dX5_led_6 (by decide) (fun c_6 => ?_) (fun c_6 => ?_)
        · refine lv_iload hx hb dX5_led_34 (lv_at hl 0 rfl) ?_
          exact rn_iret hx hb hr rfl hlocks (by rw [← (show none = rn_lead σ i x from hgo)]; rfl) dX5_led_36
        · refine lv_iload hx hb dX5_led_9 (lv_at hl 0 rfl) ?_
          refine lv_iconst (v := (-1)) hx hb dX5_led_11 (by decide) ?_
          refine lv_icmp_eq (tgt := 34) hx hb dX5_led_12 (by decide) (fun c_12 => ?_) (fun c_12 => ?_)
          · refine lv_iload hx hb dX5_led_34 (lv_at hl 0 rfl) ?_
            exact rn_iret hx hb hr rfl hlocks (by rw [← (show none = rn_lead σ i x from hgo)]; rfl) dX5_led_36
          · exact absurd rfl c_12
      | some y =>
        have hy : y ≤ 998 := hled y rfl
        have hl : lv_has ls 5 [(4, .int (nI y)), (3, .int (nI a9)), (0, .ref m0), (1, .int (nI i)), (2, .int (nI x))] := hl
        refine lv_iload_n hx hb dX5_led_5 rfl (lv_at hl 1 rfl) ?_
        refine lv_if_eq (tgt := 34) hx hb dX5_led_6 (by decide) (fun c_6 => ?_) (fun c_6 => ?_)
        · have h0 : a9 = 0 := (rn_nI0 (by omega)).mp c_6
          refine lv_iload hx hb dX5_led_34 (lv_at hl 0 rfl) ?_
          exact rn_iret hx hb hr rfl hlocks (by rw [← hgo, h0]; rfl) dX5_led_36
        · have h0 : a9 ≠ 0 := fun h => c_6 ((rn_nI0 (by omega)).mpr h)
          refine lv_iload hx hb dX5_led_9 (lv_at hl 0 rfl) ?_
          refine lv_iconst (v := (-1)) hx hb dX5_led_11 (by decide) ?_
          refine lv_icmp_eq (tgt := 34) hx hb dX5_led_12 (by decide) (fun c_12 => ?_) (fun c_12 => ?_)
          · exact absurd c_12 (rn_nI_m1 (by omega))
          · refine lv_aload_n hx hb dX5_led_15 rfl (lv_at hl 2 rfl) ?_
            refine lv_iload_n hx hb dX5_led_16 rfl (lv_at hl 1 rfl) ?_
            refine lv_iload hx hb dX5_led_17 (lv_at hl 0 rfl) ?_
            refine rn_cV (As := [.int (nI a9), .int (nI y)]) (rest := []) 2 hx hb hml hown hts hG (m_mapped l hV hM ha9 hy) gX5_led_X5_mapped rfl ⟨rfl, rfl⟩ (by decide +kernel) ⟨Nat.le_of_ble_eq_true rfl, Nat.le_of_ble_eq_true rfl⟩ hF hF.1 rfl rfl hl.1 rfl (Nat.le_of_ble_eq_true rfl) ⟨Nat.zero_le _, Nat.zero_le _⟩ dX5_led_19 ?_
            refine W.eq (g2 := F0 m 22 ls [.int (rn_enc (rn_to (σ.sm a9) y))]) rfl ?_
            refine lv_istore (lv' := [(4, .int (rn_enc (rn_to (σ.sm a9) y))), (3, .int (nI a9)), (0, .ref m0), (1, .int (nI i)), (2, .int (nI x))]) hx hb dX5_led_22 hl (by decide) rfl (fun ls hl => ?_)
            refine lv_aload_n hx hb dX5_led_24 rfl (lv_at hl 2 rfl) ?_
            refine rn_get (ci := 5) (v := .ref (ma 0)) (C := RX5) (T := TX5) (N := 18) hx hb hts iw_X5_led_5 hown hG hF.1 rfl 2 (by decide) fw_X5_led_13 rfl dX5_led_25 ?_
            refine lv_iload_n hx hb dX5_led_28 rfl (lv_at hl 1 rfl) ?_
            refine rn_iald (j := a9) hx hb hG (show va_at D vwCl (ma 0, .inl (cI, 10, .inl (V 0))) _ from hF.2.1 0 (by decide)) 0 rfl (by omega) (by decide) dX5_led_29 ?_
            refine rn_top (y := .int (nI (σ.so a9))) (congrArg Value.int (rn_V0 hM ha9 h0)) ?_
            refine lv_istore_n (lv' := [(3, .int (nI (σ.so a9))), (4, .int (rn_enc (rn_to (σ.sm a9) y))), (0, .ref m0), (1, .int (nI i)), (2, .int (nI x))]) hx hb dX5_led_30 rfl hl (by decide) rfl (fun ls hl => ?_)
            refine lv_goto (tgt := 5) hx hb dX5_led_31 (by decide) ?_
            exact ih (σ.so a9) _ (by have := hV.2.1 a9 (by omega) ha9; omega) (by have := hV.2.1 a9 (by omega) ha9; omega) (fun z hz => (rn_to_in hV ha9 hz).1) (by rw [rn_go_m hV ha9 h0]; exact hgo) ls (lv_sub hl [1, 0, 2, 3, 4] rfl)
  exact loop (i + 1) i (some x) hi0 (Nat.lt_succ_self _) (fun y h => by cases h; exact hx0) rfl ls (lv_sub hl [0, 1, 2, 3, 4] rfl)

set_option maxHeartbeats 4000000 in
set_option maxRecDepth 100000 in
theorem m_meet (l : Launch) {D : va_G} {tys : List (ClassId × FieldType)} {a b c9 d9 : Nat} (h9 : a ≤ 999 ∧ b ≤ 999 ∧ c9 ≤ 999 ∧ d9 ≤ 999) : rn_R l yX5_meet wsX5_meet ({ frames := 0, cells := 0, slots := 0, locals := 0 } : Room) D tys ((fun _ => True)) [.int (nI a), .int (nI b), .int (nI c9), .int (nI d9)] (some (.int (rn_b (decide (a < c9 + d9 ∧ c9 < a + b))))) := by
  refine rn_R.ofW (cc := cX5_meet) (maxL := 4) (ret := (some .boolean)) (by decide) rfl (Nat.le_of_ble_eq_true rfl) (fun p e s m below meth c ls hx hb hr hml hts hown hlocks hF hG hl => ?_)
  have hl : lv_has ls 4 [(0, .int (nI a)), (1, .int (nI b)), (2, .int (nI c9)), (3, .int (nI d9))] := hl
  refine lv_iload_n hx hb dX5_meet_0 rfl (lv_at hl 0 rfl) ?_
  refine lv_iload_n hx hb dX5_meet_1 rfl (lv_at hl 2 rfl) ?_
  refine lv_iload_n hx hb dX5_meet_2 rfl (lv_at hl 3 rfl) ?_
  refine lv_iadd hx hb dX5_meet_3 ?_
  refine rn_top (y := .int (nI (c9 + d9))) (congrArg Value.int (nI_add _ _)) ?_
  refine lv_icmp_ge (tgt := 18) hx hb dX5_meet_4 (by decide) (fun c_4 => ?_) (fun c_4 => ?_)
  · have hr9 : ¬ (a < c9 + d9 ∧ c9 < a + b) := fun h => by have := (nI_leI (by omega) (by omega)).mp c_4; omega
    refine lv_iconst (v := 0) hx hb dX5_meet_18 (by decide) ?_
    exact rn_iret hx hb hr rfl hlocks (by rw [decide_eq_false hr9]; rfl) dX5_meet_19
  · have g1 : a < c9 + d9 := by rcases Nat.lt_or_ge a (c9 + d9) with h | h; exact h; exact absurd ((nI_leI (by omega) (by omega)).mpr h) c_4
    refine lv_iload_n hx hb dX5_meet_7 rfl (lv_at hl 2 rfl) ?_
    refine lv_iload_n hx hb dX5_meet_8 rfl (lv_at hl 0 rfl) ?_
    refine lv_iload_n hx hb dX5_meet_9 rfl (lv_at hl 1 rfl) ?_
    refine lv_iadd hx hb dX5_meet_10 ?_
    refine rn_top (y := .int (nI (a + b))) (congrArg Value.int (nI_add _ _)) ?_
    refine lv_icmp_ge (tgt := 18) hx hb dX5_meet_11 (by decide) (fun c_11 => ?_) (fun c_11 => ?_)
    · have hr9 : ¬ (a < c9 + d9 ∧ c9 < a + b) := fun h => by have := (nI_leI (by omega) (by omega)).mp c_11; omega
      refine lv_iconst (v := 0) hx hb dX5_meet_18 (by decide) ?_
      exact rn_iret hx hb hr rfl hlocks (by rw [decide_eq_false hr9]; rfl) dX5_meet_19
    · have g2 : c9 < a + b := by rcases Nat.lt_or_ge c9 (a + b) with h | h; exact h; exact absurd ((nI_leI (by omega) (by omega)).mpr h) c_11
      refine lv_iconst (v := 1) hx hb dX5_meet_14 (by decide) ?_
      refine lv_goto (tgt := 19) hx hb dX5_meet_15 (by decide) ?_
      exact rn_iret hx hb hr rfl hlocks (by rw [decide_eq_true (⟨g1, g2⟩ : a < c9 + d9 ∧ c9 < a + b)]; rfl) dX5_meet_19

set_option maxHeartbeats 4000000 in
set_option maxRecDepth 100000 in
theorem m_isDraftBad (l : Launch) {D : va_G} {cI : ClassId} {m0 : Nat} {ma : Nat → Nat} {rf : Int32} {V : Nat → Nat → Int32} {σ : rn_St} (hV : rn_V σ) (hM : rn_Mr σ V) : rn_R l yX5_isDraftBad wsX5_isDraftBad ({ frames := 1, cells := 0, slots := 0, locals := 23 } : Room) D [(cI, .int)] ((rn_MW D cI m0 ma rf (nI σ.sn) (nI σ.sd.length) (nI σ.pn) (nI σ.fn) σ.rc σ.la V)) [.ref m0] (some (.int (rn_b (decide (σ.sd = []) || rn_bad σ.sd)))) := by
  refine rn_R.ofW (cc := cX5_isDraftBad) (maxL := 5) (ret := (some .boolean)) (by decide) rfl (Nat.le_of_ble_eq_true rfl) (fun p e s m below meth c ls hx hb hr hml hts hown hlocks hF hG hl => ?_)
  have hl : lv_has ls 5 [(0, .ref m0)] := hl
  have hs10 := hV.1.2
  have hp12 := hV.2.2.2.2.2.1.2.1
  have hf20 := hV.2.2.2.2.2.2.1
  have hd3 := hV.2.2.2.2.1.2
  refine lv_aload_n hx hb dX5_isDraftBad_0 rfl (lv_at hl 0 rfl) ?_
  refine rn_get (ci := 5) (v := .int (nI σ.sd.length)) (C := RX5) (T := TX5) (N := 18) hx hb hts iw_X5_isDraftBad_5 hown hG hF.1 rfl 8 (by decide) fw_X5_isDraftBad_76 rfl dX5_isDraftBad_1 ?_
  refine lv_if_ne (tgt := 11) hx hb dX5_isDraftBad_4 (by decide) (fun c_4 => ?_) (fun c_4 => ?_)
  · have hz : decide (σ.sd = []) = false := decide_eq_false (fun h => c_4 (by rw [h]; rfl))
    refine lv_iconst (v := 0) hx hb dX5_isDraftBad_11 (by decide) ?_
    refine rn_top (y := .int (rn_b (decide (σ.sd = []) || rn_bad []))) (by rw [hz]; rfl) ?_
    refine lv_istore_n (lv' := [(1, .int (rn_b (decide (σ.sd = []) || rn_bad []))), (0, .ref m0)]) hx hb dX5_isDraftBad_12 rfl hl (by decide) rfl (fun ls hl => ?_)
    refine lv_bipush (v := 30) hx hb dX5_isDraftBad_13 (by decide +kernel) ?_
    refine rn_top (y := .int (nI 30)) (congrArg Value.int (rfl)) ?_
    refine lv_istore_n (lv' := [(2, .int (nI 30)), (1, .int (rn_b (decide (σ.sd = []) || rn_bad []))), (0, .ref m0)]) hx hb dX5_isDraftBad_15 rfl hl (by decide) rfl (fun ls hl => ?_)
    refine lv_iload_n hx hb dX5_isDraftBad_16 rfl (lv_at hl 0 rfl) ?_
    refine lv_istore_n (lv' := [(3, .int (nI 30)), (2, .int (nI 30)), (1, .int (rn_b (decide (σ.sd = []) || rn_bad []))), (0, .ref m0)]) hx hb dX5_isDraftBad_17 rfl hl (by decide) rfl (fun ls hl => ?_)
    have loop : ∀ (n k : Nat), k + n = σ.sd.length → ∀ (ls : Array Slot), lv_has ls 5 [(3, .int (nI (30 + k))), (1, .int (rn_b (decide (σ.sd = []) || rn_bad (σ.sd.drop (σ.sd.length - k))))), (2, .int (nI 30)), (0, .ref m0)] → W p l e ({ frames := 1, cells := 0, slots := 0, locals := 23 } : Room) s m ([.ref m0] : List Value).toArray below meth c s.heap [] 0 0 (MQ below (fun _ st o t => o = .returned (some (.int (rn_b (decide (σ.sd = []) || rn_bad σ.sd)))) ∧ t.heap = st.heap) ([.ref m0] : List Value).toArray s 0 0 (fun _ => False)) (F0 m 18 ls []) := by
      intro n
      induction n with
      | zero =>
        intro k hkn ls hl
        refine lv_iload_n hx hb dX5_isDraftBad_18 rfl (lv_at hl 0 rfl) ?_
        refine lv_iload_n hx hb dX5_isDraftBad_19 rfl (lv_at hl 2 rfl) ?_
        refine lv_aload_n hx hb dX5_isDraftBad_20 rfl (lv_at hl 3 rfl) ?_
        refine rn_get (ci := 5) (v := .int (nI σ.sd.length)) (C := RX5) (T := TX5) (N := 18) hx hb hts iw_X5_isDraftBad_5 hown hG hF.1 rfl 8 (by decide) fw_X5_isDraftBad_76 rfl dX5_isDraftBad_21 ?_
        refine lv_iadd hx hb dX5_isDraftBad_24 ?_
        refine rn_top (y := .int (nI (30 + σ.sd.length))) (congrArg Value.int (nI_add _ _)) ?_
        refine lv_icmp_ge (tgt := 123) hx hb dX5_isDraftBad_25 (by decide) (fun c_25 => ?_) (fun c_25 => ?_)
        · refine lv_iload_n hx hb dX5_isDraftBad_123 rfl (lv_at hl 1 rfl) ?_
          exact rn_iret hx hb hr (rn_nb _) hlocks (by rw [show σ.sd.length - k = 0 by omega]; rfl) dX5_isDraftBad_124
        · exact absurd ((nI_leI (by omega) (by omega)).mpr (by omega)) c_25
      | succ n ih =>
        intro k hkn ls hl
        obtain ⟨v1, v2, v3⟩ := hM.2.2.2.2.1 k (by omega)
        obtain ⟨k1, k2, k3⟩ : rn_okL (rn_lat σ.sd k) := hV.2.2.2.2.1.1 _ (rn_lat_mem (by omega))
        refine lv_iload_n hx hb dX5_isDraftBad_18 rfl (lv_at hl 0 rfl) ?_
        refine lv_iload_n hx hb dX5_isDraftBad_19 rfl (lv_at hl 2 rfl) ?_
        refine lv_aload_n hx hb dX5_isDraftBad_20 rfl (lv_at hl 3 rfl) ?_
        refine rn_get (ci := 5) (v := .int (nI σ.sd.length)) (C := RX5) (T := TX5) (N := 18) hx hb hts iw_X5_isDraftBad_5 hown hG hF.1 rfl 8 (by decide) fw_X5_isDraftBad_76 rfl dX5_isDraftBad_21 ?_
        refine lv_iadd hx hb dX5_isDraftBad_24 ?_
        refine rn_top (y := .int (nI (30 + σ.sd.length))) (congrArg Value.int (nI_add _ _)) ?_
        refine lv_icmp_ge (tgt := 123) hx hb dX5_isDraftBad_25 (by decide) (fun c_25 => ?_) (fun c_25 => ?_)
        · exact absurd ((nI_leI (by omega) (by omega)).mp c_25) (by omega)
        · refine lv_iload_n hx hb dX5_isDraftBad_28 rfl (lv_at hl 2 rfl) ?_
          refine lv_istore (lv' := [(4, .int (nI 30)), (3, .int (nI (30 + k))), (1, .int (rn_b (decide (σ.sd = []) || rn_bad (σ.sd.drop (σ.sd.length - k))))), (2, .int (nI 30)), (0, .ref m0)]) hx hb dX5_isDraftBad_29 hl (by decide) rfl (fun ls hl => ?_)
          have inner : ∀ (n j : Nat), j + n = k → ∀ (ls : Array Slot), lv_has ls 5 [(4, .int (nI (30 + j))), (3, .int (nI (30 + k))), (1, .int (rn_b ((decide (σ.sd = []) || rn_bad (σ.sd.drop (σ.sd.length - k))) || (σ.sd.drop (σ.sd.length - j)).any (rn_meet (rn_lat σ.sd k))))), (2, .int (nI 30)), (0, .ref m0)] → W p l e ({ frames := 1, cells := 0, slots := 0, locals := 23 } : Room) s m ([.ref m0] : List Value).toArray below meth c s.heap [] 0 0 (MQ below (fun _ st o t => o = .returned (some (.int (rn_b (decide (σ.sd = []) || rn_bad σ.sd)))) ∧ t.heap = st.heap) ([.ref m0] : List Value).toArray s 0 0 (fun _ => False)) (F0 m 31 ls []) := by
            intro n
            induction n with
            | zero =>
              intro j hjn ls hl
              refine lv_iload hx hb dX5_isDraftBad_31 (lv_at hl 0 rfl) ?_
              refine lv_iload_n hx hb dX5_isDraftBad_33 rfl (lv_at hl 1 rfl) ?_
              refine lv_icmp_ge (tgt := 117) hx hb dX5_isDraftBad_34 (by decide) (fun c_34 => ?_) (fun c_34 => ?_)
              · refine lv_iinc (v := (nI (30 + (k + 1)))) (lv' := [(3, .int (nI (30 + (k + 1)))), (4, .int (nI (30 + j))), (1, .int (rn_b ((decide (σ.sd = []) || rn_bad (σ.sd.drop (σ.sd.length - k))) || (σ.sd.drop (σ.sd.length - j)).any (rn_meet (rn_lat σ.sd k))))), (2, .int (nI 30)), (0, .ref m0)]) hx hb dX5_isDraftBad_117 hl (k := 1) rfl (nI_1 (30 + k)) (by decide) rfl (fun ls hl => ?_)
                refine lv_goto (tgt := 18) hx hb dX5_isDraftBad_120 (by decide) ?_
                exact ih (k + 1) (by omega) ls (by rw [rn_lat_drop _ (by omega)]; simp only [rn_bad]; rw [show (decide (σ.sd = []) || ((σ.sd.drop (σ.sd.length - k)).any (rn_meet (rn_lat σ.sd k)) || rn_bad (σ.sd.drop (σ.sd.length - k)))) = ((decide (σ.sd = []) || rn_bad (σ.sd.drop (σ.sd.length - k))) || (σ.sd.drop (σ.sd.length - k)).any (rn_meet (rn_lat σ.sd k))) by rw [Bool.or_comm (List.any _ _), Bool.or_assoc]]; rw [show j = k by omega] at hl; exact lv_sub hl [0, 2, 3, 4] rfl)
              · exact absurd ((nI_leI (by omega) (by omega)).mpr (by omega)) c_34
            | succ n ih2 =>
              intro j hjn ls hl
              obtain ⟨w1, w2, w3⟩ := hM.2.2.2.2.1 j (by omega)
              obtain ⟨j1, j2, j3⟩ : rn_okL (rn_lat σ.sd j) := hV.2.2.2.2.1.1 _ (rn_lat_mem (by omega))
              refine lv_iload hx hb dX5_isDraftBad_31 (lv_at hl 0 rfl) ?_
              refine lv_iload_n hx hb dX5_isDraftBad_33 rfl (lv_at hl 1 rfl) ?_
              refine lv_icmp_ge (tgt := 117) hx hb dX5_isDraftBad_34 (by decide) (fun c_34 => ?_) (fun c_34 => ?_)
              · exact absurd ((nI_leI (by omega) (by omega)).mp c_34) (by omega)
              · refine lv_iload_n hx hb dX5_isDraftBad_37 rfl (lv_at hl 2 rfl) ?_
                refine lv_if_ne (tgt := 105) hx hb dX5_isDraftBad_38 (by decide) (fun c_38 => ?_) (fun c_38 => ?_)
                · rw [rn_b1] at c_38
                  refine lv_iconst (v := 1) hx hb dX5_isDraftBad_105 (by decide) ?_
                  refine lv_goto (tgt := 110) hx hb dX5_isDraftBad_106 (by decide) ?_
                  have hmt : (rn_meet (rn_lat σ.sd k) (rn_lat σ.sd j) || ((decide (σ.sd = []) || rn_bad (σ.sd.drop (σ.sd.length - k))) || (σ.sd.drop (σ.sd.length - j)).any (rn_meet (rn_lat σ.sd k)))) = true := by rw [c_38, Bool.or_true]
                  refine rn_top (y := .int (rn_b true)) rfl ?_
                  refine lv_istore_n (lv' := [(1, .int (rn_b true)), (4, .int (nI (30 + j))), (3, .int (nI (30 + k))), (2, .int (nI 30)), (0, .ref m0)]) hx hb dX5_isDraftBad_110 rfl hl (by decide) rfl (fun ls hl => ?_)
                  refine lv_iinc (v := (nI (30 + (j + 1)))) (lv' := [(4, .int (nI (30 + (j + 1)))), (1, .int (rn_b true)), (3, .int (nI (30 + k))), (2, .int (nI 30)), (0, .ref m0)]) hx hb dX5_isDraftBad_111 hl (k := 1) rfl (nI_1 (30 + j)) (by decide) rfl (fun ls hl => ?_)
                  refine lv_goto (tgt := 31) hx hb dX5_isDraftBad_114 (by decide) ?_
                  exact ih2 (j + 1) (by omega) ls (by rw [rn_lat_drop _ (by omega), List.any_cons, Bool.or_left_comm, hmt]; exact lv_sub hl [0, 2, 1, 3, 4] rfl)
                · rw [rn_b0] at c_38
                  refine lv_aload_n hx hb dX5_isDraftBad_41 rfl (lv_at hl 4 rfl) ?_
                  refine rn_get (ci := 5) (v := .ref (ma 3)) (C := RX5) (T := TX5) (N := 18) hx hb hts iw_X5_isDraftBad_5 hown hG hF.1 rfl 5 (by decide) fw_X5_isDraftBad_23 rfl dX5_isDraftBad_42 ?_
                  refine lv_iload_n hx hb dX5_isDraftBad_45 rfl (lv_at hl 1 rfl) ?_
                  refine rn_iald (j := (30 + k)) hx hb hG (show va_at D vwCl (ma 3, .inl (cI, 33, .inl (V 3))) _ from hF.2.1 3 (by decide)) 0 rfl (by omega) (by decide) dX5_isDraftBad_46 ?_
                  refine rn_top (y := .int (nI (rn_lat σ.sd k).1)) (congrArg Value.int v1) ?_
                  refine lv_aload_n hx hb dX5_isDraftBad_47 rfl (lv_at hl 4 rfl) ?_
                  refine rn_get (ci := 5) (v := .ref (ma 5)) (C := RX5) (T := TX5) (N := 18) hx hb hts iw_X5_isDraftBad_5 hown hG hF.1 rfl 7 (by decide) fw_X5_isDraftBad_29 rfl dX5_isDraftBad_48 ?_
                  refine lv_iload_n hx hb dX5_isDraftBad_51 rfl (lv_at hl 1 rfl) ?_
                  refine rn_iald (j := (30 + k)) hx hb hG (show va_at D vwCl (ma 5, .inl (cI, 33, .inl (V 5))) _ from hF.2.1 5 (by decide)) 0 rfl (by omega) (by decide) dX5_isDraftBad_52 ?_
                  refine rn_top (y := .int (nI (rn_lat σ.sd k).2.2)) (congrArg Value.int v3) ?_
                  refine lv_aload_n hx hb dX5_isDraftBad_53 rfl (lv_at hl 4 rfl) ?_
                  refine rn_get (ci := 5) (v := .ref (ma 3)) (C := RX5) (T := TX5) (N := 18) hx hb hts iw_X5_isDraftBad_5 hown hG hF.1 rfl 5 (by decide) fw_X5_isDraftBad_23 rfl dX5_isDraftBad_54 ?_
                  refine lv_iload hx hb dX5_isDraftBad_57 (lv_at hl 0 rfl) ?_
                  refine rn_iald (j := (30 + j)) hx hb hG (show va_at D vwCl (ma 3, .inl (cI, 33, .inl (V 3))) _ from hF.2.1 3 (by decide)) 0 rfl (by omega) (by decide) dX5_isDraftBad_59 ?_
                  refine rn_top (y := .int (nI (rn_lat σ.sd j).1)) (congrArg Value.int w1) ?_
                  refine lv_aload_n hx hb dX5_isDraftBad_60 rfl (lv_at hl 4 rfl) ?_
                  refine rn_get (ci := 5) (v := .ref (ma 5)) (C := RX5) (T := TX5) (N := 18) hx hb hts iw_X5_isDraftBad_5 hown hG hF.1 rfl 7 (by decide) fw_X5_isDraftBad_29 rfl dX5_isDraftBad_61 ?_
                  refine lv_iload hx hb dX5_isDraftBad_64 (lv_at hl 0 rfl) ?_
                  refine rn_iald (j := (30 + j)) hx hb hG (show va_at D vwCl (ma 5, .inl (cI, 33, .inl (V 5))) _ from hF.2.1 5 (by decide)) 0 rfl (by omega) (by decide) dX5_isDraftBad_66 ?_
                  refine rn_top (y := .int (nI (rn_lat σ.sd j).2.2)) (congrArg Value.int w3) ?_
                  refine rn_cS (As := [.int (nI (rn_lat σ.sd k).1), .int (nI (rn_lat σ.sd k).2.2), .int (nI (rn_lat σ.sd j).1), .int (nI (rn_lat σ.sd j).2.2)]) (rest := []) 4 hx hb hml hown hts hG (m_meet l (a := (rn_lat σ.sd k).1) (b := (rn_lat σ.sd k).2.2) (c9 := (rn_lat σ.sd j).1) (d9 := (rn_lat σ.sd j).2.2) (by omega)) gX5_isDraftBad_X5_meet rfl ⟨rfl, rfl⟩ (by decide +kernel) ⟨Nat.le_of_ble_eq_true rfl, Nat.le_of_ble_eq_true rfl⟩ trivial rfl hl.1 rfl (Nat.le_of_ble_eq_true rfl) ⟨Nat.zero_le _, Nat.zero_le _⟩ dX5_isDraftBad_67 ?_
                  refine W.eq (g2 := F0 m 70 ls [.int (rn_b (decide ((rn_lat σ.sd k).1 < (rn_lat σ.sd j).1 + (rn_lat σ.sd j).2.2 ∧ (rn_lat σ.sd j).1 < (rn_lat σ.sd k).1 + (rn_lat σ.sd k).2.2)))]) rfl ?_
                  refine lv_if_ne (tgt := 105) hx hb dX5_isDraftBad_70 (by decide) (fun c_70 => ?_) (fun c_70 => ?_)
                  · rw [rn_b1, decide_eq_true_eq] at c_70
                    refine lv_iconst (v := 1) hx hb dX5_isDraftBad_105 (by decide) ?_
                    refine lv_goto (tgt := 110) hx hb dX5_isDraftBad_106 (by decide) ?_
                    have hmt : (rn_meet (rn_lat σ.sd k) (rn_lat σ.sd j) || ((decide (σ.sd = []) || rn_bad (σ.sd.drop (σ.sd.length - k))) || (σ.sd.drop (σ.sd.length - j)).any (rn_meet (rn_lat σ.sd k)))) = true := by rw [show rn_meet (rn_lat σ.sd k) (rn_lat σ.sd j) = true from decide_eq_true (Or.inl c_70), Bool.true_or]
                    refine rn_top (y := .int (rn_b true)) rfl ?_
                    refine lv_istore_n (lv' := [(1, .int (rn_b true)), (4, .int (nI (30 + j))), (3, .int (nI (30 + k))), (2, .int (nI 30)), (0, .ref m0)]) hx hb dX5_isDraftBad_110 rfl hl (by decide) rfl (fun ls hl => ?_)
                    refine lv_iinc (v := (nI (30 + (j + 1)))) (lv' := [(4, .int (nI (30 + (j + 1)))), (1, .int (rn_b true)), (3, .int (nI (30 + k))), (2, .int (nI 30)), (0, .ref m0)]) hx hb dX5_isDraftBad_111 hl (k := 1) rfl (nI_1 (30 + j)) (by decide) rfl (fun ls hl => ?_)
                    refine lv_goto (tgt := 31) hx hb dX5_isDraftBad_114 (by decide) ?_
                    exact ih2 (j + 1) (by omega) ls (by rw [rn_lat_drop _ (by omega), List.any_cons, Bool.or_left_comm, hmt]; exact lv_sub hl [0, 2, 1, 3, 4] rfl)
                  · rw [rn_b0, decide_eq_false_iff_not] at c_70
                    refine lv_aload_n hx hb dX5_isDraftBad_73 rfl (lv_at hl 4 rfl) ?_
                    refine rn_get (ci := 5) (v := .ref (ma 4)) (C := RX5) (T := TX5) (N := 18) hx hb hts iw_X5_isDraftBad_5 hown hG hF.1 rfl 6 (by decide) fw_X5_isDraftBad_26 rfl dX5_isDraftBad_74 ?_
                    refine lv_iload_n hx hb dX5_isDraftBad_77 rfl (lv_at hl 1 rfl) ?_
                    refine rn_iald (j := (30 + k)) hx hb hG (show va_at D vwCl (ma 4, .inl (cI, 33, .inl (V 4))) _ from hF.2.1 4 (by decide)) 0 rfl (by omega) (by decide) dX5_isDraftBad_78 ?_
                    refine rn_top (y := .int (nI (rn_lat σ.sd k).2.1)) (congrArg Value.int v2) ?_
                    refine lv_aload_n hx hb dX5_isDraftBad_79 rfl (lv_at hl 4 rfl) ?_
                    refine rn_get (ci := 5) (v := .ref (ma 5)) (C := RX5) (T := TX5) (N := 18) hx hb hts iw_X5_isDraftBad_5 hown hG hF.1 rfl 7 (by decide) fw_X5_isDraftBad_29 rfl dX5_isDraftBad_80 ?_
                    refine lv_iload_n hx hb dX5_isDraftBad_83 rfl (lv_at hl 1 rfl) ?_
                    refine rn_iald (j := (30 + k)) hx hb hG (show va_at D vwCl (ma 5, .inl (cI, 33, .inl (V 5))) _ from hF.2.1 5 (by decide)) 0 rfl (by omega) (by decide) dX5_isDraftBad_84 ?_
                    refine rn_top (y := .int (nI (rn_lat σ.sd k).2.2)) (congrArg Value.int v3) ?_
                    refine lv_aload_n hx hb dX5_isDraftBad_85 rfl (lv_at hl 4 rfl) ?_
                    refine rn_get (ci := 5) (v := .ref (ma 4)) (C := RX5) (T := TX5) (N := 18) hx hb hts iw_X5_isDraftBad_5 hown hG hF.1 rfl 6 (by decide) fw_X5_isDraftBad_26 rfl dX5_isDraftBad_86 ?_
                    refine lv_iload hx hb dX5_isDraftBad_89 (lv_at hl 0 rfl) ?_
                    refine rn_iald (j := (30 + j)) hx hb hG (show va_at D vwCl (ma 4, .inl (cI, 33, .inl (V 4))) _ from hF.2.1 4 (by decide)) 0 rfl (by omega) (by decide) dX5_isDraftBad_91 ?_
                    refine rn_top (y := .int (nI (rn_lat σ.sd j).2.1)) (congrArg Value.int w2) ?_
                    refine lv_aload_n hx hb dX5_isDraftBad_92 rfl (lv_at hl 4 rfl) ?_
                    refine rn_get (ci := 5) (v := .ref (ma 5)) (C := RX5) (T := TX5) (N := 18) hx hb hts iw_X5_isDraftBad_5 hown hG hF.1 rfl 7 (by decide) fw_X5_isDraftBad_29 rfl dX5_isDraftBad_93 ?_
                    refine lv_iload hx hb dX5_isDraftBad_96 (lv_at hl 0 rfl) ?_
                    refine rn_iald (j := (30 + j)) hx hb hG (show va_at D vwCl (ma 5, .inl (cI, 33, .inl (V 5))) _ from hF.2.1 5 (by decide)) 0 rfl (by omega) (by decide) dX5_isDraftBad_98 ?_
                    refine rn_top (y := .int (nI (rn_lat σ.sd j).2.2)) (congrArg Value.int w3) ?_
                    refine rn_cS (As := [.int (nI (rn_lat σ.sd k).2.1), .int (nI (rn_lat σ.sd k).2.2), .int (nI (rn_lat σ.sd j).2.1), .int (nI (rn_lat σ.sd j).2.2)]) (rest := []) 4 hx hb hml hown hts hG (m_meet l (a := (rn_lat σ.sd k).2.1) (b := (rn_lat σ.sd k).2.2) (c9 := (rn_lat σ.sd j).2.1) (d9 := (rn_lat σ.sd j).2.2) (by omega)) gX5_isDraftBad_X5_meet rfl ⟨rfl, rfl⟩ (by decide +kernel) ⟨Nat.le_of_ble_eq_true rfl, Nat.le_of_ble_eq_true rfl⟩ trivial rfl hl.1 rfl (Nat.le_of_ble_eq_true rfl) ⟨Nat.zero_le _, Nat.zero_le _⟩ dX5_isDraftBad_99 ?_
                    refine W.eq (g2 := F0 m 102 ls [.int (rn_b (decide ((rn_lat σ.sd k).2.1 < (rn_lat σ.sd j).2.1 + (rn_lat σ.sd j).2.2 ∧ (rn_lat σ.sd j).2.1 < (rn_lat σ.sd k).2.1 + (rn_lat σ.sd k).2.2)))]) rfl ?_
                    refine lv_if_eq (tgt := 109) hx hb dX5_isDraftBad_102 (by decide) (fun c_102 => ?_) (fun c_102 => ?_)
                    · rw [rn_b0, decide_eq_false_iff_not] at c_102
                      refine lv_iconst (v := 0) hx hb dX5_isDraftBad_109 (by decide) ?_
                      have hmt : (rn_meet (rn_lat σ.sd k) (rn_lat σ.sd j) || ((decide (σ.sd = []) || rn_bad (σ.sd.drop (σ.sd.length - k))) || (σ.sd.drop (σ.sd.length - j)).any (rn_meet (rn_lat σ.sd k)))) = false := by rw [c_38, show rn_meet (rn_lat σ.sd k) (rn_lat σ.sd j) = false from decide_eq_false (fun h => h.elim c_70 c_102)]; rfl
                      refine rn_top (y := .int (rn_b false)) rfl ?_
                      refine lv_istore_n (lv' := [(1, .int (rn_b false)), (4, .int (nI (30 + j))), (3, .int (nI (30 + k))), (2, .int (nI 30)), (0, .ref m0)]) hx hb dX5_isDraftBad_110 rfl hl (by decide) rfl (fun ls hl => ?_)
                      refine lv_iinc (v := (nI (30 + (j + 1)))) (lv' := [(4, .int (nI (30 + (j + 1)))), (1, .int (rn_b false)), (3, .int (nI (30 + k))), (2, .int (nI 30)), (0, .ref m0)]) hx hb dX5_isDraftBad_111 hl (k := 1) rfl (nI_1 (30 + j)) (by decide) rfl (fun ls hl => ?_)
                      refine lv_goto (tgt := 31) hx hb dX5_isDraftBad_114 (by decide) ?_
                      exact ih2 (j + 1) (by omega) ls (by rw [rn_lat_drop _ (by omega), List.any_cons, Bool.or_left_comm, hmt]; exact lv_sub hl [0, 2, 1, 3, 4] rfl)
                    · rw [rn_b1, decide_eq_true_eq] at c_102
                      refine lv_iconst (v := 1) hx hb dX5_isDraftBad_105 (by decide) ?_
                      refine lv_goto (tgt := 110) hx hb dX5_isDraftBad_106 (by decide) ?_
                      have hmt : (rn_meet (rn_lat σ.sd k) (rn_lat σ.sd j) || ((decide (σ.sd = []) || rn_bad (σ.sd.drop (σ.sd.length - k))) || (σ.sd.drop (σ.sd.length - j)).any (rn_meet (rn_lat σ.sd k)))) = true := by rw [show rn_meet (rn_lat σ.sd k) (rn_lat σ.sd j) = true from decide_eq_true (Or.inr c_102), Bool.true_or]
                      refine rn_top (y := .int (rn_b true)) rfl ?_
                      refine lv_istore_n (lv' := [(1, .int (rn_b true)), (4, .int (nI (30 + j))), (3, .int (nI (30 + k))), (2, .int (nI 30)), (0, .ref m0)]) hx hb dX5_isDraftBad_110 rfl hl (by decide) rfl (fun ls hl => ?_)
                      refine lv_iinc (v := (nI (30 + (j + 1)))) (lv' := [(4, .int (nI (30 + (j + 1)))), (1, .int (rn_b true)), (3, .int (nI (30 + k))), (2, .int (nI 30)), (0, .ref m0)]) hx hb dX5_isDraftBad_111 hl (k := 1) rfl (nI_1 (30 + j)) (by decide) rfl (fun ls hl => ?_)
                      refine lv_goto (tgt := 31) hx hb dX5_isDraftBad_114 (by decide) ?_
                      exact ih2 (j + 1) (by omega) ls (by rw [rn_lat_drop _ (by omega), List.any_cons, Bool.or_left_comm, hmt]; exact lv_sub hl [0, 2, 1, 3, 4] rfl)
          exact inner k 0 (Nat.zero_add _) ls (by rw [Nat.sub_zero, List.drop_length, List.any_nil, Bool.or_false]; exact lv_sub hl [0, 1, 2, 3, 4] rfl)
    exact loop _ 0 (Nat.zero_add _) ls (by rw [Nat.sub_zero, List.drop_length]; exact lv_sub hl [0, 2, 1, 3] rfl)
  · have hz : decide (σ.sd = []) = true := by rw [decide_eq_true_eq]; exact List.length_eq_zero_iff.mp ((rn_nI0 (by omega)).mp c_4)
    refine lv_iconst (v := 1) hx hb dX5_isDraftBad_7 (by decide) ?_
    refine lv_goto (tgt := 12) hx hb dX5_isDraftBad_8 (by decide) ?_
    refine rn_top (y := .int (rn_b (decide (σ.sd = []) || rn_bad []))) (by rw [hz]; rfl) ?_
    refine lv_istore_n (lv' := [(1, .int (rn_b (decide (σ.sd = []) || rn_bad []))), (0, .ref m0)]) hx hb dX5_isDraftBad_12 rfl hl (by decide) rfl (fun ls hl => ?_)
    refine lv_bipush (v := 30) hx hb dX5_isDraftBad_13 (by decide +kernel) ?_
    refine rn_top (y := .int (nI 30)) (congrArg Value.int (rfl)) ?_
    refine lv_istore_n (lv' := [(2, .int (nI 30)), (1, .int (rn_b (decide (σ.sd = []) || rn_bad []))), (0, .ref m0)]) hx hb dX5_isDraftBad_15 rfl hl (by decide) rfl (fun ls hl => ?_)
    refine lv_iload_n hx hb dX5_isDraftBad_16 rfl (lv_at hl 0 rfl) ?_
    refine lv_istore_n (lv' := [(3, .int (nI 30)), (2, .int (nI 30)), (1, .int (rn_b (decide (σ.sd = []) || rn_bad []))), (0, .ref m0)]) hx hb dX5_isDraftBad_17 rfl hl (by decide) rfl (fun ls hl => ?_)
    have loop : ∀ (n k : Nat), k + n = σ.sd.length → ∀ (ls : Array Slot), lv_has ls 5 [(3, .int (nI (30 + k))), (1, .int (rn_b (decide (σ.sd = []) || rn_bad (σ.sd.drop (σ.sd.length - k))))), (2, .int (nI 30)), (0, .ref m0)] → W p l e ({ frames := 1, cells := 0, slots := 0, locals := 23 } : Room) s m ([.ref m0] : List Value).toArray below meth c s.heap [] 0 0 (MQ below (fun _ st o t => o = .returned (some (.int (rn_b (decide (σ.sd = []) || rn_bad σ.sd)))) ∧ t.heap = st.heap) ([.ref m0] : List Value).toArray s 0 0 (fun _ => False)) (F0 m 18 ls []) := by
      intro n
      induction n with
      | zero =>
        intro k hkn ls hl
        refine lv_iload_n hx hb dX5_isDraftBad_18 rfl (lv_at hl 0 rfl) ?_
        refine lv_iload_n hx hb dX5_isDraftBad_19 rfl (lv_at hl 2 rfl) ?_
        refine lv_aload_n hx hb dX5_isDraftBad_20 rfl (lv_at hl 3 rfl) ?_
        refine rn_get (ci := 5) (v := .int (nI σ.sd.length)) (C := RX5) (T := TX5) (N := 18) hx hb hts iw_X5_isDraftBad_5 hown hG hF.1 rfl 8 (by decide) fw_X5_isDraftBad_76 rfl dX5_isDraftBad_21 ?_
        refine lv_iadd hx hb dX5_isDraftBad_24 ?_
        refine rn_top (y := .int (nI (30 + σ.sd.length))) (congrArg Value.int (nI_add _ _)) ?_
        refine lv_icmp_ge (tgt := 123) hx hb dX5_isDraftBad_25 (by decide) (fun c_25 => ?_) (fun c_25 => ?_)
        · refine lv_iload_n hx hb dX5_isDraftBad_123 rfl (lv_at hl 1 rfl) ?_
          exact rn_iret hx hb hr (rn_nb _) hlocks (by rw [show σ.sd.length - k = 0 by omega]; rfl) dX5_isDraftBad_124
        · exact absurd ((nI_leI (by omega) (by omega)).mpr (by omega)) c_25
      | succ n ih =>
        intro k hkn ls hl
        obtain ⟨v1, v2, v3⟩ := hM.2.2.2.2.1 k (by omega)
        obtain ⟨k1, k2, k3⟩ : rn_okL (rn_lat σ.sd k) := hV.2.2.2.2.1.1 _ (rn_lat_mem (by omega))
        refine lv_iload_n hx hb dX5_isDraftBad_18 rfl (lv_at hl 0 rfl) ?_
        refine lv_iload_n hx hb dX5_isDraftBad_19 rfl (lv_at hl 2 rfl) ?_
        refine lv_aload_n hx hb dX5_isDraftBad_20 rfl (lv_at hl 3 rfl) ?_
        refine rn_get (ci := 5) (v := .int (nI σ.sd.length)) (C := RX5) (T := TX5) (N := 18) hx hb hts iw_X5_isDraftBad_5 hown hG hF.1 rfl 8 (by decide) fw_X5_isDraftBad_76 rfl dX5_isDraftBad_21 ?_
        refine lv_iadd hx hb dX5_isDraftBad_24 ?_
        refine rn_top (y := .int (nI (30 + σ.sd.length))) (congrArg Value.int (nI_add _ _)) ?_
        refine lv_icmp_ge (tgt := 123) hx hb dX5_isDraftBad_25 (by decide) (fun c_25 => ?_) (fun c_25 => ?_)
        · exact absurd ((nI_leI (by omega) (by omega)).mp c_25) (by omega)
        · refine lv_iload_n hx hb dX5_isDraftBad_28 rfl (lv_at hl 2 rfl) ?_
          refine lv_istore (lv' := [(4, .int (nI 30)), (3, .int (nI (30 + k))), (1, .int (rn_b (decide (σ.sd = []) || rn_bad (σ.sd.drop (σ.sd.length - k))))), (2, .int (nI 30)), (0, .ref m0)]) hx hb dX5_isDraftBad_29 hl (by decide) rfl (fun ls hl => ?_)
          have inner : ∀ (n j : Nat), j + n = k → ∀ (ls : Array Slot), lv_has ls 5 [(4, .int (nI (30 + j))), (3, .int (nI (30 + k))), (1, .int (rn_b ((decide (σ.sd = []) || rn_bad (σ.sd.drop (σ.sd.length - k))) || (σ.sd.drop (σ.sd.length - j)).any (rn_meet (rn_lat σ.sd k))))), (2, .int (nI 30)), (0, .ref m0)] → W p l e ({ frames := 1, cells := 0, slots := 0, locals := 23 } : Room) s m ([.ref m0] : List Value).toArray below meth c s.heap [] 0 0 (MQ below (fun _ st o t => o = .returned (some (.int (rn_b (decide (σ.sd = []) || rn_bad σ.sd)))) ∧ t.heap = st.heap) ([.ref m0] : List Value).toArray s 0 0 (fun _ => False)) (F0 m 31 ls []) := by
            intro n
            induction n with
            | zero =>
              intro j hjn ls hl
              refine lv_iload hx hb dX5_isDraftBad_31 (lv_at hl 0 rfl) ?_
              refine lv_iload_n hx hb dX5_isDraftBad_33 rfl (lv_at hl 1 rfl) ?_
              refine lv_icmp_ge (tgt := 117) hx hb dX5_isDraftBad_34 (by decide) (fun c_34 => ?_) (fun c_34 => ?_)
              · refine lv_iinc (v := (nI (30 + (k + 1)))) (lv' := [(3, .int (nI (30 + (k + 1)))), (4, .int (nI (30 + j))), (1, .int (rn_b ((decide (σ.sd = []) || rn_bad (σ.sd.drop (σ.sd.length - k))) || (σ.sd.drop (σ.sd.length - j)).any (rn_meet (rn_lat σ.sd k))))), (2, .int (nI 30)), (0, .ref m0)]) hx hb dX5_isDraftBad_117 hl (k := 1) rfl (nI_1 (30 + k)) (by decide) rfl (fun ls hl => ?_)
                refine lv_goto (tgt := 18) hx hb dX5_isDraftBad_120 (by decide) ?_
                exact ih (k + 1) (by omega) ls (by rw [rn_lat_drop _ (by omega)]; simp only [rn_bad]; rw [show (decide (σ.sd = []) || ((σ.sd.drop (σ.sd.length - k)).any (rn_meet (rn_lat σ.sd k)) || rn_bad (σ.sd.drop (σ.sd.length - k)))) = ((decide (σ.sd = []) || rn_bad (σ.sd.drop (σ.sd.length - k))) || (σ.sd.drop (σ.sd.length - k)).any (rn_meet (rn_lat σ.sd k))) by rw [Bool.or_comm (List.any _ _), Bool.or_assoc]]; rw [show j = k by omega] at hl; exact lv_sub hl [0, 2, 3, 4] rfl)
              · exact absurd ((nI_leI (by omega) (by omega)).mpr (by omega)) c_34
            | succ n ih2 =>
              intro j hjn ls hl
              obtain ⟨w1, w2, w3⟩ := hM.2.2.2.2.1 j (by omega)
              obtain ⟨j1, j2, j3⟩ : rn_okL (rn_lat σ.sd j) := hV.2.2.2.2.1.1 _ (rn_lat_mem (by omega))
              refine lv_iload hx hb dX5_isDraftBad_31 (lv_at hl 0 rfl) ?_
              refine lv_iload_n hx hb dX5_isDraftBad_33 rfl (lv_at hl 1 rfl) ?_
              refine lv_icmp_ge (tgt := 117) hx hb dX5_isDraftBad_34 (by decide) (fun c_34 => ?_) (fun c_34 => ?_)
              · exact absurd ((nI_leI (by omega) (by omega)).mp c_34) (by omega)
              · refine lv_iload_n hx hb dX5_isDraftBad_37 rfl (lv_at hl 2 rfl) ?_
                refine lv_if_ne (tgt := 105) hx hb dX5_isDraftBad_38 (by decide) (fun c_38 => ?_) (fun c_38 => ?_)
                · rw [rn_b1] at c_38
                  refine lv_iconst (v := 1) hx hb dX5_isDraftBad_105 (by decide) ?_
                  refine lv_goto (tgt := 110) hx hb dX5_isDraftBad_106 (by decide) ?_
                  have hmt : (rn_meet (rn_lat σ.sd k) (rn_lat σ.sd j) || ((decide (σ.sd = []) || rn_bad (σ.sd.drop (σ.sd.length - k))) || (σ.sd.drop (σ.sd.length - j)).any (rn_meet (rn_lat σ.sd k)))) = true := by rw [c_38, Bool.or_true]
                  refine rn_top (y := .int (rn_b true)) rfl ?_
                  refine lv_istore_n (lv' := [(1, .int (rn_b true)), (4, .int (nI (30 + j))), (3, .int (nI (30 + k))), (2, .int (nI 30)), (0, .ref m0)]) hx hb dX5_isDraftBad_110 rfl hl (by decide) rfl (fun ls hl => ?_)
                  refine lv_iinc (v := (nI (30 + (j + 1)))) (lv' := [(4, .int (nI (30 + (j + 1)))), (1, .int (rn_b true)), (3, .int (nI (30 + k))), (2, .int (nI 30)), (0, .ref m0)]) hx hb dX5_isDraftBad_111 hl (k := 1) rfl (nI_1 (30 + j)) (by decide) rfl (fun ls hl => ?_)
                  refine lv_goto (tgt := 31) hx hb dX5_isDraftBad_114 (by decide) ?_
                  exact ih2 (j + 1) (by omega) ls (by rw [rn_lat_drop _ (by omega), List.any_cons, Bool.or_left_comm, hmt]; exact lv_sub hl [0, 2, 1, 3, 4] rfl)
                · rw [rn_b0] at c_38
                  refine lv_aload_n hx hb dX5_isDraftBad_41 rfl (lv_at hl 4 rfl) ?_
                  refine rn_get (ci := 5) (v := .ref (ma 3)) (C := RX5) (T := TX5) (N := 18) hx hb hts iw_X5_isDraftBad_5 hown hG hF.1 rfl 5 (by decide) fw_X5_isDraftBad_23 rfl dX5_isDraftBad_42 ?_
                  refine lv_iload_n hx hb dX5_isDraftBad_45 rfl (lv_at hl 1 rfl) ?_
                  refine rn_iald (j := (30 + k)) hx hb hG (show va_at D vwCl (ma 3, .inl (cI, 33, .inl (V 3))) _ from hF.2.1 3 (by decide)) 0 rfl (by omega) (by decide) dX5_isDraftBad_46 ?_
                  refine rn_top (y := .int (nI (rn_lat σ.sd k).1)) (congrArg Value.int v1) ?_
                  refine lv_aload_n hx hb dX5_isDraftBad_47 rfl (lv_at hl 4 rfl) ?_
                  refine rn_get (ci := 5) (v := .ref (ma 5)) (C := RX5) (T := TX5) (N := 18) hx hb hts iw_X5_isDraftBad_5 hown hG hF.1 rfl 7 (by decide) fw_X5_isDraftBad_29 rfl dX5_isDraftBad_48 ?_
                  refine lv_iload_n hx hb dX5_isDraftBad_51 rfl (lv_at hl 1 rfl) ?_
                  refine rn_iald (j := (30 + k)) hx hb hG (show va_at D vwCl (ma 5, .inl (cI, 33, .inl (V 5))) _ from hF.2.1 5 (by decide)) 0 rfl (by omega) (by decide) dX5_isDraftBad_52 ?_
                  refine rn_top (y := .int (nI (rn_lat σ.sd k).2.2)) (congrArg Value.int v3) ?_
                  refine lv_aload_n hx hb dX5_isDraftBad_53 rfl (lv_at hl 4 rfl) ?_
                  refine rn_get (ci := 5) (v := .ref (ma 3)) (C := RX5) (T := TX5) (N := 18) hx hb hts iw_X5_isDraftBad_5 hown hG hF.1 rfl 5 (by decide) fw_X5_isDraftBad_23 rfl dX5_isDraftBad_54 ?_
                  refine lv_iload hx hb dX5_isDraftBad_57 (lv_at hl 0 rfl) ?_
                  refine rn_iald (j := (30 + j)) hx hb hG (show va_at D vwCl (ma 3, .inl (cI, 33, .inl (V 3))) _ from hF.2.1 3 (by decide)) 0 rfl (by omega) (by decide) dX5_isDraftBad_59 ?_
                  refine rn_top (y := .int (nI (rn_lat σ.sd j).1)) (congrArg Value.int w1) ?_
                  refine lv_aload_n hx hb dX5_isDraftBad_60 rfl (lv_at hl 4 rfl) ?_
                  refine rn_get (ci := 5) (v := .ref (ma 5)) (C := RX5) (T := TX5) (N := 18) hx hb hts iw_X5_isDraftBad_5 hown hG hF.1 rfl 7 (by decide) fw_X5_isDraftBad_29 rfl dX5_isDraftBad_61 ?_
                  refine lv_iload hx hb dX5_isDraftBad_64 (lv_at hl 0 rfl) ?_
                  refine rn_iald (j := (30 + j)) hx hb hG (show va_at D vwCl (ma 5, .inl (cI, 33, .inl (V 5))) _ from hF.2.1 5 (by decide)) 0 rfl (by omega) (by decide) dX5_isDraftBad_66 ?_
                  refine rn_top (y := .int (nI (rn_lat σ.sd j).2.2)) (congrArg Value.int w3) ?_
                  refine rn_cS (As := [.int (nI (rn_lat σ.sd k).1), .int (nI (rn_lat σ.sd k).2.2), .int (nI (rn_lat σ.sd j).1), .int (nI (rn_lat σ.sd j).2.2)]) (rest := []) 4 hx hb hml hown hts hG (m_meet l (a := (rn_lat σ.sd k).1) (b := (rn_lat σ.sd k).2.2) (c9 := (rn_lat σ.sd j).1) (d9 := (rn_lat σ.sd j).2.2) (by omega)) gX5_isDraftBad_X5_meet rfl ⟨rfl, rfl⟩ (by decide +kernel) ⟨Nat.le_of_ble_eq_true rfl, Nat.le_of_ble_eq_true rfl⟩ trivial rfl hl.1 rfl (Nat.le_of_ble_eq_true rfl) ⟨Nat.zero_le _, Nat.zero_le _⟩ dX5_isDraftBad_67 ?_
                  refine W.eq (g2 := F0 m 70 ls [.int (rn_b (decide ((rn_lat σ.sd k).1 < (rn_lat σ.sd j).1 + (rn_lat σ.sd j).2.2 ∧ (rn_lat σ.sd j).1 < (rn_lat σ.sd k).1 + (rn_lat σ.sd k).2.2)))]) rfl ?_
                  refine lv_if_ne (tgt := 105) hx hb dX5_isDraftBad_70 (by decide) (fun c_70 => ?_) (fun c_70 => ?_)
                  · rw [rn_b1, decide_eq_true_eq] at c_70
                    refine lv_iconst (v := 1) hx hb dX5_isDraftBad_105 (by decide) ?_
                    refine lv_goto (tgt := 110) hx hb dX5_isDraftBad_106 (by decide) ?_
                    have hmt : (rn_meet (rn_lat σ.sd k) (rn_lat σ.sd j) || ((decide (σ.sd = []) || rn_bad (σ.sd.drop (σ.sd.length - k))) || (σ.sd.drop (σ.sd.length - j)).any (rn_meet (rn_lat σ.sd k)))) = true := by rw [show rn_meet (rn_lat σ.sd k) (rn_lat σ.sd j) = true from decide_eq_true (Or.inl c_70), Bool.true_or]
                    refine rn_top (y := .int (rn_b true)) rfl ?_
                    refine lv_istore_n (lv' := [(1, .int (rn_b true)), (4, .int (nI (30 + j))), (3, .int (nI (30 + k))), (2, .int (nI 30)), (0, .ref m0)]) hx hb dX5_isDraftBad_110 rfl hl (by decide) rfl (fun ls hl => ?_)
                    refine lv_iinc (v := (nI (30 + (j + 1)))) (lv' := [(4, .int (nI (30 + (j + 1)))), (1, .int (rn_b true)), (3, .int (nI (30 + k))), (2, .int (nI 30)), (0, .ref m0)]) hx hb dX5_isDraftBad_111 hl (k := 1) rfl (nI_1 (30 + j)) (by decide) rfl (fun ls hl => ?_)
                    refine lv_goto (tgt := 31) hx hb dX5_isDraftBad_114 (by decide) ?_
                    exact ih2 (j + 1) (by omega) ls (by rw [rn_lat_drop _ (by omega), List.any_cons, Bool.or_left_comm, hmt]; exact lv_sub hl [0, 2, 1, 3, 4] rfl)
                  · rw [rn_b0, decide_eq_false_iff_not] at c_70
                    refine lv_aload_n hx hb dX5_isDraftBad_73 rfl (lv_at hl 4 rfl) ?_
                    refine rn_get (ci := 5) (v := .ref (ma 4)) (C := RX5) (T := TX5) (N := 18) hx hb hts iw_X5_isDraftBad_5 hown hG hF.1 rfl 6 (by decide) fw_X5_isDraftBad_26 rfl dX5_isDraftBad_74 ?_
                    refine lv_iload_n hx hb dX5_isDraftBad_77 rfl (lv_at hl 1 rfl) ?_
                    refine rn_iald (j := (30 + k)) hx hb hG (show va_at D vwCl (ma 4, .inl (cI, 33, .inl (V 4))) _ from hF.2.1 4 (by decide)) 0 rfl (by omega) (by decide) dX5_isDraftBad_78 ?_
                    refine rn_top (y := .int (nI (rn_lat σ.sd k).2.1)) (congrArg Value.int v2) ?_
                    refine lv_aload_n hx hb dX5_isDraftBad_79 rfl (lv_at hl 4 rfl) ?_
                    refine rn_get (ci := 5) (v := .ref (ma 5)) (C := RX5) (T := TX5) (N := 18) hx hb hts iw_X5_isDraftBad_5 hown hG hF.1 rfl 7 (by decide) fw_X5_isDraftBad_29 rfl dX5_isDraftBad_80 ?_
                    refine lv_iload_n hx hb dX5_isDraftBad_83 rfl (lv_at hl 1 rfl) ?_
                    refine rn_iald (j := (30 + k)) hx hb hG (show va_at D vwCl (ma 5, .inl (cI, 33, .inl (V 5))) _ from hF.2.1 5 (by decide)) 0 rfl (by omega) (by decide) dX5_isDraftBad_84 ?_
                    refine rn_top (y := .int (nI (rn_lat σ.sd k).2.2)) (congrArg Value.int v3) ?_
                    refine lv_aload_n hx hb dX5_isDraftBad_85 rfl (lv_at hl 4 rfl) ?_
                    refine rn_get (ci := 5) (v := .ref (ma 4)) (C := RX5) (T := TX5) (N := 18) hx hb hts iw_X5_isDraftBad_5 hown hG hF.1 rfl 6 (by decide) fw_X5_isDraftBad_26 rfl dX5_isDraftBad_86 ?_
                    refine lv_iload hx hb dX5_isDraftBad_89 (lv_at hl 0 rfl) ?_
                    refine rn_iald (j := (30 + j)) hx hb hG (show va_at D vwCl (ma 4, .inl (cI, 33, .inl (V 4))) _ from hF.2.1 4 (by decide)) 0 rfl (by omega) (by decide) dX5_isDraftBad_91 ?_
                    refine rn_top (y := .int (nI (rn_lat σ.sd j).2.1)) (congrArg Value.int w2) ?_
                    refine lv_aload_n hx hb dX5_isDraftBad_92 rfl (lv_at hl 4 rfl) ?_
                    refine rn_get (ci := 5) (v := .ref (ma 5)) (C := RX5) (T := TX5) (N := 18) hx hb hts iw_X5_isDraftBad_5 hown hG hF.1 rfl 7 (by decide) fw_X5_isDraftBad_29 rfl dX5_isDraftBad_93 ?_
                    refine lv_iload hx hb dX5_isDraftBad_96 (lv_at hl 0 rfl) ?_
                    refine rn_iald (j := (30 + j)) hx hb hG (show va_at D vwCl (ma 5, .inl (cI, 33, .inl (V 5))) _ from hF.2.1 5 (by decide)) 0 rfl (by omega) (by decide) dX5_isDraftBad_98 ?_
                    refine rn_top (y := .int (nI (rn_lat σ.sd j).2.2)) (congrArg Value.int w3) ?_
                    refine rn_cS (As := [.int (nI (rn_lat σ.sd k).2.1), .int (nI (rn_lat σ.sd k).2.2), .int (nI (rn_lat σ.sd j).2.1), .int (nI (rn_lat σ.sd j).2.2)]) (rest := []) 4 hx hb hml hown hts hG (m_meet l (a := (rn_lat σ.sd k).2.1) (b := (rn_lat σ.sd k).2.2) (c9 := (rn_lat σ.sd j).2.1) (d9 := (rn_lat σ.sd j).2.2) (by omega)) gX5_isDraftBad_X5_meet rfl ⟨rfl, rfl⟩ (by decide +kernel) ⟨Nat.le_of_ble_eq_true rfl, Nat.le_of_ble_eq_true rfl⟩ trivial rfl hl.1 rfl (Nat.le_of_ble_eq_true rfl) ⟨Nat.zero_le _, Nat.zero_le _⟩ dX5_isDraftBad_99 ?_
                    refine W.eq (g2 := F0 m 102 ls [.int (rn_b (decide ((rn_lat σ.sd k).2.1 < (rn_lat σ.sd j).2.1 + (rn_lat σ.sd j).2.2 ∧ (rn_lat σ.sd j).2.1 < (rn_lat σ.sd k).2.1 + (rn_lat σ.sd k).2.2)))]) rfl ?_
                    refine lv_if_eq (tgt := 109) hx hb dX5_isDraftBad_102 (by decide) (fun c_102 => ?_) (fun c_102 => ?_)
                    · rw [rn_b0, decide_eq_false_iff_not] at c_102
                      refine lv_iconst (v := 0) hx hb dX5_isDraftBad_109 (by decide) ?_
                      have hmt : (rn_meet (rn_lat σ.sd k) (rn_lat σ.sd j) || ((decide (σ.sd = []) || rn_bad (σ.sd.drop (σ.sd.length - k))) || (σ.sd.drop (σ.sd.length - j)).any (rn_meet (rn_lat σ.sd k)))) = false := by rw [c_38, show rn_meet (rn_lat σ.sd k) (rn_lat σ.sd j) = false from decide_eq_false (fun h => h.elim c_70 c_102)]; rfl
                      refine rn_top (y := .int (rn_b false)) rfl ?_
                      refine lv_istore_n (lv' := [(1, .int (rn_b false)), (4, .int (nI (30 + j))), (3, .int (nI (30 + k))), (2, .int (nI 30)), (0, .ref m0)]) hx hb dX5_isDraftBad_110 rfl hl (by decide) rfl (fun ls hl => ?_)
                      refine lv_iinc (v := (nI (30 + (j + 1)))) (lv' := [(4, .int (nI (30 + (j + 1)))), (1, .int (rn_b false)), (3, .int (nI (30 + k))), (2, .int (nI 30)), (0, .ref m0)]) hx hb dX5_isDraftBad_111 hl (k := 1) rfl (nI_1 (30 + j)) (by decide) rfl (fun ls hl => ?_)
                      refine lv_goto (tgt := 31) hx hb dX5_isDraftBad_114 (by decide) ?_
                      exact ih2 (j + 1) (by omega) ls (by rw [rn_lat_drop _ (by omega), List.any_cons, Bool.or_left_comm, hmt]; exact lv_sub hl [0, 2, 1, 3, 4] rfl)
                    · rw [rn_b1, decide_eq_true_eq] at c_102
                      refine lv_iconst (v := 1) hx hb dX5_isDraftBad_105 (by decide) ?_
                      refine lv_goto (tgt := 110) hx hb dX5_isDraftBad_106 (by decide) ?_
                      have hmt : (rn_meet (rn_lat σ.sd k) (rn_lat σ.sd j) || ((decide (σ.sd = []) || rn_bad (σ.sd.drop (σ.sd.length - k))) || (σ.sd.drop (σ.sd.length - j)).any (rn_meet (rn_lat σ.sd k)))) = true := by rw [show rn_meet (rn_lat σ.sd k) (rn_lat σ.sd j) = true from decide_eq_true (Or.inr c_102), Bool.true_or]
                      refine rn_top (y := .int (rn_b true)) rfl ?_
                      refine lv_istore_n (lv' := [(1, .int (rn_b true)), (4, .int (nI (30 + j))), (3, .int (nI (30 + k))), (2, .int (nI 30)), (0, .ref m0)]) hx hb dX5_isDraftBad_110 rfl hl (by decide) rfl (fun ls hl => ?_)
                      refine lv_iinc (v := (nI (30 + (j + 1)))) (lv' := [(4, .int (nI (30 + (j + 1)))), (1, .int (rn_b true)), (3, .int (nI (30 + k))), (2, .int (nI 30)), (0, .ref m0)]) hx hb dX5_isDraftBad_111 hl (k := 1) rfl (nI_1 (30 + j)) (by decide) rfl (fun ls hl => ?_)
                      refine lv_goto (tgt := 31) hx hb dX5_isDraftBad_114 (by decide) ?_
                      exact ih2 (j + 1) (by omega) ls (by rw [rn_lat_drop _ (by omega), List.any_cons, Bool.or_left_comm, hmt]; exact lv_sub hl [0, 2, 1, 3, 4] rfl)
          exact inner k 0 (Nat.zero_add _) ls (by rw [Nat.sub_zero, List.drop_length, List.any_nil, Bool.or_false]; exact lv_sub hl [0, 1, 2, 3, 4] rfl)
    exact loop _ 0 (Nat.zero_add _) ls (by rw [Nat.sub_zero, List.drop_length]; exact lv_sub hl [0, 2, 1, 3] rfl)
