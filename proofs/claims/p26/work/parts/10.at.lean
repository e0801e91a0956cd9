theorem xh_61 : ∀ w ∈ (vx_atS RX4 61 "java/lang/IllegalStateException" rn_nm).filter (fun w => !goodWord w), w ∈ rn_xw "java/lang/IllegalStateException" := by decide +kernel
theorem xg_57_61 : ∀ w ∈ Cond.classLink RX4 57 "java/lang/IllegalStateException" :: Cond.initialized "java/lang/IllegalStateException" :: vx_atS RX4 61 "java/lang/IllegalStateException" rn_nm, vx_ot w = true := by decide +kernel
theorem xh_84 : ∀ w ∈ (vx_atS RX4 84 "java/lang/IllegalArgumentException" rn_nm).filter (fun w => !goodWord w), w ∈ rn_xw "java/lang/IllegalArgumentException" := by decide +kernel
theorem xg_80_84 : ∀ w ∈ Cond.classLink RX4 80 "java/lang/IllegalArgumentException" :: Cond.initialized "java/lang/IllegalArgumentException" :: vx_atS RX4 84 "java/lang/IllegalArgumentException" rn_nm, vx_ot w = true := by decide +kernel
theorem xh_107 : ∀ w ∈ (vx_atS RX4 107 "java/lang/IndexOutOfBoundsException" rn_nm).filter (fun w => !goodWord w), w ∈ rn_xw "java/lang/IndexOutOfBoundsException" := by decide +kernel
theorem xg_103_107 : ∀ w ∈ Cond.classLink RX4 103 "java/lang/IndexOutOfBoundsException" :: Cond.initialized "java/lang/IndexOutOfBoundsException" :: vx_atS RX4 107 "java/lang/IndexOutOfBoundsException" rn_nm, vx_ot w = true := by decide +kernel
theorem xn_X4_roomAt_103 : ∀ w ∈ (vx_atS RX4 107 "java/lang/IndexOutOfBoundsException" rn_nm).filter goodWord, w ∈ wsX4_roomAt := fun _ h => List.mem_cons_of_mem _ (List.mem_append_right _ h)
theorem xk_X4_roomAt_103 : Cond.classLink RX4 103 "java/lang/IndexOutOfBoundsException" ∈ wsX4_roomAt := by decide +kernel
theorem xi_X4_roomAt_103 : Cond.initialized "java/lang/IndexOutOfBoundsException" ∈ wsX4_roomAt := by decide +kernel
theorem xn_X4_processAt_103 : ∀ w ∈ (vx_atS RX4 107 "java/lang/IndexOutOfBoundsException" rn_nm).filter goodWord, w ∈ wsX4_processAt := fun _ h => List.mem_cons_of_mem _ (List.mem_append_right _ h)
theorem xk_X4_processAt_103 : Cond.classLink RX4 103 "java/lang/IndexOutOfBoundsException" ∈ wsX4_processAt := by decide +kernel
theorem xi_X4_processAt_103 : Cond.initialized "java/lang/IndexOutOfBoundsException" ∈ wsX4_processAt := by decide +kernel
theorem xn_X4_fileAt_103 : ∀ w ∈ (vx_atS RX4 107 "java/lang/IndexOutOfBoundsException" rn_nm).filter goodWord, w ∈ wsX4_fileAt := fun _ h => List.mem_cons_of_mem _ (List.mem_append_right _ h)
theorem xk_X4_fileAt_103 : Cond.classLink RX4 103 "java/lang/IndexOutOfBoundsException" ∈ wsX4_fileAt := by decide +kernel
theorem xi_X4_fileAt_103 : Cond.initialized "java/lang/IndexOutOfBoundsException" ∈ wsX4_fileAt := by decide +kernel
theorem xn_X4_requireNumber_80 : ∀ w ∈ (vx_atS RX4 84 "java/lang/IllegalArgumentException" rn_nm).filter goodWord, w ∈ wsX4_requireNumber := fun _ h => List.mem_cons_of_mem _ (List.mem_append_right _ h)
theorem xk_X4_requireNumber_80 : Cond.classLink RX4 80 "java/lang/IllegalArgumentException" ∈ wsX4_requireNumber := by decide +kernel
theorem xi_X4_requireNumber_80 : Cond.initialized "java/lang/IllegalArgumentException" ∈ wsX4_requireNumber := by decide +kernel
theorem xn_X4_writeMap_103 : ∀ w ∈ (vx_atS RX4 107 "java/lang/IndexOutOfBoundsException" rn_nm).filter goodWord, w ∈ wsX4_writeMap := fun _ h => List.mem_cons_of_mem _ (List.mem_append_right _ h)
theorem xk_X4_writeMap_103 : Cond.classLink RX4 103 "java/lang/IndexOutOfBoundsException" ∈ wsX4_writeMap := by decide +kernel
theorem xi_X4_writeMap_103 : Cond.initialized "java/lang/IndexOutOfBoundsException" ∈ wsX4_writeMap := by decide +kernel
theorem xn_X4_drop_80 : ∀ w ∈ (vx_atS RX4 84 "java/lang/IllegalArgumentException" rn_nm).filter goodWord, w ∈ wsX4_drop := fun _ h => List.mem_cons_of_mem _ (List.mem_append_left _ (List.mem_append_right _ h))
theorem xk_X4_drop_80 : Cond.classLink RX4 80 "java/lang/IllegalArgumentException" ∈ wsX4_drop := by decide +kernel
theorem xi_X4_drop_80 : Cond.initialized "java/lang/IllegalArgumentException" ∈ wsX4_drop := by decide +kernel
theorem xn_X4_makeFile_80 : ∀ w ∈ (vx_atS RX4 84 "java/lang/IllegalArgumentException" rn_nm).filter goodWord, w ∈ wsX4_makeFile := fun _ h => List.mem_cons_of_mem _ (List.mem_append_left _ (List.mem_append_left _ (List.mem_append_right _ h)))
theorem xk_X4_makeFile_80 : Cond.classLink RX4 80 "java/lang/IllegalArgumentException" ∈ wsX4_makeFile := by decide +kernel
theorem xi_X4_makeFile_80 : Cond.initialized "java/lang/IllegalArgumentException" ∈ wsX4_makeFile := by decide +kernel
theorem xn_X4_makeRoom_57 : ∀ w ∈ (vx_atS RX4 61 "java/lang/IllegalStateException" rn_nm).filter goodWord, w ∈ wsX4_makeRoom := fun _ h => List.mem_cons_of_mem _ (List.mem_append_left _ (List.mem_append_right _ h))
theorem xk_X4_makeRoom_57 : Cond.classLink RX4 57 "java/lang/IllegalStateException" ∈ wsX4_makeRoom := by decide +kernel
theorem xi_X4_makeRoom_57 : Cond.initialized "java/lang/IllegalStateException" ∈ wsX4_makeRoom := by decide +kernel
theorem xn_X4_fork_57 : ∀ w ∈ (vx_atS RX4 61 "java/lang/IllegalStateException" rn_nm).filter goodWord, w ∈ wsX4_fork := fun _ h => List.mem_cons_of_mem _ (List.mem_append_left _ (List.mem_append_right _ h))
theorem xk_X4_fork_57 : Cond.classLink RX4 57 "java/lang/IllegalStateException" ∈ wsX4_fork := by decide +kernel
theorem xi_X4_fork_57 : Cond.initialized "java/lang/IllegalStateException" ∈ wsX4_fork := by decide +kernel
theorem xn_X4_makeFile_57 : ∀ w ∈ (vx_atS RX4 61 "java/lang/IllegalStateException" rn_nm).filter goodWord, w ∈ wsX4_makeFile := fun _ h => List.mem_cons_of_mem _ (List.mem_append_left _ (List.mem_append_right _ h))
theorem xk_X4_makeFile_57 : Cond.classLink RX4 57 "java/lang/IllegalStateException" ∈ wsX4_makeFile := by decide +kernel
theorem xi_X4_makeFile_57 : Cond.initialized "java/lang/IllegalStateException" ∈ wsX4_makeFile := by decide +kernel
theorem xn_X4_line_80 : ∀ w ∈ (vx_atS RX4 84 "java/lang/IllegalArgumentException" rn_nm).filter goodWord, w ∈ wsX4_line := fun _ h => List.mem_cons_of_mem _ (List.mem_append_left _ (List.mem_append_right _ h))
theorem xk_X4_line_80 : Cond.classLink RX4 80 "java/lang/IllegalArgumentException" ∈ wsX4_line := by decide +kernel
theorem xi_X4_line_80 : Cond.initialized "java/lang/IllegalArgumentException" ∈ wsX4_line := by decide +kernel
theorem xn_X4_line_57 : ∀ w ∈ (vx_atS RX4 61 "java/lang/IllegalStateException" rn_nm).filter goodWord, w ∈ wsX4_line := fun _ h => List.mem_cons_of_mem _ (List.mem_append_right _ h)
theorem xk_X4_line_57 : Cond.classLink RX4 57 "java/lang/IllegalStateException" ∈ wsX4_line := by decide +kernel
theorem xi_X4_line_57 : Cond.initialized "java/lang/IllegalStateException" ∈ wsX4_line := by decide +kernel
set_option maxHeartbeats 4000000 in
set_option maxRecDepth 100000 in
theorem c_anyMeet (l : Launch) {D : va_G} {tys : List (ClassId × FieldType)} {f : rn_T} {Ls : List rn_Ln} {a0 : Nat} (hch0 : rn_ch f Ls (some a0)) (hok0 : ∀ q ∈ Ls, rn_okL q) : rn_R l yX4_anyMeet wsX4_anyMeet ({ frames := 2, cells := 0, slots := 0, locals := 44 } : Room) D tys (rn_S D f) [.ref a0] (some (.int (rn_b (rn_bad Ls)))) := by
  refine rn_R.ofW (cc := cX4_anyMeet) (maxL := 3) (ret := (some .boolean)) (by decide) rfl (Nat.le_of_ble_eq_true rfl) (fun p e s m below meth c ls hx hb hr hml hts hown hlocks hF hG hl => ?_)
  have hl : lv_has ls 3 [(0, .ref a0)] := hl
  refine lv_aload_n hx hb dX4_anyMeet_0 rfl (lv_at hl 0 rfl) ?_
  refine lv_astore_n (lv' := [(1, .ref a0), (0, .ref a0)]) hx hb dX4_anyMeet_1 rfl hl (by decide) rfl (fun ls hl => ?_)
  have loop : ∀ (qs : List rn_Ln) (z : Option Nat), rn_ch f qs z → (∀ q ∈ qs, rn_okL q) → rn_bad qs = rn_bad Ls → ∀ (ls : Array Slot), lv_has ls 3 [(1, va_rf z), (0, .ref a0)] → W p l e ({ frames := 2, cells := 0, slots := 0, locals := 44 } : Room) s m ([.ref a0] : List Value).toArray below meth c s.heap [] 0 0 (MQ below (fun _ st o t => o = .returned (some (.int (rn_b (rn_bad Ls)))) ∧ t.heap = st.heap) ([.ref a0] : List Value).toArray s 0 0 (fun _ => False)) (F0 m 2 ls []) := by
    intro qs
    induction qs with
    | nil =>
      intro z hch hok hv ls hl
      have hz : z = none := hch
      subst hz
      have hl : lv_has ls 3 [(1, .null), (0, .ref a0)] := hl
      refine lv_aload_nN hx hb dX4_anyMeet_2 rfl (lv_at hl 0 rfl) ?_
      refine lv_ifnullN (tgt := 41) hx hb dX4_anyMeet_3 (by decide) ?_
      refine lv_iconst (v := 0) hx hb dX4_anyMeet_41 (by decide) ?_
      exact rn_iret hx hb hr rfl hlocks (by rw [← hv]; rfl) dX4_anyMeet_42
    | cons q qs ih =>
      intro z hch hok hv ls hl
      obtain ⟨a, z1, rfl, ha, hch⟩ := hch
      have hok1 := hok q List.mem_cons_self
      have hok2 : ∀ q ∈ qs, rn_okL q := fun z hz => hok z (List.mem_cons_of_mem _ hz)
      have hl : lv_has ls 3 [(1, .ref a), (0, .ref a0)] := hl
      refine lv_aload_n hx hb dX4_anyMeet_2 rfl (lv_at hl 0 rfl) ?_
      refine lv_ifnull hx hb dX4_anyMeet_3 ?_
      refine lv_aload_n hx hb dX4_anyMeet_6 rfl (lv_at hl 0 rfl) ?_
      refine rn_get (ci := 2) (v := va_rf z1) (C := RX2) (T := TX2) (N := 4) hx hb hts iw_X4_anyMeet_2 hown hG (hF _ _ ha) rfl 3 (by decide) fw_X4_anyMeet_188 rfl dX4_anyMeet_7 ?_
      refine rn_astore_n (lv' := [(2, va_rf z1), (1, .ref a), (0, .ref a0)]) hx hb dX4_anyMeet_10 rfl hl (by decide) rfl (fun ls hl => ?_)
      have inner : ∀ (rs : List rn_Ln) (z2 : Option Nat), rn_ch f rs z2 → (∀ q ∈ rs, rn_okL q) → (rs.any (rn_meet q) || rn_bad qs) = rn_bad Ls → ∀ (ls : Array Slot), lv_has ls 3 [(2, va_rf z2), (1, .ref a), (0, .ref a0)] → W p l e ({ frames := 2, cells := 0, slots := 0, locals := 44 } : Room) s m ([.ref a0] : List Value).toArray below meth c s.heap [] 0 0 (MQ below (fun _ st o t => o = .returned (some (.int (rn_b (rn_bad Ls)))) ∧ t.heap = st.heap) ([.ref a0] : List Value).toArray s 0 0 (fun _ => False)) (F0 m 11 ls []) := by
        intro rs
        induction rs with
        | nil =>
          intro z2 hch3 hok3 hin ls hl
          have hz : z2 = none := hch3
          subst hz
          have hl : lv_has ls 3 [(2, .null), (1, .ref a), (0, .ref a0)] := hl
          refine lv_aload_nN hx hb dX4_anyMeet_11 rfl (lv_at hl 0 rfl) ?_
          refine lv_ifnullN (tgt := 33) hx hb dX4_anyMeet_12 (by decide) ?_
          refine lv_aload_n hx hb dX4_anyMeet_33 rfl (lv_at hl 1 rfl) ?_
          refine rn_get (ci := 2) (v := va_rf z1) (C := RX2) (T := TX2) (N := 4) hx hb hts iw_X4_anyMeet_2 hown hG (hF _ _ ha) rfl 3 (by decide) fw_X4_anyMeet_188 rfl dX4_anyMeet_34 ?_
          refine rn_astore_n (lv' := [(1, va_rf z1), (2, .null), (0, .ref a0)]) hx hb dX4_anyMeet_37 rfl hl (by decide) rfl (fun ls hl => ?_)
          refine lv_goto (tgt := 2) hx hb dX4_anyMeet_38 (by decide) ?_
          exact ih _ hch hok2 (by simpa using hin) ls (lv_sub hl [0, 2] rfl)
        | cons q2 rs ih2 =>
          intro z2 hch3 hok3 hin ls hl
          obtain ⟨b, z3, rfl, hb2, hch3⟩ := hch3
          have hok5 := hok3 q2 List.mem_cons_self
          have hok4 : ∀ q ∈ rs, rn_okL q := fun z hz => hok3 z (List.mem_cons_of_mem _ hz)
          have hl : lv_has ls 3 [(2, .ref b), (1, .ref a), (0, .ref a0)] := hl
          refine lv_aload_n hx hb dX4_anyMeet_11 rfl (lv_at hl 0 rfl) ?_
          refine lv_ifnull hx hb dX4_anyMeet_12 ?_
          refine lv_aload_n hx hb dX4_anyMeet_15 rfl (lv_at hl 1 rfl) ?_
          refine lv_aload_n hx hb dX4_anyMeet_16 rfl (lv_at hl 0 rfl) ?_
          refine rn_cV (As := [.ref b]) (rest := []) 1 hx hb hml hown hts hG (c_meets l hok1 hok5 ha hb2) gX4_anyMeet_X2_meets rfl ⟨rfl, rfl⟩ (by decide +kernel) ⟨Nat.le_of_ble_eq_true rfl, Nat.le_of_ble_eq_true rfl⟩ hF (hF _ _ ha) rfl rfl hl.1 rfl (Nat.le_of_ble_eq_true rfl) ⟨Nat.zero_le _, Nat.zero_le _⟩ dX4_anyMeet_17 ?_
          refine W.eq (g2 := F0 m 20 ls [.int (rn_b (rn_meet q q2))]) rfl ?_
          refine lv_if_eq (tgt := 25) hx hb dX4_anyMeet_20 (by decide) (fun c_20 => ?_) (fun c_20 => ?_)
          · rw [rn_b0] at c_20; have hmt := c_20
            refine lv_aload_n hx hb dX4_anyMeet_25 rfl (lv_at hl 0 rfl) ?_
            refine rn_get (ci := 2) (v := va_rf z3) (C := RX2) (T := TX2) (N := 4) hx hb hts iw_X4_anyMeet_2 hown hG (hF _ _ hb2) rfl 3 (by decide) fw_X4_anyMeet_188 rfl dX4_anyMeet_26 ?_
            refine rn_astore_n (lv' := [(2, va_rf z3), (1, .ref a), (0, .ref a0)]) hx hb dX4_anyMeet_29 rfl hl (by decide) rfl (fun ls hl => ?_)
            refine lv_goto (tgt := 11) hx hb dX4_anyMeet_30 (by decide) ?_
            exact ih2 _ hch3 hok4 (by rw [← hin]; simp [hmt]) ls (lv_sub hl [0, 1, 2] rfl)
          · rw [rn_b1] at c_20
            refine lv_iconst (v := 1) hx hb dX4_anyMeet_23 (by decide) ?_
            exact rn_iret hx hb hr rfl hlocks (by rw [← hin]; simp [c_20, rn_b]) dX4_anyMeet_24
      exact inner qs z1 hch hok2 hv ls (lv_sub hl [0, 1, 2] rfl)
  exact loop Ls (some a0) hch0 hok0 rfl ls (lv_sub hl [0, 1] rfl)

theorem rn_lost_cons (σ : rn_St) (r : Nat) (q : rn_Ln) (qs : List rn_Ln) : rn_lost σ r (q :: qs) = ((List.range q.2.2).any (fun k => (rn_lead σ r (q.2.1 + k)).isNone) || rn_lost σ r qs) := by simp [rn_lost]

set_option maxHeartbeats 4000000 in
set_option maxRecDepth 100000 in
theorem c_allLeadOut (l : Launch) {D : va_G} {tys : List (ClassId × FieldType)} {f : rn_T} {σ : rn_St} {ra : Nat → Nat} {hd : Nat → Option Nat} (hV : rn_V σ) (hR : rn_Rm f σ ra hd) {Ls : List rn_Ln} {a0 r : Nat} (hch0 : rn_ch f Ls (some a0)) (hok0 : ∀ q ∈ Ls, rn_okL q) (hr0 : r < σ.sn) : rn_R l yX4_allLeadOut wsX4_allLeadOut ({ frames := 2, cells := 0, slots := 0, locals := 45 } : Room) D tys (rn_S D f) [.ref a0, .ref (ra r)] (some (.int (rn_b (!rn_lost σ r Ls)))) := by
  refine rn_R.ofW (cc := cX4_allLeadOut) (maxL := 4) (ret := (some .boolean)) (by decide) rfl (Nat.le_of_ble_eq_true rfl) (fun p e s m below meth c ls hx hb hr hml hts hown hlocks hF hG hl => ?_)
  have hl : lv_has ls 4 [(0, .ref a0), (1, .ref (ra r))] := hl
  refine lv_aload_n hx hb dX4_allLeadOut_0 rfl (lv_at hl 0 rfl) ?_
  refine lv_astore_n (lv' := [(2, .ref a0), (0, .ref a0), (1, .ref (ra r))]) hx hb dX4_allLeadOut_1 rfl hl (by decide) rfl (fun ls hl => ?_)
  have loop : ∀ (qs : List rn_Ln) (z : Option Nat), rn_ch f qs z → (∀ q ∈ qs, rn_okL q) → rn_lost σ r qs = rn_lost σ r Ls → ∀ (ls : Array Slot), lv_has ls 4 [(2, va_rf z), (0, .ref a0), (1, .ref (ra r))] → W p l e ({ frames := 2, cells := 0, slots := 0, locals := 45 } : Room) s m ([.ref a0, .ref (ra r)] : List Value).toArray below meth c s.heap [] 0 0 (MQ below (fun _ st o t => o = .returned (some (.int (rn_b (!rn_lost σ r Ls)))) ∧ t.heap = st.heap) ([.ref a0, .ref (ra r)] : List Value).toArray s 0 0 (fun _ => False)) (F0 m 2 ls []) := by
    intro qs
    induction qs with
    | nil =>
      intro z hch hok hv ls hl
      have hz : z = none := hch
      subst hz
      have hl : lv_has ls 4 [(2, .null), (0, .ref a0), (1, .ref (ra r))] := hl
      refine lv_aload_nN hx hb dX4_allLeadOut_2 rfl (lv_at hl 0 rfl) ?_
      refine lv_ifnullN (tgt := 46) hx hb dX4_allLeadOut_3 (by decide) ?_
      refine lv_iconst (v := 1) hx hb dX4_allLeadOut_46 (by decide) ?_
      exact rn_iret hx hb hr rfl hlocks (by rw [← hv]; rfl) dX4_allLeadOut_47
    | cons q qs ih =>
      intro z hch hok hv ls hl
      obtain ⟨a, z1, rfl, ha, hch⟩ := hch
      obtain ⟨k1, k2, k3⟩ := hok q List.mem_cons_self
      have hok2 : ∀ q ∈ qs, rn_okL q := fun z hz => hok z (List.mem_cons_of_mem _ hz)
      have hl : lv_has ls 4 [(2, .ref a), (0, .ref a0), (1, .ref (ra r))] := hl
      refine lv_aload_n hx hb dX4_allLeadOut_2 rfl (lv_at hl 0 rfl) ?_
      refine lv_ifnull hx hb dX4_allLeadOut_3 ?_
      refine lv_iconst (v := 0) hx hb dX4_allLeadOut_6 (by decide) ?_
      refine lv_istore_n (lv' := [(3, .int 0), (2, .ref a), (0, .ref a0), (1, .ref (ra r))]) hx hb dX4_allLeadOut_7 rfl hl (by decide) rfl (fun ls hl => ?_)
      have inner : ∀ (n k : Nat), k + n = q.2.2 → (∀ x, x < k → (rn_lead σ r (q.2.1 + x)).isNone = false) → ∀ (ls : Array Slot), lv_has ls 4 [(3, .int (nI k)), (2, .ref a), (0, .ref a0), (1, .ref (ra r))] → W p l e ({ frames := 2, cells := 0, slots := 0, locals := 45 } : Room) s m ([.ref a0, .ref (ra r)] : List Value).toArray below meth c s.heap [] 0 0 (MQ below (fun _ st o t => o = .returned (some (.int (rn_b (!rn_lost σ r Ls)))) ∧ t.heap = st.heap) ([.ref a0, .ref (ra r)] : List Value).toArray s 0 0 (fun _ => False)) (F0 m 8 ls []) := by
        intro n
        induction n with
        | zero =>
          intro k hkn hall ls hl
          refine lv_iload_n hx hb dX4_allLeadOut_8 rfl (lv_at hl 0 rfl) ?_
          refine lv_aload_n hx hb dX4_allLeadOut_9 rfl (lv_at hl 1 rfl) ?_
          refine rn_get (ci := 2) (v := .int (nI q.2.2)) (C := RX2) (T := TX2) (N := 4) hx hb hts iw_X4_allLeadOut_2 hown hG (hF _ _ ha) rfl 2 (by decide) fw_X4_allLeadOut_194 rfl dX4_allLeadOut_10 ?_
          refine lv_icmp_ge (tgt := 38) hx hb dX4_allLeadOut_13 (by decide) (fun c_13 => ?_) (fun c_13 => ?_)
          · refine lv_aload_n hx hb dX4_allLeadOut_38 rfl (lv_at hl 1 rfl) ?_
            refine rn_get (ci := 2) (v := va_rf z1) (C := RX2) (T := TX2) (N := 4) hx hb hts iw_X4_allLeadOut_2 hown hG (hF _ _ ha) rfl 3 (by decide) fw_X4_allLeadOut_188 rfl dX4_allLeadOut_39 ?_
            refine rn_astore_n (lv' := [(2, va_rf z1), (3, .int (nI k)), (0, .ref a0), (1, .ref (ra r))]) hx hb dX4_allLeadOut_42 rfl hl (by decide) rfl (fun ls hl => ?_)
            refine lv_goto (tgt := 2) hx hb dX4_allLeadOut_43 (by decide) ?_
            exact ih _ hch hok2 (by rw [← hv, rn_lost_cons]; rw [show (List.range q.2.2).any (fun k => (rn_lead σ r (q.2.1 + k)).isNone) = false from List.any_eq_false.mpr (fun k hk => by rw [hall k (by have := List.mem_range.mp hk; omega)]; decide)]; rfl) ls (lv_sub hl [0, 2, 3] rfl)
          · exact absurd ((nI_leI (by omega) (by omega)).mpr (by omega)) c_13
        | succ n ih2 =>
          intro k hkn hall ls hl
          refine lv_iload_n hx hb dX4_allLeadOut_8 rfl (lv_at hl 0 rfl) ?_
          refine lv_aload_n hx hb dX4_allLeadOut_9 rfl (lv_at hl 1 rfl) ?_
          refine rn_get (ci := 2) (v := .int (nI q.2.2)) (C := RX2) (T := TX2) (N := 4) hx hb hts iw_X4_allLeadOut_2 hown hG (hF _ _ ha) rfl 2 (by decide) fw_X4_allLeadOut_194 rfl dX4_allLeadOut_10 ?_
          refine lv_icmp_ge (tgt := 38) hx hb dX4_allLeadOut_13 (by decide) (fun c_13 => ?_) (fun c_13 => ?_)
          · exact absurd ((nI_leI (by omega) (by omega)).mp c_13) (by omega)
          · refine lv_aload_n hx hb dX4_allLeadOut_16 rfl (lv_at hl 3 rfl) ?_
            refine lv_aload_n hx hb dX4_allLeadOut_17 rfl (lv_at hl 1 rfl) ?_
            refine rn_get (ci := 2) (v := .int (nI q.2.1)) (C := RX2) (T := TX2) (N := 4) hx hb hts iw_X4_allLeadOut_2 hown hG (hF _ _ ha) rfl 1 (by decide) fw_X4_allLeadOut_130 rfl dX4_allLeadOut_18 ?_
            refine lv_iload_n hx hb dX4_allLeadOut_21 rfl (lv_at hl 0 rfl) ?_
            refine lv_iadd hx hb dX4_allLeadOut_22 ?_
            refine rn_top (y := .int (nI (q.2.1 + k))) (congrArg Value.int (nI_add _ _)) ?_
            refine rn_cS (As := [.ref (ra r), .int (nI (q.2.1 + k))]) (rest := []) 2 hx hb hml hown hts hG (c_leadOut l hV hR hr0 (x := q.2.1 + k) (by omega)) gX4_allLeadOut_X4_leadOut rfl ⟨rfl, rfl⟩ (by decide +kernel) ⟨Nat.le_of_ble_eq_true rfl, Nat.le_of_ble_eq_true rfl⟩ hF rfl hl.1 rfl (Nat.le_of_ble_eq_true rfl) ⟨Nat.zero_le _, Nat.zero_le _⟩ dX4_allLeadOut_23 ?_
            refine W.eq (g2 := F0 m 26 ls [.int (rn_enc (rn_lead σ r (q.2.1 + k)))]) rfl ?_
            refine lv_iconst (v := (-1)) hx hb dX4_allLeadOut_26 (by decide) ?_
            refine lv_icmp_ne (tgt := 32) hx hb dX4_allLeadOut_27 (by decide) (fun c_27 => ?_) (fun c_27 => ?_)
            · have hsome : (rn_lead σ r (q.2.1 + k)).isNone = false := by
                cases h : rn_lead σ r (q.2.1 + k) with
                | none => rw [h] at c_27; exact absurd rfl c_27
                | some y => rfl
              refine lv_iinc (v := (nI (k + 1))) (lv' := [(3, .int (nI (k + 1))), (2, .ref a), (0, .ref a0), (1, .ref (ra r))]) hx hb dX4_allLeadOut_32 hl (k := 0) rfl (nI_1 k) (by decide) rfl (fun ls hl => ?_)
              refine lv_goto (tgt := 8) hx hb dX4_allLeadOut_35 (by decide) ?_
              exact ih2 (k + 1) (by omega) (fun x hx => by rcases Nat.lt_or_ge x k with h | h; exact hall x h; rw [show x = k by omega]; exact hsome) ls (lv_sub hl [0, 1, 2, 3] rfl)
            · have hnone := (rn_enc_m1 (fun y h => rn_lead_in hV r r (Nat.le_refl _) hr0 _ y (by omega) h)).mp c_27
              have hl2 : rn_lost σ r Ls = true := by
                rw [← hv, rn_lost_cons, List.any_eq_true.mpr ⟨k, List.mem_range.mpr (by omega), by rw [hnone]; rfl⟩]; rfl
              refine lv_iconst (v := 0) hx hb dX4_allLeadOut_30 (by decide) ?_
              exact rn_iret hx hb hr rfl hlocks (by rw [hl2]; rfl) dX4_allLeadOut_31
      exact inner q.2.2 0 (Nat.zero_add _) (fun x hx => absurd hx (Nat.not_lt_zero _)) ls (lv_sub hl [0, 1, 2, 3] rfl)
  exact loop Ls (some a0) hch0 hok0 rfl ls (lv_sub hl [0, 1, 2] rfl)

set_option maxHeartbeats 4000000 in
set_option maxRecDepth 100000 in
theorem c_roomAt (l : Launch) {D : va_G} {cR cP cF : ClassId} {h0 aR aP aF : Nat} {ra pa fa : Nat → Nat} {dh : Option Nat} {f : rn_T} {σ : rn_St} (hV : rn_V σ) (hH : rn_Ho cR cP cF h0 aR aP aF ra pa fa dh f σ) {i : Nat} (hi0 : i < σ.sn) : rn_R l yX4_roomAt wsX4_roomAt ({ frames := 0, cells := 0, slots := 0, locals := 0 } : Room) D (rn_tys cR cP cF) (rn_S D f) [.ref h0, .int (nI i)] (some (.ref (ra i))) := by
  refine rn_R.ofW (cc := cX4_roomAt) (maxL := 3) (ret := (some (.object "RoomNumbers$Room"))) (by decide) rfl (Nat.le_of_ble_eq_true rfl) (fun p e s m below meth c ls hx hb hr hml hts hown hlocks hF hG hl => ?_)
  have hl : lv_has ls 3 [(0, .ref h0), (1, .int (nI i))] := hl
  refine lv_iload_n hx hb dX4_roomAt_0 rfl (lv_at hl 1 rfl) ?_
  refine lv_if_lt (tgt := 13) hx hb dX4_roomAt_1 (by decide) (fun c_1 => ?_) (fun c_1 => ?_)
  · exact absurd c_1 (nI_pos (by have := hV.1.2; omega))
  · refine lv_iload_n hx hb dX4_roomAt_4 rfl (lv_at hl 1 rfl) ?_
    refine lv_aload_n hx hb dX4_roomAt_5 rfl (lv_at hl 0 rfl) ?_
    refine rn_get (ci := 4) (v := .ref aR) (C := RX4) (T := TX4) (N := 9) hx hb hts iw_X4_roomAt_4 hown hG (hF _ _ hH.1) rfl 0 (by decide) fw_X4_roomAt_14 rfl dX4_roomAt_6 ?_
    refine rn_alen hx hb hG (hF _ _ hH.2.1) 0 rfl dX4_roomAt_9 ?_
    refine rn_top (y := .int (nI 10)) rfl ?_
    refine lv_icmp_lt (tgt := 23) hx hb dX4_roomAt_10 (by decide) (fun c_10 => ?_) (fun c_10 => ?_)
    · refine lv_aload_n hx hb dX4_roomAt_23 rfl (lv_at hl 0 rfl) ?_
      refine rn_get (ci := 4) (v := .ref aR) (C := RX4) (T := TX4) (N := 9) hx hb hts iw_X4_roomAt_4 hown hG (hF _ _ hH.1) rfl 0 (by decide) fw_X4_roomAt_14 rfl dX4_roomAt_24 ?_
      refine lv_iload_n hx hb dX4_roomAt_27 rfl (lv_at hl 1 rfl) ?_
      refine rn_aald (j := i) hx hb hG (hF _ _ hH.2.1) 0 rfl (by have := hV.1.2; omega) (by decide) dX4_roomAt_28 ?_
      refine rn_top (y := .ref (ra i)) (by rw [rn_row_in hi0]; rfl) ?_
      refine lv_astore_n (lv' := [(2, .ref (ra i)), (0, .ref h0), (1, .int (nI i))]) hx hb dX4_roomAt_29 rfl hl (by decide) rfl (fun ls hl => ?_)
      refine lv_aload_n hx hb dX4_roomAt_30 rfl (lv_at hl 0 rfl) ?_
      refine lv_ifnonnull (tgt := 44) hx hb dX4_roomAt_31 (by decide) ?_
      refine lv_aload_n hx hb dX4_roomAt_44 rfl (lv_at hl 0 rfl) ?_
      exact rn_aret hx hb hr hlocks rfl dX4_roomAt_45
    · exact absurd ((nI_ltI (by have := hV.1.2; omega) (by omega)).mpr (by have := hV.1.2; omega)) c_10

set_option maxHeartbeats 4000000 in
set_option maxRecDepth 100000 in
theorem x_roomAt (l : Launch) (hfl : l.stackTraces = false) {D : va_G} {cR cP cF : ClassId} {h0 aR aP aF : Nat} {ra pa fa : Nat → Nat} {dh : Option Nat} {f : rn_T} {σ : rn_St} (hV : rn_V σ) (hH : rn_Ho cR cP cF h0 aR aP aF ra pa fa dh f σ) {x : Int32} (hno : ¬ ∃ i, i < σ.sn ∧ x = nI i) (sz : Nat) : rn_X l yX4_roomAt wsX4_roomAt ({ frames := 6, cells := 1, slots := 6, locals := 82 } : Room) D (rn_tys cR cP cF) (rn_S D f) [.ref h0, .int x] "java/lang/IndexOutOfBoundsException" sz := by
  refine rn_X.ofW (cc := cX4_roomAt) (maxL := 3) (ret := (some (.object "RoomNumbers$Room"))) (by decide) rfl (Nat.le_of_ble_eq_true rfl) (fun p e s m below meth c ls hx hb hr hml hts hown hlocks hsz hF hG hE hout hl => ?_)
  have hl : lv_has ls 3 [(0, .ref h0), (1, .int x)] := hl
  refine lv_iload_n hx hb dX4_roomAt_0 rfl (lv_at hl 1 rfl) ?_
  refine lv_if_lt (tgt := 13) hx hb dX4_roomAt_1 (by decide) (fun c_1 => ?_) (fun c_1 => ?_)
  · exact rn_throw (E := "java/lang/IndexOutOfBoundsException") (ik := 103) (is := 177) (ic := 107) (text := "no such room") hx hb hfl hown hts hE hsz (by decide +kernel) xk_X4_roomAt_103 xi_X4_roomAt_103 xn_X4_roomAt_103 xh_107 xg_103_107 (by decide) (by decide) (hl.1.trans hml.symm) dX4_roomAt_13 dX4_roomAt_16 dX4_roomAt_17 dX4_roomAt_19 dX4_roomAt_22 hout (by decide) (by decide) (by decide) (by decide) hlocks
  · obtain ⟨i, hi31, rfl⟩ := nI_of c_1
    have hi : σ.sn ≤ i := by rcases Nat.lt_or_ge i (σ.sn) with h | h; exact absurd ⟨i, h, rfl⟩ hno; exact h
    have hl : lv_has ls 3 [(0, .ref h0), (1, .int (nI i))] := hl
    refine lv_iload_n hx hb dX4_roomAt_4 rfl (lv_at hl 1 rfl) ?_
    refine lv_aload_n hx hb dX4_roomAt_5 rfl (lv_at hl 0 rfl) ?_
    refine rn_get (ci := 4) (v := .ref aR) (C := RX4) (T := TX4) (N := 9) hx hb hts iw_X4_roomAt_4 hown hG (hF _ _ hH.1) rfl 0 (by decide) fw_X4_roomAt_14 rfl dX4_roomAt_6 ?_
    refine rn_alen hx hb hG (hF _ _ hH.2.1) 0 rfl dX4_roomAt_9 ?_
    refine rn_top (y := .int (nI 10)) rfl ?_
    refine lv_icmp_lt (tgt := 23) hx hb dX4_roomAt_10 (by decide) (fun c_10 => ?_) (fun c_10 => ?_)
    · have hi10 := (nI_ltI hi31 (by omega)).mp c_10
      refine lv_aload_n hx hb dX4_roomAt_23 rfl (lv_at hl 0 rfl) ?_
      refine rn_get (ci := 4) (v := .ref aR) (C := RX4) (T := TX4) (N := 9) hx hb hts iw_X4_roomAt_4 hown hG (hF _ _ hH.1) rfl 0 (by decide) fw_X4_roomAt_14 rfl dX4_roomAt_24 ?_
      refine lv_iload_n hx hb dX4_roomAt_27 rfl (lv_at hl 1 rfl) ?_
      refine rn_aald (j := i) hx hb hG (hF _ _ hH.2.1) 0 rfl hi10 (by decide) dX4_roomAt_28 ?_
      refine rn_top (y := .null) (by rw [rn_row_out hi]; rfl) ?_
      refine lv_astore_nN (lv' := [(2, .null), (0, .ref h0), (1, .int (nI i))]) hx hb dX4_roomAt_29 rfl hl (by decide) rfl (fun ls hl => ?_)
      refine lv_aload_nN hx hb dX4_roomAt_30 rfl (lv_at hl 0 rfl) ?_
      refine lv_ifnonnullN hx hb dX4_roomAt_31 ?_
      exact rn_throw (E := "java/lang/IndexOutOfBoundsException") (ik := 103) (is := 177) (ic := 107) (text := "no such room") hx hb hfl hown hts hE hsz (by decide +kernel) xk_X4_roomAt_103 xi_X4_roomAt_103 xn_X4_roomAt_103 xh_107 xg_103_107 (by decide) (by decide) (hl.1.trans hml.symm) dX4_roomAt_34 dX4_roomAt_37 dX4_roomAt_38 dX4_roomAt_40 dX4_roomAt_43 hout (by decide) (by decide) (by decide) (by decide) hlocks
    · exact rn_throw (E := "java/lang/IndexOutOfBoundsException") (ik := 103) (is := 177) (ic := 107) (text := "no such room") hx hb hfl hown hts hE hsz (by decide +kernel) xk_X4_roomAt_103 xi_X4_roomAt_103 xn_X4_roomAt_103 xh_107 xg_103_107 (by decide) (by decide) (hl.1.trans hml.symm) dX4_roomAt_13 dX4_roomAt_16 dX4_roomAt_17 dX4_roomAt_19 dX4_roomAt_22 hout (by decide) (by decide) (by decide) (by decide) hlocks

set_option maxHeartbeats 4000000 in
set_option maxRecDepth 100000 in
theorem c_processAt (l : Launch) {D : va_G} {cR cP cF : ClassId} {h0 aR aP aF : Nat} {ra pa fa : Nat → Nat} {dh : Option Nat} {f : rn_T} {σ : rn_St} (hV : rn_V σ) (hH : rn_Ho cR cP cF h0 aR aP aF ra pa fa dh f σ) {i : Nat} (hi0 : i < σ.pn) : rn_R l yX4_processAt wsX4_processAt ({ frames := 0, cells := 0, slots := 0, locals := 0 } : Room) D (rn_tys cR cP cF) (rn_S D f) [.ref h0, .int (nI i)] (some (.ref (pa i))) := by
  refine rn_R.ofW (cc := cX4_processAt) (maxL := 3) (ret := (some (.object "RoomNumbers$HouseProcess"))) (by decide) rfl (Nat.le_of_ble_eq_true rfl) (fun p e s m below meth c ls hx hb hr hml hts hown hlocks hF hG hl => ?_)
  have hl : lv_has ls 3 [(0, .ref h0), (1, .int (nI i))] := hl
  refine lv_iload_n hx hb dX4_processAt_0 rfl (lv_at hl 1 rfl) ?_
  refine lv_if_lt (tgt := 13) hx hb dX4_processAt_1 (by decide) (fun c_1 => ?_) (fun c_1 => ?_)
  · exact absurd c_1 (nI_pos (by have := hV.2.2.2.2.2.1.2.1; omega))
  · refine lv_iload_n hx hb dX4_processAt_4 rfl (lv_at hl 1 rfl) ?_
    refine lv_aload_n hx hb dX4_processAt_5 rfl (lv_at hl 0 rfl) ?_
    refine rn_get (ci := 4) (v := .ref aP) (C := RX4) (T := TX4) (N := 9) hx hb hts iw_X4_processAt_4 hown hG (hF _ _ hH.1) rfl 2 (by decide) fw_X4_processAt_24 rfl dX4_processAt_6 ?_
    refine rn_alen hx hb hG (hF _ _ hH.2.2.1) 1 rfl dX4_processAt_9 ?_
    refine rn_top (y := .int (nI 12)) rfl ?_
    refine lv_icmp_lt (tgt := 23) hx hb dX4_processAt_10 (by decide) (fun c_10 => ?_) (fun c_10 => ?_)
    · refine lv_aload_n hx hb dX4_processAt_23 rfl (lv_at hl 0 rfl) ?_
      refine rn_get (ci := 4) (v := .ref aP) (C := RX4) (T := TX4) (N := 9) hx hb hts iw_X4_processAt_4 hown hG (hF _ _ hH.1) rfl 2 (by decide) fw_X4_processAt_24 rfl dX4_processAt_24 ?_
      refine lv_iload_n hx hb dX4_processAt_27 rfl (lv_at hl 1 rfl) ?_
      refine rn_aald (j := i) hx hb hG (hF _ _ hH.2.2.1) 1 rfl (by have := hV.2.2.2.2.2.1.2.1; omega) (by decide) dX4_processAt_28 ?_
      refine rn_top (y := .ref (pa i)) (by rw [rn_row_in hi0]; rfl) ?_
      refine lv_astore_n (lv' := [(2, .ref (pa i)), (0, .ref h0), (1, .int (nI i))]) hx hb dX4_processAt_29 rfl hl (by decide) rfl (fun ls hl => ?_)
      refine lv_aload_n hx hb dX4_processAt_30 rfl (lv_at hl 0 rfl) ?_
      refine lv_ifnonnull (tgt := 44) hx hb dX4_processAt_31 (by decide) ?_
      refine lv_aload_n hx hb dX4_processAt_44 rfl (lv_at hl 0 rfl) ?_
      exact rn_aret hx hb hr hlocks rfl dX4_processAt_45
    · exact absurd ((nI_ltI (by have := hV.2.2.2.2.2.1.2.1; omega) (by omega)).mpr (by have := hV.2.2.2.2.2.1.2.1; omega)) c_10

set_option maxHeartbeats 4000000 in
set_option maxRecDepth 100000 in
theorem x_processAt (l : Launch) (hfl : l.stackTraces = false) {D : va_G} {cR cP cF : ClassId} {h0 aR aP aF : Nat} {ra pa fa : Nat → Nat} {dh : Option Nat} {f : rn_T} {σ : rn_St} (hV : rn_V σ) (hH : rn_Ho cR cP cF h0 aR aP aF ra pa fa dh f σ) {x : Int32} (hno : ¬ ∃ i, i < σ.pn ∧ x = nI i) (sz : Nat) : rn_X l yX4_processAt wsX4_processAt ({ frames := 6, cells := 1, slots := 6, locals := 82 } : Room) D (rn_tys cR cP cF) (rn_S D f) [.ref h0, .int x] "java/lang/IndexOutOfBoundsException" sz := by
  refine rn_X.ofW (cc := cX4_processAt) (maxL := 3) (ret := (some (.object "RoomNumbers$HouseProcess"))) (by decide) rfl (Nat.le_of_ble_eq_true rfl) (fun p e s m below meth c ls hx hb hr hml hts hown hlocks hsz hF hG hE hout hl => ?_)
  have hl : lv_has ls 3 [(0, .ref h0), (1, .int x)] := hl
  refine lv_iload_n hx hb dX4_processAt_0 rfl (lv_at hl 1 rfl) ?_
  refine lv_if_lt (tgt := 13) hx hb dX4_processAt_1 (by decide) (fun c_1 => ?_) (fun c_1 => ?_)
  · exact rn_throw (E := "java/lang/IndexOutOfBoundsException") (ik := 103) (is := 179) (ic := 107) (text := "no such process") hx hb hfl hown hts hE hsz (by decide +kernel) xk_X4_processAt_103 xi_X4_processAt_103 xn_X4_processAt_103 xh_107 xg_103_107 (by decide) (by decide) (hl.1.trans hml.symm) dX4_processAt_13 dX4_processAt_16 dX4_processAt_17 dX4_processAt_19 dX4_processAt_22 hout (by decide) (by decide) (by decide) (by decide) hlocks
  · obtain ⟨i, hi31, rfl⟩ := nI_of c_1
    have hi : σ.pn ≤ i := by rcases Nat.lt_or_ge i (σ.pn) with h | h; exact absurd ⟨i, h, rfl⟩ hno; exact h
    have hl : lv_has ls 3 [(0, .ref h0), (1, .int (nI i))] := hl
    refine lv_iload_n hx hb dX4_processAt_4 rfl (lv_at hl 1 rfl) ?_
    refine lv_aload_n hx hb dX4_processAt_5 rfl (lv_at hl 0 rfl) ?_
    refine rn_get (ci := 4) (v := .ref aP) (C := RX4) (T := TX4) (N := 9) hx hb hts iw_X4_processAt_4 hown hG (hF _ _ hH.1) rfl 2 (by decide) fw_X4_processAt_24 rfl dX4_processAt_6 ?_
    refine rn_alen hx hb hG (hF _ _ hH.2.2.1) 1 rfl dX4_processAt_9 ?_
    refine rn_top (y := .int (nI 12)) rfl ?_
    refine lv_icmp_lt (tgt := 23) hx hb dX4_processAt_10 (by decide) (fun c_10 => ?_) (fun c_10 => ?_)
    · have hi10 := (nI_ltI hi31 (by omega)).mp c_10
      refine lv_aload_n hx hb dX4_processAt_23 rfl (lv_at hl 0 rfl) ?_
      refine rn_get (ci := 4) (v := .ref aP) (C := RX4) (T := TX4) (N := 9) hx hb hts iw_X4_processAt_4 hown hG (hF _ _ hH.1) rfl 2 (by decide) fw_X4_processAt_24 rfl dX4_processAt_24 ?_
      refine lv_iload_n hx hb dX4_processAt_27 rfl (lv_at hl 1 rfl) ?_
      refine rn_aald (j := i) hx hb hG (hF _ _ hH.2.2.1) 1 rfl hi10 (by decide) dX4_processAt_28 ?_
      refine rn_top (y := .null) (by rw [rn_row_out hi]; rfl) ?_
      refine lv_astore_nN (lv' := [(2, .null), (0, .ref h0), (1, .int (nI i))]) hx hb dX4_processAt_29 rfl hl (by decide) rfl (fun ls hl => ?_)
      refine lv_aload_nN hx hb dX4_processAt_30 rfl (lv_at hl 0 rfl) ?_
      refine lv_ifnonnullN hx hb dX4_processAt_31 ?_
      exact rn_throw (E := "java/lang/IndexOutOfBoundsException") (ik := 103) (is := 179) (ic := 107) (text := "no such process") hx hb hfl hown hts hE hsz (by decide +kernel) xk_X4_processAt_103 xi_X4_processAt_103 xn_X4_processAt_103 xh_107 xg_103_107 (by decide) (by decide) (hl.1.trans hml.symm) dX4_processAt_34 dX4_processAt_37 dX4_processAt_38 dX4_processAt_40 dX4_processAt_43 hout (by decide) (by decide) (by decide) (by decide) hlocks
    · exact rn_throw (E := "java/lang/IndexOutOfBoundsException") (ik := 103) (is := 179) (ic := 107) (text := "no such process") hx hb hfl hown hts hE hsz (by decide +kernel) xk_X4_processAt_103 xi_X4_processAt_103 xn_X4_processAt_103 xh_107 xg_103_107 (by decide) (by decide) (hl.1.trans hml.symm) dX4_processAt_13 dX4_processAt_16 dX4_processAt_17 dX4_processAt_19 dX4_processAt_22 hout (by decide) (by decide) (by decide) (by decide) hlocks

set_option maxHeartbeats 4000000 in
set_option maxRecDepth 100000 in
theorem c_fileAt (l : Launch) {D : va_G} {cR cP cF : ClassId} {h0 aR aP aF : Nat} {ra pa fa : Nat → Nat} {dh : Option Nat} {f : rn_T} {σ : rn_St} (hV : rn_V σ) (hH : rn_Ho cR cP cF h0 aR aP aF ra pa fa dh f σ) {i : Nat} (hi0 : i < σ.fn) : rn_R l yX4_fileAt wsX4_fileAt ({ frames := 0, cells := 0, slots := 0, locals := 0 } : Room) D (rn_tys cR cP cF) (rn_S D f) [.ref h0, .int (nI i)] (some (.ref (fa i))) := by
  refine rn_R.ofW (cc := cX4_fileAt) (maxL := 3) (ret := (some (.object "RoomNumbers$HouseFile"))) (by decide) rfl (Nat.le_of_ble_eq_true rfl) (fun p e s m below meth c ls hx hb hr hml hts hown hlocks hF hG hl => ?_)
  have hl : lv_has ls 3 [(0, .ref h0), (1, .int (nI i))] := hl
  refine lv_iload_n hx hb dX4_fileAt_0 rfl (lv_at hl 1 rfl) ?_
  refine lv_if_lt (tgt := 13) hx hb dX4_fileAt_1 (by decide) (fun c_1 => ?_) (fun c_1 => ?_)
  · exact absurd c_1 (nI_pos (by have := hV.2.2.2.2.2.2.1; omega))
  · refine lv_iload_n hx hb dX4_fileAt_4 rfl (lv_at hl 1 rfl) ?_
    refine lv_aload_n hx hb dX4_fileAt_5 rfl (lv_at hl 0 rfl) ?_
    refine rn_get (ci := 4) (v := .ref aF) (C := RX4) (T := TX4) (N := 9) hx hb hts iw_X4_fileAt_4 hown hG (hF _ _ hH.1) rfl 4 (by decide) fw_X4_fileAt_36 rfl dX4_fileAt_6 ?_
    refine rn_alen hx hb hG (hF _ _ hH.2.2.2) 2 rfl dX4_fileAt_9 ?_
    refine rn_top (y := .int (nI 20)) rfl ?_
    refine lv_icmp_lt (tgt := 23) hx hb dX4_fileAt_10 (by decide) (fun c_10 => ?_) (fun c_10 => ?_)
    · refine lv_aload_n hx hb dX4_fileAt_23 rfl (lv_at hl 0 rfl) ?_
      refine rn_get (ci := 4) (v := .ref aF) (C := RX4) (T := TX4) (N := 9) hx hb hts iw_X4_fileAt_4 hown hG (hF _ _ hH.1) rfl 4 (by decide) fw_X4_fileAt_36 rfl dX4_fileAt_24 ?_
      refine lv_iload_n hx hb dX4_fileAt_27 rfl (lv_at hl 1 rfl) ?_
      refine rn_aald (j := i) hx hb hG (hF _ _ hH.2.2.2) 2 rfl (by have := hV.2.2.2.2.2.2.1; omega) (by decide) dX4_fileAt_28 ?_
      refine rn_top (y := .ref (fa i)) (by rw [rn_row_in hi0]; rfl) ?_
      refine lv_astore_n (lv' := [(2, .ref (fa i)), (0, .ref h0), (1, .int (nI i))]) hx hb dX4_fileAt_29 rfl hl (by decide) rfl (fun ls hl => ?_)
      refine lv_aload_n hx hb dX4_fileAt_30 rfl (lv_at hl 0 rfl) ?_
      refine lv_ifnonnull (tgt := 44) hx hb dX4_fileAt_31 (by decide) ?_
      refine lv_aload_n hx hb dX4_fileAt_44 rfl (lv_at hl 0 rfl) ?_
      exact rn_aret hx hb hr hlocks rfl dX4_fileAt_45
    · exact absurd ((nI_ltI (by have := hV.2.2.2.2.2.2.1; omega) (by omega)).mpr (by have := hV.2.2.2.2.2.2.1; omega)) c_10

set_option maxHeartbeats 4000000 in
set_option maxRecDepth 100000 in
theorem x_fileAt (l : Launch) (hfl : l.stackTraces = false) {D : va_G} {cR cP cF : ClassId} {h0 aR aP aF : Nat} {ra pa fa : Nat → Nat} {dh : Option Nat} {f : rn_T} {σ : rn_St} (hV : rn_V σ) (hH : rn_Ho cR cP cF h0 aR aP aF ra pa fa dh f σ) {x : Int32} (hno : ¬ ∃ i, i < σ.fn ∧ x = nI i) (sz : Nat) : rn_X l yX4_fileAt wsX4_fileAt ({ frames := 6, cells := 1, slots := 6, locals := 82 } : Room) D (rn_tys cR cP cF) (rn_S D f) [.ref h0, .int x] "java/lang/IndexOutOfBoundsException" sz := by
  refine rn_X.ofW (cc := cX4_fileAt) (maxL := 3) (ret := (some (.object "RoomNumbers$HouseFile"))) (by decide) rfl (Nat.le_of_ble_eq_true rfl) (fun p e s m below meth c ls hx hb hr hml hts hown hlocks hsz hF hG hE hout hl => ?_)
  have hl : lv_has ls 3 [(0, .ref h0), (1, .int x)] := hl
  refine lv_iload_n hx hb dX4_fileAt_0 rfl (lv_at hl 1 rfl) ?_
  refine lv_if_lt (tgt := 13) hx hb dX4_fileAt_1 (by decide) (fun c_1 => ?_) (fun c_1 => ?_)
  · exact rn_throw (E := "java/lang/IndexOutOfBoundsException") (ik := 103) (is := 181) (ic := 107) (text := "no such file") hx hb hfl hown hts hE hsz (by decide +kernel) xk_X4_fileAt_103 xi_X4_fileAt_103 xn_X4_fileAt_103 xh_107 xg_103_107 (by decide) (by decide) (hl.1.trans hml.symm) dX4_fileAt_13 dX4_fileAt_16 dX4_fileAt_17 dX4_fileAt_19 dX4_fileAt_22 hout (by decide) (by decide) (by decide) (by decide) hlocks
  · obtain ⟨i, hi31, rfl⟩ := nI_of c_1
    have hi : σ.fn ≤ i := by rcases Nat.lt_or_ge i (σ.fn) with h | h; exact absurd ⟨i, h, rfl⟩ hno; exact h
    have hl : lv_has ls 3 [(0, .ref h0), (1, .int (nI i))] := hl
    refine lv_iload_n hx hb dX4_fileAt_4 rfl (lv_at hl 1 rfl) ?_
    refine lv_aload_n hx hb dX4_fileAt_5 rfl (lv_at hl 0 rfl) ?_
    refine rn_get (ci := 4) (v := .ref aF) (C := RX4) (T := TX4) (N := 9) hx hb hts iw_X4_fileAt_4 hown hG (hF _ _ hH.1) rfl 4 (by decide) fw_X4_fileAt_36 rfl dX4_fileAt_6 ?_
    refine rn_alen hx hb hG (hF _ _ hH.2.2.2) 2 rfl dX4_fileAt_9 ?_
    refine rn_top (y := .int (nI 20)) rfl ?_
    refine lv_icmp_lt (tgt := 23) hx hb dX4_fileAt_10 (by decide) (fun c_10 => ?_) (fun c_10 => ?_)
    · have hi10 := (nI_ltI hi31 (by omega)).mp c_10
      refine lv_aload_n hx hb dX4_fileAt_23 rfl (lv_at hl 0 rfl) ?_
      refine rn_get (ci := 4) (v := .ref aF) (C := RX4) (T := TX4) (N := 9) hx hb hts iw_X4_fileAt_4 hown hG (hF _ _ hH.1) rfl 4 (by decide) fw_X4_fileAt_36 rfl dX4_fileAt_24 ?_
      refine lv_iload_n hx hb dX4_fileAt_27 rfl (lv_at hl 1 rfl) ?_
      refine rn_aald (j := i) hx hb hG (hF _ _ hH.2.2.2) 2 rfl hi10 (by decide) dX4_fileAt_28 ?_
      refine rn_top (y := .null) (by rw [rn_row_out hi]; rfl) ?_
      refine lv_astore_nN (lv' := [(2, .null), (0, .ref h0), (1, .int (nI i))]) hx hb dX4_fileAt_29 rfl hl (by decide) rfl (fun ls hl => ?_)
      refine lv_aload_nN hx hb dX4_fileAt_30 rfl (lv_at hl 0 rfl) ?_
      refine lv_ifnonnullN hx hb dX4_fileAt_31 ?_
      exact rn_throw (E := "java/lang/IndexOutOfBoundsException") (ik := 103) (is := 181) (ic := 107) (text := "no such file") hx hb hfl hown hts hE hsz (by decide +kernel) xk_X4_fileAt_103 xi_X4_fileAt_103 xn_X4_fileAt_103 xh_107 xg_103_107 (by decide) (by decide) (hl.1.trans hml.symm) dX4_fileAt_34 dX4_fileAt_37 dX4_fileAt_38 dX4_fileAt_40 dX4_fileAt_43 hout (by decide) (by decide) (by decide) (by decide) hlocks
    · exact rn_throw (E := "java/lang/IndexOutOfBoundsException") (ik := 103) (is := 181) (ic := 107) (text := "no such file") hx hb hfl hown hts hE hsz (by decide +kernel) xk_X4_fileAt_103 xi_X4_fileAt_103 xn_X4_fileAt_103 xh_107 xg_103_107 (by decide) (by decide) (hl.1.trans hml.symm) dX4_fileAt_13 dX4_fileAt_16 dX4_fileAt_17 dX4_fileAt_19 dX4_fileAt_22 hout (by decide) (by decide) (by decide) (by decide) hlocks

set_option maxHeartbeats 4000000 in
set_option maxRecDepth 100000 in
theorem c_requireNumber (l : Launch) {D : va_G} {tys : List (ClassId × FieldType)} {f : rn_T} {k : Nat} (hk : k ≤ 998) : rn_R l yX4_requireNumber wsX4_requireNumber ({ frames := 0, cells := 0, slots := 0, locals := 0 } : Room) D tys (rn_S D f) [.int (nI k)] none := by
  refine rn_R.ofW (cc := cX4_requireNumber) (maxL := 1) (ret := none) (by decide) rfl (Nat.le_of_ble_eq_true rfl) (fun p e s m below meth c ls hx hb hr hml hts hown hlocks hF hG hl => ?_)
  have hl : lv_has ls 1 [(0, .int (nI k))] := hl
  refine lv_iload_n hx hb dX4_requireNumber_0 rfl (lv_at hl 0 rfl) ?_
  refine lv_if_lt (tgt := 11) hx hb dX4_requireNumber_1 (by decide) (fun c_1 => ?_) (fun c_1 => ?_)
  · exact absurd c_1 (nI_pos (by omega))
  · refine lv_iload_n hx hb dX4_requireNumber_4 rfl (lv_at hl 0 rfl) ?_
    refine lv_sipush (v := 998) hx hb dX4_requireNumber_5 (by decide +kernel) ?_
    refine lv_icmp_le (tgt := 21) hx hb dX4_requireNumber_8 (by decide) (fun c_8 => ?_) (fun c_8 => ?_)
    · exact rn_vret hx hb hr hlocks rfl dX4_requireNumber_21
    · exact absurd ((nI_leI (b := 998) (by omega) (by omega)).mpr (by omega)) c_8

theorem rn_nle {x y : Int32} (h : x < y) : ¬ y ≤ x := by
  intro h2
  have a := Int32.lt_iff_toInt_lt.mp h
  have b := Int32.le_iff_toInt_le.mp h2
  omega

set_option maxHeartbeats 4000000 in
set_option maxRecDepth 100000 in
theorem x_requireNumber (l : Launch) (hfl : l.stackTraces = false) {D : va_G} {tys : List (ClassId × FieldType)} {f : rn_T} {x : Int32} (hbad : x < 0 ∨ nI 998 < x) (sz : Nat) : rn_X l yX4_requireNumber wsX4_requireNumber ({ frames := 6, cells := 1, slots := 6, locals := 82 } : Room) D tys (rn_S D f) [.int x] "java/lang/IllegalArgumentException" sz := by
  refine rn_X.ofW (cc := cX4_requireNumber) (maxL := 1) (ret := none) (by decide) rfl (Nat.le_of_ble_eq_true rfl) (fun p e s m below meth c ls hx hb hr hml hts hown hlocks hsz hF hG hE hout hl => ?_)
  have hl : lv_has ls 1 [(0, .int x)] := hl
  refine lv_iload_n hx hb dX4_requireNumber_0 rfl (lv_at hl 0 rfl) ?_
  refine lv_if_lt (tgt := 11) hx hb dX4_requireNumber_1 (by decide) (fun c_1 => ?_) (fun c_1 => ?_)
  · exact rn_throw (E := "java/lang/IllegalArgumentException") (ik := 80) (is := 183) (ic := 84) (text := "a number is 0 to 998") hx hb hfl hown hts hE hsz (by decide +kernel) xk_X4_requireNumber_80 xi_X4_requireNumber_80 xn_X4_requireNumber_80 xh_84 xg_80_84 (by decide) (by decide) (hl.1.trans hml.symm) dX4_requireNumber_11 dX4_requireNumber_14 dX4_requireNumber_15 dX4_requireNumber_17 dX4_requireNumber_20 hout (by decide) (by decide) (by decide) (by decide) hlocks
  · refine lv_iload_n hx hb dX4_requireNumber_4 rfl (lv_at hl 0 rfl) ?_
    refine lv_sipush (v := 998) hx hb dX4_requireNumber_5 (by decide +kernel) ?_
    refine lv_icmp_le (tgt := 21) hx hb dX4_requireNumber_8 (by decide) (fun c_8 => ?_) (fun c_8 => ?_)
    · exact absurd c_8 (rn_nle (hbad.elim (fun h => absurd h c_1) id))
    · exact rn_throw (E := "java/lang/IllegalArgumentException") (ik := 80) (is := 183) (ic := 84) (text := "a number is 0 to 998") hx hb hfl hown hts hE hsz (by decide +kernel) xk_X4_requireNumber_80 xi_X4_requireNumber_80 xn_X4_requireNumber_80 xh_84 xg_80_84 (by decide) (by decide) (hl.1.trans hml.symm) dX4_requireNumber_11 dX4_requireNumber_14 dX4_requireNumber_15 dX4_requireNumber_17 dX4_requireNumber_20 hout (by decide) (by decide) (by decide) (by decide) hlocks
