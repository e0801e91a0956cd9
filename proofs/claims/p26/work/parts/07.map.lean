set_option maxHeartbeats 4000000 in
set_option maxRecDepth 100000 in
/-- X3_toOuter: what the map says, of a number of the room -/
theorem c_toOuter (l : Launch) {D : va_G} {tys : List (ClassId × FieldType)} {f : rn_T} {σ : rn_St} {ra : Nat → Nat} {hd : Nat → Option Nat} (hV : rn_V σ) (hR : rn_Rm f σ ra hd) {r x : Nat} (hr0 : r < σ.sn) (hx0 : x ≤ 998) : rn_R l yX3_toOuter wsX3_toOuter ({ frames := 0, cells := 0, slots := 0, locals := 0 } : Room) D tys (rn_S D f) [.ref (ra r), .int (nI x)] (some (.int (rn_enc (rn_tO σ r x)))) := by
  refine rn_R.ofW (cc := cX3_toOuter) (maxL := 3) (ret := (some .int)) (by decide) rfl (Nat.le_of_ble_eq_true rfl) (fun p e s m below meth c ls hx hb hr hml hts hown hlocks hF hG hl => ?_)
  have hl : lv_has ls 3 [(0, .ref (ra r)), (1, .int (nI x))] := hl
  refine lv_aload_n hx hb dX3_toOuter_0 rfl (lv_at hl 0 rfl) ?_
  refine rn_get (ci := 3) (v := va_rf (rn_ot σ ra r)) (C := RX3) (T := TX3) (N := 4) hx hb hts iw_X3_toOuter_3 hown hG (hF _ _ (hR.1 r hr0)) rfl 1 (by decide) fw_X3_toOuter_15 rfl dX3_toOuter_1 ?_
  refine rn_ifnonnull (tgt := 9) hx hb dX3_toOuter_4 (by decide) (fun z_4 c_4 => ?_) (fun c_4 => ?_)
  · have h0 : r ≠ 0 := fun h => by rw [h, rn_ot_0] at c_4; cases c_4
    refine lv_aload_n hx hb dX3_toOuter_9 rfl (lv_at hl 0 rfl) ?_
    refine rn_get (ci := 3) (v := va_rf (hd r)) (C := RX3) (T := TX3) (N := 4) hx hb hts iw_X3_toOuter_3 hown hG (hF _ _ (hR.1 r hr0)) rfl 3 (by decide) fw_X3_toOuter_22 rfl dX3_toOuter_10 ?_
    refine rn_astore_n (lv' := [(2, va_rf (hd r)), (0, .ref (ra r)), (1, .int (nI x))]) hx hb dX3_toOuter_13 rfl hl (by decide) rfl (fun ls hl => ?_)
    have hok : ∀ q ∈ σ.sm r, rn_okL q := (hV.2.2.1 r hr0).1
    have loop : ∀ (qs : List rn_Ln) (z : Option Nat), rn_ch f qs z → (∀ q ∈ qs, rn_okL q) → rn_to qs x = rn_to (σ.sm r) x → ∀ (ls : Array Slot), lv_has ls 3 [(2, va_rf z), (0, .ref (ra r)), (1, .int (nI x))] → W p l e ({ frames := 0, cells := 0, slots := 0, locals := 0 } : Room) s m ([.ref (ra r), .int (nI x)] : List Value).toArray below meth c s.heap [] 0 0 (MQ below (fun _ st o t => o = .returned (some (.int (rn_enc (rn_tO σ r x)))) ∧ t.heap = st.heap) ([.ref (ra r), .int (nI x)] : List Value).toArray s 0 0 (fun _ => False)) (F0 m 14 ls []) := by
      intro qs
      induction qs with
      | nil =>
        intro z hch hok hv ls hl
        have hz : z = none := hch
        subst hz
        have hl : lv_has ls 3 [(2, .null), (0, .ref (ra r)), (1, .int (nI x))] := hl
        refine lv_aload_nN hx hb dX3_toOuter_14 rfl (lv_at hl 0 rfl) ?_
        refine lv_ifnullN (tgt := 59) hx hb dX3_toOuter_15 (by decide) ?_
        refine lv_iconst (v := (-1)) hx hb dX3_toOuter_59 (by decide) ?_
        exact rn_iret hx hb hr rfl hlocks (by rw [rn_tO, if_neg h0, ← hv]; rfl) dX3_toOuter_60
      | cons q qs ih =>
        intro z hch hok hv ls hl
        obtain ⟨a, z2, rfl, ha, hch⟩ := hch
        have hok1 := hok q List.mem_cons_self
        have hok2 : ∀ q ∈ qs, rn_okL q := fun z hz => hok z (List.mem_cons_of_mem _ hz)
        obtain ⟨k1, k2, k3⟩ := hok1
        have hl : lv_has ls 3 [(2, .ref a), (0, .ref (ra r)), (1, .int (nI x))] := hl
        refine lv_aload_n hx hb dX3_toOuter_14 rfl (lv_at hl 0 rfl) ?_
        refine lv_ifnull hx hb dX3_toOuter_15 ?_
        refine lv_iload_n hx hb dX3_toOuter_18 rfl (lv_at hl 2 rfl) ?_
        refine lv_aload_n hx hb dX3_toOuter_19 rfl (lv_at hl 0 rfl) ?_
        refine rn_get (ci := 2) (v := .int (nI q.1)) (C := RX2) (T := TX2) (N := 4) hx hb hts iw_X3_toOuter_2 hown hG (hF _ _ ha) rfl 0 (by decide) fw_X3_toOuter_26 rfl dX3_toOuter_20 ?_
        refine lv_icmp_lt (tgt := 51) hx hb dX3_toOuter_23 (by decide) (fun c_23 => ?_) (fun c_23 => ?_)
        · have hq : ¬ (q.1 ≤ x ∧ x < q.1 + q.2.2) := fun h => by have := (nI_ltI (by omega) (by omega)).mp c_23; omega
          refine lv_aload_n hx hb dX3_toOuter_51 rfl (lv_at hl 0 rfl) ?_
          refine rn_get (ci := 2) (v := va_rf z2) (C := RX2) (T := TX2) (N := 4) hx hb hts iw_X3_toOuter_2 hown hG (hF _ _ ha) rfl 3 (by decide) fw_X3_toOuter_36 rfl dX3_toOuter_52 ?_
          refine rn_astore_n (lv' := [(2, va_rf z2), (0, .ref (ra r)), (1, .int (nI x))]) hx hb dX3_toOuter_55 rfl hl (by decide) rfl (fun ls hl => ?_)
          refine lv_goto (tgt := 14) hx hb dX3_toOuter_56 (by decide) ?_
          exact ih _ hch hok2 (by rw [← hv]; simp only [rn_to, if_neg hq]) ls (lv_sub hl [0, 1, 2] rfl)
        · have g1 : q.1 ≤ x := by rcases Nat.lt_or_ge x q.1 with h | h; exact absurd ((nI_ltI (by omega) (by omega)).mpr h) c_23; exact h
          refine lv_iload_n hx hb dX3_toOuter_26 rfl (lv_at hl 2 rfl) ?_
          refine lv_aload_n hx hb dX3_toOuter_27 rfl (lv_at hl 0 rfl) ?_
          refine rn_get (ci := 2) (v := .int (nI q.1)) (C := RX2) (T := TX2) (N := 4) hx hb hts iw_X3_toOuter_2 hown hG (hF _ _ ha) rfl 0 (by decide) fw_X3_toOuter_26 rfl dX3_toOuter_28 ?_
          refine lv_aload_n hx hb dX3_toOuter_31 rfl (lv_at hl 0 rfl) ?_
          refine rn_get (ci := 2) (v := .int (nI q.2.2)) (C := RX2) (T := TX2) (N := 4) hx hb hts iw_X3_toOuter_2 hown hG (hF _ _ ha) rfl 2 (by decide) fw_X3_toOuter_31 rfl dX3_toOuter_32 ?_
          refine lv_iadd hx hb dX3_toOuter_35 ?_
          refine rn_top (y := .int (nI (q.1 + q.2.2))) (congrArg Value.int (nI_add _ _)) ?_
          refine lv_icmp_ge (tgt := 51) hx hb dX3_toOuter_36 (by decide) (fun c_36 => ?_) (fun c_36 => ?_)
          · have hq : ¬ (q.1 ≤ x ∧ x < q.1 + q.2.2) := fun h => by have := (nI_leI (by omega) (by omega)).mp c_36; omega
            refine lv_aload_n hx hb dX3_toOuter_51 rfl (lv_at hl 0 rfl) ?_
            refine rn_get (ci := 2) (v := va_rf z2) (C := RX2) (T := TX2) (N := 4) hx hb hts iw_X3_toOuter_2 hown hG (hF _ _ ha) rfl 3 (by decide) fw_X3_toOuter_36 rfl dX3_toOuter_52 ?_
            refine rn_astore_n (lv' := [(2, va_rf z2), (0, .ref (ra r)), (1, .int (nI x))]) hx hb dX3_toOuter_55 rfl hl (by decide) rfl (fun ls hl => ?_)
            refine lv_goto (tgt := 14) hx hb dX3_toOuter_56 (by decide) ?_
            exact ih _ hch hok2 (by rw [← hv]; simp only [rn_to, if_neg hq]) ls (lv_sub hl [0, 1, 2] rfl)
          · have g2 : x < q.1 + q.2.2 := by rcases Nat.lt_or_ge x (q.1 + q.2.2) with h | h; exact h; exact absurd ((nI_leI (by omega) (by omega)).mpr h) c_36
            refine lv_aload_n hx hb dX3_toOuter_39 rfl (lv_at hl 0 rfl) ?_
            refine rn_get (ci := 2) (v := .int (nI q.2.1)) (C := RX2) (T := TX2) (N := 4) hx hb hts iw_X3_toOuter_2 hown hG (hF _ _ ha) rfl 1 (by decide) fw_X3_toOuter_34 rfl dX3_toOuter_40 ?_
            refine lv_iload_n hx hb dX3_toOuter_43 rfl (lv_at hl 2 rfl) ?_
            refine lv_aload_n hx hb dX3_toOuter_44 rfl (lv_at hl 0 rfl) ?_
            refine rn_get (ci := 2) (v := .int (nI q.1)) (C := RX2) (T := TX2) (N := 4) hx hb hts iw_X3_toOuter_2 hown hG (hF _ _ ha) rfl 0 (by decide) fw_X3_toOuter_26 rfl dX3_toOuter_45 ?_
            refine lv_isub hx hb dX3_toOuter_48 ?_
            refine rn_top (y := .int (nI (x - q.1))) (congrArg Value.int (pk_sub (by omega))) ?_
            refine lv_iadd hx hb dX3_toOuter_49 ?_
            refine rn_top (y := .int (nI (q.2.1 + (x - q.1)))) (congrArg Value.int (nI_add _ _)) ?_
            exact rn_iret hx hb hr rfl hlocks (by rw [rn_tO, if_neg h0, ← hv]; simp only [rn_to]; rw [if_pos ⟨g1, g2⟩]; rfl) dX3_toOuter_50
    exact loop (σ.sm r) (hd r) (hR.2 r hr0) hok rfl ls (lv_sub hl [0, 1, 2] rfl)
  · have h0 : r = 0 := by
      by_cases h : r = 0
      · exact h
      · rw [rn_ot_s _ _ h] at c_4; cases c_4
    refine lv_iload_n hx hb dX3_toOuter_7 rfl (lv_at hl 1 rfl) ?_
    exact rn_iret hx hb hr rfl hlocks (by rw [rn_tO, if_pos h0]; rfl) dX3_toOuter_8

set_option maxHeartbeats 4000000 in
set_option maxRecDepth 100000 in
/-- X3_fromOuter: what the map says, of a number of the room -/
theorem c_fromOuter (l : Launch) {D : va_G} {tys : List (ClassId × FieldType)} {f : rn_T} {σ : rn_St} {ra : Nat → Nat} {hd : Nat → Option Nat} (hV : rn_V σ) (hR : rn_Rm f σ ra hd) {r x : Nat} (hr0 : r < σ.sn) (hx0 : x ≤ 999) : rn_R l yX3_fromOuter wsX3_fromOuter ({ frames := 0, cells := 0, slots := 0, locals := 0 } : Room) D tys (rn_S D f) [.ref (ra r), .int (nI x)] (some (.int (nI (rn_fO σ r x)))) := by
  refine rn_R.ofW (cc := cX3_fromOuter) (maxL := 3) (ret := (some .int)) (by decide) rfl (Nat.le_of_ble_eq_true rfl) (fun p e s m below meth c ls hx hb hr hml hts hown hlocks hF hG hl => ?_)
  have hl : lv_has ls 3 [(0, .ref (ra r)), (1, .int (nI x))] := hl
  refine lv_aload_n hx hb dX3_fromOuter_0 rfl (lv_at hl 0 rfl) ?_
  refine rn_get (ci := 3) (v := va_rf (rn_ot σ ra r)) (C := RX3) (T := TX3) (N := 4) hx hb hts iw_X3_fromOuter_3 hown hG (hF _ _ (hR.1 r hr0)) rfl 1 (by decide) fw_X3_fromOuter_15 rfl dX3_fromOuter_1 ?_
  refine rn_ifnonnull (tgt := 9) hx hb dX3_fromOuter_4 (by decide) (fun z_4 c_4 => ?_) (fun c_4 => ?_)
  · have h0 : r ≠ 0 := fun h => by rw [h, rn_ot_0] at c_4; cases c_4
    refine lv_aload_n hx hb dX3_fromOuter_9 rfl (lv_at hl 0 rfl) ?_
    refine rn_get (ci := 3) (v := va_rf (hd r)) (C := RX3) (T := TX3) (N := 4) hx hb hts iw_X3_fromOuter_3 hown hG (hF _ _ (hR.1 r hr0)) rfl 3 (by decide) fw_X3_fromOuter_22 rfl dX3_fromOuter_10 ?_
    refine rn_astore_n (lv' := [(2, va_rf (hd r)), (0, .ref (ra r)), (1, .int (nI x))]) hx hb dX3_fromOuter_13 rfl hl (by decide) rfl (fun ls hl => ?_)
    have hok : ∀ q ∈ σ.sm r, rn_okL q := (hV.2.2.1 r hr0).1
    have loop : ∀ (qs : List rn_Ln) (z : Option Nat), rn_ch f qs z → (∀ q ∈ qs, rn_okL q) → rn_from qs x = rn_from (σ.sm r) x → ∀ (ls : Array Slot), lv_has ls 3 [(2, va_rf z), (0, .ref (ra r)), (1, .int (nI x))] → W p l e ({ frames := 0, cells := 0, slots := 0, locals := 0 } : Room) s m ([.ref (ra r), .int (nI x)] : List Value).toArray below meth c s.heap [] 0 0 (MQ below (fun _ st o t => o = .returned (some (.int (nI (rn_fO σ r x)))) ∧ t.heap = st.heap) ([.ref (ra r), .int (nI x)] : List Value).toArray s 0 0 (fun _ => False)) (F0 m 14 ls []) := by
      intro qs
      induction qs with
      | nil =>
        intro z hch hok hv ls hl
        have hz : z = none := hch
        subst hz
        have hl : lv_has ls 3 [(2, .null), (0, .ref (ra r)), (1, .int (nI x))] := hl
        refine lv_aload_nN hx hb dX3_fromOuter_14 rfl (lv_at hl 0 rfl) ?_
        refine lv_ifnullN (tgt := 59) hx hb dX3_fromOuter_15 (by decide) ?_
        refine lv_sipush (v := 999) hx hb dX3_fromOuter_59 (by decide +kernel) ?_
        exact rn_iret hx hb hr rfl hlocks (by rw [rn_fO, if_neg h0, ← hv]; rfl) dX3_fromOuter_62
      | cons q qs ih =>
        intro z hch hok hv ls hl
        obtain ⟨a, z2, rfl, ha, hch⟩ := hch
        have hok1 := hok q List.mem_cons_self
        have hok2 : ∀ q ∈ qs, rn_okL q := fun z hz => hok z (List.mem_cons_of_mem _ hz)
        obtain ⟨k1, k2, k3⟩ := hok1
        have hl : lv_has ls 3 [(2, .ref a), (0, .ref (ra r)), (1, .int (nI x))] := hl
        refine lv_aload_n hx hb dX3_fromOuter_14 rfl (lv_at hl 0 rfl) ?_
        refine lv_ifnull hx hb dX3_fromOuter_15 ?_
        refine lv_iload_n hx hb dX3_fromOuter_18 rfl (lv_at hl 2 rfl) ?_
        refine lv_aload_n hx hb dX3_fromOuter_19 rfl (lv_at hl 0 rfl) ?_
        refine rn_get (ci := 2) (v := .int (nI q.2.1)) (C := RX2) (T := TX2) (N := 4) hx hb hts iw_X3_fromOuter_2 hown hG (hF _ _ ha) rfl 1 (by decide) fw_X3_fromOuter_34 rfl dX3_fromOuter_20 ?_
        refine lv_icmp_lt (tgt := 51) hx hb dX3_fromOuter_23 (by decide) (fun c_23 => ?_) (fun c_23 => ?_)
        · have hq : ¬ (q.2.1 ≤ x ∧ x < q.2.1 + q.2.2) := fun h => by have := (nI_ltI (by omega) (by omega)).mp c_23; omega
          refine lv_aload_n hx hb dX3_fromOuter_51 rfl (lv_at hl 0 rfl) ?_
          refine rn_get (ci := 2) (v := va_rf z2) (C := RX2) (T := TX2) (N := 4) hx hb hts iw_X3_fromOuter_2 hown hG (hF _ _ ha) rfl 3 (by decide) fw_X3_fromOuter_36 rfl dX3_fromOuter_52 ?_
          refine rn_astore_n (lv' := [(2, va_rf z2), (0, .ref (ra r)), (1, .int (nI x))]) hx hb dX3_fromOuter_55 rfl hl (by decide) rfl (fun ls hl => ?_)
          refine lv_goto (tgt := 14) hx hb dX3_fromOuter_56 (by decide) ?_
          exact ih _ hch hok2 (by rw [← hv]; simp only [rn_from, if_neg hq]) ls (lv_sub hl [0, 1, 2] rfl)
        · have g1 : q.2.1 ≤ x := by rcases Nat.lt_or_ge x q.2.1 with h | h; exact absurd ((nI_ltI (by omega) (by omega)).mpr h) c_23; exact h
          refine lv_iload_n hx hb dX3_fromOuter_26 rfl (lv_at hl 2 rfl) ?_
          refine lv_aload_n hx hb dX3_fromOuter_27 rfl (lv_at hl 0 rfl) ?_
          refine rn_get (ci := 2) (v := .int (nI q.2.1)) (C := RX2) (T := TX2) (N := 4) hx hb hts iw_X3_fromOuter_2 hown hG (hF _ _ ha) rfl 1 (by decide) fw_X3_fromOuter_34 rfl dX3_fromOuter_28 ?_
          refine lv_aload_n hx hb dX3_fromOuter_31 rfl (lv_at hl 0 rfl) ?_
          refine rn_get (ci := 2) (v := .int (nI q.2.2)) (C := RX2) (T := TX2) (N := 4) hx hb hts iw_X3_fromOuter_2 hown hG (hF _ _ ha) rfl 2 (by decide) fw_X3_fromOuter_31 rfl dX3_fromOuter_32 ?_
          refine lv_iadd hx hb dX3_fromOuter_35 ?_
          refine rn_top (y := .int (nI (q.2.1 + q.2.2))) (congrArg Value.int (nI_add _ _)) ?_
          refine lv_icmp_ge (tgt := 51) hx hb dX3_fromOuter_36 (by decide) (fun c_36 => ?_) (fun c_36 => ?_)
          · have hq : ¬ (q.2.1 ≤ x ∧ x < q.2.1 + q.2.2) := fun h => by have := (nI_leI (by omega) (by omega)).mp c_36; omega
            refine lv_aload_n hx hb dX3_fromOuter_51 rfl (lv_at hl 0 rfl) ?_
            refine rn_get (ci := 2) (v := va_rf z2) (C := RX2) (T := TX2) (N := 4) hx hb hts iw_X3_fromOuter_2 hown hG (hF _ _ ha) rfl 3 (by decide) fw_X3_fromOuter_36 rfl dX3_fromOuter_52 ?_
            refine rn_astore_n (lv' := [(2, va_rf z2), (0, .ref (ra r)), (1, .int (nI x))]) hx hb dX3_fromOuter_55 rfl hl (by decide) rfl (fun ls hl => ?_)
            refine lv_goto (tgt := 14) hx hb dX3_fromOuter_56 (by decide) ?_
            exact ih _ hch hok2 (by rw [← hv]; simp only [rn_from, if_neg hq]) ls (lv_sub hl [0, 1, 2] rfl)
          · have g2 : x < q.2.1 + q.2.2 := by rcases Nat.lt_or_ge x (q.2.1 + q.2.2) with h | h; exact h; exact absurd ((nI_leI (by omega) (by omega)).mpr h) c_36
            refine lv_aload_n hx hb dX3_fromOuter_39 rfl (lv_at hl 0 rfl) ?_
            refine rn_get (ci := 2) (v := .int (nI q.1)) (C := RX2) (T := TX2) (N := 4) hx hb hts iw_X3_fromOuter_2 hown hG (hF _ _ ha) rfl 0 (by decide) fw_X3_fromOuter_26 rfl dX3_fromOuter_40 ?_
            refine lv_iload_n hx hb dX3_fromOuter_43 rfl (lv_at hl 2 rfl) ?_
            refine lv_aload_n hx hb dX3_fromOuter_44 rfl (lv_at hl 0 rfl) ?_
            refine rn_get (ci := 2) (v := .int (nI q.2.1)) (C := RX2) (T := TX2) (N := 4) hx hb hts iw_X3_fromOuter_2 hown hG (hF _ _ ha) rfl 1 (by decide) fw_X3_fromOuter_34 rfl dX3_fromOuter_45 ?_
            refine lv_isub hx hb dX3_fromOuter_48 ?_
            refine rn_top (y := .int (nI (x - q.2.1))) (congrArg Value.int (pk_sub (by omega))) ?_
            refine lv_iadd hx hb dX3_fromOuter_49 ?_
            refine rn_top (y := .int (nI (q.1 + (x - q.2.1)))) (congrArg Value.int (nI_add _ _)) ?_
            exact rn_iret hx hb hr rfl hlocks (by rw [rn_fO, if_neg h0, ← hv]; simp only [rn_from]; rw [if_pos ⟨g1, g2⟩]; rfl) dX3_fromOuter_50
    exact loop (σ.sm r) (hd r) (hR.2 r hr0) hok rfl ls (lv_sub hl [0, 1, 2] rfl)
  · have h0 : r = 0 := by
      by_cases h : r = 0
      · exact h
      · rw [rn_ot_s _ _ h] at c_4; cases c_4
    refine lv_iload_n hx hb dX3_fromOuter_7 rfl (lv_at hl 1 rfl) ?_
    exact rn_iret hx hb hr rfl hlocks (by rw [rn_fO, if_pos h0]) dX3_fromOuter_8
