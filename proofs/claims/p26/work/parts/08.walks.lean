set_option maxHeartbeats 4000000 in
set_option maxRecDepth 100000 in
/-- leadOut: where a number of a room leads -/
theorem c_leadOut (l : Launch) {D : va_G} {tys : List (ClassId × FieldType)} {f : rn_T} {σ : rn_St} {ra : Nat → Nat} {hd : Nat → Option Nat} (hV : rn_V σ) (hR : rn_Rm f σ ra hd) {r x : Nat} (hr0 : r < σ.sn) (hx0 : x ≤ 998) : rn_R l yX4_leadOut wsX4_leadOut ({ frames := 1, cells := 0, slots := 0, locals := 22 } : Room) D tys (rn_S D f) [.ref (ra r), .int (nI x)] (some (.int (rn_enc (rn_lead σ r x)))) := by
  refine rn_R.ofW (cc := cX4_leadOut) (maxL := 4) (ret := (some .int)) (by decide) rfl (Nat.le_of_ble_eq_true rfl) (fun p e s m below meth c ls hx hb hr hml hts hown hlocks hF hG hl => ?_)
  have hl : lv_has ls 4 [(0, .ref (ra r)), (1, .int (nI x))] := hl
  refine lv_iload_n hx hb dX4_leadOut_0 rfl (lv_at hl 1 rfl) ?_
  refine lv_istore_n (lv' := [(2, .int (nI x)), (0, .ref (ra r)), (1, .int (nI x))]) hx hb dX4_leadOut_1 rfl hl (by decide) rfl (fun ls hl => ?_)
  refine lv_aload_n hx hb dX4_leadOut_2 rfl (lv_at hl 1 rfl) ?_
  refine lv_astore_n (lv' := [(3, .ref (ra r)), (2, .int (nI x)), (0, .ref (ra r)), (1, .int (nI x))]) hx hb dX4_leadOut_3 rfl hl (by decide) rfl (fun ls hl => ?_)
  have loop : ∀ (k : Nat) (at_ led : Option Nat), (∀ i, at_ = some i → i < σ.sn ∧ i < k) → (∀ y, led = some y → y ≤ 998) → rn_go σ at_ led = rn_lead σ r x → ∀ (ls : Array Slot), lv_has ls 4 [(3, va_rf (at_.map ra)), (2, .int (rn_enc led)), (0, .ref (ra r)), (1, .int (nI x))] → W p l e ({ frames := 1, cells := 0, slots := 0, locals := 22 } : Room) s m ([.ref (ra r), .int (nI x)] : List Value).toArray below meth c s.heap [] 0 0 (MQ below (fun _ st o t => o = .returned (some (.int (rn_enc (rn_lead σ r x)))) ∧ t.heap = st.heap) ([.ref (ra r), .int (nI x)] : List Value).toArray s 0 0 (fun _ => False)) (F0 m 4 ls []) := by
    intro k
    induction k with
    | zero =>
      intro at_ led hat hled hgo ls hl
      cases at_ with
      | none =>
        have hl : lv_has ls 4 [(3, .null), (2, .int (rn_enc led)), (0, .ref (ra r)), (1, .int (nI x))] := hl
        refine lv_aload_nN hx hb dX4_leadOut_4 rfl (lv_at hl 0 rfl) ?_
        refine lv_ifnullN (tgt := 27) hx hb dX4_leadOut_5 (by decide) ?_
        refine lv_iload_n hx hb dX4_leadOut_27 rfl (lv_at hl 1 rfl) ?_
        exact rn_iret hx hb hr rfl hlocks (by rw [show led = rn_lead σ r x from hgo]) dX4_leadOut_28
      | some i =>
        exact absurd (hat i rfl).2 (Nat.not_lt_zero _)
    | succ k ih =>
      intro at_ led hat hled hgo ls hl
      cases at_ with
      | none =>
        have hl : lv_has ls 4 [(3, .null), (2, .int (rn_enc led)), (0, .ref (ra r)), (1, .int (nI x))] := hl
        refine lv_aload_nN hx hb dX4_leadOut_4 rfl (lv_at hl 0 rfl) ?_
        refine lv_ifnullN (tgt := 27) hx hb dX4_leadOut_5 (by decide) ?_
        refine lv_iload_n hx hb dX4_leadOut_27 rfl (lv_at hl 1 rfl) ?_
        exact rn_iret hx hb hr rfl hlocks (by rw [show led = rn_lead σ r x from hgo]) dX4_leadOut_28
      | some i =>
        obtain ⟨hi, hk⟩ := hat i rfl
        cases led with
        | none =>
          have hl : lv_has ls 4 [(3, .ref (ra i)), (2, .int (-1)), (0, .ref (ra r)), (1, .int (nI x))] := hl
          refine lv_aload_n hx hb dX4_leadOut_4 rfl (lv_at hl 0 rfl) ?_
          refine lv_ifnull hx hb dX4_leadOut_5 ?_
          refine lv_iload_n hx hb dX4_leadOut_8 rfl (lv_at hl 1 rfl) ?_
          refine lv_iconst (v := (-1)) hx hb dX4_leadOut_9 (by decide) ?_
          refine lv_icmp_eq (tgt := 27) hx hb dX4_leadOut_10 (by decide) (fun c_10 => ?_) (fun c_10 => ?_)
          · refine lv_iload_n hx hb dX4_leadOut_27 rfl (lv_at hl 1 rfl) ?_
            exact rn_iret hx hb hr rfl hlocks (by rw [← (show none = rn_lead σ r x from hgo)]; rfl) dX4_leadOut_28
          · exact absurd rfl c_10
        | some y =>
          have hy : y ≤ 998 := hled y rfl
          have hl : lv_has ls 4 [(3, .ref (ra i)), (2, .int (nI y)), (0, .ref (ra r)), (1, .int (nI x))] := hl
          refine lv_aload_n hx hb dX4_leadOut_4 rfl (lv_at hl 0 rfl) ?_
          refine lv_ifnull hx hb dX4_leadOut_5 ?_
          refine lv_iload_n hx hb dX4_leadOut_8 rfl (lv_at hl 1 rfl) ?_
          refine lv_iconst (v := (-1)) hx hb dX4_leadOut_9 (by decide) ?_
          refine lv_icmp_eq (tgt := 27) hx hb dX4_leadOut_10 (by decide) (fun c_10 => ?_) (fun c_10 => ?_)
          · exact absurd c_10 (rn_nI_m1 (by omega))
          · refine lv_aload_n hx hb dX4_leadOut_13 rfl (lv_at hl 0 rfl) ?_
            refine lv_iload_n hx hb dX4_leadOut_14 rfl (lv_at hl 1 rfl) ?_
            refine rn_cV (As := [.int (nI y)]) (rest := []) 1 hx hb hml hown hts hG (c_toOuter l hV hR hi hy) gX4_leadOut_X3_toOuter rfl ⟨rfl, rfl⟩ (by decide +kernel) ⟨Nat.le_of_ble_eq_true rfl, Nat.le_of_ble_eq_true rfl⟩ hF (hF _ _ (hR.1 i hi)) rfl rfl hl.1 rfl (Nat.le_of_ble_eq_true rfl) ⟨Nat.zero_le _, Nat.zero_le _⟩ dX4_leadOut_15 ?_
            refine W.eq (g2 := F0 m 18 ls [.int (rn_enc (rn_tO σ i y))]) rfl ?_
            refine lv_istore_n (lv' := [(2, .int (rn_enc (rn_tO σ i y))), (3, .ref (ra i)), (0, .ref (ra r)), (1, .int (nI x))]) hx hb dX4_leadOut_18 rfl hl (by decide) rfl (fun ls hl => ?_)
            refine lv_aload_n hx hb dX4_leadOut_19 rfl (lv_at hl 1 rfl) ?_
            refine rn_get (ci := 3) (v := va_rf (rn_ot σ ra i)) (C := RX3) (T := TX3) (N := 4) hx hb hts iw_X4_leadOut_3 hown hG (hF _ _ (hR.1 i hi)) rfl 1 (by decide) fw_X4_leadOut_100 rfl dX4_leadOut_20 ?_
            refine rn_astore_n (lv' := [(3, va_rf (rn_ot σ ra i)), (2, .int (rn_enc (rn_tO σ i y))), (0, .ref (ra r)), (1, .int (nI x))]) hx hb dX4_leadOut_23 rfl hl (by decide) rfl (fun ls hl => ?_)
            refine lv_goto (tgt := 4) hx hb dX4_leadOut_24 (by decide) ?_
            rw [rn_ot_nx] at hl
            exact ih _ _ (rn_nx_lt hV hi hk) (fun z hz => rn_tO_in hV hi hy hz) (by rw [rn_go_s hV hi]; exact hgo) ls (lv_sub hl [0, 1, 2, 3] rfl)
  exact loop σ.sn (some r) (some x) (fun i h => by cases h; exact ⟨hr0, hr0⟩) (fun y h => by cases h; exact hx0) rfl ls (lv_sub hl [0, 1, 2, 3] rfl)

set_option maxHeartbeats 4000000 in
set_option maxRecDepth 100000 in
theorem c_isOrIsInside_n (l : Launch) {D : va_G} {tys : List (ClassId × FieldType)} {f : rn_T} {σ : rn_St} {ra : Nat → Nat} {hd : Nat → Option Nat} (hV : rn_V σ) (hR : rn_Rm f σ ra hd) {b : Nat} : rn_R l yX4_isOrIsInside wsX4_isOrIsInside ({ frames := 0, cells := 0, slots := 0, locals := 0 } : Room) D tys (rn_S D f) [.null, .ref (ra b)] (some (.int (rn_b (rn_insO σ b none)))) := by
  refine rn_R.ofW (cc := cX4_isOrIsInside) (maxL := 3) (ret := (some .boolean)) (by decide) rfl (Nat.le_of_ble_eq_true rfl) (fun p e s m below meth c ls hx hb hr hml hts hown hlocks hF hG hl => ?_)
  have hl : lv_has ls 3 [(0, .null), (1, .ref (ra b))] := hl
  refine lv_aload_nN hx hb dX4_isOrIsInside_0 rfl (lv_at hl 0 rfl) ?_
  refine lv_astore_nN (lv' := [(2, .null), (0, .null), (1, .ref (ra b))]) hx hb dX4_isOrIsInside_1 rfl hl (by decide) rfl (fun ls hl => ?_)
  refine lv_aload_nN hx hb dX4_isOrIsInside_2 rfl (lv_at hl 0 rfl) ?_
  refine lv_ifnullN (tgt := 21) hx hb dX4_isOrIsInside_3 (by decide) ?_
  refine lv_iconst (v := 0) hx hb dX4_isOrIsInside_21 (by decide) ?_
  exact rn_iret hx hb hr rfl hlocks rfl dX4_isOrIsInside_22

set_option maxHeartbeats 4000000 in
set_option maxRecDepth 100000 in
theorem c_isOrIsInside_s (l : Launch) {D : va_G} {tys : List (ClassId × FieldType)} {f : rn_T} {σ : rn_St} {ra : Nat → Nat} {hd : Nat → Option Nat} (hV : rn_V σ) (hR : rn_Rm f σ ra hd) {r b : Nat} (hr0 : r < σ.sn) (hb0 : b < σ.sn) : rn_R l yX4_isOrIsInside wsX4_isOrIsInside ({ frames := 0, cells := 0, slots := 0, locals := 0 } : Room) D tys (rn_S D f) [.ref (ra r), .ref (ra b)] (some (.int (rn_b (rn_insO σ b (some r))))) := by
  refine rn_R.ofW (cc := cX4_isOrIsInside) (maxL := 3) (ret := (some .boolean)) (by decide) rfl (Nat.le_of_ble_eq_true rfl) (fun p e s m below meth c ls hx hb hr hml hts hown hlocks hF hG hl => ?_)
  have hl : lv_has ls 3 [(0, .ref (ra r)), (1, .ref (ra b))] := hl
  refine lv_aload_n hx hb dX4_isOrIsInside_0 rfl (lv_at hl 0 rfl) ?_
  refine lv_astore_n (lv' := [(2, .ref (ra r)), (0, .ref (ra r)), (1, .ref (ra b))]) hx hb dX4_isOrIsInside_1 rfl hl (by decide) rfl (fun ls hl => ?_)
  have loop : ∀ (k : Nat) (at_ : Option Nat), (∀ i, at_ = some i → i < σ.sn ∧ i < k) → rn_insO σ b at_ = rn_insO σ b (some r) → ∀ (ls : Array Slot), lv_has ls 3 [(2, va_rf (at_.map ra)), (0, .ref (ra r)), (1, .ref (ra b))] → W p l e ({ frames := 0, cells := 0, slots := 0, locals := 0 } : Room) s m ([.ref (ra r), .ref (ra b)] : List Value).toArray below meth c s.heap [] 0 0 (MQ below (fun _ st o t => o = .returned (some (.int (rn_b (rn_insO σ b (some r))))) ∧ t.heap = st.heap) ([.ref (ra r), .ref (ra b)] : List Value).toArray s 0 0 (fun _ => False)) (F0 m 2 ls []) := by
    intro k
    induction k with
    | zero =>
      intro at_ hat hgo ls hl
      cases at_ with
      | none =>
        have hl : lv_has ls 3 [(2, .null), (0, .ref (ra r)), (1, .ref (ra b))] := hl
        refine lv_aload_nN hx hb dX4_isOrIsInside_2 rfl (lv_at hl 0 rfl) ?_
        refine lv_ifnullN (tgt := 21) hx hb dX4_isOrIsInside_3 (by decide) ?_
        refine lv_iconst (v := 0) hx hb dX4_isOrIsInside_21 (by decide) ?_
        exact rn_iret hx hb hr rfl hlocks (by rw [← hgo]; rfl) dX4_isOrIsInside_22
      | some i =>
        exact absurd (hat i rfl).2 (Nat.not_lt_zero _)
    | succ k ih =>
      intro at_ hat hgo ls hl
      cases at_ with
      | none =>
        have hl : lv_has ls 3 [(2, .null), (0, .ref (ra r)), (1, .ref (ra b))] := hl
        refine lv_aload_nN hx hb dX4_isOrIsInside_2 rfl (lv_at hl 0 rfl) ?_
        refine lv_ifnullN (tgt := 21) hx hb dX4_isOrIsInside_3 (by decide) ?_
        refine lv_iconst (v := 0) hx hb dX4_isOrIsInside_21 (by decide) ?_
        exact rn_iret hx hb hr rfl hlocks (by rw [← hgo]; rfl) dX4_isOrIsInside_22
      | some i =>
        obtain ⟨hi, hk⟩ := hat i rfl
        have hl : lv_has ls 3 [(2, .ref (ra i)), (0, .ref (ra r)), (1, .ref (ra b))] := hl
        refine lv_aload_n hx hb dX4_isOrIsInside_2 rfl (lv_at hl 0 rfl) ?_
        refine lv_ifnull hx hb dX4_isOrIsInside_3 ?_
        refine lv_aload_n hx hb dX4_isOrIsInside_6 rfl (lv_at hl 0 rfl) ?_
        refine lv_aload_n hx hb dX4_isOrIsInside_7 rfl (lv_at hl 2 rfl) ?_
        refine lv_acmp_ne (rx := (some (ra i))) (ry := (some (ra b))) (tgt := 13) hx hb dX4_isOrIsInside_8 (by decide) (fun c_8 => ?_) (fun c_8 => ?_)
        · have hib : i ≠ b := fun h => c_8 (by rw [h])
          refine lv_aload_n hx hb dX4_isOrIsInside_13 rfl (lv_at hl 0 rfl) ?_
          refine rn_get (ci := 3) (v := va_rf (rn_ot σ ra i)) (C := RX3) (T := TX3) (N := 4) hx hb hts iw_X4_isOrIsInside_3 hown hG (hF _ _ (hR.1 i hi)) rfl 1 (by decide) fw_X4_isOrIsInside_100 rfl dX4_isOrIsInside_14 ?_
          refine rn_astore_n (lv' := [(2, va_rf (rn_ot σ ra i)), (0, .ref (ra r)), (1, .ref (ra b))]) hx hb dX4_isOrIsInside_17 rfl hl (by decide) rfl (fun ls hl => ?_)
          refine lv_goto (tgt := 2) hx hb dX4_isOrIsInside_18 (by decide) ?_
          rw [rn_ot_nx] at hl
          exact ih _ (rn_nx_lt hV hi hk) ((rn_insO_s hV hi hib).trans hgo) ls (lv_sub hl [0, 1, 2] rfl)
        · have hib : i = b := rn_ra_inj hV hR hi hb0 (Option.some.inj c_8)
          subst hib
          refine lv_iconst (v := 1) hx hb dX4_isOrIsInside_11 (by decide) ?_
          exact rn_iret hx hb hr rfl hlocks (by rw [← hgo, rn_insO_self hV hi]; rfl) dX4_isOrIsInside_12
  exact loop σ.sn (some r) (fun i h => by cases h; exact ⟨hr0, hr0⟩) rfl ls (lv_sub hl [0, 1, 2] rfl)

theorem c_isOrIsInside (l : Launch) {D : va_G} {tys : List (ClassId × FieldType)} {f : rn_T} {σ : rn_St} {ra : Nat → Nat} {hd : Nat → Option Nat} (hV : rn_V σ) (hR : rn_Rm f σ ra hd) (a : Option Nat) {b : Nat} (ha0 : ∀ i, a = some i → i < σ.sn) (hb0 : b < σ.sn) : rn_R l yX4_isOrIsInside wsX4_isOrIsInside ({ frames := 0, cells := 0, slots := 0, locals := 0 } : Room) D tys (rn_S D f) [va_rf (a.map ra), .ref (ra b)] (some (.int (rn_b (rn_insO σ b a)))) := by
  cases a with
  | none => exact c_isOrIsInside_n l hV hR
  | some r => exact c_isOrIsInside_s l hV hR (ha0 r rfl) hb0

set_option maxHeartbeats 4000000 in
set_option maxRecDepth 100000 in
theorem c_countOf_n (l : Launch) {D : va_G} {tys : List (ClassId × FieldType)} {f : rn_T} : rn_R l yX4_countOf wsX4_countOf ({ frames := 0, cells := 0, slots := 0, locals := 0 } : Room) D tys (rn_S D f) [.null] (some (.int (nI 0))) := by
  refine rn_R.ofW (cc := cX4_countOf) (maxL := 3) (ret := (some .int)) (by decide) rfl (Nat.le_of_ble_eq_true rfl) (fun p e s m below meth c ls hx hb hr hml hts hown hlocks hF hG hl => ?_)
  have hl : lv_has ls 3 [(0, .null)] := hl
  refine lv_iconst (v := 0) hx hb dX4_countOf_0 (by decide) ?_
  refine lv_istore_n (lv' := [(1, .int 0), (0, .null)]) hx hb dX4_countOf_1 rfl hl (by decide) rfl (fun ls hl => ?_)
  refine lv_aload_nN hx hb dX4_countOf_2 rfl (lv_at hl 1 rfl) ?_
  refine lv_astore_nN (lv' := [(2, .null), (1, .int 0), (0, .null)]) hx hb dX4_countOf_3 rfl hl (by decide) rfl (fun ls hl => ?_)
  refine lv_aload_nN hx hb dX4_countOf_4 rfl (lv_at hl 0 rfl) ?_
  refine lv_ifnullN (tgt := 19) hx hb dX4_countOf_5 (by decide) ?_
  refine lv_iload_n hx hb dX4_countOf_19 rfl (lv_at hl 1 rfl) ?_
  exact rn_iret hx hb hr rfl hlocks rfl dX4_countOf_20

set_option maxHeartbeats 4000000 in
set_option maxRecDepth 100000 in
theorem c_countOf_s (l : Launch) {D : va_G} {tys : List (ClassId × FieldType)} {f : rn_T} {Ls : List rn_Ln} {a0 : Nat} (hch0 : rn_ch f Ls (some a0)) : rn_R l yX4_countOf wsX4_countOf ({ frames := 0, cells := 0, slots := 0, locals := 0 } : Room) D tys (rn_S D f) [.ref a0] (some (.int (nI Ls.length))) := by
  refine rn_R.ofW (cc := cX4_countOf) (maxL := 3) (ret := (some .int)) (by decide) rfl (Nat.le_of_ble_eq_true rfl) (fun p e s m below meth c ls hx hb hr hml hts hown hlocks hF hG hl => ?_)
  have hl : lv_has ls 3 [(0, .ref a0)] := hl
  refine lv_iconst (v := 0) hx hb dX4_countOf_0 (by decide) ?_
  refine lv_istore_n (lv' := [(1, .int 0), (0, .ref a0)]) hx hb dX4_countOf_1 rfl hl (by decide) rfl (fun ls hl => ?_)
  refine lv_aload_n hx hb dX4_countOf_2 rfl (lv_at hl 1 rfl) ?_
  refine lv_astore_n (lv' := [(2, .ref a0), (1, .int 0), (0, .ref a0)]) hx hb dX4_countOf_3 rfl hl (by decide) rfl (fun ls hl => ?_)
  have loop : ∀ (qs : List rn_Ln) (z : Option Nat) (j : Nat), rn_ch f qs z → j + qs.length = Ls.length → ∀ (ls : Array Slot), lv_has ls 3 [(2, va_rf z), (1, .int (nI j)), (0, .ref a0)] → W p l e ({ frames := 0, cells := 0, slots := 0, locals := 0 } : Room) s m ([.ref a0] : List Value).toArray below meth c s.heap [] 0 0 (MQ below (fun _ st o t => o = .returned (some (.int (nI Ls.length))) ∧ t.heap = st.heap) ([.ref a0] : List Value).toArray s 0 0 (fun _ => False)) (F0 m 4 ls []) := by
    intro qs
    induction qs with
    | nil =>
      intro z j hch hj ls hl
      have hz : z = none := hch
      subst hz
      have hl : lv_has ls 3 [(2, .null), (1, .int (nI j)), (0, .ref a0)] := hl
      refine lv_aload_nN hx hb dX4_countOf_4 rfl (lv_at hl 0 rfl) ?_
      refine lv_ifnullN (tgt := 19) hx hb dX4_countOf_5 (by decide) ?_
      refine lv_iload_n hx hb dX4_countOf_19 rfl (lv_at hl 1 rfl) ?_
      exact rn_iret hx hb hr rfl hlocks (by rw [← hj]; rfl) dX4_countOf_20
    | cons q qs ih =>
      intro z j hch hj ls hl
      obtain ⟨a, z2, rfl, ha, hch⟩ := hch
      have hl : lv_has ls 3 [(2, .ref a), (1, .int (nI j)), (0, .ref a0)] := hl
      refine lv_aload_n hx hb dX4_countOf_4 rfl (lv_at hl 0 rfl) ?_
      refine lv_ifnull hx hb dX4_countOf_5 ?_
      refine lv_iinc (v := (nI (j + 1))) (lv' := [(1, .int (nI (j + 1))), (2, .ref a), (0, .ref a0)]) hx hb dX4_countOf_8 hl (k := 1) rfl (nI_1 j) (by decide) rfl (fun ls hl => ?_)
      refine lv_aload_n hx hb dX4_countOf_11 rfl (lv_at hl 1 rfl) ?_
      refine rn_get (ci := 2) (v := va_rf z2) (C := RX2) (T := TX2) (N := 4) hx hb hts iw_X4_countOf_2 hown hG (hF _ _ ha) rfl 3 (by decide) fw_X4_countOf_188 rfl dX4_countOf_12 ?_
      refine rn_astore_n (lv' := [(2, va_rf z2), (1, .int (nI (j + 1))), (0, .ref a0)]) hx hb dX4_countOf_15 rfl hl (by decide) rfl (fun ls hl => ?_)
      refine lv_goto (tgt := 4) hx hb dX4_countOf_16 (by decide) ?_
      exact ih _ (j + 1) hch (by rw [← hj, List.length_cons]; omega) ls (lv_sub hl [0, 1, 2] rfl)
  exact loop Ls (some a0) 0 hch0 (Nat.zero_add _) ls (lv_sub hl [0, 1, 2] rfl)

theorem c_countOf (l : Launch) {D : va_G} {tys : List (ClassId × FieldType)} {f : rn_T} {Ls : List rn_Ln} {z : Option Nat} (hch0 : rn_ch f Ls z) : rn_R l yX4_countOf wsX4_countOf ({ frames := 0, cells := 0, slots := 0, locals := 0 } : Room) D tys (rn_S D f) [va_rf z] (some (.int (nI Ls.length))) := by
  cases z with
  | none =>
    cases Ls with
    | nil => exact c_countOf_n l
    | cons q r => obtain ⟨a, z2, h, -⟩ := hch0; cases h
  | some a => exact c_countOf_s l hch0

set_option maxHeartbeats 4000000 in
set_option maxRecDepth 100000 in
theorem c_numberOrNone_n (l : Launch) {D : va_G} {tys : List (ClassId × FieldType)} {f : rn_T} {σ : rn_St} {ra : Nat → Nat} {hd : Nat → Option Nat} (hV : rn_V σ) (hR : rn_Rm f σ ra hd) : rn_R l yX4_numberOrNone wsX4_numberOrNone ({ frames := 0, cells := 0, slots := 0, locals := 0 } : Room) D tys (rn_S D f) [.null] (some (.int (rn_enc none))) := by
  refine rn_R.ofW (cc := cX4_numberOrNone) (maxL := 1) (ret := (some .int)) (by decide) rfl (Nat.le_of_ble_eq_true rfl) (fun p e s m below meth c ls hx hb hr hml hts hown hlocks hF hG hl => ?_)
  have hl : lv_has ls 1 [(0, .null)] := hl
  refine lv_aload_nN hx hb dX4_numberOrNone_0 rfl (lv_at hl 0 rfl) ?_
  refine lv_ifnonnullN hx hb dX4_numberOrNone_1 ?_
  refine lv_iconst (v := (-1)) hx hb dX4_numberOrNone_4 (by decide) ?_
  refine lv_goto (tgt := 12) hx hb dX4_numberOrNone_5 (by decide) ?_
  exact rn_iret hx hb hr rfl hlocks rfl dX4_numberOrNone_12

set_option maxHeartbeats 4000000 in
set_option maxRecDepth 100000 in
theorem c_numberOrNone_s (l : Launch) {D : va_G} {tys : List (ClassId × FieldType)} {f : rn_T} {σ : rn_St} {ra : Nat → Nat} {hd : Nat → Option Nat} (hV : rn_V σ) (hR : rn_Rm f σ ra hd) {r : Nat} (hr0 : r < σ.sn) : rn_R l yX4_numberOrNone wsX4_numberOrNone ({ frames := 0, cells := 0, slots := 0, locals := 0 } : Room) D tys (rn_S D f) [.ref (ra r)] (some (.int (rn_enc (some r)))) := by
  refine rn_R.ofW (cc := cX4_numberOrNone) (maxL := 1) (ret := (some .int)) (by decide) rfl (Nat.le_of_ble_eq_true rfl) (fun p e s m below meth c ls hx hb hr hml hts hown hlocks hF hG hl => ?_)
  have hl : lv_has ls 1 [(0, .ref (ra r))] := hl
  refine lv_aload_n hx hb dX4_numberOrNone_0 rfl (lv_at hl 0 rfl) ?_
  refine lv_ifnonnull (tgt := 8) hx hb dX4_numberOrNone_1 (by decide) ?_
  refine lv_aload_n hx hb dX4_numberOrNone_8 rfl (lv_at hl 0 rfl) ?_
  refine rn_get (ci := 3) (v := .int (nI r)) (C := RX3) (T := TX3) (N := 4) hx hb hts iw_X4_numberOrNone_3 hown hG (hF _ _ (hR.1 r hr0)) rfl 0 (by decide) fw_X4_numberOrNone_75 rfl dX4_numberOrNone_9 ?_
  exact rn_iret hx hb hr rfl hlocks rfl dX4_numberOrNone_12

theorem c_numberOrNone (l : Launch) {D : va_G} {tys : List (ClassId × FieldType)} {f : rn_T} {σ : rn_St} {ra : Nat → Nat} {hd : Nat → Option Nat} (hV : rn_V σ) (hR : rn_Rm f σ ra hd) (a : Option Nat) (ha0 : ∀ i, a = some i → i < σ.sn) : rn_R l yX4_numberOrNone wsX4_numberOrNone ({ frames := 0, cells := 0, slots := 0, locals := 0 } : Room) D tys (rn_S D f) [va_rf (a.map ra)] (some (.int (rn_enc a))) := by
  cases a with
  | none => exact c_numberOrNone_n l hV hR
  | some r => exact c_numberOrNone_s l hV hR (ha0 r rfl)

set_option maxHeartbeats 4000000 in
set_option maxRecDepth 100000 in
theorem c_rangesMeet (l : Launch) {D : va_G} {tys : List (ClassId × FieldType)} {f : rn_T} {st le os ol : Nat} (h1 : st + le ≤ 999) (h2 : os + ol ≤ 999) : rn_R l yX2_rangesMeet wsX2_rangesMeet ({ frames := 0, cells := 0, slots := 0, locals := 0 } : Room) D tys (rn_S D f) [.int (nI st), .int (nI le), .int (nI os), .int (nI ol)] (some (.int (rn_b (decide (st < os + ol ∧ os < st + le))))) := by
  refine rn_R.ofW (cc := cX2_rangesMeet) (maxL := 4) (ret := (some .boolean)) (by decide) rfl (Nat.le_of_ble_eq_true rfl) (fun p e s m below meth c ls hx hb hr hml hts hown hlocks hF hG hl => ?_)
  have hl : lv_has ls 4 [(0, .int (nI st)), (1, .int (nI le)), (2, .int (nI os)), (3, .int (nI ol))] := hl
  refine lv_iload_n hx hb dX2_rangesMeet_0 rfl (lv_at hl 0 rfl) ?_
  refine lv_iload_n hx hb dX2_rangesMeet_1 rfl (lv_at hl 2 rfl) ?_
  refine lv_iload_n hx hb dX2_rangesMeet_2 rfl (lv_at hl 3 rfl) ?_
  refine lv_iadd hx hb dX2_rangesMeet_3 ?_
  refine rn_top (y := .int (nI (os + ol))) (congrArg Value.int (nI_add _ _)) ?_
  refine lv_icmp_ge (tgt := 18) hx hb dX2_rangesMeet_4 (by decide) (fun c_4 => ?_) (fun c_4 => ?_)
  · refine lv_iconst (v := 0) hx hb dX2_rangesMeet_18 (by decide) ?_
    have g : ¬ (st < os + ol ∧ os < st + le) := fun h => by have := (nI_leI (by omega) (by omega)).mp c_4; omega
    exact rn_iret hx hb hr rfl hlocks (by rw [decide_eq_false g]; rfl) dX2_rangesMeet_19
  · refine lv_iload_n hx hb dX2_rangesMeet_7 rfl (lv_at hl 2 rfl) ?_
    refine lv_iload_n hx hb dX2_rangesMeet_8 rfl (lv_at hl 0 rfl) ?_
    refine lv_iload_n hx hb dX2_rangesMeet_9 rfl (lv_at hl 1 rfl) ?_
    refine lv_iadd hx hb dX2_rangesMeet_10 ?_
    refine rn_top (y := .int (nI (st + le))) (congrArg Value.int (nI_add _ _)) ?_
    refine lv_icmp_ge (tgt := 18) hx hb dX2_rangesMeet_11 (by decide) (fun c_11 => ?_) (fun c_11 => ?_)
    · refine lv_iconst (v := 0) hx hb dX2_rangesMeet_18 (by decide) ?_
      have g : ¬ (st < os + ol ∧ os < st + le) := fun h => by have := (nI_leI (by omega) (by omega)).mp c_11; omega
      exact rn_iret hx hb hr rfl hlocks (by rw [decide_eq_false g]; rfl) dX2_rangesMeet_19
    · refine lv_iconst (v := 1) hx hb dX2_rangesMeet_14 (by decide) ?_
      refine lv_goto (tgt := 19) hx hb dX2_rangesMeet_15 (by decide) ?_
      have g1 : st < os + ol := by rcases Nat.lt_or_ge st (os + ol) with h | h; exact h; exact absurd ((nI_leI (by omega) (by omega)).mpr h) c_4
      have g2 : os < st + le := by rcases Nat.lt_or_ge os (st + le) with h | h; exact h; exact absurd ((nI_leI (by omega) (by omega)).mpr h) c_11
      exact rn_iret hx hb hr rfl hlocks (by rw [decide_eq_true ⟨g1, g2⟩]; rfl) dX2_rangesMeet_19

set_option maxHeartbeats 4000000 in
set_option maxRecDepth 100000 in
theorem c_meets (l : Launch) {D : va_G} {tys : List (ClassId × FieldType)} {f : rn_T} {q1 q2 : rn_Ln} {a1 a2 : Nat} {z1 z2 : Option Nat} (hq1 : rn_okL q1) (hq2 : rn_okL q2) (ha1 : f a1 = some (.inr (2, [.int (nI q1.1), .int (nI q1.2.1), .int (nI q1.2.2), va_rf z1]))) (ha2 : f a2 = some (.inr (2, [.int (nI q2.1), .int (nI q2.2.1), .int (nI q2.2.2), va_rf z2]))) : rn_R l yX2_meets wsX2_meets ({ frames := 1, cells := 0, slots := 0, locals := 23 } : Room) D tys (rn_S D f) [.ref a1, .ref a2] (some (.int (rn_b (rn_meet q1 q2)))) := by
  refine rn_R.ofW (cc := cX2_meets) (maxL := 2) (ret := (some .boolean)) (by decide) rfl (Nat.le_of_ble_eq_true rfl) (fun p e s m below meth c ls hx hb hr hml hts hown hlocks hF hG hl => ?_)
  have hl : lv_has ls 2 [(0, .ref a1), (1, .ref a2)] := hl
  refine lv_aload_n hx hb dX2_meets_0 rfl (lv_at hl 0 rfl) ?_
  refine rn_get (ci := 2) (v := .int (nI q1.1)) (C := RX2) (T := TX2) (N := 4) hx hb hts iw_X2_meets_2 hown hG (hF _ _ ha1) rfl 0 (by decide) fw_X2_meets_7 rfl dX2_meets_1 ?_
  refine lv_aload_n hx hb dX2_meets_4 rfl (lv_at hl 0 rfl) ?_
  refine rn_get (ci := 2) (v := .int (nI q1.2.2)) (C := RX2) (T := TX2) (N := 4) hx hb hts iw_X2_meets_2 hown hG (hF _ _ ha1) rfl 2 (by decide) fw_X2_meets_16 rfl dX2_meets_5 ?_
  refine lv_aload_n hx hb dX2_meets_8 rfl (lv_at hl 1 rfl) ?_
  refine rn_get (ci := 2) (v := .int (nI q2.1)) (C := RX2) (T := TX2) (N := 4) hx hb hts iw_X2_meets_2 hown hG (hF _ _ ha2) rfl 0 (by decide) fw_X2_meets_7 rfl dX2_meets_9 ?_
  refine lv_aload_n hx hb dX2_meets_12 rfl (lv_at hl 1 rfl) ?_
  refine rn_get (ci := 2) (v := .int (nI q2.2.2)) (C := RX2) (T := TX2) (N := 4) hx hb hts iw_X2_meets_2 hown hG (hF _ _ ha2) rfl 2 (by decide) fw_X2_meets_16 rfl dX2_meets_13 ?_
  refine rn_cS (As := [.int (nI q1.1), .int (nI q1.2.2), .int (nI q2.1), .int (nI q2.2.2)]) (rest := []) 4 hx hb hml hown hts hG (c_rangesMeet l hq1.1 hq2.1) gX2_meets_X2_rangesMeet rfl ⟨rfl, rfl⟩ (by decide +kernel) ⟨Nat.le_of_ble_eq_true rfl, Nat.le_of_ble_eq_true rfl⟩ hF rfl hl.1 rfl (Nat.le_of_ble_eq_true rfl) ⟨Nat.zero_le _, Nat.zero_le _⟩ dX2_meets_16 ?_
  refine W.eq (g2 := F0 m 19 ls [.int (rn_b (decide (q1.1 < q2.1 + q2.2.2 ∧ q2.1 < q1.1 + q1.2.2)))]) rfl ?_
  refine lv_if_ne (tgt := 44) hx hb dX2_meets_19 (by decide) (fun c_19 => ?_) (fun c_19 => ?_)
  · refine lv_iconst (v := 1) hx hb dX2_meets_44 (by decide) ?_
    refine lv_goto (tgt := 49) hx hb dX2_meets_45 (by decide) ?_
    exact rn_iret hx hb hr rfl hlocks (by first | (rw [rn_b1] at c_19; simp only [rn_meet]; simp only [decide_eq_true_eq] at c_19; rw [decide_eq_true (Or.inl c_19)]; rfl) | (rw [rn_b1] at c_41; simp only [rn_meet]; simp only [decide_eq_true_eq] at c_41; rw [decide_eq_true (Or.inr c_41)]; rfl)) dX2_meets_49
  · refine lv_aload_n hx hb dX2_meets_22 rfl (lv_at hl 0 rfl) ?_
    refine rn_get (ci := 2) (v := .int (nI q1.2.1)) (C := RX2) (T := TX2) (N := 4) hx hb hts iw_X2_meets_2 hown hG (hF _ _ ha1) rfl 1 (by decide) fw_X2_meets_13 rfl dX2_meets_23 ?_
    refine lv_aload_n hx hb dX2_meets_26 rfl (lv_at hl 0 rfl) ?_
    refine rn_get (ci := 2) (v := .int (nI q1.2.2)) (C := RX2) (T := TX2) (N := 4) hx hb hts iw_X2_meets_2 hown hG (hF _ _ ha1) rfl 2 (by decide) fw_X2_meets_16 rfl dX2_meets_27 ?_
    refine lv_aload_n hx hb dX2_meets_30 rfl (lv_at hl 1 rfl) ?_
    refine rn_get (ci := 2) (v := .int (nI q2.2.1)) (C := RX2) (T := TX2) (N := 4) hx hb hts iw_X2_meets_2 hown hG (hF _ _ ha2) rfl 1 (by decide) fw_X2_meets_13 rfl dX2_meets_31 ?_
    refine lv_aload_n hx hb dX2_meets_34 rfl (lv_at hl 1 rfl) ?_
    refine rn_get (ci := 2) (v := .int (nI q2.2.2)) (C := RX2) (T := TX2) (N := 4) hx hb hts iw_X2_meets_2 hown hG (hF _ _ ha2) rfl 2 (by decide) fw_X2_meets_16 rfl dX2_meets_35 ?_
    refine rn_cS (As := [.int (nI q1.2.1), .int (nI q1.2.2), .int (nI q2.2.1), .int (nI q2.2.2)]) (rest := []) 4 hx hb hml hown hts hG (c_rangesMeet l hq1.2.1 hq2.2.1) gX2_meets_X2_rangesMeet rfl ⟨rfl, rfl⟩ (by decide +kernel) ⟨Nat.le_of_ble_eq_true rfl, Nat.le_of_ble_eq_true rfl⟩ hF rfl hl.1 rfl (Nat.le_of_ble_eq_true rfl) ⟨Nat.zero_le _, Nat.zero_le _⟩ dX2_meets_38 ?_
    refine W.eq (g2 := F0 m 41 ls [.int (rn_b (decide (q1.2.1 < q2.2.1 + q2.2.2 ∧ q2.2.1 < q1.2.1 + q1.2.2)))]) rfl ?_
    refine lv_if_eq (tgt := 48) hx hb dX2_meets_41 (by decide) (fun c_41 => ?_) (fun c_41 => ?_)
    · refine lv_iconst (v := 0) hx hb dX2_meets_48 (by decide) ?_
      exact rn_iret hx hb hr rfl hlocks (by rw [rn_b0] at c_19; rw [rn_b0] at c_41; simp only [rn_meet]; simp only [decide_eq_false_iff_not] at c_19 c_41; rw [decide_eq_false (fun h => h.elim c_19 c_41)]; rfl) dX2_meets_49
    · refine lv_iconst (v := 1) hx hb dX2_meets_44 (by decide) ?_
      refine lv_goto (tgt := 49) hx hb dX2_meets_45 (by decide) ?_
      exact rn_iret hx hb hr rfl hlocks (by first | (rw [rn_b1] at c_19; simp only [rn_meet]; simp only [decide_eq_true_eq] at c_19; rw [decide_eq_true (Or.inl c_19)]; rfl) | (rw [rn_b1] at c_41; simp only [rn_meet]; simp only [decide_eq_true_eq] at c_41; rw [decide_eq_true (Or.inr c_41)]; rfl)) dX2_meets_49

set_option maxHeartbeats 4000000 in
set_option maxRecDepth 100000 in
theorem c_isOfOneNumber (l : Launch) {D : va_G} {tys : List (ClassId × FieldType)} {f : rn_T} {q : rn_Ln} {r : List rn_Ln} {a : Nat} (hq : rn_okL q) (hch : rn_ch f (q :: r) (some a)) : rn_R l yX2_isOfOneNumber wsX2_isOfOneNumber ({ frames := 0, cells := 0, slots := 0, locals := 0 } : Room) D tys (rn_S D f) [.ref a] (some (.int (rn_b (decide (r = [] ∧ q.2.2 = 1))))) := by
  refine rn_R.ofW (cc := cX2_isOfOneNumber) (maxL := 1) (ret := (some .boolean)) (by decide) rfl (Nat.le_of_ble_eq_true rfl) (fun p e s m below meth c ls hx hb hr hml hts hown hlocks hF hG hl => ?_)
  have hl : lv_has ls 1 [(0, .ref a)] := hl
  obtain ⟨a9, z, h9, ha, hch2⟩ := hch
  obtain rfl : a = a9 := Option.some.inj h9
  obtain ⟨k1, k2, k3⟩ := hq
  refine lv_aload_n hx hb dX2_isOfOneNumber_0 rfl (lv_at hl 0 rfl) ?_
  refine rn_get (ci := 2) (v := va_rf z) (C := RX2) (T := TX2) (N := 4) hx hb hts iw_X2_isOfOneNumber_2 hown hG (hF _ _ ha) rfl 3 (by decide) fw_X2_isOfOneNumber_19 rfl dX2_isOfOneNumber_1 ?_
  refine rn_ifnonnull (tgt := 19) hx hb dX2_isOfOneNumber_4 (by decide) (fun z_4 c_4 => ?_) (fun c_4 => ?_)
  · refine lv_iconst (v := 0) hx hb dX2_isOfOneNumber_19 (by decide) ?_
    have g : ¬ (r = [] ∧ q.2.2 = 1) := fun h => by rw [h.1] at hch2; have h2 : z = none := hch2; rw [h2] at c_4; cases c_4
    exact rn_iret hx hb hr rfl hlocks (by rw [decide_eq_false g]; rfl) dX2_isOfOneNumber_20
  · refine lv_aload_n hx hb dX2_isOfOneNumber_7 rfl (lv_at hl 0 rfl) ?_
    refine rn_get (ci := 2) (v := .int (nI q.2.2)) (C := RX2) (T := TX2) (N := 4) hx hb hts iw_X2_isOfOneNumber_2 hown hG (hF _ _ ha) rfl 2 (by decide) fw_X2_isOfOneNumber_16 rfl dX2_isOfOneNumber_8 ?_
    refine lv_iconst (v := 1) hx hb dX2_isOfOneNumber_11 (by decide) ?_
    refine lv_icmp_ne (tgt := 19) hx hb dX2_isOfOneNumber_12 (by decide) (fun c_12 => ?_) (fun c_12 => ?_)
    · refine lv_iconst (v := 0) hx hb dX2_isOfOneNumber_19 (by decide) ?_
      have g : ¬ (r = [] ∧ q.2.2 = 1) := fun h => c_12 (by rw [h.2]; rfl)
      exact rn_iret hx hb hr rfl hlocks (by rw [decide_eq_false g]; rfl) dX2_isOfOneNumber_20
    · refine lv_iconst (v := 1) hx hb dX2_isOfOneNumber_15 (by decide) ?_
      refine lv_goto (tgt := 20) hx hb dX2_isOfOneNumber_16 (by decide) ?_
      subst c_4
      have g : r = [] := by cases r with
        | nil => rfl
        | cons q2 r2 => obtain ⟨_, _, h, _⟩ := hch2; cases h
      have g2 : q.2.2 = 1 := (nI_eq (by omega) (by omega)).mp c_12
      exact rn_iret hx hb hr rfl hlocks (by rw [decide_eq_true ⟨g, g2⟩]; rfl) dX2_isOfOneNumber_20
