set_option maxHeartbeats 4000000 in
set_option maxRecDepth 100000 in
theorem c_ownsRoomAround (l : Launch) {D : va_G} {tys : List (ClassId × FieldType)} {f : rn_T} {σ : rn_St} {ra : Nat → Nat} {hd : Nat → Option Nat} (hV : rn_V σ) (hR : rn_Rm f σ ra hd) {pa : Nat → Nat} (hQ : rn_Pr f σ ra pa) {j r : Nat} (hj0 : j < σ.pn) (hr0 : r < σ.sn) : rn_R l yX1_ownsRoomAround wsX1_ownsRoomAround ({ frames := 0, cells := 0, slots := 0, locals := 0 } : Room) D tys (rn_S D f) [.ref (pa j), .ref (ra r)] (some (.int (rn_b (rn_owns σ j r)))) := by
  refine rn_R.ofW (cc := cX1_ownsRoomAround) (maxL := 3) (ret := (some .boolean)) (by decide) rfl (Nat.le_of_ble_eq_true rfl) (fun p e s m below meth c ls hx hb hr hml hts hown hlocks hF hG hl => ?_)
  have hl : lv_has ls 3 [(0, .ref (pa j)), (1, .ref (ra r))] := hl
  refine lv_aload_n hx hb dX1_ownsRoomAround_0 rfl (lv_at hl 1 rfl) ?_
  refine lv_astore_n (lv' := [(2, .ref (ra r)), (0, .ref (pa j)), (1, .ref (ra r))]) hx hb dX1_ownsRoomAround_1 rfl hl (by decide) rfl (fun ls hl => ?_)
  have loop : ∀ (k : Nat) (at_ : Option Nat), (∀ i, at_ = some i → i < σ.sn ∧ i < k) → rn_ownO σ j at_ = rn_ownO σ j (some r) → ∀ (ls : Array Slot), lv_has ls 3 [(2, va_rf (at_.map ra)), (0, .ref (pa j)), (1, .ref (ra r))] → W p l e ({ frames := 0, cells := 0, slots := 0, locals := 0 } : Room) s m ([.ref (pa j), .ref (ra r)] : List Value).toArray below meth c s.heap [] 0 0 (MQ below (fun _ st o t => o = .returned (some (.int (rn_b (rn_owns σ j r)))) ∧ t.heap = st.heap) ([.ref (pa j), .ref (ra r)] : List Value).toArray s 0 0 (fun _ => False)) (F0 m 2 ls []) := by
    intro k
    induction k with
    | zero =>
      intro at_ hat hgo ls hl
      cases at_ with
      | none =>
        have hl : lv_has ls 3 [(2, .null), (0, .ref (pa j)), (1, .ref (ra r))] := hl
        refine lv_aload_nN hx hb dX1_ownsRoomAround_2 rfl (lv_at hl 0 rfl) ?_
        refine lv_ifnullN (tgt := 38) hx hb dX1_ownsRoomAround_3 (by decide) ?_
        refine lv_iconst (v := 0) hx hb dX1_ownsRoomAround_38 (by decide) ?_
        exact rn_iret hx hb hr rfl hlocks (by rw [show rn_owns σ j r = rn_ownO σ j (some r) from rfl, ← hgo]; rfl) dX1_ownsRoomAround_39
      | some i =>
        exact absurd (hat i rfl).2 (Nat.not_lt_zero _)
    | succ k ih =>
      intro at_ hat hgo ls hl
      cases at_ with
      | none =>
        have hl : lv_has ls 3 [(2, .null), (0, .ref (pa j)), (1, .ref (ra r))] := hl
        refine lv_aload_nN hx hb dX1_ownsRoomAround_2 rfl (lv_at hl 0 rfl) ?_
        refine lv_ifnullN (tgt := 38) hx hb dX1_ownsRoomAround_3 (by decide) ?_
        refine lv_iconst (v := 0) hx hb dX1_ownsRoomAround_38 (by decide) ?_
        exact rn_iret hx hb hr rfl hlocks (by rw [show rn_owns σ j r = rn_ownO σ j (some r) from rfl, ← hgo]; rfl) dX1_ownsRoomAround_39
      | some i =>
        obtain ⟨hi, hk⟩ := hat i rfl
        have hpl := (hV.2.2.2.2.2.1.2.2 j hj0).1
        have hl : lv_has ls 3 [(2, .ref (ra i)), (0, .ref (pa j)), (1, .ref (ra r))] := hl
        refine lv_aload_n hx hb dX1_ownsRoomAround_2 rfl (lv_at hl 0 rfl) ?_
        refine lv_ifnull hx hb dX1_ownsRoomAround_3 ?_
        refine lv_aload_n hx hb dX1_ownsRoomAround_6 rfl (lv_at hl 0 rfl) ?_
        refine rn_get (ci := 3) (v := va_rf (rn_ot σ ra i)) (C := RX3) (T := TX3) (N := 4) hx hb hts iw_X1_ownsRoomAround_3 hown hG (hF _ _ (hR.1 i hi)) rfl 1 (by decide) fw_X1_ownsRoomAround_34 rfl dX1_ownsRoomAround_7 ?_
        refine lv_aload_n hx hb dX1_ownsRoomAround_10 rfl (lv_at hl 1 rfl) ?_
        refine rn_get (ci := 1) (v := .ref (ra (σ.pl j))) (C := RX1) (T := TX1) (N := 3) hx hb hts iw_X1_ownsRoomAround_1 hown hG (hF _ _ (hQ j hj0)) rfl 0 (by decide) fw_X1_ownsRoomAround_9 rfl dX1_ownsRoomAround_11 ?_
        refine lv_acmp_ne (rx := ((rn_ot σ ra i))) (ry := (some (ra (σ.pl j)))) (tgt := 30) hx hb dX1_ownsRoomAround_14 (by decide) (fun c_14 => ?_) (fun c_14 => ?_)
        · have hno : ¬ (i ≠ 0 ∧ σ.so i = σ.pl j ∧ σ.sw i = nI (σ.pu j)) := fun h => c_14 (by rw [rn_ot_s _ _ h.1, h.2.1])
          refine lv_aload_n hx hb dX1_ownsRoomAround_30 rfl (lv_at hl 0 rfl) ?_
          refine rn_get (ci := 3) (v := va_rf (rn_ot σ ra i)) (C := RX3) (T := TX3) (N := 4) hx hb hts iw_X1_ownsRoomAround_3 hown hG (hF _ _ (hR.1 i hi)) rfl 1 (by decide) fw_X1_ownsRoomAround_34 rfl dX1_ownsRoomAround_31 ?_
          refine rn_astore_n (lv' := [(2, va_rf (rn_ot σ ra i)), (0, .ref (pa j)), (1, .ref (ra r))]) hx hb dX1_ownsRoomAround_34 rfl hl (by decide) rfl (fun ls hl => ?_)
          refine lv_goto (tgt := 2) hx hb dX1_ownsRoomAround_35 (by decide) ?_
          rw [rn_ot_nx] at hl
          have hno : decide (i ≠ 0 ∧ σ.so i = σ.pl j ∧ σ.sw i = nI (σ.pu j)) = false := decide_eq_false (fun h => by exact hno h)
          exact ih _ (rn_nx_lt hV hi hk) (by rw [← hgo, rn_ownO_s hV hi, hno]; rfl) ls (lv_sub hl [0, 1, 2] rfl)
        · have h00 : i ≠ 0 := fun h => by rw [h, rn_ot_0] at c_14; cases c_14
          have hso : σ.so i = σ.pl j := rn_ra_inj hV hR (by have := hV.2.1 i (by omega) hi; omega) hpl (Option.some.inj (by rw [← c_14, rn_ot_s _ _ h00]))
          refine lv_aload_n hx hb dX1_ownsRoomAround_17 rfl (lv_at hl 0 rfl) ?_
          refine rn_get (ci := 3) (v := .int (σ.sw i)) (C := RX3) (T := TX3) (N := 4) hx hb hts iw_X1_ownsRoomAround_3 hown hG (hF _ _ (hR.1 i hi)) rfl 2 (by decide) fw_X1_ownsRoomAround_39 rfl dX1_ownsRoomAround_18 ?_
          refine lv_aload_n hx hb dX1_ownsRoomAround_21 rfl (lv_at hl 1 rfl) ?_
          refine rn_get (ci := 1) (v := .int (nI (σ.pu j))) (C := RX1) (T := TX1) (N := 3) hx hb hts iw_X1_ownsRoomAround_1 hown hG (hF _ _ (hQ j hj0)) rfl 1 (by decide) fw_X1_ownsRoomAround_15 rfl dX1_ownsRoomAround_22 ?_
          refine lv_icmp_ne (tgt := 30) hx hb dX1_ownsRoomAround_25 (by decide) (fun c_25 => ?_) (fun c_25 => ?_)
          · have hno : ¬ (i ≠ 0 ∧ σ.so i = σ.pl j ∧ σ.sw i = nI (σ.pu j)) := fun h => c_25 h.2.2
            refine lv_aload_n hx hb dX1_ownsRoomAround_30 rfl (lv_at hl 0 rfl) ?_
            refine rn_get (ci := 3) (v := va_rf (rn_ot σ ra i)) (C := RX3) (T := TX3) (N := 4) hx hb hts iw_X1_ownsRoomAround_3 hown hG (hF _ _ (hR.1 i hi)) rfl 1 (by decide) fw_X1_ownsRoomAround_34 rfl dX1_ownsRoomAround_31 ?_
            refine rn_astore_n (lv' := [(2, va_rf (rn_ot σ ra i)), (0, .ref (pa j)), (1, .ref (ra r))]) hx hb dX1_ownsRoomAround_34 rfl hl (by decide) rfl (fun ls hl => ?_)
            refine lv_goto (tgt := 2) hx hb dX1_ownsRoomAround_35 (by decide) ?_
            rw [rn_ot_nx] at hl
            have hno : decide (i ≠ 0 ∧ σ.so i = σ.pl j ∧ σ.sw i = nI (σ.pu j)) = false := decide_eq_false (fun h => by exact hno h)
            exact ih _ (rn_nx_lt hV hi hk) (by rw [← hgo, rn_ownO_s hV hi, hno]; rfl) ls (lv_sub hl [0, 1, 2] rfl)
          · refine lv_iconst (v := 1) hx hb dX1_ownsRoomAround_28 (by decide) ?_
            exact rn_iret hx hb hr rfl hlocks (by rw [show rn_owns σ j r = rn_ownO σ j (some r) from rfl, ← hgo, rn_ownO_s hV hi, decide_eq_true ⟨h00, hso, c_25⟩]; rfl) dX1_ownsRoomAround_29
  exact loop σ.sn (some r) (fun i h => by cases h; exact ⟨hr0, hr0⟩) rfl ls (lv_sub hl [0, 1, 2] rfl)

set_option maxHeartbeats 4000000 in
set_option maxRecDepth 100000 in
theorem c_rightsHeldIn (l : Launch) {D : va_G} {tys : List (ClassId × FieldType)} {f : rn_T} {σ : rn_St} {ra : Nat → Nat} {hd : Nat → Option Nat} (hV : rn_V σ) (hR : rn_Rm f σ ra hd) {pa : Nat → Nat} (hQ : rn_Pr f σ ra pa) {j r : Nat} (hj0 : j < σ.pn) (hr0 : r < σ.sn) : rn_R l yX1_rightsHeldIn wsX1_rightsHeldIn ({ frames := 1, cells := 0, slots := 0, locals := 22 } : Room) D tys (rn_S D f) [.ref (pa j), .ref (ra r)] (some (.int (rn_held σ j r))) := by
  refine rn_R.ofW (cc := cX1_rightsHeldIn) (maxL := 2) (ret := (some .int)) (by decide) rfl (Nat.le_of_ble_eq_true rfl) (fun p e s m below meth c ls hx hb hr hml hts hown hlocks hF hG hl => ?_)
  have hl : lv_has ls 2 [(0, .ref (pa j)), (1, .ref (ra r))] := hl
  refine lv_aload_n hx hb dX1_rightsHeldIn_0 rfl (lv_at hl 0 rfl) ?_
  refine lv_aload_n hx hb dX1_rightsHeldIn_1 rfl (lv_at hl 1 rfl) ?_
  refine rn_cV (As := [.ref (ra r)]) (rest := []) 1 hx hb hml hown hts hG (c_ownsRoomAround l hV hR hQ hj0 hr0) gX1_rightsHeldIn_X1_ownsRoomAround rfl ⟨rfl, rfl⟩ (by decide +kernel) ⟨Nat.le_of_ble_eq_true rfl, Nat.le_of_ble_eq_true rfl⟩ hF (hF _ _ (hQ j hj0)) rfl rfl hl.1 rfl (Nat.le_of_ble_eq_true rfl) ⟨Nat.zero_le _, Nat.zero_le _⟩ dX1_rightsHeldIn_2 ?_
  refine W.eq (g2 := F0 m 5 ls [.int (rn_b (rn_owns σ j r))]) rfl ?_
  refine lv_if_eq (tgt := 11) hx hb dX1_rightsHeldIn_5 (by decide) (fun c_5 => ?_) (fun c_5 => ?_)
  · rw [rn_b0] at c_5
    refine lv_aload_n hx hb dX1_rightsHeldIn_11 rfl (lv_at hl 1 rfl) ?_
    refine lv_aload_n hx hb dX1_rightsHeldIn_12 rfl (lv_at hl 0 rfl) ?_
    refine rn_get (ci := 1) (v := .ref (ra (σ.pl j))) (C := RX1) (T := TX1) (N := 3) hx hb hts iw_X1_rightsHeldIn_1 hown hG (hF _ _ (hQ j hj0)) rfl 0 (by decide) fw_X1_rightsHeldIn_9 rfl dX1_rightsHeldIn_13 ?_
    refine rn_cN (As := [.ref (ra r), .ref (ra (σ.pl j))]) (rest := []) 2 hx hb hml hown hts hG (c_isOrIsInside l hV hR (some r) (fun i h => by cases h; exact hr0) (hV.2.2.2.2.2.1.2.2 j hj0).1) gX1_rightsHeldIn_X4_isOrIsInside_n26 rfl ⟨rfl, rfl⟩ (by decide +kernel) (by decide +kernel) (by decide +kernel) ⟨Nat.le_of_ble_eq_true rfl, Nat.le_of_ble_eq_true rfl⟩ hF rfl hl.1 rfl (Nat.le_of_ble_eq_true rfl) ⟨Nat.zero_le _, Nat.zero_le _⟩ dX1_rightsHeldIn_16 ?_
    refine W.eq (g2 := F0 m 19 ls [.int (rn_b (rn_insO σ (σ.pl j) (some r)))]) rfl ?_
    refine lv_if_eq (tgt := 29) hx hb dX1_rightsHeldIn_19 (by decide) (fun c_19 => ?_) (fun c_19 => ?_)
    · rw [rn_b0] at c_19; simp only [rn_insO, decide_eq_false_iff_not] at c_19
      refine lv_iconst (v := 0) hx hb dX1_rightsHeldIn_29 (by decide) ?_
      exact rn_iret hx hb hr rfl hlocks (by rw [rn_held, if_neg (by rw [c_5]; decide), if_neg c_19]) dX1_rightsHeldIn_30
    · rw [rn_b1] at c_19; simp only [rn_insO, decide_eq_true_eq] at c_19
      refine lv_aload_n hx hb dX1_rightsHeldIn_22 rfl (lv_at hl 0 rfl) ?_
      refine rn_get (ci := 1) (v := .int (σ.pr j)) (C := RX1) (T := TX1) (N := 3) hx hb hts iw_X1_rightsHeldIn_1 hown hG (hF _ _ (hQ j hj0)) rfl 2 (by decide) fw_X1_rightsHeldIn_19 rfl dX1_rightsHeldIn_23 ?_
      refine lv_goto (tgt := 30) hx hb dX1_rightsHeldIn_26 (by decide) ?_
      exact rn_iret hx hb hr rfl hlocks (by rw [rn_held, if_neg (by rw [c_5]; decide), if_pos c_19]) dX1_rightsHeldIn_30
  · rw [rn_b1] at c_5
    refine lv_bipush (v := 15) hx hb dX1_rightsHeldIn_8 (by decide +kernel) ?_
    exact rn_iret hx hb hr rfl hlocks (by rw [rn_held, if_pos c_5]) dX1_rightsHeldIn_10

set_option maxHeartbeats 4000000 in
set_option maxRecDepth 100000 in
theorem c_hasRight (l : Launch) {D : va_G} {tys : List (ClassId × FieldType)} {f : rn_T} {σ : rn_St} {ra : Nat → Nat} {hd : Nat → Option Nat} (hV : rn_V σ) (hR : rn_Rm f σ ra hd) {pa : Nat → Nat} (hQ : rn_Pr f σ ra pa) {j r : Nat} (k : Int32) (hj0 : j < σ.pn) (hr0 : r < σ.sn) : rn_R l yX1_hasRight wsX1_hasRight ({ frames := 2, cells := 0, slots := 0, locals := 43 } : Room) D tys (rn_S D f) [.ref (pa j), .int k, .ref (ra r)] (some (.int (rn_b (decide (rn_held σ j r &&& k ≠ 0))))) := by
  refine rn_R.ofW (cc := cX1_hasRight) (maxL := 3) (ret := (some .boolean)) (by decide) rfl (Nat.le_of_ble_eq_true rfl) (fun p e s m below meth c ls hx hb hr hml hts hown hlocks hF hG hl => ?_)
  have hl : lv_has ls 3 [(0, .ref (pa j)), (1, .int k), (2, .ref (ra r))] := hl
  refine lv_aload_n hx hb dX1_hasRight_0 rfl (lv_at hl 0 rfl) ?_
  refine lv_aload_n hx hb dX1_hasRight_1 rfl (lv_at hl 2 rfl) ?_
  refine rn_cV (As := [.ref (ra r)]) (rest := []) 1 hx hb hml hown hts hG (c_rightsHeldIn l hV hR hQ hj0 hr0) gX1_hasRight_X1_rightsHeldIn rfl ⟨rfl, rfl⟩ (by decide +kernel) ⟨Nat.le_of_ble_eq_true rfl, Nat.le_of_ble_eq_true rfl⟩ hF (hF _ _ (hQ j hj0)) rfl rfl hl.1 rfl (Nat.le_of_ble_eq_true rfl) ⟨Nat.zero_le _, Nat.zero_le _⟩ dX1_hasRight_2 ?_
  refine W.eq (g2 := F0 m 5 ls [.int (rn_held σ j r)]) rfl ?_
  refine lv_iload_n hx hb dX1_hasRight_5 rfl (lv_at hl 1 rfl) ?_
  refine lv_iand hx hb dX1_hasRight_6 ?_
  refine lv_if_eq (tgt := 14) hx hb dX1_hasRight_7 (by decide) (fun c_7 => ?_) (fun c_7 => ?_)
  · refine lv_iconst (v := 0) hx hb dX1_hasRight_14 (by decide) ?_
    exact rn_iret hx hb hr rfl hlocks (by rw [decide_eq_false (fun h => h c_7)]; rfl) dX1_hasRight_15
  · refine lv_iconst (v := 1) hx hb dX1_hasRight_10 (by decide) ?_
    refine lv_goto (tgt := 15) hx hb dX1_hasRight_11 (by decide) ?_
    exact rn_iret hx hb hr rfl hlocks (by rw [decide_eq_true c_7]; rfl) dX1_hasRight_15

def rn_may (m u o : Int32) (wb : Bool) : Bool := decide (m &&& (if u = o then (if wb = true then 2 else 1) else (if wb = true then 8 else 4)) ≠ 0)

set_option maxHeartbeats 4000000 in
set_option maxRecDepth 100000 in
theorem c_allows (l : Launch) {D : va_G} {tys : List (ClassId × FieldType)} {f : rn_T} {σ : rn_St} {fa : Nat → Nat} (hI : rn_Fi f σ fa) {j : Nat} (u : Int32) (wb : Bool) (hj0 : j < σ.fn) : rn_R l yX0_allows wsX0_allows ({ frames := 0, cells := 0, slots := 0, locals := 0 } : Room) D tys (rn_S D f) [.ref (fa j), .int u, .int (rn_b wb)] (some (.int (rn_b (rn_may (σ.fm j) u (nI (σ.fo j)) wb)))) := by
  refine rn_R.ofW (cc := cX0_allows) (maxL := 5) (ret := (some .boolean)) (by decide) rfl (Nat.le_of_ble_eq_true rfl) (fun p e s m below meth c ls hx hb hr hml hts hown hlocks hF hG hl => ?_)
  have hl : lv_has ls 5 [(0, .ref (fa j)), (1, .int u), (2, .int (rn_b wb))] := hl
  cases wb with
  | false =>
    have hl : lv_has ls 5 [(0, .ref (fa j)), (1, .int u), (2, .int 0)] := hl
    refine lv_iload_n hx hb dX0_allows_0 rfl (lv_at hl 2 rfl) ?_
    refine lv_if_eq (tgt := 8) hx hb dX0_allows_1 (by decide) (fun c_1 => ?_) (fun c_1 => ?_)
    · refine lv_iconst (v := 1) hx hb dX0_allows_8 (by decide) ?_
      refine lv_istore_n (lv' := [(3, .int 1), (0, .ref (fa j)), (1, .int u), (2, .int 0)]) hx hb dX0_allows_9 rfl hl (by decide) rfl (fun ls hl => ?_)
      refine lv_iload_n hx hb dX0_allows_10 rfl (lv_at hl 3 rfl) ?_
      refine lv_if_eq (tgt := 19) hx hb dX0_allows_11 (by decide) (fun c_11 => ?_) (fun c_11 => ?_)
      · refine lv_iconst (v := 4) hx hb dX0_allows_19 (by decide) ?_
        refine lv_istore (lv' := [(4, .int 4), (3, .int 1), (0, .ref (fa j)), (1, .int u), (2, .int 0)]) hx hb dX0_allows_20 hl (by decide) rfl (fun ls hl => ?_)
        refine lv_aload_n hx hb dX0_allows_22 rfl (lv_at hl 2 rfl) ?_
        refine rn_get (ci := 0) (v := .int (σ.fm j)) (C := RX0) (T := TX0) (N := 2) hx hb hts iw_X0_allows_0 hown hG (hF _ _ (hI j hj0)) rfl 1 (by decide) fw_X0_allows_15 rfl dX0_allows_23 ?_
        refine lv_iload_n hx hb dX0_allows_26 rfl (lv_at hl 3 rfl) ?_
        refine lv_aload_n hx hb dX0_allows_27 rfl (lv_at hl 2 rfl) ?_
        refine rn_get (ci := 0) (v := .int (nI (σ.fo j))) (C := RX0) (T := TX0) (N := 2) hx hb hts iw_X0_allows_0 hown hG (hF _ _ (hI j hj0)) rfl 0 (by decide) fw_X0_allows_9 rfl dX0_allows_28 ?_
        refine lv_icmp_ne (tgt := 38) hx hb dX0_allows_31 (by decide) (fun c_31 => ?_) (fun c_31 => ?_)
        · refine lv_iload hx hb dX0_allows_38 (lv_at hl 0 rfl) ?_
          refine lv_iand hx hb dX0_allows_40 ?_
          refine lv_if_eq (tgt := 48) hx hb dX0_allows_41 (by decide) (fun c_41 => ?_) (fun c_41 => ?_)
          · refine lv_iconst (v := 0) hx hb dX0_allows_48 (by decide) ?_
            exact rn_iret hx hb hr rfl hlocks (by first | (rw [rn_may, if_pos c_31]; simp only [Bool.false_eq_true, if_false]; first | (rw [decide_eq_true c_41]; rfl) | (rw [decide_eq_false (fun h => h c_41)]; rfl)) | (rw [rn_may, if_neg c_31]; simp only [Bool.false_eq_true, if_false]; first | (rw [decide_eq_true c_41]; rfl) | (rw [decide_eq_false (fun h => h c_41)]; rfl))) dX0_allows_49
          · refine lv_iconst (v := 1) hx hb dX0_allows_44 (by decide) ?_
            refine lv_goto (tgt := 49) hx hb dX0_allows_45 (by decide) ?_
            exact rn_iret hx hb hr rfl hlocks (by first | (rw [rn_may, if_pos c_31]; simp only [Bool.false_eq_true, if_false]; first | (rw [decide_eq_true c_41]; rfl) | (rw [decide_eq_false (fun h => h c_41)]; rfl)) | (rw [rn_may, if_neg c_31]; simp only [Bool.false_eq_true, if_false]; first | (rw [decide_eq_true c_41]; rfl) | (rw [decide_eq_false (fun h => h c_41)]; rfl))) dX0_allows_49
        · refine lv_iload_n hx hb dX0_allows_34 rfl (lv_at hl 1 rfl) ?_
          refine lv_goto (tgt := 40) hx hb dX0_allows_35 (by decide) ?_
          refine lv_iand hx hb dX0_allows_40 ?_
          refine lv_if_eq (tgt := 48) hx hb dX0_allows_41 (by decide) (fun c_41 => ?_) (fun c_41 => ?_)
          · refine lv_iconst (v := 0) hx hb dX0_allows_48 (by decide) ?_
            exact rn_iret hx hb hr rfl hlocks (by first | (rw [rn_may, if_pos c_31]; simp only [Bool.false_eq_true, if_false]; first | (rw [decide_eq_true c_41]; rfl) | (rw [decide_eq_false (fun h => h c_41)]; rfl)) | (rw [rn_may, if_neg c_31]; simp only [Bool.false_eq_true, if_false]; first | (rw [decide_eq_true c_41]; rfl) | (rw [decide_eq_false (fun h => h c_41)]; rfl))) dX0_allows_49
          · refine lv_iconst (v := 1) hx hb dX0_allows_44 (by decide) ?_
            refine lv_goto (tgt := 49) hx hb dX0_allows_45 (by decide) ?_
            exact rn_iret hx hb hr rfl hlocks (by first | (rw [rn_may, if_pos c_31]; simp only [Bool.false_eq_true, if_false]; first | (rw [decide_eq_true c_41]; rfl) | (rw [decide_eq_false (fun h => h c_41)]; rfl)) | (rw [rn_may, if_neg c_31]; simp only [Bool.false_eq_true, if_false]; first | (rw [decide_eq_true c_41]; rfl) | (rw [decide_eq_false (fun h => h c_41)]; rfl))) dX0_allows_49
      · exact absurd rfl c_11
    · exact absurd rfl c_1
  | true =>
    have hl : lv_has ls 5 [(0, .ref (fa j)), (1, .int u), (2, .int 1)] := hl
    refine lv_iload_n hx hb dX0_allows_0 rfl (lv_at hl 2 rfl) ?_
    refine lv_if_eq (tgt := 8) hx hb dX0_allows_1 (by decide) (fun c_1 => ?_) (fun c_1 => ?_)
    · exact absurd c_1 (by decide)
    · refine lv_iconst (v := 2) hx hb dX0_allows_4 (by decide) ?_
      refine lv_goto (tgt := 9) hx hb dX0_allows_5 (by decide) ?_
      refine lv_istore_n (lv' := [(3, .int 2), (0, .ref (fa j)), (1, .int u), (2, .int 1)]) hx hb dX0_allows_9 rfl hl (by decide) rfl (fun ls hl => ?_)
      refine lv_iload_n hx hb dX0_allows_10 rfl (lv_at hl 3 rfl) ?_
      refine lv_if_eq (tgt := 19) hx hb dX0_allows_11 (by decide) (fun c_11 => ?_) (fun c_11 => ?_)
      · exact absurd c_11 (by decide)
      · refine lv_bipush (v := 8) hx hb dX0_allows_14 (by decide +kernel) ?_
        refine lv_goto (tgt := 20) hx hb dX0_allows_16 (by decide) ?_
        refine lv_istore (lv' := [(4, .int 8), (3, .int 2), (0, .ref (fa j)), (1, .int u), (2, .int 1)]) hx hb dX0_allows_20 hl (by decide) rfl (fun ls hl => ?_)
        refine lv_aload_n hx hb dX0_allows_22 rfl (lv_at hl 2 rfl) ?_
        refine rn_get (ci := 0) (v := .int (σ.fm j)) (C := RX0) (T := TX0) (N := 2) hx hb hts iw_X0_allows_0 hown hG (hF _ _ (hI j hj0)) rfl 1 (by decide) fw_X0_allows_15 rfl dX0_allows_23 ?_
        refine lv_iload_n hx hb dX0_allows_26 rfl (lv_at hl 3 rfl) ?_
        refine lv_aload_n hx hb dX0_allows_27 rfl (lv_at hl 2 rfl) ?_
        refine rn_get (ci := 0) (v := .int (nI (σ.fo j))) (C := RX0) (T := TX0) (N := 2) hx hb hts iw_X0_allows_0 hown hG (hF _ _ (hI j hj0)) rfl 0 (by decide) fw_X0_allows_9 rfl dX0_allows_28 ?_
        refine lv_icmp_ne (tgt := 38) hx hb dX0_allows_31 (by decide) (fun c_31 => ?_) (fun c_31 => ?_)
        · refine lv_iload hx hb dX0_allows_38 (lv_at hl 0 rfl) ?_
          refine lv_iand hx hb dX0_allows_40 ?_
          refine lv_if_eq (tgt := 48) hx hb dX0_allows_41 (by decide) (fun c_41 => ?_) (fun c_41 => ?_)
          · refine lv_iconst (v := 0) hx hb dX0_allows_48 (by decide) ?_
            exact rn_iret hx hb hr rfl hlocks (by first | (rw [rn_may, if_pos c_31]; simp only [if_true]; first | (rw [decide_eq_true c_41]; rfl) | (rw [decide_eq_false (fun h => h c_41)]; rfl)) | (rw [rn_may, if_neg c_31]; simp only [if_true]; first | (rw [decide_eq_true c_41]; rfl) | (rw [decide_eq_false (fun h => h c_41)]; rfl))) dX0_allows_49
          · refine lv_iconst (v := 1) hx hb dX0_allows_44 (by decide) ?_
            refine lv_goto (tgt := 49) hx hb dX0_allows_45 (by decide) ?_
            exact rn_iret hx hb hr rfl hlocks (by first | (rw [rn_may, if_pos c_31]; simp only [if_true]; first | (rw [decide_eq_true c_41]; rfl) | (rw [decide_eq_false (fun h => h c_41)]; rfl)) | (rw [rn_may, if_neg c_31]; simp only [if_true]; first | (rw [decide_eq_true c_41]; rfl) | (rw [decide_eq_false (fun h => h c_41)]; rfl))) dX0_allows_49
        · refine lv_iload_n hx hb dX0_allows_34 rfl (lv_at hl 1 rfl) ?_
          refine lv_goto (tgt := 40) hx hb dX0_allows_35 (by decide) ?_
          refine lv_iand hx hb dX0_allows_40 ?_
          refine lv_if_eq (tgt := 48) hx hb dX0_allows_41 (by decide) (fun c_41 => ?_) (fun c_41 => ?_)
          · refine lv_iconst (v := 0) hx hb dX0_allows_48 (by decide) ?_
            exact rn_iret hx hb hr rfl hlocks (by first | (rw [rn_may, if_pos c_31]; simp only [if_true]; first | (rw [decide_eq_true c_41]; rfl) | (rw [decide_eq_false (fun h => h c_41)]; rfl)) | (rw [rn_may, if_neg c_31]; simp only [if_true]; first | (rw [decide_eq_true c_41]; rfl) | (rw [decide_eq_false (fun h => h c_41)]; rfl))) dX0_allows_49
          · refine lv_iconst (v := 1) hx hb dX0_allows_44 (by decide) ?_
            refine lv_goto (tgt := 49) hx hb dX0_allows_45 (by decide) ?_
            exact rn_iret hx hb hr rfl hlocks (by first | (rw [rn_may, if_pos c_31]; simp only [if_true]; first | (rw [decide_eq_true c_41]; rfl) | (rw [decide_eq_false (fun h => h c_41)]; rfl)) | (rw [rn_may, if_neg c_31]; simp only [if_true]; first | (rw [decide_eq_true c_41]; rfl) | (rw [decide_eq_false (fun h => h c_41)]; rfl))) dX0_allows_49

set_option maxHeartbeats 4000000 in
set_option maxRecDepth 100000 in
theorem c_seenFrom (l : Launch) {D : va_G} {cR cP cF : ClassId} {h0 aR aP aF : Nat} {ra pa fa : Nat → Nat} {dh : Option Nat} {f : rn_T} {σ : rn_St} (hV : rn_V σ) (hH : rn_Ho cR cP cF h0 aR aP aF ra pa fa dh f σ) {hd : Nat → Option Nat} (hR : rn_Rm f σ ra hd) {r y : Nat} (hr0 : r < σ.sn) (hy0 : y ≤ 998) : rn_R l yX4_seenFrom wsX4_seenFrom ({ frames := 1, cells := 0, slots := 0, locals := 22 } : Room) D (rn_tys cR cP cF) (rn_S D f) [.ref h0, .ref (ra r), .int (nI y)] (some (.int (nI (rn_see σ r y)))) := by
  refine rn_R.ofW (cc := cX4_seenFrom) (maxL := 8) (ret := (some .int)) (by decide) rfl (Nat.le_of_ble_eq_true rfl) (fun p e s m below meth c ls hx hb hr hml hts hown hlocks hF hG hl => ?_)
  have hl : lv_has ls 8 [(0, .ref h0), (1, .ref (ra r)), (2, .int (nI y))] := hl
  refine lv_iload_n hx hb dX4_seenFrom_0 rfl (lv_at hl 2 rfl) ?_
  refine lv_istore_n (lv' := [(3, .int (nI y)), (0, .ref h0), (1, .ref (ra r)), (2, .int (nI y))]) hx hb dX4_seenFrom_1 rfl hl (by decide) rfl (fun ls hl => ?_)
  refine lv_aload_n hx hb dX4_seenFrom_2 rfl (lv_at hl 1 rfl) ?_
  refine rn_get (ci := 4) (v := .ref aR) (C := RX4) (T := TX4) (N := 9) hx hb hts iw_X4_seenFrom_4 hown hG (hF _ _ hH.1) rfl 0 (by decide) fw_X4_seenFrom_14 rfl dX4_seenFrom_3 ?_
  refine lv_astore (lv' := [(4, .ref aR), (3, .int (nI y)), (0, .ref h0), (1, .ref (ra r)), (2, .int (nI y))]) hx hb dX4_seenFrom_6 hl (by decide) rfl (fun ls hl => ?_)
  refine lv_aload hx hb dX4_seenFrom_8 (lv_at hl 0 rfl) ?_
  refine rn_alen hx hb hG (hF _ _ hH.2.1) 0 rfl dX4_seenFrom_10 ?_
  refine rn_top (y := .int (nI 10)) rfl ?_
  refine lv_istore (lv' := [(5, .int (nI 10)), (4, .ref aR), (3, .int (nI y)), (0, .ref h0), (1, .ref (ra r)), (2, .int (nI y))]) hx hb dX4_seenFrom_11 hl (by decide) rfl (fun ls hl => ?_)
  refine lv_iconst (v := 0) hx hb dX4_seenFrom_13 (by decide) ?_
  refine lv_istore (lv' := [(6, .int 0), (5, .int (nI 10)), (4, .ref aR), (3, .int (nI y)), (0, .ref h0), (1, .ref (ra r)), (2, .int (nI y))]) hx hb dX4_seenFrom_14 hl (by decide) rfl (fun ls hl => ?_)
  have loop : ∀ (k i sv : Nat), i + k = 10 → rn_sf σ r y i sv → ∀ (ls : Array Slot), lv_has ls 8 [(6, .int (nI i)), (3, .int (nI sv)), (4, .ref aR), (5, .int (nI 10)), (0, .ref h0), (1, .ref (ra r)), (2, .int (nI y))] → W p l e ({ frames := 1, cells := 0, slots := 0, locals := 22 } : Room) s m ([.ref h0, .ref (ra r), .int (nI y)] : List Value).toArray below meth c s.heap [] 0 0 (MQ below (fun _ st o t => o = .returned (some (.int (nI (rn_see σ r y)))) ∧ t.heap = st.heap) ([.ref h0, .ref (ra r), .int (nI y)] : List Value).toArray s 0 0 (fun _ => False)) (F0 m 16 ls []) := by
    intro k
    induction k with
    | zero =>
      intro i sv hik hsf ls hl
      obtain rfl : i = 10 := by omega
      refine lv_iload hx hb dX4_seenFrom_16 (lv_at hl 0 rfl) ?_
      refine lv_iload hx hb dX4_seenFrom_18 (lv_at hl 3 rfl) ?_
      refine lv_icmp_ge (tgt := 57) hx hb dX4_seenFrom_20 (by decide) (fun c_20 => ?_) (fun c_20 => ?_)
      · refine lv_iload_n hx hb dX4_seenFrom_57 rfl (lv_at hl 1 rfl) ?_
        exact rn_iret hx hb hr rfl hlocks (by rw [rn_sf_end hV hr0 hV.1.2 hsf]) dX4_seenFrom_58
      · exact absurd ((nI_leI (by omega) (by omega)).mpr (Nat.le_refl 10)) c_20
    | succ k ih =>
      intro i sv hik hsf ls hl
      have hsv := rn_sf_le hy0 hsf
      refine lv_iload hx hb dX4_seenFrom_16 (lv_at hl 0 rfl) ?_
      refine lv_iload hx hb dX4_seenFrom_18 (lv_at hl 3 rfl) ?_
      refine lv_icmp_ge (tgt := 57) hx hb dX4_seenFrom_20 (by decide) (fun c_20 => ?_) (fun c_20 => ?_)
      · exact absurd ((nI_leI (by omega) (by omega)).mp c_20) (by omega)
      · refine lv_aload hx hb dX4_seenFrom_23 (lv_at hl 2 rfl) ?_
        refine lv_iload hx hb dX4_seenFrom_25 (lv_at hl 0 rfl) ?_
        refine rn_aald (j := i) hx hb hG (hF _ _ hH.2.1) 0 rfl (by omega) (by decide) dX4_seenFrom_27 ?_
        rcases Nat.lt_or_ge i σ.sn with hi | hi
        · refine rn_top (y := .ref (ra i)) (by rw [rn_row_in hi]; rfl) ?_
          refine lv_astore (lv' := [(7, .ref (ra i)), (6, .int (nI i)), (3, .int (nI sv)), (4, .ref aR), (5, .int (nI 10)), (0, .ref h0), (1, .ref (ra r)), (2, .int (nI y))]) hx hb dX4_seenFrom_28 hl (by decide) rfl (fun ls hl => ?_)
          refine lv_aload hx hb dX4_seenFrom_30 (lv_at hl 0 rfl) ?_
          refine lv_ifnull hx hb dX4_seenFrom_32 ?_
          refine lv_aload_n hx hb dX4_seenFrom_35 rfl (lv_at hl 6 rfl) ?_
          refine lv_aload hx hb dX4_seenFrom_36 (lv_at hl 0 rfl) ?_
          refine rn_cS (As := [.ref (ra r), .ref (ra i)]) (rest := []) 2 hx hb hml hown hts hG (c_isOrIsInside l hV hR (some r) (fun i h => by cases h; exact hr0) hi) gX4_seenFrom_X4_isOrIsInside rfl ⟨rfl, rfl⟩ (by decide +kernel) ⟨Nat.le_of_ble_eq_true rfl, Nat.le_of_ble_eq_true rfl⟩ hF rfl hl.1 rfl (Nat.le_of_ble_eq_true rfl) ⟨Nat.zero_le _, Nat.zero_le _⟩ dX4_seenFrom_38 ?_
          refine W.eq (g2 := F0 m 41 ls [.int (rn_b (rn_insO σ i (some r)))]) rfl ?_
          refine lv_if_eq (tgt := 51) hx hb dX4_seenFrom_41 (by decide) (fun c_41 => ?_) (fun c_41 => ?_)
          · rw [rn_b0] at c_41; simp only [rn_insO, decide_eq_false_iff_not] at c_41; have hno := c_41
            refine lv_iinc (v := (nI (i + 1))) (lv' := [(6, .int (nI (i + 1))), (7, .ref (ra i)), (3, .int (nI sv)), (4, .ref aR), (5, .int (nI 10)), (0, .ref h0), (1, .ref (ra r)), (2, .int (nI y))]) hx hb dX4_seenFrom_51 hl (k := 1) rfl (nI_1 i) (by decide) rfl (fun ls hl => ?_)
            refine lv_goto (tgt := 16) hx hb dX4_seenFrom_54 (by decide) ?_
            exact ih (i + 1) _ (by omega) (rn_sf_no hV hr0 hsf hno) ls (lv_sub hl [0, 2, 3, 4, 5, 6, 7] rfl)
          · rw [rn_b1] at c_41; simp only [rn_insO, decide_eq_true_eq] at c_41; have hyes := c_41
            refine lv_aload hx hb dX4_seenFrom_44 (lv_at hl 0 rfl) ?_
            refine lv_iload_n hx hb dX4_seenFrom_46 rfl (lv_at hl 2 rfl) ?_
            refine rn_cV (As := [.int (nI sv)]) (rest := []) 1 hx hb hml hown hts hG (c_fromOuter l hV hR hi hsv) gX4_seenFrom_X3_fromOuter rfl ⟨rfl, rfl⟩ (by decide +kernel) ⟨Nat.le_of_ble_eq_true rfl, Nat.le_of_ble_eq_true rfl⟩ hF (hF _ _ (hR.1 i hi)) rfl rfl hl.1 rfl (Nat.le_of_ble_eq_true rfl) ⟨Nat.zero_le _, Nat.zero_le _⟩ dX4_seenFrom_47 ?_
            refine W.eq (g2 := F0 m 50 ls [.int (nI (rn_fO σ i sv))]) rfl ?_
            refine lv_istore_n (lv' := [(3, .int (nI (rn_fO σ i sv))), (7, .ref (ra i)), (6, .int (nI i)), (4, .ref aR), (5, .int (nI 10)), (0, .ref h0), (1, .ref (ra r)), (2, .int (nI y))]) hx hb dX4_seenFrom_50 rfl hl (by decide) rfl (fun ls hl => ?_)
            refine lv_iinc (v := (nI (i + 1))) (lv' := [(6, .int (nI (i + 1))), (3, .int (nI (rn_fO σ i sv))), (7, .ref (ra i)), (4, .ref aR), (5, .int (nI 10)), (0, .ref h0), (1, .ref (ra r)), (2, .int (nI y))]) hx hb dX4_seenFrom_51 hl (k := 2) rfl (nI_1 i) (by decide) rfl (fun ls hl => ?_)
            refine lv_goto (tgt := 16) hx hb dX4_seenFrom_54 (by decide) ?_
            exact ih (i + 1) _ (by omega) (rn_sf_yes hV hr0 hy0 hsf hyes) ls (lv_sub hl [0, 1, 3, 4, 5, 6, 7] rfl)
        · refine rn_top (y := .null) (by rw [rn_row_out hi]; rfl) ?_
          have hno : i ∉ rn_up σ r := fun h => by have := rn_up_le hV r r (Nat.le_refl _) hr0 i h; omega
          refine lv_astoreN (lv' := [(7, .null), (6, .int (nI i)), (3, .int (nI sv)), (4, .ref aR), (5, .int (nI 10)), (0, .ref h0), (1, .ref (ra r)), (2, .int (nI y))]) hx hb dX4_seenFrom_28 hl (by decide) rfl (fun ls hl => ?_)
          refine lv_aloadN hx hb dX4_seenFrom_30 (lv_at hl 0 rfl) ?_
          refine lv_ifnullN (tgt := 51) hx hb dX4_seenFrom_32 (by decide) ?_
          refine lv_iinc (v := (nI (i + 1))) (lv' := [(6, .int (nI (i + 1))), (7, .null), (3, .int (nI sv)), (4, .ref aR), (5, .int (nI 10)), (0, .ref h0), (1, .ref (ra r)), (2, .int (nI y))]) hx hb dX4_seenFrom_51 hl (k := 1) rfl (nI_1 i) (by decide) rfl (fun ls hl => ?_)
          refine lv_goto (tgt := 16) hx hb dX4_seenFrom_54 (by decide) ?_
          exact ih (i + 1) _ (by omega) (rn_sf_no hV hr0 hsf hno) ls (lv_sub hl [0, 2, 3, 4, 5, 6, 7] rfl)
  exact loop 10 0 y rfl (Or.inl ⟨rfl, rfl⟩) ls (lv_sub hl [0, 3, 2, 1, 4, 5, 6] rfl)
