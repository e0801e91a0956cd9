set_option maxHeartbeats 4000000 in
set_option maxRecDepth 100000 in
theorem a_ends (l : Launch) {D : va_G} {cR cP cF : ClassId} {h0 aR aP aF : Nat} {ra pa fa : Nat → Nat} {hd : Nat → Option Nat} {dh : Option Nat} {f0 : rn_T} {σ : rn_St} (hV : rn_V σ) (hC : rn_CI cR cP cF h0 aR aP aF ra pa fa hd dh f0 σ) (hq : rn_Q σ) {X : Nat} (hX : X < 2 ^ 31) (sz : Nat) : rn_W l yL_ends wsL_ends ({ frames := 9, cells := 16, slots := 96, locals := 170 } : Room) D (rn_tys cR cP cF) (rn_S D f0) [.ref h0, .int (nI X)] (some (.int 1)) (rn_PQ D cR cP cF h0 f0 sz) (rn_A f0 sz) 16 96 sz := by
  refine rn_W.ofW (cc := cL_ends) (maxL := 12) (ret := (some .boolean)) (by decide) rfl (Nat.le_of_ble_eq_true rfl) (fun p e s m below meth c ls hx hb hr hml hts hown hlocks hin hsz hF hG hS hl => ?_)
  have hl : lv_has ls 12 [(0, .ref h0), (1, .int (nI X))] := hl
  subst hsz
  have hp1 : 1 ≤ σ.pn := hV.2.2.2.2.2.1.1
  have hp2 : σ.pn ≤ 12 := hV.2.2.2.2.2.1.2.1
  obtain ⟨j, hj0, ej⟩ : ∃ j, j < σ.pn ∧ nI X - nI X / nI σ.pn * nI σ.pn = nI j := ⟨X % σ.pn, Nat.mod_lt _ hp1, pk_rem hX hp1 (by omega)⟩
  obtain ⟨f, ef⟩ : ∃ f, f = f0 := ⟨_, rfl⟩
  have hdo : ∀ x, f x ≠ none → rn_A f0 s.heap.size x := fun x h => Or.inl (ef ▸ h)
  rw [← ef] at hC hF
  have t440 : ∀ (τ : rn_St) (f : rn_T) (aR aP aF : Nat) (ra pa fa : Nat → Nat) (hd : Nat → Option Nat) (dh : Option Nat) (H : Heap) (locs : List Loc) (ls : Array Slot) (R U : Nat), rn_V τ → rn_CI cR cP cF h0 aR aP aF ra pa fa hd dh f τ → rn_S D f H → (∀ x, f x ≠ none → rn_A f0 s.heap.size x) → va_S (rn_A f0 s.heap.size) s.heap H locs → (rn_Y τ j R U) → lv_has ls 12 [(8, .int 1), (7, .int (nI R)), (6, .int 1), (5, .int (nI U)), (2, .int (nI j)), (0, .ref h0), (1, .int (nI X))] → W p l e ({ frames := 9, cells := 16, slots := 96, locals := 170 } : Room) s m ([.ref h0, .int (nI X)] : List Value).toArray below meth c H locs 10 60 (MQ below (fun _ st o t => (o = .returned (some (.int 1)) ∧ (rn_PQ D cR cP cF h0 f0 s.heap.size) t.heap) ∧ va_F (rn_A f0 s.heap.size) st t) ([.ref h0, .int (nI X)] : List Value).toArray s 16 96 (rn_A f0 s.heap.size)) (F0 m 440 ls []) := by
    intro τ f aR aP aF ra pa fa hd dh H locs ls R U hV hC hF hdo hS hY hl
    have hU := hY.2.2.2.2.2.2.2.1
    have hfn := hV.2.2.2.2.2.2.1
    have hj0 := hY.2.2.1
    have hR := hY.2.2.2.1
    have hk0 : X / 12 % 16 ≤ 15 := by omega
    have hqY := hY.2.1
    have hpu := hY.2.2.2.2.2.1
    refine lv_iload hx hb dL_ends_440 (lv_at hl 2 rfl) ?_
    refine lv_if_eq (tgt := 557) hx hb dL_ends_442 (by decide) (fun c_442 => ?_) (fun c_442 => ?_)
    · exact absurd c_442 (by decide)
    · refine lv_iload hx hb dL_ends_445 (lv_at hl 0 rfl) ?_
      refine lv_if_eq (tgt := 557) hx hb dL_ends_447 (by decide) (fun c_447 => ?_) (fun c_447 => ?_)
      · exact absurd c_447 (by decide)
      · refine lv_aload_n hx hb dL_ends_450 rfl (lv_at hl 5 rfl) ?_
        refine rn_cV (As := []) (rest := []) 0 hx hb hml hown hts hG (c_files l hV hC ) gL_ends_X4_files rfl ⟨rfl, rfl⟩ (by decide +kernel) ⟨Nat.le_of_ble_eq_true rfl, Nat.le_of_ble_eq_true rfl⟩ hF (hF _ _ hC.1.1) rfl rfl hl.1 rfl (Nat.le_of_ble_eq_true rfl) ⟨Nat.le_of_ble_eq_true rfl, Nat.le_of_ble_eq_true rfl⟩ dL_ends_451 ?_
        refine W.eq (g2 := F0 m 454 ls [.int (nI τ.fn)]) rfl ?_
        refine lv_bipush (v := 20) hx hb dL_ends_454 (by decide +kernel) ?_
        refine lv_icmp_ge (tgt := 557) hx hb dL_ends_456 (by decide) (fun c_456 => ?_) (fun c_456 => ?_)
        · refine lv_iload hx hb dL_ends_557 (lv_at hl 2 rfl) ?_
          exact rn_Wiret hx hb hr rfl hlocks hS (by decide) (by decide) rfl (rn_PQ_mk (σ' := τ) hY.2.1 hV hC hF hdo) dL_ends_559
        · have hn0 : τ.fn < 20 := Nat.not_le.mp (fun h => c_456 ((nI_leI (a := 20) (by decide) (by omega)).mpr h))
          obtain ⟨e1, hY⟩ := hY.make hn0 (nI (X / 12 % 16))
          refine lv_aload_n hx hb dL_ends_459 rfl (lv_at hl 5 rfl) ?_
          refine lv_iload_n hx hb dL_ends_460 rfl (lv_at hl 4 rfl) ?_
          refine lv_iload_n hx hb dL_ends_461 rfl (lv_at hl 6 rfl) ?_
          refine lv_bipush (v := 12) hx hb dL_ends_462 (by decide +kernel) ?_
          refine lv_idiv hx hb dL_ends_464 (by decide) ?_
          refine rn_top (y := .int (nI (X / 12))) (congrArg Value.int (pk_div (d := 12) hX (by decide) (by decide))) ?_
          refine lv_bipush (v := 16) hx hb dL_ends_465 (by decide +kernel) ?_
          refine lv_irem hx hb dL_ends_467 (by decide) ?_
          refine rn_top (y := .int (nI (X / 12 % 16))) (congrArg Value.int (pk_rem (d := 16) (rn_small hX _) (by decide) (by decide))) ?_
          have hz9 := hS.1
          refine rn_wSH (As := [.ref h0, .int (nI j), .int (nI (X / 12 % 16))]) (rest := []) 3 hx hb hml hown hts hG hS (l_files_o l hV hC hj0 hk0 hn0 _) (fun q h => h.elim (hdo q) (fun h => Or.inr (Nat.le_trans hz9 h))) gL_ends_L_files rfl ⟨rfl, rfl⟩ (by decide +kernel) ⟨Nat.le_of_ble_eq_true rfl, Nat.le_of_ble_eq_true rfl⟩ hF rfl hl.1 rfl (Nat.le_of_ble_eq_true rfl) ⟨Nat.le_of_ble_eq_true rfl, Nat.le_of_ble_eq_true rfl⟩ dL_ends_468 (fun H locs hP1 _ _ hS => ?_)
          refine W.eq (g2 := F0 m 471 ls [.int ((rn_o_makeFile τ j (nI (X / 12 % 16))).1)]) rfl ?_
          rw [e1] at hP1
          have hP1 : rn_P D cR cP cF h0 _ _ (rn_addFile τ j (nI (X / 12 % 16))) _ := hP1
          obtain ⟨f, ⟨hV, aR, aP, aF, ra, pa, fa, hd, dh, hC⟩, hF, hdm⟩ := hP1
          have hdo : ∀ x, f x ≠ none → rn_A f0 s.heap.size x := fun x hx => (hdm x hx).elim (hdo x) (fun h => Or.inr (Nat.le_trans hz9 h))
          refine rn_top (y := .int (nI τ.fn)) (congrArg Value.int (by rw [e1])) ?_
          have hF0 : τ.fn < (rn_addFile τ j (nI (X / 12 % 16))).fn := Nat.lt_succ_self τ.fn
          have hfo : (rn_addFile τ j (nI (X / 12 % 16))).fo τ.fn = U := (rn_up_eq _ _ _).trans hpu
          have hfm : (rn_addFile τ j (nI (X / 12 % 16))).fm τ.fn = nI (X / 12 % 16) := rn_up_eq _ _ _
          have hj0 := hY.2.2.1
          refine lv_istore (lv' := [(11, .int (nI τ.fn)), (8, .int 1), (7, .int (nI R)), (6, .int 1), (5, .int (nI U)), (2, .int (nI j)), (0, .ref h0), (1, .int (nI X))]) hx hb dL_ends_471 hl (by decide) rfl (fun ls hl => ?_)
          refine lv_iload hx hb dL_ends_473 (lv_at hl 0 rfl) ?_
          refine lv_aload_n hx hb dL_ends_475 rfl (lv_at hl 6 rfl) ?_
          refine rn_cV (As := []) (rest := [.int (nI τ.fn)]) 0 hx hb hml hown hts hG (c_files l hV hC ) gL_ends_X4_files rfl ⟨rfl, rfl⟩ (by decide +kernel) ⟨Nat.le_of_ble_eq_true rfl, Nat.le_of_ble_eq_true rfl⟩ hF (hF _ _ hC.1.1) rfl rfl hl.1 rfl (Nat.le_of_ble_eq_true rfl) ⟨Nat.le_of_ble_eq_true rfl, Nat.le_of_ble_eq_true rfl⟩ dL_ends_476 ?_
          refine W.eq (g2 := F0 m 479 ls [.int (nI (rn_addFile τ j (nI (X / 12 % 16))).fn), .int (nI τ.fn)]) rfl ?_
          refine lv_iconst (v := 1) hx hb dL_ends_479 (by decide) ?_
          refine lv_isub hx hb dL_ends_480 ?_
          refine rn_top (y := .int (nI τ.fn)) (congrArg Value.int (rn_pred τ.fn)) ?_
          refine lv_icmp_ne (tgt := 554) hx hb dL_ends_481 (by decide) (fun c_481 => ?_) (fun c_481 => ?_)
          · exact absurd rfl c_481
          · refine lv_aload_n hx hb dL_ends_484 rfl (lv_at hl 6 rfl) ?_
            refine lv_iload_n hx hb dL_ends_485 rfl (lv_at hl 5 rfl) ?_
            refine lv_iload hx hb dL_ends_486 (lv_at hl 0 rfl) ?_
            refine rn_cSH (As := [.ref h0, .int (nI j), .int (nI τ.fn)]) (rest := []) 3 hx hb hml hown hts hG (l_owner_o l hV hC hj0 hF0) gL_ends_L_owner rfl ⟨rfl, rfl⟩ (by decide +kernel) ⟨Nat.le_of_ble_eq_true rfl, Nat.le_of_ble_eq_true rfl⟩ hF rfl hl.1 rfl (Nat.le_of_ble_eq_true rfl) ⟨Nat.le_of_ble_eq_true rfl, Nat.le_of_ble_eq_true rfl⟩ dL_ends_488 ?_
            refine W.eq (g2 := F0 m 491 ls [.int (nI (rn_see (rn_addFile τ j (nI (X / 12 % 16))) ((rn_addFile τ j (nI (X / 12 % 16))).pl j) ((rn_addFile τ j (nI (X / 12 % 16))).fo τ.fn)))]) rfl ?_
            refine rn_top (y := .int 3) (congrArg Value.int (by rw [hfo, hY.2.2.2.2.1, hY.see]; rfl)) ?_
            refine lv_iconst (v := 3) hx hb dL_ends_491 (by decide) ?_
            refine lv_icmp_ne (tgt := 554) hx hb dL_ends_492 (by decide) (fun c_492 => ?_) (fun c_492 => ?_)
            · exact absurd rfl c_492
            · refine lv_aload_n hx hb dL_ends_495 rfl (lv_at hl 6 rfl) ?_
              refine lv_iload_n hx hb dL_ends_496 rfl (lv_at hl 5 rfl) ?_
              refine lv_iload hx hb dL_ends_497 (lv_at hl 0 rfl) ?_
              refine lv_iconst (v := 0) hx hb dL_ends_499 (by decide) ?_
              have hz9 := hS.1
              refine rn_wSH (As := [.ref h0, .int (nI j), .int (nI τ.fn), .int (rn_b false)]) (rest := []) 4 hx hb hml hown hts hG hS (l_opens_o l hV hC (wb := false) hj0 hF0 _) (fun q h => h.elim (hdo q) (fun h => Or.inr (Nat.le_trans hz9 h))) gL_ends_L_opens rfl ⟨rfl, rfl⟩ (by decide +kernel) ⟨Nat.le_of_ble_eq_true rfl, Nat.le_of_ble_eq_true rfl⟩ hF rfl hl.1 rfl (Nat.le_of_ble_eq_true rfl) ⟨Nat.le_of_ble_eq_true rfl, Nat.le_of_ble_eq_true rfl⟩ dL_ends_500 (fun H locs hP1 _ _ hS => ?_)
              refine W.eq (g2 := F0 m 503 ls [.int ((rn_o_open (rn_addFile τ j (nI (X / 12 % 16))) j τ.fn false).1)]) rfl ?_
              rw [hY.opened hk0 hfo hfm] at hP1
              have hP1 : rn_P D cR cP cF h0 _ _ (rn_addFile τ j (nI (X / 12 % 16))) _ := hP1
              obtain ⟨f, ⟨hV, aR, aP, aF, ra, pa, fa, hd, dh, hC⟩, hF, hdm⟩ := hP1
              have hdo : ∀ x, f x ≠ none → rn_A f0 s.heap.size x := fun x hx => (hdm x hx).elim (hdo x) (fun h => Or.inr (Nat.le_trans hz9 h))
              refine rn_top (y := .int (if nI (X / 12 % 16) &&& 1 = 1 then 1 else 2)) (congrArg Value.int (by rw [hY.opened hk0 hfo hfm])) ?_
              refine lv_iload_n hx hb dL_ends_503 rfl (lv_at hl 7 rfl) ?_
              refine lv_bipush (v := 12) hx hb dL_ends_504 (by decide +kernel) ?_
              refine lv_idiv hx hb dL_ends_506 (by decide) ?_
              refine rn_top (y := .int (nI (X / 12))) (congrArg Value.int (pk_div (d := 12) hX (by decide) (by decide))) ?_
              refine lv_bipush (v := 16) hx hb dL_ends_507 (by decide +kernel) ?_
              refine lv_irem hx hb dL_ends_509 (by decide) ?_
              refine rn_top (y := .int (nI (X / 12 % 16))) (congrArg Value.int (pk_rem (d := 16) (rn_small hX _) (by decide) (by decide))) ?_
              refine lv_iconst (v := 1) hx hb dL_ends_510 (by decide) ?_
              refine lv_iand hx hb dL_ends_511 ?_
              refine lv_iconst (v := 1) hx hb dL_ends_512 (by decide) ?_
              refine lv_icmp_ne (tgt := 520) hx hb dL_ends_513 (by decide) (fun c_513 => ?_) (fun c_513 => ?_)
              · refine lv_iconst (v := 2) hx hb dL_ends_520 (by decide) ?_
                refine lv_icmp_ne (tgt := 554) hx hb dL_ends_521 (by decide) (fun c_521 => ?_) (fun c_521 => ?_)
                · exact absurd (if_neg c_513) c_521
                · refine lv_aload_n hx hb dL_ends_524 rfl (lv_at hl 6 rfl) ?_
                  refine lv_iload_n hx hb dL_ends_525 rfl (lv_at hl 5 rfl) ?_
                  refine lv_iload hx hb dL_ends_526 (lv_at hl 0 rfl) ?_
                  refine lv_iconst (v := 3) hx hb dL_ends_528 (by decide) ?_
                  have hz9 := hS.1
                  refine rn_wSH (As := [.ref h0, .int (nI j), .int (nI τ.fn), .int (nI 3)]) (rest := []) 4 hx hb hml hown hts hG hS (l_hands_o l hV hC (x := 3) hj0 hF0 (by decide) _) (fun q h => h.elim (hdo q) (fun h => Or.inr (Nat.le_trans hz9 h))) gL_ends_L_hands rfl ⟨rfl, rfl⟩ (by decide +kernel) ⟨Nat.le_of_ble_eq_true rfl, Nat.le_of_ble_eq_true rfl⟩ hF rfl hl.1 rfl (Nat.le_of_ble_eq_true rfl) ⟨Nat.le_of_ble_eq_true rfl, Nat.le_of_ble_eq_true rfl⟩ dL_ends_529 (fun H locs hP1 _ _ hS => ?_)
                  refine W.eq (g2 := F0 m 532 ls [.int ((rn_o_handOver (rn_addFile τ j (nI (X / 12 % 16))) j τ.fn 3).1)]) rfl ?_
                  rw [(hY.hand hfo).1] at hP1
                  have hP1 : rn_P D cR cP cF h0 _ _ (rn_hand (rn_addFile τ j (nI (X / 12 % 16))) τ.fn U) _ := hP1
                  obtain ⟨f, ⟨hV, aR, aP, aF, ra, pa, fa, hd, dh, hC⟩, hF, hdm⟩ := hP1
                  have hdo : ∀ x, f x ≠ none → rn_A f0 s.heap.size x := fun x hx => (hdm x hx).elim (hdo x) (fun h => Or.inr (Nat.le_trans hz9 h))
                  refine rn_top (y := .int (nI U)) (congrArg Value.int (by rw [(hY.hand hfo).1])) ?_
                  have hY := (hY.hand hfo).2
                  have hj0 := hY.2.2.1
                  refine lv_iload hx hb dL_ends_532 (lv_at hl 4 rfl) ?_
                  refine lv_icmp_ne (tgt := 554) hx hb dL_ends_534 (by decide) (fun c_534 => ?_) (fun c_534 => ?_)
                  · exact absurd rfl c_534
                  · refine lv_aload_n hx hb dL_ends_537 rfl (lv_at hl 6 rfl) ?_
                    refine lv_iload_n hx hb dL_ends_538 rfl (lv_at hl 5 rfl) ?_
                    refine lv_iload hx hb dL_ends_539 (lv_at hl 0 rfl) ?_
                    refine lv_iconst (v := 4) hx hb dL_ends_541 (by decide) ?_
                    have hz9 := hS.1
                    refine rn_wSH (As := [.ref h0, .int (nI j), .int (nI τ.fn), .int (nI 4)]) (rest := []) 4 hx hb hml hown hts hG hS (l_hands_o l hV hC (x := 4) hj0 hF0 (by decide) _) (fun q h => h.elim (hdo q) (fun h => Or.inr (Nat.le_trans hz9 h))) gL_ends_L_hands rfl ⟨rfl, rfl⟩ (by decide +kernel) ⟨Nat.le_of_ble_eq_true rfl, Nat.le_of_ble_eq_true rfl⟩ hF rfl hl.1 rfl (Nat.le_of_ble_eq_true rfl) ⟨Nat.le_of_ble_eq_true rfl, Nat.le_of_ble_eq_true rfl⟩ dL_ends_542 (fun H locs hP1 _ _ hS => ?_)
                    refine W.eq (g2 := F0 m 545 ls [.int ((rn_o_handOver (rn_hand (rn_addFile τ j (nI (X / 12 % 16))) τ.fn U) j τ.fn 4).1)]) rfl ?_
                    rw [hY.hand4] at hP1
                    have hP1 : rn_P D cR cP cF h0 _ _ (rn_ref (rn_hand (rn_addFile τ j (nI (X / 12 % 16))) τ.fn U) (-2)) _ := hP1
                    obtain ⟨f, ⟨hV, aR, aP, aF, ra, pa, fa, hd, dh, hC⟩, hF, hdm⟩ := hP1
                    have hdo : ∀ x, f x ≠ none → rn_A f0 s.heap.size x := fun x hx => (hdm x hx).elim (hdo x) (fun h => Or.inr (Nat.le_trans hz9 h))
                    refine rn_top (y := .int (-2)) (congrArg Value.int (by rw [hY.hand4])) ?_
                    refine lv_bipush (v := (-2)) hx hb dL_ends_545 (by decide +kernel) ?_
                    refine lv_icmp_ne (tgt := 554) hx hb dL_ends_547 (by decide) (fun c_547 => ?_) (fun c_547 => ?_)
                    · exact absurd rfl c_547
                    · refine lv_iconst (v := 1) hx hb dL_ends_550 (by decide) ?_
                      refine lv_goto (tgt := 555) hx hb dL_ends_551 (by decide) ?_
                      refine lv_istore (lv' := [(6, .int 1), (11, .int (nI τ.fn)), (8, .int 1), (7, .int (nI R)), (5, .int (nI U)), (2, .int (nI j)), (0, .ref h0), (1, .int (nI X))]) hx hb dL_ends_555 hl (by decide) rfl (fun ls hl => ?_)
                      refine lv_iload hx hb dL_ends_557 (lv_at hl 0 rfl) ?_
                      exact rn_Wiret hx hb hr rfl hlocks hS (by decide) (by decide) rfl (rn_PQ_mk (σ' := rn_ref (rn_hand (rn_addFile τ j (nI (X / 12 % 16))) τ.fn U) (-2)) hY.2.1 hV hC hF hdo) dL_ends_559
              · refine lv_iconst (v := 1) hx hb dL_ends_516 (by decide) ?_
                refine lv_goto (tgt := 521) hx hb dL_ends_517 (by decide) ?_
                refine lv_icmp_ne (tgt := 554) hx hb dL_ends_521 (by decide) (fun c_521 => ?_) (fun c_521 => ?_)
                · exact absurd (if_pos c_513) c_521
                · refine lv_aload_n hx hb dL_ends_524 rfl (lv_at hl 6 rfl) ?_
                  refine lv_iload_n hx hb dL_ends_525 rfl (lv_at hl 5 rfl) ?_
                  refine lv_iload hx hb dL_ends_526 (lv_at hl 0 rfl) ?_
                  refine lv_iconst (v := 3) hx hb dL_ends_528 (by decide) ?_
                  have hz9 := hS.1
                  refine rn_wSH (As := [.ref h0, .int (nI j), .int (nI τ.fn), .int (nI 3)]) (rest := []) 4 hx hb hml hown hts hG hS (l_hands_o l hV hC (x := 3) hj0 hF0 (by decide) _) (fun q h => h.elim (hdo q) (fun h => Or.inr (Nat.le_trans hz9 h))) gL_ends_L_hands rfl ⟨rfl, rfl⟩ (by decide +kernel) ⟨Nat.le_of_ble_eq_true rfl, Nat.le_of_ble_eq_true rfl⟩ hF rfl hl.1 rfl (Nat.le_of_ble_eq_true rfl) ⟨Nat.le_of_ble_eq_true rfl, Nat.le_of_ble_eq_true rfl⟩ dL_ends_529 (fun H locs hP1 _ _ hS => ?_)
                  refine W.eq (g2 := F0 m 532 ls [.int ((rn_o_handOver (rn_addFile τ j (nI (X / 12 % 16))) j τ.fn 3).1)]) rfl ?_
                  rw [(hY.hand hfo).1] at hP1
                  have hP1 : rn_P D cR cP cF h0 _ _ (rn_hand (rn_addFile τ j (nI (X / 12 % 16))) τ.fn U) _ := hP1
                  obtain ⟨f, ⟨hV, aR, aP, aF, ra, pa, fa, hd, dh, hC⟩, hF, hdm⟩ := hP1
                  have hdo : ∀ x, f x ≠ none → rn_A f0 s.heap.size x := fun x hx => (hdm x hx).elim (hdo x) (fun h => Or.inr (Nat.le_trans hz9 h))
                  refine rn_top (y := .int (nI U)) (congrArg Value.int (by rw [(hY.hand hfo).1])) ?_
                  have hY := (hY.hand hfo).2
                  have hj0 := hY.2.2.1
                  refine lv_iload hx hb dL_ends_532 (lv_at hl 4 rfl) ?_
                  refine lv_icmp_ne (tgt := 554) hx hb dL_ends_534 (by decide) (fun c_534 => ?_) (fun c_534 => ?_)
                  · exact absurd rfl c_534
                  · refine lv_aload_n hx hb dL_ends_537 rfl (lv_at hl 6 rfl) ?_
                    refine lv_iload_n hx hb dL_ends_538 rfl (lv_at hl 5 rfl) ?_
                    refine lv_iload hx hb dL_ends_539 (lv_at hl 0 rfl) ?_
                    refine lv_iconst (v := 4) hx hb dL_ends_541 (by decide) ?_
                    have hz9 := hS.1
                    refine rn_wSH (As := [.ref h0, .int (nI j), .int (nI τ.fn), .int (nI 4)]) (rest := []) 4 hx hb hml hown hts hG hS (l_hands_o l hV hC (x := 4) hj0 hF0 (by decide) _) (fun q h => h.elim (hdo q) (fun h => Or.inr (Nat.le_trans hz9 h))) gL_ends_L_hands rfl ⟨rfl, rfl⟩ (by decide +kernel) ⟨Nat.le_of_ble_eq_true rfl, Nat.le_of_ble_eq_true rfl⟩ hF rfl hl.1 rfl (Nat.le_of_ble_eq_true rfl) ⟨Nat.le_of_ble_eq_true rfl, Nat.le_of_ble_eq_true rfl⟩ dL_ends_542 (fun H locs hP1 _ _ hS => ?_)
                    refine W.eq (g2 := F0 m 545 ls [.int ((rn_o_handOver (rn_hand (rn_addFile τ j (nI (X / 12 % 16))) τ.fn U) j τ.fn 4).1)]) rfl ?_
                    rw [hY.hand4] at hP1
                    have hP1 : rn_P D cR cP cF h0 _ _ (rn_ref (rn_hand (rn_addFile τ j (nI (X / 12 % 16))) τ.fn U) (-2)) _ := hP1
                    obtain ⟨f, ⟨hV, aR, aP, aF, ra, pa, fa, hd, dh, hC⟩, hF, hdm⟩ := hP1
                    have hdo : ∀ x, f x ≠ none → rn_A f0 s.heap.size x := fun x hx => (hdm x hx).elim (hdo x) (fun h => Or.inr (Nat.le_trans hz9 h))
                    refine rn_top (y := .int (-2)) (congrArg Value.int (by rw [hY.hand4])) ?_
                    refine lv_bipush (v := (-2)) hx hb dL_ends_545 (by decide +kernel) ?_
                    refine lv_icmp_ne (tgt := 554) hx hb dL_ends_547 (by decide) (fun c_547 => ?_) (fun c_547 => ?_)
                    · exact absurd rfl c_547
                    · refine lv_iconst (v := 1) hx hb dL_ends_550 (by decide) ?_
                      refine lv_goto (tgt := 555) hx hb dL_ends_551 (by decide) ?_
                      refine lv_istore (lv' := [(6, .int 1), (11, .int (nI τ.fn)), (8, .int 1), (7, .int (nI R)), (5, .int (nI U)), (2, .int (nI j)), (0, .ref h0), (1, .int (nI X))]) hx hb dL_ends_555 hl (by decide) rfl (fun ls hl => ?_)
                      refine lv_iload hx hb dL_ends_557 (lv_at hl 0 rfl) ?_
                      exact rn_Wiret hx hb hr rfl hlocks hS (by decide) (by decide) rfl (rn_PQ_mk (σ' := rn_ref (rn_hand (rn_addFile τ j (nI (X / 12 % 16))) τ.fn U) (-2)) hY.2.1 hV hC hF hdo) dL_ends_559
  have t375 : ∀ (τ : rn_St) (f : rn_T) (aR aP aF : Nat) (ra pa fa : Nat → Nat) (hd : Nat → Option Nat) (dh : Option Nat) (H : Heap) (locs : List Loc) (ls : Array Slot) (R Q U x : Nat), rn_V τ → rn_CI cR cP cF h0 aR aP aF ra pa fa hd dh f τ → rn_S D f H → (∀ x, f x ≠ none → rn_A f0 s.heap.size x) → va_S (rn_A f0 s.heap.size) s.heap H locs → (rn_Z τ j R Q U) → (τ.sm R = []) → (τ.sd = [(3, x, 1)]) → (rn_lead τ Q x = some U) → lv_has ls 12 [(8, .int 1), (7, .int (nI R)), (6, .int 1), (5, .int (nI U)), (2, .int (nI j)), (0, .ref h0), (1, .int (nI X)), (3, .int (nI Q))] → W p l e ({ frames := 9, cells := 16, slots := 96, locals := 170 } : Room) s m ([.ref h0, .int (nI X)] : List Value).toArray below meth c H locs 7 42 (MQ below (fun _ st o t => (o = .returned (some (.int 1)) ∧ (rn_PQ D cR cP cF h0 f0 s.heap.size) t.heap) ∧ va_F (rn_A f0 s.heap.size) st t) ([.ref h0, .int (nI X)] : List Value).toArray s 16 96 (rn_A f0 s.heap.size)) (F0 m 375 ls []) := by
    intro τ f aR aP aF ra pa fa hd dh H locs ls R Q U x hV hC hF hdo hS hZ hm hsd hlw hl
    have hj0 := hZ.2.2.1
    have hR := hZ.2.2.2.1
    have hR0 := hZ.2.2.2.2.1
    have e2 := rn_wm1 hZ hm hsd hlw
    have hY := hZ.toY hsd hlw
    refine lv_aload_n hx hb dL_ends_375 rfl (lv_at hl 5 rfl) ?_
    refine lv_iload_n hx hb dL_ends_376 rfl (lv_at hl 4 rfl) ?_
    refine lv_iload hx hb dL_ends_377 (lv_at hl 1 rfl) ?_
    have hz9 := hS.1
    refine rn_wSH (As := [.ref h0, .int (nI j), .int (nI R)]) (rest := []) 3 hx hb hml hown hts hG hS (l_writes_o l hV hC hj0 hR hR0 _) (fun q h => h.elim (hdo q) (fun h => Or.inr (Nat.le_trans hz9 h))) gL_ends_L_writes rfl ⟨rfl, rfl⟩ (by decide +kernel) ⟨Nat.le_of_ble_eq_true rfl, Nat.le_of_ble_eq_true rfl⟩ hF rfl hl.1 rfl (Nat.le_of_ble_eq_true rfl) ⟨Nat.le_of_ble_eq_true rfl, Nat.le_of_ble_eq_true rfl⟩ dL_ends_379 (fun H locs hP1 _ _ hS => ?_)
    refine W.eq (g2 := F0 m 382 ls [.int ((rn_o_writeMap τ j R).1)]) rfl ?_
    rw [e2] at hP1
    have hP1 : rn_P D cR cP cF h0 _ _ (rn_setMap τ R) _ := hP1
    obtain ⟨f, ⟨hV, aR, aP, aF, ra, pa, fa, hd, dh, hC⟩, hF, hdm⟩ := hP1
    have hdo : ∀ x, f x ≠ none → rn_A f0 s.heap.size x := fun x hx => (hdm x hx).elim (hdo x) (fun h => Or.inr (Nat.le_trans hz9 h))
    refine rn_top (y := .int 1) (congrArg Value.int (by rw [e2])) ?_
    have hU := hY.2.2.2.2.2.2.2.1
    refine lv_iconst (v := 1) hx hb dL_ends_382 (by decide) ?_
    refine lv_icmp_ne (tgt := 437) hx hb dL_ends_383 (by decide) (fun c_383 => ?_) (fun c_383 => ?_)
    · exact absurd rfl c_383
    · refine lv_aload_n hx hb dL_ends_386 rfl (lv_at hl 5 rfl) ?_
      refine lv_iload hx hb dL_ends_387 (lv_at hl 1 rfl) ?_
      refine lv_iload hx hb dL_ends_389 (lv_at hl 3 rfl) ?_
      refine rn_cSH (As := [.ref h0, .int (nI R), .int (nI U)]) (rest := []) 3 hx hb hml hown hts hG (l_seen_o l hV hC hR hU) gL_ends_L_seen rfl ⟨rfl, rfl⟩ (by decide +kernel) ⟨Nat.le_of_ble_eq_true rfl, Nat.le_of_ble_eq_true rfl⟩ hF rfl hl.1 rfl (Nat.le_of_ble_eq_true rfl) ⟨Nat.le_of_ble_eq_true rfl, Nat.le_of_ble_eq_true rfl⟩ dL_ends_391 ?_
      refine W.eq (g2 := F0 m 394 ls [.int (nI (rn_see (rn_setMap τ R) R U))]) rfl ?_
      refine rn_top (y := .int 3) (congrArg Value.int (by rw [hY.see]; rfl)) ?_
      refine lv_iconst (v := 3) hx hb dL_ends_394 (by decide) ?_
      refine lv_icmp_ne (tgt := 437) hx hb dL_ends_395 (by decide) (fun c_395 => ?_) (fun c_395 => ?_)
      · exact absurd rfl c_395
      · refine lv_aload_n hx hb dL_ends_398 rfl (lv_at hl 5 rfl) ?_
        refine lv_iload hx hb dL_ends_399 (lv_at hl 1 rfl) ?_
        refine lv_iconst (v := 3) hx hb dL_ends_401 (by decide) ?_
        refine rn_cSH (As := [.ref h0, .int (nI R), .int (nI 3)]) (rest := []) 3 hx hb hml hown hts hG (l_leads_o l hV hC (x := 3) hR (by decide)) gL_ends_L_leads rfl ⟨rfl, rfl⟩ (by decide +kernel) ⟨Nat.le_of_ble_eq_true rfl, Nat.le_of_ble_eq_true rfl⟩ hF rfl hl.1 rfl (Nat.le_of_ble_eq_true rfl) ⟨Nat.le_of_ble_eq_true rfl, Nat.le_of_ble_eq_true rfl⟩ dL_ends_402 ?_
        refine W.eq (g2 := F0 m 405 ls [.int (rn_enc (rn_lead (rn_setMap τ R) R 3))]) rfl ?_
        refine rn_top (y := .int (nI U)) (congrArg Value.int (by rw [hY.2.2.2.2.2.2.2.2.1]; rfl)) ?_
        refine lv_iload hx hb dL_ends_405 (lv_at hl 3 rfl) ?_
        refine lv_icmp_ne (tgt := 437) hx hb dL_ends_407 (by decide) (fun c_407 => ?_) (fun c_407 => ?_)
        · exact absurd rfl c_407
        · refine lv_aload_n hx hb dL_ends_410 rfl (lv_at hl 5 rfl) ?_
          refine lv_iload_n hx hb dL_ends_411 rfl (lv_at hl 4 rfl) ?_
          refine lv_iconst (v := 3) hx hb dL_ends_412 (by decide) ?_
          have hz9 := hS.1
          refine rn_wSH (As := [.ref h0, .int (nI j), .int (nI 3)]) (rest := []) 3 hx hb hml hown hts hG hS (l_takes_o l hV hC (x := 3) hj0 (by decide) _) (fun q h => h.elim (hdo q) (fun h => Or.inr (Nat.le_trans hz9 h))) gL_ends_L_takes rfl ⟨rfl, rfl⟩ (by decide +kernel) ⟨Nat.le_of_ble_eq_true rfl, Nat.le_of_ble_eq_true rfl⟩ hF rfl hl.1 rfl (Nat.le_of_ble_eq_true rfl) ⟨Nat.le_of_ble_eq_true rfl, Nat.le_of_ble_eq_true rfl⟩ dL_ends_413 (fun H locs hP1 _ _ hS => ?_)
          refine W.eq (g2 := F0 m 416 ls [.int ((rn_o_setNumber (rn_setMap τ R) j 3).1)]) rfl ?_
          rw [hY.take.1] at hP1
          have hP1 : rn_P D cR cP cF h0 _ _ (rn_proc (rn_setMap τ R) j R U 15) _ := hP1
          obtain ⟨f, ⟨hV, aR, aP, aF, ra, pa, fa, hd, dh, hC⟩, hF, hdm⟩ := hP1
          have hdo : ∀ x, f x ≠ none → rn_A f0 s.heap.size x := fun x hx => (hdm x hx).elim (hdo x) (fun h => Or.inr (Nat.le_trans hz9 h))
          refine rn_top (y := .int (nI U)) (congrArg Value.int (by rw [hY.take.1])) ?_
          have hY := hY.take.2
          have hj0 := hY.2.2.1
          refine lv_iload hx hb dL_ends_416 (lv_at hl 3 rfl) ?_
          refine lv_icmp_ne (tgt := 437) hx hb dL_ends_418 (by decide) (fun c_418 => ?_) (fun c_418 => ?_)
          · exact absurd rfl c_418
          · refine lv_aload_n hx hb dL_ends_421 rfl (lv_at hl 5 rfl) ?_
            refine lv_iload_n hx hb dL_ends_422 rfl (lv_at hl 4 rfl) ?_
            refine lv_iload hx hb dL_ends_423 (lv_at hl 1 rfl) ?_
            refine rn_cSH (As := [.ref h0, .int (nI j), .int (nI R)]) (rest := []) 3 hx hb hml hown hts hG (l_rights_o l hV hC hj0 hR) gL_ends_L_rights rfl ⟨rfl, rfl⟩ (by decide +kernel) ⟨Nat.le_of_ble_eq_true rfl, Nat.le_of_ble_eq_true rfl⟩ hF rfl hl.1 rfl (Nat.le_of_ble_eq_true rfl) ⟨Nat.le_of_ble_eq_true rfl, Nat.le_of_ble_eq_true rfl⟩ dL_ends_425 ?_
            refine W.eq (g2 := F0 m 428 ls [.int (rn_held (rn_proc (rn_setMap τ R) j R U 15) j R)]) rfl ?_
            refine rn_top (y := .int 15) (congrArg Value.int hY.held) ?_
            refine lv_bipush (v := 15) hx hb dL_ends_428 (by decide +kernel) ?_
            refine lv_icmp_ne (tgt := 437) hx hb dL_ends_430 (by decide) (fun c_430 => ?_) (fun c_430 => ?_)
            · exact absurd rfl c_430
            · refine lv_iconst (v := 1) hx hb dL_ends_433 (by decide) ?_
              refine lv_goto (tgt := 438) hx hb dL_ends_434 (by decide) ?_
              refine lv_istore (lv' := [(6, .int 1), (8, .int 1), (7, .int (nI R)), (5, .int (nI U)), (2, .int (nI j)), (0, .ref h0), (1, .int (nI X)), (3, .int (nI Q))]) hx hb dL_ends_438 hl (by decide) rfl (fun ls hl => ?_)
              refine W.widen (k := 10) (n := 60) (Nat.le_of_ble_eq_true rfl) (Nat.le_of_ble_eq_true rfl) ?_
              exact t440 (rn_proc (rn_setMap τ R) j R U 15) f aR aP aF ra pa fa hd dh _ _ ls R U hV hC hF hdo hS hY (lv_sub hl [1, 2, 0, 3, 4, 5, 6] rfl)
  have t319_1 : ∀ (τ : rn_St) (f : rn_T) (aR aP aF : Nat) (ra pa fa : Nat → Nat) (hd : Nat → Option Nat) (dh : Option Nat) (H : Heap) (locs : List Loc) (ls : Array Slot) (R Q U x : Nat), rn_V τ → rn_CI cR cP cF h0 aR aP aF ra pa fa hd dh f τ → rn_S D f H → (∀ x, f x ≠ none → rn_A f0 s.heap.size x) → va_S (rn_A f0 s.heap.size) s.heap H locs → (rn_Z τ j R Q U) → (τ.sm R = []) → (τ.sd = []) → (x ≤ 998) → (rn_see τ Q U = x) → (rn_lead τ Q x = some U) → lv_has ls 12 [(8, .int 1), (7, .int (nI R)), (6, .int 1), (5, .int (nI U)), (2, .int (nI j)), (3, .int (nI Q)), (0, .ref h0), (1, .int (nI X))] → W p l e ({ frames := 9, cells := 16, slots := 96, locals := 170 } : Room) s m ([.ref h0, .int (nI X)] : List Value).toArray below meth c H locs 5 30 (MQ below (fun _ st o t => (o = .returned (some (.int 1)) ∧ (rn_PQ D cR cP cF h0 f0 s.heap.size) t.heap) ∧ va_F (rn_A f0 s.heap.size) st t) ([.ref h0, .int (nI X)] : List Value).toArray s 16 96 (rn_A f0 s.heap.size)) (F0 m 319 ls []) := by
    intro τ f aR aP aF ra pa fa hd dh H locs ls R Q U x hV hC hF hdo hS hZ hm hsd hx9 hsee hlx hl
    have hj0 := hZ.2.2.1
    have hR := hZ.2.2.2.1
    have hR0 := hZ.2.2.2.2.1
    have hQ := hZ.2.2.2.2.2.1
    have hU := hZ.2.2.2.2.2.2.2.2.2.2.2
    have hqZ := hZ.2.1
    have e3 := rn_wm3 (j := j) hm hsd
    refine lv_aload_n hx hb dL_ends_319 rfl (lv_at hl 6 rfl) ?_
    refine rn_cV (As := []) (rest := []) 0 hx hb hml hown hts hG (c_refusals l hV hC ) gL_ends_X4_refusals rfl ⟨rfl, rfl⟩ (by decide +kernel) ⟨Nat.le_of_ble_eq_true rfl, Nat.le_of_ble_eq_true rfl⟩ hF (hF _ _ hC.1.1) rfl rfl hl.1 rfl (Nat.le_of_ble_eq_true rfl) ⟨Nat.le_of_ble_eq_true rfl, Nat.le_of_ble_eq_true rfl⟩ dL_ends_320 ?_
    refine W.eq (g2 := F0 m 323 ls [.int τ.rc]) rfl ?_
    refine lv_istore (lv' := [(10, .int τ.rc), (8, .int 1), (7, .int (nI R)), (6, .int 1), (5, .int (nI U)), (2, .int (nI j)), (3, .int (nI Q)), (0, .ref h0), (1, .int (nI X))]) hx hb dL_ends_323 hl (by decide) rfl (fun ls hl => ?_)
    refine lv_iload hx hb dL_ends_325 (lv_at hl 3 rfl) ?_
    refine lv_if_eq (tgt := 437) hx hb dL_ends_327 (by decide) (fun c_327 => ?_) (fun c_327 => ?_)
    · exact absurd c_327 (by decide)
    · refine lv_aload_n hx hb dL_ends_330 rfl (lv_at hl 7 rfl) ?_
      refine lv_iload_n hx hb dL_ends_331 rfl (lv_at hl 5 rfl) ?_
      refine lv_iload hx hb dL_ends_332 (lv_at hl 2 rfl) ?_
      have hz9 := hS.1
      refine rn_wSH (As := [.ref h0, .int (nI j), .int (nI R)]) (rest := []) 3 hx hb hml hown hts hG hS (l_writes_o l hV hC hj0 hR hR0 _) (fun q h => h.elim (hdo q) (fun h => Or.inr (Nat.le_trans hz9 h))) gL_ends_L_writes rfl ⟨rfl, rfl⟩ (by decide +kernel) ⟨Nat.le_of_ble_eq_true rfl, Nat.le_of_ble_eq_true rfl⟩ hF rfl hl.1 rfl (Nat.le_of_ble_eq_true rfl) ⟨Nat.le_of_ble_eq_true rfl, Nat.le_of_ble_eq_true rfl⟩ dL_ends_334 (fun H locs hP1 _ _ hS => ?_)
      refine W.eq (g2 := F0 m 337 ls [.int ((rn_o_writeMap τ j R).1)]) rfl ?_
      rw [e3] at hP1
      have hP1 : rn_P D cR cP cF h0 _ _ (rn_ref (rn_draft τ []) (-3)) _ := hP1
      obtain ⟨f, ⟨hV, aR, aP, aF, ra, pa, fa, hd, dh, hC⟩, hF, hdm⟩ := hP1
      have hdo : ∀ x, f x ≠ none → rn_A f0 s.heap.size x := fun x hx => (hdm x hx).elim (hdo x) (fun h => Or.inr (Nat.le_trans hz9 h))
      refine rn_top (y := .int (-3)) (congrArg Value.int (by rw [e3])) ?_
      refine lv_bipush (v := (-3)) hx hb dL_ends_337 (by decide +kernel) ?_
      refine lv_icmp_ne (tgt := 437) hx hb dL_ends_339 (by decide) (fun c_339 => ?_) (fun c_339 => ?_)
      · exact absurd rfl c_339
      · refine lv_aload_n hx hb dL_ends_342 rfl (lv_at hl 7 rfl) ?_
        refine rn_cV (As := []) (rest := []) 0 hx hb hml hown hts hG (c_refusals l hV hC ) gL_ends_X4_refusals rfl ⟨rfl, rfl⟩ (by decide +kernel) ⟨Nat.le_of_ble_eq_true rfl, Nat.le_of_ble_eq_true rfl⟩ hF (hF _ _ hC.1.1) rfl rfl hl.1 rfl (Nat.le_of_ble_eq_true rfl) ⟨Nat.le_of_ble_eq_true rfl, Nat.le_of_ble_eq_true rfl⟩ dL_ends_343 ?_
        refine W.eq (g2 := F0 m 346 ls [.int ((rn_ref (rn_draft τ []) (-3)).rc)]) rfl ?_
        refine lv_iload hx hb dL_ends_346 (lv_at hl 0 rfl) ?_
        refine lv_iconst (v := 1) hx hb dL_ends_348 (by decide) ?_
        refine lv_iadd hx hb dL_ends_349 ?_
        refine lv_icmp_ne (tgt := 437) hx hb dL_ends_350 (by decide) (fun c_350 => ?_) (fun c_350 => ?_)
        · exact absurd rfl c_350
        · refine lv_iload hx hb dL_ends_353 (lv_at hl 1 rfl) ?_
          refine lv_if_eq (tgt := 433) hx hb dL_ends_355 (by decide) (fun c_355 => ?_) (fun c_355 => ?_)
          · exact absurd c_355 (by decide)
          · refine lv_aload_n hx hb dL_ends_358 rfl (lv_at hl 7 rfl) ?_
            refine lv_iconst (v := 3) hx hb dL_ends_359 (by decide) ?_
            refine lv_aload_n hx hb dL_ends_360 rfl (lv_at hl 7 rfl) ?_
            refine lv_iload_n hx hb dL_ends_361 rfl (lv_at hl 6 rfl) ?_
            refine lv_iload hx hb dL_ends_362 (lv_at hl 4 rfl) ?_
            refine rn_cSH (As := [.ref h0, .int (nI Q), .int (nI U)]) (rest := [.int 3, .ref h0]) 3 hx hb hml hown hts hG (l_seen_o l hV hC (Nat.lt_trans hQ hR) hU) gL_ends_L_seen rfl ⟨rfl, rfl⟩ (by decide +kernel) ⟨Nat.le_of_ble_eq_true rfl, Nat.le_of_ble_eq_true rfl⟩ hF rfl hl.1 rfl (Nat.le_of_ble_eq_true rfl) ⟨Nat.le_of_ble_eq_true rfl, Nat.le_of_ble_eq_true rfl⟩ dL_ends_364 ?_
            refine W.eq (g2 := F0 m 367 ls [.int (nI (rn_see (rn_ref (rn_draft τ []) (-3)) Q U)), .int 3, .ref h0]) rfl ?_
            refine rn_top (y := .int (nI x)) (congrArg Value.int (congrArg nI hsee)) ?_
            refine lv_iconst (v := 1) hx hb dL_ends_367 (by decide) ?_
            have hz9 := hS.1
            refine rn_wSH (As := [.ref h0, .int (nI 3), .int (nI x), .int (nI 1)]) (rest := []) 4 hx hb hml hown hts hG hS (l_lines_o l hV hC (a := 3) (b := x) (c9 := 1) (by decide) hx9 ⟨by decide, by decide⟩ (by decide) (by omega) (by show 0 < 3; decide) _) (fun q h => h.elim (hdo q) (fun h => Or.inr (Nat.le_trans hz9 h))) gL_ends_L_lines rfl ⟨rfl, rfl⟩ (by decide +kernel) ⟨Nat.le_of_ble_eq_true rfl, Nat.le_of_ble_eq_true rfl⟩ hF rfl hl.1 rfl (Nat.le_of_ble_eq_true rfl) ⟨Nat.le_of_ble_eq_true rfl, Nat.le_of_ble_eq_true rfl⟩ dL_ends_368 (fun H locs hP1 _ _ hS => ?_)
            refine W.eq (g2 := F0 m 371 ls [.int (nI ((rn_ref (rn_draft τ []) (-3)).sd.length + 1))]) rfl ?_
            have hP1 : rn_P D cR cP cF h0 _ _ (rn_draft (rn_ref (rn_draft τ []) (-3)) ((3, x, 1) :: (rn_ref (rn_draft τ []) (-3)).sd)) _ := hP1
            obtain ⟨f, ⟨hV, aR, aP, aF, ra, pa, fa, hd, dh, hC⟩, hF, hdm⟩ := hP1
            have hdo : ∀ x, f x ≠ none → rn_A f0 s.heap.size x := fun x hx => (hdm x hx).elim (hdo x) (fun h => Or.inr (Nat.le_trans hz9 h))
            refine rn_top (y := .int 1) (congrArg Value.int rfl) ?_
            have hZ : rn_Z (rn_draft (rn_ref (rn_draft τ []) (-3)) ((3, x, 1) :: (rn_ref (rn_draft τ []) (-3)).sd)) j R Q U := ⟨hV, hZ.2⟩
            have hm : (rn_draft (rn_ref (rn_draft τ []) (-3)) ((3, x, 1) :: (rn_ref (rn_draft τ []) (-3)).sd)).sm R = [] := hm
            have hsd : (rn_draft (rn_ref (rn_draft τ []) (-3)) ((3, x, 1) :: (rn_ref (rn_draft τ []) (-3)).sd)).sd = [(3, x, 1)] := rfl
            have hlw : rn_lead (rn_draft (rn_ref (rn_draft τ []) (-3)) ((3, x, 1) :: (rn_ref (rn_draft τ []) (-3)).sd)) Q x = some U := hlx
            refine lv_iconst (v := 1) hx hb dL_ends_371 (by decide) ?_
            refine lv_icmp_ne (tgt := 437) hx hb dL_ends_372 (by decide) (fun c_372 => ?_) (fun c_372 => ?_)
            · exact absurd rfl c_372
            · refine W.widen (k := 7) (n := 42) (Nat.le_of_ble_eq_true rfl) (Nat.le_of_ble_eq_true rfl) ?_
              exact t375 (rn_draft (rn_ref (rn_draft τ []) (-3)) ((3, x, 1) :: (rn_ref (rn_draft τ []) (-3)).sd)) f aR aP aF ra pa fa hd dh _ _ ls R Q U x hV hC hF hdo hS hZ hm hsd hlw (lv_sub hl [1, 2, 3, 4, 5, 7, 8, 6] rfl)
  have t319_0 : ∀ (τ : rn_St) (f : rn_T) (aR aP aF : Nat) (ra pa fa : Nat → Nat) (hd : Nat → Option Nat) (dh : Option Nat) (H : Heap) (locs : List Loc) (ls : Array Slot) (R Q U x : Nat), rn_V τ → rn_CI cR cP cF h0 aR aP aF ra pa fa hd dh f τ → rn_S D f H → (∀ x, f x ≠ none → rn_A f0 s.heap.size x) → va_S (rn_A f0 s.heap.size) s.heap H locs → (rn_Z τ j R Q U) → (τ.sm R = []) → (τ.sd = []) → lv_has ls 12 [(8, .int 0), (7, .int (nI R)), (6, .int 1), (5, .int (nI U)), (2, .int (nI j)), (3, .int (nI Q)), (0, .ref h0), (1, .int (nI X))] → W p l e ({ frames := 9, cells := 16, slots := 96, locals := 170 } : Room) s m ([.ref h0, .int (nI X)] : List Value).toArray below meth c H locs 5 30 (MQ below (fun _ st o t => (o = .returned (some (.int 1)) ∧ (rn_PQ D cR cP cF h0 f0 s.heap.size) t.heap) ∧ va_F (rn_A f0 s.heap.size) st t) ([.ref h0, .int (nI X)] : List Value).toArray s 16 96 (rn_A f0 s.heap.size)) (F0 m 319 ls []) := by
    intro τ f aR aP aF ra pa fa hd dh H locs ls R Q U x hV hC hF hdo hS hZ hm hsd hl
    have hj0 := hZ.2.2.1
    have hR := hZ.2.2.2.1
    have hR0 := hZ.2.2.2.2.1
    have hQ := hZ.2.2.2.2.2.1
    have hU := hZ.2.2.2.2.2.2.2.2.2.2.2
    have hqZ := hZ.2.1
    have e3 := rn_wm3 (j := j) hm hsd
    refine lv_aload_n hx hb dL_ends_319 rfl (lv_at hl 6 rfl) ?_
    refine rn_cV (As := []) (rest := []) 0 hx hb hml hown hts hG (c_refusals l hV hC ) gL_ends_X4_refusals rfl ⟨rfl, rfl⟩ (by decide +kernel) ⟨Nat.le_of_ble_eq_true rfl, Nat.le_of_ble_eq_true rfl⟩ hF (hF _ _ hC.1.1) rfl rfl hl.1 rfl (Nat.le_of_ble_eq_true rfl) ⟨Nat.le_of_ble_eq_true rfl, Nat.le_of_ble_eq_true rfl⟩ dL_ends_320 ?_
    refine W.eq (g2 := F0 m 323 ls [.int τ.rc]) rfl ?_
    refine lv_istore (lv' := [(10, .int τ.rc), (8, .int 0), (7, .int (nI R)), (6, .int 1), (5, .int (nI U)), (2, .int (nI j)), (3, .int (nI Q)), (0, .ref h0), (1, .int (nI X))]) hx hb dL_ends_323 hl (by decide) rfl (fun ls hl => ?_)
    refine lv_iload hx hb dL_ends_325 (lv_at hl 3 rfl) ?_
    refine lv_if_eq (tgt := 437) hx hb dL_ends_327 (by decide) (fun c_327 => ?_) (fun c_327 => ?_)
    · exact absurd c_327 (by decide)
    · refine lv_aload_n hx hb dL_ends_330 rfl (lv_at hl 7 rfl) ?_
      refine lv_iload_n hx hb dL_ends_331 rfl (lv_at hl 5 rfl) ?_
      refine lv_iload hx hb dL_ends_332 (lv_at hl 2 rfl) ?_
      have hz9 := hS.1
      refine rn_wSH (As := [.ref h0, .int (nI j), .int (nI R)]) (rest := []) 3 hx hb hml hown hts hG hS (l_writes_o l hV hC hj0 hR hR0 _) (fun q h => h.elim (hdo q) (fun h => Or.inr (Nat.le_trans hz9 h))) gL_ends_L_writes rfl ⟨rfl, rfl⟩ (by decide +kernel) ⟨Nat.le_of_ble_eq_true rfl, Nat.le_of_ble_eq_true rfl⟩ hF rfl hl.1 rfl (Nat.le_of_ble_eq_true rfl) ⟨Nat.le_of_ble_eq_true rfl, Nat.le_of_ble_eq_true rfl⟩ dL_ends_334 (fun H locs hP1 _ _ hS => ?_)
      refine W.eq (g2 := F0 m 337 ls [.int ((rn_o_writeMap τ j R).1)]) rfl ?_
      rw [e3] at hP1
      have hP1 : rn_P D cR cP cF h0 _ _ (rn_ref (rn_draft τ []) (-3)) _ := hP1
      obtain ⟨f, ⟨hV, aR, aP, aF, ra, pa, fa, hd, dh, hC⟩, hF, hdm⟩ := hP1
      have hdo : ∀ x, f x ≠ none → rn_A f0 s.heap.size x := fun x hx => (hdm x hx).elim (hdo x) (fun h => Or.inr (Nat.le_trans hz9 h))
      refine rn_top (y := .int (-3)) (congrArg Value.int (by rw [e3])) ?_
      refine lv_bipush (v := (-3)) hx hb dL_ends_337 (by decide +kernel) ?_
      refine lv_icmp_ne (tgt := 437) hx hb dL_ends_339 (by decide) (fun c_339 => ?_) (fun c_339 => ?_)
      · exact absurd rfl c_339
      · refine lv_aload_n hx hb dL_ends_342 rfl (lv_at hl 7 rfl) ?_
        refine rn_cV (As := []) (rest := []) 0 hx hb hml hown hts hG (c_refusals l hV hC ) gL_ends_X4_refusals rfl ⟨rfl, rfl⟩ (by decide +kernel) ⟨Nat.le_of_ble_eq_true rfl, Nat.le_of_ble_eq_true rfl⟩ hF (hF _ _ hC.1.1) rfl rfl hl.1 rfl (Nat.le_of_ble_eq_true rfl) ⟨Nat.le_of_ble_eq_true rfl, Nat.le_of_ble_eq_true rfl⟩ dL_ends_343 ?_
        refine W.eq (g2 := F0 m 346 ls [.int ((rn_ref (rn_draft τ []) (-3)).rc)]) rfl ?_
        refine lv_iload hx hb dL_ends_346 (lv_at hl 0 rfl) ?_
        refine lv_iconst (v := 1) hx hb dL_ends_348 (by decide) ?_
        refine lv_iadd hx hb dL_ends_349 ?_
        refine lv_icmp_ne (tgt := 437) hx hb dL_ends_350 (by decide) (fun c_350 => ?_) (fun c_350 => ?_)
        · exact absurd rfl c_350
        · refine lv_iload hx hb dL_ends_353 (lv_at hl 1 rfl) ?_
          refine lv_if_eq (tgt := 433) hx hb dL_ends_355 (by decide) (fun c_355 => ?_) (fun c_355 => ?_)
          · refine lv_iconst (v := 1) hx hb dL_ends_433 (by decide) ?_
            refine lv_goto (tgt := 438) hx hb dL_ends_434 (by decide) ?_
            refine lv_istore (lv' := [(6, .int 1), (10, .int τ.rc), (8, .int 0), (7, .int (nI R)), (5, .int (nI U)), (2, .int (nI j)), (3, .int (nI Q)), (0, .ref h0), (1, .int (nI X))]) hx hb dL_ends_438 hl (by decide) rfl (fun ls hl => ?_)
            refine lv_iload hx hb dL_ends_440 (lv_at hl 0 rfl) ?_
            refine lv_if_eq (tgt := 557) hx hb dL_ends_442 (by decide) (fun c_442 => ?_) (fun c_442 => ?_)
            · exact absurd c_442 (by decide)
            · refine lv_iload hx hb dL_ends_445 (lv_at hl 2 rfl) ?_
              refine lv_if_eq (tgt := 557) hx hb dL_ends_447 (by decide) (fun c_447 => ?_) (fun c_447 => ?_)
              · refine lv_iload hx hb dL_ends_557 (lv_at hl 0 rfl) ?_
                exact rn_Wiret hx hb hr rfl hlocks hS (by decide) (by decide) rfl (rn_PQ_mk (σ' := rn_ref (rn_draft τ []) (-3)) hqZ hV hC hF hdo) dL_ends_559
              · exact absurd c_447 (by decide)
          · exact absurd c_355 (by decide)
  have t139 : ∀ (τ : rn_St) (f : rn_T) (aR aP aF : Nat) (ra pa fa : Nat → Nat) (hd : Nat → Option Nat) (dh : Option Nat) (H : Heap) (locs : List Loc) (ls : Array Slot) (Q U : Nat), rn_V τ → rn_CI cR cP cF h0 aR aP aF ra pa fa hd dh f τ → rn_S D f H → (∀ x, f x ≠ none → rn_A f0 s.heap.size x) → va_S (rn_A f0 s.heap.size) s.heap H locs → (rn_Q τ) → (j < τ.pn) → (τ.pl j = Q) → (τ.pu j = U) → lv_has ls 12 [(6, .int 1), (5, .int (nI U)), (2, .int (nI j)), (3, .int (nI Q)), (0, .ref h0), (1, .int (nI X))] → W p l e ({ frames := 9, cells := 16, slots := 96, locals := 170 } : Room) s m ([.ref h0, .int (nI X)] : List Value).toArray below meth c H locs 2 12 (MQ below (fun _ st o t => (o = .returned (some (.int 1)) ∧ (rn_PQ D cR cP cF h0 f0 s.heap.size) t.heap) ∧ va_F (rn_A f0 s.heap.size) st t) ([.ref h0, .int (nI X)] : List Value).toArray s 16 96 (rn_A f0 s.heap.size)) (F0 m 139 ls []) := by
    intro τ f aR aP aF ra pa fa hd dh H locs ls Q U hV hC hF hdo hS hqT hjT hplT hpuT hl
    have hsn := hV.1.2
    refine lv_iload hx hb dL_ends_139 (lv_at hl 0 rfl) ?_
    refine lv_if_eq (tgt := 557) hx hb dL_ends_141 (by decide) (fun c_141 => ?_) (fun c_141 => ?_)
    · exact absurd c_141 (by decide)
    · refine lv_aload_n hx hb dL_ends_144 rfl (lv_at hl 4 rfl) ?_
      refine rn_cV (As := []) (rest := []) 0 hx hb hml hown hts hG (c_rooms l hV hC ) gL_ends_X4_rooms rfl ⟨rfl, rfl⟩ (by decide +kernel) ⟨Nat.le_of_ble_eq_true rfl, Nat.le_of_ble_eq_true rfl⟩ hF (hF _ _ hC.1.1) rfl rfl hl.1 rfl (Nat.le_of_ble_eq_true rfl) ⟨Nat.le_of_ble_eq_true rfl, Nat.le_of_ble_eq_true rfl⟩ dL_ends_145 ?_
      refine W.eq (g2 := F0 m 148 ls [.int (nI τ.sn)]) rfl ?_
      refine lv_bipush (v := 10) hx hb dL_ends_148 (by decide +kernel) ?_
      refine lv_icmp_ge (tgt := 557) hx hb dL_ends_150 (by decide) (fun c_150 => ?_) (fun c_150 => ?_)
      · refine lv_iload hx hb dL_ends_557 (lv_at hl 0 rfl) ?_
        exact rn_Wiret hx hb hr rfl hlocks hS (by decide) (by decide) rfl (rn_PQ_mk (σ' := τ) hqT hV hC hF hdo) dL_ends_559
      · have hn0 : τ.sn < 10 := Nat.not_le.mp (fun h => c_150 ((nI_leI (a := 10) (by decide) (by omega)).mpr h))
        obtain ⟨hZ, hm⟩ := rn_Z.new hV hqT hjT hn0
        rw [hplT, hpuT] at hZ
        have hQs : Q < τ.sn := hplT ▸ (hV.2.2.2.2.2.1.2.2 j hjT).1
        refine lv_aload_n hx hb dL_ends_153 rfl (lv_at hl 4 rfl) ?_
        refine lv_iload_n hx hb dL_ends_154 rfl (lv_at hl 2 rfl) ?_
        have hz9 := hS.1
        refine rn_wSH (As := [.ref h0, .int (nI j)]) (rest := []) 2 hx hb hml hown hts hG hS (l_makes_o l hV hC hjT hn0 _) (fun q h => h.elim (hdo q) (fun h => Or.inr (Nat.le_trans hz9 h))) gL_ends_L_makes rfl ⟨rfl, rfl⟩ (by decide +kernel) ⟨Nat.le_of_ble_eq_true rfl, Nat.le_of_ble_eq_true rfl⟩ hF rfl hl.1 rfl (Nat.le_of_ble_eq_true rfl) ⟨Nat.le_of_ble_eq_true rfl, Nat.le_of_ble_eq_true rfl⟩ dL_ends_155 (fun H locs hP1 _ _ hS => ?_)
        refine W.eq (g2 := F0 m 158 ls [.int (nI τ.sn)]) rfl ?_
        have hP1 : rn_P D cR cP cF h0 _ _ (rn_addRoom τ j) _ := hP1
        obtain ⟨f, ⟨hV, aR, aP, aF, ra, pa, fa, hd, dh, hC⟩, hF, hdm⟩ := hP1
        have hdo : ∀ x, f x ≠ none → rn_A f0 s.heap.size x := fun x hx => (hdm x hx).elim (hdo x) (fun h => Or.inr (Nat.le_trans hz9 h))
        have hj0 := hZ.2.2.1
        have hR := hZ.2.2.2.1
        have hR0 := hZ.2.2.2.2.1
        have hQ := hZ.2.2.2.2.2.1
        have hU := hZ.2.2.2.2.2.2.2.2.2.2.2
        refine lv_istore (lv' := [(7, .int (nI τ.sn)), (6, .int 1), (5, .int (nI U)), (2, .int (nI j)), (3, .int (nI Q)), (0, .ref h0), (1, .int (nI X))]) hx hb dL_ends_158 hl (by decide) rfl (fun ls hl => ?_)
        refine lv_iload hx hb dL_ends_160 (lv_at hl 0 rfl) ?_
        refine lv_aload_n hx hb dL_ends_162 rfl (lv_at hl 5 rfl) ?_
        refine rn_cV (As := []) (rest := [.int (nI τ.sn)]) 0 hx hb hml hown hts hG (c_rooms l hV hC ) gL_ends_X4_rooms rfl ⟨rfl, rfl⟩ (by decide +kernel) ⟨Nat.le_of_ble_eq_true rfl, Nat.le_of_ble_eq_true rfl⟩ hF (hF _ _ hC.1.1) rfl rfl hl.1 rfl (Nat.le_of_ble_eq_true rfl) ⟨Nat.le_of_ble_eq_true rfl, Nat.le_of_ble_eq_true rfl⟩ dL_ends_163 ?_
        refine W.eq (g2 := F0 m 166 ls [.int (nI (rn_addRoom τ j).sn), .int (nI τ.sn)]) rfl ?_
        refine lv_iconst (v := 1) hx hb dL_ends_166 (by decide) ?_
        refine lv_isub hx hb dL_ends_167 ?_
        refine rn_top (y := .int (nI τ.sn)) (congrArg Value.int (rn_pred τ.sn)) ?_
        refine lv_icmp_ne (tgt := 251) hx hb dL_ends_168 (by decide) (fun c_168 => ?_) (fun c_168 => ?_)
        · exact absurd rfl c_168
        · refine lv_aload_n hx hb dL_ends_171 rfl (lv_at hl 5 rfl) ?_
          refine lv_iload_n hx hb dL_ends_172 rfl (lv_at hl 3 rfl) ?_
          refine rn_cSH (As := [.ref h0, .int (nI j)]) (rest := []) 2 hx hb hml hown hts hG (l_room_o l hV hC hj0) gL_ends_L_room rfl ⟨rfl, rfl⟩ (by decide +kernel) ⟨Nat.le_of_ble_eq_true rfl, Nat.le_of_ble_eq_true rfl⟩ hF rfl hl.1 rfl (Nat.le_of_ble_eq_true rfl) ⟨Nat.le_of_ble_eq_true rfl, Nat.le_of_ble_eq_true rfl⟩ dL_ends_173 ?_
          refine W.eq (g2 := F0 m 176 ls [.int (nI ((rn_addRoom τ j).pl j))]) rfl ?_
          refine rn_top (y := .int (nI τ.sn)) (congrArg Value.int (by rw [hZ.2.2.2.2.2.2.2.2.1])) ?_
          refine lv_iload hx hb dL_ends_176 (lv_at hl 0 rfl) ?_
          refine lv_icmp_ne (tgt := 251) hx hb dL_ends_178 (by decide) (fun c_178 => ?_) (fun c_178 => ?_)
          · exact absurd rfl c_178
          · refine lv_aload_n hx hb dL_ends_181 rfl (lv_at hl 5 rfl) ?_
            refine lv_iload hx hb dL_ends_182 (lv_at hl 0 rfl) ?_
            refine rn_cSH (As := [.ref h0, .int (nI τ.sn)]) (rest := []) 2 hx hb hml hown hts hG (l_outer_o l hV hC hR) gL_ends_L_outer rfl ⟨rfl, rfl⟩ (by decide +kernel) ⟨Nat.le_of_ble_eq_true rfl, Nat.le_of_ble_eq_true rfl⟩ hF rfl hl.1 rfl (Nat.le_of_ble_eq_true rfl) ⟨Nat.le_of_ble_eq_true rfl, Nat.le_of_ble_eq_true rfl⟩ dL_ends_184 ?_
            refine W.eq (g2 := F0 m 187 ls [.int (rn_enc (rn_nx (rn_addRoom τ j) τ.sn))]) rfl ?_
            refine rn_top (y := .int (nI Q)) (congrArg Value.int hZ.outer) ?_
            refine lv_iload_n hx hb dL_ends_187 rfl (lv_at hl 4 rfl) ?_
            refine lv_icmp_ne (tgt := 251) hx hb dL_ends_188 (by decide) (fun c_188 => ?_) (fun c_188 => ?_)
            · exact absurd rfl c_188
            · refine lv_aload_n hx hb dL_ends_191 rfl (lv_at hl 5 rfl) ?_
              refine lv_iload_n hx hb dL_ends_192 rfl (lv_at hl 3 rfl) ?_
              refine rn_cSH (As := [.ref h0, .int (nI j)]) (rest := []) 2 hx hb hml hown hts hG (l_number_o l hV hC hj0) gL_ends_L_number rfl ⟨rfl, rfl⟩ (by decide +kernel) ⟨Nat.le_of_ble_eq_true rfl, Nat.le_of_ble_eq_true rfl⟩ hF rfl hl.1 rfl (Nat.le_of_ble_eq_true rfl) ⟨Nat.le_of_ble_eq_true rfl, Nat.le_of_ble_eq_true rfl⟩ dL_ends_193 ?_
              refine W.eq (g2 := F0 m 196 ls [.int (nI ((rn_addRoom τ j).pu j))]) rfl ?_
              refine rn_top (y := .int (nI U)) (congrArg Value.int (by rw [hZ.2.2.2.2.2.2.2.2.2.1])) ?_
              refine lv_iload hx hb dL_ends_196 (lv_at hl 2 rfl) ?_
              refine lv_icmp_ne (tgt := 251) hx hb dL_ends_198 (by decide) (fun c_198 => ?_) (fun c_198 => ?_)
              · exact absurd rfl c_198
              · refine lv_aload_n hx hb dL_ends_201 rfl (lv_at hl 5 rfl) ?_
                refine lv_iload_n hx hb dL_ends_202 rfl (lv_at hl 3 rfl) ?_
                refine lv_iload hx hb dL_ends_203 (lv_at hl 0 rfl) ?_
                refine rn_cSH (As := [.ref h0, .int (nI j), .int (nI τ.sn)]) (rest := []) 3 hx hb hml hown hts hG (l_rights_o l hV hC hj0 hR) gL_ends_L_rights rfl ⟨rfl, rfl⟩ (by decide +kernel) ⟨Nat.le_of_ble_eq_true rfl, Nat.le_of_ble_eq_true rfl⟩ hF rfl hl.1 rfl (Nat.le_of_ble_eq_true rfl) ⟨Nat.le_of_ble_eq_true rfl, Nat.le_of_ble_eq_true rfl⟩ dL_ends_205 ?_
                refine W.eq (g2 := F0 m 208 ls [.int (rn_held (rn_addRoom τ j) j τ.sn)]) rfl ?_
                refine rn_top (y := .int 15) (congrArg Value.int hZ.held) ?_
                refine lv_bipush (v := 15) hx hb dL_ends_208 (by decide +kernel) ?_
                refine lv_icmp_ne (tgt := 251) hx hb dL_ends_210 (by decide) (fun c_210 => ?_) (fun c_210 => ?_)
                · exact absurd rfl c_210
                · refine lv_aload_n hx hb dL_ends_213 rfl (lv_at hl 5 rfl) ?_
                  refine lv_iload_n hx hb dL_ends_214 rfl (lv_at hl 3 rfl) ?_
                  refine lv_iload_n hx hb dL_ends_215 rfl (lv_at hl 4 rfl) ?_
                  refine rn_cSH (As := [.ref h0, .int (nI j), .int (nI Q)]) (rest := []) 3 hx hb hml hown hts hG (l_rights_o l hV hC hj0 (Nat.lt_trans hQ hR)) gL_ends_L_rights rfl ⟨rfl, rfl⟩ (by decide +kernel) ⟨Nat.le_of_ble_eq_true rfl, Nat.le_of_ble_eq_true rfl⟩ hF rfl hl.1 rfl (Nat.le_of_ble_eq_true rfl) ⟨Nat.le_of_ble_eq_true rfl, Nat.le_of_ble_eq_true rfl⟩ dL_ends_216 ?_
                  refine W.eq (g2 := F0 m 219 ls [.int (rn_held (rn_addRoom τ j) j Q)]) rfl ?_
                  refine rn_top (y := .int 0) (congrArg Value.int hZ.none) ?_
                  refine lv_if_ne (tgt := 251) hx hb dL_ends_219 (by decide) (fun c_219 => ?_) (fun c_219 => ?_)
                  · exact absurd c_219 (by decide)
                  · refine lv_aload_n hx hb dL_ends_222 rfl (lv_at hl 5 rfl) ?_
                    refine lv_iload hx hb dL_ends_223 (lv_at hl 0 rfl) ?_
                    refine lv_iload hx hb dL_ends_225 (lv_at hl 2 rfl) ?_
                    refine rn_cSH (As := [.ref h0, .int (nI τ.sn), .int (nI U)]) (rest := []) 3 hx hb hml hown hts hG (l_seen_o l hV hC hR hU) gL_ends_L_seen rfl ⟨rfl, rfl⟩ (by decide +kernel) ⟨Nat.le_of_ble_eq_true rfl, Nat.le_of_ble_eq_true rfl⟩ hF rfl hl.1 rfl (Nat.le_of_ble_eq_true rfl) ⟨Nat.le_of_ble_eq_true rfl, Nat.le_of_ble_eq_true rfl⟩ dL_ends_227 ?_
                    refine W.eq (g2 := F0 m 230 ls [.int (nI (rn_see (rn_addRoom τ j) τ.sn U))]) rfl ?_
                    refine rn_top (y := .int 999) (congrArg Value.int (by rw [hZ.dark9 hm]; rfl)) ?_
                    refine lv_sipush (v := 999) hx hb dL_ends_230 (by decide +kernel) ?_
                    refine lv_icmp_ne (tgt := 251) hx hb dL_ends_233 (by decide) (fun c_233 => ?_) (fun c_233 => ?_)
                    · exact absurd rfl c_233
                    · refine lv_aload_n hx hb dL_ends_236 rfl (lv_at hl 5 rfl) ?_
                      refine lv_iload hx hb dL_ends_237 (lv_at hl 0 rfl) ?_
                      refine lv_iconst (v := 0) hx hb dL_ends_239 (by decide) ?_
                      refine rn_cSH (As := [.ref h0, .int (nI τ.sn), .int (nI 0)]) (rest := []) 3 hx hb hml hown hts hG (l_leads_o l hV hC (x := 0) hR (by decide)) gL_ends_L_leads rfl ⟨rfl, rfl⟩ (by decide +kernel) ⟨Nat.le_of_ble_eq_true rfl, Nat.le_of_ble_eq_true rfl⟩ hF rfl hl.1 rfl (Nat.le_of_ble_eq_true rfl) ⟨Nat.le_of_ble_eq_true rfl, Nat.le_of_ble_eq_true rfl⟩ dL_ends_240 ?_
                      refine W.eq (g2 := F0 m 243 ls [.int (rn_enc (rn_lead (rn_addRoom τ j) τ.sn 0))]) rfl ?_
                      refine rn_top (y := .int (-1)) (congrArg Value.int (by rw [hZ.dark hm]; rfl)) ?_
                      refine lv_iconst (v := (-1)) hx hb dL_ends_243 (by decide) ?_
                      refine lv_icmp_ne (tgt := 251) hx hb dL_ends_244 (by decide) (fun c_244 => ?_) (fun c_244 => ?_)
                      · exact absurd rfl c_244
                      · refine lv_iconst (v := 1) hx hb dL_ends_247 (by decide) ?_
                        refine lv_goto (tgt := 252) hx hb dL_ends_248 (by decide) ?_
                        refine lv_istore (lv' := [(6, .int 1), (7, .int (nI τ.sn)), (5, .int (nI U)), (2, .int (nI j)), (3, .int (nI Q)), (0, .ref h0), (1, .int (nI X))]) hx hb dL_ends_252 hl (by decide) rfl (fun ls hl => ?_)
                        refine lv_aload_n hx hb dL_ends_254 rfl (lv_at hl 5 rfl) ?_
                        refine lv_iload_n hx hb dL_ends_255 rfl (lv_at hl 4 rfl) ?_
                        refine lv_iload hx hb dL_ends_256 (lv_at hl 2 rfl) ?_
                        refine rn_cSH (As := [.ref h0, .int (nI Q), .int (nI U)]) (rest := []) 3 hx hb hml hown hts hG (l_seen_o l hV hC (Nat.lt_trans hQ hR) hU) gL_ends_L_seen rfl ⟨rfl, rfl⟩ (by decide +kernel) ⟨Nat.le_of_ble_eq_true rfl, Nat.le_of_ble_eq_true rfl⟩ hF rfl hl.1 rfl (Nat.le_of_ble_eq_true rfl) ⟨Nat.le_of_ble_eq_true rfl, Nat.le_of_ble_eq_true rfl⟩ dL_ends_258 ?_
                        refine W.eq (g2 := F0 m 261 ls [.int (nI (rn_see (rn_addRoom τ j) Q U))]) rfl ?_
                        refine lv_sipush (v := 999) hx hb dL_ends_261 (by decide +kernel) ?_
                        refine lv_icmp_ge (tgt := 271) hx hb dL_ends_264 (by decide) (fun c_264 => ?_) (fun c_264 => ?_)
                        · obtain ⟨x, hx9⟩ : ∃ x : Nat, x = x := ⟨0, rfl⟩
                          refine lv_iconst (v := 0) hx hb dL_ends_271 (by decide) ?_
                          refine lv_istore (lv' := [(8, .int 0), (6, .int 1), (7, .int (nI τ.sn)), (5, .int (nI U)), (2, .int (nI j)), (3, .int (nI Q)), (0, .ref h0), (1, .int (nI X))]) hx hb dL_ends_272 hl (by decide) rfl (fun ls hl => ?_)
                          refine lv_aload_n hx hb dL_ends_274 rfl (lv_at hl 6 rfl) ?_
                          refine lv_iload_n hx hb dL_ends_275 rfl (lv_at hl 4 rfl) ?_
                          refine lv_iload hx hb dL_ends_276 (lv_at hl 2 rfl) ?_
                          rcases rn_wm hZ hm with ⟨e4, q, hq1, hq2, hq3⟩ | ⟨k, hk, e4⟩
                          · have e4 := e4
                            have hz9 := hS.1
                            refine rn_wSH (As := [.ref h0, .int (nI j), .int (nI τ.sn)]) (rest := []) 3 hx hb hml hown hts hG hS (l_writes_o l hV hC hj0 hR hR0 _) (fun q h => h.elim (hdo q) (fun h => Or.inr (Nat.le_trans hz9 h))) gL_ends_L_writes rfl ⟨rfl, rfl⟩ (by decide +kernel) ⟨Nat.le_of_ble_eq_true rfl, Nat.le_of_ble_eq_true rfl⟩ hF rfl hl.1 rfl (Nat.le_of_ble_eq_true rfl) ⟨Nat.le_of_ble_eq_true rfl, Nat.le_of_ble_eq_true rfl⟩ dL_ends_278 (fun H locs hP1 _ _ hS => ?_)
                            refine W.eq (g2 := F0 m 281 ls [.int ((rn_o_writeMap (rn_addRoom τ j) j τ.sn).1)]) rfl ?_
                            rw [e4] at hP1
                            have hP1 : rn_P D cR cP cF h0 _ _ (rn_setMap (rn_addRoom τ j) τ.sn) _ := hP1
                            obtain ⟨f, ⟨hV, aR, aP, aF, ra, pa, fa, hd, dh, hC⟩, hF, hdm⟩ := hP1
                            have hdo : ∀ x, f x ≠ none → rn_A f0 s.heap.size x := fun x hx => (hdm x hx).elim (hdo x) (fun h => Or.inr (Nat.le_trans hz9 h))
                            refine rn_top (y := .int 1) (congrArg Value.int (by rw [e4])) ?_
                            obtain ⟨m1, m2, m3, m4⟩ := hZ.mapped hq1 hq2 hq3
                            have hqm : rn_Q (rn_setMap (rn_addRoom τ j) τ.sn) := hZ.2.1
                            have hq9 : q.1 ≤ 998 := by have h1 := (hZ.1.2.2.2.2.1.1 q (by rw [hq1]; exact List.mem_cons_self)).1; omega
                            refine lv_istore (lv' := [(9, .int 1), (8, .int 0), (6, .int 1), (7, .int (nI τ.sn)), (5, .int (nI U)), (2, .int (nI j)), (3, .int (nI Q)), (0, .ref h0), (1, .int (nI X))]) hx hb dL_ends_281 hl (by decide) rfl (fun ls hl => ?_)
                            refine lv_iload hx hb dL_ends_283 (lv_at hl 0 rfl) ?_
                            refine lv_if_le (tgt := 319) hx hb dL_ends_285 (by decide) (fun c_285 => ?_) (fun c_285 => ?_)
                            · exact absurd c_285 (by decide)
                            · refine lv_iload hx hb dL_ends_288 (lv_at hl 2 rfl) ?_
                              refine lv_if_eq (tgt := 317) hx hb dL_ends_290 (by decide) (fun c_290 => ?_) (fun c_290 => ?_)
                              · exact absurd c_290 (by decide)
                              · refine lv_iload hx hb dL_ends_293 (lv_at hl 0 rfl) ?_
                                refine lv_iconst (v := 1) hx hb dL_ends_295 (by decide) ?_
                                refine lv_icmp_ne (tgt := 317) hx hb dL_ends_296 (by decide) (fun c_296 => ?_) (fun c_296 => ?_)
                                · exact absurd rfl c_296
                                · refine lv_aload_n hx hb dL_ends_299 rfl (lv_at hl 7 rfl) ?_
                                  refine lv_iload hx hb dL_ends_300 (lv_at hl 3 rfl) ?_
                                  refine lv_iload hx hb dL_ends_302 (lv_at hl 4 rfl) ?_
                                  refine rn_cSH (As := [.ref h0, .int (nI τ.sn), .int (nI U)]) (rest := []) 3 hx hb hml hown hts hG (l_seen_o l hV hC hR hU) gL_ends_L_seen rfl ⟨rfl, rfl⟩ (by decide +kernel) ⟨Nat.le_of_ble_eq_true rfl, Nat.le_of_ble_eq_true rfl⟩ hF rfl hl.1 rfl (Nat.le_of_ble_eq_true rfl) ⟨Nat.le_of_ble_eq_true rfl, Nat.le_of_ble_eq_true rfl⟩ dL_ends_304 ?_
                                  refine W.eq (g2 := F0 m 307 ls [.int (nI (rn_see (rn_setMap (rn_addRoom τ j) τ.sn) τ.sn U))]) rfl ?_
                                  refine rn_top (y := .int (nI q.1)) (congrArg Value.int (congrArg nI m3)) ?_
                                  refine lv_sipush (v := 999) hx hb dL_ends_307 (by decide +kernel) ?_
                                  refine lv_icmp_ge (tgt := 317) hx hb dL_ends_310 (by decide) (fun c_310 => ?_) (fun c_310 => ?_)
                                  · exact absurd (rn_nIle (a := 999) (by decide) (by omega) c_310) (by omega)
                                  · refine lv_iconst (v := 1) hx hb dL_ends_313 (by decide) ?_
                                    refine lv_goto (tgt := 318) hx hb dL_ends_314 (by decide) ?_
                                    exact rn_Wiret hx hb hr rfl hlocks hS (by decide) (by decide) rfl (rn_PQ_mk (σ' := rn_setMap (rn_addRoom τ j) τ.sn) hqm hV hC hF hdo) dL_ends_318
                          · have e4 := e4
                            have hz9 := hS.1
                            refine rn_wSH (As := [.ref h0, .int (nI j), .int (nI τ.sn)]) (rest := []) 3 hx hb hml hown hts hG hS (l_writes_o l hV hC hj0 hR hR0 _) (fun q h => h.elim (hdo q) (fun h => Or.inr (Nat.le_trans hz9 h))) gL_ends_L_writes rfl ⟨rfl, rfl⟩ (by decide +kernel) ⟨Nat.le_of_ble_eq_true rfl, Nat.le_of_ble_eq_true rfl⟩ hF rfl hl.1 rfl (Nat.le_of_ble_eq_true rfl) ⟨Nat.le_of_ble_eq_true rfl, Nat.le_of_ble_eq_true rfl⟩ dL_ends_278 (fun H locs hP1 _ _ hS => ?_)
                            refine W.eq (g2 := F0 m 281 ls [.int ((rn_o_writeMap (rn_addRoom τ j) j τ.sn).1)]) rfl ?_
                            rw [e4] at hP1
                            have hP1 : rn_P D cR cP cF h0 _ _ (rn_ref (rn_draft (rn_addRoom τ j) []) k) _ := hP1
                            obtain ⟨f, ⟨hV, aR, aP, aF, ra, pa, fa, hd, dh, hC⟩, hF, hdm⟩ := hP1
                            have hdo : ∀ x, f x ≠ none → rn_A f0 s.heap.size x := fun x hx => (hdm x hx).elim (hdo x) (fun h => Or.inr (Nat.le_trans hz9 h))
                            refine rn_top (y := .int k) (congrArg Value.int (by rw [e4])) ?_
                            have hZ : rn_Z (rn_ref (rn_draft (rn_addRoom τ j) []) k) j τ.sn Q U := ⟨hV, hZ.2⟩
                            have hm : (rn_ref (rn_draft (rn_addRoom τ j) []) k).sm τ.sn = [] := hm
                            have hsd : (rn_ref (rn_draft (rn_addRoom τ j) []) k).sd = [] := rfl
                            refine lv_istore (lv' := [(9, .int k), (8, .int 0), (6, .int 1), (7, .int (nI τ.sn)), (5, .int (nI U)), (2, .int (nI j)), (3, .int (nI Q)), (0, .ref h0), (1, .int (nI X))]) hx hb dL_ends_281 hl (by decide) rfl (fun ls hl => ?_)
                            refine lv_iload hx hb dL_ends_283 (lv_at hl 0 rfl) ?_
                            refine lv_if_le (tgt := 319) hx hb dL_ends_285 (by decide) (fun c_285 => ?_) (fun c_285 => ?_)
                            · refine W.widen (k := 5) (n := 30) (Nat.le_of_ble_eq_true rfl) (Nat.le_of_ble_eq_true rfl) ?_
                              exact t319_0 (rn_ref (rn_draft (rn_addRoom τ j) []) k) f aR aP aF ra pa fa hd dh _ _ ls τ.sn Q U x hV hC hF hdo hS hZ hm hsd (lv_sub hl [1, 3, 2, 4, 5, 6, 7, 8] rfl)
                            · exact absurd hk (fun h => c_285 (Int32.le_of_lt h))
                        · obtain ⟨x, hx9, hsee, hlx⟩ : ∃ x, x ≤ 998 ∧ rn_see (rn_addRoom τ j) Q U = x ∧ rn_lead (rn_addRoom τ j) Q x = some U := by
                            rcases rn_see_spec (rn_addRoom τ j) Q U with ⟨g1, g2⟩ | ⟨g1, _⟩
                            · exact ⟨_, by omega, rfl, g2⟩
                            · exact absurd (by rw [g1]; decide) c_264
                          refine lv_iconst (v := 1) hx hb dL_ends_267 (by decide) ?_
                          refine lv_goto (tgt := 272) hx hb dL_ends_268 (by decide) ?_
                          refine lv_istore (lv' := [(8, .int 1), (6, .int 1), (7, .int (nI τ.sn)), (5, .int (nI U)), (2, .int (nI j)), (3, .int (nI Q)), (0, .ref h0), (1, .int (nI X))]) hx hb dL_ends_272 hl (by decide) rfl (fun ls hl => ?_)
                          refine lv_aload_n hx hb dL_ends_274 rfl (lv_at hl 6 rfl) ?_
                          refine lv_iload_n hx hb dL_ends_275 rfl (lv_at hl 4 rfl) ?_
                          refine lv_iload hx hb dL_ends_276 (lv_at hl 2 rfl) ?_
                          rcases rn_wm hZ hm with ⟨e4, q, hq1, hq2, hq3⟩ | ⟨k, hk, e4⟩
                          · have e4 := e4
                            have hz9 := hS.1
                            refine rn_wSH (As := [.ref h0, .int (nI j), .int (nI τ.sn)]) (rest := []) 3 hx hb hml hown hts hG hS (l_writes_o l hV hC hj0 hR hR0 _) (fun q h => h.elim (hdo q) (fun h => Or.inr (Nat.le_trans hz9 h))) gL_ends_L_writes rfl ⟨rfl, rfl⟩ (by decide +kernel) ⟨Nat.le_of_ble_eq_true rfl, Nat.le_of_ble_eq_true rfl⟩ hF rfl hl.1 rfl (Nat.le_of_ble_eq_true rfl) ⟨Nat.le_of_ble_eq_true rfl, Nat.le_of_ble_eq_true rfl⟩ dL_ends_278 (fun H locs hP1 _ _ hS => ?_)
                            refine W.eq (g2 := F0 m 281 ls [.int ((rn_o_writeMap (rn_addRoom τ j) j τ.sn).1)]) rfl ?_
                            rw [e4] at hP1
                            have hP1 : rn_P D cR cP cF h0 _ _ (rn_setMap (rn_addRoom τ j) τ.sn) _ := hP1
                            obtain ⟨f, ⟨hV, aR, aP, aF, ra, pa, fa, hd, dh, hC⟩, hF, hdm⟩ := hP1
                            have hdo : ∀ x, f x ≠ none → rn_A f0 s.heap.size x := fun x hx => (hdm x hx).elim (hdo x) (fun h => Or.inr (Nat.le_trans hz9 h))
                            refine rn_top (y := .int 1) (congrArg Value.int (by rw [e4])) ?_
                            obtain ⟨m1, m2, m3, m4⟩ := hZ.mapped hq1 hq2 hq3
                            have hqm : rn_Q (rn_setMap (rn_addRoom τ j) τ.sn) := hZ.2.1
                            have hq9 : q.1 ≤ 998 := by have h1 := (hZ.1.2.2.2.2.1.1 q (by rw [hq1]; exact List.mem_cons_self)).1; omega
                            refine lv_istore (lv' := [(9, .int 1), (8, .int 1), (6, .int 1), (7, .int (nI τ.sn)), (5, .int (nI U)), (2, .int (nI j)), (3, .int (nI Q)), (0, .ref h0), (1, .int (nI X))]) hx hb dL_ends_281 hl (by decide) rfl (fun ls hl => ?_)
                            refine lv_iload hx hb dL_ends_283 (lv_at hl 0 rfl) ?_
                            refine lv_if_le (tgt := 319) hx hb dL_ends_285 (by decide) (fun c_285 => ?_) (fun c_285 => ?_)
                            · exact absurd c_285 (by decide)
                            · refine lv_iload hx hb dL_ends_288 (lv_at hl 2 rfl) ?_
                              refine lv_if_eq (tgt := 317) hx hb dL_ends_290 (by decide) (fun c_290 => ?_) (fun c_290 => ?_)
                              · exact absurd c_290 (by decide)
                              · refine lv_iload hx hb dL_ends_293 (lv_at hl 0 rfl) ?_
                                refine lv_iconst (v := 1) hx hb dL_ends_295 (by decide) ?_
                                refine lv_icmp_ne (tgt := 317) hx hb dL_ends_296 (by decide) (fun c_296 => ?_) (fun c_296 => ?_)
                                · exact absurd rfl c_296
                                · refine lv_aload_n hx hb dL_ends_299 rfl (lv_at hl 7 rfl) ?_
                                  refine lv_iload hx hb dL_ends_300 (lv_at hl 3 rfl) ?_
                                  refine lv_iload hx hb dL_ends_302 (lv_at hl 4 rfl) ?_
                                  refine rn_cSH (As := [.ref h0, .int (nI τ.sn), .int (nI U)]) (rest := []) 3 hx hb hml hown hts hG (l_seen_o l hV hC hR hU) gL_ends_L_seen rfl ⟨rfl, rfl⟩ (by decide +kernel) ⟨Nat.le_of_ble_eq_true rfl, Nat.le_of_ble_eq_true rfl⟩ hF rfl hl.1 rfl (Nat.le_of_ble_eq_true rfl) ⟨Nat.le_of_ble_eq_true rfl, Nat.le_of_ble_eq_true rfl⟩ dL_ends_304 ?_
                                  refine W.eq (g2 := F0 m 307 ls [.int (nI (rn_see (rn_setMap (rn_addRoom τ j) τ.sn) τ.sn U))]) rfl ?_
                                  refine rn_top (y := .int (nI q.1)) (congrArg Value.int (congrArg nI m3)) ?_
                                  refine lv_sipush (v := 999) hx hb dL_ends_307 (by decide +kernel) ?_
                                  refine lv_icmp_ge (tgt := 317) hx hb dL_ends_310 (by decide) (fun c_310 => ?_) (fun c_310 => ?_)
                                  · exact absurd (rn_nIle (a := 999) (by decide) (by omega) c_310) (by omega)
                                  · refine lv_iconst (v := 1) hx hb dL_ends_313 (by decide) ?_
                                    refine lv_goto (tgt := 318) hx hb dL_ends_314 (by decide) ?_
                                    exact rn_Wiret hx hb hr rfl hlocks hS (by decide) (by decide) rfl (rn_PQ_mk (σ' := rn_setMap (rn_addRoom τ j) τ.sn) hqm hV hC hF hdo) dL_ends_318
                          · have e4 := e4
                            have hz9 := hS.1
                            refine rn_wSH (As := [.ref h0, .int (nI j), .int (nI τ.sn)]) (rest := []) 3 hx hb hml hown hts hG hS (l_writes_o l hV hC hj0 hR hR0 _) (fun q h => h.elim (hdo q) (fun h => Or.inr (Nat.le_trans hz9 h))) gL_ends_L_writes rfl ⟨rfl, rfl⟩ (by decide +kernel) ⟨Nat.le_of_ble_eq_true rfl, Nat.le_of_ble_eq_true rfl⟩ hF rfl hl.1 rfl (Nat.le_of_ble_eq_true rfl) ⟨Nat.le_of_ble_eq_true rfl, Nat.le_of_ble_eq_true rfl⟩ dL_ends_278 (fun H locs hP1 _ _ hS => ?_)
                            refine W.eq (g2 := F0 m 281 ls [.int ((rn_o_writeMap (rn_addRoom τ j) j τ.sn).1)]) rfl ?_
                            rw [e4] at hP1
                            have hP1 : rn_P D cR cP cF h0 _ _ (rn_ref (rn_draft (rn_addRoom τ j) []) k) _ := hP1
                            obtain ⟨f, ⟨hV, aR, aP, aF, ra, pa, fa, hd, dh, hC⟩, hF, hdm⟩ := hP1
                            have hdo : ∀ x, f x ≠ none → rn_A f0 s.heap.size x := fun x hx => (hdm x hx).elim (hdo x) (fun h => Or.inr (Nat.le_trans hz9 h))
                            refine rn_top (y := .int k) (congrArg Value.int (by rw [e4])) ?_
                            have hZ : rn_Z (rn_ref (rn_draft (rn_addRoom τ j) []) k) j τ.sn Q U := ⟨hV, hZ.2⟩
                            have hm : (rn_ref (rn_draft (rn_addRoom τ j) []) k).sm τ.sn = [] := hm
                            have hsd : (rn_ref (rn_draft (rn_addRoom τ j) []) k).sd = [] := rfl
                            refine lv_istore (lv' := [(9, .int k), (8, .int 1), (6, .int 1), (7, .int (nI τ.sn)), (5, .int (nI U)), (2, .int (nI j)), (3, .int (nI Q)), (0, .ref h0), (1, .int (nI X))]) hx hb dL_ends_281 hl (by decide) rfl (fun ls hl => ?_)
                            refine lv_iload hx hb dL_ends_283 (lv_at hl 0 rfl) ?_
                            refine lv_if_le (tgt := 319) hx hb dL_ends_285 (by decide) (fun c_285 => ?_) (fun c_285 => ?_)
                            · refine W.widen (k := 5) (n := 30) (Nat.le_of_ble_eq_true rfl) (Nat.le_of_ble_eq_true rfl) ?_
                              exact t319_1 (rn_ref (rn_draft (rn_addRoom τ j) []) k) f aR aP aF ra pa fa hd dh _ _ ls τ.sn Q U x hV hC hF hdo hS hZ hm hsd hx9 hsee hlx (lv_sub hl [1, 3, 2, 4, 5, 6, 7, 8] rfl)
                            · exact absurd hk (fun h => c_285 (Int32.le_of_lt h))
  refine lv_iload_n hx hb dL_ends_0 rfl (lv_at hl 1 rfl) ?_
  refine lv_aload_n hx hb dL_ends_1 rfl (lv_at hl 0 rfl) ?_
  refine rn_cV (As := []) (rest := [.int (nI X)]) 0 hx hb hml hown hts hG (c_processes l hV hC ) gL_ends_X4_processes rfl ⟨rfl, rfl⟩ (by decide +kernel) ⟨Nat.le_of_ble_eq_true rfl, Nat.le_of_ble_eq_true rfl⟩ hF (hF _ _ hC.1.1) rfl rfl hl.1 rfl (Nat.le_of_ble_eq_true rfl) ⟨Nat.le_of_ble_eq_true rfl, Nat.le_of_ble_eq_true rfl⟩ dL_ends_2 ?_
  refine W.eq (g2 := F0 m 5 ls [.int (nI σ.pn), .int (nI X)]) rfl ?_
  refine lv_irem hx hb dL_ends_5 (rn_nz (by omega) hp1) ?_
  refine rn_top (y := .int (nI j)) (congrArg Value.int ej) ?_
  refine lv_istore_n (lv' := [(2, .int (nI j)), (0, .ref h0), (1, .int (nI X))]) hx hb dL_ends_6 rfl hl (by decide) rfl (fun ls hl => ?_)
  refine lv_aload_n hx hb dL_ends_7 rfl (lv_at hl 1 rfl) ?_
  refine lv_iload_n hx hb dL_ends_8 rfl (lv_at hl 0 rfl) ?_
  refine rn_cSH (As := [.ref h0, .int (nI j)]) (rest := []) 2 hx hb hml hown hts hG (l_room_o l hV hC hj0) gL_ends_L_room rfl ⟨rfl, rfl⟩ (by decide +kernel) ⟨Nat.le_of_ble_eq_true rfl, Nat.le_of_ble_eq_true rfl⟩ hF rfl hl.1 rfl (Nat.le_of_ble_eq_true rfl) ⟨Nat.le_of_ble_eq_true rfl, Nat.le_of_ble_eq_true rfl⟩ dL_ends_9 ?_
  refine W.eq (g2 := F0 m 12 ls [.int (nI (σ.pl j))]) rfl ?_
  refine lv_istore_n (lv' := [(3, .int (nI (σ.pl j))), (2, .int (nI j)), (0, .ref h0), (1, .int (nI X))]) hx hb dL_ends_12 rfl hl (by decide) rfl (fun ls hl => ?_)
  refine lv_aload_n hx hb dL_ends_13 rfl (lv_at hl 2 rfl) ?_
  refine lv_iload_n hx hb dL_ends_14 rfl (lv_at hl 1 rfl) ?_
  refine lv_iload_n hx hb dL_ends_15 rfl (lv_at hl 0 rfl) ?_
  refine rn_cSH (As := [.ref h0, .int (nI j), .int (nI (σ.pl j))]) (rest := []) 3 hx hb hml hown hts hG (l_rights_o l hV hC hj0 (hV.2.2.2.2.2.1.2.2 j hj0).1) gL_ends_L_rights rfl ⟨rfl, rfl⟩ (by decide +kernel) ⟨Nat.le_of_ble_eq_true rfl, Nat.le_of_ble_eq_true rfl⟩ hF rfl hl.1 rfl (Nat.le_of_ble_eq_true rfl) ⟨Nat.le_of_ble_eq_true rfl, Nat.le_of_ble_eq_true rfl⟩ dL_ends_16 ?_
  refine W.eq (g2 := F0 m 19 ls [.int (rn_held σ j (σ.pl j))]) rfl ?_
  refine rn_top (y := .int (σ.pr j)) (congrArg Value.int (rn_held_own hV hj0)) ?_
  refine lv_istore (lv' := [(4, .int (σ.pr j)), (3, .int (nI (σ.pl j))), (2, .int (nI j)), (0, .ref h0), (1, .int (nI X))]) hx hb dL_ends_19 hl (by decide) rfl (fun ls hl => ?_)
  refine lv_aload_n hx hb dL_ends_21 rfl (lv_at hl 3 rfl) ?_
  refine lv_iload_n hx hb dL_ends_22 rfl (lv_at hl 2 rfl) ?_
  refine rn_cSH (As := [.ref h0, .int (nI j)]) (rest := []) 2 hx hb hml hown hts hG (l_number_o l hV hC hj0) gL_ends_L_number rfl ⟨rfl, rfl⟩ (by decide +kernel) ⟨Nat.le_of_ble_eq_true rfl, Nat.le_of_ble_eq_true rfl⟩ hF rfl hl.1 rfl (Nat.le_of_ble_eq_true rfl) ⟨Nat.le_of_ble_eq_true rfl, Nat.le_of_ble_eq_true rfl⟩ dL_ends_23 ?_
  refine W.eq (g2 := F0 m 26 ls [.int (nI (σ.pu j))]) rfl ?_
  refine lv_istore (lv' := [(5, .int (nI (σ.pu j))), (4, .int (σ.pr j)), (3, .int (nI (σ.pl j))), (2, .int (nI j)), (0, .ref h0), (1, .int (nI X))]) hx hb dL_ends_26 hl (by decide) rfl (fun ls hl => ?_)
  refine lv_iconst (v := 1) hx hb dL_ends_28 (by decide) ?_
  refine lv_istore (lv' := [(6, .int 1), (5, .int (nI (σ.pu j))), (4, .int (σ.pr j)), (3, .int (nI (σ.pl j))), (2, .int (nI j)), (0, .ref h0), (1, .int (nI X))]) hx hb dL_ends_29 hl (by decide) rfl (fun ls hl => ?_)
  refine lv_aload_n hx hb dL_ends_31 rfl (lv_at hl 5 rfl) ?_
  refine rn_cV (As := []) (rest := []) 0 hx hb hml hown hts hG (c_processes l hV hC ) gL_ends_X4_processes rfl ⟨rfl, rfl⟩ (by decide +kernel) ⟨Nat.le_of_ble_eq_true rfl, Nat.le_of_ble_eq_true rfl⟩ hF (hF _ _ hC.1.1) rfl rfl hl.1 rfl (Nat.le_of_ble_eq_true rfl) ⟨Nat.le_of_ble_eq_true rfl, Nat.le_of_ble_eq_true rfl⟩ dL_ends_32 ?_
  refine W.eq (g2 := F0 m 35 ls [.int (nI σ.pn)]) rfl ?_
  refine lv_bipush (v := 12) hx hb dL_ends_35 (by decide +kernel) ?_
  refine lv_icmp_ge (tgt := 139) hx hb dL_ends_37 (by decide) (fun c_37 => ?_) (fun c_37 => ?_)
  · refine W.widen (k := 2) (n := 12) (Nat.le_of_ble_eq_true rfl) (Nat.le_of_ble_eq_true rfl) ?_
    exact t139 σ f aR aP aF ra pa fa hd dh _ _ ls (σ.pl j) (σ.pu j) hV hC hF hdo hS hq hj0 rfl rfl (lv_sub hl [0, 1, 4, 3, 5, 6] rfl)
  · have hn0 : σ.pn < 12 := Nat.not_le.mp (fun h => c_37 ((nI_leI (a := 12) (by decide) (by omega)).mpr h))
    obtain ⟨⟨f1, f2, f3, f4⟩, f5, f6, f7, f8, f9, f10, f11⟩ := rn_ff hV hq hj0 hn0
    refine lv_aload_n hx hb dL_ends_40 rfl (lv_at hl 5 rfl) ?_
    refine lv_iload_n hx hb dL_ends_41 rfl (lv_at hl 4 rfl) ?_
    have hz9 := hS.1
    refine rn_wSH (As := [.ref h0, .int (nI j)]) (rest := []) 2 hx hb hml hown hts hG hS (l_forks_o l hV hC hj0 hn0 _) (fun q h => h.elim (hdo q) (fun h => Or.inr (Nat.le_trans hz9 h))) gL_ends_L_forks rfl ⟨rfl, rfl⟩ (by decide +kernel) ⟨Nat.le_of_ble_eq_true rfl, Nat.le_of_ble_eq_true rfl⟩ hF rfl hl.1 rfl (Nat.le_of_ble_eq_true rfl) ⟨Nat.le_of_ble_eq_true rfl, Nat.le_of_ble_eq_true rfl⟩ dL_ends_42 (fun H locs hP1 _ _ hS => ?_)
    refine W.eq (g2 := F0 m 45 ls [.int (nI σ.pn)]) rfl ?_
    have hP1 : rn_P D cR cP cF h0 _ _ (rn_fork σ j) _ := hP1
    obtain ⟨f, ⟨hV, aR, aP, aF, ra, pa, fa, hd, dh, hC⟩, hF, hdm⟩ := hP1
    have hdo : ∀ x, f x ≠ none → rn_A f0 s.heap.size x := fun x hx => (hdm x hx).elim (hdo x) (fun h => Or.inr (Nat.le_trans hz9 h))
    have hlt : σ.pn < (rn_fork σ j).pn := Nat.lt_succ_self σ.pn
    have hp0 : σ.pl j < (rn_fork σ j).sn := (f1 ▸ (hV.2.2.2.2.2.1.2.2 _ hlt).1)
    refine lv_istore (lv' := [(7, .int (nI σ.pn)), (6, .int 1), (5, .int (nI (σ.pu j))), (4, .int (σ.pr j)), (3, .int (nI (σ.pl j))), (2, .int (nI j)), (0, .ref h0), (1, .int (nI X))]) hx hb dL_ends_45 hl (by decide) rfl (fun ls hl => ?_)
    refine lv_iload hx hb dL_ends_47 (lv_at hl 0 rfl) ?_
    refine lv_aload_n hx hb dL_ends_49 rfl (lv_at hl 6 rfl) ?_
    refine rn_cV (As := []) (rest := [.int (nI σ.pn)]) 0 hx hb hml hown hts hG (c_processes l hV hC ) gL_ends_X4_processes rfl ⟨rfl, rfl⟩ (by decide +kernel) ⟨Nat.le_of_ble_eq_true rfl, Nat.le_of_ble_eq_true rfl⟩ hF (hF _ _ hC.1.1) rfl rfl hl.1 rfl (Nat.le_of_ble_eq_true rfl) ⟨Nat.le_of_ble_eq_true rfl, Nat.le_of_ble_eq_true rfl⟩ dL_ends_50 ?_
    refine W.eq (g2 := F0 m 53 ls [.int (nI (rn_fork σ j).pn), .int (nI σ.pn)]) rfl ?_
    refine lv_iconst (v := 1) hx hb dL_ends_53 (by decide) ?_
    refine lv_isub hx hb dL_ends_54 ?_
    refine rn_top (y := .int (nI σ.pn)) (congrArg Value.int (rn_pred σ.pn)) ?_
    refine lv_icmp_ne (tgt := 136) hx hb dL_ends_55 (by decide) (fun c_55 => ?_) (fun c_55 => ?_)
    · exact absurd rfl c_55
    · refine lv_aload_n hx hb dL_ends_58 rfl (lv_at hl 6 rfl) ?_
      refine lv_iload hx hb dL_ends_59 (lv_at hl 0 rfl) ?_
      refine rn_cSH (As := [.ref h0, .int (nI σ.pn)]) (rest := []) 2 hx hb hml hown hts hG (l_room_o l hV hC hlt) gL_ends_L_room rfl ⟨rfl, rfl⟩ (by decide +kernel) ⟨Nat.le_of_ble_eq_true rfl, Nat.le_of_ble_eq_true rfl⟩ hF rfl hl.1 rfl (Nat.le_of_ble_eq_true rfl) ⟨Nat.le_of_ble_eq_true rfl, Nat.le_of_ble_eq_true rfl⟩ dL_ends_61 ?_
      refine W.eq (g2 := F0 m 64 ls [.int (nI ((rn_fork σ j).pl σ.pn))]) rfl ?_
      refine rn_top (y := .int (nI (σ.pl j))) (congrArg Value.int (by rw [f1])) ?_
      refine lv_iload_n hx hb dL_ends_64 rfl (lv_at hl 4 rfl) ?_
      refine lv_icmp_ne (tgt := 136) hx hb dL_ends_65 (by decide) (fun c_65 => ?_) (fun c_65 => ?_)
      · exact absurd rfl c_65
      · refine lv_aload_n hx hb dL_ends_68 rfl (lv_at hl 6 rfl) ?_
        refine lv_iload hx hb dL_ends_69 (lv_at hl 0 rfl) ?_
        refine rn_cSH (As := [.ref h0, .int (nI σ.pn)]) (rest := []) 2 hx hb hml hown hts hG (l_number_o l hV hC hlt) gL_ends_L_number rfl ⟨rfl, rfl⟩ (by decide +kernel) ⟨Nat.le_of_ble_eq_true rfl, Nat.le_of_ble_eq_true rfl⟩ hF rfl hl.1 rfl (Nat.le_of_ble_eq_true rfl) ⟨Nat.le_of_ble_eq_true rfl, Nat.le_of_ble_eq_true rfl⟩ dL_ends_71 ?_
        refine W.eq (g2 := F0 m 74 ls [.int (nI ((rn_fork σ j).pu σ.pn))]) rfl ?_
        refine rn_top (y := .int (nI (σ.pu j))) (congrArg Value.int (by rw [f2])) ?_
        refine lv_iload hx hb dL_ends_74 (lv_at hl 2 rfl) ?_
        refine lv_icmp_ne (tgt := 136) hx hb dL_ends_76 (by decide) (fun c_76 => ?_) (fun c_76 => ?_)
        · exact absurd rfl c_76
        · refine lv_aload_n hx hb dL_ends_79 rfl (lv_at hl 6 rfl) ?_
          refine lv_iload hx hb dL_ends_80 (lv_at hl 0 rfl) ?_
          refine lv_iload_n hx hb dL_ends_82 rfl (lv_at hl 4 rfl) ?_
          refine rn_cSH (As := [.ref h0, .int (nI σ.pn), .int (nI (σ.pl j))]) (rest := []) 3 hx hb hml hown hts hG (l_rights_o l hV hC hlt hp0) gL_ends_L_rights rfl ⟨rfl, rfl⟩ (by decide +kernel) ⟨Nat.le_of_ble_eq_true rfl, Nat.le_of_ble_eq_true rfl⟩ hF rfl hl.1 rfl (Nat.le_of_ble_eq_true rfl) ⟨Nat.le_of_ble_eq_true rfl, Nat.le_of_ble_eq_true rfl⟩ dL_ends_83 ?_
          refine W.eq (g2 := F0 m 86 ls [.int (rn_held (rn_fork σ j) σ.pn (σ.pl j))]) rfl ?_
          refine rn_top (y := .int (σ.pr j)) (congrArg Value.int f3) ?_
          refine lv_iload hx hb dL_ends_86 (lv_at hl 3 rfl) ?_
          refine lv_icmp_ne (tgt := 136) hx hb dL_ends_88 (by decide) (fun c_88 => ?_) (fun c_88 => ?_)
          · exact absurd rfl c_88
          · refine lv_aload_n hx hb dL_ends_91 rfl (lv_at hl 6 rfl) ?_
            refine lv_iload hx hb dL_ends_92 (lv_at hl 0 rfl) ?_
            refine lv_iconst (v := 5) hx hb dL_ends_94 (by decide) ?_
            have hz9 := hS.1
            refine rn_wSH (As := [.ref h0, .int (nI σ.pn), .int 5]) (rest := []) 3 hx hb hml hown hts hG hS (l_drops_o l hV hC (x := 5) hlt (by decide) _) (fun q h => h.elim (hdo q) (fun h => Or.inr (Nat.le_trans hz9 h))) gL_ends_L_drops rfl ⟨rfl, rfl⟩ (by decide +kernel) ⟨Nat.le_of_ble_eq_true rfl, Nat.le_of_ble_eq_true rfl⟩ hF rfl hl.1 rfl (Nat.le_of_ble_eq_true rfl) ⟨Nat.le_of_ble_eq_true rfl, Nat.le_of_ble_eq_true rfl⟩ dL_ends_95 (fun H locs hP1 _ _ hS => ?_)
            refine W.eq (g2 := F0 m 98 ls [.int ((rn_fork σ j).pr σ.pn &&& (5 ^^^ -1))]) rfl ?_
            have hP1 : rn_P D cR cP cF h0 _ _ (rn_F1 σ j) _ := hP1
            obtain ⟨f, ⟨hV, aR, aP, aF, ra, pa, fa, hd, dh, hC⟩, hF, hdm⟩ := hP1
            have hdo : ∀ x, f x ≠ none → rn_A f0 s.heap.size x := fun x hx => (hdm x hx).elim (hdo x) (fun h => Or.inr (Nat.le_trans hz9 h))
            refine rn_top (y := .int (σ.pr j &&& 10)) (congrArg Value.int f4) ?_
            have hlt : σ.pn < (rn_F1 σ j).pn := hlt
            have hp0 : σ.pl j < (rn_F1 σ j).sn := hp0
            refine lv_iload hx hb dL_ends_98 (lv_at hl 3 rfl) ?_
            refine lv_bipush (v := 10) hx hb dL_ends_100 (by decide +kernel) ?_
            refine lv_iand hx hb dL_ends_102 ?_
            refine lv_icmp_ne (tgt := 136) hx hb dL_ends_103 (by decide) (fun c_103 => ?_) (fun c_103 => ?_)
            · exact absurd rfl c_103
            · refine lv_aload_n hx hb dL_ends_106 rfl (lv_at hl 6 rfl) ?_
              refine lv_iload hx hb dL_ends_107 (lv_at hl 0 rfl) ?_
              refine lv_iload_n hx hb dL_ends_109 rfl (lv_at hl 4 rfl) ?_
              refine rn_cSH (As := [.ref h0, .int (nI σ.pn), .int (nI (σ.pl j))]) (rest := []) 3 hx hb hml hown hts hG (l_rights_o l hV hC hlt hp0) gL_ends_L_rights rfl ⟨rfl, rfl⟩ (by decide +kernel) ⟨Nat.le_of_ble_eq_true rfl, Nat.le_of_ble_eq_true rfl⟩ hF rfl hl.1 rfl (Nat.le_of_ble_eq_true rfl) ⟨Nat.le_of_ble_eq_true rfl, Nat.le_of_ble_eq_true rfl⟩ dL_ends_110 ?_
              refine W.eq (g2 := F0 m 113 ls [.int (rn_held (rn_F1 σ j) σ.pn (σ.pl j))]) rfl ?_
              refine rn_top (y := .int (σ.pr j &&& 10)) (congrArg Value.int f5) ?_
              refine lv_iload hx hb dL_ends_113 (lv_at hl 3 rfl) ?_
              refine lv_bipush (v := 10) hx hb dL_ends_115 (by decide +kernel) ?_
              refine lv_iand hx hb dL_ends_117 ?_
              refine lv_icmp_ne (tgt := 136) hx hb dL_ends_118 (by decide) (fun c_118 => ?_) (fun c_118 => ?_)
              · exact absurd rfl c_118
              · refine lv_aload_n hx hb dL_ends_121 rfl (lv_at hl 6 rfl) ?_
                refine lv_iload_n hx hb dL_ends_122 rfl (lv_at hl 5 rfl) ?_
                refine lv_iload_n hx hb dL_ends_123 rfl (lv_at hl 4 rfl) ?_
                refine rn_cSH (As := [.ref h0, .int (nI j), .int (nI (σ.pl j))]) (rest := []) 3 hx hb hml hown hts hG (l_rights_o l hV hC f9 hp0) gL_ends_L_rights rfl ⟨rfl, rfl⟩ (by decide +kernel) ⟨Nat.le_of_ble_eq_true rfl, Nat.le_of_ble_eq_true rfl⟩ hF rfl hl.1 rfl (Nat.le_of_ble_eq_true rfl) ⟨Nat.le_of_ble_eq_true rfl, Nat.le_of_ble_eq_true rfl⟩ dL_ends_124 ?_
                refine W.eq (g2 := F0 m 127 ls [.int (rn_held (rn_F1 σ j) j (σ.pl j))]) rfl ?_
                refine rn_top (y := .int (σ.pr j)) (congrArg Value.int f6) ?_
                refine lv_iload hx hb dL_ends_127 (lv_at hl 3 rfl) ?_
                refine lv_icmp_ne (tgt := 136) hx hb dL_ends_129 (by decide) (fun c_129 => ?_) (fun c_129 => ?_)
                · exact absurd rfl c_129
                · refine lv_iconst (v := 1) hx hb dL_ends_132 (by decide) ?_
                  refine lv_goto (tgt := 137) hx hb dL_ends_133 (by decide) ?_
                  refine lv_istore (lv' := [(6, .int 1), (7, .int (nI σ.pn)), (5, .int (nI (σ.pu j))), (4, .int (σ.pr j)), (3, .int (nI (σ.pl j))), (2, .int (nI j)), (0, .ref h0), (1, .int (nI X))]) hx hb dL_ends_137 hl (by decide) rfl (fun ls hl => ?_)
                  refine W.widen (k := 2) (n := 12) (Nat.le_of_ble_eq_true rfl) (Nat.le_of_ble_eq_true rfl) ?_
                  exact t139 (rn_F1 σ j) f aR aP aF ra pa fa hd dh _ _ ls (σ.pl j) (σ.pu j) hV hC hF hdo hS f8 f9 f10 f11 (lv_sub hl [0, 2, 5, 4, 6, 7] rfl)
