/-! CALLS THAT THROW -/
theorem rn_sub_i {a : Int32} {k : Nat} (h1 : -1000 ≤ a.toInt ∧ a.toInt ≤ 1000) (h : k < 2 ^ 30) : (a - nI k).toInt = a.toInt - k := by
  rw [Int32.toInt_sub, nI_toInt (by omega)]
  exact Int.bmod_eq_of_le (by omega) (by omega)
theorem rn_neg {k : Nat} (h : k < 2 ^ 30) : -1 - nI k < 0 := by
  have h1 : (-1 : Int32).toInt = -1 := by decide
  have h3 : (0 : Int32).toInt = 0 := by decide
  rw [rn_lt, rn_sub_i (by omega) h, h1, h3]
  omega
theorem rn_neg1 {k : Nat} (h : k < 2 ^ 30) : -nI k < 1 := by
  have h3 : (0 : Int32).toInt = 0 := by decide
  have h4 : (1 : Int32).toInt = 1 := by decide
  rw [← Int32.zero_sub, rn_lt, rn_sub_i (by omega) h, h3, h4]
  omega
theorem rn_noLow {n : Nat} {v : Int32} (hn : n ≤ 1000) (h : v < 0) : ¬ ∃ i, i < n ∧ v = nI i := fun ⟨i, hi, e⟩ => nI_pos (n := i) (by omega) (e ▸ h)
theorem rn_noHigh {n k : Nat} (hn : n ≤ 1000) (hk : k ≤ 1000) : ¬ ∃ i, i < n ∧ nI n + nI k = nI i := fun ⟨i, hi, e⟩ => by
  rw [nI_add] at e
  have := (nI_eq (by omega) (by omega)).mp e
  omega
theorem rn_above {a k : Nat} (h : k < 2 ^ 30) (ha : a + k < 2 ^ 31) (h1 : 0 < k) : nI a < nI (a + k) := (nI_ltI (by omega) (by omega)).mpr (by omega)

set_option maxHeartbeats 4000000 in
set_option maxRecDepth 100000 in
theorem a_refuses (l : Launch) (hfl : l.stackTraces = false) {D : va_G} {cR cP cF : ClassId} {h0 aR aP aF : Nat} {ra pa fa : Nat → Nat} {hd : Nat → Option Nat} {dh : Option Nat} {f : rn_T} {σ : rn_St} (hV : rn_V σ) (hC : rn_CI cR cP cF h0 aR aP aF ra pa fa hd dh f σ) {X : Nat} (hX : X < 10000) (sz : Nat) : rn_LT l yL_refuses wsL_refuses ({ frames := 9, cells := 50, slots := 300, locals := 170 } : Room) D (rn_tys cR cP cF) (rn_S D f) [.ref h0, .int (nI X)] (some (.int 1)) (rn_S D f) (fun q : Nat => sz ≤ q) 50 300 sz := by
  refine rn_LT.ofC (cc := cL_refuses) (maxL := 12) (ret := (some .boolean)) (by decide) rfl (Nat.le_of_ble_eq_true rfl) (fun p e s m below meth c ls hx hb hr hml hts hown hlocks hsz hF hG hE hS hl => ?_)
  have hl : lv_has ls 12 [(0, .ref h0), (1, .int (nI X))] := hl
  subst hsz
  have hp1 : 1 ≤ σ.pn := hV.2.2.2.2.2.1.1
  have hp2 : σ.pn ≤ 12 := hV.2.2.2.2.2.1.2.1
  have hs1 : 1 ≤ σ.sn := hV.1.1
  have hs2 : σ.sn ≤ 10 := hV.1.2
  have hf2 : σ.fn ≤ 20 := hV.2.2.2.2.2.2.1
  have h16 : nI 15 < nI (16 + X) := (nI_ltI (by omega) (by omega)).mpr (by omega)
  have t755 : ∀ (lo no go od il : Int32) (i j : Nat) (H : Heap) (locs : List Loc) (ls : Array Slot), (¬ ∃ i, i < σ.sn ∧ lo = nI i) → (¬ ∃ i, i < σ.pn ∧ no = nI i) → (¬ ∃ i, i < σ.fn ∧ go = nI i) → (od < 0 ∨ nI 998 < od) → i < σ.sn → j < σ.pn → rn_S D f H → va_S (fun q : Nat => s.heap.size ≤ q) s.heap H locs → lv_has ls 12 [(10, .int 1), (9, .int σ.rc), (8, .int (nI i)), (7, .int (nI j)), (6, .int od), (5, .int go), (4, .int no), (3, .int lo), (2, .int il), (0, .ref h0), (1, .int (nI X))] → W p l e ({ frames := 9, cells := 50, slots := 300, locals := 170 } : Room) s m ([.ref h0, .int (nI X)] : List Value).toArray below meth c H locs 49 294 (MQ below (fun _ st o t => (o = .returned (some (.int 1)) ∧ (rn_S D f) t.heap) ∧ va_F (fun q : Nat => s.heap.size ≤ q) st t) ([.ref h0, .int (nI X)] : List Value).toArray s 50 300 (fun q : Nat => s.heap.size ≤ q)) (F0 m 755 ls []) := by
    intro lo no go od il i j H locs ls hlo hno hgo hod hi0 hj0 hF hS hl
    refine lv_iload hx hb dL_refuses_755 (lv_at hl 0 rfl) ?_
    refine lv_if_eq (tgt := 773) hx hb dL_refuses_757 (by decide) (fun c_757 => ?_) (fun c_757 => ?_)
    · exact absurd c_757 (by decide)
    · refine lv_aload_n hx hb dL_refuses_760 rfl (lv_at hl 9 rfl) ?_
      refine rn_cV (As := []) (rest := []) 0 hx hb hml hown hts hG (c_refusals l hV hC ) gL_refuses_X4_refusals rfl ⟨rfl, rfl⟩ (by decide +kernel) ⟨Nat.le_of_ble_eq_true rfl, Nat.le_of_ble_eq_true rfl⟩ hF (hF _ _ hC.1.1) rfl rfl hl.1 rfl (Nat.le_of_ble_eq_true rfl) ⟨Nat.le_of_ble_eq_true rfl, Nat.le_of_ble_eq_true rfl⟩ dL_refuses_761 ?_
      refine W.eq (g2 := F0 m 764 ls [.int σ.rc]) rfl ?_
      refine lv_iload hx hb dL_refuses_764 (lv_at hl 1 rfl) ?_
      refine lv_icmp_ne (tgt := 773) hx hb dL_refuses_766 (by decide) (fun c_766 => ?_) (fun c_766 => ?_)
      · exact absurd rfl c_766
      · refine lv_iconst (v := 1) hx hb dL_refuses_769 (by decide) ?_
        refine lv_goto (tgt := 774) hx hb dL_refuses_770 (by decide) ?_
        exact rn_Wiret hx hb hr rfl hlocks hS (by decide) (by decide) rfl hF dL_refuses_774
  have t663 : ∀ (lo no go od il : Int32) (i j : Nat) (H : Heap) (locs : List Loc) (ls : Array Slot), (¬ ∃ i, i < σ.sn ∧ lo = nI i) → (¬ ∃ i, i < σ.pn ∧ no = nI i) → (¬ ∃ i, i < σ.fn ∧ go = nI i) → (od < 0 ∨ nI 998 < od) → i < σ.sn → j < σ.pn → rn_S D f H → va_S (fun q : Nat => s.heap.size ≤ q) s.heap H locs → lv_has ls 12 [(9, .int σ.rc), (8, .int (nI i)), (7, .int (nI j)), (6, .int od), (5, .int go), (4, .int no), (3, .int lo), (2, .int il), (0, .ref h0), (1, .int (nI X))] → W p l e ({ frames := 9, cells := 50, slots := 300, locals := 170 } : Room) s m ([.ref h0, .int (nI X)] : List Value).toArray below meth c H locs 45 270 (MQ below (fun _ st o t => (o = .returned (some (.int 1)) ∧ (rn_S D f) t.heap) ∧ va_F (fun q : Nat => s.heap.size ≤ q) st t) ([.ref h0, .int (nI X)] : List Value).toArray s 50 300 (fun q : Nat => s.heap.size ≤ q)) (F0 m 663 ls []) := by
    intro lo no go od il i j H locs ls hlo hno hgo hod hi0 hj0 hF hS hl
    refine lv_iconst (v := 1) hx hb dL_refuses_663 (by decide) ?_
    refine lv_goto (tgt := 668) hx hb dL_refuses_664 (by decide) ?_
    refine lv_istore (lv' := [(10, .int 1), (9, .int σ.rc), (8, .int (nI i)), (7, .int (nI j)), (6, .int od), (5, .int go), (4, .int no), (3, .int lo), (2, .int il), (0, .ref h0), (1, .int (nI X))]) hx hb dL_refuses_668 hl (by decide) rfl (fun ls hl => ?_)
    refine lv_iload hx hb dL_refuses_670 (lv_at hl 0 rfl) ?_
    refine lv_if_eq (tgt := 755) hx hb dL_refuses_672 (by decide) (fun c_672 => ?_) (fun c_672 => ?_)
    · exact absurd c_672 (by decide)
    · refine lv_aload_n hx hb dL_refuses_675 rfl (lv_at hl 9 rfl) ?_
      refine rn_cV (As := []) (rest := []) 0 hx hb hml hown hts hG (c_files l hV hC ) gL_refuses_X4_files rfl ⟨rfl, rfl⟩ (by decide +kernel) ⟨Nat.le_of_ble_eq_true rfl, Nat.le_of_ble_eq_true rfl⟩ hF (hF _ _ hC.1.1) rfl rfl hl.1 rfl (Nat.le_of_ble_eq_true rfl) ⟨Nat.le_of_ble_eq_true rfl, Nat.le_of_ble_eq_true rfl⟩ dL_refuses_676 ?_
      refine W.eq (g2 := F0 m 679 ls [.int (nI σ.fn)]) rfl ?_
      refine lv_if_le (tgt := 755) hx hb dL_refuses_679 (by decide) (fun c_679 => ?_) (fun c_679 => ?_)
      · refine W.widen (k := 49) (n := 294) (Nat.le_of_ble_eq_true rfl) (Nat.le_of_ble_eq_true rfl) ?_
        exact t755 _ _ _ _ _ _ _ _ _ ls hlo hno hgo hod hi0 hj0 hF hS (lv_sub hl [0, 1, 2, 3, 4, 5, 6, 7, 8, 9, 10] rfl)
      · have hf1 : 1 ≤ σ.fn := Nat.pos_of_ne_zero (fun h => c_679 (by rw [h]; decide))
        refine lv_iload_n hx hb dL_refuses_682 rfl (lv_at hl 10 rfl) ?_
        refine lv_iconst (v := 2) hx hb dL_refuses_683 (by decide) ?_
        refine lv_idiv hx hb dL_refuses_684 (by decide) ?_
        refine rn_top (y := .int (nI (X / 2))) (congrArg Value.int (pk_div (d := 2) (by omega) (by decide) (by decide))) ?_
        refine lv_aload_n hx hb dL_refuses_685 rfl (lv_at hl 9 rfl) ?_
        refine rn_cV (As := []) (rest := [.int (nI (X / 2))]) 0 hx hb hml hown hts hG (c_files l hV hC ) gL_refuses_X4_files rfl ⟨rfl, rfl⟩ (by decide +kernel) ⟨Nat.le_of_ble_eq_true rfl, Nat.le_of_ble_eq_true rfl⟩ hF (hF _ _ hC.1.1) rfl rfl hl.1 rfl (Nat.le_of_ble_eq_true rfl) ⟨Nat.le_of_ble_eq_true rfl, Nat.le_of_ble_eq_true rfl⟩ dL_refuses_686 ?_
        refine W.eq (g2 := F0 m 689 ls [.int (nI σ.fn), .int (nI (X / 2))]) rfl ?_
        refine lv_irem hx hb dL_refuses_689 (rn_nz (by omega) hf1) ?_
        obtain ⟨k, hk0, ek⟩ : ∃ j, j < σ.fn ∧ nI (X / 2) - nI (X / 2) / nI σ.fn * nI σ.fn = nI j := ⟨X / 2 % σ.fn, Nat.mod_lt _ hf1, pk_rem (by omega) hf1 (by omega)⟩
        refine rn_top (y := .int (nI k)) (congrArg Value.int ek) ?_
        refine lv_istore (lv' := [(11, .int (nI k)), (10, .int 1), (9, .int σ.rc), (8, .int (nI i)), (7, .int (nI j)), (6, .int od), (5, .int go), (4, .int no), (3, .int lo), (2, .int il), (0, .ref h0), (1, .int (nI X))]) hx hb dL_refuses_690 hl (by decide) rfl (fun ls hl => ?_)
        refine lv_aload_n hx hb dL_refuses_692 rfl (lv_at hl 10 rfl) ?_
        refine lv_iload hx hb dL_refuses_693 (lv_at hl 7 rfl) ?_
        refine lv_iload hx hb dL_refuses_695 (lv_at hl 0 rfl) ?_
        refine lv_iconst (v := 5) hx hb dL_refuses_697 (by decide) ?_
        refine rn_wLH (As := [.ref h0, .int no, .int (nI k), .int 5]) (rest := []) 4 hx hb hml hown hts hG (hE.new hS (fun q h => h)) hS (l_hands_p l hfl hV hC hno _) (fun q h => Nat.le_trans hS.1 h) gL_refuses_L_hands rfl ⟨rfl, rfl⟩ (by decide +kernel) ⟨Nat.le_of_ble_eq_true rfl, Nat.le_of_ble_eq_true rfl⟩ hF rfl hl.1 rfl (Nat.le_of_ble_eq_true rfl) ⟨Nat.le_of_ble_eq_true rfl, Nat.le_of_ble_eq_true rfl⟩ dL_refuses_698 (fun H locs hF _ _ hS => ?_)
        refine W.eq (g2 := F0 m 701 ls [.int (-2000000001)]) rfl ?_
        refine lv_ldc (v := (-2000000001)) hx hb hown (hts _ kw_L_refuses_15) dL_refuses_701 ?_
        refine lv_icmp_ne (tgt := 752) hx hb dL_refuses_703 (by decide) (fun c_703 => ?_) (fun c_703 => ?_)
        · exact absurd rfl c_703
        · refine lv_aload_n hx hb dL_refuses_706 rfl (lv_at hl 10 rfl) ?_
          refine lv_iload hx hb dL_refuses_707 (lv_at hl 4 rfl) ?_
          refine lv_iload hx hb dL_refuses_709 (lv_at hl 0 rfl) ?_
          refine lv_iload hx hb dL_refuses_711 (lv_at hl 5 rfl) ?_
          refine rn_wLH (As := [.ref h0, .int (nI j), .int (nI k), .int od]) (rest := []) 4 hx hb hml hown hts hG (hE.new hS (fun q h => h)) hS (l_hands_n l hfl hV hC hj0 hk0 hod _) (fun q h => Nat.le_trans hS.1 h) gL_refuses_L_hands rfl ⟨rfl, rfl⟩ (by decide +kernel) ⟨Nat.le_of_ble_eq_true rfl, Nat.le_of_ble_eq_true rfl⟩ hF rfl hl.1 rfl (Nat.le_of_ble_eq_true rfl) ⟨Nat.le_of_ble_eq_true rfl, Nat.le_of_ble_eq_true rfl⟩ dL_refuses_713 (fun H locs hF _ _ hS => ?_)
          refine W.eq (g2 := F0 m 716 ls [.int (-2000000002)]) rfl ?_
          refine lv_ldc (v := (-2000000002)) hx hb hown (hts _ kw_L_refuses_25) dL_refuses_716 ?_
          refine lv_icmp_ne (tgt := 752) hx hb dL_refuses_718 (by decide) (fun c_718 => ?_) (fun c_718 => ?_)
          · exact absurd rfl c_718
          · refine lv_aload_n hx hb dL_refuses_721 rfl (lv_at hl 10 rfl) ?_
            refine lv_iload hx hb dL_refuses_722 (lv_at hl 7 rfl) ?_
            refine lv_iload hx hb dL_refuses_724 (lv_at hl 0 rfl) ?_
            refine lv_iconst (v := 0) hx hb dL_refuses_726 (by decide) ?_
            refine rn_wLH (As := [.ref h0, .int no, .int (nI k), .int 0]) (rest := []) 4 hx hb hml hown hts hG (hE.new hS (fun q h => h)) hS (l_opens_p l hfl hV hC hno _) (fun q h => Nat.le_trans hS.1 h) gL_refuses_L_opens rfl ⟨rfl, rfl⟩ (by decide +kernel) ⟨Nat.le_of_ble_eq_true rfl, Nat.le_of_ble_eq_true rfl⟩ hF rfl hl.1 rfl (Nat.le_of_ble_eq_true rfl) ⟨Nat.le_of_ble_eq_true rfl, Nat.le_of_ble_eq_true rfl⟩ dL_refuses_727 (fun H locs hF _ _ hS => ?_)
            refine W.eq (g2 := F0 m 730 ls [.int (-2000000001)]) rfl ?_
            refine lv_ldc (v := (-2000000001)) hx hb hown (hts _ kw_L_refuses_15) dL_refuses_730 ?_
            refine lv_icmp_ne (tgt := 752) hx hb dL_refuses_732 (by decide) (fun c_732 => ?_) (fun c_732 => ?_)
            · exact absurd rfl c_732
            · refine lv_aload_n hx hb dL_refuses_735 rfl (lv_at hl 10 rfl) ?_
              refine lv_iload hx hb dL_refuses_736 (lv_at hl 7 rfl) ?_
              refine lv_iload hx hb dL_refuses_738 (lv_at hl 0 rfl) ?_
              refine rn_wLH (As := [.ref h0, .int no, .int (nI k)]) (rest := []) 3 hx hb hml hown hts hG (hE.new hS (fun q h => h)) hS (l_owner_p l hfl hV hC hno _) (fun q h => Nat.le_trans hS.1 h) gL_refuses_L_owner rfl ⟨rfl, rfl⟩ (by decide +kernel) ⟨Nat.le_of_ble_eq_true rfl, Nat.le_of_ble_eq_true rfl⟩ hF rfl hl.1 rfl (Nat.le_of_ble_eq_true rfl) ⟨Nat.le_of_ble_eq_true rfl, Nat.le_of_ble_eq_true rfl⟩ dL_refuses_740 (fun H locs hF _ _ hS => ?_)
              refine W.eq (g2 := F0 m 743 ls [.int (-2000000001)]) rfl ?_
              refine lv_ldc (v := (-2000000001)) hx hb hown (hts _ kw_L_refuses_15) dL_refuses_743 ?_
              refine lv_icmp_ne (tgt := 752) hx hb dL_refuses_745 (by decide) (fun c_745 => ?_) (fun c_745 => ?_)
              · exact absurd rfl c_745
              · refine lv_iconst (v := 1) hx hb dL_refuses_748 (by decide) ?_
                refine lv_goto (tgt := 753) hx hb dL_refuses_749 (by decide) ?_
                refine lv_istore (lv' := [(10, .int 1), (11, .int (nI k)), (9, .int σ.rc), (8, .int (nI i)), (7, .int (nI j)), (6, .int od), (5, .int go), (4, .int no), (3, .int lo), (2, .int il), (0, .ref h0), (1, .int (nI X))]) hx hb dL_refuses_753 hl (by decide) rfl (fun ls hl => ?_)
                refine W.widen (k := 49) (n := 294) (Nat.le_of_ble_eq_true rfl) (Nat.le_of_ble_eq_true rfl) ?_
                exact t755 _ _ _ _ _ _ _ _ _ ls hlo hno hgo hod hi0 hj0 hF hS (lv_sub hl [0, 2, 3, 4, 5, 6, 7, 8, 9, 10, 11] rfl)
  have t642 : ∀ (lo no go od il : Int32) (i j : Nat) (H : Heap) (locs : List Loc) (ls : Array Slot), (¬ ∃ i, i < σ.sn ∧ lo = nI i) → (¬ ∃ i, i < σ.pn ∧ no = nI i) → (¬ ∃ i, i < σ.fn ∧ go = nI i) → (od < 0 ∨ nI 998 < od) → i < σ.sn → j < σ.pn → rn_S D f H → va_S (fun q : Nat => s.heap.size ≤ q) s.heap H locs → lv_has ls 12 [(9, .int σ.rc), (8, .int (nI i)), (7, .int (nI j)), (6, .int od), (5, .int go), (4, .int no), (3, .int lo), (2, .int il), (0, .ref h0), (1, .int (nI X))] → W p l e ({ frames := 9, cells := 50, slots := 300, locals := 170 } : Room) s m ([.ref h0, .int (nI X)] : List Value).toArray below meth c H locs 44 264 (MQ below (fun _ st o t => (o = .returned (some (.int 1)) ∧ (rn_S D f) t.heap) ∧ va_F (fun q : Nat => s.heap.size ≤ q) st t) ([.ref h0, .int (nI X)] : List Value).toArray s 50 300 (fun q : Nat => s.heap.size ≤ q)) (F0 m 642 ls []) := by
    intro lo no go od il i j H locs ls hlo hno hgo hod hi0 hj0 hF hS hl
    refine lv_aload_n hx hb dL_refuses_642 rfl (lv_at hl 8 rfl) ?_
    refine rn_cV (As := []) (rest := []) 0 hx hb hml hown hts hG (c_files l hV hC ) gL_refuses_X4_files rfl ⟨rfl, rfl⟩ (by decide +kernel) ⟨Nat.le_of_ble_eq_true rfl, Nat.le_of_ble_eq_true rfl⟩ hF (hF _ _ hC.1.1) rfl rfl hl.1 rfl (Nat.le_of_ble_eq_true rfl) ⟨Nat.le_of_ble_eq_true rfl, Nat.le_of_ble_eq_true rfl⟩ dL_refuses_643 ?_
    refine W.eq (g2 := F0 m 646 ls [.int (nI σ.fn)]) rfl ?_
    refine lv_bipush (v := 20) hx hb dL_refuses_646 (by decide +kernel) ?_
    refine lv_icmp_lt (tgt := 663) hx hb dL_refuses_648 (by decide) (fun c_648 => ?_) (fun c_648 => ?_)
    · refine W.widen (k := 45) (n := 270) (Nat.le_of_ble_eq_true rfl) (Nat.le_of_ble_eq_true rfl) ?_
      exact t663 _ _ _ _ _ _ _ _ _ ls hlo hno hgo hod hi0 hj0 hF hS (lv_sub hl [0, 1, 2, 3, 4, 5, 6, 7, 8, 9] rfl)
    · have hfull : σ.fn = 20 := by rw [rn_lt, nI_toInt (by omega)] at c_648; have h9 : (20 : Int32).toInt = 20 := (by decide); omega
      refine lv_aload_n hx hb dL_refuses_651 rfl (lv_at hl 8 rfl) ?_
      refine lv_iload hx hb dL_refuses_652 (lv_at hl 2 rfl) ?_
      refine lv_iconst (v := 5) hx hb dL_refuses_654 (by decide) ?_
      refine rn_wLH (As := [.ref h0, .int (nI j), .int (nI 5)]) (rest := []) 3 hx hb hml hown hts hG (hE.new hS (fun q h => h)) hS (l_files_s l hfl hV hC (k := 5) hj0 (by decide) hfull _) (fun q h => Nat.le_trans hS.1 h) gL_refuses_L_files rfl ⟨rfl, rfl⟩ (by decide +kernel) ⟨Nat.le_of_ble_eq_true rfl, Nat.le_of_ble_eq_true rfl⟩ hF rfl hl.1 rfl (Nat.le_of_ble_eq_true rfl) ⟨Nat.le_of_ble_eq_true rfl, Nat.le_of_ble_eq_true rfl⟩ dL_refuses_655 (fun H locs hF _ _ hS => ?_)
      refine W.eq (g2 := F0 m 658 ls [.int (-2000000003)]) rfl ?_
      refine lv_ldc (v := (-2000000003)) hx hb hown (hts _ kw_L_refuses_18) dL_refuses_658 ?_
      refine lv_icmp_ne (tgt := 667) hx hb dL_refuses_660 (by decide) (fun c_660 => ?_) (fun c_660 => ?_)
      · exact absurd rfl c_660
      · refine W.widen (k := 45) (n := 270) (Nat.le_of_ble_eq_true rfl) (Nat.le_of_ble_eq_true rfl) ?_
        exact t663 _ _ _ _ _ _ _ _ _ ls hlo hno hgo hod hi0 hj0 hF hS (lv_sub hl [0, 1, 2, 3, 4, 5, 6, 7, 8, 9] rfl)
  have t622 : ∀ (lo no go od il : Int32) (i j : Nat) (H : Heap) (locs : List Loc) (ls : Array Slot), (¬ ∃ i, i < σ.sn ∧ lo = nI i) → (¬ ∃ i, i < σ.pn ∧ no = nI i) → (¬ ∃ i, i < σ.fn ∧ go = nI i) → (od < 0 ∨ nI 998 < od) → i < σ.sn → j < σ.pn → rn_S D f H → va_S (fun q : Nat => s.heap.size ≤ q) s.heap H locs → lv_has ls 12 [(9, .int σ.rc), (8, .int (nI i)), (7, .int (nI j)), (6, .int od), (5, .int go), (4, .int no), (3, .int lo), (2, .int il), (0, .ref h0), (1, .int (nI X))] → W p l e ({ frames := 9, cells := 50, slots := 300, locals := 170 } : Room) s m ([.ref h0, .int (nI X)] : List Value).toArray below meth c H locs 43 258 (MQ below (fun _ st o t => (o = .returned (some (.int 1)) ∧ (rn_S D f) t.heap) ∧ va_F (fun q : Nat => s.heap.size ≤ q) st t) ([.ref h0, .int (nI X)] : List Value).toArray s 50 300 (fun q : Nat => s.heap.size ≤ q)) (F0 m 622 ls []) := by
    intro lo no go od il i j H locs ls hlo hno hgo hod hi0 hj0 hF hS hl
    refine lv_aload_n hx hb dL_refuses_622 rfl (lv_at hl 8 rfl) ?_
    refine rn_cV (As := []) (rest := []) 0 hx hb hml hown hts hG (c_processes l hV hC ) gL_refuses_X4_processes rfl ⟨rfl, rfl⟩ (by decide +kernel) ⟨Nat.le_of_ble_eq_true rfl, Nat.le_of_ble_eq_true rfl⟩ hF (hF _ _ hC.1.1) rfl rfl hl.1 rfl (Nat.le_of_ble_eq_true rfl) ⟨Nat.le_of_ble_eq_true rfl, Nat.le_of_ble_eq_true rfl⟩ dL_refuses_623 ?_
    refine W.eq (g2 := F0 m 626 ls [.int (nI σ.pn)]) rfl ?_
    refine lv_bipush (v := 12) hx hb dL_refuses_626 (by decide +kernel) ?_
    refine lv_icmp_lt (tgt := 642) hx hb dL_refuses_628 (by decide) (fun c_628 => ?_) (fun c_628 => ?_)
    · refine W.widen (k := 44) (n := 264) (Nat.le_of_ble_eq_true rfl) (Nat.le_of_ble_eq_true rfl) ?_
      exact t642 _ _ _ _ _ _ _ _ _ ls hlo hno hgo hod hi0 hj0 hF hS (lv_sub hl [0, 1, 2, 3, 4, 5, 6, 7, 8, 9] rfl)
    · have hfull : σ.pn = 12 := by rw [rn_lt, nI_toInt (by omega)] at c_628; have h9 : (12 : Int32).toInt = 12 := (by decide); omega
      refine lv_aload_n hx hb dL_refuses_631 rfl (lv_at hl 8 rfl) ?_
      refine lv_iload hx hb dL_refuses_632 (lv_at hl 2 rfl) ?_
      refine rn_wLH (As := [.ref h0, .int (nI j)]) (rest := []) 2 hx hb hml hown hts hG (hE.new hS (fun q h => h)) hS (l_forks_s l hfl hV hC hj0 hfull _) (fun q h => Nat.le_trans hS.1 h) gL_refuses_L_forks rfl ⟨rfl, rfl⟩ (by decide +kernel) ⟨Nat.le_of_ble_eq_true rfl, Nat.le_of_ble_eq_true rfl⟩ hF rfl hl.1 rfl (Nat.le_of_ble_eq_true rfl) ⟨Nat.le_of_ble_eq_true rfl, Nat.le_of_ble_eq_true rfl⟩ dL_refuses_634 (fun H locs hF _ _ hS => ?_)
      refine W.eq (g2 := F0 m 637 ls [.int (-2000000003)]) rfl ?_
      refine lv_ldc (v := (-2000000003)) hx hb hown (hts _ kw_L_refuses_18) dL_refuses_637 ?_
      refine lv_icmp_ne (tgt := 667) hx hb dL_refuses_639 (by decide) (fun c_639 => ?_) (fun c_639 => ?_)
      · exact absurd rfl c_639
      · refine W.widen (k := 44) (n := 264) (Nat.le_of_ble_eq_true rfl) (Nat.le_of_ble_eq_true rfl) ?_
        exact t642 _ _ _ _ _ _ _ _ _ ls hlo hno hgo hod hi0 hj0 hF hS (lv_sub hl [0, 1, 2, 3, 4, 5, 6, 7, 8, 9] rfl)
  have t106 : ∀ (lo no go od il : Int32) (H : Heap) (locs : List Loc) (ls : Array Slot), (¬ ∃ i, i < σ.sn ∧ lo = nI i) → (¬ ∃ i, i < σ.pn ∧ no = nI i) → (¬ ∃ i, i < σ.fn ∧ go = nI i) → (od < 0 ∨ nI 998 < od) → rn_S D f H → va_S (fun q : Nat => s.heap.size ≤ q) s.heap H locs → lv_has ls 12 [(6, .int od), (5, .int go), (4, .int no), (3, .int lo), (2, .int il), (0, .ref h0), (1, .int (nI X))] → W p l e ({ frames := 9, cells := 50, slots := 300, locals := 170 } : Room) s m ([.ref h0, .int (nI X)] : List Value).toArray below meth c H locs 0 0 (MQ below (fun _ st o t => (o = .returned (some (.int 1)) ∧ (rn_S D f) t.heap) ∧ va_F (fun q : Nat => s.heap.size ≤ q) st t) ([.ref h0, .int (nI X)] : List Value).toArray s 50 300 (fun q : Nat => s.heap.size ≤ q)) (F0 m 106 ls []) := by
    intro lo no go od il H locs ls hlo hno hgo hod hF hS hl
    refine lv_iload_n hx hb dL_refuses_106 rfl (lv_at hl 6 rfl) ?_
    refine lv_iconst (v := 2) hx hb dL_refuses_107 (by decide) ?_
    refine lv_idiv hx hb dL_refuses_108 (by decide) ?_
    refine rn_top (y := .int (nI (X / 2))) (congrArg Value.int (pk_div (d := 2) (by omega) (by decide) (by decide))) ?_
    refine lv_aload_n hx hb dL_refuses_109 rfl (lv_at hl 5 rfl) ?_
    refine rn_cV (As := []) (rest := [.int (nI (X / 2))]) 0 hx hb hml hown hts hG (c_processes l hV hC ) gL_refuses_X4_processes rfl ⟨rfl, rfl⟩ (by decide +kernel) ⟨Nat.le_of_ble_eq_true rfl, Nat.le_of_ble_eq_true rfl⟩ hF (hF _ _ hC.1.1) rfl rfl hl.1 rfl (Nat.le_of_ble_eq_true rfl) ⟨Nat.le_of_ble_eq_true rfl, Nat.le_of_ble_eq_true rfl⟩ dL_refuses_110 ?_
    refine W.eq (g2 := F0 m 113 ls [.int (nI σ.pn), .int (nI (X / 2))]) rfl ?_
    refine lv_irem hx hb dL_refuses_113 (rn_nz (by omega) hp1) ?_
    obtain ⟨j, hj0, ej⟩ : ∃ j, j < σ.pn ∧ nI (X / 2) - nI (X / 2) / nI σ.pn * nI σ.pn = nI j := ⟨X / 2 % σ.pn, Nat.mod_lt _ hp1, pk_rem (by omega) hp1 (by omega)⟩
    refine rn_top (y := .int (nI j)) (congrArg Value.int ej) ?_
    refine lv_istore (lv' := [(7, .int (nI j)), (6, .int od), (5, .int go), (4, .int no), (3, .int lo), (2, .int il), (0, .ref h0), (1, .int (nI X))]) hx hb dL_refuses_114 hl (by decide) rfl (fun ls hl => ?_)
    refine lv_iload_n hx hb dL_refuses_116 rfl (lv_at hl 7 rfl) ?_
    refine lv_iconst (v := 2) hx hb dL_refuses_117 (by decide) ?_
    refine lv_idiv hx hb dL_refuses_118 (by decide) ?_
    refine rn_top (y := .int (nI (X / 2))) (congrArg Value.int (pk_div (d := 2) (by omega) (by decide) (by decide))) ?_
    refine lv_aload_n hx hb dL_refuses_119 rfl (lv_at hl 6 rfl) ?_
    refine rn_cV (As := []) (rest := [.int (nI (X / 2))]) 0 hx hb hml hown hts hG (c_rooms l hV hC ) gL_refuses_X4_rooms rfl ⟨rfl, rfl⟩ (by decide +kernel) ⟨Nat.le_of_ble_eq_true rfl, Nat.le_of_ble_eq_true rfl⟩ hF (hF _ _ hC.1.1) rfl rfl hl.1 rfl (Nat.le_of_ble_eq_true rfl) ⟨Nat.le_of_ble_eq_true rfl, Nat.le_of_ble_eq_true rfl⟩ dL_refuses_120 ?_
    refine W.eq (g2 := F0 m 123 ls [.int (nI σ.sn), .int (nI (X / 2))]) rfl ?_
    refine lv_irem hx hb dL_refuses_123 (rn_nz (by omega) hs1) ?_
    obtain ⟨i, hi0, ei⟩ : ∃ j, j < σ.sn ∧ nI (X / 2) - nI (X / 2) / nI σ.sn * nI σ.sn = nI j := ⟨X / 2 % σ.sn, Nat.mod_lt _ hs1, pk_rem (by omega) hs1 (by omega)⟩
    refine rn_top (y := .int (nI i)) (congrArg Value.int ei) ?_
    refine lv_istore (lv' := [(8, .int (nI i)), (7, .int (nI j)), (6, .int od), (5, .int go), (4, .int no), (3, .int lo), (2, .int il), (0, .ref h0), (1, .int (nI X))]) hx hb dL_refuses_124 hl (by decide) rfl (fun ls hl => ?_)
    refine lv_aload_n hx hb dL_refuses_126 rfl (lv_at hl 7 rfl) ?_
    refine rn_cV (As := []) (rest := []) 0 hx hb hml hown hts hG (c_refusals l hV hC ) gL_refuses_X4_refusals rfl ⟨rfl, rfl⟩ (by decide +kernel) ⟨Nat.le_of_ble_eq_true rfl, Nat.le_of_ble_eq_true rfl⟩ hF (hF _ _ hC.1.1) rfl rfl hl.1 rfl (Nat.le_of_ble_eq_true rfl) ⟨Nat.le_of_ble_eq_true rfl, Nat.le_of_ble_eq_true rfl⟩ dL_refuses_127 ?_
    refine W.eq (g2 := F0 m 130 ls [.int σ.rc]) rfl ?_
    refine lv_istore (lv' := [(9, .int σ.rc), (8, .int (nI i)), (7, .int (nI j)), (6, .int od), (5, .int go), (4, .int no), (3, .int lo), (2, .int il), (0, .ref h0), (1, .int (nI X))]) hx hb dL_refuses_130 hl (by decide) rfl (fun ls hl => ?_)
    refine lv_aload_n hx hb dL_refuses_132 rfl (lv_at hl 8 rfl) ?_
    refine lv_iload hx hb dL_refuses_133 (lv_at hl 5 rfl) ?_
    refine rn_wLH (As := [.ref h0, .int no]) (rest := []) 2 hx hb hml hown hts hG (hE.new hS (fun q h => h)) hS (l_makes_p l hfl hV hC hno _) (fun q h => Nat.le_trans hS.1 h) gL_refuses_L_makes rfl ⟨rfl, rfl⟩ (by decide +kernel) ⟨Nat.le_of_ble_eq_true rfl, Nat.le_of_ble_eq_true rfl⟩ hF rfl hl.1 rfl (Nat.le_of_ble_eq_true rfl) ⟨Nat.le_of_ble_eq_true rfl, Nat.le_of_ble_eq_true rfl⟩ dL_refuses_135 (fun H locs hF _ _ hS => ?_)
    refine W.eq (g2 := F0 m 138 ls [.int (-2000000001)]) rfl ?_
    refine lv_ldc (v := (-2000000001)) hx hb hown (hts _ kw_L_refuses_15) dL_refuses_138 ?_
    refine lv_icmp_ne (tgt := 667) hx hb dL_refuses_140 (by decide) (fun c_140 => ?_) (fun c_140 => ?_)
    · exact absurd rfl c_140
    · refine lv_aload_n hx hb dL_refuses_143 rfl (lv_at hl 8 rfl) ?_
      refine lv_iload hx hb dL_refuses_144 (lv_at hl 3 rfl) ?_
      refine lv_iconst (v := 0) hx hb dL_refuses_146 (by decide) ?_
      refine lv_iconst (v := 1) hx hb dL_refuses_147 (by decide) ?_
      refine rn_wLH (As := [.ref h0, .int od, .int 0, .int 1]) (rest := []) 4 hx hb hml hown hts hG (hE.new hS (fun q h => h)) hS (l_lines_1 l hfl hV hC hod _) (fun q h => Nat.le_trans hS.1 h) gL_refuses_L_lines rfl ⟨rfl, rfl⟩ (by decide +kernel) ⟨Nat.le_of_ble_eq_true rfl, Nat.le_of_ble_eq_true rfl⟩ hF rfl hl.1 rfl (Nat.le_of_ble_eq_true rfl) ⟨Nat.le_of_ble_eq_true rfl, Nat.le_of_ble_eq_true rfl⟩ dL_refuses_148 (fun H locs hF _ _ hS => ?_)
      refine W.eq (g2 := F0 m 151 ls [.int (-2000000002)]) rfl ?_
      refine lv_ldc (v := (-2000000002)) hx hb hown (hts _ kw_L_refuses_25) dL_refuses_151 ?_
      refine lv_icmp_ne (tgt := 667) hx hb dL_refuses_153 (by decide) (fun c_153 => ?_) (fun c_153 => ?_)
      · exact absurd rfl c_153
      · refine lv_aload_n hx hb dL_refuses_156 rfl (lv_at hl 8 rfl) ?_
        refine lv_iconst (v := 0) hx hb dL_refuses_157 (by decide) ?_
        refine lv_iload hx hb dL_refuses_158 (lv_at hl 3 rfl) ?_
        refine lv_iconst (v := 1) hx hb dL_refuses_160 (by decide) ?_
        refine rn_wLH (As := [.ref h0, .int (nI 0), .int od, .int 1]) (rest := []) 4 hx hb hml hown hts hG (hE.new hS (fun q h => h)) hS (l_lines_2 l hfl hV hC (a := 0) (by decide) hod _) (fun q h => Nat.le_trans hS.1 h) gL_refuses_L_lines rfl ⟨rfl, rfl⟩ (by decide +kernel) ⟨Nat.le_of_ble_eq_true rfl, Nat.le_of_ble_eq_true rfl⟩ hF rfl hl.1 rfl (Nat.le_of_ble_eq_true rfl) ⟨Nat.le_of_ble_eq_true rfl, Nat.le_of_ble_eq_true rfl⟩ dL_refuses_161 (fun H locs hF _ _ hS => ?_)
        refine W.eq (g2 := F0 m 164 ls [.int (-2000000002)]) rfl ?_
        refine lv_ldc (v := (-2000000002)) hx hb hown (hts _ kw_L_refuses_25) dL_refuses_164 ?_
        refine lv_icmp_ne (tgt := 667) hx hb dL_refuses_166 (by decide) (fun c_166 => ?_) (fun c_166 => ?_)
        · exact absurd rfl c_166
        · refine lv_aload_n hx hb dL_refuses_169 rfl (lv_at hl 8 rfl) ?_
          refine lv_iconst (v := 0) hx hb dL_refuses_170 (by decide) ?_
          refine lv_iconst (v := 0) hx hb dL_refuses_171 (by decide) ?_
          refine lv_iload_n hx hb dL_refuses_172 rfl (lv_at hl 9 rfl) ?_
          refine lv_ineg hx hb dL_refuses_173 ?_
          refine rn_wLH (As := [.ref h0, .int (nI 0), .int (nI 0), .int (-nI X)]) (rest := []) 4 hx hb hml hown hts hG (hE.new hS (fun q h => h)) hS (l_lines_3 l hfl hV hC (a := 0) (b := 0) (by decide) (by decide) (Or.inl (rn_neg1 (by omega))) _) (fun q h => Nat.le_trans hS.1 h) gL_refuses_L_lines rfl ⟨rfl, rfl⟩ (by decide +kernel) ⟨Nat.le_of_ble_eq_true rfl, Nat.le_of_ble_eq_true rfl⟩ hF rfl hl.1 rfl (Nat.le_of_ble_eq_true rfl) ⟨Nat.le_of_ble_eq_true rfl, Nat.le_of_ble_eq_true rfl⟩ dL_refuses_174 (fun H locs hF _ _ hS => ?_)
          refine W.eq (g2 := F0 m 177 ls [.int (-2000000002)]) rfl ?_
          refine lv_ldc (v := (-2000000002)) hx hb hown (hts _ kw_L_refuses_25) dL_refuses_177 ?_
          refine lv_icmp_ne (tgt := 667) hx hb dL_refuses_179 (by decide) (fun c_179 => ?_) (fun c_179 => ?_)
          · exact absurd rfl c_179
          · refine lv_aload_n hx hb dL_refuses_182 rfl (lv_at hl 8 rfl) ?_
            refine lv_iconst (v := 0) hx hb dL_refuses_183 (by decide) ?_
            refine lv_iconst (v := 0) hx hb dL_refuses_184 (by decide) ?_
            refine lv_sipush (v := 1000) hx hb dL_refuses_185 (by decide +kernel) ?_
            refine lv_iload_n hx hb dL_refuses_188 rfl (lv_at hl 9 rfl) ?_
            refine lv_iadd hx hb dL_refuses_189 ?_
            refine rn_top (y := .int (nI (1000 + X))) (congrArg Value.int (nI_add 1000 X)) ?_
            refine rn_wLH (As := [.ref h0, .int (nI 0), .int (nI 0), .int (nI (1000 + X))]) (rest := []) 4 hx hb hml hown hts hG (hE.new hS (fun q h => h)) hS (l_lines_3 l hfl hV hC (a := 0) (b := 0) (by decide) (by decide) (Or.inr (by have := rn_above (a := 999) (k := 1 + X) (by omega) (by omega) (by omega); rwa [show 999 + (1 + X) = 1000 + X by omega] at this)) _) (fun q h => Nat.le_trans hS.1 h) gL_refuses_L_lines rfl ⟨rfl, rfl⟩ (by decide +kernel) ⟨Nat.le_of_ble_eq_true rfl, Nat.le_of_ble_eq_true rfl⟩ hF rfl hl.1 rfl (Nat.le_of_ble_eq_true rfl) ⟨Nat.le_of_ble_eq_true rfl, Nat.le_of_ble_eq_true rfl⟩ dL_refuses_190 (fun H locs hF _ _ hS => ?_)
            refine W.eq (g2 := F0 m 193 ls [.int (-2000000002)]) rfl ?_
            refine lv_ldc (v := (-2000000002)) hx hb hown (hts _ kw_L_refuses_25) dL_refuses_193 ?_
            refine lv_icmp_ne (tgt := 667) hx hb dL_refuses_195 (by decide) (fun c_195 => ?_) (fun c_195 => ?_)
            · exact absurd rfl c_195
            · refine lv_aload_n hx hb dL_refuses_198 rfl (lv_at hl 8 rfl) ?_
              refine lv_sipush (v := 998) hx hb dL_refuses_199 (by decide +kernel) ?_
              refine lv_iconst (v := 0) hx hb dL_refuses_202 (by decide) ?_
              refine lv_iconst (v := 2) hx hb dL_refuses_203 (by decide) ?_
              refine rn_wLH (As := [.ref h0, .int (nI 998), .int (nI 0), .int (nI 2)]) (rest := []) 4 hx hb hml hown hts hG (hE.new hS (fun q h => h)) hS (l_lines_4 l hfl hV hC (a := 998) (b := 0) (c9 := 2) (by decide) (by decide) (by decide) (by decide) _) (fun q h => Nat.le_trans hS.1 h) gL_refuses_L_lines rfl ⟨rfl, rfl⟩ (by decide +kernel) ⟨Nat.le_of_ble_eq_true rfl, Nat.le_of_ble_eq_true rfl⟩ hF rfl hl.1 rfl (Nat.le_of_ble_eq_true rfl) ⟨Nat.le_of_ble_eq_true rfl, Nat.le_of_ble_eq_true rfl⟩ dL_refuses_204 (fun H locs hF _ _ hS => ?_)
              refine W.eq (g2 := F0 m 207 ls [.int (-2000000002)]) rfl ?_
              refine lv_ldc (v := (-2000000002)) hx hb hown (hts _ kw_L_refuses_25) dL_refuses_207 ?_
              refine lv_icmp_ne (tgt := 667) hx hb dL_refuses_209 (by decide) (fun c_209 => ?_) (fun c_209 => ?_)
              · exact absurd rfl c_209
              · refine lv_aload_n hx hb dL_refuses_212 rfl (lv_at hl 8 rfl) ?_
                refine lv_iconst (v := 0) hx hb dL_refuses_213 (by decide) ?_
                refine lv_sipush (v := 998) hx hb dL_refuses_214 (by decide +kernel) ?_
                refine lv_iconst (v := 2) hx hb dL_refuses_217 (by decide) ?_
                refine lv_iload_n hx hb dL_refuses_218 rfl (lv_at hl 9 rfl) ?_
                refine lv_sipush (v := 900) hx hb dL_refuses_219 (by decide +kernel) ?_
                refine lv_irem hx hb dL_refuses_222 (by decide) ?_
                refine rn_top (y := .int (nI (X % 900))) (congrArg Value.int (pk_rem (d := 900) (by omega) (by decide) (by decide))) ?_
                refine lv_iadd hx hb dL_refuses_223 ?_
                refine rn_top (y := .int (nI (2 + X % 900))) (congrArg Value.int (nI_add 2 (X % 900))) ?_
                refine rn_wLH (As := [.ref h0, .int (nI 0), .int (nI 998), .int (nI (2 + X % 900))]) (rest := []) 4 hx hb hml hown hts hG (hE.new hS (fun q h => h)) hS (l_lines_5 l hfl hV hC (a := 0) (b := 998) (c9 := 2 + X % 900) (by decide) (by decide) ⟨by omega, by omega⟩ (by omega) (by omega) _) (fun q h => Nat.le_trans hS.1 h) gL_refuses_L_lines rfl ⟨rfl, rfl⟩ (by decide +kernel) ⟨Nat.le_of_ble_eq_true rfl, Nat.le_of_ble_eq_true rfl⟩ hF rfl hl.1 rfl (Nat.le_of_ble_eq_true rfl) ⟨Nat.le_of_ble_eq_true rfl, Nat.le_of_ble_eq_true rfl⟩ dL_refuses_224 (fun H locs hF _ _ hS => ?_)
                refine W.eq (g2 := F0 m 227 ls [.int (-2000000002)]) rfl ?_
                refine lv_ldc (v := (-2000000002)) hx hb hown (hts _ kw_L_refuses_25) dL_refuses_227 ?_
                refine lv_icmp_ne (tgt := 667) hx hb dL_refuses_229 (by decide) (fun c_229 => ?_) (fun c_229 => ?_)
                · exact absurd rfl c_229
                · refine lv_aload_n hx hb dL_refuses_232 rfl (lv_at hl 8 rfl) ?_
                  refine lv_iload hx hb dL_refuses_233 (lv_at hl 5 rfl) ?_
                  refine lv_iload hx hb dL_refuses_235 (lv_at hl 1 rfl) ?_
                  refine rn_wLH (As := [.ref h0, .int no, .int (nI i)]) (rest := []) 3 hx hb hml hown hts hG (hE.new hS (fun q h => h)) hS (l_writes_p l hfl hV hC hno _) (fun q h => Nat.le_trans hS.1 h) gL_refuses_L_writes rfl ⟨rfl, rfl⟩ (by decide +kernel) ⟨Nat.le_of_ble_eq_true rfl, Nat.le_of_ble_eq_true rfl⟩ hF rfl hl.1 rfl (Nat.le_of_ble_eq_true rfl) ⟨Nat.le_of_ble_eq_true rfl, Nat.le_of_ble_eq_true rfl⟩ dL_refuses_237 (fun H locs hF _ _ hS => ?_)
                  refine W.eq (g2 := F0 m 240 ls [.int (-2000000001)]) rfl ?_
                  refine lv_ldc (v := (-2000000001)) hx hb hown (hts _ kw_L_refuses_15) dL_refuses_240 ?_
                  refine lv_icmp_ne (tgt := 667) hx hb dL_refuses_242 (by decide) (fun c_242 => ?_) (fun c_242 => ?_)
                  · exact absurd rfl c_242
                  · refine lv_aload_n hx hb dL_refuses_245 rfl (lv_at hl 8 rfl) ?_
                    refine lv_iload hx hb dL_refuses_246 (lv_at hl 2 rfl) ?_
                    refine lv_iload_n hx hb dL_refuses_248 rfl (lv_at hl 6 rfl) ?_
                    refine rn_wLH (As := [.ref h0, .int (nI j), .int lo]) (rest := []) 3 hx hb hml hown hts hG (hE.new hS (fun q h => h)) hS (l_writes_r l hfl hV hC hj0 hlo _) (fun q h => Nat.le_trans hS.1 h) gL_refuses_L_writes rfl ⟨rfl, rfl⟩ (by decide +kernel) ⟨Nat.le_of_ble_eq_true rfl, Nat.le_of_ble_eq_true rfl⟩ hF rfl hl.1 rfl (Nat.le_of_ble_eq_true rfl) ⟨Nat.le_of_ble_eq_true rfl, Nat.le_of_ble_eq_true rfl⟩ dL_refuses_249 (fun H locs hF _ _ hS => ?_)
                    refine W.eq (g2 := F0 m 252 ls [.int (-2000000001)]) rfl ?_
                    refine lv_ldc (v := (-2000000001)) hx hb hown (hts _ kw_L_refuses_15) dL_refuses_252 ?_
                    refine lv_icmp_ne (tgt := 667) hx hb dL_refuses_254 (by decide) (fun c_254 => ?_) (fun c_254 => ?_)
                    · exact absurd rfl c_254
                    · refine lv_aload_n hx hb dL_refuses_257 rfl (lv_at hl 8 rfl) ?_
                      refine lv_iload hx hb dL_refuses_258 (lv_at hl 2 rfl) ?_
                      refine lv_iconst (v := 0) hx hb dL_refuses_260 (by decide) ?_
                      refine rn_wLH (As := [.ref h0, .int (nI j), .int (nI 0)]) (rest := []) 3 hx hb hml hown hts hG (hE.new hS (fun q h => h)) hS (l_writes_0 l hfl hV hC hj0 _) (fun q h => Nat.le_trans hS.1 h) gL_refuses_L_writes rfl ⟨rfl, rfl⟩ (by decide +kernel) ⟨Nat.le_of_ble_eq_true rfl, Nat.le_of_ble_eq_true rfl⟩ hF rfl hl.1 rfl (Nat.le_of_ble_eq_true rfl) ⟨Nat.le_of_ble_eq_true rfl, Nat.le_of_ble_eq_true rfl⟩ dL_refuses_261 (fun H locs hF _ _ hS => ?_)
                      refine W.eq (g2 := F0 m 264 ls [.int (-2000000001)]) rfl ?_
                      refine lv_ldc (v := (-2000000001)) hx hb hown (hts _ kw_L_refuses_15) dL_refuses_264 ?_
                      refine lv_icmp_ne (tgt := 667) hx hb dL_refuses_266 (by decide) (fun c_266 => ?_) (fun c_266 => ?_)
                      · exact absurd rfl c_266
                      · refine lv_aload_n hx hb dL_refuses_269 rfl (lv_at hl 8 rfl) ?_
                        refine lv_iload_n hx hb dL_refuses_270 rfl (lv_at hl 6 rfl) ?_
                        refine rn_wLH (As := [.ref h0, .int lo]) (rest := []) 2 hx hb hml hown hts hG (hE.new hS (fun q h => h)) hS (l_outer_r l hfl hV hC hlo _) (fun q h => Nat.le_trans hS.1 h) gL_refuses_L_outer rfl ⟨rfl, rfl⟩ (by decide +kernel) ⟨Nat.le_of_ble_eq_true rfl, Nat.le_of_ble_eq_true rfl⟩ hF rfl hl.1 rfl (Nat.le_of_ble_eq_true rfl) ⟨Nat.le_of_ble_eq_true rfl, Nat.le_of_ble_eq_true rfl⟩ dL_refuses_271 (fun H locs hF _ _ hS => ?_)
                        refine W.eq (g2 := F0 m 274 ls [.int (-2000000001)]) rfl ?_
                        refine lv_ldc (v := (-2000000001)) hx hb hown (hts _ kw_L_refuses_15) dL_refuses_274 ?_
                        refine lv_icmp_ne (tgt := 667) hx hb dL_refuses_276 (by decide) (fun c_276 => ?_) (fun c_276 => ?_)
                        · exact absurd rfl c_276
                        · refine lv_aload_n hx hb dL_refuses_279 rfl (lv_at hl 8 rfl) ?_
                          refine lv_iload_n hx hb dL_refuses_280 rfl (lv_at hl 6 rfl) ?_
                          refine lv_iload hx hb dL_refuses_281 (lv_at hl 3 rfl) ?_
                          refine rn_wLH (As := [.ref h0, .int lo, .int od]) (rest := []) 3 hx hb hml hown hts hG (hE.new hS (fun q h => h)) hS (l_leads_r l hfl hV hC hlo _) (fun q h => Nat.le_trans hS.1 h) gL_refuses_L_leads rfl ⟨rfl, rfl⟩ (by decide +kernel) ⟨Nat.le_of_ble_eq_true rfl, Nat.le_of_ble_eq_true rfl⟩ hF rfl hl.1 rfl (Nat.le_of_ble_eq_true rfl) ⟨Nat.le_of_ble_eq_true rfl, Nat.le_of_ble_eq_true rfl⟩ dL_refuses_283 (fun H locs hF _ _ hS => ?_)
                          refine W.eq (g2 := F0 m 286 ls [.int (-2000000001)]) rfl ?_
                          refine lv_ldc (v := (-2000000001)) hx hb hown (hts _ kw_L_refuses_15) dL_refuses_286 ?_
                          refine lv_icmp_ne (tgt := 667) hx hb dL_refuses_288 (by decide) (fun c_288 => ?_) (fun c_288 => ?_)
                          · exact absurd rfl c_288
                          · refine lv_aload_n hx hb dL_refuses_291 rfl (lv_at hl 8 rfl) ?_
                            refine lv_iload hx hb dL_refuses_292 (lv_at hl 1 rfl) ?_
                            refine lv_iload hx hb dL_refuses_294 (lv_at hl 3 rfl) ?_
                            refine rn_wLH (As := [.ref h0, .int (nI i), .int od]) (rest := []) 3 hx hb hml hown hts hG (hE.new hS (fun q h => h)) hS (l_leads_n l hfl hV hC hi0 hod _) (fun q h => Nat.le_trans hS.1 h) gL_refuses_L_leads rfl ⟨rfl, rfl⟩ (by decide +kernel) ⟨Nat.le_of_ble_eq_true rfl, Nat.le_of_ble_eq_true rfl⟩ hF rfl hl.1 rfl (Nat.le_of_ble_eq_true rfl) ⟨Nat.le_of_ble_eq_true rfl, Nat.le_of_ble_eq_true rfl⟩ dL_refuses_296 (fun H locs hF _ _ hS => ?_)
                            refine W.eq (g2 := F0 m 299 ls [.int (-2000000002)]) rfl ?_
                            refine lv_ldc (v := (-2000000002)) hx hb hown (hts _ kw_L_refuses_25) dL_refuses_299 ?_
                            refine lv_icmp_ne (tgt := 667) hx hb dL_refuses_301 (by decide) (fun c_301 => ?_) (fun c_301 => ?_)
                            · exact absurd rfl c_301
                            · refine lv_aload_n hx hb dL_refuses_304 rfl (lv_at hl 8 rfl) ?_
                              refine lv_iload_n hx hb dL_refuses_305 rfl (lv_at hl 6 rfl) ?_
                              refine lv_iconst (v := 5) hx hb dL_refuses_306 (by decide) ?_
                              refine rn_wLH (As := [.ref h0, .int lo, .int 5]) (rest := []) 3 hx hb hml hown hts hG (hE.new hS (fun q h => h)) hS (l_seen_r l hfl hV hC hlo _) (fun q h => Nat.le_trans hS.1 h) gL_refuses_L_seen rfl ⟨rfl, rfl⟩ (by decide +kernel) ⟨Nat.le_of_ble_eq_true rfl, Nat.le_of_ble_eq_true rfl⟩ hF rfl hl.1 rfl (Nat.le_of_ble_eq_true rfl) ⟨Nat.le_of_ble_eq_true rfl, Nat.le_of_ble_eq_true rfl⟩ dL_refuses_307 (fun H locs hF _ _ hS => ?_)
                              refine W.eq (g2 := F0 m 310 ls [.int (-2000000001)]) rfl ?_
                              refine lv_ldc (v := (-2000000001)) hx hb hown (hts _ kw_L_refuses_15) dL_refuses_310 ?_
                              refine lv_icmp_ne (tgt := 667) hx hb dL_refuses_312 (by decide) (fun c_312 => ?_) (fun c_312 => ?_)
                              · exact absurd rfl c_312
                              · refine lv_aload_n hx hb dL_refuses_315 rfl (lv_at hl 8 rfl) ?_
                                refine lv_iload hx hb dL_refuses_316 (lv_at hl 1 rfl) ?_
                                refine lv_iload hx hb dL_refuses_318 (lv_at hl 3 rfl) ?_
                                refine rn_wLH (As := [.ref h0, .int (nI i), .int od]) (rest := []) 3 hx hb hml hown hts hG (hE.new hS (fun q h => h)) hS (l_seen_n l hfl hV hC hi0 hod _) (fun q h => Nat.le_trans hS.1 h) gL_refuses_L_seen rfl ⟨rfl, rfl⟩ (by decide +kernel) ⟨Nat.le_of_ble_eq_true rfl, Nat.le_of_ble_eq_true rfl⟩ hF rfl hl.1 rfl (Nat.le_of_ble_eq_true rfl) ⟨Nat.le_of_ble_eq_true rfl, Nat.le_of_ble_eq_true rfl⟩ dL_refuses_320 (fun H locs hF _ _ hS => ?_)
                                refine W.eq (g2 := F0 m 323 ls [.int (-2000000002)]) rfl ?_
                                refine lv_ldc (v := (-2000000002)) hx hb hown (hts _ kw_L_refuses_25) dL_refuses_323 ?_
                                refine lv_icmp_ne (tgt := 667) hx hb dL_refuses_325 (by decide) (fun c_325 => ?_) (fun c_325 => ?_)
                                · exact absurd rfl c_325
                                · refine lv_aload_n hx hb dL_refuses_328 rfl (lv_at hl 8 rfl) ?_
                                  refine lv_iload_n hx hb dL_refuses_329 rfl (lv_at hl 6 rfl) ?_
                                  refine lv_iconst (v := 5) hx hb dL_refuses_330 (by decide) ?_
                                  refine rn_wLH (As := [.ref h0, .int lo, .int 5]) (rest := []) 3 hx hb hml hown hts hG (hE.new hS (fun q h => h)) hS (l_byLeading_r l hfl hV hC hlo _) (fun q h => Nat.le_trans hS.1 h) gL_refuses_L_byLeading rfl ⟨rfl, rfl⟩ (by decide +kernel) ⟨Nat.le_of_ble_eq_true rfl, Nat.le_of_ble_eq_true rfl⟩ hF rfl hl.1 rfl (Nat.le_of_ble_eq_true rfl) ⟨Nat.le_of_ble_eq_true rfl, Nat.le_of_ble_eq_true rfl⟩ dL_refuses_331 (fun H locs hF _ _ hS => ?_)
                                  refine W.eq (g2 := F0 m 334 ls [.int (-2000000001)]) rfl ?_
                                  refine lv_ldc (v := (-2000000001)) hx hb hown (hts _ kw_L_refuses_15) dL_refuses_334 ?_
                                  refine lv_icmp_ne (tgt := 667) hx hb dL_refuses_336 (by decide) (fun c_336 => ?_) (fun c_336 => ?_)
                                  · exact absurd rfl c_336
                                  · refine lv_aload_n hx hb dL_refuses_339 rfl (lv_at hl 8 rfl) ?_
                                    refine lv_iload hx hb dL_refuses_340 (lv_at hl 1 rfl) ?_
                                    refine lv_iload hx hb dL_refuses_342 (lv_at hl 3 rfl) ?_
                                    refine rn_wLH (As := [.ref h0, .int (nI i), .int od]) (rest := []) 3 hx hb hml hown hts hG (hE.new hS (fun q h => h)) hS (l_byLeading_n l hfl hV hC hi0 hod _) (fun q h => Nat.le_trans hS.1 h) gL_refuses_L_byLeading rfl ⟨rfl, rfl⟩ (by decide +kernel) ⟨Nat.le_of_ble_eq_true rfl, Nat.le_of_ble_eq_true rfl⟩ hF rfl hl.1 rfl (Nat.le_of_ble_eq_true rfl) ⟨Nat.le_of_ble_eq_true rfl, Nat.le_of_ble_eq_true rfl⟩ dL_refuses_344 (fun H locs hF _ _ hS => ?_)
                                    refine W.eq (g2 := F0 m 347 ls [.int (-2000000002)]) rfl ?_
                                    refine lv_ldc (v := (-2000000002)) hx hb hown (hts _ kw_L_refuses_25) dL_refuses_347 ?_
                                    refine lv_icmp_ne (tgt := 667) hx hb dL_refuses_349 (by decide) (fun c_349 => ?_) (fun c_349 => ?_)
                                    · exact absurd rfl c_349
                                    · refine lv_aload_n hx hb dL_refuses_352 rfl (lv_at hl 8 rfl) ?_
                                      refine lv_iload hx hb dL_refuses_353 (lv_at hl 5 rfl) ?_
                                      refine rn_wLH (As := [.ref h0, .int no]) (rest := []) 2 hx hb hml hown hts hG (hE.new hS (fun q h => h)) hS (l_forks_p l hfl hV hC hno _) (fun q h => Nat.le_trans hS.1 h) gL_refuses_L_forks rfl ⟨rfl, rfl⟩ (by decide +kernel) ⟨Nat.le_of_ble_eq_true rfl, Nat.le_of_ble_eq_true rfl⟩ hF rfl hl.1 rfl (Nat.le_of_ble_eq_true rfl) ⟨Nat.le_of_ble_eq_true rfl, Nat.le_of_ble_eq_true rfl⟩ dL_refuses_355 (fun H locs hF _ _ hS => ?_)
                                      refine W.eq (g2 := F0 m 358 ls [.int (-2000000001)]) rfl ?_
                                      refine lv_ldc (v := (-2000000001)) hx hb hown (hts _ kw_L_refuses_15) dL_refuses_358 ?_
                                      refine lv_icmp_ne (tgt := 667) hx hb dL_refuses_360 (by decide) (fun c_360 => ?_) (fun c_360 => ?_)
                                      · exact absurd rfl c_360
                                      · refine lv_aload_n hx hb dL_refuses_363 rfl (lv_at hl 8 rfl) ?_
                                        refine lv_iload hx hb dL_refuses_364 (lv_at hl 5 rfl) ?_
                                        refine lv_bipush (v := 99) hx hb dL_refuses_366 (by decide +kernel) ?_
                                        refine rn_wLH (As := [.ref h0, .int no, .int 99]) (rest := []) 3 hx hb hml hown hts hG (hE.new hS (fun q h => h)) hS (l_drops_p l hfl hV hC hno _) (fun q h => Nat.le_trans hS.1 h) gL_refuses_L_drops rfl ⟨rfl, rfl⟩ (by decide +kernel) ⟨Nat.le_of_ble_eq_true rfl, Nat.le_of_ble_eq_true rfl⟩ hF rfl hl.1 rfl (Nat.le_of_ble_eq_true rfl) ⟨Nat.le_of_ble_eq_true rfl, Nat.le_of_ble_eq_true rfl⟩ dL_refuses_368 (fun H locs hF _ _ hS => ?_)
                                        refine W.eq (g2 := F0 m 371 ls [.int (-2000000001)]) rfl ?_
                                        refine lv_ldc (v := (-2000000001)) hx hb hown (hts _ kw_L_refuses_15) dL_refuses_371 ?_
                                        refine lv_icmp_ne (tgt := 667) hx hb dL_refuses_373 (by decide) (fun c_373 => ?_) (fun c_373 => ?_)
                                        · exact absurd rfl c_373
                                        · refine lv_aload_n hx hb dL_refuses_376 rfl (lv_at hl 8 rfl) ?_
                                          refine lv_iload hx hb dL_refuses_377 (lv_at hl 2 rfl) ?_
                                          refine lv_bipush (v := 16) hx hb dL_refuses_379 (by decide +kernel) ?_
                                          refine lv_iload_n hx hb dL_refuses_381 rfl (lv_at hl 9 rfl) ?_
                                          refine lv_iadd hx hb dL_refuses_382 ?_
                                          refine rn_top (y := .int (nI (16 + X))) (congrArg Value.int (nI_add 16 X)) ?_
                                          refine rn_wLH (As := [.ref h0, .int (nI j), .int (nI (16 + X))]) (rest := []) 3 hx hb hml hown hts hG (hE.new hS (fun q h => h)) hS (l_drops_n l hfl hV hC hj0 (Or.inr h16) _) (fun q h => Nat.le_trans hS.1 h) gL_refuses_L_drops rfl ⟨rfl, rfl⟩ (by decide +kernel) ⟨Nat.le_of_ble_eq_true rfl, Nat.le_of_ble_eq_true rfl⟩ hF rfl hl.1 rfl (Nat.le_of_ble_eq_true rfl) ⟨Nat.le_of_ble_eq_true rfl, Nat.le_of_ble_eq_true rfl⟩ dL_refuses_383 (fun H locs hF _ _ hS => ?_)
                                          refine W.eq (g2 := F0 m 386 ls [.int (-2000000002)]) rfl ?_
                                          refine lv_ldc (v := (-2000000002)) hx hb hown (hts _ kw_L_refuses_25) dL_refuses_386 ?_
                                          refine lv_icmp_ne (tgt := 667) hx hb dL_refuses_388 (by decide) (fun c_388 => ?_) (fun c_388 => ?_)
                                          · exact absurd rfl c_388
                                          · refine lv_aload_n hx hb dL_refuses_391 rfl (lv_at hl 8 rfl) ?_
                                            refine lv_iload hx hb dL_refuses_392 (lv_at hl 2 rfl) ?_
                                            refine lv_iconst (v := (-1)) hx hb dL_refuses_394 (by decide) ?_
                                            refine lv_iload_n hx hb dL_refuses_395 rfl (lv_at hl 9 rfl) ?_
                                            refine lv_isub hx hb dL_refuses_396 ?_
                                            refine rn_wLH (As := [.ref h0, .int (nI j), .int (-1 - nI X)]) (rest := []) 3 hx hb hml hown hts hG (hE.new hS (fun q h => h)) hS (l_drops_n l hfl hV hC hj0 (Or.inl (rn_neg (by omega))) _) (fun q h => Nat.le_trans hS.1 h) gL_refuses_L_drops rfl ⟨rfl, rfl⟩ (by decide +kernel) ⟨Nat.le_of_ble_eq_true rfl, Nat.le_of_ble_eq_true rfl⟩ hF rfl hl.1 rfl (Nat.le_of_ble_eq_true rfl) ⟨Nat.le_of_ble_eq_true rfl, Nat.le_of_ble_eq_true rfl⟩ dL_refuses_397 (fun H locs hF _ _ hS => ?_)
                                            refine W.eq (g2 := F0 m 400 ls [.int (-2000000002)]) rfl ?_
                                            refine lv_ldc (v := (-2000000002)) hx hb hown (hts _ kw_L_refuses_25) dL_refuses_400 ?_
                                            refine lv_icmp_ne (tgt := 667) hx hb dL_refuses_402 (by decide) (fun c_402 => ?_) (fun c_402 => ?_)
                                            · exact absurd rfl c_402
                                            · refine lv_aload_n hx hb dL_refuses_405 rfl (lv_at hl 8 rfl) ?_
                                              refine lv_iload hx hb dL_refuses_406 (lv_at hl 5 rfl) ?_
                                              refine lv_iload hx hb dL_refuses_408 (lv_at hl 1 rfl) ?_
                                              refine rn_wLH (As := [.ref h0, .int no, .int (nI i)]) (rest := []) 3 hx hb hml hown hts hG (hE.new hS (fun q h => h)) hS (l_enters_p l hfl hV hC hno _) (fun q h => Nat.le_trans hS.1 h) gL_refuses_L_enters rfl ⟨rfl, rfl⟩ (by decide +kernel) ⟨Nat.le_of_ble_eq_true rfl, Nat.le_of_ble_eq_true rfl⟩ hF rfl hl.1 rfl (Nat.le_of_ble_eq_true rfl) ⟨Nat.le_of_ble_eq_true rfl, Nat.le_of_ble_eq_true rfl⟩ dL_refuses_410 (fun H locs hF _ _ hS => ?_)
                                              refine W.eq (g2 := F0 m 413 ls [.int (-2000000001)]) rfl ?_
                                              refine lv_ldc (v := (-2000000001)) hx hb hown (hts _ kw_L_refuses_15) dL_refuses_413 ?_
                                              refine lv_icmp_ne (tgt := 667) hx hb dL_refuses_415 (by decide) (fun c_415 => ?_) (fun c_415 => ?_)
                                              · exact absurd rfl c_415
                                              · refine lv_aload_n hx hb dL_refuses_418 rfl (lv_at hl 8 rfl) ?_
                                                refine lv_iload hx hb dL_refuses_419 (lv_at hl 2 rfl) ?_
                                                refine lv_iload_n hx hb dL_refuses_421 rfl (lv_at hl 6 rfl) ?_
                                                refine rn_wLH (As := [.ref h0, .int (nI j), .int lo]) (rest := []) 3 hx hb hml hown hts hG (hE.new hS (fun q h => h)) hS (l_enters_r l hfl hV hC hj0 hlo _) (fun q h => Nat.le_trans hS.1 h) gL_refuses_L_enters rfl ⟨rfl, rfl⟩ (by decide +kernel) ⟨Nat.le_of_ble_eq_true rfl, Nat.le_of_ble_eq_true rfl⟩ hF rfl hl.1 rfl (Nat.le_of_ble_eq_true rfl) ⟨Nat.le_of_ble_eq_true rfl, Nat.le_of_ble_eq_true rfl⟩ dL_refuses_422 (fun H locs hF _ _ hS => ?_)
                                                refine W.eq (g2 := F0 m 425 ls [.int (-2000000001)]) rfl ?_
                                                refine lv_ldc (v := (-2000000001)) hx hb hown (hts _ kw_L_refuses_15) dL_refuses_425 ?_
                                                refine lv_icmp_ne (tgt := 667) hx hb dL_refuses_427 (by decide) (fun c_427 => ?_) (fun c_427 => ?_)
                                                · exact absurd rfl c_427
                                                · refine lv_aload_n hx hb dL_refuses_430 rfl (lv_at hl 8 rfl) ?_
                                                  refine lv_iload hx hb dL_refuses_431 (lv_at hl 5 rfl) ?_
                                                  refine lv_iload hx hb dL_refuses_433 (lv_at hl 3 rfl) ?_
                                                  refine rn_wLH (As := [.ref h0, .int no, .int od]) (rest := []) 3 hx hb hml hown hts hG (hE.new hS (fun q h => h)) hS (l_takes_p l hfl hV hC hno _) (fun q h => Nat.le_trans hS.1 h) gL_refuses_L_takes rfl ⟨rfl, rfl⟩ (by decide +kernel) ⟨Nat.le_of_ble_eq_true rfl, Nat.le_of_ble_eq_true rfl⟩ hF rfl hl.1 rfl (Nat.le_of_ble_eq_true rfl) ⟨Nat.le_of_ble_eq_true rfl, Nat.le_of_ble_eq_true rfl⟩ dL_refuses_435 (fun H locs hF _ _ hS => ?_)
                                                  refine W.eq (g2 := F0 m 438 ls [.int (-2000000001)]) rfl ?_
                                                  refine lv_ldc (v := (-2000000001)) hx hb hown (hts _ kw_L_refuses_15) dL_refuses_438 ?_
                                                  refine lv_icmp_ne (tgt := 667) hx hb dL_refuses_440 (by decide) (fun c_440 => ?_) (fun c_440 => ?_)
                                                  · exact absurd rfl c_440
                                                  · refine lv_aload_n hx hb dL_refuses_443 rfl (lv_at hl 8 rfl) ?_
                                                    refine lv_iload hx hb dL_refuses_444 (lv_at hl 2 rfl) ?_
                                                    refine lv_iload hx hb dL_refuses_446 (lv_at hl 3 rfl) ?_
                                                    refine rn_wLH (As := [.ref h0, .int (nI j), .int od]) (rest := []) 3 hx hb hml hown hts hG (hE.new hS (fun q h => h)) hS (l_takes_n l hfl hV hC hj0 hod _) (fun q h => Nat.le_trans hS.1 h) gL_refuses_L_takes rfl ⟨rfl, rfl⟩ (by decide +kernel) ⟨Nat.le_of_ble_eq_true rfl, Nat.le_of_ble_eq_true rfl⟩ hF rfl hl.1 rfl (Nat.le_of_ble_eq_true rfl) ⟨Nat.le_of_ble_eq_true rfl, Nat.le_of_ble_eq_true rfl⟩ dL_refuses_448 (fun H locs hF _ _ hS => ?_)
                                                    refine W.eq (g2 := F0 m 451 ls [.int (-2000000002)]) rfl ?_
                                                    refine lv_ldc (v := (-2000000002)) hx hb hown (hts _ kw_L_refuses_25) dL_refuses_451 ?_
                                                    refine lv_icmp_ne (tgt := 667) hx hb dL_refuses_453 (by decide) (fun c_453 => ?_) (fun c_453 => ?_)
                                                    · exact absurd rfl c_453
                                                    · refine lv_aload_n hx hb dL_refuses_456 rfl (lv_at hl 8 rfl) ?_
                                                      refine lv_iload hx hb dL_refuses_457 (lv_at hl 5 rfl) ?_
                                                      refine rn_wLH (As := [.ref h0, .int no]) (rest := []) 2 hx hb hml hown hts hG (hE.new hS (fun q h => h)) hS (l_room_p l hfl hV hC hno _) (fun q h => Nat.le_trans hS.1 h) gL_refuses_L_room rfl ⟨rfl, rfl⟩ (by decide +kernel) ⟨Nat.le_of_ble_eq_true rfl, Nat.le_of_ble_eq_true rfl⟩ hF rfl hl.1 rfl (Nat.le_of_ble_eq_true rfl) ⟨Nat.le_of_ble_eq_true rfl, Nat.le_of_ble_eq_true rfl⟩ dL_refuses_459 (fun H locs hF _ _ hS => ?_)
                                                      refine W.eq (g2 := F0 m 462 ls [.int (-2000000001)]) rfl ?_
                                                      refine lv_ldc (v := (-2000000001)) hx hb hown (hts _ kw_L_refuses_15) dL_refuses_462 ?_
                                                      refine lv_icmp_ne (tgt := 667) hx hb dL_refuses_464 (by decide) (fun c_464 => ?_) (fun c_464 => ?_)
                                                      · exact absurd rfl c_464
                                                      · refine lv_aload_n hx hb dL_refuses_467 rfl (lv_at hl 8 rfl) ?_
                                                        refine lv_iload hx hb dL_refuses_468 (lv_at hl 5 rfl) ?_
                                                        refine rn_wLH (As := [.ref h0, .int no]) (rest := []) 2 hx hb hml hown hts hG (hE.new hS (fun q h => h)) hS (l_number_p l hfl hV hC hno _) (fun q h => Nat.le_trans hS.1 h) gL_refuses_L_number rfl ⟨rfl, rfl⟩ (by decide +kernel) ⟨Nat.le_of_ble_eq_true rfl, Nat.le_of_ble_eq_true rfl⟩ hF rfl hl.1 rfl (Nat.le_of_ble_eq_true rfl) ⟨Nat.le_of_ble_eq_true rfl, Nat.le_of_ble_eq_true rfl⟩ dL_refuses_470 (fun H locs hF _ _ hS => ?_)
                                                        refine W.eq (g2 := F0 m 473 ls [.int (-2000000001)]) rfl ?_
                                                        refine lv_ldc (v := (-2000000001)) hx hb hown (hts _ kw_L_refuses_15) dL_refuses_473 ?_
                                                        refine lv_icmp_ne (tgt := 667) hx hb dL_refuses_475 (by decide) (fun c_475 => ?_) (fun c_475 => ?_)
                                                        · exact absurd rfl c_475
                                                        · refine lv_aload_n hx hb dL_refuses_478 rfl (lv_at hl 8 rfl) ?_
                                                          refine lv_iload hx hb dL_refuses_479 (lv_at hl 5 rfl) ?_
                                                          refine lv_iload hx hb dL_refuses_481 (lv_at hl 1 rfl) ?_
                                                          refine rn_wLH (As := [.ref h0, .int no, .int (nI i)]) (rest := []) 3 hx hb hml hown hts hG (hE.new hS (fun q h => h)) hS (l_rights_p l hfl hV hC hno _) (fun q h => Nat.le_trans hS.1 h) gL_refuses_L_rights rfl ⟨rfl, rfl⟩ (by decide +kernel) ⟨Nat.le_of_ble_eq_true rfl, Nat.le_of_ble_eq_true rfl⟩ hF rfl hl.1 rfl (Nat.le_of_ble_eq_true rfl) ⟨Nat.le_of_ble_eq_true rfl, Nat.le_of_ble_eq_true rfl⟩ dL_refuses_483 (fun H locs hF _ _ hS => ?_)
                                                          refine W.eq (g2 := F0 m 486 ls [.int (-2000000001)]) rfl ?_
                                                          refine lv_ldc (v := (-2000000001)) hx hb hown (hts _ kw_L_refuses_15) dL_refuses_486 ?_
                                                          refine lv_icmp_ne (tgt := 667) hx hb dL_refuses_488 (by decide) (fun c_488 => ?_) (fun c_488 => ?_)
                                                          · exact absurd rfl c_488
                                                          · refine lv_aload_n hx hb dL_refuses_491 rfl (lv_at hl 8 rfl) ?_
                                                            refine lv_iload hx hb dL_refuses_492 (lv_at hl 2 rfl) ?_
                                                            refine lv_iload_n hx hb dL_refuses_494 rfl (lv_at hl 6 rfl) ?_
                                                            refine rn_wLH (As := [.ref h0, .int (nI j), .int lo]) (rest := []) 3 hx hb hml hown hts hG (hE.new hS (fun q h => h)) hS (l_rights_r l hfl hV hC hj0 hlo _) (fun q h => Nat.le_trans hS.1 h) gL_refuses_L_rights rfl ⟨rfl, rfl⟩ (by decide +kernel) ⟨Nat.le_of_ble_eq_true rfl, Nat.le_of_ble_eq_true rfl⟩ hF rfl hl.1 rfl (Nat.le_of_ble_eq_true rfl) ⟨Nat.le_of_ble_eq_true rfl, Nat.le_of_ble_eq_true rfl⟩ dL_refuses_495 (fun H locs hF _ _ hS => ?_)
                                                            refine W.eq (g2 := F0 m 498 ls [.int (-2000000001)]) rfl ?_
                                                            refine lv_ldc (v := (-2000000001)) hx hb hown (hts _ kw_L_refuses_15) dL_refuses_498 ?_
                                                            refine lv_icmp_ne (tgt := 667) hx hb dL_refuses_500 (by decide) (fun c_500 => ?_) (fun c_500 => ?_)
                                                            · exact absurd rfl c_500
                                                            · refine lv_aload_n hx hb dL_refuses_503 rfl (lv_at hl 8 rfl) ?_
                                                              refine lv_iload hx hb dL_refuses_504 (lv_at hl 5 rfl) ?_
                                                              refine lv_bipush (v := 99) hx hb dL_refuses_506 (by decide +kernel) ?_
                                                              refine rn_wLH (As := [.ref h0, .int no, .int 99]) (rest := []) 3 hx hb hml hown hts hG (hE.new hS (fun q h => h)) hS (l_files_p l hfl hV hC hno _) (fun q h => Nat.le_trans hS.1 h) gL_refuses_L_files rfl ⟨rfl, rfl⟩ (by decide +kernel) ⟨Nat.le_of_ble_eq_true rfl, Nat.le_of_ble_eq_true rfl⟩ hF rfl hl.1 rfl (Nat.le_of_ble_eq_true rfl) ⟨Nat.le_of_ble_eq_true rfl, Nat.le_of_ble_eq_true rfl⟩ dL_refuses_508 (fun H locs hF _ _ hS => ?_)
                                                              refine W.eq (g2 := F0 m 511 ls [.int (-2000000001)]) rfl ?_
                                                              refine lv_ldc (v := (-2000000001)) hx hb hown (hts _ kw_L_refuses_15) dL_refuses_511 ?_
                                                              refine lv_icmp_ne (tgt := 667) hx hb dL_refuses_513 (by decide) (fun c_513 => ?_) (fun c_513 => ?_)
                                                              · exact absurd rfl c_513
                                                              · refine lv_aload_n hx hb dL_refuses_516 rfl (lv_at hl 8 rfl) ?_
                                                                refine lv_iload hx hb dL_refuses_517 (lv_at hl 2 rfl) ?_
                                                                refine lv_bipush (v := 16) hx hb dL_refuses_519 (by decide +kernel) ?_
                                                                refine lv_iload_n hx hb dL_refuses_521 rfl (lv_at hl 9 rfl) ?_
                                                                refine lv_iadd hx hb dL_refuses_522 ?_
                                                                refine rn_top (y := .int (nI (16 + X))) (congrArg Value.int (nI_add 16 X)) ?_
                                                                refine rn_wLH (As := [.ref h0, .int (nI j), .int (nI (16 + X))]) (rest := []) 3 hx hb hml hown hts hG (hE.new hS (fun q h => h)) hS (l_files_n l hfl hV hC hj0 (Or.inr h16) _) (fun q h => Nat.le_trans hS.1 h) gL_refuses_L_files rfl ⟨rfl, rfl⟩ (by decide +kernel) ⟨Nat.le_of_ble_eq_true rfl, Nat.le_of_ble_eq_true rfl⟩ hF rfl hl.1 rfl (Nat.le_of_ble_eq_true rfl) ⟨Nat.le_of_ble_eq_true rfl, Nat.le_of_ble_eq_true rfl⟩ dL_refuses_523 (fun H locs hF _ _ hS => ?_)
                                                                refine W.eq (g2 := F0 m 526 ls [.int (-2000000002)]) rfl ?_
                                                                refine lv_ldc (v := (-2000000002)) hx hb hown (hts _ kw_L_refuses_25) dL_refuses_526 ?_
                                                                refine lv_icmp_ne (tgt := 667) hx hb dL_refuses_528 (by decide) (fun c_528 => ?_) (fun c_528 => ?_)
                                                                · exact absurd rfl c_528
                                                                · refine lv_aload_n hx hb dL_refuses_531 rfl (lv_at hl 8 rfl) ?_
                                                                  refine lv_iload hx hb dL_refuses_532 (lv_at hl 2 rfl) ?_
                                                                  refine lv_iconst (v := (-1)) hx hb dL_refuses_534 (by decide) ?_
                                                                  refine lv_iload_n hx hb dL_refuses_535 rfl (lv_at hl 9 rfl) ?_
                                                                  refine lv_isub hx hb dL_refuses_536 ?_
                                                                  refine rn_wLH (As := [.ref h0, .int (nI j), .int (-1 - nI X)]) (rest := []) 3 hx hb hml hown hts hG (hE.new hS (fun q h => h)) hS (l_files_n l hfl hV hC hj0 (Or.inl (rn_neg (by omega))) _) (fun q h => Nat.le_trans hS.1 h) gL_refuses_L_files rfl ⟨rfl, rfl⟩ (by decide +kernel) ⟨Nat.le_of_ble_eq_true rfl, Nat.le_of_ble_eq_true rfl⟩ hF rfl hl.1 rfl (Nat.le_of_ble_eq_true rfl) ⟨Nat.le_of_ble_eq_true rfl, Nat.le_of_ble_eq_true rfl⟩ dL_refuses_537 (fun H locs hF _ _ hS => ?_)
                                                                  refine W.eq (g2 := F0 m 540 ls [.int (-2000000002)]) rfl ?_
                                                                  refine lv_ldc (v := (-2000000002)) hx hb hown (hts _ kw_L_refuses_25) dL_refuses_540 ?_
                                                                  refine lv_icmp_ne (tgt := 667) hx hb dL_refuses_542 (by decide) (fun c_542 => ?_) (fun c_542 => ?_)
                                                                  · exact absurd rfl c_542
                                                                  · refine lv_aload_n hx hb dL_refuses_545 rfl (lv_at hl 8 rfl) ?_
                                                                    refine lv_iload hx hb dL_refuses_546 (lv_at hl 5 rfl) ?_
                                                                    refine lv_iload hx hb dL_refuses_548 (lv_at hl 4 rfl) ?_
                                                                    refine lv_iload hx hb dL_refuses_550 (lv_at hl 3 rfl) ?_
                                                                    refine rn_wLH (As := [.ref h0, .int no, .int go, .int od]) (rest := []) 4 hx hb hml hown hts hG (hE.new hS (fun q h => h)) hS (l_hands_p l hfl hV hC hno _) (fun q h => Nat.le_trans hS.1 h) gL_refuses_L_hands rfl ⟨rfl, rfl⟩ (by decide +kernel) ⟨Nat.le_of_ble_eq_true rfl, Nat.le_of_ble_eq_true rfl⟩ hF rfl hl.1 rfl (Nat.le_of_ble_eq_true rfl) ⟨Nat.le_of_ble_eq_true rfl, Nat.le_of_ble_eq_true rfl⟩ dL_refuses_552 (fun H locs hF _ _ hS => ?_)
                                                                    refine W.eq (g2 := F0 m 555 ls [.int (-2000000001)]) rfl ?_
                                                                    refine lv_ldc (v := (-2000000001)) hx hb hown (hts _ kw_L_refuses_15) dL_refuses_555 ?_
                                                                    refine lv_icmp_ne (tgt := 667) hx hb dL_refuses_557 (by decide) (fun c_557 => ?_) (fun c_557 => ?_)
                                                                    · exact absurd rfl c_557
                                                                    · refine lv_aload_n hx hb dL_refuses_560 rfl (lv_at hl 8 rfl) ?_
                                                                      refine lv_iload hx hb dL_refuses_561 (lv_at hl 2 rfl) ?_
                                                                      refine lv_iload hx hb dL_refuses_563 (lv_at hl 4 rfl) ?_
                                                                      refine lv_iload hx hb dL_refuses_565 (lv_at hl 3 rfl) ?_
                                                                      refine rn_wLH (As := [.ref h0, .int (nI j), .int go, .int od]) (rest := []) 4 hx hb hml hown hts hG (hE.new hS (fun q h => h)) hS (l_hands_f l hfl hV hC hj0 hgo _) (fun q h => Nat.le_trans hS.1 h) gL_refuses_L_hands rfl ⟨rfl, rfl⟩ (by decide +kernel) ⟨Nat.le_of_ble_eq_true rfl, Nat.le_of_ble_eq_true rfl⟩ hF rfl hl.1 rfl (Nat.le_of_ble_eq_true rfl) ⟨Nat.le_of_ble_eq_true rfl, Nat.le_of_ble_eq_true rfl⟩ dL_refuses_567 (fun H locs hF _ _ hS => ?_)
                                                                      refine W.eq (g2 := F0 m 570 ls [.int (-2000000001)]) rfl ?_
                                                                      refine lv_ldc (v := (-2000000001)) hx hb hown (hts _ kw_L_refuses_15) dL_refuses_570 ?_
                                                                      refine lv_icmp_ne (tgt := 667) hx hb dL_refuses_572 (by decide) (fun c_572 => ?_) (fun c_572 => ?_)
                                                                      · exact absurd rfl c_572
                                                                      · refine lv_aload_n hx hb dL_refuses_575 rfl (lv_at hl 8 rfl) ?_
                                                                        refine lv_iload hx hb dL_refuses_576 (lv_at hl 2 rfl) ?_
                                                                        refine lv_iload hx hb dL_refuses_578 (lv_at hl 4 rfl) ?_
                                                                        refine lv_iconst (v := 1) hx hb dL_refuses_580 (by decide) ?_
                                                                        refine rn_wLH (As := [.ref h0, .int (nI j), .int go, .int 1]) (rest := []) 4 hx hb hml hown hts hG (hE.new hS (fun q h => h)) hS (l_opens_f l hfl hV hC hj0 hgo _) (fun q h => Nat.le_trans hS.1 h) gL_refuses_L_opens rfl ⟨rfl, rfl⟩ (by decide +kernel) ⟨Nat.le_of_ble_eq_true rfl, Nat.le_of_ble_eq_true rfl⟩ hF rfl hl.1 rfl (Nat.le_of_ble_eq_true rfl) ⟨Nat.le_of_ble_eq_true rfl, Nat.le_of_ble_eq_true rfl⟩ dL_refuses_581 (fun H locs hF _ _ hS => ?_)
                                                                        refine W.eq (g2 := F0 m 584 ls [.int (-2000000001)]) rfl ?_
                                                                        refine lv_ldc (v := (-2000000001)) hx hb hown (hts _ kw_L_refuses_15) dL_refuses_584 ?_
                                                                        refine lv_icmp_ne (tgt := 667) hx hb dL_refuses_586 (by decide) (fun c_586 => ?_) (fun c_586 => ?_)
                                                                        · exact absurd rfl c_586
                                                                        · refine lv_aload_n hx hb dL_refuses_589 rfl (lv_at hl 8 rfl) ?_
                                                                          refine lv_iload hx hb dL_refuses_590 (lv_at hl 2 rfl) ?_
                                                                          refine lv_iload hx hb dL_refuses_592 (lv_at hl 4 rfl) ?_
                                                                          refine rn_wLH (As := [.ref h0, .int (nI j), .int go]) (rest := []) 3 hx hb hml hown hts hG (hE.new hS (fun q h => h)) hS (l_owner_f l hfl hV hC hj0 hgo _) (fun q h => Nat.le_trans hS.1 h) gL_refuses_L_owner rfl ⟨rfl, rfl⟩ (by decide +kernel) ⟨Nat.le_of_ble_eq_true rfl, Nat.le_of_ble_eq_true rfl⟩ hF rfl hl.1 rfl (Nat.le_of_ble_eq_true rfl) ⟨Nat.le_of_ble_eq_true rfl, Nat.le_of_ble_eq_true rfl⟩ dL_refuses_594 (fun H locs hF _ _ hS => ?_)
                                                                          refine W.eq (g2 := F0 m 597 ls [.int (-2000000001)]) rfl ?_
                                                                          refine lv_ldc (v := (-2000000001)) hx hb hown (hts _ kw_L_refuses_15) dL_refuses_597 ?_
                                                                          refine lv_icmp_ne (tgt := 667) hx hb dL_refuses_599 (by decide) (fun c_599 => ?_) (fun c_599 => ?_)
                                                                          · exact absurd rfl c_599
                                                                          · refine lv_aload_n hx hb dL_refuses_602 rfl (lv_at hl 8 rfl) ?_
                                                                            refine rn_cV (As := []) (rest := []) 0 hx hb hml hown hts hG (c_rooms l hV hC ) gL_refuses_X4_rooms rfl ⟨rfl, rfl⟩ (by decide +kernel) ⟨Nat.le_of_ble_eq_true rfl, Nat.le_of_ble_eq_true rfl⟩ hF (hF _ _ hC.1.1) rfl rfl hl.1 rfl (Nat.le_of_ble_eq_true rfl) ⟨Nat.le_of_ble_eq_true rfl, Nat.le_of_ble_eq_true rfl⟩ dL_refuses_603 ?_
                                                                            refine W.eq (g2 := F0 m 606 ls [.int (nI σ.sn)]) rfl ?_
                                                                            refine lv_bipush (v := 10) hx hb dL_refuses_606 (by decide +kernel) ?_
                                                                            refine lv_icmp_lt (tgt := 622) hx hb dL_refuses_608 (by decide) (fun c_608 => ?_) (fun c_608 => ?_)
                                                                            · refine W.widen (k := 43) (n := 258) (Nat.le_of_ble_eq_true rfl) (Nat.le_of_ble_eq_true rfl) ?_
                                                                              exact t622 _ _ _ _ _ _ _ _ _ ls hlo hno hgo hod hi0 hj0 hF hS (lv_sub hl [0, 1, 2, 3, 4, 5, 6, 7, 8, 9] rfl)
                                                                            · have hfull : σ.sn = 10 := by rw [rn_lt, nI_toInt (by omega)] at c_608; have h9 : (10 : Int32).toInt = 10 := (by decide); omega
                                                                              refine lv_aload_n hx hb dL_refuses_611 rfl (lv_at hl 8 rfl) ?_
                                                                              refine lv_iload hx hb dL_refuses_612 (lv_at hl 2 rfl) ?_
                                                                              refine rn_wLH (As := [.ref h0, .int (nI j)]) (rest := []) 2 hx hb hml hown hts hG (hE.new hS (fun q h => h)) hS (l_makes_s l hfl hV hC hj0 hfull _) (fun q h => Nat.le_trans hS.1 h) gL_refuses_L_makes rfl ⟨rfl, rfl⟩ (by decide +kernel) ⟨Nat.le_of_ble_eq_true rfl, Nat.le_of_ble_eq_true rfl⟩ hF rfl hl.1 rfl (Nat.le_of_ble_eq_true rfl) ⟨Nat.le_of_ble_eq_true rfl, Nat.le_of_ble_eq_true rfl⟩ dL_refuses_614 (fun H locs hF _ _ hS => ?_)
                                                                              refine W.eq (g2 := F0 m 617 ls [.int (-2000000003)]) rfl ?_
                                                                              refine lv_ldc (v := (-2000000003)) hx hb hown (hts _ kw_L_refuses_18) dL_refuses_617 ?_
                                                                              refine lv_icmp_ne (tgt := 667) hx hb dL_refuses_619 (by decide) (fun c_619 => ?_) (fun c_619 => ?_)
                                                                              · exact absurd rfl c_619
                                                                              · refine W.widen (k := 43) (n := 258) (Nat.le_of_ble_eq_true rfl) (Nat.le_of_ble_eq_true rfl) ?_
                                                                                exact t622 _ _ _ _ _ _ _ _ _ ls hlo hno hgo hod hi0 hj0 hF hS (lv_sub hl [0, 1, 2, 3, 4, 5, 6, 7, 8, 9] rfl)
  refine lv_iload_n hx hb dL_refuses_0 rfl (lv_at hl 1 rfl) ?_
  refine lv_iconst (v := 2) hx hb dL_refuses_1 (by decide) ?_
  refine lv_irem hx hb dL_refuses_2 (by decide) ?_
  refine rn_top (y := .int (nI (X % 2))) (congrArg Value.int (pk_rem (d := 2) (by omega) (by decide) (by decide))) ?_
  refine lv_if_ne (tgt := 10) hx hb dL_refuses_3 (by decide) (fun c_3 => ?_) (fun c_3 => ?_)
  · refine lv_iconst (v := 0) hx hb dL_refuses_10 (by decide) ?_
    refine lv_istore_n (lv' := [(2, .int 0), (0, .ref h0), (1, .int (nI X))]) hx hb dL_refuses_11 rfl hl (by decide) rfl (fun ls hl => ?_)
    refine lv_iload_n hx hb dL_refuses_12 rfl (lv_at hl 0 rfl) ?_
    refine lv_if_eq (tgt := 25) hx hb dL_refuses_13 (by decide) (fun c_13 => ?_) (fun c_13 => ?_)
    · refine lv_aload_n hx hb dL_refuses_25 rfl (lv_at hl 1 rfl) ?_
      refine rn_cV (As := []) (rest := []) 0 hx hb hml hown hts hG (c_rooms l hV hC ) gL_refuses_X4_rooms rfl ⟨rfl, rfl⟩ (by decide +kernel) ⟨Nat.le_of_ble_eq_true rfl, Nat.le_of_ble_eq_true rfl⟩ hF (hF _ _ hC.1.1) rfl rfl hl.1 rfl (Nat.le_of_ble_eq_true rfl) ⟨Nat.le_of_ble_eq_true rfl, Nat.le_of_ble_eq_true rfl⟩ dL_refuses_26 ?_
      refine W.eq (g2 := F0 m 29 ls [.int (nI σ.sn)]) rfl ?_
      refine lv_iload_n hx hb dL_refuses_29 rfl (lv_at hl 2 rfl) ?_
      refine lv_bipush (v := 50) hx hb dL_refuses_30 (by decide +kernel) ?_
      refine lv_irem hx hb dL_refuses_32 (by decide) ?_
      refine rn_top (y := .int (nI (X % 50))) (congrArg Value.int (pk_rem (d := 50) (by omega) (by decide) (by decide))) ?_
      refine lv_iadd hx hb dL_refuses_33 ?_
      obtain ⟨lo, elo, hlo⟩ : ∃ v : Int32, (nI σ.sn) + (nI (X % 50)) = v ∧ ¬ ∃ i, i < σ.sn ∧ v = nI i := ⟨_, rfl, rn_noHigh (by omega) (by omega)⟩
      refine rn_top (y := .int lo) (congrArg Value.int elo) ?_
      refine lv_istore_n (lv' := [(3, .int lo), (2, .int 0), (0, .ref h0), (1, .int (nI X))]) hx hb dL_refuses_34 rfl hl (by decide) rfl (fun ls hl => ?_)
      refine lv_iload_n hx hb dL_refuses_35 rfl (lv_at hl 1 rfl) ?_
      refine lv_if_eq (tgt := 48) hx hb dL_refuses_36 (by decide) (fun c_36 => ?_) (fun c_36 => ?_)
      · refine lv_aload_n hx hb dL_refuses_48 rfl (lv_at hl 2 rfl) ?_
        refine rn_cV (As := []) (rest := []) 0 hx hb hml hown hts hG (c_processes l hV hC ) gL_refuses_X4_processes rfl ⟨rfl, rfl⟩ (by decide +kernel) ⟨Nat.le_of_ble_eq_true rfl, Nat.le_of_ble_eq_true rfl⟩ hF (hF _ _ hC.1.1) rfl rfl hl.1 rfl (Nat.le_of_ble_eq_true rfl) ⟨Nat.le_of_ble_eq_true rfl, Nat.le_of_ble_eq_true rfl⟩ dL_refuses_49 ?_
        refine W.eq (g2 := F0 m 52 ls [.int (nI σ.pn)]) rfl ?_
        refine lv_iload_n hx hb dL_refuses_52 rfl (lv_at hl 3 rfl) ?_
        refine lv_bipush (v := 50) hx hb dL_refuses_53 (by decide +kernel) ?_
        refine lv_irem hx hb dL_refuses_55 (by decide) ?_
        refine rn_top (y := .int (nI (X % 50))) (congrArg Value.int (pk_rem (d := 50) (by omega) (by decide) (by decide))) ?_
        refine lv_iadd hx hb dL_refuses_56 ?_
        obtain ⟨no, eno, hno⟩ : ∃ v : Int32, (nI σ.pn) + (nI (X % 50)) = v ∧ ¬ ∃ i, i < σ.pn ∧ v = nI i := ⟨_, rfl, rn_noHigh (by omega) (by omega)⟩
        refine rn_top (y := .int no) (congrArg Value.int eno) ?_
        refine lv_istore (lv' := [(4, .int no), (3, .int lo), (2, .int 0), (0, .ref h0), (1, .int (nI X))]) hx hb dL_refuses_57 hl (by decide) rfl (fun ls hl => ?_)
        refine lv_iload_n hx hb dL_refuses_59 rfl (lv_at hl 2 rfl) ?_
        refine lv_if_eq (tgt := 72) hx hb dL_refuses_60 (by decide) (fun c_60 => ?_) (fun c_60 => ?_)
        · refine lv_aload_n hx hb dL_refuses_72 rfl (lv_at hl 3 rfl) ?_
          refine rn_cV (As := []) (rest := []) 0 hx hb hml hown hts hG (c_files l hV hC ) gL_refuses_X4_files rfl ⟨rfl, rfl⟩ (by decide +kernel) ⟨Nat.le_of_ble_eq_true rfl, Nat.le_of_ble_eq_true rfl⟩ hF (hF _ _ hC.1.1) rfl rfl hl.1 rfl (Nat.le_of_ble_eq_true rfl) ⟨Nat.le_of_ble_eq_true rfl, Nat.le_of_ble_eq_true rfl⟩ dL_refuses_73 ?_
          refine W.eq (g2 := F0 m 76 ls [.int (nI σ.fn)]) rfl ?_
          refine lv_iload_n hx hb dL_refuses_76 rfl (lv_at hl 4 rfl) ?_
          refine lv_bipush (v := 50) hx hb dL_refuses_77 (by decide +kernel) ?_
          refine lv_irem hx hb dL_refuses_79 (by decide) ?_
          refine rn_top (y := .int (nI (X % 50))) (congrArg Value.int (pk_rem (d := 50) (by omega) (by decide) (by decide))) ?_
          refine lv_iadd hx hb dL_refuses_80 ?_
          obtain ⟨go, ego, hgo⟩ : ∃ v : Int32, (nI σ.fn) + (nI (X % 50)) = v ∧ ¬ ∃ i, i < σ.fn ∧ v = nI i := ⟨_, rfl, rn_noHigh (by omega) (by omega)⟩
          refine rn_top (y := .int go) (congrArg Value.int ego) ?_
          refine lv_istore (lv' := [(5, .int go), (4, .int no), (3, .int lo), (2, .int 0), (0, .ref h0), (1, .int (nI X))]) hx hb dL_refuses_81 hl (by decide) rfl (fun ls hl => ?_)
          refine lv_iload_n hx hb dL_refuses_83 rfl (lv_at hl 3 rfl) ?_
          refine lv_if_eq (tgt := 96) hx hb dL_refuses_84 (by decide) (fun c_84 => ?_) (fun c_84 => ?_)
          · refine lv_sipush (v := 999) hx hb dL_refuses_96 (by decide +kernel) ?_
            refine lv_iload_n hx hb dL_refuses_99 rfl (lv_at hl 5 rfl) ?_
            refine lv_bipush (v := 50) hx hb dL_refuses_100 (by decide +kernel) ?_
            refine lv_irem hx hb dL_refuses_102 (by decide) ?_
            refine rn_top (y := .int (nI (X % 50))) (congrArg Value.int (pk_rem (d := 50) (by omega) (by decide) (by decide))) ?_
            refine lv_iadd hx hb dL_refuses_103 ?_
            obtain ⟨od, eod, hod⟩ : ∃ v : Int32, 999 + (nI (X % 50)) = v ∧ (v < 0 ∨ nI 998 < v) := ⟨_, rfl, Or.inr (by rw [show (999 : Int32) = nI 999 from rfl, nI_add]; exact (nI_ltI (by omega) (by omega)).mpr (by omega))⟩
            refine rn_top (y := .int od) (congrArg Value.int eod) ?_
            refine lv_istore (lv' := [(6, .int od), (5, .int go), (4, .int no), (3, .int lo), (2, .int 0), (0, .ref h0), (1, .int (nI X))]) hx hb dL_refuses_104 hl (by decide) rfl (fun ls hl => ?_)
            refine W.widen (k := 0) (n := 0) (Nat.le_of_ble_eq_true rfl) (Nat.le_of_ble_eq_true rfl) ?_
            exact t106 _ _ _ _ _ _ _ ls hlo hno hgo hod hF hS (lv_sub hl [0, 1, 2, 3, 4, 5, 6] rfl)
          · exact absurd c_84 (by decide)
        · exact absurd c_60 (by decide)
      · exact absurd c_36 (by decide)
    · exact absurd c_13 (by decide)
  · refine lv_iconst (v := 1) hx hb dL_refuses_6 (by decide) ?_
    refine lv_goto (tgt := 11) hx hb dL_refuses_7 (by decide) ?_
    refine lv_istore_n (lv' := [(2, .int 1), (0, .ref h0), (1, .int (nI X))]) hx hb dL_refuses_11 rfl hl (by decide) rfl (fun ls hl => ?_)
    refine lv_iload_n hx hb dL_refuses_12 rfl (lv_at hl 0 rfl) ?_
    refine lv_if_eq (tgt := 25) hx hb dL_refuses_13 (by decide) (fun c_13 => ?_) (fun c_13 => ?_)
    · exact absurd c_13 (by decide)
    · refine lv_iconst (v := (-1)) hx hb dL_refuses_16 (by decide) ?_
      refine lv_iload_n hx hb dL_refuses_17 rfl (lv_at hl 2 rfl) ?_
      refine lv_bipush (v := 50) hx hb dL_refuses_18 (by decide +kernel) ?_
      refine lv_irem hx hb dL_refuses_20 (by decide) ?_
      refine rn_top (y := .int (nI (X % 50))) (congrArg Value.int (pk_rem (d := 50) (by omega) (by decide) (by decide))) ?_
      refine lv_isub hx hb dL_refuses_21 ?_
      refine lv_goto (tgt := 34) hx hb dL_refuses_22 (by decide) ?_
      obtain ⟨lo, elo, hlo⟩ : ∃ v : Int32, (-1) - (nI (X % 50)) = v ∧ ¬ ∃ i, i < σ.sn ∧ v = nI i := ⟨_, rfl, rn_noLow (by omega) (rn_neg (by omega))⟩
      refine rn_top (y := .int lo) (congrArg Value.int elo) ?_
      refine lv_istore_n (lv' := [(3, .int lo), (2, .int 1), (0, .ref h0), (1, .int (nI X))]) hx hb dL_refuses_34 rfl hl (by decide) rfl (fun ls hl => ?_)
      refine lv_iload_n hx hb dL_refuses_35 rfl (lv_at hl 1 rfl) ?_
      refine lv_if_eq (tgt := 48) hx hb dL_refuses_36 (by decide) (fun c_36 => ?_) (fun c_36 => ?_)
      · exact absurd c_36 (by decide)
      · refine lv_iconst (v := (-1)) hx hb dL_refuses_39 (by decide) ?_
        refine lv_iload_n hx hb dL_refuses_40 rfl (lv_at hl 3 rfl) ?_
        refine lv_bipush (v := 50) hx hb dL_refuses_41 (by decide +kernel) ?_
        refine lv_irem hx hb dL_refuses_43 (by decide) ?_
        refine rn_top (y := .int (nI (X % 50))) (congrArg Value.int (pk_rem (d := 50) (by omega) (by decide) (by decide))) ?_
        refine lv_isub hx hb dL_refuses_44 ?_
        refine lv_goto (tgt := 57) hx hb dL_refuses_45 (by decide) ?_
        obtain ⟨no, eno, hno⟩ : ∃ v : Int32, (-1) - (nI (X % 50)) = v ∧ ¬ ∃ i, i < σ.pn ∧ v = nI i := ⟨_, rfl, rn_noLow (by omega) (rn_neg (by omega))⟩
        refine rn_top (y := .int no) (congrArg Value.int eno) ?_
        refine lv_istore (lv' := [(4, .int no), (3, .int lo), (2, .int 1), (0, .ref h0), (1, .int (nI X))]) hx hb dL_refuses_57 hl (by decide) rfl (fun ls hl => ?_)
        refine lv_iload_n hx hb dL_refuses_59 rfl (lv_at hl 2 rfl) ?_
        refine lv_if_eq (tgt := 72) hx hb dL_refuses_60 (by decide) (fun c_60 => ?_) (fun c_60 => ?_)
        · exact absurd c_60 (by decide)
        · refine lv_iconst (v := (-1)) hx hb dL_refuses_63 (by decide) ?_
          refine lv_iload_n hx hb dL_refuses_64 rfl (lv_at hl 4 rfl) ?_
          refine lv_bipush (v := 50) hx hb dL_refuses_65 (by decide +kernel) ?_
          refine lv_irem hx hb dL_refuses_67 (by decide) ?_
          refine rn_top (y := .int (nI (X % 50))) (congrArg Value.int (pk_rem (d := 50) (by omega) (by decide) (by decide))) ?_
          refine lv_isub hx hb dL_refuses_68 ?_
          refine lv_goto (tgt := 81) hx hb dL_refuses_69 (by decide) ?_
          obtain ⟨go, ego, hgo⟩ : ∃ v : Int32, (-1) - (nI (X % 50)) = v ∧ ¬ ∃ i, i < σ.fn ∧ v = nI i := ⟨_, rfl, rn_noLow (by omega) (rn_neg (by omega))⟩
          refine rn_top (y := .int go) (congrArg Value.int ego) ?_
          refine lv_istore (lv' := [(5, .int go), (4, .int no), (3, .int lo), (2, .int 1), (0, .ref h0), (1, .int (nI X))]) hx hb dL_refuses_81 hl (by decide) rfl (fun ls hl => ?_)
          refine lv_iload_n hx hb dL_refuses_83 rfl (lv_at hl 3 rfl) ?_
          refine lv_if_eq (tgt := 96) hx hb dL_refuses_84 (by decide) (fun c_84 => ?_) (fun c_84 => ?_)
          · exact absurd c_84 (by decide)
          · refine lv_iconst (v := (-1)) hx hb dL_refuses_87 (by decide) ?_
            refine lv_iload_n hx hb dL_refuses_88 rfl (lv_at hl 5 rfl) ?_
            refine lv_bipush (v := 50) hx hb dL_refuses_89 (by decide +kernel) ?_
            refine lv_irem hx hb dL_refuses_91 (by decide) ?_
            refine rn_top (y := .int (nI (X % 50))) (congrArg Value.int (pk_rem (d := 50) (by omega) (by decide) (by decide))) ?_
            refine lv_isub hx hb dL_refuses_92 ?_
            refine lv_goto (tgt := 104) hx hb dL_refuses_93 (by decide) ?_
            obtain ⟨od, eod, hod⟩ : ∃ v : Int32, (-1) - (nI (X % 50)) = v ∧ (v < 0 ∨ nI 998 < v) := ⟨_, rfl, Or.inl (rn_neg (by omega))⟩
            refine rn_top (y := .int od) (congrArg Value.int eod) ?_
            refine lv_istore (lv' := [(6, .int od), (5, .int go), (4, .int no), (3, .int lo), (2, .int 1), (0, .ref h0), (1, .int (nI X))]) hx hb dL_refuses_104 hl (by decide) rfl (fun ls hl => ?_)
            refine W.widen (k := 0) (n := 0) (Nat.le_of_ble_eq_true rfl) (Nat.le_of_ble_eq_true rfl) ?_
            exact t106 _ _ _ _ _ _ _ ls hlo hno hgo hod hF hS (lv_sub hl [0, 1, 2, 3, 4, 5, 6] rfl)
