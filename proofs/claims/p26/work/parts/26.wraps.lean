set_option maxHeartbeats 4000000 in
set_option maxRecDepth 100000 in
theorem l_makes_p (l : Launch) (hfl : l.stackTraces = false) {D : va_G} {cR cP cF : ClassId} {h0 aR aP aF : Nat} {ra pa fa : Nat → Nat} {hd : Nat → Option Nat} {dh : Option Nat} {f : rn_T} {σ : rn_St} (hV : rn_V σ) (hC : rn_CI cR cP cF h0 aR aP aF ra pa fa hd dh f σ) {x  : Int32} (hno : ¬ ∃ i, i < σ.pn ∧ x = nI i) (sz : Nat) : rn_LT l yL_makes wsL_makes ({ frames := 8, cells := 1, slots := 6, locals := 140 } : Room) D (rn_tys cR cP cF) (rn_S D f) [.ref h0, .int x] (some (.int (-2000000001))) (rn_S D f) (fun q : Nat => sz ≤ q) 1 6 sz := by
  refine rn_LT.ofW (hh := [(0, 5, 6, 13), (0, 5, 10, 16)]) (cc := cL_makes) (maxL := 3) (ret := (some .int)) (by decide) rfl (Nat.le_of_ble_eq_true rfl) (fun p e s m below meth c ls hx hb hr hml hts hown hlocks hsz hF hG hE htab hS hl => ?_)
  have hl : lv_has ls 3 [(0, .ref h0), (1, .int x)] := hl
  subst hsz
  refine lv_aload_n hx hb dL_makes_0 rfl (lv_at hl 0 rfl) ?_
  refine lv_iload_n hx hb dL_makes_1 rfl (lv_at hl 1 rfl) ?_
  refine rn_xVc (As := [.int x]) (rest := []) (E := rn_IO) 1 hx hb hml hown hts hG hE hS (x_makeRoom_p l hfl hV hC hno _) gL_makes_X4_makeRoom rfl ⟨rfl, rfl⟩ (by decide +kernel) ⟨Nat.le_of_ble_eq_true rfl, Nat.le_of_ble_eq_true rfl⟩ hF (hF _ _ hC.1.1) rfl rfl hl.1 rfl (Nat.le_of_ble_eq_true rfl) ⟨Nat.le_of_ble_eq_true rfl, Nat.le_of_ble_eq_true rfl⟩ dL_makes_2 [] ⟨0, 5, 6, 13⟩ [⟨0, 5, 10, 16⟩] htab (fun z hz => nomatch hz) (by decide) (by decide) (hts _ (by decide +kernel)) (by decide) (fun q9 H h1 h2 hS => ?_)
  refine lv_astore_n (lv' := [(2, .ref q9), (0, .ref h0), (1, .int x)]) hx hb dL_makes_6 rfl hl (by decide) rfl (fun ls hl => ?_)
  refine lv_ldc (v := (-2000000001)) hx hb hown (hts _ kw_L_makes_15) dL_makes_7 ?_
  exact rn_Wiret hx hb hr rfl hlocks hS (by decide) (by decide) rfl (hF.kept (fun q hq => h2 q (hF.lt hq))) dL_makes_9

set_option maxHeartbeats 4000000 in
set_option maxRecDepth 100000 in
theorem l_makes_s (l : Launch) (hfl : l.stackTraces = false) {D : va_G} {cR cP cF : ClassId} {h0 aR aP aF : Nat} {ra pa fa : Nat → Nat} {hd : Nat → Option Nat} {dh : Option Nat} {f : rn_T} {σ : rn_St} (hV : rn_V σ) (hC : rn_CI cR cP cF h0 aR aP aF ra pa fa hd dh f σ) {j : Nat} (hj0 : j < σ.pn) (hfull : σ.sn = 10) (sz : Nat) : rn_LT l yL_makes wsL_makes ({ frames := 8, cells := 1, slots := 6, locals := 140 } : Room) D (rn_tys cR cP cF) (rn_S D f) [.ref h0, .int (nI j)] (some (.int (-2000000003))) (rn_S D f) (fun q : Nat => sz ≤ q) 1 6 sz := by
  refine rn_LT.ofW (hh := [(0, 5, 6, 13), (0, 5, 10, 16)]) (cc := cL_makes) (maxL := 3) (ret := (some .int)) (by decide) rfl (Nat.le_of_ble_eq_true rfl) (fun p e s m below meth c ls hx hb hr hml hts hown hlocks hsz hF hG hE htab hS hl => ?_)
  have hl : lv_has ls 3 [(0, .ref h0), (1, .int (nI j))] := hl
  subst hsz
  refine lv_aload_n hx hb dL_makes_0 rfl (lv_at hl 0 rfl) ?_
  refine lv_iload_n hx hb dL_makes_1 rfl (lv_at hl 1 rfl) ?_
  refine rn_xVc (As := [.int (nI j)]) (rest := []) (E := rn_IS) 1 hx hb hml hown hts hG hE hS (x_makeRoom_s l hfl hV hC hj0 hfull _) gL_makes_X4_makeRoom rfl ⟨rfl, rfl⟩ (by decide +kernel) ⟨Nat.le_of_ble_eq_true rfl, Nat.le_of_ble_eq_true rfl⟩ hF (hF _ _ hC.1.1) rfl rfl hl.1 rfl (Nat.le_of_ble_eq_true rfl) ⟨Nat.le_of_ble_eq_true rfl, Nat.le_of_ble_eq_true rfl⟩ dL_makes_2 [⟨0, 5, 6, 13⟩] ⟨0, 5, 10, 16⟩ [] htab (fun z hz => by rw [List.mem_singleton.mp hz]; exact Or.inr ⟨(by decide : 13 ≠ 0), rn_IO, hts _ (by decide +kernel), hE.2.2.1 (rn_IS, rn_IO) (by decide)⟩) (by decide) (by decide) (hts _ (by decide +kernel)) (by decide) (fun q9 H h1 h2 hS => ?_)
  refine lv_astore_n (lv' := [(2, .ref q9), (0, .ref h0), (1, .int (nI j))]) hx hb dL_makes_10 rfl hl (by decide) rfl (fun ls hl => ?_)
  refine lv_ldc (v := (-2000000003)) hx hb hown (hts _ kw_L_makes_18) dL_makes_11 ?_
  exact rn_Wiret hx hb hr rfl hlocks hS (by decide) (by decide) rfl (hF.kept (fun q hq => h2 q (hF.lt hq))) dL_makes_13

set_option maxHeartbeats 4000000 in
set_option maxRecDepth 100000 in
theorem l_makes_o (l : Launch) {D : va_G} {cR cP cF : ClassId} {h0 aR aP aF : Nat} {ra pa fa : Nat → Nat} {hd : Nat → Option Nat} {dh : Option Nat} {f : rn_T} {σ : rn_St} (hV : rn_V σ) (hC : rn_CI cR cP cF h0 aR aP aF ra pa fa hd dh f σ) {j : Nat} (hj0 : j < σ.pn) (hn0 : σ.sn < 10) (sz : Nat) : rn_W l yL_makes wsL_makes ({ frames := 8, cells := 1, slots := 6, locals := 140 } : Room) D (rn_tys cR cP cF) (rn_S D f) [.ref h0, .int (nI j)] (some (.int (nI σ.sn))) (rn_P D cR cP cF h0 f sz (rn_addRoom σ j)) (rn_A f sz) 1 6 sz := by
  refine rn_W.ofH (hh := [(0, 5, 6, 13), (0, 5, 10, 16)]) (cc := cL_makes) (maxL := 3) (ret := (some .int)) (by decide) rfl (Nat.le_of_ble_eq_true rfl) (fun p e s m below meth c ls hx hb hr hml hts hown hlocks hsz hF hG hS hl => ?_)
  have hl : lv_has ls 3 [(0, .ref h0), (1, .int (nI j))] := hl
  subst hsz
  refine lv_aload_n hx hb dL_makes_0 rfl (lv_at hl 0 rfl) ?_
  refine lv_iload_n hx hb dL_makes_1 rfl (lv_at hl 1 rfl) ?_
  refine rn_wV (As := [.int (nI j)]) (rest := []) 1 hx hb hml hown hts hG hS (w_makeRoom l hV hC hj0 hn0 _) (fun q h => h) gL_makes_X4_makeRoom rfl ⟨rfl, rfl⟩ (by decide +kernel) ⟨Nat.le_of_ble_eq_true rfl, Nat.le_of_ble_eq_true rfl⟩ hF (hF _ _ hC.1.1) rfl rfl hl.1 rfl (Nat.le_of_ble_eq_true rfl) ⟨Nat.le_of_ble_eq_true rfl, Nat.le_of_ble_eq_true rfl⟩ dL_makes_2 (fun H locs hP1 hz hk hS => ?_)
  refine W.eq (g2 := F0 m 5 ls [.int (nI σ.sn)]) rfl ?_
  exact rn_Wiret hx hb hr rfl hlocks hS (by decide) (by decide) rfl hP1 dL_makes_5

set_option maxHeartbeats 4000000 in
set_option maxRecDepth 100000 in
theorem l_lines_1 (l : Launch) (hfl : l.stackTraces = false) {D : va_G} {cR cP cF : ClassId} {h0 aR aP aF : Nat} {ra pa fa : Nat → Nat} {hd : Nat → Option Nat} {dh : Option Nat} {f : rn_T} {σ : rn_St} (hV : rn_V σ) (hC : rn_CI cR cP cF h0 aR aP aF ra pa fa hd dh f σ) {x e1 e2 : Int32} (hbad : x < 0 ∨ nI 998 < x) (sz : Nat) : rn_LT l yL_lines wsL_lines ({ frames := 8, cells := 1, slots := 6, locals := 140 } : Room) D (rn_tys cR cP cF) (rn_S D f) [.ref h0, .int x, .int e1, .int e2] (some (.int (-2000000002))) (rn_S D f) (fun q : Nat => sz ≤ q) 1 6 sz := by
  refine rn_LT.ofW (hh := [(0, 7, 8, 23), (0, 7, 13, 16)]) (cc := cL_lines) (maxL := 5) (ret := (some .int)) (by decide) rfl (Nat.le_of_ble_eq_true rfl) (fun p e s m below meth c ls hx hb hr hml hts hown hlocks hsz hF hG hE htab hS hl => ?_)
  have hl : lv_has ls 5 [(0, .ref h0), (1, .int x), (2, .int e1), (3, .int e2)] := hl
  subst hsz
  refine lv_aload_n hx hb dL_lines_0 rfl (lv_at hl 0 rfl) ?_
  refine lv_iload_n hx hb dL_lines_1 rfl (lv_at hl 1 rfl) ?_
  refine lv_iload_n hx hb dL_lines_2 rfl (lv_at hl 2 rfl) ?_
  refine lv_iload_n hx hb dL_lines_3 rfl (lv_at hl 3 rfl) ?_
  refine rn_xVc (As := [.int x, .int e1, .int e2]) (rest := []) (E := rn_IA) 3 hx hb hml hown hts hG hE hS (x_line_1 l hfl hV hC hbad _) gL_lines_X4_line rfl ⟨rfl, rfl⟩ (by decide +kernel) ⟨Nat.le_of_ble_eq_true rfl, Nat.le_of_ble_eq_true rfl⟩ hF (hF _ _ hC.1.1) rfl rfl hl.1 rfl (Nat.le_of_ble_eq_true rfl) ⟨Nat.le_of_ble_eq_true rfl, Nat.le_of_ble_eq_true rfl⟩ dL_lines_4 [] ⟨0, 7, 8, 23⟩ [⟨0, 7, 13, 16⟩] htab (fun z hz => nomatch hz) (by decide) (by decide) (hts _ (by decide +kernel)) (by decide) (fun q9 H h1 h2 hS => ?_)
  refine lv_astore (lv' := [(4, .ref q9), (0, .ref h0), (1, .int x), (2, .int e1), (3, .int e2)]) hx hb dL_lines_8 hl (by decide) rfl (fun ls hl => ?_)
  refine lv_ldc (v := (-2000000002)) hx hb hown (hts _ kw_L_lines_25) dL_lines_10 ?_
  exact rn_Wiret hx hb hr rfl hlocks hS (by decide) (by decide) rfl (hF.kept (fun q hq => h2 q (hF.lt hq))) dL_lines_12

set_option maxHeartbeats 4000000 in
set_option maxRecDepth 100000 in
theorem l_lines_2 (l : Launch) (hfl : l.stackTraces = false) {D : va_G} {cR cP cF : ClassId} {h0 aR aP aF : Nat} {ra pa fa : Nat → Nat} {hd : Nat → Option Nat} {dh : Option Nat} {f : rn_T} {σ : rn_St} (hV : rn_V σ) (hC : rn_CI cR cP cF h0 aR aP aF ra pa fa hd dh f σ) {a : Nat} (ha0 : a ≤ 998) {x e2 : Int32} (hbad : x < 0 ∨ nI 998 < x) (sz : Nat) : rn_LT l yL_lines wsL_lines ({ frames := 8, cells := 1, slots := 6, locals := 140 } : Room) D (rn_tys cR cP cF) (rn_S D f) [.ref h0, .int (nI a), .int x, .int e2] (some (.int (-2000000002))) (rn_S D f) (fun q : Nat => sz ≤ q) 1 6 sz := by
  refine rn_LT.ofW (hh := [(0, 7, 8, 23), (0, 7, 13, 16)]) (cc := cL_lines) (maxL := 5) (ret := (some .int)) (by decide) rfl (Nat.le_of_ble_eq_true rfl) (fun p e s m below meth c ls hx hb hr hml hts hown hlocks hsz hF hG hE htab hS hl => ?_)
  have hl : lv_has ls 5 [(0, .ref h0), (1, .int (nI a)), (2, .int x), (3, .int e2)] := hl
  subst hsz
  refine lv_aload_n hx hb dL_lines_0 rfl (lv_at hl 0 rfl) ?_
  refine lv_iload_n hx hb dL_lines_1 rfl (lv_at hl 1 rfl) ?_
  refine lv_iload_n hx hb dL_lines_2 rfl (lv_at hl 2 rfl) ?_
  refine lv_iload_n hx hb dL_lines_3 rfl (lv_at hl 3 rfl) ?_
  refine rn_xVc (As := [.int (nI a), .int x, .int e2]) (rest := []) (E := rn_IA) 3 hx hb hml hown hts hG hE hS (x_line_2 l hfl hV hC ha0 hbad _) gL_lines_X4_line rfl ⟨rfl, rfl⟩ (by decide +kernel) ⟨Nat.le_of_ble_eq_true rfl, Nat.le_of_ble_eq_true rfl⟩ hF (hF _ _ hC.1.1) rfl rfl hl.1 rfl (Nat.le_of_ble_eq_true rfl) ⟨Nat.le_of_ble_eq_true rfl, Nat.le_of_ble_eq_true rfl⟩ dL_lines_4 [] ⟨0, 7, 8, 23⟩ [⟨0, 7, 13, 16⟩] htab (fun z hz => nomatch hz) (by decide) (by decide) (hts _ (by decide +kernel)) (by decide) (fun q9 H h1 h2 hS => ?_)
  refine lv_astore (lv' := [(4, .ref q9), (0, .ref h0), (1, .int (nI a)), (2, .int x), (3, .int e2)]) hx hb dL_lines_8 hl (by decide) rfl (fun ls hl => ?_)
  refine lv_ldc (v := (-2000000002)) hx hb hown (hts _ kw_L_lines_25) dL_lines_10 ?_
  exact rn_Wiret hx hb hr rfl hlocks hS (by decide) (by decide) rfl (hF.kept (fun q hq => h2 q (hF.lt hq))) dL_lines_12

set_option maxHeartbeats 4000000 in
set_option maxRecDepth 100000 in
theorem l_lines_3 (l : Launch) (hfl : l.stackTraces = false) {D : va_G} {cR cP cF : ClassId} {h0 aR aP aF : Nat} {ra pa fa : Nat → Nat} {hd : Nat → Option Nat} {dh : Option Nat} {f : rn_T} {σ : rn_St} (hV : rn_V σ) (hC : rn_CI cR cP cF h0 aR aP aF ra pa fa hd dh f σ) {a b : Nat} (ha0 : a ≤ 998) (hb0 : b ≤ 998) {x : Int32} (hbad : x < 1 ∨ nI 999 < x) (sz : Nat) : rn_LT l yL_lines wsL_lines ({ frames := 8, cells := 1, slots := 6, locals := 140 } : Room) D (rn_tys cR cP cF) (rn_S D f) [.ref h0, .int (nI a), .int (nI b), .int x] (some (.int (-2000000002))) (rn_S D f) (fun q : Nat => sz ≤ q) 1 6 sz := by
  refine rn_LT.ofW (hh := [(0, 7, 8, 23), (0, 7, 13, 16)]) (cc := cL_lines) (maxL := 5) (ret := (some .int)) (by decide) rfl (Nat.le_of_ble_eq_true rfl) (fun p e s m below meth c ls hx hb hr hml hts hown hlocks hsz hF hG hE htab hS hl => ?_)
  have hl : lv_has ls 5 [(0, .ref h0), (1, .int (nI a)), (2, .int (nI b)), (3, .int x)] := hl
  subst hsz
  refine lv_aload_n hx hb dL_lines_0 rfl (lv_at hl 0 rfl) ?_
  refine lv_iload_n hx hb dL_lines_1 rfl (lv_at hl 1 rfl) ?_
  refine lv_iload_n hx hb dL_lines_2 rfl (lv_at hl 2 rfl) ?_
  refine lv_iload_n hx hb dL_lines_3 rfl (lv_at hl 3 rfl) ?_
  refine rn_xVc (As := [.int (nI a), .int (nI b), .int x]) (rest := []) (E := rn_IA) 3 hx hb hml hown hts hG hE hS (x_line_3 l hfl hV hC ha0 hb0 hbad _) gL_lines_X4_line rfl ⟨rfl, rfl⟩ (by decide +kernel) ⟨Nat.le_of_ble_eq_true rfl, Nat.le_of_ble_eq_true rfl⟩ hF (hF _ _ hC.1.1) rfl rfl hl.1 rfl (Nat.le_of_ble_eq_true rfl) ⟨Nat.le_of_ble_eq_true rfl, Nat.le_of_ble_eq_true rfl⟩ dL_lines_4 [] ⟨0, 7, 8, 23⟩ [⟨0, 7, 13, 16⟩] htab (fun z hz => nomatch hz) (by decide) (by decide) (hts _ (by decide +kernel)) (by decide) (fun q9 H h1 h2 hS => ?_)
  refine lv_astore (lv' := [(4, .ref q9), (0, .ref h0), (1, .int (nI a)), (2, .int (nI b)), (3, .int x)]) hx hb dL_lines_8 hl (by decide) rfl (fun ls hl => ?_)
  refine lv_ldc (v := (-2000000002)) hx hb hown (hts _ kw_L_lines_25) dL_lines_10 ?_
  exact rn_Wiret hx hb hr rfl hlocks hS (by decide) (by decide) rfl (hF.kept (fun q hq => h2 q (hF.lt hq))) dL_lines_12

set_option maxHeartbeats 4000000 in
set_option maxRecDepth 100000 in
theorem l_lines_4 (l : Launch) (hfl : l.stackTraces = false) {D : va_G} {cR cP cF : ClassId} {h0 aR aP aF : Nat} {ra pa fa : Nat → Nat} {hd : Nat → Option Nat} {dh : Option Nat} {f : rn_T} {σ : rn_St} (hV : rn_V σ) (hC : rn_CI cR cP cF h0 aR aP aF ra pa fa hd dh f σ) {a b c9 : Nat} (ha0 : a ≤ 998) (hb0 : b ≤ 998) (hc0 : 1 ≤ c9 ∧ c9 ≤ 999) (hbig : 999 < a + c9) (sz : Nat) : rn_LT l yL_lines wsL_lines ({ frames := 8, cells := 1, slots := 6, locals := 140 } : Room) D (rn_tys cR cP cF) (rn_S D f) [.ref h0, .int (nI a), .int (nI b), .int (nI c9)] (some (.int (-2000000002))) (rn_S D f) (fun q : Nat => sz ≤ q) 1 6 sz := by
  refine rn_LT.ofW (hh := [(0, 7, 8, 23), (0, 7, 13, 16)]) (cc := cL_lines) (maxL := 5) (ret := (some .int)) (by decide) rfl (Nat.le_of_ble_eq_true rfl) (fun p e s m below meth c ls hx hb hr hml hts hown hlocks hsz hF hG hE htab hS hl => ?_)
  have hl : lv_has ls 5 [(0, .ref h0), (1, .int (nI a)), (2, .int (nI b)), (3, .int (nI c9))] := hl
  subst hsz
  refine lv_aload_n hx hb dL_lines_0 rfl (lv_at hl 0 rfl) ?_
  refine lv_iload_n hx hb dL_lines_1 rfl (lv_at hl 1 rfl) ?_
  refine lv_iload_n hx hb dL_lines_2 rfl (lv_at hl 2 rfl) ?_
  refine lv_iload_n hx hb dL_lines_3 rfl (lv_at hl 3 rfl) ?_
  refine rn_xVc (As := [.int (nI a), .int (nI b), .int (nI c9)]) (rest := []) (E := rn_IA) 3 hx hb hml hown hts hG hE hS (x_line_4 l hfl hV hC ha0 hb0 hc0 hbig _) gL_lines_X4_line rfl ⟨rfl, rfl⟩ (by decide +kernel) ⟨Nat.le_of_ble_eq_true rfl, Nat.le_of_ble_eq_true rfl⟩ hF (hF _ _ hC.1.1) rfl rfl hl.1 rfl (Nat.le_of_ble_eq_true rfl) ⟨Nat.le_of_ble_eq_true rfl, Nat.le_of_ble_eq_true rfl⟩ dL_lines_4 [] ⟨0, 7, 8, 23⟩ [⟨0, 7, 13, 16⟩] htab (fun z hz => nomatch hz) (by decide) (by decide) (hts _ (by decide +kernel)) (by decide) (fun q9 H h1 h2 hS => ?_)
  refine lv_astore (lv' := [(4, .ref q9), (0, .ref h0), (1, .int (nI a)), (2, .int (nI b)), (3, .int (nI c9))]) hx hb dL_lines_8 hl (by decide) rfl (fun ls hl => ?_)
  refine lv_ldc (v := (-2000000002)) hx hb hown (hts _ kw_L_lines_25) dL_lines_10 ?_
  exact rn_Wiret hx hb hr rfl hlocks hS (by decide) (by decide) rfl (hF.kept (fun q hq => h2 q (hF.lt hq))) dL_lines_12

set_option maxHeartbeats 4000000 in
set_option maxRecDepth 100000 in
theorem l_lines_5 (l : Launch) (hfl : l.stackTraces = false) {D : va_G} {cR cP cF : ClassId} {h0 aR aP aF : Nat} {ra pa fa : Nat → Nat} {hd : Nat → Option Nat} {dh : Option Nat} {f : rn_T} {σ : rn_St} (hV : rn_V σ) (hC : rn_CI cR cP cF h0 aR aP aF ra pa fa hd dh f σ) {a b c9 : Nat} (ha0 : a ≤ 998) (hb0 : b ≤ 998) (hc0 : 1 ≤ c9 ∧ c9 ≤ 999) (hfit : a + c9 ≤ 999) (hbig : 999 < b + c9) (sz : Nat) : rn_LT l yL_lines wsL_lines ({ frames := 8, cells := 1, slots := 6, locals := 140 } : Room) D (rn_tys cR cP cF) (rn_S D f) [.ref h0, .int (nI a), .int (nI b), .int (nI c9)] (some (.int (-2000000002))) (rn_S D f) (fun q : Nat => sz ≤ q) 1 6 sz := by
  refine rn_LT.ofW (hh := [(0, 7, 8, 23), (0, 7, 13, 16)]) (cc := cL_lines) (maxL := 5) (ret := (some .int)) (by decide) rfl (Nat.le_of_ble_eq_true rfl) (fun p e s m below meth c ls hx hb hr hml hts hown hlocks hsz hF hG hE htab hS hl => ?_)
  have hl : lv_has ls 5 [(0, .ref h0), (1, .int (nI a)), (2, .int (nI b)), (3, .int (nI c9))] := hl
  subst hsz
  refine lv_aload_n hx hb dL_lines_0 rfl (lv_at hl 0 rfl) ?_
  refine lv_iload_n hx hb dL_lines_1 rfl (lv_at hl 1 rfl) ?_
  refine lv_iload_n hx hb dL_lines_2 rfl (lv_at hl 2 rfl) ?_
  refine lv_iload_n hx hb dL_lines_3 rfl (lv_at hl 3 rfl) ?_
  refine rn_xVc (As := [.int (nI a), .int (nI b), .int (nI c9)]) (rest := []) (E := rn_IA) 3 hx hb hml hown hts hG hE hS (x_line_5 l hfl hV hC ha0 hb0 hc0 hfit hbig _) gL_lines_X4_line rfl ⟨rfl, rfl⟩ (by decide +kernel) ⟨Nat.le_of_ble_eq_true rfl, Nat.le_of_ble_eq_true rfl⟩ hF (hF _ _ hC.1.1) rfl rfl hl.1 rfl (Nat.le_of_ble_eq_true rfl) ⟨Nat.le_of_ble_eq_true rfl, Nat.le_of_ble_eq_true rfl⟩ dL_lines_4 [] ⟨0, 7, 8, 23⟩ [⟨0, 7, 13, 16⟩] htab (fun z hz => nomatch hz) (by decide) (by decide) (hts _ (by decide +kernel)) (by decide) (fun q9 H h1 h2 hS => ?_)
  refine lv_astore (lv' := [(4, .ref q9), (0, .ref h0), (1, .int (nI a)), (2, .int (nI b)), (3, .int (nI c9))]) hx hb dL_lines_8 hl (by decide) rfl (fun ls hl => ?_)
  refine lv_ldc (v := (-2000000002)) hx hb hown (hts _ kw_L_lines_25) dL_lines_10 ?_
  exact rn_Wiret hx hb hr rfl hlocks hS (by decide) (by decide) rfl (hF.kept (fun q hq => h2 q (hF.lt hq))) dL_lines_12

set_option maxHeartbeats 4000000 in
set_option maxRecDepth 100000 in
theorem l_lines_s (l : Launch) (hfl : l.stackTraces = false) {D : va_G} {cR cP cF : ClassId} {h0 aR aP aF : Nat} {ra pa fa : Nat → Nat} {hd : Nat → Option Nat} {dh : Option Nat} {f : rn_T} {σ : rn_St} (hV : rn_V σ) (hC : rn_CI cR cP cF h0 aR aP aF ra pa fa hd dh f σ) {a b c9 : Nat} (ha0 : a ≤ 998) (hb0 : b ≤ 998) (hc0 : 1 ≤ c9 ∧ c9 ≤ 999) (hfit : a + c9 ≤ 999) (hfit2 : b + c9 ≤ 999) (hfull : σ.sd.length = 3) (sz : Nat) : rn_LT l yL_lines wsL_lines ({ frames := 8, cells := 1, slots := 6, locals := 140 } : Room) D (rn_tys cR cP cF) (rn_S D f) [.ref h0, .int (nI a), .int (nI b), .int (nI c9)] (some (.int (-2000000003))) (rn_S D f) (fun q : Nat => sz ≤ q) 1 6 sz := by
  refine rn_LT.ofW (hh := [(0, 7, 8, 23), (0, 7, 13, 16)]) (cc := cL_lines) (maxL := 5) (ret := (some .int)) (by decide) rfl (Nat.le_of_ble_eq_true rfl) (fun p e s m below meth c ls hx hb hr hml hts hown hlocks hsz hF hG hE htab hS hl => ?_)
  have hl : lv_has ls 5 [(0, .ref h0), (1, .int (nI a)), (2, .int (nI b)), (3, .int (nI c9))] := hl
  subst hsz
  refine lv_aload_n hx hb dL_lines_0 rfl (lv_at hl 0 rfl) ?_
  refine lv_iload_n hx hb dL_lines_1 rfl (lv_at hl 1 rfl) ?_
  refine lv_iload_n hx hb dL_lines_2 rfl (lv_at hl 2 rfl) ?_
  refine lv_iload_n hx hb dL_lines_3 rfl (lv_at hl 3 rfl) ?_
  refine rn_xVc (As := [.int (nI a), .int (nI b), .int (nI c9)]) (rest := []) (E := rn_IS) 3 hx hb hml hown hts hG hE hS (x_line_s l hfl hV hC ha0 hb0 hc0 hfit hfit2 hfull _) gL_lines_X4_line rfl ⟨rfl, rfl⟩ (by decide +kernel) ⟨Nat.le_of_ble_eq_true rfl, Nat.le_of_ble_eq_true rfl⟩ hF (hF _ _ hC.1.1) rfl rfl hl.1 rfl (Nat.le_of_ble_eq_true rfl) ⟨Nat.le_of_ble_eq_true rfl, Nat.le_of_ble_eq_true rfl⟩ dL_lines_4 [⟨0, 7, 8, 23⟩] ⟨0, 7, 13, 16⟩ [] htab (fun z hz => by rw [List.mem_singleton.mp hz]; exact Or.inr ⟨(by decide : 23 ≠ 0), rn_IA, hts _ (by decide +kernel), hE.2.2.1 (rn_IS, rn_IA) (by decide)⟩) (by decide) (by decide) (hts _ (by decide +kernel)) (by decide) (fun q9 H h1 h2 hS => ?_)
  refine lv_astore (lv' := [(4, .ref q9), (0, .ref h0), (1, .int (nI a)), (2, .int (nI b)), (3, .int (nI c9))]) hx hb dL_lines_13 hl (by decide) rfl (fun ls hl => ?_)
  refine lv_ldc (v := (-2000000003)) hx hb hown (hts _ kw_L_lines_18) dL_lines_15 ?_
  exact rn_Wiret hx hb hr rfl hlocks hS (by decide) (by decide) rfl (hF.kept (fun q hq => h2 q (hF.lt hq))) dL_lines_17

set_option maxHeartbeats 4000000 in
set_option maxRecDepth 100000 in
theorem l_lines_o (l : Launch) {D : va_G} {cR cP cF : ClassId} {h0 aR aP aF : Nat} {ra pa fa : Nat → Nat} {hd : Nat → Option Nat} {dh : Option Nat} {f : rn_T} {σ : rn_St} (hV : rn_V σ) (hC : rn_CI cR cP cF h0 aR aP aF ra pa fa hd dh f σ) {a b c9 : Nat} (ha0 : a ≤ 998) (hb0 : b ≤ 998) (hc0 : 1 ≤ c9 ∧ c9 ≤ 999) (hfit : a + c9 ≤ 999) (hfit2 : b + c9 ≤ 999) (hn0 : σ.sd.length < 3) (sz : Nat) : rn_W l yL_lines wsL_lines ({ frames := 8, cells := 1, slots := 6, locals := 140 } : Room) D (rn_tys cR cP cF) (rn_S D f) [.ref h0, .int (nI a), .int (nI b), .int (nI c9)] (some (.int (nI (σ.sd.length + 1)))) (rn_P D cR cP cF h0 f sz (rn_draft σ ((a, b, c9) :: σ.sd))) (rn_A f sz) 1 6 sz := by
  refine rn_W.ofH (hh := [(0, 7, 8, 23), (0, 7, 13, 16)]) (cc := cL_lines) (maxL := 5) (ret := (some .int)) (by decide) rfl (Nat.le_of_ble_eq_true rfl) (fun p e s m below meth c ls hx hb hr hml hts hown hlocks hsz hF hG hS hl => ?_)
  have hl : lv_has ls 5 [(0, .ref h0), (1, .int (nI a)), (2, .int (nI b)), (3, .int (nI c9))] := hl
  subst hsz
  refine lv_aload_n hx hb dL_lines_0 rfl (lv_at hl 0 rfl) ?_
  refine lv_iload_n hx hb dL_lines_1 rfl (lv_at hl 1 rfl) ?_
  refine lv_iload_n hx hb dL_lines_2 rfl (lv_at hl 2 rfl) ?_
  refine lv_iload_n hx hb dL_lines_3 rfl (lv_at hl 3 rfl) ?_
  refine rn_wV (As := [.int (nI a), .int (nI b), .int (nI c9)]) (rest := []) 3 hx hb hml hown hts hG hS (w_line l hV hC ha0 hb0 hc0 hfit hfit2 hn0 _) (fun q h => h) gL_lines_X4_line rfl ⟨rfl, rfl⟩ (by decide +kernel) ⟨Nat.le_of_ble_eq_true rfl, Nat.le_of_ble_eq_true rfl⟩ hF (hF _ _ hC.1.1) rfl rfl hl.1 rfl (Nat.le_of_ble_eq_true rfl) ⟨Nat.le_of_ble_eq_true rfl, Nat.le_of_ble_eq_true rfl⟩ dL_lines_4 (fun H locs hP1 hz hk hS => ?_)
  refine W.eq (g2 := F0 m 7 ls [.int (nI (σ.sd.length + 1))]) rfl ?_
  exact rn_Wiret hx hb hr rfl hlocks hS (by decide) (by decide) rfl hP1 dL_lines_7

set_option maxHeartbeats 4000000 in
set_option maxRecDepth 100000 in
theorem l_writes_p (l : Launch) (hfl : l.stackTraces = false) {D : va_G} {cR cP cF : ClassId} {h0 aR aP aF : Nat} {ra pa fa : Nat → Nat} {hd : Nat → Option Nat} {dh : Option Nat} {f : rn_T} {σ : rn_St} (hV : rn_V σ) (hC : rn_CI cR cP cF h0 aR aP aF ra pa fa hd dh f σ) {x e1 : Int32} (hno : ¬ ∃ i, i < σ.pn ∧ x = nI i) (sz : Nat) : rn_LT l yL_writes wsL_writes ({ frames := 8, cells := 1, slots := 6, locals := 140 } : Room) D (rn_tys cR cP cF) (rn_S D f) [.ref h0, .int x, .int e1] (some (.int (-2000000001))) (rn_S D f) (fun q : Nat => sz ≤ q) 1 6 sz := by
  refine rn_LT.ofW (hh := [(0, 6, 7, 13)]) (cc := cL_writes) (maxL := 4) (ret := (some .int)) (by decide) rfl (Nat.le_of_ble_eq_true rfl) (fun p e s m below meth c ls hx hb hr hml hts hown hlocks hsz hF hG hE htab hS hl => ?_)
  have hl : lv_has ls 4 [(0, .ref h0), (1, .int x), (2, .int e1)] := hl
  subst hsz
  refine lv_aload_n hx hb dL_writes_0 rfl (lv_at hl 0 rfl) ?_
  refine lv_iload_n hx hb dL_writes_1 rfl (lv_at hl 1 rfl) ?_
  refine lv_iload_n hx hb dL_writes_2 rfl (lv_at hl 2 rfl) ?_
  refine rn_xVc (As := [.int x, .int e1]) (rest := []) (E := rn_IO) 2 hx hb hml hown hts hG hE hS (x_writeMap_p l hfl hV hC hno _) gL_writes_X4_writeMap rfl ⟨rfl, rfl⟩ (by decide +kernel) ⟨Nat.le_of_ble_eq_true rfl, Nat.le_of_ble_eq_true rfl⟩ hF (hF _ _ hC.1.1) rfl rfl hl.1 rfl (Nat.le_of_ble_eq_true rfl) ⟨Nat.le_of_ble_eq_true rfl, Nat.le_of_ble_eq_true rfl⟩ dL_writes_3 [] ⟨0, 6, 7, 13⟩ [] htab (fun z hz => nomatch hz) (by decide) (by decide) (hts _ (by decide +kernel)) (by decide) (fun q9 H h1 h2 hS => ?_)
  refine lv_astore_n (lv' := [(3, .ref q9), (0, .ref h0), (1, .int x), (2, .int e1)]) hx hb dL_writes_7 rfl hl (by decide) rfl (fun ls hl => ?_)
  refine lv_ldc (v := (-2000000001)) hx hb hown (hts _ kw_L_writes_15) dL_writes_8 ?_
  exact rn_Wiret hx hb hr rfl hlocks hS (by decide) (by decide) rfl (hF.kept (fun q hq => h2 q (hF.lt hq))) dL_writes_10

set_option maxHeartbeats 4000000 in
set_option maxRecDepth 100000 in
theorem l_writes_r (l : Launch) (hfl : l.stackTraces = false) {D : va_G} {cR cP cF : ClassId} {h0 aR aP aF : Nat} {ra pa fa : Nat → Nat} {hd : Nat → Option Nat} {dh : Option Nat} {f : rn_T} {σ : rn_St} (hV : rn_V σ) (hC : rn_CI cR cP cF h0 aR aP aF ra pa fa hd dh f σ) {j : Nat} (hj0 : j < σ.pn) {x : Int32} (hno : ¬ ∃ i, i < σ.sn ∧ x = nI i) (sz : Nat) : rn_LT l yL_writes wsL_writes ({ frames := 8, cells := 1, slots := 6, locals := 140 } : Room) D (rn_tys cR cP cF) (rn_S D f) [.ref h0, .int (nI j), .int x] (some (.int (-2000000001))) (rn_S D f) (fun q : Nat => sz ≤ q) 1 6 sz := by
  refine rn_LT.ofW (hh := [(0, 6, 7, 13)]) (cc := cL_writes) (maxL := 4) (ret := (some .int)) (by decide) rfl (Nat.le_of_ble_eq_true rfl) (fun p e s m below meth c ls hx hb hr hml hts hown hlocks hsz hF hG hE htab hS hl => ?_)
  have hl : lv_has ls 4 [(0, .ref h0), (1, .int (nI j)), (2, .int x)] := hl
  subst hsz
  refine lv_aload_n hx hb dL_writes_0 rfl (lv_at hl 0 rfl) ?_
  refine lv_iload_n hx hb dL_writes_1 rfl (lv_at hl 1 rfl) ?_
  refine lv_iload_n hx hb dL_writes_2 rfl (lv_at hl 2 rfl) ?_
  refine rn_xVc (As := [.int (nI j), .int x]) (rest := []) (E := rn_IO) 2 hx hb hml hown hts hG hE hS (x_writeMap_r l hfl hV hC hj0 hno _) gL_writes_X4_writeMap rfl ⟨rfl, rfl⟩ (by decide +kernel) ⟨Nat.le_of_ble_eq_true rfl, Nat.le_of_ble_eq_true rfl⟩ hF (hF _ _ hC.1.1) rfl rfl hl.1 rfl (Nat.le_of_ble_eq_true rfl) ⟨Nat.le_of_ble_eq_true rfl, Nat.le_of_ble_eq_true rfl⟩ dL_writes_3 [] ⟨0, 6, 7, 13⟩ [] htab (fun z hz => nomatch hz) (by decide) (by decide) (hts _ (by decide +kernel)) (by decide) (fun q9 H h1 h2 hS => ?_)
  refine lv_astore_n (lv' := [(3, .ref q9), (0, .ref h0), (1, .int (nI j)), (2, .int x)]) hx hb dL_writes_7 rfl hl (by decide) rfl (fun ls hl => ?_)
  refine lv_ldc (v := (-2000000001)) hx hb hown (hts _ kw_L_writes_15) dL_writes_8 ?_
  exact rn_Wiret hx hb hr rfl hlocks hS (by decide) (by decide) rfl (hF.kept (fun q hq => h2 q (hF.lt hq))) dL_writes_10

set_option maxHeartbeats 4000000 in
set_option maxRecDepth 100000 in
theorem l_writes_0 (l : Launch) (hfl : l.stackTraces = false) {D : va_G} {cR cP cF : ClassId} {h0 aR aP aF : Nat} {ra pa fa : Nat → Nat} {hd : Nat → Option Nat} {dh : Option Nat} {f : rn_T} {σ : rn_St} (hV : rn_V σ) (hC : rn_CI cR cP cF h0 aR aP aF ra pa fa hd dh f σ) {j : Nat} (hj0 : j < σ.pn) (sz : Nat) : rn_LT l yL_writes wsL_writes ({ frames := 8, cells := 1, slots := 6, locals := 140 } : Room) D (rn_tys cR cP cF) (rn_S D f) [.ref h0, .int (nI j), .int (nI 0)] (some (.int (-2000000001))) (rn_S D f) (fun q : Nat => sz ≤ q) 1 6 sz := by
  refine rn_LT.ofW (hh := [(0, 6, 7, 13)]) (cc := cL_writes) (maxL := 4) (ret := (some .int)) (by decide) rfl (Nat.le_of_ble_eq_true rfl) (fun p e s m below meth c ls hx hb hr hml hts hown hlocks hsz hF hG hE htab hS hl => ?_)
  have hl : lv_has ls 4 [(0, .ref h0), (1, .int (nI j)), (2, .int (nI 0))] := hl
  subst hsz
  refine lv_aload_n hx hb dL_writes_0 rfl (lv_at hl 0 rfl) ?_
  refine lv_iload_n hx hb dL_writes_1 rfl (lv_at hl 1 rfl) ?_
  refine lv_iload_n hx hb dL_writes_2 rfl (lv_at hl 2 rfl) ?_
  refine rn_xVc (As := [.int (nI j), .int (nI 0)]) (rest := []) (E := rn_IO) 2 hx hb hml hown hts hG hE hS (x_writeMap_0 l hfl hV hC hj0 _) gL_writes_X4_writeMap rfl ⟨rfl, rfl⟩ (by decide +kernel) ⟨Nat.le_of_ble_eq_true rfl, Nat.le_of_ble_eq_true rfl⟩ hF (hF _ _ hC.1.1) rfl rfl hl.1 rfl (Nat.le_of_ble_eq_true rfl) ⟨Nat.le_of_ble_eq_true rfl, Nat.le_of_ble_eq_true rfl⟩ dL_writes_3 [] ⟨0, 6, 7, 13⟩ [] htab (fun z hz => nomatch hz) (by decide) (by decide) (hts _ (by decide +kernel)) (by decide) (fun q9 H h1 h2 hS => ?_)
  refine lv_astore_n (lv' := [(3, .ref q9), (0, .ref h0), (1, .int (nI j)), (2, .int (nI 0))]) hx hb dL_writes_7 rfl hl (by decide) rfl (fun ls hl => ?_)
  refine lv_ldc (v := (-2000000001)) hx hb hown (hts _ kw_L_writes_15) dL_writes_8 ?_
  exact rn_Wiret hx hb hr rfl hlocks hS (by decide) (by decide) rfl (hF.kept (fun q hq => h2 q (hF.lt hq))) dL_writes_10

set_option maxHeartbeats 4000000 in
set_option maxRecDepth 100000 in
theorem l_writes_o (l : Launch) {D : va_G} {cR cP cF : ClassId} {h0 aR aP aF : Nat} {ra pa fa : Nat → Nat} {hd : Nat → Option Nat} {dh : Option Nat} {f : rn_T} {σ : rn_St} (hV : rn_V σ) (hC : rn_CI cR cP cF h0 aR aP aF ra pa fa hd dh f σ) {j i : Nat} (hj0 : j < σ.pn) (hi0 : i < σ.sn) (hi9 : i ≠ 0) (sz : Nat) : rn_W l yL_writes wsL_writes ({ frames := 8, cells := 1, slots := 6, locals := 140 } : Room) D (rn_tys cR cP cF) (rn_S D f) [.ref h0, .int (nI j), .int (nI i)] (some (.int ((rn_o_writeMap σ j i).1))) (rn_P D cR cP cF h0 f sz ((rn_o_writeMap σ j i).2)) (rn_A f sz) 1 6 sz := by
  refine rn_W.ofH (hh := [(0, 6, 7, 13)]) (cc := cL_writes) (maxL := 4) (ret := (some .int)) (by decide) rfl (Nat.le_of_ble_eq_true rfl) (fun p e s m below meth c ls hx hb hr hml hts hown hlocks hsz hF hG hS hl => ?_)
  have hl : lv_has ls 4 [(0, .ref h0), (1, .int (nI j)), (2, .int (nI i))] := hl
  subst hsz
  refine lv_aload_n hx hb dL_writes_0 rfl (lv_at hl 0 rfl) ?_
  refine lv_iload_n hx hb dL_writes_1 rfl (lv_at hl 1 rfl) ?_
  refine lv_iload_n hx hb dL_writes_2 rfl (lv_at hl 2 rfl) ?_
  refine rn_wV (As := [.int (nI j), .int (nI i)]) (rest := []) 2 hx hb hml hown hts hG hS (w_writeMap l hV hC hj0 hi0 hi9 _) (fun q h => h) gL_writes_X4_writeMap rfl ⟨rfl, rfl⟩ (by decide +kernel) ⟨Nat.le_of_ble_eq_true rfl, Nat.le_of_ble_eq_true rfl⟩ hF (hF _ _ hC.1.1) rfl rfl hl.1 rfl (Nat.le_of_ble_eq_true rfl) ⟨Nat.le_of_ble_eq_true rfl, Nat.le_of_ble_eq_true rfl⟩ dL_writes_3 (fun H locs hP1 hz hk hS => ?_)
  refine W.eq (g2 := F0 m 6 ls [.int ((rn_o_writeMap σ j i).1)]) rfl ?_
  exact rn_Wiret hx hb hr rfl hlocks hS (by decide) (by decide) rfl hP1 dL_writes_6

set_option maxHeartbeats 4000000 in
set_option maxRecDepth 100000 in
theorem l_outer_r (l : Launch) (hfl : l.stackTraces = false) {D : va_G} {cR cP cF : ClassId} {h0 aR aP aF : Nat} {ra pa fa : Nat → Nat} {hd : Nat → Option Nat} {dh : Option Nat} {f : rn_T} {σ : rn_St} (hV : rn_V σ) (hC : rn_CI cR cP cF h0 aR aP aF ra pa fa hd dh f σ) {x  : Int32} (hno : ¬ ∃ i, i < σ.sn ∧ x = nI i) (sz : Nat) : rn_LT l yL_outer wsL_outer ({ frames := 8, cells := 1, slots := 6, locals := 140 } : Room) D (rn_tys cR cP cF) (rn_S D f) [.ref h0, .int x] (some (.int (-2000000001))) (rn_S D f) (fun q : Nat => sz ≤ q) 1 6 sz := by
  refine rn_LT.ofW (hh := [(0, 5, 6, 13)]) (cc := cL_outer) (maxL := 3) (ret := (some .int)) (by decide) rfl (Nat.le_of_ble_eq_true rfl) (fun p e s m below meth c ls hx hb hr hml hts hown hlocks hsz hF hG hE htab hS hl => ?_)
  have hl : lv_has ls 3 [(0, .ref h0), (1, .int x)] := hl
  subst hsz
  refine lv_aload_n hx hb dL_outer_0 rfl (lv_at hl 0 rfl) ?_
  refine lv_iload_n hx hb dL_outer_1 rfl (lv_at hl 1 rfl) ?_
  refine rn_xVc (As := [.int x]) (rest := []) (E := rn_IO) 1 hx hb hml hown hts hG hE hS (x_outerOf_r l hfl hV hC hno _) gL_outer_X4_outerOf rfl ⟨rfl, rfl⟩ (by decide +kernel) ⟨Nat.le_of_ble_eq_true rfl, Nat.le_of_ble_eq_true rfl⟩ hF (hF _ _ hC.1.1) rfl rfl hl.1 rfl (Nat.le_of_ble_eq_true rfl) ⟨Nat.le_of_ble_eq_true rfl, Nat.le_of_ble_eq_true rfl⟩ dL_outer_2 [] ⟨0, 5, 6, 13⟩ [] htab (fun z hz => nomatch hz) (by decide) (by decide) (hts _ (by decide +kernel)) (by decide) (fun q9 H h1 h2 hS => ?_)
  refine lv_astore_n (lv' := [(2, .ref q9), (0, .ref h0), (1, .int x)]) hx hb dL_outer_6 rfl hl (by decide) rfl (fun ls hl => ?_)
  refine lv_ldc (v := (-2000000001)) hx hb hown (hts _ kw_L_outer_15) dL_outer_7 ?_
  exact rn_Wiret hx hb hr rfl hlocks hS (by decide) (by decide) rfl (hF.kept (fun q hq => h2 q (hF.lt hq))) dL_outer_9

set_option maxHeartbeats 4000000 in
set_option maxRecDepth 100000 in
theorem l_outer_o (l : Launch) {D : va_G} {cR cP cF : ClassId} {h0 aR aP aF : Nat} {ra pa fa : Nat → Nat} {hd : Nat → Option Nat} {dh : Option Nat} {f : rn_T} {σ : rn_St} (hV : rn_V σ) (hC : rn_CI cR cP cF h0 aR aP aF ra pa fa hd dh f σ) {i : Nat} (hi0 : i < σ.sn) : rn_R l yL_outer wsL_outer ({ frames := 8, cells := 0, slots := 0, locals := 140 } : Room) D (rn_tys cR cP cF) (rn_S D f) [.ref h0, .int (nI i)] (some (.int (rn_enc (rn_nx σ i)))) := by
  refine rn_R.ofH (hh := [(0, 5, 6, 13)]) (cc := cL_outer) (maxL := 3) (ret := (some .int)) (by decide) rfl (Nat.le_of_ble_eq_true rfl) (fun p e s m below meth c ls hx hb hr hml hts hown hlocks hF hG hl => ?_)
  have hl : lv_has ls 3 [(0, .ref h0), (1, .int (nI i))] := hl
  refine lv_aload_n hx hb dL_outer_0 rfl (lv_at hl 0 rfl) ?_
  refine lv_iload_n hx hb dL_outer_1 rfl (lv_at hl 1 rfl) ?_
  refine rn_cV (As := [.int (nI i)]) (rest := []) 1 hx hb hml hown hts hG (c_outerOf l hV hC hi0) gL_outer_X4_outerOf rfl ⟨rfl, rfl⟩ (by decide +kernel) ⟨Nat.le_of_ble_eq_true rfl, Nat.le_of_ble_eq_true rfl⟩ hF (hF _ _ hC.1.1) rfl rfl hl.1 rfl (Nat.le_of_ble_eq_true rfl) ⟨Nat.zero_le _, Nat.zero_le _⟩ dL_outer_2 ?_
  refine W.eq (g2 := F0 m 5 ls [.int (rn_enc (rn_nx σ i))]) rfl ?_
  exact rn_iret hx hb hr rfl hlocks rfl dL_outer_5

set_option maxHeartbeats 4000000 in
set_option maxRecDepth 100000 in
theorem l_leads_r (l : Launch) (hfl : l.stackTraces = false) {D : va_G} {cR cP cF : ClassId} {h0 aR aP aF : Nat} {ra pa fa : Nat → Nat} {hd : Nat → Option Nat} {dh : Option Nat} {f : rn_T} {σ : rn_St} (hV : rn_V σ) (hC : rn_CI cR cP cF h0 aR aP aF ra pa fa hd dh f σ) {x e1 : Int32} (hno : ¬ ∃ i, i < σ.sn ∧ x = nI i) (sz : Nat) : rn_LT l yL_leads wsL_leads ({ frames := 8, cells := 1, slots := 6, locals := 140 } : Room) D (rn_tys cR cP cF) (rn_S D f) [.ref h0, .int x, .int e1] (some (.int (-2000000001))) (rn_S D f) (fun q : Nat => sz ≤ q) 1 6 sz := by
  refine rn_LT.ofW (hh := [(0, 6, 7, 13), (0, 6, 11, 23)]) (cc := cL_leads) (maxL := 4) (ret := (some .int)) (by decide) rfl (Nat.le_of_ble_eq_true rfl) (fun p e s m below meth c ls hx hb hr hml hts hown hlocks hsz hF hG hE htab hS hl => ?_)
  have hl : lv_has ls 4 [(0, .ref h0), (1, .int x), (2, .int e1)] := hl
  subst hsz
  refine lv_aload_n hx hb dL_leads_0 rfl (lv_at hl 0 rfl) ?_
  refine lv_iload_n hx hb dL_leads_1 rfl (lv_at hl 1 rfl) ?_
  refine lv_iload_n hx hb dL_leads_2 rfl (lv_at hl 2 rfl) ?_
  refine rn_xVc (As := [.int x, .int e1]) (rest := []) (E := rn_IO) 2 hx hb hml hown hts hG hE hS (x_leadsTo_r l hfl hV hC hno _) gL_leads_X4_leadsTo rfl ⟨rfl, rfl⟩ (by decide +kernel) ⟨Nat.le_of_ble_eq_true rfl, Nat.le_of_ble_eq_true rfl⟩ hF (hF _ _ hC.1.1) rfl rfl hl.1 rfl (Nat.le_of_ble_eq_true rfl) ⟨Nat.le_of_ble_eq_true rfl, Nat.le_of_ble_eq_true rfl⟩ dL_leads_3 [] ⟨0, 6, 7, 13⟩ [⟨0, 6, 11, 23⟩] htab (fun z hz => nomatch hz) (by decide) (by decide) (hts _ (by decide +kernel)) (by decide) (fun q9 H h1 h2 hS => ?_)
  refine lv_astore_n (lv' := [(3, .ref q9), (0, .ref h0), (1, .int x), (2, .int e1)]) hx hb dL_leads_7 rfl hl (by decide) rfl (fun ls hl => ?_)
  refine lv_ldc (v := (-2000000001)) hx hb hown (hts _ kw_L_leads_15) dL_leads_8 ?_
  exact rn_Wiret hx hb hr rfl hlocks hS (by decide) (by decide) rfl (hF.kept (fun q hq => h2 q (hF.lt hq))) dL_leads_10

set_option maxHeartbeats 4000000 in
set_option maxRecDepth 100000 in
theorem l_leads_n (l : Launch) (hfl : l.stackTraces = false) {D : va_G} {cR cP cF : ClassId} {h0 aR aP aF : Nat} {ra pa fa : Nat → Nat} {hd : Nat → Option Nat} {dh : Option Nat} {f : rn_T} {σ : rn_St} (hV : rn_V σ) (hC : rn_CI cR cP cF h0 aR aP aF ra pa fa hd dh f σ) {i : Nat} (hi0 : i < σ.sn) {x : Int32} (hbad : x < 0 ∨ nI 998 < x) (sz : Nat) : rn_LT l yL_leads wsL_leads ({ frames := 8, cells := 1, slots := 6, locals := 140 } : Room) D (rn_tys cR cP cF) (rn_S D f) [.ref h0, .int (nI i), .int x] (some (.int (-2000000002))) (rn_S D f) (fun q : Nat => sz ≤ q) 1 6 sz := by
  refine rn_LT.ofW (hh := [(0, 6, 7, 13), (0, 6, 11, 23)]) (cc := cL_leads) (maxL := 4) (ret := (some .int)) (by decide) rfl (Nat.le_of_ble_eq_true rfl) (fun p e s m below meth c ls hx hb hr hml hts hown hlocks hsz hF hG hE htab hS hl => ?_)
  have hl : lv_has ls 4 [(0, .ref h0), (1, .int (nI i)), (2, .int x)] := hl
  subst hsz
  refine lv_aload_n hx hb dL_leads_0 rfl (lv_at hl 0 rfl) ?_
  refine lv_iload_n hx hb dL_leads_1 rfl (lv_at hl 1 rfl) ?_
  refine lv_iload_n hx hb dL_leads_2 rfl (lv_at hl 2 rfl) ?_
  refine rn_xVc (As := [.int (nI i), .int x]) (rest := []) (E := rn_IA) 2 hx hb hml hown hts hG hE hS (x_leadsTo_n l hfl hV hC hi0 hbad _) gL_leads_X4_leadsTo rfl ⟨rfl, rfl⟩ (by decide +kernel) ⟨Nat.le_of_ble_eq_true rfl, Nat.le_of_ble_eq_true rfl⟩ hF (hF _ _ hC.1.1) rfl rfl hl.1 rfl (Nat.le_of_ble_eq_true rfl) ⟨Nat.le_of_ble_eq_true rfl, Nat.le_of_ble_eq_true rfl⟩ dL_leads_3 [⟨0, 6, 7, 13⟩] ⟨0, 6, 11, 23⟩ [] htab (fun z hz => by rw [List.mem_singleton.mp hz]; exact Or.inr ⟨(by decide : 13 ≠ 0), rn_IO, hts _ (by decide +kernel), hE.2.2.1 (rn_IA, rn_IO) (by decide)⟩) (by decide) (by decide) (hts _ (by decide +kernel)) (by decide) (fun q9 H h1 h2 hS => ?_)
  refine lv_astore_n (lv' := [(3, .ref q9), (0, .ref h0), (1, .int (nI i)), (2, .int x)]) hx hb dL_leads_11 rfl hl (by decide) rfl (fun ls hl => ?_)
  refine lv_ldc (v := (-2000000002)) hx hb hown (hts _ kw_L_leads_25) dL_leads_12 ?_
  exact rn_Wiret hx hb hr rfl hlocks hS (by decide) (by decide) rfl (hF.kept (fun q hq => h2 q (hF.lt hq))) dL_leads_14

set_option maxHeartbeats 4000000 in
set_option maxRecDepth 100000 in
theorem l_leads_o (l : Launch) {D : va_G} {cR cP cF : ClassId} {h0 aR aP aF : Nat} {ra pa fa : Nat → Nat} {hd : Nat → Option Nat} {dh : Option Nat} {f : rn_T} {σ : rn_St} (hV : rn_V σ) (hC : rn_CI cR cP cF h0 aR aP aF ra pa fa hd dh f σ) {i x : Nat} (hi0 : i < σ.sn) (hx0 : x ≤ 998) : rn_R l yL_leads wsL_leads ({ frames := 8, cells := 0, slots := 0, locals := 140 } : Room) D (rn_tys cR cP cF) (rn_S D f) [.ref h0, .int (nI i), .int (nI x)] (some (.int (rn_enc (rn_lead σ i x)))) := by
  refine rn_R.ofH (hh := [(0, 6, 7, 13), (0, 6, 11, 23)]) (cc := cL_leads) (maxL := 4) (ret := (some .int)) (by decide) rfl (Nat.le_of_ble_eq_true rfl) (fun p e s m below meth c ls hx hb hr hml hts hown hlocks hF hG hl => ?_)
  have hl : lv_has ls 4 [(0, .ref h0), (1, .int (nI i)), (2, .int (nI x))] := hl
  refine lv_aload_n hx hb dL_leads_0 rfl (lv_at hl 0 rfl) ?_
  refine lv_iload_n hx hb dL_leads_1 rfl (lv_at hl 1 rfl) ?_
  refine lv_iload_n hx hb dL_leads_2 rfl (lv_at hl 2 rfl) ?_
  refine rn_cV (As := [.int (nI i), .int (nI x)]) (rest := []) 2 hx hb hml hown hts hG (c_leadsTo l hV hC hi0 hx0) gL_leads_X4_leadsTo rfl ⟨rfl, rfl⟩ (by decide +kernel) ⟨Nat.le_of_ble_eq_true rfl, Nat.le_of_ble_eq_true rfl⟩ hF (hF _ _ hC.1.1) rfl rfl hl.1 rfl (Nat.le_of_ble_eq_true rfl) ⟨Nat.zero_le _, Nat.zero_le _⟩ dL_leads_3 ?_
  refine W.eq (g2 := F0 m 6 ls [.int (rn_enc (rn_lead σ i x))]) rfl ?_
  exact rn_iret hx hb hr rfl hlocks rfl dL_leads_6

set_option maxHeartbeats 4000000 in
set_option maxRecDepth 100000 in
theorem l_seen_r (l : Launch) (hfl : l.stackTraces = false) {D : va_G} {cR cP cF : ClassId} {h0 aR aP aF : Nat} {ra pa fa : Nat → Nat} {hd : Nat → Option Nat} {dh : Option Nat} {f : rn_T} {σ : rn_St} (hV : rn_V σ) (hC : rn_CI cR cP cF h0 aR aP aF ra pa fa hd dh f σ) {x e1 : Int32} (hno : ¬ ∃ i, i < σ.sn ∧ x = nI i) (sz : Nat) : rn_LT l yL_seen wsL_seen ({ frames := 8, cells := 1, slots := 6, locals := 140 } : Room) D (rn_tys cR cP cF) (rn_S D f) [.ref h0, .int x, .int e1] (some (.int (-2000000001))) (rn_S D f) (fun q : Nat => sz ≤ q) 1 6 sz := by
  refine rn_LT.ofW (hh := [(0, 6, 7, 13), (0, 6, 11, 23)]) (cc := cL_seen) (maxL := 4) (ret := (some .int)) (by decide) rfl (Nat.le_of_ble_eq_true rfl) (fun p e s m below meth c ls hx hb hr hml hts hown hlocks hsz hF hG hE htab hS hl => ?_)
  have hl : lv_has ls 4 [(0, .ref h0), (1, .int x), (2, .int e1)] := hl
  subst hsz
  refine lv_aload_n hx hb dL_seen_0 rfl (lv_at hl 0 rfl) ?_
  refine lv_iload_n hx hb dL_seen_1 rfl (lv_at hl 1 rfl) ?_
  refine lv_iload_n hx hb dL_seen_2 rfl (lv_at hl 2 rfl) ?_
  refine rn_xVc (As := [.int x, .int e1]) (rest := []) (E := rn_IO) 2 hx hb hml hown hts hG hE hS (x_seenAs_r l hfl hV hC hno _) gL_seen_X4_seenAs rfl ⟨rfl, rfl⟩ (by decide +kernel) ⟨Nat.le_of_ble_eq_true rfl, Nat.le_of_ble_eq_true rfl⟩ hF (hF _ _ hC.1.1) rfl rfl hl.1 rfl (Nat.le_of_ble_eq_true rfl) ⟨Nat.le_of_ble_eq_true rfl, Nat.le_of_ble_eq_true rfl⟩ dL_seen_3 [] ⟨0, 6, 7, 13⟩ [⟨0, 6, 11, 23⟩] htab (fun z hz => nomatch hz) (by decide) (by decide) (hts _ (by decide +kernel)) (by decide) (fun q9 H h1 h2 hS => ?_)
  refine lv_astore_n (lv' := [(3, .ref q9), (0, .ref h0), (1, .int x), (2, .int e1)]) hx hb dL_seen_7 rfl hl (by decide) rfl (fun ls hl => ?_)
  refine lv_ldc (v := (-2000000001)) hx hb hown (hts _ kw_L_seen_15) dL_seen_8 ?_
  exact rn_Wiret hx hb hr rfl hlocks hS (by decide) (by decide) rfl (hF.kept (fun q hq => h2 q (hF.lt hq))) dL_seen_10

set_option maxHeartbeats 4000000 in
set_option maxRecDepth 100000 in
theorem l_seen_n (l : Launch) (hfl : l.stackTraces = false) {D : va_G} {cR cP cF : ClassId} {h0 aR aP aF : Nat} {ra pa fa : Nat → Nat} {hd : Nat → Option Nat} {dh : Option Nat} {f : rn_T} {σ : rn_St} (hV : rn_V σ) (hC : rn_CI cR cP cF h0 aR aP aF ra pa fa hd dh f σ) {i : Nat} (hi0 : i < σ.sn) {x : Int32} (hbad : x < 0 ∨ nI 998 < x) (sz : Nat) : rn_LT l yL_seen wsL_seen ({ frames := 8, cells := 1, slots := 6, locals := 140 } : Room) D (rn_tys cR cP cF) (rn_S D f) [.ref h0, .int (nI i), .int x] (some (.int (-2000000002))) (rn_S D f) (fun q : Nat => sz ≤ q) 1 6 sz := by
  refine rn_LT.ofW (hh := [(0, 6, 7, 13), (0, 6, 11, 23)]) (cc := cL_seen) (maxL := 4) (ret := (some .int)) (by decide) rfl (Nat.le_of_ble_eq_true rfl) (fun p e s m below meth c ls hx hb hr hml hts hown hlocks hsz hF hG hE htab hS hl => ?_)
  have hl : lv_has ls 4 [(0, .ref h0), (1, .int (nI i)), (2, .int x)] := hl
  subst hsz
  refine lv_aload_n hx hb dL_seen_0 rfl (lv_at hl 0 rfl) ?_
  refine lv_iload_n hx hb dL_seen_1 rfl (lv_at hl 1 rfl) ?_
  refine lv_iload_n hx hb dL_seen_2 rfl (lv_at hl 2 rfl) ?_
  refine rn_xVc (As := [.int (nI i), .int x]) (rest := []) (E := rn_IA) 2 hx hb hml hown hts hG hE hS (x_seenAs_n l hfl hV hC hi0 hbad _) gL_seen_X4_seenAs rfl ⟨rfl, rfl⟩ (by decide +kernel) ⟨Nat.le_of_ble_eq_true rfl, Nat.le_of_ble_eq_true rfl⟩ hF (hF _ _ hC.1.1) rfl rfl hl.1 rfl (Nat.le_of_ble_eq_true rfl) ⟨Nat.le_of_ble_eq_true rfl, Nat.le_of_ble_eq_true rfl⟩ dL_seen_3 [⟨0, 6, 7, 13⟩] ⟨0, 6, 11, 23⟩ [] htab (fun z hz => by rw [List.mem_singleton.mp hz]; exact Or.inr ⟨(by decide : 13 ≠ 0), rn_IO, hts _ (by decide +kernel), hE.2.2.1 (rn_IA, rn_IO) (by decide)⟩) (by decide) (by decide) (hts _ (by decide +kernel)) (by decide) (fun q9 H h1 h2 hS => ?_)
  refine lv_astore_n (lv' := [(3, .ref q9), (0, .ref h0), (1, .int (nI i)), (2, .int x)]) hx hb dL_seen_11 rfl hl (by decide) rfl (fun ls hl => ?_)
  refine lv_ldc (v := (-2000000002)) hx hb hown (hts _ kw_L_seen_25) dL_seen_12 ?_
  exact rn_Wiret hx hb hr rfl hlocks hS (by decide) (by decide) rfl (hF.kept (fun q hq => h2 q (hF.lt hq))) dL_seen_14

set_option maxHeartbeats 4000000 in
set_option maxRecDepth 100000 in
theorem l_seen_o (l : Launch) {D : va_G} {cR cP cF : ClassId} {h0 aR aP aF : Nat} {ra pa fa : Nat → Nat} {hd : Nat → Option Nat} {dh : Option Nat} {f : rn_T} {σ : rn_St} (hV : rn_V σ) (hC : rn_CI cR cP cF h0 aR aP aF ra pa fa hd dh f σ) {i x : Nat} (hi0 : i < σ.sn) (hx0 : x ≤ 998) : rn_R l yL_seen wsL_seen ({ frames := 8, cells := 0, slots := 0, locals := 140 } : Room) D (rn_tys cR cP cF) (rn_S D f) [.ref h0, .int (nI i), .int (nI x)] (some (.int (nI (rn_see σ i x)))) := by
  refine rn_R.ofH (hh := [(0, 6, 7, 13), (0, 6, 11, 23)]) (cc := cL_seen) (maxL := 4) (ret := (some .int)) (by decide) rfl (Nat.le_of_ble_eq_true rfl) (fun p e s m below meth c ls hx hb hr hml hts hown hlocks hF hG hl => ?_)
  have hl : lv_has ls 4 [(0, .ref h0), (1, .int (nI i)), (2, .int (nI x))] := hl
  refine lv_aload_n hx hb dL_seen_0 rfl (lv_at hl 0 rfl) ?_
  refine lv_iload_n hx hb dL_seen_1 rfl (lv_at hl 1 rfl) ?_
  refine lv_iload_n hx hb dL_seen_2 rfl (lv_at hl 2 rfl) ?_
  refine rn_cV (As := [.int (nI i), .int (nI x)]) (rest := []) 2 hx hb hml hown hts hG (c_seenAs l hV hC hi0 hx0) gL_seen_X4_seenAs rfl ⟨rfl, rfl⟩ (by decide +kernel) ⟨Nat.le_of_ble_eq_true rfl, Nat.le_of_ble_eq_true rfl⟩ hF (hF _ _ hC.1.1) rfl rfl hl.1 rfl (Nat.le_of_ble_eq_true rfl) ⟨Nat.zero_le _, Nat.zero_le _⟩ dL_seen_3 ?_
  refine W.eq (g2 := F0 m 6 ls [.int (nI (rn_see σ i x))]) rfl ?_
  exact rn_iret hx hb hr rfl hlocks rfl dL_seen_6

set_option maxHeartbeats 4000000 in
set_option maxRecDepth 100000 in
theorem l_byLeading_r (l : Launch) (hfl : l.stackTraces = false) {D : va_G} {cR cP cF : ClassId} {h0 aR aP aF : Nat} {ra pa fa : Nat → Nat} {hd : Nat → Option Nat} {dh : Option Nat} {f : rn_T} {σ : rn_St} (hV : rn_V σ) (hC : rn_CI cR cP cF h0 aR aP aF ra pa fa hd dh f σ) {x e1 : Int32} (hno : ¬ ∃ i, i < σ.sn ∧ x = nI i) (sz : Nat) : rn_LT l yL_byLeading wsL_byLeading ({ frames := 8, cells := 1, slots := 6, locals := 140 } : Room) D (rn_tys cR cP cF) (rn_S D f) [.ref h0, .int x, .int e1] (some (.int (-2000000001))) (rn_S D f) (fun q : Nat => sz ≤ q) 1 6 sz := by
  refine rn_LT.ofW (hh := [(0, 6, 7, 13), (0, 6, 11, 23)]) (cc := cL_byLeading) (maxL := 4) (ret := (some .int)) (by decide) rfl (Nat.le_of_ble_eq_true rfl) (fun p e s m below meth c ls hx hb hr hml hts hown hlocks hsz hF hG hE htab hS hl => ?_)
  have hl : lv_has ls 4 [(0, .ref h0), (1, .int x), (2, .int e1)] := hl
  subst hsz
  refine lv_aload_n hx hb dL_byLeading_0 rfl (lv_at hl 0 rfl) ?_
  refine lv_iload_n hx hb dL_byLeading_1 rfl (lv_at hl 1 rfl) ?_
  refine lv_iload_n hx hb dL_byLeading_2 rfl (lv_at hl 2 rfl) ?_
  refine rn_xVc (As := [.int x, .int e1]) (rest := []) (E := rn_IO) 2 hx hb hml hown hts hG hE hS (x_seenByLeading_r l hfl hV hC hno _) gL_byLeading_X4_seenByLeading rfl ⟨rfl, rfl⟩ (by decide +kernel) ⟨Nat.le_of_ble_eq_true rfl, Nat.le_of_ble_eq_true rfl⟩ hF (hF _ _ hC.1.1) rfl rfl hl.1 rfl (Nat.le_of_ble_eq_true rfl) ⟨Nat.le_of_ble_eq_true rfl, Nat.le_of_ble_eq_true rfl⟩ dL_byLeading_3 [] ⟨0, 6, 7, 13⟩ [⟨0, 6, 11, 23⟩] htab (fun z hz => nomatch hz) (by decide) (by decide) (hts _ (by decide +kernel)) (by decide) (fun q9 H h1 h2 hS => ?_)
  refine lv_astore_n (lv' := [(3, .ref q9), (0, .ref h0), (1, .int x), (2, .int e1)]) hx hb dL_byLeading_7 rfl hl (by decide) rfl (fun ls hl => ?_)
  refine lv_ldc (v := (-2000000001)) hx hb hown (hts _ kw_L_byLeading_15) dL_byLeading_8 ?_
  exact rn_Wiret hx hb hr rfl hlocks hS (by decide) (by decide) rfl (hF.kept (fun q hq => h2 q (hF.lt hq))) dL_byLeading_10

set_option maxHeartbeats 4000000 in
set_option maxRecDepth 100000 in
theorem l_byLeading_n (l : Launch) (hfl : l.stackTraces = false) {D : va_G} {cR cP cF : ClassId} {h0 aR aP aF : Nat} {ra pa fa : Nat → Nat} {hd : Nat → Option Nat} {dh : Option Nat} {f : rn_T} {σ : rn_St} (hV : rn_V σ) (hC : rn_CI cR cP cF h0 aR aP aF ra pa fa hd dh f σ) {i : Nat} (hi0 : i < σ.sn) {x : Int32} (hbad : x < 0 ∨ nI 998 < x) (sz : Nat) : rn_LT l yL_byLeading wsL_byLeading ({ frames := 8, cells := 1, slots := 6, locals := 140 } : Room) D (rn_tys cR cP cF) (rn_S D f) [.ref h0, .int (nI i), .int x] (some (.int (-2000000002))) (rn_S D f) (fun q : Nat => sz ≤ q) 1 6 sz := by
  refine rn_LT.ofW (hh := [(0, 6, 7, 13), (0, 6, 11, 23)]) (cc := cL_byLeading) (maxL := 4) (ret := (some .int)) (by decide) rfl (Nat.le_of_ble_eq_true rfl) (fun p e s m below meth c ls hx hb hr hml hts hown hlocks hsz hF hG hE htab hS hl => ?_)
  have hl : lv_has ls 4 [(0, .ref h0), (1, .int (nI i)), (2, .int x)] := hl
  subst hsz
  refine lv_aload_n hx hb dL_byLeading_0 rfl (lv_at hl 0 rfl) ?_
  refine lv_iload_n hx hb dL_byLeading_1 rfl (lv_at hl 1 rfl) ?_
  refine lv_iload_n hx hb dL_byLeading_2 rfl (lv_at hl 2 rfl) ?_
  refine rn_xVc (As := [.int (nI i), .int x]) (rest := []) (E := rn_IA) 2 hx hb hml hown hts hG hE hS (x_seenByLeading_n l hfl hV hC hi0 hbad _) gL_byLeading_X4_seenByLeading rfl ⟨rfl, rfl⟩ (by decide +kernel) ⟨Nat.le_of_ble_eq_true rfl, Nat.le_of_ble_eq_true rfl⟩ hF (hF _ _ hC.1.1) rfl rfl hl.1 rfl (Nat.le_of_ble_eq_true rfl) ⟨Nat.le_of_ble_eq_true rfl, Nat.le_of_ble_eq_true rfl⟩ dL_byLeading_3 [⟨0, 6, 7, 13⟩] ⟨0, 6, 11, 23⟩ [] htab (fun z hz => by rw [List.mem_singleton.mp hz]; exact Or.inr ⟨(by decide : 13 ≠ 0), rn_IO, hts _ (by decide +kernel), hE.2.2.1 (rn_IA, rn_IO) (by decide)⟩) (by decide) (by decide) (hts _ (by decide +kernel)) (by decide) (fun q9 H h1 h2 hS => ?_)
  refine lv_astore_n (lv' := [(3, .ref q9), (0, .ref h0), (1, .int (nI i)), (2, .int x)]) hx hb dL_byLeading_11 rfl hl (by decide) rfl (fun ls hl => ?_)
  refine lv_ldc (v := (-2000000002)) hx hb hown (hts _ kw_L_byLeading_25) dL_byLeading_12 ?_
  exact rn_Wiret hx hb hr rfl hlocks hS (by decide) (by decide) rfl (hF.kept (fun q hq => h2 q (hF.lt hq))) dL_byLeading_14

set_option maxHeartbeats 4000000 in
set_option maxRecDepth 100000 in
theorem l_byLeading_o (l : Launch) {D : va_G} {cR cP cF : ClassId} {h0 aR aP aF : Nat} {ra pa fa : Nat → Nat} {hd : Nat → Option Nat} {dh : Option Nat} {f : rn_T} {σ : rn_St} (hV : rn_V σ) (hC : rn_CI cR cP cF h0 aR aP aF ra pa fa hd dh f σ) {i x : Nat} (hi0 : i < σ.sn) (hx0 : x ≤ 998) : rn_R l yL_byLeading wsL_byLeading ({ frames := 8, cells := 0, slots := 0, locals := 140 } : Room) D (rn_tys cR cP cF) (rn_S D f) [.ref h0, .int (nI i), .int (nI x)] (some (.int (nI (rn_see σ i x)))) := by
  refine rn_R.ofH (hh := [(0, 6, 7, 13), (0, 6, 11, 23)]) (cc := cL_byLeading) (maxL := 4) (ret := (some .int)) (by decide) rfl (Nat.le_of_ble_eq_true rfl) (fun p e s m below meth c ls hx hb hr hml hts hown hlocks hF hG hl => ?_)
  have hl : lv_has ls 4 [(0, .ref h0), (1, .int (nI i)), (2, .int (nI x))] := hl
  refine lv_aload_n hx hb dL_byLeading_0 rfl (lv_at hl 0 rfl) ?_
  refine lv_iload_n hx hb dL_byLeading_1 rfl (lv_at hl 1 rfl) ?_
  refine lv_iload_n hx hb dL_byLeading_2 rfl (lv_at hl 2 rfl) ?_
  refine rn_cV (As := [.int (nI i), .int (nI x)]) (rest := []) 2 hx hb hml hown hts hG (c_seenByLeading l hV hC hi0 hx0) gL_byLeading_X4_seenByLeading rfl ⟨rfl, rfl⟩ (by decide +kernel) ⟨Nat.le_of_ble_eq_true rfl, Nat.le_of_ble_eq_true rfl⟩ hF (hF _ _ hC.1.1) rfl rfl hl.1 rfl (Nat.le_of_ble_eq_true rfl) ⟨Nat.zero_le _, Nat.zero_le _⟩ dL_byLeading_3 ?_
  refine W.eq (g2 := F0 m 6 ls [.int (nI (rn_see σ i x))]) rfl ?_
  exact rn_iret hx hb hr rfl hlocks rfl dL_byLeading_6

set_option maxHeartbeats 4000000 in
set_option maxRecDepth 100000 in
theorem l_forks_p (l : Launch) (hfl : l.stackTraces = false) {D : va_G} {cR cP cF : ClassId} {h0 aR aP aF : Nat} {ra pa fa : Nat → Nat} {hd : Nat → Option Nat} {dh : Option Nat} {f : rn_T} {σ : rn_St} (hV : rn_V σ) (hC : rn_CI cR cP cF h0 aR aP aF ra pa fa hd dh f σ) {x  : Int32} (hno : ¬ ∃ i, i < σ.pn ∧ x = nI i) (sz : Nat) : rn_LT l yL_forks wsL_forks ({ frames := 8, cells := 1, slots := 6, locals := 140 } : Room) D (rn_tys cR cP cF) (rn_S D f) [.ref h0, .int x] (some (.int (-2000000001))) (rn_S D f) (fun q : Nat => sz ≤ q) 1 6 sz := by
  refine rn_LT.ofW (hh := [(0, 5, 6, 13), (0, 5, 10, 16)]) (cc := cL_forks) (maxL := 3) (ret := (some .int)) (by decide) rfl (Nat.le_of_ble_eq_true rfl) (fun p e s m below meth c ls hx hb hr hml hts hown hlocks hsz hF hG hE htab hS hl => ?_)
  have hl : lv_has ls 3 [(0, .ref h0), (1, .int x)] := hl
  subst hsz
  refine lv_aload_n hx hb dL_forks_0 rfl (lv_at hl 0 rfl) ?_
  refine lv_iload_n hx hb dL_forks_1 rfl (lv_at hl 1 rfl) ?_
  refine rn_xVc (As := [.int x]) (rest := []) (E := rn_IO) 1 hx hb hml hown hts hG hE hS (x_fork_p l hfl hV hC hno _) gL_forks_X4_fork rfl ⟨rfl, rfl⟩ (by decide +kernel) ⟨Nat.le_of_ble_eq_true rfl, Nat.le_of_ble_eq_true rfl⟩ hF (hF _ _ hC.1.1) rfl rfl hl.1 rfl (Nat.le_of_ble_eq_true rfl) ⟨Nat.le_of_ble_eq_true rfl, Nat.le_of_ble_eq_true rfl⟩ dL_forks_2 [] ⟨0, 5, 6, 13⟩ [⟨0, 5, 10, 16⟩] htab (fun z hz => nomatch hz) (by decide) (by decide) (hts _ (by decide +kernel)) (by decide) (fun q9 H h1 h2 hS => ?_)
  refine lv_astore_n (lv' := [(2, .ref q9), (0, .ref h0), (1, .int x)]) hx hb dL_forks_6 rfl hl (by decide) rfl (fun ls hl => ?_)
  refine lv_ldc (v := (-2000000001)) hx hb hown (hts _ kw_L_forks_15) dL_forks_7 ?_
  exact rn_Wiret hx hb hr rfl hlocks hS (by decide) (by decide) rfl (hF.kept (fun q hq => h2 q (hF.lt hq))) dL_forks_9

set_option maxHeartbeats 4000000 in
set_option maxRecDepth 100000 in
theorem l_forks_s (l : Launch) (hfl : l.stackTraces = false) {D : va_G} {cR cP cF : ClassId} {h0 aR aP aF : Nat} {ra pa fa : Nat → Nat} {hd : Nat → Option Nat} {dh : Option Nat} {f : rn_T} {σ : rn_St} (hV : rn_V σ) (hC : rn_CI cR cP cF h0 aR aP aF ra pa fa hd dh f σ) {j : Nat} (hj0 : j < σ.pn) (hfull : σ.pn = 12) (sz : Nat) : rn_LT l yL_forks wsL_forks ({ frames := 8, cells := 1, slots := 6, locals := 140 } : Room) D (rn_tys cR cP cF) (rn_S D f) [.ref h0, .int (nI j)] (some (.int (-2000000003))) (rn_S D f) (fun q : Nat => sz ≤ q) 1 6 sz := by
  refine rn_LT.ofW (hh := [(0, 5, 6, 13), (0, 5, 10, 16)]) (cc := cL_forks) (maxL := 3) (ret := (some .int)) (by decide) rfl (Nat.le_of_ble_eq_true rfl) (fun p e s m below meth c ls hx hb hr hml hts hown hlocks hsz hF hG hE htab hS hl => ?_)
  have hl : lv_has ls 3 [(0, .ref h0), (1, .int (nI j))] := hl
  subst hsz
  refine lv_aload_n hx hb dL_forks_0 rfl (lv_at hl 0 rfl) ?_
  refine lv_iload_n hx hb dL_forks_1 rfl (lv_at hl 1 rfl) ?_
  refine rn_xVc (As := [.int (nI j)]) (rest := []) (E := rn_IS) 1 hx hb hml hown hts hG hE hS (x_fork_s l hfl hV hC hj0 hfull _) gL_forks_X4_fork rfl ⟨rfl, rfl⟩ (by decide +kernel) ⟨Nat.le_of_ble_eq_true rfl, Nat.le_of_ble_eq_true rfl⟩ hF (hF _ _ hC.1.1) rfl rfl hl.1 rfl (Nat.le_of_ble_eq_true rfl) ⟨Nat.le_of_ble_eq_true rfl, Nat.le_of_ble_eq_true rfl⟩ dL_forks_2 [⟨0, 5, 6, 13⟩] ⟨0, 5, 10, 16⟩ [] htab (fun z hz => by rw [List.mem_singleton.mp hz]; exact Or.inr ⟨(by decide : 13 ≠ 0), rn_IO, hts _ (by decide +kernel), hE.2.2.1 (rn_IS, rn_IO) (by decide)⟩) (by decide) (by decide) (hts _ (by decide +kernel)) (by decide) (fun q9 H h1 h2 hS => ?_)
  refine lv_astore_n (lv' := [(2, .ref q9), (0, .ref h0), (1, .int (nI j))]) hx hb dL_forks_10 rfl hl (by decide) rfl (fun ls hl => ?_)
  refine lv_ldc (v := (-2000000003)) hx hb hown (hts _ kw_L_forks_18) dL_forks_11 ?_
  exact rn_Wiret hx hb hr rfl hlocks hS (by decide) (by decide) rfl (hF.kept (fun q hq => h2 q (hF.lt hq))) dL_forks_13

set_option maxHeartbeats 4000000 in
set_option maxRecDepth 100000 in
theorem l_forks_o (l : Launch) {D : va_G} {cR cP cF : ClassId} {h0 aR aP aF : Nat} {ra pa fa : Nat → Nat} {hd : Nat → Option Nat} {dh : Option Nat} {f : rn_T} {σ : rn_St} (hV : rn_V σ) (hC : rn_CI cR cP cF h0 aR aP aF ra pa fa hd dh f σ) {j : Nat} (hj0 : j < σ.pn) (hn0 : σ.pn < 12) (sz : Nat) : rn_W l yL_forks wsL_forks ({ frames := 8, cells := 1, slots := 6, locals := 140 } : Room) D (rn_tys cR cP cF) (rn_S D f) [.ref h0, .int (nI j)] (some (.int (nI σ.pn))) (rn_P D cR cP cF h0 f sz (rn_fork σ j)) (rn_A f sz) 1 6 sz := by
  refine rn_W.ofH (hh := [(0, 5, 6, 13), (0, 5, 10, 16)]) (cc := cL_forks) (maxL := 3) (ret := (some .int)) (by decide) rfl (Nat.le_of_ble_eq_true rfl) (fun p e s m below meth c ls hx hb hr hml hts hown hlocks hsz hF hG hS hl => ?_)
  have hl : lv_has ls 3 [(0, .ref h0), (1, .int (nI j))] := hl
  subst hsz
  refine lv_aload_n hx hb dL_forks_0 rfl (lv_at hl 0 rfl) ?_
  refine lv_iload_n hx hb dL_forks_1 rfl (lv_at hl 1 rfl) ?_
  refine rn_wV (As := [.int (nI j)]) (rest := []) 1 hx hb hml hown hts hG hS (w_fork l hV hC hj0 hn0 _) (fun q h => h) gL_forks_X4_fork rfl ⟨rfl, rfl⟩ (by decide +kernel) ⟨Nat.le_of_ble_eq_true rfl, Nat.le_of_ble_eq_true rfl⟩ hF (hF _ _ hC.1.1) rfl rfl hl.1 rfl (Nat.le_of_ble_eq_true rfl) ⟨Nat.le_of_ble_eq_true rfl, Nat.le_of_ble_eq_true rfl⟩ dL_forks_2 (fun H locs hP1 hz hk hS => ?_)
  refine W.eq (g2 := F0 m 5 ls [.int (nI σ.pn)]) rfl ?_
  exact rn_Wiret hx hb hr rfl hlocks hS (by decide) (by decide) rfl hP1 dL_forks_5

set_option maxHeartbeats 4000000 in
set_option maxRecDepth 100000 in
theorem l_drops_p (l : Launch) (hfl : l.stackTraces = false) {D : va_G} {cR cP cF : ClassId} {h0 aR aP aF : Nat} {ra pa fa : Nat → Nat} {hd : Nat → Option Nat} {dh : Option Nat} {f : rn_T} {σ : rn_St} (hV : rn_V σ) (hC : rn_CI cR cP cF h0 aR aP aF ra pa fa hd dh f σ) {x e1 : Int32} (hno : ¬ ∃ i, i < σ.pn ∧ x = nI i) (sz : Nat) : rn_LT l yL_drops wsL_drops ({ frames := 8, cells := 1, slots := 6, locals := 140 } : Room) D (rn_tys cR cP cF) (rn_S D f) [.ref h0, .int x, .int e1] (some (.int (-2000000001))) (rn_S D f) (fun q : Nat => sz ≤ q) 1 6 sz := by
  refine rn_LT.ofW (hh := [(0, 6, 7, 13), (0, 6, 11, 23)]) (cc := cL_drops) (maxL := 4) (ret := (some .int)) (by decide) rfl (Nat.le_of_ble_eq_true rfl) (fun p e s m below meth c ls hx hb hr hml hts hown hlocks hsz hF hG hE htab hS hl => ?_)
  have hl : lv_has ls 4 [(0, .ref h0), (1, .int x), (2, .int e1)] := hl
  subst hsz
  refine lv_aload_n hx hb dL_drops_0 rfl (lv_at hl 0 rfl) ?_
  refine lv_iload_n hx hb dL_drops_1 rfl (lv_at hl 1 rfl) ?_
  refine lv_iload_n hx hb dL_drops_2 rfl (lv_at hl 2 rfl) ?_
  refine rn_xVc (As := [.int x, .int e1]) (rest := []) (E := rn_IO) 2 hx hb hml hown hts hG hE hS (x_drop_p l hfl hV hC hno _) gL_drops_X4_drop rfl ⟨rfl, rfl⟩ (by decide +kernel) ⟨Nat.le_of_ble_eq_true rfl, Nat.le_of_ble_eq_true rfl⟩ hF (hF _ _ hC.1.1) rfl rfl hl.1 rfl (Nat.le_of_ble_eq_true rfl) ⟨Nat.le_of_ble_eq_true rfl, Nat.le_of_ble_eq_true rfl⟩ dL_drops_3 [] ⟨0, 6, 7, 13⟩ [⟨0, 6, 11, 23⟩] htab (fun z hz => nomatch hz) (by decide) (by decide) (hts _ (by decide +kernel)) (by decide) (fun q9 H h1 h2 hS => ?_)
  refine lv_astore_n (lv' := [(3, .ref q9), (0, .ref h0), (1, .int x), (2, .int e1)]) hx hb dL_drops_7 rfl hl (by decide) rfl (fun ls hl => ?_)
  refine lv_ldc (v := (-2000000001)) hx hb hown (hts _ kw_L_drops_15) dL_drops_8 ?_
  exact rn_Wiret hx hb hr rfl hlocks hS (by decide) (by decide) rfl (hF.kept (fun q hq => h2 q (hF.lt hq))) dL_drops_10

set_option maxHeartbeats 4000000 in
set_option maxRecDepth 100000 in
theorem l_drops_n (l : Launch) (hfl : l.stackTraces = false) {D : va_G} {cR cP cF : ClassId} {h0 aR aP aF : Nat} {ra pa fa : Nat → Nat} {hd : Nat → Option Nat} {dh : Option Nat} {f : rn_T} {σ : rn_St} (hV : rn_V σ) (hC : rn_CI cR cP cF h0 aR aP aF ra pa fa hd dh f σ) {j : Nat} (hj0 : j < σ.pn) {x : Int32} (hbad : x < 0 ∨ nI 15 < x) (sz : Nat) : rn_LT l yL_drops wsL_drops ({ frames := 8, cells := 1, slots := 6, locals := 140 } : Room) D (rn_tys cR cP cF) (rn_S D f) [.ref h0, .int (nI j), .int x] (some (.int (-2000000002))) (rn_S D f) (fun q : Nat => sz ≤ q) 1 6 sz := by
  refine rn_LT.ofW (hh := [(0, 6, 7, 13), (0, 6, 11, 23)]) (cc := cL_drops) (maxL := 4) (ret := (some .int)) (by decide) rfl (Nat.le_of_ble_eq_true rfl) (fun p e s m below meth c ls hx hb hr hml hts hown hlocks hsz hF hG hE htab hS hl => ?_)
  have hl : lv_has ls 4 [(0, .ref h0), (1, .int (nI j)), (2, .int x)] := hl
  subst hsz
  refine lv_aload_n hx hb dL_drops_0 rfl (lv_at hl 0 rfl) ?_
  refine lv_iload_n hx hb dL_drops_1 rfl (lv_at hl 1 rfl) ?_
  refine lv_iload_n hx hb dL_drops_2 rfl (lv_at hl 2 rfl) ?_
  refine rn_xVc (As := [.int (nI j), .int x]) (rest := []) (E := rn_IA) 2 hx hb hml hown hts hG hE hS (x_drop_n l hfl hV hC hj0 hbad _) gL_drops_X4_drop rfl ⟨rfl, rfl⟩ (by decide +kernel) ⟨Nat.le_of_ble_eq_true rfl, Nat.le_of_ble_eq_true rfl⟩ hF (hF _ _ hC.1.1) rfl rfl hl.1 rfl (Nat.le_of_ble_eq_true rfl) ⟨Nat.le_of_ble_eq_true rfl, Nat.le_of_ble_eq_true rfl⟩ dL_drops_3 [⟨0, 6, 7, 13⟩] ⟨0, 6, 11, 23⟩ [] htab (fun z hz => by rw [List.mem_singleton.mp hz]; exact Or.inr ⟨(by decide : 13 ≠ 0), rn_IO, hts _ (by decide +kernel), hE.2.2.1 (rn_IA, rn_IO) (by decide)⟩) (by decide) (by decide) (hts _ (by decide +kernel)) (by decide) (fun q9 H h1 h2 hS => ?_)
  refine lv_astore_n (lv' := [(3, .ref q9), (0, .ref h0), (1, .int (nI j)), (2, .int x)]) hx hb dL_drops_11 rfl hl (by decide) rfl (fun ls hl => ?_)
  refine lv_ldc (v := (-2000000002)) hx hb hown (hts _ kw_L_drops_25) dL_drops_12 ?_
  exact rn_Wiret hx hb hr rfl hlocks hS (by decide) (by decide) rfl (hF.kept (fun q hq => h2 q (hF.lt hq))) dL_drops_14

set_option maxHeartbeats 4000000 in
set_option maxRecDepth 100000 in
theorem l_drops_o (l : Launch) {D : va_G} {cR cP cF : ClassId} {h0 aR aP aF : Nat} {ra pa fa : Nat → Nat} {hd : Nat → Option Nat} {dh : Option Nat} {f : rn_T} {σ : rn_St} (hV : rn_V σ) (hC : rn_CI cR cP cF h0 aR aP aF ra pa fa hd dh f σ) {j : Nat} {x : Int32} (hj0 : j < σ.pn) (hx0 : ¬ x < 0 ∧ x ≤ 15) (sz : Nat) : rn_W l yL_drops wsL_drops ({ frames := 8, cells := 1, slots := 6, locals := 140 } : Room) D (rn_tys cR cP cF) (rn_S D f) [.ref h0, .int (nI j), .int x] (some (.int (σ.pr j &&& (x ^^^ -1)))) (rn_P D cR cP cF h0 f sz (rn_proc σ j (σ.pl j) (σ.pu j) (σ.pr j &&& (x ^^^ -1)))) (rn_A f sz) 1 6 sz := by
  refine rn_W.ofH (hh := [(0, 6, 7, 13), (0, 6, 11, 23)]) (cc := cL_drops) (maxL := 4) (ret := (some .int)) (by decide) rfl (Nat.le_of_ble_eq_true rfl) (fun p e s m below meth c ls hx hb hr hml hts hown hlocks hsz hF hG hS hl => ?_)
  have hl : lv_has ls 4 [(0, .ref h0), (1, .int (nI j)), (2, .int x)] := hl
  subst hsz
  refine lv_aload_n hx hb dL_drops_0 rfl (lv_at hl 0 rfl) ?_
  refine lv_iload_n hx hb dL_drops_1 rfl (lv_at hl 1 rfl) ?_
  refine lv_iload_n hx hb dL_drops_2 rfl (lv_at hl 2 rfl) ?_
  refine rn_wV (As := [.int (nI j), .int x]) (rest := []) 2 hx hb hml hown hts hG hS (w_drop l hV hC hj0 hx0 _) (fun q h => h) gL_drops_X4_drop rfl ⟨rfl, rfl⟩ (by decide +kernel) ⟨Nat.le_of_ble_eq_true rfl, Nat.le_of_ble_eq_true rfl⟩ hF (hF _ _ hC.1.1) rfl rfl hl.1 rfl (Nat.le_of_ble_eq_true rfl) ⟨Nat.le_of_ble_eq_true rfl, Nat.le_of_ble_eq_true rfl⟩ dL_drops_3 (fun H locs hP1 hz hk hS => ?_)
  refine W.eq (g2 := F0 m 6 ls [.int (σ.pr j &&& (x ^^^ -1))]) rfl ?_
  exact rn_Wiret hx hb hr rfl hlocks hS (by decide) (by decide) rfl hP1 dL_drops_6

set_option maxHeartbeats 4000000 in
set_option maxRecDepth 100000 in
theorem l_enters_p (l : Launch) (hfl : l.stackTraces = false) {D : va_G} {cR cP cF : ClassId} {h0 aR aP aF : Nat} {ra pa fa : Nat → Nat} {hd : Nat → Option Nat} {dh : Option Nat} {f : rn_T} {σ : rn_St} (hV : rn_V σ) (hC : rn_CI cR cP cF h0 aR aP aF ra pa fa hd dh f σ) {x e1 : Int32} (hno : ¬ ∃ i, i < σ.pn ∧ x = nI i) (sz : Nat) : rn_LT l yL_enters wsL_enters ({ frames := 8, cells := 1, slots := 6, locals := 140 } : Room) D (rn_tys cR cP cF) (rn_S D f) [.ref h0, .int x, .int e1] (some (.int (-2000000001))) (rn_S D f) (fun q : Nat => sz ≤ q) 1 6 sz := by
  refine rn_LT.ofW (hh := [(0, 6, 7, 13)]) (cc := cL_enters) (maxL := 4) (ret := (some .int)) (by decide) rfl (Nat.le_of_ble_eq_true rfl) (fun p e s m below meth c ls hx hb hr hml hts hown hlocks hsz hF hG hE htab hS hl => ?_)
  have hl : lv_has ls 4 [(0, .ref h0), (1, .int x), (2, .int e1)] := hl
  subst hsz
  refine lv_aload_n hx hb dL_enters_0 rfl (lv_at hl 0 rfl) ?_
  refine lv_iload_n hx hb dL_enters_1 rfl (lv_at hl 1 rfl) ?_
  refine lv_iload_n hx hb dL_enters_2 rfl (lv_at hl 2 rfl) ?_
  refine rn_xVc (As := [.int x, .int e1]) (rest := []) (E := rn_IO) 2 hx hb hml hown hts hG hE hS (x_enter_p l hfl hV hC hno _) gL_enters_X4_enter rfl ⟨rfl, rfl⟩ (by decide +kernel) ⟨Nat.le_of_ble_eq_true rfl, Nat.le_of_ble_eq_true rfl⟩ hF (hF _ _ hC.1.1) rfl rfl hl.1 rfl (Nat.le_of_ble_eq_true rfl) ⟨Nat.le_of_ble_eq_true rfl, Nat.le_of_ble_eq_true rfl⟩ dL_enters_3 [] ⟨0, 6, 7, 13⟩ [] htab (fun z hz => nomatch hz) (by decide) (by decide) (hts _ (by decide +kernel)) (by decide) (fun q9 H h1 h2 hS => ?_)
  refine lv_astore_n (lv' := [(3, .ref q9), (0, .ref h0), (1, .int x), (2, .int e1)]) hx hb dL_enters_7 rfl hl (by decide) rfl (fun ls hl => ?_)
  refine lv_ldc (v := (-2000000001)) hx hb hown (hts _ kw_L_enters_15) dL_enters_8 ?_
  exact rn_Wiret hx hb hr rfl hlocks hS (by decide) (by decide) rfl (hF.kept (fun q hq => h2 q (hF.lt hq))) dL_enters_10

set_option maxHeartbeats 4000000 in
set_option maxRecDepth 100000 in
theorem l_enters_r (l : Launch) (hfl : l.stackTraces = false) {D : va_G} {cR cP cF : ClassId} {h0 aR aP aF : Nat} {ra pa fa : Nat → Nat} {hd : Nat → Option Nat} {dh : Option Nat} {f : rn_T} {σ : rn_St} (hV : rn_V σ) (hC : rn_CI cR cP cF h0 aR aP aF ra pa fa hd dh f σ) {j : Nat} (hj0 : j < σ.pn) {x : Int32} (hno : ¬ ∃ i, i < σ.sn ∧ x = nI i) (sz : Nat) : rn_LT l yL_enters wsL_enters ({ frames := 8, cells := 1, slots := 6, locals := 140 } : Room) D (rn_tys cR cP cF) (rn_S D f) [.ref h0, .int (nI j), .int x] (some (.int (-2000000001))) (rn_S D f) (fun q : Nat => sz ≤ q) 1 6 sz := by
  refine rn_LT.ofW (hh := [(0, 6, 7, 13)]) (cc := cL_enters) (maxL := 4) (ret := (some .int)) (by decide) rfl (Nat.le_of_ble_eq_true rfl) (fun p e s m below meth c ls hx hb hr hml hts hown hlocks hsz hF hG hE htab hS hl => ?_)
  have hl : lv_has ls 4 [(0, .ref h0), (1, .int (nI j)), (2, .int x)] := hl
  subst hsz
  refine lv_aload_n hx hb dL_enters_0 rfl (lv_at hl 0 rfl) ?_
  refine lv_iload_n hx hb dL_enters_1 rfl (lv_at hl 1 rfl) ?_
  refine lv_iload_n hx hb dL_enters_2 rfl (lv_at hl 2 rfl) ?_
  refine rn_xVc (As := [.int (nI j), .int x]) (rest := []) (E := rn_IO) 2 hx hb hml hown hts hG hE hS (x_enter_r l hfl hV hC hj0 hno _) gL_enters_X4_enter rfl ⟨rfl, rfl⟩ (by decide +kernel) ⟨Nat.le_of_ble_eq_true rfl, Nat.le_of_ble_eq_true rfl⟩ hF (hF _ _ hC.1.1) rfl rfl hl.1 rfl (Nat.le_of_ble_eq_true rfl) ⟨Nat.le_of_ble_eq_true rfl, Nat.le_of_ble_eq_true rfl⟩ dL_enters_3 [] ⟨0, 6, 7, 13⟩ [] htab (fun z hz => nomatch hz) (by decide) (by decide) (hts _ (by decide +kernel)) (by decide) (fun q9 H h1 h2 hS => ?_)
  refine lv_astore_n (lv' := [(3, .ref q9), (0, .ref h0), (1, .int (nI j)), (2, .int x)]) hx hb dL_enters_7 rfl hl (by decide) rfl (fun ls hl => ?_)
  refine lv_ldc (v := (-2000000001)) hx hb hown (hts _ kw_L_enters_15) dL_enters_8 ?_
  exact rn_Wiret hx hb hr rfl hlocks hS (by decide) (by decide) rfl (hF.kept (fun q hq => h2 q (hF.lt hq))) dL_enters_10

set_option maxHeartbeats 4000000 in
set_option maxRecDepth 100000 in
theorem l_enters_o (l : Launch) {D : va_G} {cR cP cF : ClassId} {h0 aR aP aF : Nat} {ra pa fa : Nat → Nat} {hd : Nat → Option Nat} {dh : Option Nat} {f : rn_T} {σ : rn_St} (hV : rn_V σ) (hC : rn_CI cR cP cF h0 aR aP aF ra pa fa hd dh f σ) {j i : Nat} (hj0 : j < σ.pn) (hi0 : i < σ.sn) (sz : Nat) : rn_W l yL_enters wsL_enters ({ frames := 8, cells := 1, slots := 6, locals := 140 } : Room) D (rn_tys cR cP cF) (rn_S D f) [.ref h0, .int (nI j), .int (nI i)] (some (.int ((rn_o_enter σ j i).1))) (rn_P D cR cP cF h0 f sz ((rn_o_enter σ j i).2)) (rn_A f sz) 1 6 sz := by
  refine rn_W.ofH (hh := [(0, 6, 7, 13)]) (cc := cL_enters) (maxL := 4) (ret := (some .int)) (by decide) rfl (Nat.le_of_ble_eq_true rfl) (fun p e s m below meth c ls hx hb hr hml hts hown hlocks hsz hF hG hS hl => ?_)
  have hl : lv_has ls 4 [(0, .ref h0), (1, .int (nI j)), (2, .int (nI i))] := hl
  subst hsz
  refine lv_aload_n hx hb dL_enters_0 rfl (lv_at hl 0 rfl) ?_
  refine lv_iload_n hx hb dL_enters_1 rfl (lv_at hl 1 rfl) ?_
  refine lv_iload_n hx hb dL_enters_2 rfl (lv_at hl 2 rfl) ?_
  refine rn_wV (As := [.int (nI j), .int (nI i)]) (rest := []) 2 hx hb hml hown hts hG hS (w_enter l hV hC hj0 hi0 _) (fun q h => h) gL_enters_X4_enter rfl ⟨rfl, rfl⟩ (by decide +kernel) ⟨Nat.le_of_ble_eq_true rfl, Nat.le_of_ble_eq_true rfl⟩ hF (hF _ _ hC.1.1) rfl rfl hl.1 rfl (Nat.le_of_ble_eq_true rfl) ⟨Nat.le_of_ble_eq_true rfl, Nat.le_of_ble_eq_true rfl⟩ dL_enters_3 (fun H locs hP1 hz hk hS => ?_)
  refine W.eq (g2 := F0 m 6 ls [.int ((rn_o_enter σ j i).1)]) rfl ?_
  exact rn_Wiret hx hb hr rfl hlocks hS (by decide) (by decide) rfl hP1 dL_enters_6

set_option maxHeartbeats 4000000 in
set_option maxRecDepth 100000 in
theorem l_takes_p (l : Launch) (hfl : l.stackTraces = false) {D : va_G} {cR cP cF : ClassId} {h0 aR aP aF : Nat} {ra pa fa : Nat → Nat} {hd : Nat → Option Nat} {dh : Option Nat} {f : rn_T} {σ : rn_St} (hV : rn_V σ) (hC : rn_CI cR cP cF h0 aR aP aF ra pa fa hd dh f σ) {x e1 : Int32} (hno : ¬ ∃ i, i < σ.pn ∧ x = nI i) (sz : Nat) : rn_LT l yL_takes wsL_takes ({ frames := 8, cells := 1, slots := 6, locals := 140 } : Room) D (rn_tys cR cP cF) (rn_S D f) [.ref h0, .int x, .int e1] (some (.int (-2000000001))) (rn_S D f) (fun q : Nat => sz ≤ q) 1 6 sz := by
  refine rn_LT.ofW (hh := [(0, 6, 7, 13), (0, 6, 11, 23)]) (cc := cL_takes) (maxL := 4) (ret := (some .int)) (by decide) rfl (Nat.le_of_ble_eq_true rfl) (fun p e s m below meth c ls hx hb hr hml hts hown hlocks hsz hF hG hE htab hS hl => ?_)
  have hl : lv_has ls 4 [(0, .ref h0), (1, .int x), (2, .int e1)] := hl
  subst hsz
  refine lv_aload_n hx hb dL_takes_0 rfl (lv_at hl 0 rfl) ?_
  refine lv_iload_n hx hb dL_takes_1 rfl (lv_at hl 1 rfl) ?_
  refine lv_iload_n hx hb dL_takes_2 rfl (lv_at hl 2 rfl) ?_
  refine rn_xVc (As := [.int x, .int e1]) (rest := []) (E := rn_IO) 2 hx hb hml hown hts hG hE hS (x_setNumber_p l hfl hV hC hno _) gL_takes_X4_setNumber rfl ⟨rfl, rfl⟩ (by decide +kernel) ⟨Nat.le_of_ble_eq_true rfl, Nat.le_of_ble_eq_true rfl⟩ hF (hF _ _ hC.1.1) rfl rfl hl.1 rfl (Nat.le_of_ble_eq_true rfl) ⟨Nat.le_of_ble_eq_true rfl, Nat.le_of_ble_eq_true rfl⟩ dL_takes_3 [] ⟨0, 6, 7, 13⟩ [⟨0, 6, 11, 23⟩] htab (fun z hz => nomatch hz) (by decide) (by decide) (hts _ (by decide +kernel)) (by decide) (fun q9 H h1 h2 hS => ?_)
  refine lv_astore_n (lv' := [(3, .ref q9), (0, .ref h0), (1, .int x), (2, .int e1)]) hx hb dL_takes_7 rfl hl (by decide) rfl (fun ls hl => ?_)
  refine lv_ldc (v := (-2000000001)) hx hb hown (hts _ kw_L_takes_15) dL_takes_8 ?_
  exact rn_Wiret hx hb hr rfl hlocks hS (by decide) (by decide) rfl (hF.kept (fun q hq => h2 q (hF.lt hq))) dL_takes_10

set_option maxHeartbeats 4000000 in
set_option maxRecDepth 100000 in
theorem l_takes_n (l : Launch) (hfl : l.stackTraces = false) {D : va_G} {cR cP cF : ClassId} {h0 aR aP aF : Nat} {ra pa fa : Nat → Nat} {hd : Nat → Option Nat} {dh : Option Nat} {f : rn_T} {σ : rn_St} (hV : rn_V σ) (hC : rn_CI cR cP cF h0 aR aP aF ra pa fa hd dh f σ) {j : Nat} (hj0 : j < σ.pn) {x : Int32} (hbad : x < 0 ∨ nI 998 < x) (sz : Nat) : rn_LT l yL_takes wsL_takes ({ frames := 8, cells := 1, slots := 6, locals := 140 } : Room) D (rn_tys cR cP cF) (rn_S D f) [.ref h0, .int (nI j), .int x] (some (.int (-2000000002))) (rn_S D f) (fun q : Nat => sz ≤ q) 1 6 sz := by
  refine rn_LT.ofW (hh := [(0, 6, 7, 13), (0, 6, 11, 23)]) (cc := cL_takes) (maxL := 4) (ret := (some .int)) (by decide) rfl (Nat.le_of_ble_eq_true rfl) (fun p e s m below meth c ls hx hb hr hml hts hown hlocks hsz hF hG hE htab hS hl => ?_)
  have hl : lv_has ls 4 [(0, .ref h0), (1, .int (nI j)), (2, .int x)] := hl
  subst hsz
  refine lv_aload_n hx hb dL_takes_0 rfl (lv_at hl 0 rfl) ?_
  refine lv_iload_n hx hb dL_takes_1 rfl (lv_at hl 1 rfl) ?_
  refine lv_iload_n hx hb dL_takes_2 rfl (lv_at hl 2 rfl) ?_
  refine rn_xVc (As := [.int (nI j), .int x]) (rest := []) (E := rn_IA) 2 hx hb hml hown hts hG hE hS (x_setNumber_n l hfl hV hC hj0 hbad _) gL_takes_X4_setNumber rfl ⟨rfl, rfl⟩ (by decide +kernel) ⟨Nat.le_of_ble_eq_true rfl, Nat.le_of_ble_eq_true rfl⟩ hF (hF _ _ hC.1.1) rfl rfl hl.1 rfl (Nat.le_of_ble_eq_true rfl) ⟨Nat.le_of_ble_eq_true rfl, Nat.le_of_ble_eq_true rfl⟩ dL_takes_3 [⟨0, 6, 7, 13⟩] ⟨0, 6, 11, 23⟩ [] htab (fun z hz => by rw [List.mem_singleton.mp hz]; exact Or.inr ⟨(by decide : 13 ≠ 0), rn_IO, hts _ (by decide +kernel), hE.2.2.1 (rn_IA, rn_IO) (by decide)⟩) (by decide) (by decide) (hts _ (by decide +kernel)) (by decide) (fun q9 H h1 h2 hS => ?_)
  refine lv_astore_n (lv' := [(3, .ref q9), (0, .ref h0), (1, .int (nI j)), (2, .int x)]) hx hb dL_takes_11 rfl hl (by decide) rfl (fun ls hl => ?_)
  refine lv_ldc (v := (-2000000002)) hx hb hown (hts _ kw_L_takes_25) dL_takes_12 ?_
  exact rn_Wiret hx hb hr rfl hlocks hS (by decide) (by decide) rfl (hF.kept (fun q hq => h2 q (hF.lt hq))) dL_takes_14

set_option maxHeartbeats 4000000 in
set_option maxRecDepth 100000 in
theorem l_takes_o (l : Launch) {D : va_G} {cR cP cF : ClassId} {h0 aR aP aF : Nat} {ra pa fa : Nat → Nat} {hd : Nat → Option Nat} {dh : Option Nat} {f : rn_T} {σ : rn_St} (hV : rn_V σ) (hC : rn_CI cR cP cF h0 aR aP aF ra pa fa hd dh f σ) {j x : Nat} (hj0 : j < σ.pn) (hx0 : x ≤ 998) (sz : Nat) : rn_W l yL_takes wsL_takes ({ frames := 8, cells := 1, slots := 6, locals := 140 } : Room) D (rn_tys cR cP cF) (rn_S D f) [.ref h0, .int (nI j), .int (nI x)] (some (.int ((rn_o_setNumber σ j x).1))) (rn_P D cR cP cF h0 f sz ((rn_o_setNumber σ j x).2)) (rn_A f sz) 1 6 sz := by
  refine rn_W.ofH (hh := [(0, 6, 7, 13), (0, 6, 11, 23)]) (cc := cL_takes) (maxL := 4) (ret := (some .int)) (by decide) rfl (Nat.le_of_ble_eq_true rfl) (fun p e s m below meth c ls hx hb hr hml hts hown hlocks hsz hF hG hS hl => ?_)
  have hl : lv_has ls 4 [(0, .ref h0), (1, .int (nI j)), (2, .int (nI x))] := hl
  subst hsz
  refine lv_aload_n hx hb dL_takes_0 rfl (lv_at hl 0 rfl) ?_
  refine lv_iload_n hx hb dL_takes_1 rfl (lv_at hl 1 rfl) ?_
  refine lv_iload_n hx hb dL_takes_2 rfl (lv_at hl 2 rfl) ?_
  refine rn_wV (As := [.int (nI j), .int (nI x)]) (rest := []) 2 hx hb hml hown hts hG hS (w_setNumber l hV hC hj0 hx0 _) (fun q h => h) gL_takes_X4_setNumber rfl ⟨rfl, rfl⟩ (by decide +kernel) ⟨Nat.le_of_ble_eq_true rfl, Nat.le_of_ble_eq_true rfl⟩ hF (hF _ _ hC.1.1) rfl rfl hl.1 rfl (Nat.le_of_ble_eq_true rfl) ⟨Nat.le_of_ble_eq_true rfl, Nat.le_of_ble_eq_true rfl⟩ dL_takes_3 (fun H locs hP1 hz hk hS => ?_)
  refine W.eq (g2 := F0 m 6 ls [.int ((rn_o_setNumber σ j x).1)]) rfl ?_
  exact rn_Wiret hx hb hr rfl hlocks hS (by decide) (by decide) rfl hP1 dL_takes_6

set_option maxHeartbeats 4000000 in
set_option maxRecDepth 100000 in
theorem l_room_p (l : Launch) (hfl : l.stackTraces = false) {D : va_G} {cR cP cF : ClassId} {h0 aR aP aF : Nat} {ra pa fa : Nat → Nat} {hd : Nat → Option Nat} {dh : Option Nat} {f : rn_T} {σ : rn_St} (hV : rn_V σ) (hC : rn_CI cR cP cF h0 aR aP aF ra pa fa hd dh f σ) {x  : Int32} (hno : ¬ ∃ i, i < σ.pn ∧ x = nI i) (sz : Nat) : rn_LT l yL_room wsL_room ({ frames := 8, cells := 1, slots := 6, locals := 140 } : Room) D (rn_tys cR cP cF) (rn_S D f) [.ref h0, .int x] (some (.int (-2000000001))) (rn_S D f) (fun q : Nat => sz ≤ q) 1 6 sz := by
  refine rn_LT.ofW (hh := [(0, 5, 6, 13)]) (cc := cL_room) (maxL := 3) (ret := (some .int)) (by decide) rfl (Nat.le_of_ble_eq_true rfl) (fun p e s m below meth c ls hx hb hr hml hts hown hlocks hsz hF hG hE htab hS hl => ?_)
  have hl : lv_has ls 3 [(0, .ref h0), (1, .int x)] := hl
  subst hsz
  refine lv_aload_n hx hb dL_room_0 rfl (lv_at hl 0 rfl) ?_
  refine lv_iload_n hx hb dL_room_1 rfl (lv_at hl 1 rfl) ?_
  refine rn_xVc (As := [.int x]) (rest := []) (E := rn_IO) 1 hx hb hml hown hts hG hE hS (x_roomOf_p l hfl hV hC hno _) gL_room_X4_roomOf rfl ⟨rfl, rfl⟩ (by decide +kernel) ⟨Nat.le_of_ble_eq_true rfl, Nat.le_of_ble_eq_true rfl⟩ hF (hF _ _ hC.1.1) rfl rfl hl.1 rfl (Nat.le_of_ble_eq_true rfl) ⟨Nat.le_of_ble_eq_true rfl, Nat.le_of_ble_eq_true rfl⟩ dL_room_2 [] ⟨0, 5, 6, 13⟩ [] htab (fun z hz => nomatch hz) (by decide) (by decide) (hts _ (by decide +kernel)) (by decide) (fun q9 H h1 h2 hS => ?_)
  refine lv_astore_n (lv' := [(2, .ref q9), (0, .ref h0), (1, .int x)]) hx hb dL_room_6 rfl hl (by decide) rfl (fun ls hl => ?_)
  refine lv_ldc (v := (-2000000001)) hx hb hown (hts _ kw_L_room_15) dL_room_7 ?_
  exact rn_Wiret hx hb hr rfl hlocks hS (by decide) (by decide) rfl (hF.kept (fun q hq => h2 q (hF.lt hq))) dL_room_9

set_option maxHeartbeats 4000000 in
set_option maxRecDepth 100000 in
theorem l_room_o (l : Launch) {D : va_G} {cR cP cF : ClassId} {h0 aR aP aF : Nat} {ra pa fa : Nat → Nat} {hd : Nat → Option Nat} {dh : Option Nat} {f : rn_T} {σ : rn_St} (hV : rn_V σ) (hC : rn_CI cR cP cF h0 aR aP aF ra pa fa hd dh f σ) {j : Nat} (hj0 : j < σ.pn) : rn_R l yL_room wsL_room ({ frames := 8, cells := 0, slots := 0, locals := 140 } : Room) D (rn_tys cR cP cF) (rn_S D f) [.ref h0, .int (nI j)] (some (.int (nI (σ.pl j)))) := by
  refine rn_R.ofH (hh := [(0, 5, 6, 13)]) (cc := cL_room) (maxL := 3) (ret := (some .int)) (by decide) rfl (Nat.le_of_ble_eq_true rfl) (fun p e s m below meth c ls hx hb hr hml hts hown hlocks hF hG hl => ?_)
  have hl : lv_has ls 3 [(0, .ref h0), (1, .int (nI j))] := hl
  refine lv_aload_n hx hb dL_room_0 rfl (lv_at hl 0 rfl) ?_
  refine lv_iload_n hx hb dL_room_1 rfl (lv_at hl 1 rfl) ?_
  refine rn_cV (As := [.int (nI j)]) (rest := []) 1 hx hb hml hown hts hG (c_roomOf l hV hC hj0) gL_room_X4_roomOf rfl ⟨rfl, rfl⟩ (by decide +kernel) ⟨Nat.le_of_ble_eq_true rfl, Nat.le_of_ble_eq_true rfl⟩ hF (hF _ _ hC.1.1) rfl rfl hl.1 rfl (Nat.le_of_ble_eq_true rfl) ⟨Nat.zero_le _, Nat.zero_le _⟩ dL_room_2 ?_
  refine W.eq (g2 := F0 m 5 ls [.int (nI (σ.pl j))]) rfl ?_
  exact rn_iret hx hb hr rfl hlocks rfl dL_room_5

set_option maxHeartbeats 4000000 in
set_option maxRecDepth 100000 in
theorem l_number_p (l : Launch) (hfl : l.stackTraces = false) {D : va_G} {cR cP cF : ClassId} {h0 aR aP aF : Nat} {ra pa fa : Nat → Nat} {hd : Nat → Option Nat} {dh : Option Nat} {f : rn_T} {σ : rn_St} (hV : rn_V σ) (hC : rn_CI cR cP cF h0 aR aP aF ra pa fa hd dh f σ) {x  : Int32} (hno : ¬ ∃ i, i < σ.pn ∧ x = nI i) (sz : Nat) : rn_LT l yL_number wsL_number ({ frames := 8, cells := 1, slots := 6, locals := 140 } : Room) D (rn_tys cR cP cF) (rn_S D f) [.ref h0, .int x] (some (.int (-2000000001))) (rn_S D f) (fun q : Nat => sz ≤ q) 1 6 sz := by
  refine rn_LT.ofW (hh := [(0, 5, 6, 13)]) (cc := cL_number) (maxL := 3) (ret := (some .int)) (by decide) rfl (Nat.le_of_ble_eq_true rfl) (fun p e s m below meth c ls hx hb hr hml hts hown hlocks hsz hF hG hE htab hS hl => ?_)
  have hl : lv_has ls 3 [(0, .ref h0), (1, .int x)] := hl
  subst hsz
  refine lv_aload_n hx hb dL_number_0 rfl (lv_at hl 0 rfl) ?_
  refine lv_iload_n hx hb dL_number_1 rfl (lv_at hl 1 rfl) ?_
  refine rn_xVc (As := [.int x]) (rest := []) (E := rn_IO) 1 hx hb hml hown hts hG hE hS (x_numberOf_p l hfl hV hC hno _) gL_number_X4_numberOf rfl ⟨rfl, rfl⟩ (by decide +kernel) ⟨Nat.le_of_ble_eq_true rfl, Nat.le_of_ble_eq_true rfl⟩ hF (hF _ _ hC.1.1) rfl rfl hl.1 rfl (Nat.le_of_ble_eq_true rfl) ⟨Nat.le_of_ble_eq_true rfl, Nat.le_of_ble_eq_true rfl⟩ dL_number_2 [] ⟨0, 5, 6, 13⟩ [] htab (fun z hz => nomatch hz) (by decide) (by decide) (hts _ (by decide +kernel)) (by decide) (fun q9 H h1 h2 hS => ?_)
  refine lv_astore_n (lv' := [(2, .ref q9), (0, .ref h0), (1, .int x)]) hx hb dL_number_6 rfl hl (by decide) rfl (fun ls hl => ?_)
  refine lv_ldc (v := (-2000000001)) hx hb hown (hts _ kw_L_number_15) dL_number_7 ?_
  exact rn_Wiret hx hb hr rfl hlocks hS (by decide) (by decide) rfl (hF.kept (fun q hq => h2 q (hF.lt hq))) dL_number_9

set_option maxHeartbeats 4000000 in
set_option maxRecDepth 100000 in
theorem l_number_o (l : Launch) {D : va_G} {cR cP cF : ClassId} {h0 aR aP aF : Nat} {ra pa fa : Nat → Nat} {hd : Nat → Option Nat} {dh : Option Nat} {f : rn_T} {σ : rn_St} (hV : rn_V σ) (hC : rn_CI cR cP cF h0 aR aP aF ra pa fa hd dh f σ) {j : Nat} (hj0 : j < σ.pn) : rn_R l yL_number wsL_number ({ frames := 8, cells := 0, slots := 0, locals := 140 } : Room) D (rn_tys cR cP cF) (rn_S D f) [.ref h0, .int (nI j)] (some (.int (nI (σ.pu j)))) := by
  refine rn_R.ofH (hh := [(0, 5, 6, 13)]) (cc := cL_number) (maxL := 3) (ret := (some .int)) (by decide) rfl (Nat.le_of_ble_eq_true rfl) (fun p e s m below meth c ls hx hb hr hml hts hown hlocks hF hG hl => ?_)
  have hl : lv_has ls 3 [(0, .ref h0), (1, .int (nI j))] := hl
  refine lv_aload_n hx hb dL_number_0 rfl (lv_at hl 0 rfl) ?_
  refine lv_iload_n hx hb dL_number_1 rfl (lv_at hl 1 rfl) ?_
  refine rn_cV (As := [.int (nI j)]) (rest := []) 1 hx hb hml hown hts hG (c_numberOf l hV hC hj0) gL_number_X4_numberOf rfl ⟨rfl, rfl⟩ (by decide +kernel) ⟨Nat.le_of_ble_eq_true rfl, Nat.le_of_ble_eq_true rfl⟩ hF (hF _ _ hC.1.1) rfl rfl hl.1 rfl (Nat.le_of_ble_eq_true rfl) ⟨Nat.zero_le _, Nat.zero_le _⟩ dL_number_2 ?_
  refine W.eq (g2 := F0 m 5 ls [.int (nI (σ.pu j))]) rfl ?_
  exact rn_iret hx hb hr rfl hlocks rfl dL_number_5

set_option maxHeartbeats 4000000 in
set_option maxRecDepth 100000 in
theorem l_rights_p (l : Launch) (hfl : l.stackTraces = false) {D : va_G} {cR cP cF : ClassId} {h0 aR aP aF : Nat} {ra pa fa : Nat → Nat} {hd : Nat → Option Nat} {dh : Option Nat} {f : rn_T} {σ : rn_St} (hV : rn_V σ) (hC : rn_CI cR cP cF h0 aR aP aF ra pa fa hd dh f σ) {x e1 : Int32} (hno : ¬ ∃ i, i < σ.pn ∧ x = nI i) (sz : Nat) : rn_LT l yL_rights wsL_rights ({ frames := 8, cells := 1, slots := 6, locals := 140 } : Room) D (rn_tys cR cP cF) (rn_S D f) [.ref h0, .int x, .int e1] (some (.int (-2000000001))) (rn_S D f) (fun q : Nat => sz ≤ q) 1 6 sz := by
  refine rn_LT.ofW (hh := [(0, 6, 7, 13)]) (cc := cL_rights) (maxL := 4) (ret := (some .int)) (by decide) rfl (Nat.le_of_ble_eq_true rfl) (fun p e s m below meth c ls hx hb hr hml hts hown hlocks hsz hF hG hE htab hS hl => ?_)
  have hl : lv_has ls 4 [(0, .ref h0), (1, .int x), (2, .int e1)] := hl
  subst hsz
  refine lv_aload_n hx hb dL_rights_0 rfl (lv_at hl 0 rfl) ?_
  refine lv_iload_n hx hb dL_rights_1 rfl (lv_at hl 1 rfl) ?_
  refine lv_iload_n hx hb dL_rights_2 rfl (lv_at hl 2 rfl) ?_
  refine rn_xVc (As := [.int x, .int e1]) (rest := []) (E := rn_IO) 2 hx hb hml hown hts hG hE hS (x_rightsIn_p l hfl hV hC hno _) gL_rights_X4_rightsIn rfl ⟨rfl, rfl⟩ (by decide +kernel) ⟨Nat.le_of_ble_eq_true rfl, Nat.le_of_ble_eq_true rfl⟩ hF (hF _ _ hC.1.1) rfl rfl hl.1 rfl (Nat.le_of_ble_eq_true rfl) ⟨Nat.le_of_ble_eq_true rfl, Nat.le_of_ble_eq_true rfl⟩ dL_rights_3 [] ⟨0, 6, 7, 13⟩ [] htab (fun z hz => nomatch hz) (by decide) (by decide) (hts _ (by decide +kernel)) (by decide) (fun q9 H h1 h2 hS => ?_)
  refine lv_astore_n (lv' := [(3, .ref q9), (0, .ref h0), (1, .int x), (2, .int e1)]) hx hb dL_rights_7 rfl hl (by decide) rfl (fun ls hl => ?_)
  refine lv_ldc (v := (-2000000001)) hx hb hown (hts _ kw_L_rights_15) dL_rights_8 ?_
  exact rn_Wiret hx hb hr rfl hlocks hS (by decide) (by decide) rfl (hF.kept (fun q hq => h2 q (hF.lt hq))) dL_rights_10

set_option maxHeartbeats 4000000 in
set_option maxRecDepth 100000 in
theorem l_rights_r (l : Launch) (hfl : l.stackTraces = false) {D : va_G} {cR cP cF : ClassId} {h0 aR aP aF : Nat} {ra pa fa : Nat → Nat} {hd : Nat → Option Nat} {dh : Option Nat} {f : rn_T} {σ : rn_St} (hV : rn_V σ) (hC : rn_CI cR cP cF h0 aR aP aF ra pa fa hd dh f σ) {j : Nat} (hj0 : j < σ.pn) {x : Int32} (hno : ¬ ∃ i, i < σ.sn ∧ x = nI i) (sz : Nat) : rn_LT l yL_rights wsL_rights ({ frames := 8, cells := 1, slots := 6, locals := 140 } : Room) D (rn_tys cR cP cF) (rn_S D f) [.ref h0, .int (nI j), .int x] (some (.int (-2000000001))) (rn_S D f) (fun q : Nat => sz ≤ q) 1 6 sz := by
  refine rn_LT.ofW (hh := [(0, 6, 7, 13)]) (cc := cL_rights) (maxL := 4) (ret := (some .int)) (by decide) rfl (Nat.le_of_ble_eq_true rfl) (fun p e s m below meth c ls hx hb hr hml hts hown hlocks hsz hF hG hE htab hS hl => ?_)
  have hl : lv_has ls 4 [(0, .ref h0), (1, .int (nI j)), (2, .int x)] := hl
  subst hsz
  refine lv_aload_n hx hb dL_rights_0 rfl (lv_at hl 0 rfl) ?_
  refine lv_iload_n hx hb dL_rights_1 rfl (lv_at hl 1 rfl) ?_
  refine lv_iload_n hx hb dL_rights_2 rfl (lv_at hl 2 rfl) ?_
  refine rn_xVc (As := [.int (nI j), .int x]) (rest := []) (E := rn_IO) 2 hx hb hml hown hts hG hE hS (x_rightsIn_r l hfl hV hC hj0 hno _) gL_rights_X4_rightsIn rfl ⟨rfl, rfl⟩ (by decide +kernel) ⟨Nat.le_of_ble_eq_true rfl, Nat.le_of_ble_eq_true rfl⟩ hF (hF _ _ hC.1.1) rfl rfl hl.1 rfl (Nat.le_of_ble_eq_true rfl) ⟨Nat.le_of_ble_eq_true rfl, Nat.le_of_ble_eq_true rfl⟩ dL_rights_3 [] ⟨0, 6, 7, 13⟩ [] htab (fun z hz => nomatch hz) (by decide) (by decide) (hts _ (by decide +kernel)) (by decide) (fun q9 H h1 h2 hS => ?_)
  refine lv_astore_n (lv' := [(3, .ref q9), (0, .ref h0), (1, .int (nI j)), (2, .int x)]) hx hb dL_rights_7 rfl hl (by decide) rfl (fun ls hl => ?_)
  refine lv_ldc (v := (-2000000001)) hx hb hown (hts _ kw_L_rights_15) dL_rights_8 ?_
  exact rn_Wiret hx hb hr rfl hlocks hS (by decide) (by decide) rfl (hF.kept (fun q hq => h2 q (hF.lt hq))) dL_rights_10

set_option maxHeartbeats 4000000 in
set_option maxRecDepth 100000 in
theorem l_rights_o (l : Launch) {D : va_G} {cR cP cF : ClassId} {h0 aR aP aF : Nat} {ra pa fa : Nat → Nat} {hd : Nat → Option Nat} {dh : Option Nat} {f : rn_T} {σ : rn_St} (hV : rn_V σ) (hC : rn_CI cR cP cF h0 aR aP aF ra pa fa hd dh f σ) {j i : Nat} (hj0 : j < σ.pn) (hi0 : i < σ.sn) : rn_R l yL_rights wsL_rights ({ frames := 8, cells := 0, slots := 0, locals := 140 } : Room) D (rn_tys cR cP cF) (rn_S D f) [.ref h0, .int (nI j), .int (nI i)] (some (.int (rn_held σ j i))) := by
  refine rn_R.ofH (hh := [(0, 6, 7, 13)]) (cc := cL_rights) (maxL := 4) (ret := (some .int)) (by decide) rfl (Nat.le_of_ble_eq_true rfl) (fun p e s m below meth c ls hx hb hr hml hts hown hlocks hF hG hl => ?_)
  have hl : lv_has ls 4 [(0, .ref h0), (1, .int (nI j)), (2, .int (nI i))] := hl
  refine lv_aload_n hx hb dL_rights_0 rfl (lv_at hl 0 rfl) ?_
  refine lv_iload_n hx hb dL_rights_1 rfl (lv_at hl 1 rfl) ?_
  refine lv_iload_n hx hb dL_rights_2 rfl (lv_at hl 2 rfl) ?_
  refine rn_cV (As := [.int (nI j), .int (nI i)]) (rest := []) 2 hx hb hml hown hts hG (c_rightsIn l hV hC hj0 hi0) gL_rights_X4_rightsIn rfl ⟨rfl, rfl⟩ (by decide +kernel) ⟨Nat.le_of_ble_eq_true rfl, Nat.le_of_ble_eq_true rfl⟩ hF (hF _ _ hC.1.1) rfl rfl hl.1 rfl (Nat.le_of_ble_eq_true rfl) ⟨Nat.zero_le _, Nat.zero_le _⟩ dL_rights_3 ?_
  refine W.eq (g2 := F0 m 6 ls [.int (rn_held σ j i)]) rfl ?_
  exact rn_iret hx hb hr rfl hlocks rfl dL_rights_6

set_option maxHeartbeats 4000000 in
set_option maxRecDepth 100000 in
theorem l_files_p (l : Launch) (hfl : l.stackTraces = false) {D : va_G} {cR cP cF : ClassId} {h0 aR aP aF : Nat} {ra pa fa : Nat → Nat} {hd : Nat → Option Nat} {dh : Option Nat} {f : rn_T} {σ : rn_St} (hV : rn_V σ) (hC : rn_CI cR cP cF h0 aR aP aF ra pa fa hd dh f σ) {x e1 : Int32} (hno : ¬ ∃ i, i < σ.pn ∧ x = nI i) (sz : Nat) : rn_LT l yL_files wsL_files ({ frames := 8, cells := 1, slots := 6, locals := 140 } : Room) D (rn_tys cR cP cF) (rn_S D f) [.ref h0, .int x, .int e1] (some (.int (-2000000001))) (rn_S D f) (fun q : Nat => sz ≤ q) 1 6 sz := by
  refine rn_LT.ofW (hh := [(0, 6, 7, 13), (0, 6, 11, 23), (0, 6, 15, 16)]) (cc := cL_files) (maxL := 4) (ret := (some .int)) (by decide) rfl (Nat.le_of_ble_eq_true rfl) (fun p e s m below meth c ls hx hb hr hml hts hown hlocks hsz hF hG hE htab hS hl => ?_)
  have hl : lv_has ls 4 [(0, .ref h0), (1, .int x), (2, .int e1)] := hl
  subst hsz
  refine lv_aload_n hx hb dL_files_0 rfl (lv_at hl 0 rfl) ?_
  refine lv_iload_n hx hb dL_files_1 rfl (lv_at hl 1 rfl) ?_
  refine lv_iload_n hx hb dL_files_2 rfl (lv_at hl 2 rfl) ?_
  refine rn_xVc (As := [.int x, .int e1]) (rest := []) (E := rn_IO) 2 hx hb hml hown hts hG hE hS (x_makeFile_p l hfl hV hC hno _) gL_files_X4_makeFile rfl ⟨rfl, rfl⟩ (by decide +kernel) ⟨Nat.le_of_ble_eq_true rfl, Nat.le_of_ble_eq_true rfl⟩ hF (hF _ _ hC.1.1) rfl rfl hl.1 rfl (Nat.le_of_ble_eq_true rfl) ⟨Nat.le_of_ble_eq_true rfl, Nat.le_of_ble_eq_true rfl⟩ dL_files_3 [] ⟨0, 6, 7, 13⟩ [⟨0, 6, 11, 23⟩, ⟨0, 6, 15, 16⟩] htab (fun z hz => nomatch hz) (by decide) (by decide) (hts _ (by decide +kernel)) (by decide) (fun q9 H h1 h2 hS => ?_)
  refine lv_astore_n (lv' := [(3, .ref q9), (0, .ref h0), (1, .int x), (2, .int e1)]) hx hb dL_files_7 rfl hl (by decide) rfl (fun ls hl => ?_)
  refine lv_ldc (v := (-2000000001)) hx hb hown (hts _ kw_L_files_15) dL_files_8 ?_
  exact rn_Wiret hx hb hr rfl hlocks hS (by decide) (by decide) rfl (hF.kept (fun q hq => h2 q (hF.lt hq))) dL_files_10

set_option maxHeartbeats 4000000 in
set_option maxRecDepth 100000 in
theorem l_files_n (l : Launch) (hfl : l.stackTraces = false) {D : va_G} {cR cP cF : ClassId} {h0 aR aP aF : Nat} {ra pa fa : Nat → Nat} {hd : Nat → Option Nat} {dh : Option Nat} {f : rn_T} {σ : rn_St} (hV : rn_V σ) (hC : rn_CI cR cP cF h0 aR aP aF ra pa fa hd dh f σ) {j : Nat} (hj0 : j < σ.pn) {x : Int32} (hbad : x < 0 ∨ nI 15 < x) (sz : Nat) : rn_LT l yL_files wsL_files ({ frames := 8, cells := 1, slots := 6, locals := 140 } : Room) D (rn_tys cR cP cF) (rn_S D f) [.ref h0, .int (nI j), .int x] (some (.int (-2000000002))) (rn_S D f) (fun q : Nat => sz ≤ q) 1 6 sz := by
  refine rn_LT.ofW (hh := [(0, 6, 7, 13), (0, 6, 11, 23), (0, 6, 15, 16)]) (cc := cL_files) (maxL := 4) (ret := (some .int)) (by decide) rfl (Nat.le_of_ble_eq_true rfl) (fun p e s m below meth c ls hx hb hr hml hts hown hlocks hsz hF hG hE htab hS hl => ?_)
  have hl : lv_has ls 4 [(0, .ref h0), (1, .int (nI j)), (2, .int x)] := hl
  subst hsz
  refine lv_aload_n hx hb dL_files_0 rfl (lv_at hl 0 rfl) ?_
  refine lv_iload_n hx hb dL_files_1 rfl (lv_at hl 1 rfl) ?_
  refine lv_iload_n hx hb dL_files_2 rfl (lv_at hl 2 rfl) ?_
  refine rn_xVc (As := [.int (nI j), .int x]) (rest := []) (E := rn_IA) 2 hx hb hml hown hts hG hE hS (x_makeFile_n l hfl hV hC hj0 hbad _) gL_files_X4_makeFile rfl ⟨rfl, rfl⟩ (by decide +kernel) ⟨Nat.le_of_ble_eq_true rfl, Nat.le_of_ble_eq_true rfl⟩ hF (hF _ _ hC.1.1) rfl rfl hl.1 rfl (Nat.le_of_ble_eq_true rfl) ⟨Nat.le_of_ble_eq_true rfl, Nat.le_of_ble_eq_true rfl⟩ dL_files_3 [⟨0, 6, 7, 13⟩] ⟨0, 6, 11, 23⟩ [⟨0, 6, 15, 16⟩] htab (fun z hz => by rw [List.mem_singleton.mp hz]; exact Or.inr ⟨(by decide : 13 ≠ 0), rn_IO, hts _ (by decide +kernel), hE.2.2.1 (rn_IA, rn_IO) (by decide)⟩) (by decide) (by decide) (hts _ (by decide +kernel)) (by decide) (fun q9 H h1 h2 hS => ?_)
  refine lv_astore_n (lv' := [(3, .ref q9), (0, .ref h0), (1, .int (nI j)), (2, .int x)]) hx hb dL_files_11 rfl hl (by decide) rfl (fun ls hl => ?_)
  refine lv_ldc (v := (-2000000002)) hx hb hown (hts _ kw_L_files_25) dL_files_12 ?_
  exact rn_Wiret hx hb hr rfl hlocks hS (by decide) (by decide) rfl (hF.kept (fun q hq => h2 q (hF.lt hq))) dL_files_14

set_option maxHeartbeats 4000000 in
set_option maxRecDepth 100000 in
theorem l_files_s (l : Launch) (hfl : l.stackTraces = false) {D : va_G} {cR cP cF : ClassId} {h0 aR aP aF : Nat} {ra pa fa : Nat → Nat} {hd : Nat → Option Nat} {dh : Option Nat} {f : rn_T} {σ : rn_St} (hV : rn_V σ) (hC : rn_CI cR cP cF h0 aR aP aF ra pa fa hd dh f σ) {j k : Nat} (hj0 : j < σ.pn) (hk0 : k ≤ 15) (hfull : σ.fn = 20) (sz : Nat) : rn_LT l yL_files wsL_files ({ frames := 8, cells := 1, slots := 6, locals := 140 } : Room) D (rn_tys cR cP cF) (rn_S D f) [.ref h0, .int (nI j), .int (nI k)] (some (.int (-2000000003))) (rn_S D f) (fun q : Nat => sz ≤ q) 1 6 sz := by
  refine rn_LT.ofW (hh := [(0, 6, 7, 13), (0, 6, 11, 23), (0, 6, 15, 16)]) (cc := cL_files) (maxL := 4) (ret := (some .int)) (by decide) rfl (Nat.le_of_ble_eq_true rfl) (fun p e s m below meth c ls hx hb hr hml hts hown hlocks hsz hF hG hE htab hS hl => ?_)
  have hl : lv_has ls 4 [(0, .ref h0), (1, .int (nI j)), (2, .int (nI k))] := hl
  subst hsz
  refine lv_aload_n hx hb dL_files_0 rfl (lv_at hl 0 rfl) ?_
  refine lv_iload_n hx hb dL_files_1 rfl (lv_at hl 1 rfl) ?_
  refine lv_iload_n hx hb dL_files_2 rfl (lv_at hl 2 rfl) ?_
  refine rn_xVc (As := [.int (nI j), .int (nI k)]) (rest := []) (E := rn_IS) 2 hx hb hml hown hts hG hE hS (x_makeFile_s l hfl hV hC hj0 hk0 hfull _) gL_files_X4_makeFile rfl ⟨rfl, rfl⟩ (by decide +kernel) ⟨Nat.le_of_ble_eq_true rfl, Nat.le_of_ble_eq_true rfl⟩ hF (hF _ _ hC.1.1) rfl rfl hl.1 rfl (Nat.le_of_ble_eq_true rfl) ⟨Nat.le_of_ble_eq_true rfl, Nat.le_of_ble_eq_true rfl⟩ dL_files_3 [⟨0, 6, 7, 13⟩, ⟨0, 6, 11, 23⟩] ⟨0, 6, 15, 16⟩ [] htab (fun z hz => by rcases List.mem_cons.mp hz with rfl | hz; exact Or.inr ⟨(by decide : 13 ≠ 0), rn_IO, hts _ (by decide +kernel), hE.2.2.1 (rn_IS, rn_IO) (by decide)⟩; rw [List.mem_singleton.mp hz]; exact Or.inr ⟨(by decide : 23 ≠ 0), rn_IA, hts _ (by decide +kernel), hE.2.2.1 (rn_IS, rn_IA) (by decide)⟩) (by decide) (by decide) (hts _ (by decide +kernel)) (by decide) (fun q9 H h1 h2 hS => ?_)
  refine lv_astore_n (lv' := [(3, .ref q9), (0, .ref h0), (1, .int (nI j)), (2, .int (nI k))]) hx hb dL_files_15 rfl hl (by decide) rfl (fun ls hl => ?_)
  refine lv_ldc (v := (-2000000003)) hx hb hown (hts _ kw_L_files_18) dL_files_16 ?_
  exact rn_Wiret hx hb hr rfl hlocks hS (by decide) (by decide) rfl (hF.kept (fun q hq => h2 q (hF.lt hq))) dL_files_18

set_option maxHeartbeats 4000000 in
set_option maxRecDepth 100000 in
theorem l_files_o (l : Launch) {D : va_G} {cR cP cF : ClassId} {h0 aR aP aF : Nat} {ra pa fa : Nat → Nat} {hd : Nat → Option Nat} {dh : Option Nat} {f : rn_T} {σ : rn_St} (hV : rn_V σ) (hC : rn_CI cR cP cF h0 aR aP aF ra pa fa hd dh f σ) {j k : Nat} (hj0 : j < σ.pn) (hk0 : k ≤ 15) (hn0 : σ.fn < 20) (sz : Nat) : rn_W l yL_files wsL_files ({ frames := 8, cells := 1, slots := 6, locals := 140 } : Room) D (rn_tys cR cP cF) (rn_S D f) [.ref h0, .int (nI j), .int (nI k)] (some (.int ((rn_o_makeFile σ j (nI k)).1))) (rn_P D cR cP cF h0 f sz ((rn_o_makeFile σ j (nI k)).2)) (rn_A f sz) 1 6 sz := by
  refine rn_W.ofH (hh := [(0, 6, 7, 13), (0, 6, 11, 23), (0, 6, 15, 16)]) (cc := cL_files) (maxL := 4) (ret := (some .int)) (by decide) rfl (Nat.le_of_ble_eq_true rfl) (fun p e s m below meth c ls hx hb hr hml hts hown hlocks hsz hF hG hS hl => ?_)
  have hl : lv_has ls 4 [(0, .ref h0), (1, .int (nI j)), (2, .int (nI k))] := hl
  subst hsz
  refine lv_aload_n hx hb dL_files_0 rfl (lv_at hl 0 rfl) ?_
  refine lv_iload_n hx hb dL_files_1 rfl (lv_at hl 1 rfl) ?_
  refine lv_iload_n hx hb dL_files_2 rfl (lv_at hl 2 rfl) ?_
  refine rn_wV (As := [.int (nI j), .int (nI k)]) (rest := []) 2 hx hb hml hown hts hG hS (w_makeFile l hV hC hj0 hk0 hn0 _) (fun q h => h) gL_files_X4_makeFile rfl ⟨rfl, rfl⟩ (by decide +kernel) ⟨Nat.le_of_ble_eq_true rfl, Nat.le_of_ble_eq_true rfl⟩ hF (hF _ _ hC.1.1) rfl rfl hl.1 rfl (Nat.le_of_ble_eq_true rfl) ⟨Nat.le_of_ble_eq_true rfl, Nat.le_of_ble_eq_true rfl⟩ dL_files_3 (fun H locs hP1 hz hk hS => ?_)
  refine W.eq (g2 := F0 m 6 ls [.int ((rn_o_makeFile σ j (nI k)).1)]) rfl ?_
  exact rn_Wiret hx hb hr rfl hlocks hS (by decide) (by decide) rfl hP1 dL_files_6

set_option maxHeartbeats 4000000 in
set_option maxRecDepth 100000 in
theorem l_hands_p (l : Launch) (hfl : l.stackTraces = false) {D : va_G} {cR cP cF : ClassId} {h0 aR aP aF : Nat} {ra pa fa : Nat → Nat} {hd : Nat → Option Nat} {dh : Option Nat} {f : rn_T} {σ : rn_St} (hV : rn_V σ) (hC : rn_CI cR cP cF h0 aR aP aF ra pa fa hd dh f σ) {x e1 e2 : Int32} (hno : ¬ ∃ i, i < σ.pn ∧ x = nI i) (sz : Nat) : rn_LT l yL_hands wsL_hands ({ frames := 8, cells := 1, slots := 6, locals := 140 } : Room) D (rn_tys cR cP cF) (rn_S D f) [.ref h0, .int x, .int e1, .int e2] (some (.int (-2000000001))) (rn_S D f) (fun q : Nat => sz ≤ q) 1 6 sz := by
  refine rn_LT.ofW (hh := [(0, 7, 8, 13), (0, 7, 13, 23)]) (cc := cL_hands) (maxL := 5) (ret := (some .int)) (by decide) rfl (Nat.le_of_ble_eq_true rfl) (fun p e s m below meth c ls hx hb hr hml hts hown hlocks hsz hF hG hE htab hS hl => ?_)
  have hl : lv_has ls 5 [(0, .ref h0), (1, .int x), (2, .int e1), (3, .int e2)] := hl
  subst hsz
  refine lv_aload_n hx hb dL_hands_0 rfl (lv_at hl 0 rfl) ?_
  refine lv_iload_n hx hb dL_hands_1 rfl (lv_at hl 1 rfl) ?_
  refine lv_iload_n hx hb dL_hands_2 rfl (lv_at hl 2 rfl) ?_
  refine lv_iload_n hx hb dL_hands_3 rfl (lv_at hl 3 rfl) ?_
  refine rn_xVc (As := [.int x, .int e1, .int e2]) (rest := []) (E := rn_IO) 3 hx hb hml hown hts hG hE hS (x_handOver_p l hfl hV hC hno _) gL_hands_X4_handOver rfl ⟨rfl, rfl⟩ (by decide +kernel) ⟨Nat.le_of_ble_eq_true rfl, Nat.le_of_ble_eq_true rfl⟩ hF (hF _ _ hC.1.1) rfl rfl hl.1 rfl (Nat.le_of_ble_eq_true rfl) ⟨Nat.le_of_ble_eq_true rfl, Nat.le_of_ble_eq_true rfl⟩ dL_hands_4 [] ⟨0, 7, 8, 13⟩ [⟨0, 7, 13, 23⟩] htab (fun z hz => nomatch hz) (by decide) (by decide) (hts _ (by decide +kernel)) (by decide) (fun q9 H h1 h2 hS => ?_)
  refine lv_astore (lv' := [(4, .ref q9), (0, .ref h0), (1, .int x), (2, .int e1), (3, .int e2)]) hx hb dL_hands_8 hl (by decide) rfl (fun ls hl => ?_)
  refine lv_ldc (v := (-2000000001)) hx hb hown (hts _ kw_L_hands_15) dL_hands_10 ?_
  exact rn_Wiret hx hb hr rfl hlocks hS (by decide) (by decide) rfl (hF.kept (fun q hq => h2 q (hF.lt hq))) dL_hands_12

set_option maxHeartbeats 4000000 in
set_option maxRecDepth 100000 in
theorem l_hands_f (l : Launch) (hfl : l.stackTraces = false) {D : va_G} {cR cP cF : ClassId} {h0 aR aP aF : Nat} {ra pa fa : Nat → Nat} {hd : Nat → Option Nat} {dh : Option Nat} {f : rn_T} {σ : rn_St} (hV : rn_V σ) (hC : rn_CI cR cP cF h0 aR aP aF ra pa fa hd dh f σ) {j : Nat} (hj0 : j < σ.pn) {x e2 : Int32} (hno : ¬ ∃ i, i < σ.fn ∧ x = nI i) (sz : Nat) : rn_LT l yL_hands wsL_hands ({ frames := 8, cells := 1, slots := 6, locals := 140 } : Room) D (rn_tys cR cP cF) (rn_S D f) [.ref h0, .int (nI j), .int x, .int e2] (some (.int (-2000000001))) (rn_S D f) (fun q : Nat => sz ≤ q) 1 6 sz := by
  refine rn_LT.ofW (hh := [(0, 7, 8, 13), (0, 7, 13, 23)]) (cc := cL_hands) (maxL := 5) (ret := (some .int)) (by decide) rfl (Nat.le_of_ble_eq_true rfl) (fun p e s m below meth c ls hx hb hr hml hts hown hlocks hsz hF hG hE htab hS hl => ?_)
  have hl : lv_has ls 5 [(0, .ref h0), (1, .int (nI j)), (2, .int x), (3, .int e2)] := hl
  subst hsz
  refine lv_aload_n hx hb dL_hands_0 rfl (lv_at hl 0 rfl) ?_
  refine lv_iload_n hx hb dL_hands_1 rfl (lv_at hl 1 rfl) ?_
  refine lv_iload_n hx hb dL_hands_2 rfl (lv_at hl 2 rfl) ?_
  refine lv_iload_n hx hb dL_hands_3 rfl (lv_at hl 3 rfl) ?_
  refine rn_xVc (As := [.int (nI j), .int x, .int e2]) (rest := []) (E := rn_IO) 3 hx hb hml hown hts hG hE hS (x_handOver_f l hfl hV hC hj0 hno _) gL_hands_X4_handOver rfl ⟨rfl, rfl⟩ (by decide +kernel) ⟨Nat.le_of_ble_eq_true rfl, Nat.le_of_ble_eq_true rfl⟩ hF (hF _ _ hC.1.1) rfl rfl hl.1 rfl (Nat.le_of_ble_eq_true rfl) ⟨Nat.le_of_ble_eq_true rfl, Nat.le_of_ble_eq_true rfl⟩ dL_hands_4 [] ⟨0, 7, 8, 13⟩ [⟨0, 7, 13, 23⟩] htab (fun z hz => nomatch hz) (by decide) (by decide) (hts _ (by decide +kernel)) (by decide) (fun q9 H h1 h2 hS => ?_)
  refine lv_astore (lv' := [(4, .ref q9), (0, .ref h0), (1, .int (nI j)), (2, .int x), (3, .int e2)]) hx hb dL_hands_8 hl (by decide) rfl (fun ls hl => ?_)
  refine lv_ldc (v := (-2000000001)) hx hb hown (hts _ kw_L_hands_15) dL_hands_10 ?_
  exact rn_Wiret hx hb hr rfl hlocks hS (by decide) (by decide) rfl (hF.kept (fun q hq => h2 q (hF.lt hq))) dL_hands_12

set_option maxHeartbeats 4000000 in
set_option maxRecDepth 100000 in
theorem l_hands_n (l : Launch) (hfl : l.stackTraces = false) {D : va_G} {cR cP cF : ClassId} {h0 aR aP aF : Nat} {ra pa fa : Nat → Nat} {hd : Nat → Option Nat} {dh : Option Nat} {f : rn_T} {σ : rn_St} (hV : rn_V σ) (hC : rn_CI cR cP cF h0 aR aP aF ra pa fa hd dh f σ) {j k : Nat} (hj0 : j < σ.pn) (hk0 : k < σ.fn) {x : Int32} (hbad : x < 0 ∨ nI 998 < x) (sz : Nat) : rn_LT l yL_hands wsL_hands ({ frames := 8, cells := 1, slots := 6, locals := 140 } : Room) D (rn_tys cR cP cF) (rn_S D f) [.ref h0, .int (nI j), .int (nI k), .int x] (some (.int (-2000000002))) (rn_S D f) (fun q : Nat => sz ≤ q) 1 6 sz := by
  refine rn_LT.ofW (hh := [(0, 7, 8, 13), (0, 7, 13, 23)]) (cc := cL_hands) (maxL := 5) (ret := (some .int)) (by decide) rfl (Nat.le_of_ble_eq_true rfl) (fun p e s m below meth c ls hx hb hr hml hts hown hlocks hsz hF hG hE htab hS hl => ?_)
  have hl : lv_has ls 5 [(0, .ref h0), (1, .int (nI j)), (2, .int (nI k)), (3, .int x)] := hl
  subst hsz
  refine lv_aload_n hx hb dL_hands_0 rfl (lv_at hl 0 rfl) ?_
  refine lv_iload_n hx hb dL_hands_1 rfl (lv_at hl 1 rfl) ?_
  refine lv_iload_n hx hb dL_hands_2 rfl (lv_at hl 2 rfl) ?_
  refine lv_iload_n hx hb dL_hands_3 rfl (lv_at hl 3 rfl) ?_
  refine rn_xVc (As := [.int (nI j), .int (nI k), .int x]) (rest := []) (E := rn_IA) 3 hx hb hml hown hts hG hE hS (x_handOver_n l hfl hV hC hj0 hk0 hbad _) gL_hands_X4_handOver rfl ⟨rfl, rfl⟩ (by decide +kernel) ⟨Nat.le_of_ble_eq_true rfl, Nat.le_of_ble_eq_true rfl⟩ hF (hF _ _ hC.1.1) rfl rfl hl.1 rfl (Nat.le_of_ble_eq_true rfl) ⟨Nat.le_of_ble_eq_true rfl, Nat.le_of_ble_eq_true rfl⟩ dL_hands_4 [⟨0, 7, 8, 13⟩] ⟨0, 7, 13, 23⟩ [] htab (fun z hz => by rw [List.mem_singleton.mp hz]; exact Or.inr ⟨(by decide : 13 ≠ 0), rn_IO, hts _ (by decide +kernel), hE.2.2.1 (rn_IA, rn_IO) (by decide)⟩) (by decide) (by decide) (hts _ (by decide +kernel)) (by decide) (fun q9 H h1 h2 hS => ?_)
  refine lv_astore (lv' := [(4, .ref q9), (0, .ref h0), (1, .int (nI j)), (2, .int (nI k)), (3, .int x)]) hx hb dL_hands_13 hl (by decide) rfl (fun ls hl => ?_)
  refine lv_ldc (v := (-2000000002)) hx hb hown (hts _ kw_L_hands_25) dL_hands_15 ?_
  exact rn_Wiret hx hb hr rfl hlocks hS (by decide) (by decide) rfl (hF.kept (fun q hq => h2 q (hF.lt hq))) dL_hands_17

set_option maxHeartbeats 4000000 in
set_option maxRecDepth 100000 in
theorem l_hands_o (l : Launch) {D : va_G} {cR cP cF : ClassId} {h0 aR aP aF : Nat} {ra pa fa : Nat → Nat} {hd : Nat → Option Nat} {dh : Option Nat} {f : rn_T} {σ : rn_St} (hV : rn_V σ) (hC : rn_CI cR cP cF h0 aR aP aF ra pa fa hd dh f σ) {j k x : Nat} (hj0 : j < σ.pn) (hk0 : k < σ.fn) (hx0 : x ≤ 998) (sz : Nat) : rn_W l yL_hands wsL_hands ({ frames := 8, cells := 1, slots := 6, locals := 140 } : Room) D (rn_tys cR cP cF) (rn_S D f) [.ref h0, .int (nI j), .int (nI k), .int (nI x)] (some (.int ((rn_o_handOver σ j k x).1))) (rn_P D cR cP cF h0 f sz ((rn_o_handOver σ j k x).2)) (rn_A f sz) 1 6 sz := by
  refine rn_W.ofH (hh := [(0, 7, 8, 13), (0, 7, 13, 23)]) (cc := cL_hands) (maxL := 5) (ret := (some .int)) (by decide) rfl (Nat.le_of_ble_eq_true rfl) (fun p e s m below meth c ls hx hb hr hml hts hown hlocks hsz hF hG hS hl => ?_)
  have hl : lv_has ls 5 [(0, .ref h0), (1, .int (nI j)), (2, .int (nI k)), (3, .int (nI x))] := hl
  subst hsz
  refine lv_aload_n hx hb dL_hands_0 rfl (lv_at hl 0 rfl) ?_
  refine lv_iload_n hx hb dL_hands_1 rfl (lv_at hl 1 rfl) ?_
  refine lv_iload_n hx hb dL_hands_2 rfl (lv_at hl 2 rfl) ?_
  refine lv_iload_n hx hb dL_hands_3 rfl (lv_at hl 3 rfl) ?_
  refine rn_wV (As := [.int (nI j), .int (nI k), .int (nI x)]) (rest := []) 3 hx hb hml hown hts hG hS (w_handOver l hV hC hj0 hk0 hx0 _) (fun q h => h) gL_hands_X4_handOver rfl ⟨rfl, rfl⟩ (by decide +kernel) ⟨Nat.le_of_ble_eq_true rfl, Nat.le_of_ble_eq_true rfl⟩ hF (hF _ _ hC.1.1) rfl rfl hl.1 rfl (Nat.le_of_ble_eq_true rfl) ⟨Nat.le_of_ble_eq_true rfl, Nat.le_of_ble_eq_true rfl⟩ dL_hands_4 (fun H locs hP1 hz hk hS => ?_)
  refine W.eq (g2 := F0 m 7 ls [.int ((rn_o_handOver σ j k x).1)]) rfl ?_
  exact rn_Wiret hx hb hr rfl hlocks hS (by decide) (by decide) rfl hP1 dL_hands_7

set_option maxHeartbeats 4000000 in
set_option maxRecDepth 100000 in
theorem l_opens_p (l : Launch) (hfl : l.stackTraces = false) {D : va_G} {cR cP cF : ClassId} {h0 aR aP aF : Nat} {ra pa fa : Nat → Nat} {hd : Nat → Option Nat} {dh : Option Nat} {f : rn_T} {σ : rn_St} (hV : rn_V σ) (hC : rn_CI cR cP cF h0 aR aP aF ra pa fa hd dh f σ) {x e1 e2 : Int32} (hno : ¬ ∃ i, i < σ.pn ∧ x = nI i) (sz : Nat) : rn_LT l yL_opens wsL_opens ({ frames := 8, cells := 1, slots := 6, locals := 140 } : Room) D (rn_tys cR cP cF) (rn_S D f) [.ref h0, .int x, .int e1, .int e2] (some (.int (-2000000001))) (rn_S D f) (fun q : Nat => sz ≤ q) 1 6 sz := by
  refine rn_LT.ofW (hh := [(0, 7, 8, 13)]) (cc := cL_opens) (maxL := 5) (ret := (some .int)) (by decide) rfl (Nat.le_of_ble_eq_true rfl) (fun p e s m below meth c ls hx hb hr hml hts hown hlocks hsz hF hG hE htab hS hl => ?_)
  have hl : lv_has ls 5 [(0, .ref h0), (1, .int x), (2, .int e1), (3, .int e2)] := hl
  subst hsz
  refine lv_aload_n hx hb dL_opens_0 rfl (lv_at hl 0 rfl) ?_
  refine lv_iload_n hx hb dL_opens_1 rfl (lv_at hl 1 rfl) ?_
  refine lv_iload_n hx hb dL_opens_2 rfl (lv_at hl 2 rfl) ?_
  refine lv_iload_n hx hb dL_opens_3 rfl (lv_at hl 3 rfl) ?_
  refine rn_xVc (As := [.int x, .int e1, .int e2]) (rest := []) (E := rn_IO) 3 hx hb hml hown hts hG hE hS (x_open_p l hfl hV hC hno _) gL_opens_X4_open rfl ⟨rfl, rfl⟩ (by decide +kernel) ⟨Nat.le_of_ble_eq_true rfl, Nat.le_of_ble_eq_true rfl⟩ hF (hF _ _ hC.1.1) rfl rfl hl.1 rfl (Nat.le_of_ble_eq_true rfl) ⟨Nat.le_of_ble_eq_true rfl, Nat.le_of_ble_eq_true rfl⟩ dL_opens_4 [] ⟨0, 7, 8, 13⟩ [] htab (fun z hz => nomatch hz) (by decide) (by decide) (hts _ (by decide +kernel)) (by decide) (fun q9 H h1 h2 hS => ?_)
  refine lv_astore (lv' := [(4, .ref q9), (0, .ref h0), (1, .int x), (2, .int e1), (3, .int e2)]) hx hb dL_opens_8 hl (by decide) rfl (fun ls hl => ?_)
  refine lv_ldc (v := (-2000000001)) hx hb hown (hts _ kw_L_opens_15) dL_opens_10 ?_
  exact rn_Wiret hx hb hr rfl hlocks hS (by decide) (by decide) rfl (hF.kept (fun q hq => h2 q (hF.lt hq))) dL_opens_12

set_option maxHeartbeats 4000000 in
set_option maxRecDepth 100000 in
theorem l_opens_f (l : Launch) (hfl : l.stackTraces = false) {D : va_G} {cR cP cF : ClassId} {h0 aR aP aF : Nat} {ra pa fa : Nat → Nat} {hd : Nat → Option Nat} {dh : Option Nat} {f : rn_T} {σ : rn_St} (hV : rn_V σ) (hC : rn_CI cR cP cF h0 aR aP aF ra pa fa hd dh f σ) {j : Nat} (hj0 : j < σ.pn) {x e2 : Int32} (hno : ¬ ∃ i, i < σ.fn ∧ x = nI i) (sz : Nat) : rn_LT l yL_opens wsL_opens ({ frames := 8, cells := 1, slots := 6, locals := 140 } : Room) D (rn_tys cR cP cF) (rn_S D f) [.ref h0, .int (nI j), .int x, .int e2] (some (.int (-2000000001))) (rn_S D f) (fun q : Nat => sz ≤ q) 1 6 sz := by
  refine rn_LT.ofW (hh := [(0, 7, 8, 13)]) (cc := cL_opens) (maxL := 5) (ret := (some .int)) (by decide) rfl (Nat.le_of_ble_eq_true rfl) (fun p e s m below meth c ls hx hb hr hml hts hown hlocks hsz hF hG hE htab hS hl => ?_)
  have hl : lv_has ls 5 [(0, .ref h0), (1, .int (nI j)), (2, .int x), (3, .int e2)] := hl
  subst hsz
  refine lv_aload_n hx hb dL_opens_0 rfl (lv_at hl 0 rfl) ?_
  refine lv_iload_n hx hb dL_opens_1 rfl (lv_at hl 1 rfl) ?_
  refine lv_iload_n hx hb dL_opens_2 rfl (lv_at hl 2 rfl) ?_
  refine lv_iload_n hx hb dL_opens_3 rfl (lv_at hl 3 rfl) ?_
  refine rn_xVc (As := [.int (nI j), .int x, .int e2]) (rest := []) (E := rn_IO) 3 hx hb hml hown hts hG hE hS (x_open_f l hfl hV hC hj0 hno _) gL_opens_X4_open rfl ⟨rfl, rfl⟩ (by decide +kernel) ⟨Nat.le_of_ble_eq_true rfl, Nat.le_of_ble_eq_true rfl⟩ hF (hF _ _ hC.1.1) rfl rfl hl.1 rfl (Nat.le_of_ble_eq_true rfl) ⟨Nat.le_of_ble_eq_true rfl, Nat.le_of_ble_eq_true rfl⟩ dL_opens_4 [] ⟨0, 7, 8, 13⟩ [] htab (fun z hz => nomatch hz) (by decide) (by decide) (hts _ (by decide +kernel)) (by decide) (fun q9 H h1 h2 hS => ?_)
  refine lv_astore (lv' := [(4, .ref q9), (0, .ref h0), (1, .int (nI j)), (2, .int x), (3, .int e2)]) hx hb dL_opens_8 hl (by decide) rfl (fun ls hl => ?_)
  refine lv_ldc (v := (-2000000001)) hx hb hown (hts _ kw_L_opens_15) dL_opens_10 ?_
  exact rn_Wiret hx hb hr rfl hlocks hS (by decide) (by decide) rfl (hF.kept (fun q hq => h2 q (hF.lt hq))) dL_opens_12

set_option maxHeartbeats 4000000 in
set_option maxRecDepth 100000 in
theorem l_opens_o (l : Launch) {D : va_G} {cR cP cF : ClassId} {h0 aR aP aF : Nat} {ra pa fa : Nat → Nat} {hd : Nat → Option Nat} {dh : Option Nat} {f : rn_T} {σ : rn_St} (hV : rn_V σ) (hC : rn_CI cR cP cF h0 aR aP aF ra pa fa hd dh f σ) {j k : Nat} {wb : Bool} (hj0 : j < σ.pn) (hk0 : k < σ.fn) (sz : Nat) : rn_W l yL_opens wsL_opens ({ frames := 8, cells := 1, slots := 6, locals := 140 } : Room) D (rn_tys cR cP cF) (rn_S D f) [.ref h0, .int (nI j), .int (nI k), .int (rn_b wb)] (some (.int ((rn_o_open σ j k wb).1))) (rn_P D cR cP cF h0 f sz ((rn_o_open σ j k wb).2)) (rn_A f sz) 1 6 sz := by
  refine rn_W.ofH (hh := [(0, 7, 8, 13)]) (cc := cL_opens) (maxL := 5) (ret := (some .int)) (by decide) rfl (Nat.le_of_ble_eq_true rfl) (fun p e s m below meth c ls hx hb hr hml hts hown hlocks hsz hF hG hS hl => ?_)
  have hl : lv_has ls 5 [(0, .ref h0), (1, .int (nI j)), (2, .int (nI k)), (3, .int (rn_b wb))] := hl
  subst hsz
  refine lv_aload_n hx hb dL_opens_0 rfl (lv_at hl 0 rfl) ?_
  refine lv_iload_n hx hb dL_opens_1 rfl (lv_at hl 1 rfl) ?_
  refine lv_iload_n hx hb dL_opens_2 rfl (lv_at hl 2 rfl) ?_
  refine lv_iload_n hx hb dL_opens_3 rfl (lv_at hl 3 rfl) ?_
  refine rn_wV (As := [.int (nI j), .int (nI k), .int (rn_b wb)]) (rest := []) 3 hx hb hml hown hts hG hS (w_open l hV hC hj0 hk0 _) (fun q h => h) gL_opens_X4_open rfl ⟨rfl, rfl⟩ (by decide +kernel) ⟨Nat.le_of_ble_eq_true rfl, Nat.le_of_ble_eq_true rfl⟩ hF (hF _ _ hC.1.1) rfl rfl hl.1 rfl (Nat.le_of_ble_eq_true rfl) ⟨Nat.le_of_ble_eq_true rfl, Nat.le_of_ble_eq_true rfl⟩ dL_opens_4 (fun H locs hP1 hz hk hS => ?_)
  refine W.eq (g2 := F0 m 7 ls [.int ((rn_o_open σ j k wb).1)]) rfl ?_
  exact rn_Wiret hx hb hr rfl hlocks hS (by decide) (by decide) rfl hP1 dL_opens_7

set_option maxHeartbeats 4000000 in
set_option maxRecDepth 100000 in
theorem l_owner_p (l : Launch) (hfl : l.stackTraces = false) {D : va_G} {cR cP cF : ClassId} {h0 aR aP aF : Nat} {ra pa fa : Nat → Nat} {hd : Nat → Option Nat} {dh : Option Nat} {f : rn_T} {σ : rn_St} (hV : rn_V σ) (hC : rn_CI cR cP cF h0 aR aP aF ra pa fa hd dh f σ) {x e1 : Int32} (hno : ¬ ∃ i, i < σ.pn ∧ x = nI i) (sz : Nat) : rn_LT l yL_owner wsL_owner ({ frames := 8, cells := 1, slots := 6, locals := 140 } : Room) D (rn_tys cR cP cF) (rn_S D f) [.ref h0, .int x, .int e1] (some (.int (-2000000001))) (rn_S D f) (fun q : Nat => sz ≤ q) 1 6 sz := by
  refine rn_LT.ofW (hh := [(0, 6, 7, 13)]) (cc := cL_owner) (maxL := 4) (ret := (some .int)) (by decide) rfl (Nat.le_of_ble_eq_true rfl) (fun p e s m below meth c ls hx hb hr hml hts hown hlocks hsz hF hG hE htab hS hl => ?_)
  have hl : lv_has ls 4 [(0, .ref h0), (1, .int x), (2, .int e1)] := hl
  subst hsz
  refine lv_aload_n hx hb dL_owner_0 rfl (lv_at hl 0 rfl) ?_
  refine lv_iload_n hx hb dL_owner_1 rfl (lv_at hl 1 rfl) ?_
  refine lv_iload_n hx hb dL_owner_2 rfl (lv_at hl 2 rfl) ?_
  refine rn_xVc (As := [.int x, .int e1]) (rest := []) (E := rn_IO) 2 hx hb hml hown hts hG hE hS (x_ownerSeenBy_p l hfl hV hC hno _) gL_owner_X4_ownerSeenBy rfl ⟨rfl, rfl⟩ (by decide +kernel) ⟨Nat.le_of_ble_eq_true rfl, Nat.le_of_ble_eq_true rfl⟩ hF (hF _ _ hC.1.1) rfl rfl hl.1 rfl (Nat.le_of_ble_eq_true rfl) ⟨Nat.le_of_ble_eq_true rfl, Nat.le_of_ble_eq_true rfl⟩ dL_owner_3 [] ⟨0, 6, 7, 13⟩ [] htab (fun z hz => nomatch hz) (by decide) (by decide) (hts _ (by decide +kernel)) (by decide) (fun q9 H h1 h2 hS => ?_)
  refine lv_astore_n (lv' := [(3, .ref q9), (0, .ref h0), (1, .int x), (2, .int e1)]) hx hb dL_owner_7 rfl hl (by decide) rfl (fun ls hl => ?_)
  refine lv_ldc (v := (-2000000001)) hx hb hown (hts _ kw_L_owner_15) dL_owner_8 ?_
  exact rn_Wiret hx hb hr rfl hlocks hS (by decide) (by decide) rfl (hF.kept (fun q hq => h2 q (hF.lt hq))) dL_owner_10

set_option maxHeartbeats 4000000 in
set_option maxRecDepth 100000 in
theorem l_owner_f (l : Launch) (hfl : l.stackTraces = false) {D : va_G} {cR cP cF : ClassId} {h0 aR aP aF : Nat} {ra pa fa : Nat → Nat} {hd : Nat → Option Nat} {dh : Option Nat} {f : rn_T} {σ : rn_St} (hV : rn_V σ) (hC : rn_CI cR cP cF h0 aR aP aF ra pa fa hd dh f σ) {j : Nat} (hj0 : j < σ.pn) {x  : Int32} (hno : ¬ ∃ i, i < σ.fn ∧ x = nI i) (sz : Nat) : rn_LT l yL_owner wsL_owner ({ frames := 8, cells := 1, slots := 6, locals := 140 } : Room) D (rn_tys cR cP cF) (rn_S D f) [.ref h0, .int (nI j), .int x] (some (.int (-2000000001))) (rn_S D f) (fun q : Nat => sz ≤ q) 1 6 sz := by
  refine rn_LT.ofW (hh := [(0, 6, 7, 13)]) (cc := cL_owner) (maxL := 4) (ret := (some .int)) (by decide) rfl (Nat.le_of_ble_eq_true rfl) (fun p e s m below meth c ls hx hb hr hml hts hown hlocks hsz hF hG hE htab hS hl => ?_)
  have hl : lv_has ls 4 [(0, .ref h0), (1, .int (nI j)), (2, .int x)] := hl
  subst hsz
  refine lv_aload_n hx hb dL_owner_0 rfl (lv_at hl 0 rfl) ?_
  refine lv_iload_n hx hb dL_owner_1 rfl (lv_at hl 1 rfl) ?_
  refine lv_iload_n hx hb dL_owner_2 rfl (lv_at hl 2 rfl) ?_
  refine rn_xVc (As := [.int (nI j), .int x]) (rest := []) (E := rn_IO) 2 hx hb hml hown hts hG hE hS (x_ownerSeenBy_f l hfl hV hC hj0 hno _) gL_owner_X4_ownerSeenBy rfl ⟨rfl, rfl⟩ (by decide +kernel) ⟨Nat.le_of_ble_eq_true rfl, Nat.le_of_ble_eq_true rfl⟩ hF (hF _ _ hC.1.1) rfl rfl hl.1 rfl (Nat.le_of_ble_eq_true rfl) ⟨Nat.le_of_ble_eq_true rfl, Nat.le_of_ble_eq_true rfl⟩ dL_owner_3 [] ⟨0, 6, 7, 13⟩ [] htab (fun z hz => nomatch hz) (by decide) (by decide) (hts _ (by decide +kernel)) (by decide) (fun q9 H h1 h2 hS => ?_)
  refine lv_astore_n (lv' := [(3, .ref q9), (0, .ref h0), (1, .int (nI j)), (2, .int x)]) hx hb dL_owner_7 rfl hl (by decide) rfl (fun ls hl => ?_)
  refine lv_ldc (v := (-2000000001)) hx hb hown (hts _ kw_L_owner_15) dL_owner_8 ?_
  exact rn_Wiret hx hb hr rfl hlocks hS (by decide) (by decide) rfl (hF.kept (fun q hq => h2 q (hF.lt hq))) dL_owner_10

set_option maxHeartbeats 4000000 in
set_option maxRecDepth 100000 in
theorem l_owner_o (l : Launch) {D : va_G} {cR cP cF : ClassId} {h0 aR aP aF : Nat} {ra pa fa : Nat → Nat} {hd : Nat → Option Nat} {dh : Option Nat} {f : rn_T} {σ : rn_St} (hV : rn_V σ) (hC : rn_CI cR cP cF h0 aR aP aF ra pa fa hd dh f σ) {j k : Nat} (hj0 : j < σ.pn) (hk0 : k < σ.fn) : rn_R l yL_owner wsL_owner ({ frames := 8, cells := 0, slots := 0, locals := 140 } : Room) D (rn_tys cR cP cF) (rn_S D f) [.ref h0, .int (nI j), .int (nI k)] (some (.int (nI (rn_see σ (σ.pl j) (σ.fo k))))) := by
  refine rn_R.ofH (hh := [(0, 6, 7, 13)]) (cc := cL_owner) (maxL := 4) (ret := (some .int)) (by decide) rfl (Nat.le_of_ble_eq_true rfl) (fun p e s m below meth c ls hx hb hr hml hts hown hlocks hF hG hl => ?_)
  have hl : lv_has ls 4 [(0, .ref h0), (1, .int (nI j)), (2, .int (nI k))] := hl
  refine lv_aload_n hx hb dL_owner_0 rfl (lv_at hl 0 rfl) ?_
  refine lv_iload_n hx hb dL_owner_1 rfl (lv_at hl 1 rfl) ?_
  refine lv_iload_n hx hb dL_owner_2 rfl (lv_at hl 2 rfl) ?_
  refine rn_cV (As := [.int (nI j), .int (nI k)]) (rest := []) 2 hx hb hml hown hts hG (c_ownerSeenBy l hV hC hj0 hk0) gL_owner_X4_ownerSeenBy rfl ⟨rfl, rfl⟩ (by decide +kernel) ⟨Nat.le_of_ble_eq_true rfl, Nat.le_of_ble_eq_true rfl⟩ hF (hF _ _ hC.1.1) rfl rfl hl.1 rfl (Nat.le_of_ble_eq_true rfl) ⟨Nat.zero_le _, Nat.zero_le _⟩ dL_owner_3 ?_
  refine W.eq (g2 := F0 m 6 ls [.int (nI (rn_see σ (σ.pl j) (σ.fo k)))]) rfl ?_
  exact rn_iret hx hb hr rfl hlocks rfl dL_owner_6
