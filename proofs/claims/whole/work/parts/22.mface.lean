set_option maxHeartbeats 4000000 in
set_option maxRecDepth 100000 in
theorem q_noNumber_r (l : Launch) {D : va_G} {cI : ClassId} {m0 : Nat} {ma : Nat → Nat} {rf : Int32} {V : Nat → Nat → Int32} {σ : rn_St} (hV : rn_V σ) (hM : rn_Mr σ V) {x e1 : Int32} (hno : ¬ ∃ i, i < σ.sn ∧ x = nI i) (sz : Nat) : rn_W l yX5_noNumber wsX5_noNumber ({ frames := 2, cells := 0, slots := 0, locals := 43 } : Room) D [(cI, .int)] ((rn_MW D cI m0 ma rf (nI σ.sn) (nI σ.sd.length) (nI σ.pn) (nI σ.fn) σ.rc σ.la V)) [.ref m0, .int x, .int e1] (some (.int (1))) (rn_MW D cI m0 ma 1 (nI σ.sn) (nI σ.sd.length) (nI σ.pn) (nI σ.fn) σ.rc σ.la V) (rn_mA m0 ma) 0 0 sz := by
  refine rn_W.ofW (cc := cX5_noNumber) (maxL := 3) (ret := (some .boolean)) (by decide) rfl (Nat.le_of_ble_eq_true rfl) (fun p e s m below meth c ls hx hb hr hml hts hown hlocks hin hsz hF hG hS hl => ?_)
  have hl : lv_has ls 3 [(0, .ref m0), (1, .int x), (2, .int e1)] := hl
  have hs10 := hV.1.2
  have hp12 := hV.2.2.2.2.2.1.2.1
  have hf20 := hV.2.2.2.2.2.2.1
  have hd3 := hV.2.2.2.2.1.2
  refine lv_aload_n hx hb dX5_noNumber_0 rfl (lv_at hl 0 rfl) ?_
  refine lv_aload_n hx hb dX5_noNumber_1 rfl (lv_at hl 0 rfl) ?_
  refine lv_iload_n hx hb dX5_noNumber_2 rfl (lv_at hl 1 rfl) ?_
  refine rn_cV (As := [.int x]) (rest := [.ref m0]) 1 hx hb hml hown hts hG (m_isRoom l x) gX5_noNumber_X5_isRoom rfl ⟨rfl, rfl⟩ (by decide +kernel) ⟨Nat.le_of_ble_eq_true rfl, Nat.le_of_ble_eq_true rfl⟩ hF hF.1 rfl rfl hl.1 rfl (Nat.le_of_ble_eq_true rfl) ⟨by decide, by decide⟩ dX5_noNumber_3 ?_
  refine W.eq (g2 := F0 m 6 ls [.int (rn_b (rn_in x 0 (nI σ.sn - 1))), .ref m0]) rfl ?_
  refine rn_top (y := .int 0) (congrArg Value.int (by rw [rn_ok_f (by omega) hno]; rfl)) ?_
  refine lv_if_ne (tgt := 13) hx hb dX5_noNumber_6 (by decide) (fun c_6 => ?_) (fun c_6 => ?_)
  · exact absurd c_6 (by decide)
  · refine lv_iconst (v := 1) hx hb dX5_noNumber_9 (by decide) ?_
    refine lv_goto (tgt := 25) hx hb dX5_noNumber_10 (by decide) ?_
    refine rn_wV (As := [.int 1]) (rest := []) 1 hx hb hml hown hts hG hS (m_refused l 1) (fun x hx => by rw [show x = m0 from hx]; exact rn_mA_0) gX5_noNumber_X5_refused rfl ⟨rfl, rfl⟩ (by decide +kernel) ⟨Nat.le_of_ble_eq_true rfl, Nat.le_of_ble_eq_true rfl⟩ hF hF.1 rfl rfl hl.1 rfl (Nat.le_of_ble_eq_true rfl) ⟨by decide, by decide⟩ dX5_noNumber_25 (fun H locs hP1 hz hk hS => ?_)
    refine W.eq (g2 := F0 m 28 ls [.int (rn_b (decide (1 ≠ 0)))]) rfl ?_
    have hF := hP1
    refine rn_top (y := .int 1) (congrArg Value.int (rfl)) ?_
    exact rn_Wiret hx hb hr rfl hlocks hS (by decide) (by decide) rfl hF dX5_noNumber_28

set_option maxHeartbeats 4000000 in
set_option maxRecDepth 100000 in
theorem q_noNumber_n (l : Launch) {D : va_G} {cI : ClassId} {m0 : Nat} {ma : Nat → Nat} {rf : Int32} {V : Nat → Nat → Int32} {σ : rn_St} (hV : rn_V σ) (hM : rn_Mr σ V) {i : Nat} (hi0 : i < σ.sn) {x : Int32} (hbad : x < 0 ∨ nI 998 < x) (sz : Nat) : rn_W l yX5_noNumber wsX5_noNumber ({ frames := 2, cells := 0, slots := 0, locals := 43 } : Room) D [(cI, .int)] ((rn_MW D cI m0 ma rf (nI σ.sn) (nI σ.sd.length) (nI σ.pn) (nI σ.fn) σ.rc σ.la V)) [.ref m0, .int (nI i), .int x] (some (.int (1))) (rn_MW D cI m0 ma 2 (nI σ.sn) (nI σ.sd.length) (nI σ.pn) (nI σ.fn) σ.rc σ.la V) (rn_mA m0 ma) 0 0 sz := by
  refine rn_W.ofW (cc := cX5_noNumber) (maxL := 3) (ret := (some .boolean)) (by decide) rfl (Nat.le_of_ble_eq_true rfl) (fun p e s m below meth c ls hx hb hr hml hts hown hlocks hin hsz hF hG hS hl => ?_)
  have hl : lv_has ls 3 [(0, .ref m0), (1, .int (nI i)), (2, .int x)] := hl
  have hs10 := hV.1.2
  have hp12 := hV.2.2.2.2.2.1.2.1
  have hf20 := hV.2.2.2.2.2.2.1
  have hd3 := hV.2.2.2.2.1.2
  refine lv_aload_n hx hb dX5_noNumber_0 rfl (lv_at hl 0 rfl) ?_
  refine lv_aload_n hx hb dX5_noNumber_1 rfl (lv_at hl 0 rfl) ?_
  refine lv_iload_n hx hb dX5_noNumber_2 rfl (lv_at hl 1 rfl) ?_
  refine rn_cV (As := [.int (nI i)]) (rest := [.ref m0]) 1 hx hb hml hown hts hG (m_isRoom l ((nI i))) gX5_noNumber_X5_isRoom rfl ⟨rfl, rfl⟩ (by decide +kernel) ⟨Nat.le_of_ble_eq_true rfl, Nat.le_of_ble_eq_true rfl⟩ hF hF.1 rfl rfl hl.1 rfl (Nat.le_of_ble_eq_true rfl) ⟨by decide, by decide⟩ dX5_noNumber_3 ?_
  refine W.eq (g2 := F0 m 6 ls [.int (rn_b (rn_in ((nI i)) 0 (nI σ.sn - 1))), .ref m0]) rfl ?_
  refine rn_top (y := .int 1) (congrArg Value.int (by rw [rn_ok_t (by omega) hi0]; rfl)) ?_
  refine lv_if_ne (tgt := 13) hx hb dX5_noNumber_6 (by decide) (fun c_6 => ?_) (fun c_6 => ?_)
  · refine lv_iload_n hx hb dX5_noNumber_13 rfl (lv_at hl 2 rfl) ?_
    refine rn_cS (As := [.int x]) (rest := [.ref m0]) 1 hx hb hml hown hts hG (m_isNumber l x) gX5_noNumber_X5_isNumber rfl ⟨rfl, rfl⟩ (by decide +kernel) ⟨Nat.le_of_ble_eq_true rfl, Nat.le_of_ble_eq_true rfl⟩ trivial rfl hl.1 rfl (Nat.le_of_ble_eq_true rfl) ⟨by decide, by decide⟩ dX5_noNumber_14 ?_
    refine W.eq (g2 := F0 m 17 ls [.int (rn_b (rn_in x 0 998)), .ref m0]) rfl ?_
    refine rn_top (y := .int 0) (congrArg Value.int (by rw [show rn_in x 0 998 = false from rn_rng_f (n := 998) hbad]; rfl)) ?_
    refine lv_if_eq (tgt := 24) hx hb dX5_noNumber_17 (by decide) (fun c_17 => ?_) (fun c_17 => ?_)
    · refine lv_iconst (v := 2) hx hb dX5_noNumber_24 (by decide) ?_
      refine rn_wV (As := [.int 2]) (rest := []) 1 hx hb hml hown hts hG hS (m_refused l 2) (fun x hx => by rw [show x = m0 from hx]; exact rn_mA_0) gX5_noNumber_X5_refused rfl ⟨rfl, rfl⟩ (by decide +kernel) ⟨Nat.le_of_ble_eq_true rfl, Nat.le_of_ble_eq_true rfl⟩ hF hF.1 rfl rfl hl.1 rfl (Nat.le_of_ble_eq_true rfl) ⟨by decide, by decide⟩ dX5_noNumber_25 (fun H locs hP1 hz hk hS => ?_)
      refine W.eq (g2 := F0 m 28 ls [.int (rn_b (decide (2 ≠ 0)))]) rfl ?_
      have hF := hP1
      refine rn_top (y := .int 1) (congrArg Value.int (rfl)) ?_
      exact rn_Wiret hx hb hr rfl hlocks hS (by decide) (by decide) rfl hF dX5_noNumber_28
    · exact absurd c_17 (by decide)
  · exact absurd c_6 (by decide)

set_option maxHeartbeats 4000000 in
set_option maxRecDepth 100000 in
theorem q_noNumber_o (l : Launch) {D : va_G} {cI : ClassId} {m0 : Nat} {ma : Nat → Nat} {rf : Int32} {V : Nat → Nat → Int32} {σ : rn_St} (hV : rn_V σ) (hM : rn_Mr σ V) {i x : Nat} (hi0 : i < σ.sn) (hx0 : x ≤ 998) (sz : Nat) : rn_W l yX5_noNumber wsX5_noNumber ({ frames := 2, cells := 0, slots := 0, locals := 43 } : Room) D [(cI, .int)] ((rn_MW D cI m0 ma rf (nI σ.sn) (nI σ.sd.length) (nI σ.pn) (nI σ.fn) σ.rc σ.la V)) [.ref m0, .int (nI i), .int (nI x)] (some (.int (0))) (rn_MW D cI m0 ma 0 (nI σ.sn) (nI σ.sd.length) (nI σ.pn) (nI σ.fn) σ.rc σ.la V) (rn_mA m0 ma) 0 0 sz := by
  refine rn_W.ofW (cc := cX5_noNumber) (maxL := 3) (ret := (some .boolean)) (by decide) rfl (Nat.le_of_ble_eq_true rfl) (fun p e s m below meth c ls hx hb hr hml hts hown hlocks hin hsz hF hG hS hl => ?_)
  have hl : lv_has ls 3 [(0, .ref m0), (1, .int (nI i)), (2, .int (nI x))] := hl
  have hs10 := hV.1.2
  have hp12 := hV.2.2.2.2.2.1.2.1
  have hf20 := hV.2.2.2.2.2.2.1
  have hd3 := hV.2.2.2.2.1.2
  refine lv_aload_n hx hb dX5_noNumber_0 rfl (lv_at hl 0 rfl) ?_
  refine lv_aload_n hx hb dX5_noNumber_1 rfl (lv_at hl 0 rfl) ?_
  refine lv_iload_n hx hb dX5_noNumber_2 rfl (lv_at hl 1 rfl) ?_
  refine rn_cV (As := [.int (nI i)]) (rest := [.ref m0]) 1 hx hb hml hown hts hG (m_isRoom l ((nI i))) gX5_noNumber_X5_isRoom rfl ⟨rfl, rfl⟩ (by decide +kernel) ⟨Nat.le_of_ble_eq_true rfl, Nat.le_of_ble_eq_true rfl⟩ hF hF.1 rfl rfl hl.1 rfl (Nat.le_of_ble_eq_true rfl) ⟨by decide, by decide⟩ dX5_noNumber_3 ?_
  refine W.eq (g2 := F0 m 6 ls [.int (rn_b (rn_in ((nI i)) 0 (nI σ.sn - 1))), .ref m0]) rfl ?_
  refine rn_top (y := .int 1) (congrArg Value.int (by rw [rn_ok_t (by omega) hi0]; rfl)) ?_
  refine lv_if_ne (tgt := 13) hx hb dX5_noNumber_6 (by decide) (fun c_6 => ?_) (fun c_6 => ?_)
  · refine lv_iload_n hx hb dX5_noNumber_13 rfl (lv_at hl 2 rfl) ?_
    refine rn_cS (As := [.int (nI x)]) (rest := [.ref m0]) 1 hx hb hml hown hts hG (m_isNumber l ((nI x))) gX5_noNumber_X5_isNumber rfl ⟨rfl, rfl⟩ (by decide +kernel) ⟨Nat.le_of_ble_eq_true rfl, Nat.le_of_ble_eq_true rfl⟩ trivial rfl hl.1 rfl (Nat.le_of_ble_eq_true rfl) ⟨by decide, by decide⟩ dX5_noNumber_14 ?_
    refine W.eq (g2 := F0 m 17 ls [.int (rn_b (rn_in ((nI x)) 0 998)), .ref m0]) rfl ?_
    refine rn_top (y := .int 1) (congrArg Value.int (by rw [show rn_in ((nI x)) 0 998 = true from rn_rng_t (n := 998) hx0 (by omega)]; rfl)) ?_
    refine lv_if_eq (tgt := 24) hx hb dX5_noNumber_17 (by decide) (fun c_17 => ?_) (fun c_17 => ?_)
    · exact absurd c_17 (by decide)
    · refine lv_iconst (v := 0) hx hb dX5_noNumber_20 (by decide) ?_
      refine lv_goto (tgt := 25) hx hb dX5_noNumber_21 (by decide) ?_
      refine rn_wV (As := [.int 0]) (rest := []) 1 hx hb hml hown hts hG hS (m_refused l 0) (fun x hx => by rw [show x = m0 from hx]; exact rn_mA_0) gX5_noNumber_X5_refused rfl ⟨rfl, rfl⟩ (by decide +kernel) ⟨Nat.le_of_ble_eq_true rfl, Nat.le_of_ble_eq_true rfl⟩ hF hF.1 rfl rfl hl.1 rfl (Nat.le_of_ble_eq_true rfl) ⟨by decide, by decide⟩ dX5_noNumber_25 (fun H locs hP1 hz hk hS => ?_)
      refine W.eq (g2 := F0 m 28 ls [.int (rn_b (decide (0 ≠ 0)))]) rfl ?_
      have hF := hP1
      refine rn_top (y := .int 0) (congrArg Value.int (rfl)) ?_
      exact rn_Wiret hx hb hr rfl hlocks hS (by decide) (by decide) rfl hF dX5_noNumber_28
  · exact absurd c_6 (by decide)

set_option maxHeartbeats 4000000 in
set_option maxRecDepth 100000 in
theorem q_noProcess_p (l : Launch) {D : va_G} {cI : ClassId} {m0 : Nat} {ma : Nat → Nat} {rf : Int32} {V : Nat → Nat → Int32} {σ : rn_St} (hV : rn_V σ) (hM : rn_Mr σ V) {x : Int32} (hno : ¬ ∃ i, i < σ.pn ∧ x = nI i) (sz : Nat) : rn_W l yX5_noProcess wsX5_noProcess ({ frames := 2, cells := 0, slots := 0, locals := 43 } : Room) D [(cI, .int)] ((rn_MW D cI m0 ma rf (nI σ.sn) (nI σ.sd.length) (nI σ.pn) (nI σ.fn) σ.rc σ.la V)) [.ref m0, .int x] (some (.int (1))) (rn_MW D cI m0 ma 1 (nI σ.sn) (nI σ.sd.length) (nI σ.pn) (nI σ.fn) σ.rc σ.la V) (rn_mA m0 ma) 0 0 sz := by
  refine rn_W.ofW (cc := cX5_noProcess) (maxL := 2) (ret := (some .boolean)) (by decide) rfl (Nat.le_of_ble_eq_true rfl) (fun p e s m below meth c ls hx hb hr hml hts hown hlocks hin hsz hF hG hS hl => ?_)
  have hl : lv_has ls 2 [(0, .ref m0), (1, .int x)] := hl
  have hs10 := hV.1.2
  have hp12 := hV.2.2.2.2.2.1.2.1
  have hf20 := hV.2.2.2.2.2.2.1
  have hd3 := hV.2.2.2.2.1.2
  refine lv_aload_n hx hb dX5_noProcess_0 rfl (lv_at hl 0 rfl) ?_
  refine lv_aload_n hx hb dX5_noProcess_1 rfl (lv_at hl 0 rfl) ?_
  refine lv_iload_n hx hb dX5_noProcess_2 rfl (lv_at hl 1 rfl) ?_
  refine rn_cV (As := [.int x]) (rest := [.ref m0]) 1 hx hb hml hown hts hG (m_isProcess l x) gX5_noProcess_X5_isProcess rfl ⟨rfl, rfl⟩ (by decide +kernel) ⟨Nat.le_of_ble_eq_true rfl, Nat.le_of_ble_eq_true rfl⟩ hF hF.1 rfl rfl hl.1 rfl (Nat.le_of_ble_eq_true rfl) ⟨by decide, by decide⟩ dX5_noProcess_3 ?_
  refine W.eq (g2 := F0 m 6 ls [.int (rn_b (rn_in x 0 (nI σ.pn - 1))), .ref m0]) rfl ?_
  refine rn_top (y := .int 0) (congrArg Value.int (by rw [rn_ok_f (by omega) hno]; rfl)) ?_
  refine lv_if_eq (tgt := 13) hx hb dX5_noProcess_6 (by decide) (fun c_6 => ?_) (fun c_6 => ?_)
  · refine lv_iconst (v := 1) hx hb dX5_noProcess_13 (by decide) ?_
    refine rn_wV (As := [.int 1]) (rest := []) 1 hx hb hml hown hts hG hS (m_refused l 1) (fun x hx => by rw [show x = m0 from hx]; exact rn_mA_0) gX5_noProcess_X5_refused rfl ⟨rfl, rfl⟩ (by decide +kernel) ⟨Nat.le_of_ble_eq_true rfl, Nat.le_of_ble_eq_true rfl⟩ hF hF.1 rfl rfl hl.1 rfl (Nat.le_of_ble_eq_true rfl) ⟨by decide, by decide⟩ dX5_noProcess_14 (fun H locs hP1 hz hk hS => ?_)
    refine W.eq (g2 := F0 m 17 ls [.int (rn_b (decide (1 ≠ 0)))]) rfl ?_
    have hF := hP1
    refine rn_top (y := .int 1) (congrArg Value.int (rfl)) ?_
    exact rn_Wiret hx hb hr rfl hlocks hS (by decide) (by decide) rfl hF dX5_noProcess_17
  · exact absurd c_6 (by decide)

set_option maxHeartbeats 4000000 in
set_option maxRecDepth 100000 in
theorem q_noProcess_o (l : Launch) {D : va_G} {cI : ClassId} {m0 : Nat} {ma : Nat → Nat} {rf : Int32} {V : Nat → Nat → Int32} {σ : rn_St} (hV : rn_V σ) (hM : rn_Mr σ V) {j : Nat} (hj0 : j < σ.pn) (sz : Nat) : rn_W l yX5_noProcess wsX5_noProcess ({ frames := 2, cells := 0, slots := 0, locals := 43 } : Room) D [(cI, .int)] ((rn_MW D cI m0 ma rf (nI σ.sn) (nI σ.sd.length) (nI σ.pn) (nI σ.fn) σ.rc σ.la V)) [.ref m0, .int (nI j)] (some (.int (0))) (rn_MW D cI m0 ma 0 (nI σ.sn) (nI σ.sd.length) (nI σ.pn) (nI σ.fn) σ.rc σ.la V) (rn_mA m0 ma) 0 0 sz := by
  refine rn_W.ofW (cc := cX5_noProcess) (maxL := 2) (ret := (some .boolean)) (by decide) rfl (Nat.le_of_ble_eq_true rfl) (fun p e s m below meth c ls hx hb hr hml hts hown hlocks hin hsz hF hG hS hl => ?_)
  have hl : lv_has ls 2 [(0, .ref m0), (1, .int (nI j))] := hl
  have hs10 := hV.1.2
  have hp12 := hV.2.2.2.2.2.1.2.1
  have hf20 := hV.2.2.2.2.2.2.1
  have hd3 := hV.2.2.2.2.1.2
  refine lv_aload_n hx hb dX5_noProcess_0 rfl (lv_at hl 0 rfl) ?_
  refine lv_aload_n hx hb dX5_noProcess_1 rfl (lv_at hl 0 rfl) ?_
  refine lv_iload_n hx hb dX5_noProcess_2 rfl (lv_at hl 1 rfl) ?_
  refine rn_cV (As := [.int (nI j)]) (rest := [.ref m0]) 1 hx hb hml hown hts hG (m_isProcess l ((nI j))) gX5_noProcess_X5_isProcess rfl ⟨rfl, rfl⟩ (by decide +kernel) ⟨Nat.le_of_ble_eq_true rfl, Nat.le_of_ble_eq_true rfl⟩ hF hF.1 rfl rfl hl.1 rfl (Nat.le_of_ble_eq_true rfl) ⟨by decide, by decide⟩ dX5_noProcess_3 ?_
  refine W.eq (g2 := F0 m 6 ls [.int (rn_b (rn_in ((nI j)) 0 (nI σ.pn - 1))), .ref m0]) rfl ?_
  refine rn_top (y := .int 1) (congrArg Value.int (by rw [rn_ok_t (by omega) hj0]; rfl)) ?_
  refine lv_if_eq (tgt := 13) hx hb dX5_noProcess_6 (by decide) (fun c_6 => ?_) (fun c_6 => ?_)
  · exact absurd c_6 (by decide)
  · refine lv_iconst (v := 0) hx hb dX5_noProcess_9 (by decide) ?_
    refine lv_goto (tgt := 14) hx hb dX5_noProcess_10 (by decide) ?_
    refine rn_wV (As := [.int 0]) (rest := []) 1 hx hb hml hown hts hG hS (m_refused l 0) (fun x hx => by rw [show x = m0 from hx]; exact rn_mA_0) gX5_noProcess_X5_refused rfl ⟨rfl, rfl⟩ (by decide +kernel) ⟨Nat.le_of_ble_eq_true rfl, Nat.le_of_ble_eq_true rfl⟩ hF hF.1 rfl rfl hl.1 rfl (Nat.le_of_ble_eq_true rfl) ⟨by decide, by decide⟩ dX5_noProcess_14 (fun H locs hP1 hz hk hS => ?_)
    refine W.eq (g2 := F0 m 17 ls [.int (rn_b (decide (0 ≠ 0)))]) rfl ?_
    have hF := hP1
    refine rn_top (y := .int 0) (congrArg Value.int (rfl)) ?_
    exact rn_Wiret hx hb hr rfl hlocks hS (by decide) (by decide) rfl hF dX5_noProcess_17

set_option maxHeartbeats 4000000 in
set_option maxRecDepth 100000 in
theorem n_makeRoom_p (l : Launch) {D : va_G} {cI : ClassId} {m0 : Nat} {ma : Nat → Nat} {rf : Int32} {V : Nat → Nat → Int32} {σ : rn_St} (hV : rn_V σ) (hM : rn_Mr σ V) {x  : Int32} (hno : ¬ ∃ i, i < σ.pn ∧ x = nI i) (sz : Nat) : rn_W l yX5_makeRoom wsX5_makeRoom ({ frames := 4, cells := 0, slots := 0, locals := 96 } : Room) D [(cI, .int)] ((rn_MW D cI m0 ma rf (nI σ.sn) (nI σ.sd.length) (nI σ.pn) (nI σ.fn) σ.rc σ.la V)) [.ref m0, .int x] (some (.int (0))) (rn_MP D cI m0 ma 1 σ) (rn_mA m0 ma) 0 0 sz := by
  refine rn_W.ofW (cc := cX5_makeRoom) (maxL := 2) (ret := (some .int)) (by decide) rfl (Nat.le_of_ble_eq_true rfl) (fun p e s m below meth c ls hx hb hr hml hts hown hlocks hin hsz hF hG hS hl => ?_)
  have hl : lv_has ls 2 [(0, .ref m0), (1, .int x)] := hl
  have hs10 := hV.1.2
  have hp12 := hV.2.2.2.2.2.1.2.1
  have hf20 := hV.2.2.2.2.2.2.1
  have hd3 := hV.2.2.2.2.1.2
  refine lv_aload_n hx hb dX5_makeRoom_0 rfl (lv_at hl 0 rfl) ?_
  refine lv_aload_n hx hb dX5_makeRoom_1 rfl (lv_at hl 0 rfl) ?_
  refine lv_iload_n hx hb dX5_makeRoom_2 rfl (lv_at hl 1 rfl) ?_
  refine rn_cV (As := [.int x]) (rest := [.ref m0]) 1 hx hb hml hown hts hG (m_isProcess l x) gX5_makeRoom_X5_isProcess rfl ⟨rfl, rfl⟩ (by decide +kernel) ⟨Nat.le_of_ble_eq_true rfl, Nat.le_of_ble_eq_true rfl⟩ hF hF.1 rfl rfl hl.1 rfl (Nat.le_of_ble_eq_true rfl) ⟨by decide, by decide⟩ dX5_makeRoom_3 ?_
  refine W.eq (g2 := F0 m 6 ls [.int (rn_b (rn_in x 0 (nI σ.pn - 1))), .ref m0]) rfl ?_
  refine rn_top (y := .int 0) (congrArg Value.int (by rw [rn_ok_f (by omega) hno]; rfl)) ?_
  refine lv_if_ne (tgt := 13) hx hb dX5_makeRoom_6 (by decide) (fun c_6 => ?_) (fun c_6 => ?_)
  · exact absurd c_6 (by decide)
  · refine lv_iconst (v := 1) hx hb dX5_makeRoom_9 (by decide) ?_
    refine lv_goto (tgt := 27) hx hb dX5_makeRoom_10 (by decide) ?_
    refine rn_wV (As := [.int 1]) (rest := []) 1 hx hb hml hown hts hG hS (m_refused l 1) (fun x hx => by rw [show x = m0 from hx]; exact rn_mA_0) gX5_makeRoom_X5_refused rfl ⟨rfl, rfl⟩ (by decide +kernel) ⟨Nat.le_of_ble_eq_true rfl, Nat.le_of_ble_eq_true rfl⟩ hF hF.1 rfl rfl hl.1 rfl (Nat.le_of_ble_eq_true rfl) ⟨by decide, by decide⟩ dX5_makeRoom_27 (fun H locs hP1 hz hk hS => ?_)
    refine W.eq (g2 := F0 m 30 ls [.int (rn_b (decide (1 ≠ 0)))]) rfl ?_
    have hF := hP1
    refine rn_top (y := .int 1) (congrArg Value.int (rfl)) ?_
    refine lv_if_eq (tgt := 35) hx hb dX5_makeRoom_30 (by decide) (fun c_30 => ?_) (fun c_30 => ?_)
    · exact absurd c_30 (by decide)
    · refine lv_iconst (v := 0) hx hb dX5_makeRoom_33 (by decide) ?_
      exact rn_Wiret hx hb hr rfl hlocks hS (by decide) (by decide) rfl ⟨_, hM, hF⟩ dX5_makeRoom_34

set_option maxHeartbeats 4000000 in
set_option maxRecDepth 100000 in
theorem n_fork_p (l : Launch) {D : va_G} {cI : ClassId} {m0 : Nat} {ma : Nat → Nat} {rf : Int32} {V : Nat → Nat → Int32} {σ : rn_St} (hV : rn_V σ) (hM : rn_Mr σ V) {x  : Int32} (hno : ¬ ∃ i, i < σ.pn ∧ x = nI i) (sz : Nat) : rn_W l yX5_fork wsX5_fork ({ frames := 4, cells := 0, slots := 0, locals := 96 } : Room) D [(cI, .int)] ((rn_MW D cI m0 ma rf (nI σ.sn) (nI σ.sd.length) (nI σ.pn) (nI σ.fn) σ.rc σ.la V)) [.ref m0, .int x] (some (.int (0))) (rn_MP D cI m0 ma 1 σ) (rn_mA m0 ma) 0 0 sz := by
  refine rn_W.ofW (cc := cX5_fork) (maxL := 2) (ret := (some .int)) (by decide) rfl (Nat.le_of_ble_eq_true rfl) (fun p e s m below meth c ls hx hb hr hml hts hown hlocks hin hsz hF hG hS hl => ?_)
  have hl : lv_has ls 2 [(0, .ref m0), (1, .int x)] := hl
  have hs10 := hV.1.2
  have hp12 := hV.2.2.2.2.2.1.2.1
  have hf20 := hV.2.2.2.2.2.2.1
  have hd3 := hV.2.2.2.2.1.2
  refine lv_aload_n hx hb dX5_fork_0 rfl (lv_at hl 0 rfl) ?_
  refine lv_aload_n hx hb dX5_fork_1 rfl (lv_at hl 0 rfl) ?_
  refine lv_iload_n hx hb dX5_fork_2 rfl (lv_at hl 1 rfl) ?_
  refine rn_cV (As := [.int x]) (rest := [.ref m0]) 1 hx hb hml hown hts hG (m_isProcess l x) gX5_fork_X5_isProcess rfl ⟨rfl, rfl⟩ (by decide +kernel) ⟨Nat.le_of_ble_eq_true rfl, Nat.le_of_ble_eq_true rfl⟩ hF hF.1 rfl rfl hl.1 rfl (Nat.le_of_ble_eq_true rfl) ⟨by decide, by decide⟩ dX5_fork_3 ?_
  refine W.eq (g2 := F0 m 6 ls [.int (rn_b (rn_in x 0 (nI σ.pn - 1))), .ref m0]) rfl ?_
  refine rn_top (y := .int 0) (congrArg Value.int (by rw [rn_ok_f (by omega) hno]; rfl)) ?_
  refine lv_if_ne (tgt := 13) hx hb dX5_fork_6 (by decide) (fun c_6 => ?_) (fun c_6 => ?_)
  · exact absurd c_6 (by decide)
  · refine lv_iconst (v := 1) hx hb dX5_fork_9 (by decide) ?_
    refine lv_goto (tgt := 27) hx hb dX5_fork_10 (by decide) ?_
    refine rn_wV (As := [.int 1]) (rest := []) 1 hx hb hml hown hts hG hS (m_refused l 1) (fun x hx => by rw [show x = m0 from hx]; exact rn_mA_0) gX5_fork_X5_refused rfl ⟨rfl, rfl⟩ (by decide +kernel) ⟨Nat.le_of_ble_eq_true rfl, Nat.le_of_ble_eq_true rfl⟩ hF hF.1 rfl rfl hl.1 rfl (Nat.le_of_ble_eq_true rfl) ⟨by decide, by decide⟩ dX5_fork_27 (fun H locs hP1 hz hk hS => ?_)
    refine W.eq (g2 := F0 m 30 ls [.int (rn_b (decide (1 ≠ 0)))]) rfl ?_
    have hF := hP1
    refine rn_top (y := .int 1) (congrArg Value.int (rfl)) ?_
    refine lv_if_eq (tgt := 35) hx hb dX5_fork_30 (by decide) (fun c_30 => ?_) (fun c_30 => ?_)
    · exact absurd c_30 (by decide)
    · refine lv_iconst (v := 0) hx hb dX5_fork_33 (by decide) ?_
      exact rn_Wiret hx hb hr rfl hlocks hS (by decide) (by decide) rfl ⟨_, hM, hF⟩ dX5_fork_34

set_option maxHeartbeats 4000000 in
set_option maxRecDepth 100000 in
theorem n_writeMap_p (l : Launch) {D : va_G} {cI : ClassId} {m0 : Nat} {ma : Nat → Nat} {rf : Int32} {V : Nat → Nat → Int32} {σ : rn_St} (hV : rn_V σ) (hM : rn_Mr σ V) {x e1 : Int32} (hno : ¬ ∃ i, i < σ.pn ∧ x = nI i) (sz : Nat) : rn_W l yX5_writeMap wsX5_writeMap ({ frames := 4, cells := 0, slots := 0, locals := 96 } : Room) D [(cI, .int)] ((rn_MW D cI m0 ma rf (nI σ.sn) (nI σ.sd.length) (nI σ.pn) (nI σ.fn) σ.rc σ.la V)) [.ref m0, .int x, .int e1] (some (.int (0))) (rn_MP D cI m0 ma 1 σ) (rn_mA m0 ma) 0 0 sz := by
  refine rn_W.ofW (cc := cX5_writeMap) (maxL := 7) (ret := (some .int)) (by decide) rfl (Nat.le_of_ble_eq_true rfl) (fun p e s m below meth c ls hx hb hr hml hts hown hlocks hin hsz hF hG hS hl => ?_)
  have hl : lv_has ls 7 [(0, .ref m0), (1, .int x), (2, .int e1)] := hl
  have hs10 := hV.1.2
  have hp12 := hV.2.2.2.2.2.1.2.1
  have hf20 := hV.2.2.2.2.2.2.1
  have hd3 := hV.2.2.2.2.1.2
  refine lv_aload_n hx hb dX5_writeMap_0 rfl (lv_at hl 0 rfl) ?_
  refine lv_aload_n hx hb dX5_writeMap_1 rfl (lv_at hl 0 rfl) ?_
  refine lv_iload_n hx hb dX5_writeMap_2 rfl (lv_at hl 1 rfl) ?_
  refine rn_cV (As := [.int x]) (rest := [.ref m0]) 1 hx hb hml hown hts hG (m_isProcess l x) gX5_writeMap_X5_isProcess rfl ⟨rfl, rfl⟩ (by decide +kernel) ⟨Nat.le_of_ble_eq_true rfl, Nat.le_of_ble_eq_true rfl⟩ hF hF.1 rfl rfl hl.1 rfl (Nat.le_of_ble_eq_true rfl) ⟨by decide, by decide⟩ dX5_writeMap_3 ?_
  refine W.eq (g2 := F0 m 6 ls [.int (rn_b (rn_in x 0 (nI σ.pn - 1))), .ref m0]) rfl ?_
  refine rn_top (y := .int 0) (congrArg Value.int (by rw [rn_ok_f (by omega) hno]; rfl)) ?_
  refine lv_if_eq (tgt := 25) hx hb dX5_writeMap_6 (by decide) (fun c_6 => ?_) (fun c_6 => ?_)
  · refine lv_iconst (v := 1) hx hb dX5_writeMap_25 (by decide) ?_
    refine rn_wV (As := [.int 1]) (rest := []) 1 hx hb hml hown hts hG hS (m_refused l 1) (fun x hx => by rw [show x = m0 from hx]; exact rn_mA_0) gX5_writeMap_X5_refused rfl ⟨rfl, rfl⟩ (by decide +kernel) ⟨Nat.le_of_ble_eq_true rfl, Nat.le_of_ble_eq_true rfl⟩ hF hF.1 rfl rfl hl.1 rfl (Nat.le_of_ble_eq_true rfl) ⟨by decide, by decide⟩ dX5_writeMap_26 (fun H locs hP1 hz hk hS => ?_)
    refine W.eq (g2 := F0 m 29 ls [.int (rn_b (decide (1 ≠ 0)))]) rfl ?_
    have hF := hP1
    refine rn_top (y := .int 1) (congrArg Value.int (rfl)) ?_
    refine lv_if_eq (tgt := 34) hx hb dX5_writeMap_29 (by decide) (fun c_29 => ?_) (fun c_29 => ?_)
    · exact absurd c_29 (by decide)
    · refine lv_iconst (v := 0) hx hb dX5_writeMap_32 (by decide) ?_
      exact rn_Wiret hx hb hr rfl hlocks hS (by decide) (by decide) rfl ⟨_, hM, hF⟩ dX5_writeMap_33
  · exact absurd c_6 (by decide)

set_option maxHeartbeats 4000000 in
set_option maxRecDepth 100000 in
theorem n_enter_p (l : Launch) {D : va_G} {cI : ClassId} {m0 : Nat} {ma : Nat → Nat} {rf : Int32} {V : Nat → Nat → Int32} {σ : rn_St} (hV : rn_V σ) (hM : rn_Mr σ V) {x e1 : Int32} (hno : ¬ ∃ i, i < σ.pn ∧ x = nI i) (sz : Nat) : rn_W l yX5_enter wsX5_enter ({ frames := 4, cells := 0, slots := 0, locals := 96 } : Room) D [(cI, .int)] ((rn_MW D cI m0 ma rf (nI σ.sn) (nI σ.sd.length) (nI σ.pn) (nI σ.fn) σ.rc σ.la V)) [.ref m0, .int x, .int e1] (some (.int (0))) (rn_MP D cI m0 ma 1 σ) (rn_mA m0 ma) 0 0 sz := by
  refine rn_W.ofW (cc := cX5_enter) (maxL := 4) (ret := (some .int)) (by decide) rfl (Nat.le_of_ble_eq_true rfl) (fun p e s m below meth c ls hx hb hr hml hts hown hlocks hin hsz hF hG hS hl => ?_)
  have hl : lv_has ls 4 [(0, .ref m0), (1, .int x), (2, .int e1)] := hl
  have hs10 := hV.1.2
  have hp12 := hV.2.2.2.2.2.1.2.1
  have hf20 := hV.2.2.2.2.2.2.1
  have hd3 := hV.2.2.2.2.1.2
  refine lv_aload_n hx hb dX5_enter_0 rfl (lv_at hl 0 rfl) ?_
  refine lv_aload_n hx hb dX5_enter_1 rfl (lv_at hl 0 rfl) ?_
  refine lv_iload_n hx hb dX5_enter_2 rfl (lv_at hl 1 rfl) ?_
  refine rn_cV (As := [.int x]) (rest := [.ref m0]) 1 hx hb hml hown hts hG (m_isProcess l x) gX5_enter_X5_isProcess rfl ⟨rfl, rfl⟩ (by decide +kernel) ⟨Nat.le_of_ble_eq_true rfl, Nat.le_of_ble_eq_true rfl⟩ hF hF.1 rfl rfl hl.1 rfl (Nat.le_of_ble_eq_true rfl) ⟨by decide, by decide⟩ dX5_enter_3 ?_
  refine W.eq (g2 := F0 m 6 ls [.int (rn_b (rn_in x 0 (nI σ.pn - 1))), .ref m0]) rfl ?_
  refine rn_top (y := .int 0) (congrArg Value.int (by rw [rn_ok_f (by omega) hno]; rfl)) ?_
  refine lv_if_eq (tgt := 21) hx hb dX5_enter_6 (by decide) (fun c_6 => ?_) (fun c_6 => ?_)
  · refine lv_iconst (v := 1) hx hb dX5_enter_21 (by decide) ?_
    refine rn_wV (As := [.int 1]) (rest := []) 1 hx hb hml hown hts hG hS (m_refused l 1) (fun x hx => by rw [show x = m0 from hx]; exact rn_mA_0) gX5_enter_X5_refused rfl ⟨rfl, rfl⟩ (by decide +kernel) ⟨Nat.le_of_ble_eq_true rfl, Nat.le_of_ble_eq_true rfl⟩ hF hF.1 rfl rfl hl.1 rfl (Nat.le_of_ble_eq_true rfl) ⟨by decide, by decide⟩ dX5_enter_22 (fun H locs hP1 hz hk hS => ?_)
    refine W.eq (g2 := F0 m 25 ls [.int (rn_b (decide (1 ≠ 0)))]) rfl ?_
    have hF := hP1
    refine rn_top (y := .int 1) (congrArg Value.int (rfl)) ?_
    refine lv_if_eq (tgt := 30) hx hb dX5_enter_25 (by decide) (fun c_25 => ?_) (fun c_25 => ?_)
    · exact absurd c_25 (by decide)
    · refine lv_iconst (v := 0) hx hb dX5_enter_28 (by decide) ?_
      exact rn_Wiret hx hb hr rfl hlocks hS (by decide) (by decide) rfl ⟨_, hM, hF⟩ dX5_enter_29
  · exact absurd c_6 (by decide)

set_option maxHeartbeats 4000000 in
set_option maxRecDepth 100000 in
theorem n_drop_p (l : Launch) {D : va_G} {cI : ClassId} {m0 : Nat} {ma : Nat → Nat} {rf : Int32} {V : Nat → Nat → Int32} {σ : rn_St} (hV : rn_V σ) (hM : rn_Mr σ V) {x e1 : Int32} (hno : ¬ ∃ i, i < σ.pn ∧ x = nI i) (sz : Nat) : rn_W l yX5_drop wsX5_drop ({ frames := 4, cells := 0, slots := 0, locals := 96 } : Room) D [(cI, .int)] ((rn_MW D cI m0 ma rf (nI σ.sn) (nI σ.sd.length) (nI σ.pn) (nI σ.fn) σ.rc σ.la V)) [.ref m0, .int x, .int e1] (some (.int (0))) (rn_MP D cI m0 ma 1 σ) (rn_mA m0 ma) 0 0 sz := by
  refine rn_W.ofW (cc := cX5_drop) (maxL := 3) (ret := (some .int)) (by decide) rfl (Nat.le_of_ble_eq_true rfl) (fun p e s m below meth c ls hx hb hr hml hts hown hlocks hin hsz hF hG hS hl => ?_)
  have hl : lv_has ls 3 [(0, .ref m0), (1, .int x), (2, .int e1)] := hl
  have hs10 := hV.1.2
  have hp12 := hV.2.2.2.2.2.1.2.1
  have hf20 := hV.2.2.2.2.2.2.1
  have hd3 := hV.2.2.2.2.1.2
  refine lv_aload_n hx hb dX5_drop_0 rfl (lv_at hl 0 rfl) ?_
  refine lv_aload_n hx hb dX5_drop_1 rfl (lv_at hl 0 rfl) ?_
  refine lv_iload_n hx hb dX5_drop_2 rfl (lv_at hl 1 rfl) ?_
  refine rn_cV (As := [.int x]) (rest := [.ref m0]) 1 hx hb hml hown hts hG (m_isProcess l x) gX5_drop_X5_isProcess rfl ⟨rfl, rfl⟩ (by decide +kernel) ⟨Nat.le_of_ble_eq_true rfl, Nat.le_of_ble_eq_true rfl⟩ hF hF.1 rfl rfl hl.1 rfl (Nat.le_of_ble_eq_true rfl) ⟨by decide, by decide⟩ dX5_drop_3 ?_
  refine W.eq (g2 := F0 m 6 ls [.int (rn_b (rn_in x 0 (nI σ.pn - 1))), .ref m0]) rfl ?_
  refine rn_top (y := .int 0) (congrArg Value.int (by rw [rn_ok_f (by omega) hno]; rfl)) ?_
  refine lv_if_ne (tgt := 13) hx hb dX5_drop_6 (by decide) (fun c_6 => ?_) (fun c_6 => ?_)
  · exact absurd c_6 (by decide)
  · refine lv_iconst (v := 1) hx hb dX5_drop_9 (by decide) ?_
    refine lv_goto (tgt := 28) hx hb dX5_drop_10 (by decide) ?_
    refine rn_wV (As := [.int 1]) (rest := []) 1 hx hb hml hown hts hG hS (m_refused l 1) (fun x hx => by rw [show x = m0 from hx]; exact rn_mA_0) gX5_drop_X5_refused rfl ⟨rfl, rfl⟩ (by decide +kernel) ⟨Nat.le_of_ble_eq_true rfl, Nat.le_of_ble_eq_true rfl⟩ hF hF.1 rfl rfl hl.1 rfl (Nat.le_of_ble_eq_true rfl) ⟨by decide, by decide⟩ dX5_drop_28 (fun H locs hP1 hz hk hS => ?_)
    refine W.eq (g2 := F0 m 31 ls [.int (rn_b (decide (1 ≠ 0)))]) rfl ?_
    have hF := hP1
    refine rn_top (y := .int 1) (congrArg Value.int (rfl)) ?_
    refine lv_if_eq (tgt := 36) hx hb dX5_drop_31 (by decide) (fun c_31 => ?_) (fun c_31 => ?_)
    · exact absurd c_31 (by decide)
    · refine lv_iconst (v := 0) hx hb dX5_drop_34 (by decide) ?_
      exact rn_Wiret hx hb hr rfl hlocks hS (by decide) (by decide) rfl ⟨_, hM, hF⟩ dX5_drop_35

set_option maxHeartbeats 4000000 in
set_option maxRecDepth 100000 in
theorem n_setNumber_p (l : Launch) {D : va_G} {cI : ClassId} {m0 : Nat} {ma : Nat → Nat} {rf : Int32} {V : Nat → Nat → Int32} {σ : rn_St} (hV : rn_V σ) (hM : rn_Mr σ V) {x e1 : Int32} (hno : ¬ ∃ i, i < σ.pn ∧ x = nI i) (sz : Nat) : rn_W l yX5_setNumber wsX5_setNumber ({ frames := 4, cells := 0, slots := 0, locals := 96 } : Room) D [(cI, .int)] ((rn_MW D cI m0 ma rf (nI σ.sn) (nI σ.sd.length) (nI σ.pn) (nI σ.fn) σ.rc σ.la V)) [.ref m0, .int x, .int e1] (some (.int (0))) (rn_MP D cI m0 ma 1 σ) (rn_mA m0 ma) 0 0 sz := by
  refine rn_W.ofW (cc := cX5_setNumber) (maxL := 6) (ret := (some .int)) (by decide) rfl (Nat.le_of_ble_eq_true rfl) (fun p e s m below meth c ls hx hb hr hml hts hown hlocks hin hsz hF hG hS hl => ?_)
  have hl : lv_has ls 6 [(0, .ref m0), (1, .int x), (2, .int e1)] := hl
  have hs10 := hV.1.2
  have hp12 := hV.2.2.2.2.2.1.2.1
  have hf20 := hV.2.2.2.2.2.2.1
  have hd3 := hV.2.2.2.2.1.2
  refine lv_aload_n hx hb dX5_setNumber_0 rfl (lv_at hl 0 rfl) ?_
  refine lv_aload_n hx hb dX5_setNumber_1 rfl (lv_at hl 0 rfl) ?_
  refine lv_iload_n hx hb dX5_setNumber_2 rfl (lv_at hl 1 rfl) ?_
  refine rn_cV (As := [.int x]) (rest := [.ref m0]) 1 hx hb hml hown hts hG (m_isProcess l x) gX5_setNumber_X5_isProcess rfl ⟨rfl, rfl⟩ (by decide +kernel) ⟨Nat.le_of_ble_eq_true rfl, Nat.le_of_ble_eq_true rfl⟩ hF hF.1 rfl rfl hl.1 rfl (Nat.le_of_ble_eq_true rfl) ⟨by decide, by decide⟩ dX5_setNumber_3 ?_
  refine W.eq (g2 := F0 m 6 ls [.int (rn_b (rn_in x 0 (nI σ.pn - 1))), .ref m0]) rfl ?_
  refine rn_top (y := .int 0) (congrArg Value.int (by rw [rn_ok_f (by omega) hno]; rfl)) ?_
  refine lv_if_ne (tgt := 13) hx hb dX5_setNumber_6 (by decide) (fun c_6 => ?_) (fun c_6 => ?_)
  · exact absurd c_6 (by decide)
  · refine lv_iconst (v := 1) hx hb dX5_setNumber_9 (by decide) ?_
    refine lv_goto (tgt := 25) hx hb dX5_setNumber_10 (by decide) ?_
    refine rn_wV (As := [.int 1]) (rest := []) 1 hx hb hml hown hts hG hS (m_refused l 1) (fun x hx => by rw [show x = m0 from hx]; exact rn_mA_0) gX5_setNumber_X5_refused rfl ⟨rfl, rfl⟩ (by decide +kernel) ⟨Nat.le_of_ble_eq_true rfl, Nat.le_of_ble_eq_true rfl⟩ hF hF.1 rfl rfl hl.1 rfl (Nat.le_of_ble_eq_true rfl) ⟨by decide, by decide⟩ dX5_setNumber_25 (fun H locs hP1 hz hk hS => ?_)
    refine W.eq (g2 := F0 m 28 ls [.int (rn_b (decide (1 ≠ 0)))]) rfl ?_
    have hF := hP1
    refine rn_top (y := .int 1) (congrArg Value.int (rfl)) ?_
    refine lv_if_eq (tgt := 33) hx hb dX5_setNumber_28 (by decide) (fun c_28 => ?_) (fun c_28 => ?_)
    · exact absurd c_28 (by decide)
    · refine lv_iconst (v := 0) hx hb dX5_setNumber_31 (by decide) ?_
      exact rn_Wiret hx hb hr rfl hlocks hS (by decide) (by decide) rfl ⟨_, hM, hF⟩ dX5_setNumber_32

set_option maxHeartbeats 4000000 in
set_option maxRecDepth 100000 in
theorem n_rightsIn_p (l : Launch) {D : va_G} {cI : ClassId} {m0 : Nat} {ma : Nat → Nat} {rf : Int32} {V : Nat → Nat → Int32} {σ : rn_St} (hV : rn_V σ) (hM : rn_Mr σ V) {x e1 : Int32} (hno : ¬ ∃ i, i < σ.pn ∧ x = nI i) (sz : Nat) : rn_W l yX5_rightsIn wsX5_rightsIn ({ frames := 4, cells := 0, slots := 0, locals := 96 } : Room) D [(cI, .int)] ((rn_MW D cI m0 ma rf (nI σ.sn) (nI σ.sd.length) (nI σ.pn) (nI σ.fn) σ.rc σ.la V)) [.ref m0, .int x, .int e1] (some (.int (0))) (rn_MP D cI m0 ma 1 σ) (rn_mA m0 ma) 0 0 sz := by
  refine rn_W.ofW (cc := cX5_rightsIn) (maxL := 3) (ret := (some .int)) (by decide) rfl (Nat.le_of_ble_eq_true rfl) (fun p e s m below meth c ls hx hb hr hml hts hown hlocks hin hsz hF hG hS hl => ?_)
  have hl : lv_has ls 3 [(0, .ref m0), (1, .int x), (2, .int e1)] := hl
  have hs10 := hV.1.2
  have hp12 := hV.2.2.2.2.2.1.2.1
  have hf20 := hV.2.2.2.2.2.2.1
  have hd3 := hV.2.2.2.2.1.2
  refine lv_aload_n hx hb dX5_rightsIn_0 rfl (lv_at hl 0 rfl) ?_
  refine lv_aload_n hx hb dX5_rightsIn_1 rfl (lv_at hl 0 rfl) ?_
  refine lv_iload_n hx hb dX5_rightsIn_2 rfl (lv_at hl 1 rfl) ?_
  refine rn_cV (As := [.int x]) (rest := [.ref m0]) 1 hx hb hml hown hts hG (m_isProcess l x) gX5_rightsIn_X5_isProcess rfl ⟨rfl, rfl⟩ (by decide +kernel) ⟨Nat.le_of_ble_eq_true rfl, Nat.le_of_ble_eq_true rfl⟩ hF hF.1 rfl rfl hl.1 rfl (Nat.le_of_ble_eq_true rfl) ⟨by decide, by decide⟩ dX5_rightsIn_3 ?_
  refine W.eq (g2 := F0 m 6 ls [.int (rn_b (rn_in x 0 (nI σ.pn - 1))), .ref m0]) rfl ?_
  refine rn_top (y := .int 0) (congrArg Value.int (by rw [rn_ok_f (by omega) hno]; rfl)) ?_
  refine lv_if_eq (tgt := 21) hx hb dX5_rightsIn_6 (by decide) (fun c_6 => ?_) (fun c_6 => ?_)
  · refine lv_iconst (v := 1) hx hb dX5_rightsIn_21 (by decide) ?_
    refine rn_wV (As := [.int 1]) (rest := []) 1 hx hb hml hown hts hG hS (m_refused l 1) (fun x hx => by rw [show x = m0 from hx]; exact rn_mA_0) gX5_rightsIn_X5_refused rfl ⟨rfl, rfl⟩ (by decide +kernel) ⟨Nat.le_of_ble_eq_true rfl, Nat.le_of_ble_eq_true rfl⟩ hF hF.1 rfl rfl hl.1 rfl (Nat.le_of_ble_eq_true rfl) ⟨by decide, by decide⟩ dX5_rightsIn_22 (fun H locs hP1 hz hk hS => ?_)
    refine W.eq (g2 := F0 m 25 ls [.int (rn_b (decide (1 ≠ 0)))]) rfl ?_
    have hF := hP1
    refine rn_top (y := .int 1) (congrArg Value.int (rfl)) ?_
    refine lv_if_eq (tgt := 32) hx hb dX5_rightsIn_25 (by decide) (fun c_25 => ?_) (fun c_25 => ?_)
    · exact absurd c_25 (by decide)
    · refine lv_iconst (v := 0) hx hb dX5_rightsIn_28 (by decide) ?_
      refine lv_goto (tgt := 38) hx hb dX5_rightsIn_29 (by decide) ?_
      exact rn_Wiret hx hb hr rfl hlocks hS (by decide) (by decide) rfl ⟨_, hM, hF⟩ dX5_rightsIn_38
  · exact absurd c_6 (by decide)

set_option maxHeartbeats 4000000 in
set_option maxRecDepth 100000 in
theorem n_makeFile_p (l : Launch) {D : va_G} {cI : ClassId} {m0 : Nat} {ma : Nat → Nat} {rf : Int32} {V : Nat → Nat → Int32} {σ : rn_St} (hV : rn_V σ) (hM : rn_Mr σ V) {x e1 : Int32} (hno : ¬ ∃ i, i < σ.pn ∧ x = nI i) (sz : Nat) : rn_W l yX5_makeFile wsX5_makeFile ({ frames := 4, cells := 0, slots := 0, locals := 96 } : Room) D [(cI, .int)] ((rn_MW D cI m0 ma rf (nI σ.sn) (nI σ.sd.length) (nI σ.pn) (nI σ.fn) σ.rc σ.la V)) [.ref m0, .int x, .int e1] (some (.int (0))) (rn_MP D cI m0 ma 1 σ) (rn_mA m0 ma) 0 0 sz := by
  refine rn_W.ofW (cc := cX5_makeFile) (maxL := 3) (ret := (some .int)) (by decide) rfl (Nat.le_of_ble_eq_true rfl) (fun p e s m below meth c ls hx hb hr hml hts hown hlocks hin hsz hF hG hS hl => ?_)
  have hl : lv_has ls 3 [(0, .ref m0), (1, .int x), (2, .int e1)] := hl
  have hs10 := hV.1.2
  have hp12 := hV.2.2.2.2.2.1.2.1
  have hf20 := hV.2.2.2.2.2.2.1
  have hd3 := hV.2.2.2.2.1.2
  refine lv_aload_n hx hb dX5_makeFile_0 rfl (lv_at hl 0 rfl) ?_
  refine lv_aload_n hx hb dX5_makeFile_1 rfl (lv_at hl 0 rfl) ?_
  refine lv_iload_n hx hb dX5_makeFile_2 rfl (lv_at hl 1 rfl) ?_
  refine rn_cV (As := [.int x]) (rest := [.ref m0]) 1 hx hb hml hown hts hG (m_isProcess l x) gX5_makeFile_X5_isProcess rfl ⟨rfl, rfl⟩ (by decide +kernel) ⟨Nat.le_of_ble_eq_true rfl, Nat.le_of_ble_eq_true rfl⟩ hF hF.1 rfl rfl hl.1 rfl (Nat.le_of_ble_eq_true rfl) ⟨by decide, by decide⟩ dX5_makeFile_3 ?_
  refine W.eq (g2 := F0 m 6 ls [.int (rn_b (rn_in x 0 (nI σ.pn - 1))), .ref m0]) rfl ?_
  refine rn_top (y := .int 0) (congrArg Value.int (by rw [rn_ok_f (by omega) hno]; rfl)) ?_
  refine lv_if_ne (tgt := 13) hx hb dX5_makeFile_6 (by decide) (fun c_6 => ?_) (fun c_6 => ?_)
  · exact absurd c_6 (by decide)
  · refine lv_iconst (v := 1) hx hb dX5_makeFile_9 (by decide) ?_
    refine lv_goto (tgt := 41) hx hb dX5_makeFile_10 (by decide) ?_
    refine rn_wV (As := [.int 1]) (rest := []) 1 hx hb hml hown hts hG hS (m_refused l 1) (fun x hx => by rw [show x = m0 from hx]; exact rn_mA_0) gX5_makeFile_X5_refused rfl ⟨rfl, rfl⟩ (by decide +kernel) ⟨Nat.le_of_ble_eq_true rfl, Nat.le_of_ble_eq_true rfl⟩ hF hF.1 rfl rfl hl.1 rfl (Nat.le_of_ble_eq_true rfl) ⟨by decide, by decide⟩ dX5_makeFile_41 (fun H locs hP1 hz hk hS => ?_)
    refine W.eq (g2 := F0 m 44 ls [.int (rn_b (decide (1 ≠ 0)))]) rfl ?_
    have hF := hP1
    refine rn_top (y := .int 1) (congrArg Value.int (rfl)) ?_
    refine lv_if_eq (tgt := 49) hx hb dX5_makeFile_44 (by decide) (fun c_44 => ?_) (fun c_44 => ?_)
    · exact absurd c_44 (by decide)
    · refine lv_iconst (v := 0) hx hb dX5_makeFile_47 (by decide) ?_
      exact rn_Wiret hx hb hr rfl hlocks hS (by decide) (by decide) rfl ⟨_, hM, hF⟩ dX5_makeFile_48

set_option maxHeartbeats 4000000 in
set_option maxRecDepth 100000 in
theorem n_ownerSeenBy_p (l : Launch) {D : va_G} {cI : ClassId} {m0 : Nat} {ma : Nat → Nat} {rf : Int32} {V : Nat → Nat → Int32} {σ : rn_St} (hV : rn_V σ) (hM : rn_Mr σ V) {x e1 : Int32} (hno : ¬ ∃ i, i < σ.pn ∧ x = nI i) (sz : Nat) : rn_W l yX5_ownerSeenBy wsX5_ownerSeenBy ({ frames := 4, cells := 0, slots := 0, locals := 96 } : Room) D [(cI, .int)] ((rn_MW D cI m0 ma rf (nI σ.sn) (nI σ.sd.length) (nI σ.pn) (nI σ.fn) σ.rc σ.la V)) [.ref m0, .int x, .int e1] (some (.int (0))) (rn_MP D cI m0 ma 1 σ) (rn_mA m0 ma) 0 0 sz := by
  refine rn_W.ofW (cc := cX5_ownerSeenBy) (maxL := 3) (ret := (some .int)) (by decide) rfl (Nat.le_of_ble_eq_true rfl) (fun p e s m below meth c ls hx hb hr hml hts hown hlocks hin hsz hF hG hS hl => ?_)
  have hl : lv_has ls 3 [(0, .ref m0), (1, .int x), (2, .int e1)] := hl
  have hs10 := hV.1.2
  have hp12 := hV.2.2.2.2.2.1.2.1
  have hf20 := hV.2.2.2.2.2.2.1
  have hd3 := hV.2.2.2.2.1.2
  refine lv_aload_n hx hb dX5_ownerSeenBy_0 rfl (lv_at hl 0 rfl) ?_
  refine lv_aload_n hx hb dX5_ownerSeenBy_1 rfl (lv_at hl 0 rfl) ?_
  refine lv_iload_n hx hb dX5_ownerSeenBy_2 rfl (lv_at hl 1 rfl) ?_
  refine rn_cV (As := [.int x]) (rest := [.ref m0]) 1 hx hb hml hown hts hG (m_isProcess l x) gX5_ownerSeenBy_X5_isProcess rfl ⟨rfl, rfl⟩ (by decide +kernel) ⟨Nat.le_of_ble_eq_true rfl, Nat.le_of_ble_eq_true rfl⟩ hF hF.1 rfl rfl hl.1 rfl (Nat.le_of_ble_eq_true rfl) ⟨by decide, by decide⟩ dX5_ownerSeenBy_3 ?_
  refine W.eq (g2 := F0 m 6 ls [.int (rn_b (rn_in x 0 (nI σ.pn - 1))), .ref m0]) rfl ?_
  refine rn_top (y := .int 0) (congrArg Value.int (by rw [rn_ok_f (by omega) hno]; rfl)) ?_
  refine lv_if_eq (tgt := 21) hx hb dX5_ownerSeenBy_6 (by decide) (fun c_6 => ?_) (fun c_6 => ?_)
  · refine lv_iconst (v := 1) hx hb dX5_ownerSeenBy_21 (by decide) ?_
    refine rn_wV (As := [.int 1]) (rest := []) 1 hx hb hml hown hts hG hS (m_refused l 1) (fun x hx => by rw [show x = m0 from hx]; exact rn_mA_0) gX5_ownerSeenBy_X5_refused rfl ⟨rfl, rfl⟩ (by decide +kernel) ⟨Nat.le_of_ble_eq_true rfl, Nat.le_of_ble_eq_true rfl⟩ hF hF.1 rfl rfl hl.1 rfl (Nat.le_of_ble_eq_true rfl) ⟨by decide, by decide⟩ dX5_ownerSeenBy_22 (fun H locs hP1 hz hk hS => ?_)
    refine W.eq (g2 := F0 m 25 ls [.int (rn_b (decide (1 ≠ 0)))]) rfl ?_
    have hF := hP1
    refine rn_top (y := .int 1) (congrArg Value.int (rfl)) ?_
    refine lv_if_eq (tgt := 32) hx hb dX5_ownerSeenBy_25 (by decide) (fun c_25 => ?_) (fun c_25 => ?_)
    · exact absurd c_25 (by decide)
    · refine lv_iconst (v := 0) hx hb dX5_ownerSeenBy_28 (by decide) ?_
      refine lv_goto (tgt := 48) hx hb dX5_ownerSeenBy_29 (by decide) ?_
      exact rn_Wiret hx hb hr rfl hlocks hS (by decide) (by decide) rfl ⟨_, hM, hF⟩ dX5_ownerSeenBy_48
  · exact absurd c_6 (by decide)

set_option maxHeartbeats 4000000 in
set_option maxRecDepth 100000 in
theorem n_open_p (l : Launch) {D : va_G} {cI : ClassId} {m0 : Nat} {ma : Nat → Nat} {rf : Int32} {V : Nat → Nat → Int32} {σ : rn_St} (hV : rn_V σ) (hM : rn_Mr σ V) {x e1 e2 : Int32} (hno : ¬ ∃ i, i < σ.pn ∧ x = nI i) (sz : Nat) : rn_W l yX5_open wsX5_open ({ frames := 4, cells := 0, slots := 0, locals := 96 } : Room) D [(cI, .int)] ((rn_MW D cI m0 ma rf (nI σ.sn) (nI σ.sd.length) (nI σ.pn) (nI σ.fn) σ.rc σ.la V)) [.ref m0, .int x, .int e1, .int e2] (some (.int (0))) (rn_MP D cI m0 ma 1 σ) (rn_mA m0 ma) 0 0 sz := by
  refine rn_W.ofW (cc := cX5_open) (maxL := 5) (ret := (some .int)) (by decide) rfl (Nat.le_of_ble_eq_true rfl) (fun p e s m below meth c ls hx hb hr hml hts hown hlocks hin hsz hF hG hS hl => ?_)
  have hl : lv_has ls 5 [(0, .ref m0), (1, .int x), (2, .int e1), (3, .int e2)] := hl
  have hs10 := hV.1.2
  have hp12 := hV.2.2.2.2.2.1.2.1
  have hf20 := hV.2.2.2.2.2.2.1
  have hd3 := hV.2.2.2.2.1.2
  refine lv_aload_n hx hb dX5_open_0 rfl (lv_at hl 0 rfl) ?_
  refine lv_aload_n hx hb dX5_open_1 rfl (lv_at hl 0 rfl) ?_
  refine lv_iload_n hx hb dX5_open_2 rfl (lv_at hl 1 rfl) ?_
  refine rn_cV (As := [.int x]) (rest := [.ref m0]) 1 hx hb hml hown hts hG (m_isProcess l x) gX5_open_X5_isProcess rfl ⟨rfl, rfl⟩ (by decide +kernel) ⟨Nat.le_of_ble_eq_true rfl, Nat.le_of_ble_eq_true rfl⟩ hF hF.1 rfl rfl hl.1 rfl (Nat.le_of_ble_eq_true rfl) ⟨by decide, by decide⟩ dX5_open_3 ?_
  refine W.eq (g2 := F0 m 6 ls [.int (rn_b (rn_in x 0 (nI σ.pn - 1))), .ref m0]) rfl ?_
  refine rn_top (y := .int 0) (congrArg Value.int (by rw [rn_ok_f (by omega) hno]; rfl)) ?_
  refine lv_if_eq (tgt := 21) hx hb dX5_open_6 (by decide) (fun c_6 => ?_) (fun c_6 => ?_)
  · refine lv_iconst (v := 1) hx hb dX5_open_21 (by decide) ?_
    refine rn_wV (As := [.int 1]) (rest := []) 1 hx hb hml hown hts hG hS (m_refused l 1) (fun x hx => by rw [show x = m0 from hx]; exact rn_mA_0) gX5_open_X5_refused rfl ⟨rfl, rfl⟩ (by decide +kernel) ⟨Nat.le_of_ble_eq_true rfl, Nat.le_of_ble_eq_true rfl⟩ hF hF.1 rfl rfl hl.1 rfl (Nat.le_of_ble_eq_true rfl) ⟨by decide, by decide⟩ dX5_open_22 (fun H locs hP1 hz hk hS => ?_)
    refine W.eq (g2 := F0 m 25 ls [.int (rn_b (decide (1 ≠ 0)))]) rfl ?_
    have hF := hP1
    refine rn_top (y := .int 1) (congrArg Value.int (rfl)) ?_
    refine lv_if_eq (tgt := 30) hx hb dX5_open_25 (by decide) (fun c_25 => ?_) (fun c_25 => ?_)
    · exact absurd c_25 (by decide)
    · refine lv_iconst (v := 0) hx hb dX5_open_28 (by decide) ?_
      exact rn_Wiret hx hb hr rfl hlocks hS (by decide) (by decide) rfl ⟨_, hM, hF⟩ dX5_open_29
  · exact absurd c_6 (by decide)

set_option maxHeartbeats 4000000 in
set_option maxRecDepth 100000 in
theorem n_handOver_p (l : Launch) {D : va_G} {cI : ClassId} {m0 : Nat} {ma : Nat → Nat} {rf : Int32} {V : Nat → Nat → Int32} {σ : rn_St} (hV : rn_V σ) (hM : rn_Mr σ V) {x e1 e2 : Int32} (hno : ¬ ∃ i, i < σ.pn ∧ x = nI i) (sz : Nat) : rn_W l yX5_handOver wsX5_handOver ({ frames := 4, cells := 0, slots := 0, locals := 96 } : Room) D [(cI, .int)] ((rn_MW D cI m0 ma rf (nI σ.sn) (nI σ.sd.length) (nI σ.pn) (nI σ.fn) σ.rc σ.la V)) [.ref m0, .int x, .int e1, .int e2] (some (.int (0))) (rn_MP D cI m0 ma 1 σ) (rn_mA m0 ma) 0 0 sz := by
  refine rn_W.ofW (cc := cX5_handOver) (maxL := 7) (ret := (some .int)) (by decide) rfl (Nat.le_of_ble_eq_true rfl) (fun p e s m below meth c ls hx hb hr hml hts hown hlocks hin hsz hF hG hS hl => ?_)
  have hl : lv_has ls 7 [(0, .ref m0), (1, .int x), (2, .int e1), (3, .int e2)] := hl
  have hs10 := hV.1.2
  have hp12 := hV.2.2.2.2.2.1.2.1
  have hf20 := hV.2.2.2.2.2.2.1
  have hd3 := hV.2.2.2.2.1.2
  refine lv_aload_n hx hb dX5_handOver_0 rfl (lv_at hl 0 rfl) ?_
  refine lv_iload_n hx hb dX5_handOver_1 rfl (lv_at hl 1 rfl) ?_
  refine rn_cV (As := [.int x]) (rest := []) 1 hx hb hml hown hts hG (m_isProcess l x) gX5_handOver_X5_isProcess rfl ⟨rfl, rfl⟩ (by decide +kernel) ⟨Nat.le_of_ble_eq_true rfl, Nat.le_of_ble_eq_true rfl⟩ hF hF.1 rfl rfl hl.1 rfl (Nat.le_of_ble_eq_true rfl) ⟨by decide, by decide⟩ dX5_handOver_2 ?_
  refine W.eq (g2 := F0 m 5 ls [.int (rn_b (rn_in x 0 (nI σ.pn - 1)))]) rfl ?_
  refine rn_top (y := .int 0) (congrArg Value.int (by rw [rn_ok_f (by omega) hno]; rfl)) ?_
  refine lv_if_eq (tgt := 20) hx hb dX5_handOver_5 (by decide) (fun c_5 => ?_) (fun c_5 => ?_)
  · refine lv_iconst (v := 0) hx hb dX5_handOver_20 (by decide) ?_
    refine lv_istore (lv' := [(4, .int 0), (0, .ref m0), (1, .int x), (2, .int e1), (3, .int e2)]) hx hb dX5_handOver_21 hl (by decide) rfl (fun ls hl => ?_)
    refine lv_aload_n hx hb dX5_handOver_23 rfl (lv_at hl 1 rfl) ?_
    refine lv_iload hx hb dX5_handOver_24 (lv_at hl 0 rfl) ?_
    refine lv_if_ne (tgt := 33) hx hb dX5_handOver_26 (by decide) (fun c_26 => ?_) (fun c_26 => ?_)
    · exact absurd c_26 (by decide)
    · refine lv_iconst (v := 1) hx hb dX5_handOver_29 (by decide) ?_
      refine lv_goto (tgt := 45) hx hb dX5_handOver_30 (by decide) ?_
      refine rn_wV (As := [.int 1]) (rest := []) 1 hx hb hml hown hts hG hS (m_refused l 1) (fun x hx => by rw [show x = m0 from hx]; exact rn_mA_0) gX5_handOver_X5_refused rfl ⟨rfl, rfl⟩ (by decide +kernel) ⟨Nat.le_of_ble_eq_true rfl, Nat.le_of_ble_eq_true rfl⟩ hF hF.1 rfl rfl hl.1 rfl (Nat.le_of_ble_eq_true rfl) ⟨by decide, by decide⟩ dX5_handOver_45 (fun H locs hP1 hz hk hS => ?_)
      refine W.eq (g2 := F0 m 48 ls [.int (rn_b (decide (1 ≠ 0)))]) rfl ?_
      have hF := hP1
      refine rn_top (y := .int 1) (congrArg Value.int (rfl)) ?_
      refine lv_if_eq (tgt := 53) hx hb dX5_handOver_48 (by decide) (fun c_48 => ?_) (fun c_48 => ?_)
      · exact absurd c_48 (by decide)
      · refine lv_iconst (v := 0) hx hb dX5_handOver_51 (by decide) ?_
        exact rn_Wiret hx hb hr rfl hlocks hS (by decide) (by decide) rfl ⟨_, hM, hF⟩ dX5_handOver_52
  · exact absurd c_5 (by decide)

set_option maxHeartbeats 4000000 in
set_option maxRecDepth 100000 in
theorem n_roomOf_p (l : Launch) {D : va_G} {cI : ClassId} {m0 : Nat} {ma : Nat → Nat} {rf : Int32} {V : Nat → Nat → Int32} {σ : rn_St} (hV : rn_V σ) (hM : rn_Mr σ V) {x : Int32} (hno : ¬ ∃ i, i < σ.pn ∧ x = nI i) (sz : Nat) : rn_W l yX5_roomOf wsX5_roomOf ({ frames := 4, cells := 0, slots := 0, locals := 96 } : Room) D [(cI, .int)] ((rn_MW D cI m0 ma rf (nI σ.sn) (nI σ.sd.length) (nI σ.pn) (nI σ.fn) σ.rc σ.la V)) [.ref m0, .int x] (some (.int (0))) (rn_MP D cI m0 ma 1 σ) (rn_mA m0 ma) 0 0 sz := by
  refine rn_W.ofW (cc := cX5_roomOf) (maxL := 2) (ret := (some .int)) (by decide) rfl (Nat.le_of_ble_eq_true rfl) (fun p e s m below meth c ls hx hb hr hml hts hown hlocks hin hsz hF hG hS hl => ?_)
  have hl : lv_has ls 2 [(0, .ref m0), (1, .int x)] := hl
  have hs10 := hV.1.2
  have hp12 := hV.2.2.2.2.2.1.2.1
  have hf20 := hV.2.2.2.2.2.2.1
  have hd3 := hV.2.2.2.2.1.2
  refine lv_aload_n hx hb dX5_roomOf_0 rfl (lv_at hl 0 rfl) ?_
  refine lv_iload_n hx hb dX5_roomOf_1 rfl (lv_at hl 1 rfl) ?_
  refine rn_wV (As := [.int x]) (rest := []) 1 hx hb hml hown hts hG hS (q_noProcess_p l hV hM hno _) (fun x hx => hx) gX5_roomOf_X5_noProcess rfl ⟨rfl, rfl⟩ (by decide +kernel) ⟨Nat.le_of_ble_eq_true rfl, Nat.le_of_ble_eq_true rfl⟩ hF hF.1 rfl rfl hl.1 rfl (Nat.le_of_ble_eq_true rfl) ⟨by decide, by decide⟩ dX5_roomOf_2 (fun H locs hP1 hz hk hS => ?_)
  refine W.eq (g2 := F0 m 5 ls [.int 1]) rfl ?_
  have hF := hP1
  refine lv_if_eq (tgt := 12) hx hb dX5_roomOf_5 (by decide) (fun c_5 => ?_) (fun c_5 => ?_)
  · exact absurd c_5 (by decide)
  · refine lv_iconst (v := 0) hx hb dX5_roomOf_8 (by decide) ?_
    refine lv_goto (tgt := 18) hx hb dX5_roomOf_9 (by decide) ?_
    exact rn_Wiret hx hb hr rfl hlocks hS (by decide) (by decide) rfl ⟨_, hM, hF⟩ dX5_roomOf_18

set_option maxHeartbeats 4000000 in
set_option maxRecDepth 100000 in
theorem n_numberOf_p (l : Launch) {D : va_G} {cI : ClassId} {m0 : Nat} {ma : Nat → Nat} {rf : Int32} {V : Nat → Nat → Int32} {σ : rn_St} (hV : rn_V σ) (hM : rn_Mr σ V) {x : Int32} (hno : ¬ ∃ i, i < σ.pn ∧ x = nI i) (sz : Nat) : rn_W l yX5_numberOf wsX5_numberOf ({ frames := 4, cells := 0, slots := 0, locals := 96 } : Room) D [(cI, .int)] ((rn_MW D cI m0 ma rf (nI σ.sn) (nI σ.sd.length) (nI σ.pn) (nI σ.fn) σ.rc σ.la V)) [.ref m0, .int x] (some (.int (0))) (rn_MP D cI m0 ma 1 σ) (rn_mA m0 ma) 0 0 sz := by
  refine rn_W.ofW (cc := cX5_numberOf) (maxL := 2) (ret := (some .int)) (by decide) rfl (Nat.le_of_ble_eq_true rfl) (fun p e s m below meth c ls hx hb hr hml hts hown hlocks hin hsz hF hG hS hl => ?_)
  have hl : lv_has ls 2 [(0, .ref m0), (1, .int x)] := hl
  have hs10 := hV.1.2
  have hp12 := hV.2.2.2.2.2.1.2.1
  have hf20 := hV.2.2.2.2.2.2.1
  have hd3 := hV.2.2.2.2.1.2
  refine lv_aload_n hx hb dX5_numberOf_0 rfl (lv_at hl 0 rfl) ?_
  refine lv_iload_n hx hb dX5_numberOf_1 rfl (lv_at hl 1 rfl) ?_
  refine rn_wV (As := [.int x]) (rest := []) 1 hx hb hml hown hts hG hS (q_noProcess_p l hV hM hno _) (fun x hx => hx) gX5_numberOf_X5_noProcess rfl ⟨rfl, rfl⟩ (by decide +kernel) ⟨Nat.le_of_ble_eq_true rfl, Nat.le_of_ble_eq_true rfl⟩ hF hF.1 rfl rfl hl.1 rfl (Nat.le_of_ble_eq_true rfl) ⟨by decide, by decide⟩ dX5_numberOf_2 (fun H locs hP1 hz hk hS => ?_)
  refine W.eq (g2 := F0 m 5 ls [.int 1]) rfl ?_
  have hF := hP1
  refine lv_if_eq (tgt := 12) hx hb dX5_numberOf_5 (by decide) (fun c_5 => ?_) (fun c_5 => ?_)
  · exact absurd c_5 (by decide)
  · refine lv_iconst (v := 0) hx hb dX5_numberOf_8 (by decide) ?_
    refine lv_goto (tgt := 18) hx hb dX5_numberOf_9 (by decide) ?_
    exact rn_Wiret hx hb hr rfl hlocks hS (by decide) (by decide) rfl ⟨_, hM, hF⟩ dX5_numberOf_18

set_option maxHeartbeats 4000000 in
set_option maxRecDepth 100000 in
theorem n_outerOf_r (l : Launch) {D : va_G} {cI : ClassId} {m0 : Nat} {ma : Nat → Nat} {rf : Int32} {V : Nat → Nat → Int32} {σ : rn_St} (hV : rn_V σ) (hM : rn_Mr σ V) {x : Int32} (hno : ¬ ∃ i, i < σ.sn ∧ x = nI i) (sz : Nat) : rn_W l yX5_outerOf wsX5_outerOf ({ frames := 4, cells := 0, slots := 0, locals := 96 } : Room) D [(cI, .int)] ((rn_MW D cI m0 ma rf (nI σ.sn) (nI σ.sd.length) (nI σ.pn) (nI σ.fn) σ.rc σ.la V)) [.ref m0, .int x] (some (.int (0))) (rn_MP D cI m0 ma 1 σ) (rn_mA m0 ma) 0 0 sz := by
  refine rn_W.ofW (cc := cX5_outerOf) (maxL := 2) (ret := (some .int)) (by decide) rfl (Nat.le_of_ble_eq_true rfl) (fun p e s m below meth c ls hx hb hr hml hts hown hlocks hin hsz hF hG hS hl => ?_)
  have hl : lv_has ls 2 [(0, .ref m0), (1, .int x)] := hl
  have hs10 := hV.1.2
  have hp12 := hV.2.2.2.2.2.1.2.1
  have hf20 := hV.2.2.2.2.2.2.1
  have hd3 := hV.2.2.2.2.1.2
  refine lv_aload_n hx hb dX5_outerOf_0 rfl (lv_at hl 0 rfl) ?_
  refine lv_aload_n hx hb dX5_outerOf_1 rfl (lv_at hl 0 rfl) ?_
  refine lv_iload_n hx hb dX5_outerOf_2 rfl (lv_at hl 1 rfl) ?_
  refine rn_cV (As := [.int x]) (rest := [.ref m0]) 1 hx hb hml hown hts hG (m_isRoom l x) gX5_outerOf_X5_isRoom rfl ⟨rfl, rfl⟩ (by decide +kernel) ⟨Nat.le_of_ble_eq_true rfl, Nat.le_of_ble_eq_true rfl⟩ hF hF.1 rfl rfl hl.1 rfl (Nat.le_of_ble_eq_true rfl) ⟨by decide, by decide⟩ dX5_outerOf_3 ?_
  refine W.eq (g2 := F0 m 6 ls [.int (rn_b (rn_in x 0 (nI σ.sn - 1))), .ref m0]) rfl ?_
  refine rn_top (y := .int 0) (congrArg Value.int (by rw [rn_ok_f (by omega) hno]; rfl)) ?_
  refine lv_if_eq (tgt := 13) hx hb dX5_outerOf_6 (by decide) (fun c_6 => ?_) (fun c_6 => ?_)
  · refine lv_iconst (v := 1) hx hb dX5_outerOf_13 (by decide) ?_
    refine rn_wV (As := [.int 1]) (rest := []) 1 hx hb hml hown hts hG hS (m_refused l 1) (fun x hx => by rw [show x = m0 from hx]; exact rn_mA_0) gX5_outerOf_X5_refused rfl ⟨rfl, rfl⟩ (by decide +kernel) ⟨Nat.le_of_ble_eq_true rfl, Nat.le_of_ble_eq_true rfl⟩ hF hF.1 rfl rfl hl.1 rfl (Nat.le_of_ble_eq_true rfl) ⟨by decide, by decide⟩ dX5_outerOf_14 (fun H locs hP1 hz hk hS => ?_)
    refine W.eq (g2 := F0 m 17 ls [.int (rn_b (decide (1 ≠ 0)))]) rfl ?_
    have hF := hP1
    refine rn_top (y := .int 1) (congrArg Value.int (rfl)) ?_
    refine lv_if_eq (tgt := 24) hx hb dX5_outerOf_17 (by decide) (fun c_17 => ?_) (fun c_17 => ?_)
    · exact absurd c_17 (by decide)
    · refine lv_iconst (v := 0) hx hb dX5_outerOf_20 (by decide) ?_
      refine lv_goto (tgt := 30) hx hb dX5_outerOf_21 (by decide) ?_
      exact rn_Wiret hx hb hr rfl hlocks hS (by decide) (by decide) rfl ⟨_, hM, hF⟩ dX5_outerOf_30
  · exact absurd c_6 (by decide)

set_option maxHeartbeats 4000000 in
set_option maxRecDepth 100000 in
theorem n_leadsTo_r (l : Launch) {D : va_G} {cI : ClassId} {m0 : Nat} {ma : Nat → Nat} {rf : Int32} {V : Nat → Nat → Int32} {σ : rn_St} (hV : rn_V σ) (hM : rn_Mr σ V) {x e1 : Int32} (hno : ¬ ∃ i, i < σ.sn ∧ x = nI i) (sz : Nat) : rn_W l yX5_leadsTo wsX5_leadsTo ({ frames := 4, cells := 0, slots := 0, locals := 96 } : Room) D [(cI, .int)] ((rn_MW D cI m0 ma rf (nI σ.sn) (nI σ.sd.length) (nI σ.pn) (nI σ.fn) σ.rc σ.la V)) [.ref m0, .int x, .int e1] (some (.int (0))) (rn_MP D cI m0 ma 1 σ) (rn_mA m0 ma) 0 0 sz := by
  refine rn_W.ofW (cc := cX5_leadsTo) (maxL := 3) (ret := (some .int)) (by decide) rfl (Nat.le_of_ble_eq_true rfl) (fun p e s m below meth c ls hx hb hr hml hts hown hlocks hin hsz hF hG hS hl => ?_)
  have hl : lv_has ls 3 [(0, .ref m0), (1, .int x), (2, .int e1)] := hl
  have hs10 := hV.1.2
  have hp12 := hV.2.2.2.2.2.1.2.1
  have hf20 := hV.2.2.2.2.2.2.1
  have hd3 := hV.2.2.2.2.1.2
  refine lv_aload_n hx hb dX5_leadsTo_0 rfl (lv_at hl 0 rfl) ?_
  refine lv_iload_n hx hb dX5_leadsTo_1 rfl (lv_at hl 1 rfl) ?_
  refine lv_iload_n hx hb dX5_leadsTo_2 rfl (lv_at hl 2 rfl) ?_
  refine rn_wV (As := [.int x, .int e1]) (rest := []) 2 hx hb hml hown hts hG hS (q_noNumber_r l hV hM hno _) (fun x hx => hx) gX5_leadsTo_X5_noNumber rfl ⟨rfl, rfl⟩ (by decide +kernel) ⟨Nat.le_of_ble_eq_true rfl, Nat.le_of_ble_eq_true rfl⟩ hF hF.1 rfl rfl hl.1 rfl (Nat.le_of_ble_eq_true rfl) ⟨by decide, by decide⟩ dX5_leadsTo_3 (fun H locs hP1 hz hk hS => ?_)
  refine W.eq (g2 := F0 m 6 ls [.int 1]) rfl ?_
  have hF := hP1
  refine lv_if_eq (tgt := 13) hx hb dX5_leadsTo_6 (by decide) (fun c_6 => ?_) (fun c_6 => ?_)
  · exact absurd c_6 (by decide)
  · refine lv_iconst (v := 0) hx hb dX5_leadsTo_9 (by decide) ?_
    refine lv_goto (tgt := 19) hx hb dX5_leadsTo_10 (by decide) ?_
    exact rn_Wiret hx hb hr rfl hlocks hS (by decide) (by decide) rfl ⟨_, hM, hF⟩ dX5_leadsTo_19

set_option maxHeartbeats 4000000 in
set_option maxRecDepth 100000 in
theorem n_leadsTo_n (l : Launch) {D : va_G} {cI : ClassId} {m0 : Nat} {ma : Nat → Nat} {rf : Int32} {V : Nat → Nat → Int32} {σ : rn_St} (hV : rn_V σ) (hM : rn_Mr σ V) {i : Nat} (hi0 : i < σ.sn) {x : Int32} (hbad : x < 0 ∨ nI 998 < x) (sz : Nat) : rn_W l yX5_leadsTo wsX5_leadsTo ({ frames := 4, cells := 0, slots := 0, locals := 96 } : Room) D [(cI, .int)] ((rn_MW D cI m0 ma rf (nI σ.sn) (nI σ.sd.length) (nI σ.pn) (nI σ.fn) σ.rc σ.la V)) [.ref m0, .int (nI i), .int x] (some (.int (0))) (rn_MP D cI m0 ma 2 σ) (rn_mA m0 ma) 0 0 sz := by
  refine rn_W.ofW (cc := cX5_leadsTo) (maxL := 3) (ret := (some .int)) (by decide) rfl (Nat.le_of_ble_eq_true rfl) (fun p e s m below meth c ls hx hb hr hml hts hown hlocks hin hsz hF hG hS hl => ?_)
  have hl : lv_has ls 3 [(0, .ref m0), (1, .int (nI i)), (2, .int x)] := hl
  have hs10 := hV.1.2
  have hp12 := hV.2.2.2.2.2.1.2.1
  have hf20 := hV.2.2.2.2.2.2.1
  have hd3 := hV.2.2.2.2.1.2
  refine lv_aload_n hx hb dX5_leadsTo_0 rfl (lv_at hl 0 rfl) ?_
  refine lv_iload_n hx hb dX5_leadsTo_1 rfl (lv_at hl 1 rfl) ?_
  refine lv_iload_n hx hb dX5_leadsTo_2 rfl (lv_at hl 2 rfl) ?_
  refine rn_wV (As := [.int (nI i), .int x]) (rest := []) 2 hx hb hml hown hts hG hS (q_noNumber_n l hV hM hi0 hbad _) (fun x hx => hx) gX5_leadsTo_X5_noNumber rfl ⟨rfl, rfl⟩ (by decide +kernel) ⟨Nat.le_of_ble_eq_true rfl, Nat.le_of_ble_eq_true rfl⟩ hF hF.1 rfl rfl hl.1 rfl (Nat.le_of_ble_eq_true rfl) ⟨by decide, by decide⟩ dX5_leadsTo_3 (fun H locs hP1 hz hk hS => ?_)
  refine W.eq (g2 := F0 m 6 ls [.int 1]) rfl ?_
  have hF := hP1
  refine lv_if_eq (tgt := 13) hx hb dX5_leadsTo_6 (by decide) (fun c_6 => ?_) (fun c_6 => ?_)
  · exact absurd c_6 (by decide)
  · refine lv_iconst (v := 0) hx hb dX5_leadsTo_9 (by decide) ?_
    refine lv_goto (tgt := 19) hx hb dX5_leadsTo_10 (by decide) ?_
    exact rn_Wiret hx hb hr rfl hlocks hS (by decide) (by decide) rfl ⟨_, hM, hF⟩ dX5_leadsTo_19

set_option maxHeartbeats 4000000 in
set_option maxRecDepth 100000 in
theorem n_seenAs_r (l : Launch) {D : va_G} {cI : ClassId} {m0 : Nat} {ma : Nat → Nat} {rf : Int32} {V : Nat → Nat → Int32} {σ : rn_St} (hV : rn_V σ) (hM : rn_Mr σ V) {x e1 : Int32} (hno : ¬ ∃ i, i < σ.sn ∧ x = nI i) (sz : Nat) : rn_W l yX5_seenAs wsX5_seenAs ({ frames := 4, cells := 0, slots := 0, locals := 96 } : Room) D [(cI, .int)] ((rn_MW D cI m0 ma rf (nI σ.sn) (nI σ.sd.length) (nI σ.pn) (nI σ.fn) σ.rc σ.la V)) [.ref m0, .int x, .int e1] (some (.int (0))) (rn_MP D cI m0 ma 1 σ) (rn_mA m0 ma) 0 0 sz := by
  refine rn_W.ofW (cc := cX5_seenAs) (maxL := 3) (ret := (some .int)) (by decide) rfl (Nat.le_of_ble_eq_true rfl) (fun p e s m below meth c ls hx hb hr hml hts hown hlocks hin hsz hF hG hS hl => ?_)
  have hl : lv_has ls 3 [(0, .ref m0), (1, .int x), (2, .int e1)] := hl
  have hs10 := hV.1.2
  have hp12 := hV.2.2.2.2.2.1.2.1
  have hf20 := hV.2.2.2.2.2.2.1
  have hd3 := hV.2.2.2.2.1.2
  refine lv_aload_n hx hb dX5_seenAs_0 rfl (lv_at hl 0 rfl) ?_
  refine lv_iload_n hx hb dX5_seenAs_1 rfl (lv_at hl 1 rfl) ?_
  refine lv_iload_n hx hb dX5_seenAs_2 rfl (lv_at hl 2 rfl) ?_
  refine rn_wV (As := [.int x, .int e1]) (rest := []) 2 hx hb hml hown hts hG hS (q_noNumber_r l hV hM hno _) (fun x hx => hx) gX5_seenAs_X5_noNumber rfl ⟨rfl, rfl⟩ (by decide +kernel) ⟨Nat.le_of_ble_eq_true rfl, Nat.le_of_ble_eq_true rfl⟩ hF hF.1 rfl rfl hl.1 rfl (Nat.le_of_ble_eq_true rfl) ⟨by decide, by decide⟩ dX5_seenAs_3 (fun H locs hP1 hz hk hS => ?_)
  refine W.eq (g2 := F0 m 6 ls [.int 1]) rfl ?_
  have hF := hP1
  refine lv_if_eq (tgt := 13) hx hb dX5_seenAs_6 (by decide) (fun c_6 => ?_) (fun c_6 => ?_)
  · exact absurd c_6 (by decide)
  · refine lv_iconst (v := 0) hx hb dX5_seenAs_9 (by decide) ?_
    refine lv_goto (tgt := 19) hx hb dX5_seenAs_10 (by decide) ?_
    exact rn_Wiret hx hb hr rfl hlocks hS (by decide) (by decide) rfl ⟨_, hM, hF⟩ dX5_seenAs_19

set_option maxHeartbeats 4000000 in
set_option maxRecDepth 100000 in
theorem n_seenAs_n (l : Launch) {D : va_G} {cI : ClassId} {m0 : Nat} {ma : Nat → Nat} {rf : Int32} {V : Nat → Nat → Int32} {σ : rn_St} (hV : rn_V σ) (hM : rn_Mr σ V) {i : Nat} (hi0 : i < σ.sn) {x : Int32} (hbad : x < 0 ∨ nI 998 < x) (sz : Nat) : rn_W l yX5_seenAs wsX5_seenAs ({ frames := 4, cells := 0, slots := 0, locals := 96 } : Room) D [(cI, .int)] ((rn_MW D cI m0 ma rf (nI σ.sn) (nI σ.sd.length) (nI σ.pn) (nI σ.fn) σ.rc σ.la V)) [.ref m0, .int (nI i), .int x] (some (.int (0))) (rn_MP D cI m0 ma 2 σ) (rn_mA m0 ma) 0 0 sz := by
  refine rn_W.ofW (cc := cX5_seenAs) (maxL := 3) (ret := (some .int)) (by decide) rfl (Nat.le_of_ble_eq_true rfl) (fun p e s m below meth c ls hx hb hr hml hts hown hlocks hin hsz hF hG hS hl => ?_)
  have hl : lv_has ls 3 [(0, .ref m0), (1, .int (nI i)), (2, .int x)] := hl
  have hs10 := hV.1.2
  have hp12 := hV.2.2.2.2.2.1.2.1
  have hf20 := hV.2.2.2.2.2.2.1
  have hd3 := hV.2.2.2.2.1.2
  refine lv_aload_n hx hb dX5_seenAs_0 rfl (lv_at hl 0 rfl) ?_
  refine lv_iload_n hx hb dX5_seenAs_1 rfl (lv_at hl 1 rfl) ?_
  refine lv_iload_n hx hb dX5_seenAs_2 rfl (lv_at hl 2 rfl) ?_
  refine rn_wV (As := [.int (nI i), .int x]) (rest := []) 2 hx hb hml hown hts hG hS (q_noNumber_n l hV hM hi0 hbad _) (fun x hx => hx) gX5_seenAs_X5_noNumber rfl ⟨rfl, rfl⟩ (by decide +kernel) ⟨Nat.le_of_ble_eq_true rfl, Nat.le_of_ble_eq_true rfl⟩ hF hF.1 rfl rfl hl.1 rfl (Nat.le_of_ble_eq_true rfl) ⟨by decide, by decide⟩ dX5_seenAs_3 (fun H locs hP1 hz hk hS => ?_)
  refine W.eq (g2 := F0 m 6 ls [.int 1]) rfl ?_
  have hF := hP1
  refine lv_if_eq (tgt := 13) hx hb dX5_seenAs_6 (by decide) (fun c_6 => ?_) (fun c_6 => ?_)
  · exact absurd c_6 (by decide)
  · refine lv_iconst (v := 0) hx hb dX5_seenAs_9 (by decide) ?_
    refine lv_goto (tgt := 19) hx hb dX5_seenAs_10 (by decide) ?_
    exact rn_Wiret hx hb hr rfl hlocks hS (by decide) (by decide) rfl ⟨_, hM, hF⟩ dX5_seenAs_19

set_option maxHeartbeats 4000000 in
set_option maxRecDepth 100000 in
theorem n_seenByLeading_r (l : Launch) {D : va_G} {cI : ClassId} {m0 : Nat} {ma : Nat → Nat} {rf : Int32} {V : Nat → Nat → Int32} {σ : rn_St} (hV : rn_V σ) (hM : rn_Mr σ V) {x e1 : Int32} (hno : ¬ ∃ i, i < σ.sn ∧ x = nI i) (sz : Nat) : rn_W l yX5_seenByLeading wsX5_seenByLeading ({ frames := 5, cells := 0, slots := 0, locals := 118 } : Room) D [(cI, .int)] ((rn_MW D cI m0 ma rf (nI σ.sn) (nI σ.sd.length) (nI σ.pn) (nI σ.fn) σ.rc σ.la V)) [.ref m0, .int x, .int e1] (some (.int (0))) (rn_MP D cI m0 ma 1 σ) (rn_mA m0 ma) 0 0 sz := by
  refine rn_W.ofW (cc := cX5_seenByLeading) (maxL := 3) (ret := (some .int)) (by decide) rfl (Nat.le_of_ble_eq_true rfl) (fun p e s m below meth c ls hx hb hr hml hts hown hlocks hin hsz hF hG hS hl => ?_)
  have hl : lv_has ls 3 [(0, .ref m0), (1, .int x), (2, .int e1)] := hl
  have hs10 := hV.1.2
  have hp12 := hV.2.2.2.2.2.1.2.1
  have hf20 := hV.2.2.2.2.2.2.1
  have hd3 := hV.2.2.2.2.1.2
  refine lv_aload_n hx hb dX5_seenByLeading_0 rfl (lv_at hl 0 rfl) ?_
  refine lv_iload_n hx hb dX5_seenByLeading_1 rfl (lv_at hl 1 rfl) ?_
  refine lv_iload_n hx hb dX5_seenByLeading_2 rfl (lv_at hl 2 rfl) ?_
  refine rn_wV (As := [.int x, .int e1]) (rest := []) 2 hx hb hml hown hts hG hS (n_seenAs_r l hV hM hno _) (fun x hx => hx) gX5_seenByLeading_X5_seenAs rfl ⟨rfl, rfl⟩ (by decide +kernel) ⟨Nat.le_of_ble_eq_true rfl, Nat.le_of_ble_eq_true rfl⟩ hF hF.1 rfl rfl hl.1 rfl (Nat.le_of_ble_eq_true rfl) ⟨by decide, by decide⟩ dX5_seenByLeading_3 (fun H locs hP1 hz hk hS => ?_)
  refine W.eq (g2 := F0 m 6 ls [.int 0]) rfl ?_
  exact rn_Wiret hx hb hr rfl hlocks hS (by decide) (by decide) rfl hP1 dX5_seenByLeading_6

set_option maxHeartbeats 4000000 in
set_option maxRecDepth 100000 in
theorem n_seenByLeading_n (l : Launch) {D : va_G} {cI : ClassId} {m0 : Nat} {ma : Nat → Nat} {rf : Int32} {V : Nat → Nat → Int32} {σ : rn_St} (hV : rn_V σ) (hM : rn_Mr σ V) {i : Nat} (hi0 : i < σ.sn) {x : Int32} (hbad : x < 0 ∨ nI 998 < x) (sz : Nat) : rn_W l yX5_seenByLeading wsX5_seenByLeading ({ frames := 5, cells := 0, slots := 0, locals := 118 } : Room) D [(cI, .int)] ((rn_MW D cI m0 ma rf (nI σ.sn) (nI σ.sd.length) (nI σ.pn) (nI σ.fn) σ.rc σ.la V)) [.ref m0, .int (nI i), .int x] (some (.int (0))) (rn_MP D cI m0 ma 2 σ) (rn_mA m0 ma) 0 0 sz := by
  refine rn_W.ofW (cc := cX5_seenByLeading) (maxL := 3) (ret := (some .int)) (by decide) rfl (Nat.le_of_ble_eq_true rfl) (fun p e s m below meth c ls hx hb hr hml hts hown hlocks hin hsz hF hG hS hl => ?_)
  have hl : lv_has ls 3 [(0, .ref m0), (1, .int (nI i)), (2, .int x)] := hl
  have hs10 := hV.1.2
  have hp12 := hV.2.2.2.2.2.1.2.1
  have hf20 := hV.2.2.2.2.2.2.1
  have hd3 := hV.2.2.2.2.1.2
  refine lv_aload_n hx hb dX5_seenByLeading_0 rfl (lv_at hl 0 rfl) ?_
  refine lv_iload_n hx hb dX5_seenByLeading_1 rfl (lv_at hl 1 rfl) ?_
  refine lv_iload_n hx hb dX5_seenByLeading_2 rfl (lv_at hl 2 rfl) ?_
  refine rn_wV (As := [.int (nI i), .int x]) (rest := []) 2 hx hb hml hown hts hG hS (n_seenAs_n l hV hM hi0 hbad _) (fun x hx => hx) gX5_seenByLeading_X5_seenAs rfl ⟨rfl, rfl⟩ (by decide +kernel) ⟨Nat.le_of_ble_eq_true rfl, Nat.le_of_ble_eq_true rfl⟩ hF hF.1 rfl rfl hl.1 rfl (Nat.le_of_ble_eq_true rfl) ⟨by decide, by decide⟩ dX5_seenByLeading_3 (fun H locs hP1 hz hk hS => ?_)
  refine W.eq (g2 := F0 m 6 ls [.int 0]) rfl ?_
  exact rn_Wiret hx hb hr rfl hlocks hS (by decide) (by decide) rfl hP1 dX5_seenByLeading_6

set_option maxHeartbeats 4000000 in
set_option maxRecDepth 100000 in
theorem n_writeMap_r (l : Launch) {D : va_G} {cI : ClassId} {m0 : Nat} {ma : Nat → Nat} {rf : Int32} {V : Nat → Nat → Int32} {σ : rn_St} (hV : rn_V σ) (hM : rn_Mr σ V) {j : Nat} (hj0 : j < σ.pn) {x : Int32} (hno : ¬ ∃ i, i < σ.sn ∧ x = nI i) (sz : Nat) : rn_W l yX5_writeMap wsX5_writeMap ({ frames := 4, cells := 0, slots := 0, locals := 96 } : Room) D [(cI, .int)] ((rn_MW D cI m0 ma rf (nI σ.sn) (nI σ.sd.length) (nI σ.pn) (nI σ.fn) σ.rc σ.la V)) [.ref m0, .int (nI j), .int x] (some (.int (0))) (rn_MP D cI m0 ma 1 σ) (rn_mA m0 ma) 0 0 sz := by
  refine rn_W.ofW (cc := cX5_writeMap) (maxL := 7) (ret := (some .int)) (by decide) rfl (Nat.le_of_ble_eq_true rfl) (fun p e s m below meth c ls hx hb hr hml hts hown hlocks hin hsz hF hG hS hl => ?_)
  have hl : lv_has ls 7 [(0, .ref m0), (1, .int (nI j)), (2, .int x)] := hl
  have hs10 := hV.1.2
  have hp12 := hV.2.2.2.2.2.1.2.1
  have hf20 := hV.2.2.2.2.2.2.1
  have hd3 := hV.2.2.2.2.1.2
  refine lv_aload_n hx hb dX5_writeMap_0 rfl (lv_at hl 0 rfl) ?_
  refine lv_aload_n hx hb dX5_writeMap_1 rfl (lv_at hl 0 rfl) ?_
  refine lv_iload_n hx hb dX5_writeMap_2 rfl (lv_at hl 1 rfl) ?_
  refine rn_cV (As := [.int (nI j)]) (rest := [.ref m0]) 1 hx hb hml hown hts hG (m_isProcess l ((nI j))) gX5_writeMap_X5_isProcess rfl ⟨rfl, rfl⟩ (by decide +kernel) ⟨Nat.le_of_ble_eq_true rfl, Nat.le_of_ble_eq_true rfl⟩ hF hF.1 rfl rfl hl.1 rfl (Nat.le_of_ble_eq_true rfl) ⟨by decide, by decide⟩ dX5_writeMap_3 ?_
  refine W.eq (g2 := F0 m 6 ls [.int (rn_b (rn_in ((nI j)) 0 (nI σ.pn - 1))), .ref m0]) rfl ?_
  refine rn_top (y := .int 1) (congrArg Value.int (by rw [rn_ok_t (by omega) hj0]; rfl)) ?_
  refine lv_if_eq (tgt := 25) hx hb dX5_writeMap_6 (by decide) (fun c_6 => ?_) (fun c_6 => ?_)
  · exact absurd c_6 (by decide)
  · refine lv_aload_n hx hb dX5_writeMap_9 rfl (lv_at hl 0 rfl) ?_
    refine lv_iload_n hx hb dX5_writeMap_10 rfl (lv_at hl 2 rfl) ?_
    refine rn_cV (As := [.int x]) (rest := [.ref m0]) 1 hx hb hml hown hts hG (m_isRoom l x) gX5_writeMap_X5_isRoom rfl ⟨rfl, rfl⟩ (by decide +kernel) ⟨Nat.le_of_ble_eq_true rfl, Nat.le_of_ble_eq_true rfl⟩ hF hF.1 rfl rfl hl.1 rfl (Nat.le_of_ble_eq_true rfl) ⟨by decide, by decide⟩ dX5_writeMap_11 ?_
    refine W.eq (g2 := F0 m 14 ls [.int (rn_b (rn_in x 0 (nI σ.sn - 1))), .ref m0]) rfl ?_
    refine rn_top (y := .int 0) (congrArg Value.int (by rw [rn_ok_f (by omega) hno]; rfl)) ?_
    refine lv_if_eq (tgt := 25) hx hb dX5_writeMap_14 (by decide) (fun c_14 => ?_) (fun c_14 => ?_)
    · refine lv_iconst (v := 1) hx hb dX5_writeMap_25 (by decide) ?_
      refine rn_wV (As := [.int 1]) (rest := []) 1 hx hb hml hown hts hG hS (m_refused l 1) (fun x hx => by rw [show x = m0 from hx]; exact rn_mA_0) gX5_writeMap_X5_refused rfl ⟨rfl, rfl⟩ (by decide +kernel) ⟨Nat.le_of_ble_eq_true rfl, Nat.le_of_ble_eq_true rfl⟩ hF hF.1 rfl rfl hl.1 rfl (Nat.le_of_ble_eq_true rfl) ⟨by decide, by decide⟩ dX5_writeMap_26 (fun H locs hP1 hz hk hS => ?_)
      refine W.eq (g2 := F0 m 29 ls [.int (rn_b (decide (1 ≠ 0)))]) rfl ?_
      have hF := hP1
      refine rn_top (y := .int 1) (congrArg Value.int (rfl)) ?_
      refine lv_if_eq (tgt := 34) hx hb dX5_writeMap_29 (by decide) (fun c_29 => ?_) (fun c_29 => ?_)
      · exact absurd c_29 (by decide)
      · refine lv_iconst (v := 0) hx hb dX5_writeMap_32 (by decide) ?_
        exact rn_Wiret hx hb hr rfl hlocks hS (by decide) (by decide) rfl ⟨_, hM, hF⟩ dX5_writeMap_33
    · exact absurd c_14 (by decide)

set_option maxHeartbeats 4000000 in
set_option maxRecDepth 100000 in
theorem n_enter_r (l : Launch) {D : va_G} {cI : ClassId} {m0 : Nat} {ma : Nat → Nat} {rf : Int32} {V : Nat → Nat → Int32} {σ : rn_St} (hV : rn_V σ) (hM : rn_Mr σ V) {j : Nat} (hj0 : j < σ.pn) {x : Int32} (hno : ¬ ∃ i, i < σ.sn ∧ x = nI i) (sz : Nat) : rn_W l yX5_enter wsX5_enter ({ frames := 4, cells := 0, slots := 0, locals := 96 } : Room) D [(cI, .int)] ((rn_MW D cI m0 ma rf (nI σ.sn) (nI σ.sd.length) (nI σ.pn) (nI σ.fn) σ.rc σ.la V)) [.ref m0, .int (nI j), .int x] (some (.int (0))) (rn_MP D cI m0 ma 1 σ) (rn_mA m0 ma) 0 0 sz := by
  refine rn_W.ofW (cc := cX5_enter) (maxL := 4) (ret := (some .int)) (by decide) rfl (Nat.le_of_ble_eq_true rfl) (fun p e s m below meth c ls hx hb hr hml hts hown hlocks hin hsz hF hG hS hl => ?_)
  have hl : lv_has ls 4 [(0, .ref m0), (1, .int (nI j)), (2, .int x)] := hl
  have hs10 := hV.1.2
  have hp12 := hV.2.2.2.2.2.1.2.1
  have hf20 := hV.2.2.2.2.2.2.1
  have hd3 := hV.2.2.2.2.1.2
  refine lv_aload_n hx hb dX5_enter_0 rfl (lv_at hl 0 rfl) ?_
  refine lv_aload_n hx hb dX5_enter_1 rfl (lv_at hl 0 rfl) ?_
  refine lv_iload_n hx hb dX5_enter_2 rfl (lv_at hl 1 rfl) ?_
  refine rn_cV (As := [.int (nI j)]) (rest := [.ref m0]) 1 hx hb hml hown hts hG (m_isProcess l ((nI j))) gX5_enter_X5_isProcess rfl ⟨rfl, rfl⟩ (by decide +kernel) ⟨Nat.le_of_ble_eq_true rfl, Nat.le_of_ble_eq_true rfl⟩ hF hF.1 rfl rfl hl.1 rfl (Nat.le_of_ble_eq_true rfl) ⟨by decide, by decide⟩ dX5_enter_3 ?_
  refine W.eq (g2 := F0 m 6 ls [.int (rn_b (rn_in ((nI j)) 0 (nI σ.pn - 1))), .ref m0]) rfl ?_
  refine rn_top (y := .int 1) (congrArg Value.int (by rw [rn_ok_t (by omega) hj0]; rfl)) ?_
  refine lv_if_eq (tgt := 21) hx hb dX5_enter_6 (by decide) (fun c_6 => ?_) (fun c_6 => ?_)
  · exact absurd c_6 (by decide)
  · refine lv_aload_n hx hb dX5_enter_9 rfl (lv_at hl 0 rfl) ?_
    refine lv_iload_n hx hb dX5_enter_10 rfl (lv_at hl 2 rfl) ?_
    refine rn_cV (As := [.int x]) (rest := [.ref m0]) 1 hx hb hml hown hts hG (m_isRoom l x) gX5_enter_X5_isRoom rfl ⟨rfl, rfl⟩ (by decide +kernel) ⟨Nat.le_of_ble_eq_true rfl, Nat.le_of_ble_eq_true rfl⟩ hF hF.1 rfl rfl hl.1 rfl (Nat.le_of_ble_eq_true rfl) ⟨by decide, by decide⟩ dX5_enter_11 ?_
    refine W.eq (g2 := F0 m 14 ls [.int (rn_b (rn_in x 0 (nI σ.sn - 1))), .ref m0]) rfl ?_
    refine rn_top (y := .int 0) (congrArg Value.int (by rw [rn_ok_f (by omega) hno]; rfl)) ?_
    refine lv_if_eq (tgt := 21) hx hb dX5_enter_14 (by decide) (fun c_14 => ?_) (fun c_14 => ?_)
    · refine lv_iconst (v := 1) hx hb dX5_enter_21 (by decide) ?_
      refine rn_wV (As := [.int 1]) (rest := []) 1 hx hb hml hown hts hG hS (m_refused l 1) (fun x hx => by rw [show x = m0 from hx]; exact rn_mA_0) gX5_enter_X5_refused rfl ⟨rfl, rfl⟩ (by decide +kernel) ⟨Nat.le_of_ble_eq_true rfl, Nat.le_of_ble_eq_true rfl⟩ hF hF.1 rfl rfl hl.1 rfl (Nat.le_of_ble_eq_true rfl) ⟨by decide, by decide⟩ dX5_enter_22 (fun H locs hP1 hz hk hS => ?_)
      refine W.eq (g2 := F0 m 25 ls [.int (rn_b (decide (1 ≠ 0)))]) rfl ?_
      have hF := hP1
      refine rn_top (y := .int 1) (congrArg Value.int (rfl)) ?_
      refine lv_if_eq (tgt := 30) hx hb dX5_enter_25 (by decide) (fun c_25 => ?_) (fun c_25 => ?_)
      · exact absurd c_25 (by decide)
      · refine lv_iconst (v := 0) hx hb dX5_enter_28 (by decide) ?_
        exact rn_Wiret hx hb hr rfl hlocks hS (by decide) (by decide) rfl ⟨_, hM, hF⟩ dX5_enter_29
    · exact absurd c_14 (by decide)

set_option maxHeartbeats 4000000 in
set_option maxRecDepth 100000 in
theorem n_rightsIn_r (l : Launch) {D : va_G} {cI : ClassId} {m0 : Nat} {ma : Nat → Nat} {rf : Int32} {V : Nat → Nat → Int32} {σ : rn_St} (hV : rn_V σ) (hM : rn_Mr σ V) {j : Nat} (hj0 : j < σ.pn) {x : Int32} (hno : ¬ ∃ i, i < σ.sn ∧ x = nI i) (sz : Nat) : rn_W l yX5_rightsIn wsX5_rightsIn ({ frames := 4, cells := 0, slots := 0, locals := 96 } : Room) D [(cI, .int)] ((rn_MW D cI m0 ma rf (nI σ.sn) (nI σ.sd.length) (nI σ.pn) (nI σ.fn) σ.rc σ.la V)) [.ref m0, .int (nI j), .int x] (some (.int (0))) (rn_MP D cI m0 ma 1 σ) (rn_mA m0 ma) 0 0 sz := by
  refine rn_W.ofW (cc := cX5_rightsIn) (maxL := 3) (ret := (some .int)) (by decide) rfl (Nat.le_of_ble_eq_true rfl) (fun p e s m below meth c ls hx hb hr hml hts hown hlocks hin hsz hF hG hS hl => ?_)
  have hl : lv_has ls 3 [(0, .ref m0), (1, .int (nI j)), (2, .int x)] := hl
  have hs10 := hV.1.2
  have hp12 := hV.2.2.2.2.2.1.2.1
  have hf20 := hV.2.2.2.2.2.2.1
  have hd3 := hV.2.2.2.2.1.2
  refine lv_aload_n hx hb dX5_rightsIn_0 rfl (lv_at hl 0 rfl) ?_
  refine lv_aload_n hx hb dX5_rightsIn_1 rfl (lv_at hl 0 rfl) ?_
  refine lv_iload_n hx hb dX5_rightsIn_2 rfl (lv_at hl 1 rfl) ?_
  refine rn_cV (As := [.int (nI j)]) (rest := [.ref m0]) 1 hx hb hml hown hts hG (m_isProcess l ((nI j))) gX5_rightsIn_X5_isProcess rfl ⟨rfl, rfl⟩ (by decide +kernel) ⟨Nat.le_of_ble_eq_true rfl, Nat.le_of_ble_eq_true rfl⟩ hF hF.1 rfl rfl hl.1 rfl (Nat.le_of_ble_eq_true rfl) ⟨by decide, by decide⟩ dX5_rightsIn_3 ?_
  refine W.eq (g2 := F0 m 6 ls [.int (rn_b (rn_in ((nI j)) 0 (nI σ.pn - 1))), .ref m0]) rfl ?_
  refine rn_top (y := .int 1) (congrArg Value.int (by rw [rn_ok_t (by omega) hj0]; rfl)) ?_
  refine lv_if_eq (tgt := 21) hx hb dX5_rightsIn_6 (by decide) (fun c_6 => ?_) (fun c_6 => ?_)
  · exact absurd c_6 (by decide)
  · refine lv_aload_n hx hb dX5_rightsIn_9 rfl (lv_at hl 0 rfl) ?_
    refine lv_iload_n hx hb dX5_rightsIn_10 rfl (lv_at hl 2 rfl) ?_
    refine rn_cV (As := [.int x]) (rest := [.ref m0]) 1 hx hb hml hown hts hG (m_isRoom l x) gX5_rightsIn_X5_isRoom rfl ⟨rfl, rfl⟩ (by decide +kernel) ⟨Nat.le_of_ble_eq_true rfl, Nat.le_of_ble_eq_true rfl⟩ hF hF.1 rfl rfl hl.1 rfl (Nat.le_of_ble_eq_true rfl) ⟨by decide, by decide⟩ dX5_rightsIn_11 ?_
    refine W.eq (g2 := F0 m 14 ls [.int (rn_b (rn_in x 0 (nI σ.sn - 1))), .ref m0]) rfl ?_
    refine rn_top (y := .int 0) (congrArg Value.int (by rw [rn_ok_f (by omega) hno]; rfl)) ?_
    refine lv_if_eq (tgt := 21) hx hb dX5_rightsIn_14 (by decide) (fun c_14 => ?_) (fun c_14 => ?_)
    · refine lv_iconst (v := 1) hx hb dX5_rightsIn_21 (by decide) ?_
      refine rn_wV (As := [.int 1]) (rest := []) 1 hx hb hml hown hts hG hS (m_refused l 1) (fun x hx => by rw [show x = m0 from hx]; exact rn_mA_0) gX5_rightsIn_X5_refused rfl ⟨rfl, rfl⟩ (by decide +kernel) ⟨Nat.le_of_ble_eq_true rfl, Nat.le_of_ble_eq_true rfl⟩ hF hF.1 rfl rfl hl.1 rfl (Nat.le_of_ble_eq_true rfl) ⟨by decide, by decide⟩ dX5_rightsIn_22 (fun H locs hP1 hz hk hS => ?_)
      refine W.eq (g2 := F0 m 25 ls [.int (rn_b (decide (1 ≠ 0)))]) rfl ?_
      have hF := hP1
      refine rn_top (y := .int 1) (congrArg Value.int (rfl)) ?_
      refine lv_if_eq (tgt := 32) hx hb dX5_rightsIn_25 (by decide) (fun c_25 => ?_) (fun c_25 => ?_)
      · exact absurd c_25 (by decide)
      · refine lv_iconst (v := 0) hx hb dX5_rightsIn_28 (by decide) ?_
        refine lv_goto (tgt := 38) hx hb dX5_rightsIn_29 (by decide) ?_
        exact rn_Wiret hx hb hr rfl hlocks hS (by decide) (by decide) rfl ⟨_, hM, hF⟩ dX5_rightsIn_38
    · exact absurd c_14 (by decide)

set_option maxHeartbeats 4000000 in
set_option maxRecDepth 100000 in
theorem n_writeMap_0 (l : Launch) {D : va_G} {cI : ClassId} {m0 : Nat} {ma : Nat → Nat} {rf : Int32} {V : Nat → Nat → Int32} {σ : rn_St} (hV : rn_V σ) (hM : rn_Mr σ V) {j : Nat} (hj0 : j < σ.pn) (sz : Nat) : rn_W l yX5_writeMap wsX5_writeMap ({ frames := 4, cells := 0, slots := 0, locals := 96 } : Room) D [(cI, .int)] ((rn_MW D cI m0 ma rf (nI σ.sn) (nI σ.sd.length) (nI σ.pn) (nI σ.fn) σ.rc σ.la V)) [.ref m0, .int (nI j), .int (nI 0)] (some (.int (0))) (rn_MP D cI m0 ma 1 σ) (rn_mA m0 ma) 0 0 sz := by
  refine rn_W.ofW (cc := cX5_writeMap) (maxL := 7) (ret := (some .int)) (by decide) rfl (Nat.le_of_ble_eq_true rfl) (fun p e s m below meth c ls hx hb hr hml hts hown hlocks hin hsz hF hG hS hl => ?_)
  have hl : lv_has ls 7 [(0, .ref m0), (1, .int (nI j)), (2, .int (nI 0))] := hl
  have hs10 := hV.1.2
  have hp12 := hV.2.2.2.2.2.1.2.1
  have hf20 := hV.2.2.2.2.2.2.1
  have hd3 := hV.2.2.2.2.1.2
  refine lv_aload_n hx hb dX5_writeMap_0 rfl (lv_at hl 0 rfl) ?_
  refine lv_aload_n hx hb dX5_writeMap_1 rfl (lv_at hl 0 rfl) ?_
  refine lv_iload_n hx hb dX5_writeMap_2 rfl (lv_at hl 1 rfl) ?_
  refine rn_cV (As := [.int (nI j)]) (rest := [.ref m0]) 1 hx hb hml hown hts hG (m_isProcess l ((nI j))) gX5_writeMap_X5_isProcess rfl ⟨rfl, rfl⟩ (by decide +kernel) ⟨Nat.le_of_ble_eq_true rfl, Nat.le_of_ble_eq_true rfl⟩ hF hF.1 rfl rfl hl.1 rfl (Nat.le_of_ble_eq_true rfl) ⟨by decide, by decide⟩ dX5_writeMap_3 ?_
  refine W.eq (g2 := F0 m 6 ls [.int (rn_b (rn_in ((nI j)) 0 (nI σ.pn - 1))), .ref m0]) rfl ?_
  refine rn_top (y := .int 1) (congrArg Value.int (by rw [rn_ok_t (by omega) hj0]; rfl)) ?_
  refine lv_if_eq (tgt := 25) hx hb dX5_writeMap_6 (by decide) (fun c_6 => ?_) (fun c_6 => ?_)
  · exact absurd c_6 (by decide)
  · refine lv_aload_n hx hb dX5_writeMap_9 rfl (lv_at hl 0 rfl) ?_
    refine lv_iload_n hx hb dX5_writeMap_10 rfl (lv_at hl 2 rfl) ?_
    refine rn_cV (As := [.int (nI 0)]) (rest := [.ref m0]) 1 hx hb hml hown hts hG (m_isRoom l ((nI 0))) gX5_writeMap_X5_isRoom rfl ⟨rfl, rfl⟩ (by decide +kernel) ⟨Nat.le_of_ble_eq_true rfl, Nat.le_of_ble_eq_true rfl⟩ hF hF.1 rfl rfl hl.1 rfl (Nat.le_of_ble_eq_true rfl) ⟨by decide, by decide⟩ dX5_writeMap_11 ?_
    refine W.eq (g2 := F0 m 14 ls [.int (rn_b (rn_in ((nI 0)) 0 (nI σ.sn - 1))), .ref m0]) rfl ?_
    refine rn_top (y := .int 1) (congrArg Value.int (by rw [rn_ok_t (by omega) (i := 0) (by have := hV.1.1; omega)]; rfl)) ?_
    refine lv_if_eq (tgt := 25) hx hb dX5_writeMap_14 (by decide) (fun c_14 => ?_) (fun c_14 => ?_)
    · exact absurd c_14 (by decide)
    · refine lv_iload_n hx hb dX5_writeMap_17 rfl (lv_at hl 2 rfl) ?_
      refine lv_if_le (tgt := 25) hx hb dX5_writeMap_18 (by decide) (fun c_18 => ?_) (fun c_18 => ?_)
      · refine lv_iconst (v := 1) hx hb dX5_writeMap_25 (by decide) ?_
        refine rn_wV (As := [.int 1]) (rest := []) 1 hx hb hml hown hts hG hS (m_refused l 1) (fun x hx => by rw [show x = m0 from hx]; exact rn_mA_0) gX5_writeMap_X5_refused rfl ⟨rfl, rfl⟩ (by decide +kernel) ⟨Nat.le_of_ble_eq_true rfl, Nat.le_of_ble_eq_true rfl⟩ hF hF.1 rfl rfl hl.1 rfl (Nat.le_of_ble_eq_true rfl) ⟨by decide, by decide⟩ dX5_writeMap_26 (fun H locs hP1 hz hk hS => ?_)
        refine W.eq (g2 := F0 m 29 ls [.int (rn_b (decide (1 ≠ 0)))]) rfl ?_
        have hF := hP1
        refine rn_top (y := .int 1) (congrArg Value.int (rfl)) ?_
        refine lv_if_eq (tgt := 34) hx hb dX5_writeMap_29 (by decide) (fun c_29 => ?_) (fun c_29 => ?_)
        · exact absurd c_29 (by decide)
        · refine lv_iconst (v := 0) hx hb dX5_writeMap_32 (by decide) ?_
          exact rn_Wiret hx hb hr rfl hlocks hS (by decide) (by decide) rfl ⟨_, hM, hF⟩ dX5_writeMap_33
      · exact absurd (by decide) c_18

set_option maxHeartbeats 4000000 in
set_option maxRecDepth 100000 in
theorem n_handOver_f (l : Launch) {D : va_G} {cI : ClassId} {m0 : Nat} {ma : Nat → Nat} {rf : Int32} {V : Nat → Nat → Int32} {σ : rn_St} (hV : rn_V σ) (hM : rn_Mr σ V) {j : Nat} (hj0 : j < σ.pn) {x e2 : Int32} (hno : ¬ ∃ i, i < σ.fn ∧ x = nI i) (sz : Nat) : rn_W l yX5_handOver wsX5_handOver ({ frames := 4, cells := 0, slots := 0, locals := 96 } : Room) D [(cI, .int)] ((rn_MW D cI m0 ma rf (nI σ.sn) (nI σ.sd.length) (nI σ.pn) (nI σ.fn) σ.rc σ.la V)) [.ref m0, .int (nI j), .int x, .int e2] (some (.int (0))) (rn_MP D cI m0 ma 1 σ) (rn_mA m0 ma) 0 0 sz := by
  refine rn_W.ofW (cc := cX5_handOver) (maxL := 7) (ret := (some .int)) (by decide) rfl (Nat.le_of_ble_eq_true rfl) (fun p e s m below meth c ls hx hb hr hml hts hown hlocks hin hsz hF hG hS hl => ?_)
  have hl : lv_has ls 7 [(0, .ref m0), (1, .int (nI j)), (2, .int x), (3, .int e2)] := hl
  have hs10 := hV.1.2
  have hp12 := hV.2.2.2.2.2.1.2.1
  have hf20 := hV.2.2.2.2.2.2.1
  have hd3 := hV.2.2.2.2.1.2
  refine lv_aload_n hx hb dX5_handOver_0 rfl (lv_at hl 0 rfl) ?_
  refine lv_iload_n hx hb dX5_handOver_1 rfl (lv_at hl 1 rfl) ?_
  refine rn_cV (As := [.int (nI j)]) (rest := []) 1 hx hb hml hown hts hG (m_isProcess l ((nI j))) gX5_handOver_X5_isProcess rfl ⟨rfl, rfl⟩ (by decide +kernel) ⟨Nat.le_of_ble_eq_true rfl, Nat.le_of_ble_eq_true rfl⟩ hF hF.1 rfl rfl hl.1 rfl (Nat.le_of_ble_eq_true rfl) ⟨by decide, by decide⟩ dX5_handOver_2 ?_
  refine W.eq (g2 := F0 m 5 ls [.int (rn_b (rn_in ((nI j)) 0 (nI σ.pn - 1)))]) rfl ?_
  refine rn_top (y := .int 1) (congrArg Value.int (by rw [rn_ok_t (by omega) hj0]; rfl)) ?_
  refine lv_if_eq (tgt := 20) hx hb dX5_handOver_5 (by decide) (fun c_5 => ?_) (fun c_5 => ?_)
  · exact absurd c_5 (by decide)
  · refine lv_aload_n hx hb dX5_handOver_8 rfl (lv_at hl 0 rfl) ?_
    refine lv_iload_n hx hb dX5_handOver_9 rfl (lv_at hl 2 rfl) ?_
    refine rn_cV (As := [.int x]) (rest := []) 1 hx hb hml hown hts hG (m_isFile l x) gX5_handOver_X5_isFile rfl ⟨rfl, rfl⟩ (by decide +kernel) ⟨Nat.le_of_ble_eq_true rfl, Nat.le_of_ble_eq_true rfl⟩ hF hF.1 rfl rfl hl.1 rfl (Nat.le_of_ble_eq_true rfl) ⟨by decide, by decide⟩ dX5_handOver_10 ?_
    refine W.eq (g2 := F0 m 13 ls [.int (rn_b (rn_in x 0 (nI σ.fn - 1)))]) rfl ?_
    refine rn_top (y := .int 0) (congrArg Value.int (by rw [rn_ok_f (by omega) hno]; rfl)) ?_
    refine lv_if_eq (tgt := 20) hx hb dX5_handOver_13 (by decide) (fun c_13 => ?_) (fun c_13 => ?_)
    · refine lv_iconst (v := 0) hx hb dX5_handOver_20 (by decide) ?_
      refine lv_istore (lv' := [(4, .int 0), (0, .ref m0), (1, .int (nI j)), (2, .int x), (3, .int e2)]) hx hb dX5_handOver_21 hl (by decide) rfl (fun ls hl => ?_)
      refine lv_aload_n hx hb dX5_handOver_23 rfl (lv_at hl 1 rfl) ?_
      refine lv_iload hx hb dX5_handOver_24 (lv_at hl 0 rfl) ?_
      refine lv_if_ne (tgt := 33) hx hb dX5_handOver_26 (by decide) (fun c_26 => ?_) (fun c_26 => ?_)
      · exact absurd c_26 (by decide)
      · refine lv_iconst (v := 1) hx hb dX5_handOver_29 (by decide) ?_
        refine lv_goto (tgt := 45) hx hb dX5_handOver_30 (by decide) ?_
        refine rn_wV (As := [.int 1]) (rest := []) 1 hx hb hml hown hts hG hS (m_refused l 1) (fun x hx => by rw [show x = m0 from hx]; exact rn_mA_0) gX5_handOver_X5_refused rfl ⟨rfl, rfl⟩ (by decide +kernel) ⟨Nat.le_of_ble_eq_true rfl, Nat.le_of_ble_eq_true rfl⟩ hF hF.1 rfl rfl hl.1 rfl (Nat.le_of_ble_eq_true rfl) ⟨by decide, by decide⟩ dX5_handOver_45 (fun H locs hP1 hz hk hS => ?_)
        refine W.eq (g2 := F0 m 48 ls [.int (rn_b (decide (1 ≠ 0)))]) rfl ?_
        have hF := hP1
        refine rn_top (y := .int 1) (congrArg Value.int (rfl)) ?_
        refine lv_if_eq (tgt := 53) hx hb dX5_handOver_48 (by decide) (fun c_48 => ?_) (fun c_48 => ?_)
        · exact absurd c_48 (by decide)
        · refine lv_iconst (v := 0) hx hb dX5_handOver_51 (by decide) ?_
          exact rn_Wiret hx hb hr rfl hlocks hS (by decide) (by decide) rfl ⟨_, hM, hF⟩ dX5_handOver_52
    · exact absurd c_13 (by decide)

set_option maxHeartbeats 4000000 in
set_option maxRecDepth 100000 in
theorem n_ownerSeenBy_f (l : Launch) {D : va_G} {cI : ClassId} {m0 : Nat} {ma : Nat → Nat} {rf : Int32} {V : Nat → Nat → Int32} {σ : rn_St} (hV : rn_V σ) (hM : rn_Mr σ V) {j : Nat} (hj0 : j < σ.pn) {x  : Int32} (hno : ¬ ∃ i, i < σ.fn ∧ x = nI i) (sz : Nat) : rn_W l yX5_ownerSeenBy wsX5_ownerSeenBy ({ frames := 4, cells := 0, slots := 0, locals := 96 } : Room) D [(cI, .int)] ((rn_MW D cI m0 ma rf (nI σ.sn) (nI σ.sd.length) (nI σ.pn) (nI σ.fn) σ.rc σ.la V)) [.ref m0, .int (nI j), .int x] (some (.int (0))) (rn_MP D cI m0 ma 1 σ) (rn_mA m0 ma) 0 0 sz := by
  refine rn_W.ofW (cc := cX5_ownerSeenBy) (maxL := 3) (ret := (some .int)) (by decide) rfl (Nat.le_of_ble_eq_true rfl) (fun p e s m below meth c ls hx hb hr hml hts hown hlocks hin hsz hF hG hS hl => ?_)
  have hl : lv_has ls 3 [(0, .ref m0), (1, .int (nI j)), (2, .int x)] := hl
  have hs10 := hV.1.2
  have hp12 := hV.2.2.2.2.2.1.2.1
  have hf20 := hV.2.2.2.2.2.2.1
  have hd3 := hV.2.2.2.2.1.2
  refine lv_aload_n hx hb dX5_ownerSeenBy_0 rfl (lv_at hl 0 rfl) ?_
  refine lv_aload_n hx hb dX5_ownerSeenBy_1 rfl (lv_at hl 0 rfl) ?_
  refine lv_iload_n hx hb dX5_ownerSeenBy_2 rfl (lv_at hl 1 rfl) ?_
  refine rn_cV (As := [.int (nI j)]) (rest := [.ref m0]) 1 hx hb hml hown hts hG (m_isProcess l ((nI j))) gX5_ownerSeenBy_X5_isProcess rfl ⟨rfl, rfl⟩ (by decide +kernel) ⟨Nat.le_of_ble_eq_true rfl, Nat.le_of_ble_eq_true rfl⟩ hF hF.1 rfl rfl hl.1 rfl (Nat.le_of_ble_eq_true rfl) ⟨by decide, by decide⟩ dX5_ownerSeenBy_3 ?_
  refine W.eq (g2 := F0 m 6 ls [.int (rn_b (rn_in ((nI j)) 0 (nI σ.pn - 1))), .ref m0]) rfl ?_
  refine rn_top (y := .int 1) (congrArg Value.int (by rw [rn_ok_t (by omega) hj0]; rfl)) ?_
  refine lv_if_eq (tgt := 21) hx hb dX5_ownerSeenBy_6 (by decide) (fun c_6 => ?_) (fun c_6 => ?_)
  · exact absurd c_6 (by decide)
  · refine lv_aload_n hx hb dX5_ownerSeenBy_9 rfl (lv_at hl 0 rfl) ?_
    refine lv_iload_n hx hb dX5_ownerSeenBy_10 rfl (lv_at hl 2 rfl) ?_
    refine rn_cV (As := [.int x]) (rest := [.ref m0]) 1 hx hb hml hown hts hG (m_isFile l x) gX5_ownerSeenBy_X5_isFile rfl ⟨rfl, rfl⟩ (by decide +kernel) ⟨Nat.le_of_ble_eq_true rfl, Nat.le_of_ble_eq_true rfl⟩ hF hF.1 rfl rfl hl.1 rfl (Nat.le_of_ble_eq_true rfl) ⟨by decide, by decide⟩ dX5_ownerSeenBy_11 ?_
    refine W.eq (g2 := F0 m 14 ls [.int (rn_b (rn_in x 0 (nI σ.fn - 1))), .ref m0]) rfl ?_
    refine rn_top (y := .int 0) (congrArg Value.int (by rw [rn_ok_f (by omega) hno]; rfl)) ?_
    refine lv_if_eq (tgt := 21) hx hb dX5_ownerSeenBy_14 (by decide) (fun c_14 => ?_) (fun c_14 => ?_)
    · refine lv_iconst (v := 1) hx hb dX5_ownerSeenBy_21 (by decide) ?_
      refine rn_wV (As := [.int 1]) (rest := []) 1 hx hb hml hown hts hG hS (m_refused l 1) (fun x hx => by rw [show x = m0 from hx]; exact rn_mA_0) gX5_ownerSeenBy_X5_refused rfl ⟨rfl, rfl⟩ (by decide +kernel) ⟨Nat.le_of_ble_eq_true rfl, Nat.le_of_ble_eq_true rfl⟩ hF hF.1 rfl rfl hl.1 rfl (Nat.le_of_ble_eq_true rfl) ⟨by decide, by decide⟩ dX5_ownerSeenBy_22 (fun H locs hP1 hz hk hS => ?_)
      refine W.eq (g2 := F0 m 25 ls [.int (rn_b (decide (1 ≠ 0)))]) rfl ?_
      have hF := hP1
      refine rn_top (y := .int 1) (congrArg Value.int (rfl)) ?_
      refine lv_if_eq (tgt := 32) hx hb dX5_ownerSeenBy_25 (by decide) (fun c_25 => ?_) (fun c_25 => ?_)
      · exact absurd c_25 (by decide)
      · refine lv_iconst (v := 0) hx hb dX5_ownerSeenBy_28 (by decide) ?_
        refine lv_goto (tgt := 48) hx hb dX5_ownerSeenBy_29 (by decide) ?_
        exact rn_Wiret hx hb hr rfl hlocks hS (by decide) (by decide) rfl ⟨_, hM, hF⟩ dX5_ownerSeenBy_48
    · exact absurd c_14 (by decide)

set_option maxHeartbeats 4000000 in
set_option maxRecDepth 100000 in
theorem n_open_f (l : Launch) {D : va_G} {cI : ClassId} {m0 : Nat} {ma : Nat → Nat} {rf : Int32} {V : Nat → Nat → Int32} {σ : rn_St} (hV : rn_V σ) (hM : rn_Mr σ V) {j : Nat} (hj0 : j < σ.pn) {x e2 : Int32} (hno : ¬ ∃ i, i < σ.fn ∧ x = nI i) (sz : Nat) : rn_W l yX5_open wsX5_open ({ frames := 4, cells := 0, slots := 0, locals := 96 } : Room) D [(cI, .int)] ((rn_MW D cI m0 ma rf (nI σ.sn) (nI σ.sd.length) (nI σ.pn) (nI σ.fn) σ.rc σ.la V)) [.ref m0, .int (nI j), .int x, .int e2] (some (.int (0))) (rn_MP D cI m0 ma 1 σ) (rn_mA m0 ma) 0 0 sz := by
  refine rn_W.ofW (cc := cX5_open) (maxL := 5) (ret := (some .int)) (by decide) rfl (Nat.le_of_ble_eq_true rfl) (fun p e s m below meth c ls hx hb hr hml hts hown hlocks hin hsz hF hG hS hl => ?_)
  have hl : lv_has ls 5 [(0, .ref m0), (1, .int (nI j)), (2, .int x), (3, .int e2)] := hl
  have hs10 := hV.1.2
  have hp12 := hV.2.2.2.2.2.1.2.1
  have hf20 := hV.2.2.2.2.2.2.1
  have hd3 := hV.2.2.2.2.1.2
  refine lv_aload_n hx hb dX5_open_0 rfl (lv_at hl 0 rfl) ?_
  refine lv_aload_n hx hb dX5_open_1 rfl (lv_at hl 0 rfl) ?_
  refine lv_iload_n hx hb dX5_open_2 rfl (lv_at hl 1 rfl) ?_
  refine rn_cV (As := [.int (nI j)]) (rest := [.ref m0]) 1 hx hb hml hown hts hG (m_isProcess l ((nI j))) gX5_open_X5_isProcess rfl ⟨rfl, rfl⟩ (by decide +kernel) ⟨Nat.le_of_ble_eq_true rfl, Nat.le_of_ble_eq_true rfl⟩ hF hF.1 rfl rfl hl.1 rfl (Nat.le_of_ble_eq_true rfl) ⟨by decide, by decide⟩ dX5_open_3 ?_
  refine W.eq (g2 := F0 m 6 ls [.int (rn_b (rn_in ((nI j)) 0 (nI σ.pn - 1))), .ref m0]) rfl ?_
  refine rn_top (y := .int 1) (congrArg Value.int (by rw [rn_ok_t (by omega) hj0]; rfl)) ?_
  refine lv_if_eq (tgt := 21) hx hb dX5_open_6 (by decide) (fun c_6 => ?_) (fun c_6 => ?_)
  · exact absurd c_6 (by decide)
  · refine lv_aload_n hx hb dX5_open_9 rfl (lv_at hl 0 rfl) ?_
    refine lv_iload_n hx hb dX5_open_10 rfl (lv_at hl 2 rfl) ?_
    refine rn_cV (As := [.int x]) (rest := [.ref m0]) 1 hx hb hml hown hts hG (m_isFile l x) gX5_open_X5_isFile rfl ⟨rfl, rfl⟩ (by decide +kernel) ⟨Nat.le_of_ble_eq_true rfl, Nat.le_of_ble_eq_true rfl⟩ hF hF.1 rfl rfl hl.1 rfl (Nat.le_of_ble_eq_true rfl) ⟨by decide, by decide⟩ dX5_open_11 ?_
    refine W.eq (g2 := F0 m 14 ls [.int (rn_b (rn_in x 0 (nI σ.fn - 1))), .ref m0]) rfl ?_
    refine rn_top (y := .int 0) (congrArg Value.int (by rw [rn_ok_f (by omega) hno]; rfl)) ?_
    refine lv_if_eq (tgt := 21) hx hb dX5_open_14 (by decide) (fun c_14 => ?_) (fun c_14 => ?_)
    · refine lv_iconst (v := 1) hx hb dX5_open_21 (by decide) ?_
      refine rn_wV (As := [.int 1]) (rest := []) 1 hx hb hml hown hts hG hS (m_refused l 1) (fun x hx => by rw [show x = m0 from hx]; exact rn_mA_0) gX5_open_X5_refused rfl ⟨rfl, rfl⟩ (by decide +kernel) ⟨Nat.le_of_ble_eq_true rfl, Nat.le_of_ble_eq_true rfl⟩ hF hF.1 rfl rfl hl.1 rfl (Nat.le_of_ble_eq_true rfl) ⟨by decide, by decide⟩ dX5_open_22 (fun H locs hP1 hz hk hS => ?_)
      refine W.eq (g2 := F0 m 25 ls [.int (rn_b (decide (1 ≠ 0)))]) rfl ?_
      have hF := hP1
      refine rn_top (y := .int 1) (congrArg Value.int (rfl)) ?_
      refine lv_if_eq (tgt := 30) hx hb dX5_open_25 (by decide) (fun c_25 => ?_) (fun c_25 => ?_)
      · exact absurd c_25 (by decide)
      · refine lv_iconst (v := 0) hx hb dX5_open_28 (by decide) ?_
        exact rn_Wiret hx hb hr rfl hlocks hS (by decide) (by decide) rfl ⟨_, hM, hF⟩ dX5_open_29
    · exact absurd c_14 (by decide)

set_option maxHeartbeats 4000000 in
set_option maxRecDepth 100000 in
theorem n_setNumber_n (l : Launch) {D : va_G} {cI : ClassId} {m0 : Nat} {ma : Nat → Nat} {rf : Int32} {V : Nat → Nat → Int32} {σ : rn_St} (hV : rn_V σ) (hM : rn_Mr σ V) {j : Nat} (hj0 : j < σ.pn) {x : Int32} (hbad : x < 0 ∨ nI 998 < x) (sz : Nat) : rn_W l yX5_setNumber wsX5_setNumber ({ frames := 4, cells := 0, slots := 0, locals := 96 } : Room) D [(cI, .int)] ((rn_MW D cI m0 ma rf (nI σ.sn) (nI σ.sd.length) (nI σ.pn) (nI σ.fn) σ.rc σ.la V)) [.ref m0, .int (nI j), .int x] (some (.int (0))) (rn_MP D cI m0 ma 2 σ) (rn_mA m0 ma) 0 0 sz := by
  refine rn_W.ofW (cc := cX5_setNumber) (maxL := 6) (ret := (some .int)) (by decide) rfl (Nat.le_of_ble_eq_true rfl) (fun p e s m below meth c ls hx hb hr hml hts hown hlocks hin hsz hF hG hS hl => ?_)
  have hl : lv_has ls 6 [(0, .ref m0), (1, .int (nI j)), (2, .int x)] := hl
  have hs10 := hV.1.2
  have hp12 := hV.2.2.2.2.2.1.2.1
  have hf20 := hV.2.2.2.2.2.2.1
  have hd3 := hV.2.2.2.2.1.2
  refine lv_aload_n hx hb dX5_setNumber_0 rfl (lv_at hl 0 rfl) ?_
  refine lv_aload_n hx hb dX5_setNumber_1 rfl (lv_at hl 0 rfl) ?_
  refine lv_iload_n hx hb dX5_setNumber_2 rfl (lv_at hl 1 rfl) ?_
  refine rn_cV (As := [.int (nI j)]) (rest := [.ref m0]) 1 hx hb hml hown hts hG (m_isProcess l ((nI j))) gX5_setNumber_X5_isProcess rfl ⟨rfl, rfl⟩ (by decide +kernel) ⟨Nat.le_of_ble_eq_true rfl, Nat.le_of_ble_eq_true rfl⟩ hF hF.1 rfl rfl hl.1 rfl (Nat.le_of_ble_eq_true rfl) ⟨by decide, by decide⟩ dX5_setNumber_3 ?_
  refine W.eq (g2 := F0 m 6 ls [.int (rn_b (rn_in ((nI j)) 0 (nI σ.pn - 1))), .ref m0]) rfl ?_
  refine rn_top (y := .int 1) (congrArg Value.int (by rw [rn_ok_t (by omega) hj0]; rfl)) ?_
  refine lv_if_ne (tgt := 13) hx hb dX5_setNumber_6 (by decide) (fun c_6 => ?_) (fun c_6 => ?_)
  · refine lv_iload_n hx hb dX5_setNumber_13 rfl (lv_at hl 2 rfl) ?_
    refine rn_cS (As := [.int x]) (rest := [.ref m0]) 1 hx hb hml hown hts hG (m_isNumber l x) gX5_setNumber_X5_isNumber rfl ⟨rfl, rfl⟩ (by decide +kernel) ⟨Nat.le_of_ble_eq_true rfl, Nat.le_of_ble_eq_true rfl⟩ trivial rfl hl.1 rfl (Nat.le_of_ble_eq_true rfl) ⟨by decide, by decide⟩ dX5_setNumber_14 ?_
    refine W.eq (g2 := F0 m 17 ls [.int (rn_b (rn_in x 0 998)), .ref m0]) rfl ?_
    refine rn_top (y := .int 0) (congrArg Value.int (by rw [show rn_in x 0 998 = false from rn_rng_f (n := 998) hbad]; rfl)) ?_
    refine lv_if_eq (tgt := 24) hx hb dX5_setNumber_17 (by decide) (fun c_17 => ?_) (fun c_17 => ?_)
    · refine lv_iconst (v := 2) hx hb dX5_setNumber_24 (by decide) ?_
      refine rn_wV (As := [.int 2]) (rest := []) 1 hx hb hml hown hts hG hS (m_refused l 2) (fun x hx => by rw [show x = m0 from hx]; exact rn_mA_0) gX5_setNumber_X5_refused rfl ⟨rfl, rfl⟩ (by decide +kernel) ⟨Nat.le_of_ble_eq_true rfl, Nat.le_of_ble_eq_true rfl⟩ hF hF.1 rfl rfl hl.1 rfl (Nat.le_of_ble_eq_true rfl) ⟨by decide, by decide⟩ dX5_setNumber_25 (fun H locs hP1 hz hk hS => ?_)
      refine W.eq (g2 := F0 m 28 ls [.int (rn_b (decide (2 ≠ 0)))]) rfl ?_
      have hF := hP1
      refine rn_top (y := .int 1) (congrArg Value.int (rfl)) ?_
      refine lv_if_eq (tgt := 33) hx hb dX5_setNumber_28 (by decide) (fun c_28 => ?_) (fun c_28 => ?_)
      · exact absurd c_28 (by decide)
      · refine lv_iconst (v := 0) hx hb dX5_setNumber_31 (by decide) ?_
        exact rn_Wiret hx hb hr rfl hlocks hS (by decide) (by decide) rfl ⟨_, hM, hF⟩ dX5_setNumber_32
    · exact absurd c_17 (by decide)
  · exact absurd c_6 (by decide)

set_option maxHeartbeats 4000000 in
set_option maxRecDepth 100000 in
theorem n_handOver_n (l : Launch) {D : va_G} {cI : ClassId} {m0 : Nat} {ma : Nat → Nat} {rf : Int32} {V : Nat → Nat → Int32} {σ : rn_St} (hV : rn_V σ) (hM : rn_Mr σ V) {j k : Nat} (hj0 : j < σ.pn) (hk0 : k < σ.fn) {x : Int32} (hbad : x < 0 ∨ nI 998 < x) (sz : Nat) : rn_W l yX5_handOver wsX5_handOver ({ frames := 4, cells := 0, slots := 0, locals := 96 } : Room) D [(cI, .int)] ((rn_MW D cI m0 ma rf (nI σ.sn) (nI σ.sd.length) (nI σ.pn) (nI σ.fn) σ.rc σ.la V)) [.ref m0, .int (nI j), .int (nI k), .int x] (some (.int (0))) (rn_MP D cI m0 ma 2 σ) (rn_mA m0 ma) 0 0 sz := by
  refine rn_W.ofW (cc := cX5_handOver) (maxL := 7) (ret := (some .int)) (by decide) rfl (Nat.le_of_ble_eq_true rfl) (fun p e s m below meth c ls hx hb hr hml hts hown hlocks hin hsz hF hG hS hl => ?_)
  have hl : lv_has ls 7 [(0, .ref m0), (1, .int (nI j)), (2, .int (nI k)), (3, .int x)] := hl
  have hs10 := hV.1.2
  have hp12 := hV.2.2.2.2.2.1.2.1
  have hf20 := hV.2.2.2.2.2.2.1
  have hd3 := hV.2.2.2.2.1.2
  refine lv_aload_n hx hb dX5_handOver_0 rfl (lv_at hl 0 rfl) ?_
  refine lv_iload_n hx hb dX5_handOver_1 rfl (lv_at hl 1 rfl) ?_
  refine rn_cV (As := [.int (nI j)]) (rest := []) 1 hx hb hml hown hts hG (m_isProcess l ((nI j))) gX5_handOver_X5_isProcess rfl ⟨rfl, rfl⟩ (by decide +kernel) ⟨Nat.le_of_ble_eq_true rfl, Nat.le_of_ble_eq_true rfl⟩ hF hF.1 rfl rfl hl.1 rfl (Nat.le_of_ble_eq_true rfl) ⟨by decide, by decide⟩ dX5_handOver_2 ?_
  refine W.eq (g2 := F0 m 5 ls [.int (rn_b (rn_in ((nI j)) 0 (nI σ.pn - 1)))]) rfl ?_
  refine rn_top (y := .int 1) (congrArg Value.int (by rw [rn_ok_t (by omega) hj0]; rfl)) ?_
  refine lv_if_eq (tgt := 20) hx hb dX5_handOver_5 (by decide) (fun c_5 => ?_) (fun c_5 => ?_)
  · exact absurd c_5 (by decide)
  · refine lv_aload_n hx hb dX5_handOver_8 rfl (lv_at hl 0 rfl) ?_
    refine lv_iload_n hx hb dX5_handOver_9 rfl (lv_at hl 2 rfl) ?_
    refine rn_cV (As := [.int (nI k)]) (rest := []) 1 hx hb hml hown hts hG (m_isFile l ((nI k))) gX5_handOver_X5_isFile rfl ⟨rfl, rfl⟩ (by decide +kernel) ⟨Nat.le_of_ble_eq_true rfl, Nat.le_of_ble_eq_true rfl⟩ hF hF.1 rfl rfl hl.1 rfl (Nat.le_of_ble_eq_true rfl) ⟨by decide, by decide⟩ dX5_handOver_10 ?_
    refine W.eq (g2 := F0 m 13 ls [.int (rn_b (rn_in ((nI k)) 0 (nI σ.fn - 1)))]) rfl ?_
    refine rn_top (y := .int 1) (congrArg Value.int (by rw [rn_ok_t (by omega) hk0]; rfl)) ?_
    refine lv_if_eq (tgt := 20) hx hb dX5_handOver_13 (by decide) (fun c_13 => ?_) (fun c_13 => ?_)
    · exact absurd c_13 (by decide)
    · refine lv_iconst (v := 1) hx hb dX5_handOver_16 (by decide) ?_
      refine lv_goto (tgt := 21) hx hb dX5_handOver_17 (by decide) ?_
      refine lv_istore (lv' := [(4, .int 1), (0, .ref m0), (1, .int (nI j)), (2, .int (nI k)), (3, .int x)]) hx hb dX5_handOver_21 hl (by decide) rfl (fun ls hl => ?_)
      refine lv_aload_n hx hb dX5_handOver_23 rfl (lv_at hl 1 rfl) ?_
      refine lv_iload hx hb dX5_handOver_24 (lv_at hl 0 rfl) ?_
      refine lv_if_ne (tgt := 33) hx hb dX5_handOver_26 (by decide) (fun c_26 => ?_) (fun c_26 => ?_)
      · refine lv_iload_n hx hb dX5_handOver_33 rfl (lv_at hl 4 rfl) ?_
        refine rn_cS (As := [.int x]) (rest := [.ref m0]) 1 hx hb hml hown hts hG (m_isNumber l x) gX5_handOver_X5_isNumber rfl ⟨rfl, rfl⟩ (by decide +kernel) ⟨Nat.le_of_ble_eq_true rfl, Nat.le_of_ble_eq_true rfl⟩ trivial rfl hl.1 rfl (Nat.le_of_ble_eq_true rfl) ⟨by decide, by decide⟩ dX5_handOver_34 ?_
        refine W.eq (g2 := F0 m 37 ls [.int (rn_b (rn_in x 0 998)), .ref m0]) rfl ?_
        refine rn_top (y := .int 0) (congrArg Value.int (by rw [show rn_in x 0 998 = false from rn_rng_f (n := 998) hbad]; rfl)) ?_
        refine lv_if_eq (tgt := 44) hx hb dX5_handOver_37 (by decide) (fun c_37 => ?_) (fun c_37 => ?_)
        · refine lv_iconst (v := 2) hx hb dX5_handOver_44 (by decide) ?_
          refine rn_wV (As := [.int 2]) (rest := []) 1 hx hb hml hown hts hG hS (m_refused l 2) (fun x hx => by rw [show x = m0 from hx]; exact rn_mA_0) gX5_handOver_X5_refused rfl ⟨rfl, rfl⟩ (by decide +kernel) ⟨Nat.le_of_ble_eq_true rfl, Nat.le_of_ble_eq_true rfl⟩ hF hF.1 rfl rfl hl.1 rfl (Nat.le_of_ble_eq_true rfl) ⟨by decide, by decide⟩ dX5_handOver_45 (fun H locs hP1 hz hk hS => ?_)
          refine W.eq (g2 := F0 m 48 ls [.int (rn_b (decide (2 ≠ 0)))]) rfl ?_
          have hF := hP1
          refine rn_top (y := .int 1) (congrArg Value.int (rfl)) ?_
          refine lv_if_eq (tgt := 53) hx hb dX5_handOver_48 (by decide) (fun c_48 => ?_) (fun c_48 => ?_)
          · exact absurd c_48 (by decide)
          · refine lv_iconst (v := 0) hx hb dX5_handOver_51 (by decide) ?_
            exact rn_Wiret hx hb hr rfl hlocks hS (by decide) (by decide) rfl ⟨_, hM, hF⟩ dX5_handOver_52
        · exact absurd c_37 (by decide)
      · exact absurd c_26 (by decide)

set_option maxHeartbeats 4000000 in
set_option maxRecDepth 100000 in
theorem n_drop_n (l : Launch) {D : va_G} {cI : ClassId} {m0 : Nat} {ma : Nat → Nat} {rf : Int32} {V : Nat → Nat → Int32} {σ : rn_St} (hV : rn_V σ) (hM : rn_Mr σ V) {j : Nat} (hj0 : j < σ.pn) {x : Int32} (hbad : x < 0 ∨ nI 15 < x) (sz : Nat) : rn_W l yX5_drop wsX5_drop ({ frames := 4, cells := 0, slots := 0, locals := 96 } : Room) D [(cI, .int)] ((rn_MW D cI m0 ma rf (nI σ.sn) (nI σ.sd.length) (nI σ.pn) (nI σ.fn) σ.rc σ.la V)) [.ref m0, .int (nI j), .int x] (some (.int (0))) (rn_MP D cI m0 ma 2 σ) (rn_mA m0 ma) 0 0 sz := by
  refine rn_W.ofW (cc := cX5_drop) (maxL := 3) (ret := (some .int)) (by decide) rfl (Nat.le_of_ble_eq_true rfl) (fun p e s m below meth c ls hx hb hr hml hts hown hlocks hin hsz hF hG hS hl => ?_)
  have hl : lv_has ls 3 [(0, .ref m0), (1, .int (nI j)), (2, .int x)] := hl
  have hs10 := hV.1.2
  have hp12 := hV.2.2.2.2.2.1.2.1
  have hf20 := hV.2.2.2.2.2.2.1
  have hd3 := hV.2.2.2.2.1.2
  refine lv_aload_n hx hb dX5_drop_0 rfl (lv_at hl 0 rfl) ?_
  refine lv_aload_n hx hb dX5_drop_1 rfl (lv_at hl 0 rfl) ?_
  refine lv_iload_n hx hb dX5_drop_2 rfl (lv_at hl 1 rfl) ?_
  refine rn_cV (As := [.int (nI j)]) (rest := [.ref m0]) 1 hx hb hml hown hts hG (m_isProcess l ((nI j))) gX5_drop_X5_isProcess rfl ⟨rfl, rfl⟩ (by decide +kernel) ⟨Nat.le_of_ble_eq_true rfl, Nat.le_of_ble_eq_true rfl⟩ hF hF.1 rfl rfl hl.1 rfl (Nat.le_of_ble_eq_true rfl) ⟨by decide, by decide⟩ dX5_drop_3 ?_
  refine W.eq (g2 := F0 m 6 ls [.int (rn_b (rn_in ((nI j)) 0 (nI σ.pn - 1))), .ref m0]) rfl ?_
  refine rn_top (y := .int 1) (congrArg Value.int (by rw [rn_ok_t (by omega) hj0]; rfl)) ?_
  refine lv_if_ne (tgt := 13) hx hb dX5_drop_6 (by decide) (fun c_6 => ?_) (fun c_6 => ?_)
  · refine lv_iload_n hx hb dX5_drop_13 rfl (lv_at hl 2 rfl) ?_
    refine lv_iconst (v := 0) hx hb dX5_drop_14 (by decide) ?_
    refine lv_bipush (v := 15) hx hb dX5_drop_15 (by decide +kernel) ?_
    refine rn_cS (As := [.int x, .int 0, .int 15]) (rest := [.ref m0]) 3 hx hb hml hown hts hG (m_in l x 0 15) gX5_drop_X5_in rfl ⟨rfl, rfl⟩ (by decide +kernel) ⟨Nat.le_of_ble_eq_true rfl, Nat.le_of_ble_eq_true rfl⟩ trivial rfl hl.1 rfl (Nat.le_of_ble_eq_true rfl) ⟨by decide, by decide⟩ dX5_drop_17 ?_
    refine W.eq (g2 := F0 m 20 ls [.int (rn_b (rn_in x 0 15)), .ref m0]) rfl ?_
    refine rn_top (y := .int 0) (congrArg Value.int (by rw [show (rn_in x 0 15) = false from rn_rng_f (n := 15) hbad]; rfl)) ?_
    refine lv_if_eq (tgt := 27) hx hb dX5_drop_20 (by decide) (fun c_20 => ?_) (fun c_20 => ?_)
    · refine lv_iconst (v := 2) hx hb dX5_drop_27 (by decide) ?_
      refine rn_wV (As := [.int 2]) (rest := []) 1 hx hb hml hown hts hG hS (m_refused l 2) (fun x hx => by rw [show x = m0 from hx]; exact rn_mA_0) gX5_drop_X5_refused rfl ⟨rfl, rfl⟩ (by decide +kernel) ⟨Nat.le_of_ble_eq_true rfl, Nat.le_of_ble_eq_true rfl⟩ hF hF.1 rfl rfl hl.1 rfl (Nat.le_of_ble_eq_true rfl) ⟨by decide, by decide⟩ dX5_drop_28 (fun H locs hP1 hz hk hS => ?_)
      refine W.eq (g2 := F0 m 31 ls [.int (rn_b (decide (2 ≠ 0)))]) rfl ?_
      have hF := hP1
      refine rn_top (y := .int 1) (congrArg Value.int (rfl)) ?_
      refine lv_if_eq (tgt := 36) hx hb dX5_drop_31 (by decide) (fun c_31 => ?_) (fun c_31 => ?_)
      · exact absurd c_31 (by decide)
      · refine lv_iconst (v := 0) hx hb dX5_drop_34 (by decide) ?_
        exact rn_Wiret hx hb hr rfl hlocks hS (by decide) (by decide) rfl ⟨_, hM, hF⟩ dX5_drop_35
    · exact absurd c_20 (by decide)
  · exact absurd c_6 (by decide)

set_option maxHeartbeats 4000000 in
set_option maxRecDepth 100000 in
theorem n_makeFile_n (l : Launch) {D : va_G} {cI : ClassId} {m0 : Nat} {ma : Nat → Nat} {rf : Int32} {V : Nat → Nat → Int32} {σ : rn_St} (hV : rn_V σ) (hM : rn_Mr σ V) {j : Nat} (hj0 : j < σ.pn) {x : Int32} (hbad : x < 0 ∨ nI 15 < x) (sz : Nat) : rn_W l yX5_makeFile wsX5_makeFile ({ frames := 4, cells := 0, slots := 0, locals := 96 } : Room) D [(cI, .int)] ((rn_MW D cI m0 ma rf (nI σ.sn) (nI σ.sd.length) (nI σ.pn) (nI σ.fn) σ.rc σ.la V)) [.ref m0, .int (nI j), .int x] (some (.int (0))) (rn_MP D cI m0 ma 2 σ) (rn_mA m0 ma) 0 0 sz := by
  refine rn_W.ofW (cc := cX5_makeFile) (maxL := 3) (ret := (some .int)) (by decide) rfl (Nat.le_of_ble_eq_true rfl) (fun p e s m below meth c ls hx hb hr hml hts hown hlocks hin hsz hF hG hS hl => ?_)
  have hl : lv_has ls 3 [(0, .ref m0), (1, .int (nI j)), (2, .int x)] := hl
  have hs10 := hV.1.2
  have hp12 := hV.2.2.2.2.2.1.2.1
  have hf20 := hV.2.2.2.2.2.2.1
  have hd3 := hV.2.2.2.2.1.2
  refine lv_aload_n hx hb dX5_makeFile_0 rfl (lv_at hl 0 rfl) ?_
  refine lv_aload_n hx hb dX5_makeFile_1 rfl (lv_at hl 0 rfl) ?_
  refine lv_iload_n hx hb dX5_makeFile_2 rfl (lv_at hl 1 rfl) ?_
  refine rn_cV (As := [.int (nI j)]) (rest := [.ref m0]) 1 hx hb hml hown hts hG (m_isProcess l ((nI j))) gX5_makeFile_X5_isProcess rfl ⟨rfl, rfl⟩ (by decide +kernel) ⟨Nat.le_of_ble_eq_true rfl, Nat.le_of_ble_eq_true rfl⟩ hF hF.1 rfl rfl hl.1 rfl (Nat.le_of_ble_eq_true rfl) ⟨by decide, by decide⟩ dX5_makeFile_3 ?_
  refine W.eq (g2 := F0 m 6 ls [.int (rn_b (rn_in ((nI j)) 0 (nI σ.pn - 1))), .ref m0]) rfl ?_
  refine rn_top (y := .int 1) (congrArg Value.int (by rw [rn_ok_t (by omega) hj0]; rfl)) ?_
  refine lv_if_ne (tgt := 13) hx hb dX5_makeFile_6 (by decide) (fun c_6 => ?_) (fun c_6 => ?_)
  · refine lv_iload_n hx hb dX5_makeFile_13 rfl (lv_at hl 2 rfl) ?_
    refine lv_iconst (v := 0) hx hb dX5_makeFile_14 (by decide) ?_
    refine lv_bipush (v := 15) hx hb dX5_makeFile_15 (by decide +kernel) ?_
    refine rn_cS (As := [.int x, .int 0, .int 15]) (rest := [.ref m0]) 3 hx hb hml hown hts hG (m_in l x 0 15) gX5_makeFile_X5_in rfl ⟨rfl, rfl⟩ (by decide +kernel) ⟨Nat.le_of_ble_eq_true rfl, Nat.le_of_ble_eq_true rfl⟩ trivial rfl hl.1 rfl (Nat.le_of_ble_eq_true rfl) ⟨by decide, by decide⟩ dX5_makeFile_17 ?_
    refine W.eq (g2 := F0 m 20 ls [.int (rn_b (rn_in x 0 15)), .ref m0]) rfl ?_
    refine rn_top (y := .int 0) (congrArg Value.int (by rw [show (rn_in x 0 15) = false from rn_rng_f (n := 15) hbad]; rfl)) ?_
    refine lv_if_ne (tgt := 27) hx hb dX5_makeFile_20 (by decide) (fun c_20 => ?_) (fun c_20 => ?_)
    · exact absurd c_20 (by decide)
    · refine lv_iconst (v := 2) hx hb dX5_makeFile_23 (by decide) ?_
      refine lv_goto (tgt := 41) hx hb dX5_makeFile_24 (by decide) ?_
      refine rn_wV (As := [.int 2]) (rest := []) 1 hx hb hml hown hts hG hS (m_refused l 2) (fun x hx => by rw [show x = m0 from hx]; exact rn_mA_0) gX5_makeFile_X5_refused rfl ⟨rfl, rfl⟩ (by decide +kernel) ⟨Nat.le_of_ble_eq_true rfl, Nat.le_of_ble_eq_true rfl⟩ hF hF.1 rfl rfl hl.1 rfl (Nat.le_of_ble_eq_true rfl) ⟨by decide, by decide⟩ dX5_makeFile_41 (fun H locs hP1 hz hk hS => ?_)
      refine W.eq (g2 := F0 m 44 ls [.int (rn_b (decide (2 ≠ 0)))]) rfl ?_
      have hF := hP1
      refine rn_top (y := .int 1) (congrArg Value.int (rfl)) ?_
      refine lv_if_eq (tgt := 49) hx hb dX5_makeFile_44 (by decide) (fun c_44 => ?_) (fun c_44 => ?_)
      · exact absurd c_44 (by decide)
      · refine lv_iconst (v := 0) hx hb dX5_makeFile_47 (by decide) ?_
        exact rn_Wiret hx hb hr rfl hlocks hS (by decide) (by decide) rfl ⟨_, hM, hF⟩ dX5_makeFile_48
  · exact absurd c_6 (by decide)

set_option maxHeartbeats 4000000 in
set_option maxRecDepth 100000 in
theorem n_makeRoom_s (l : Launch) {D : va_G} {cI : ClassId} {m0 : Nat} {ma : Nat → Nat} {rf : Int32} {V : Nat → Nat → Int32} {σ : rn_St} (hV : rn_V σ) (hM : rn_Mr σ V) {j : Nat} (hj0 : j < σ.pn) (hfull : σ.sn = 10) (sz : Nat) : rn_W l yX5_makeRoom wsX5_makeRoom ({ frames := 4, cells := 0, slots := 0, locals := 96 } : Room) D [(cI, .int)] ((rn_MW D cI m0 ma rf (nI σ.sn) (nI σ.sd.length) (nI σ.pn) (nI σ.fn) σ.rc σ.la V)) [.ref m0, .int (nI j)] (some (.int (0))) (rn_MP D cI m0 ma 2 σ) (rn_mA m0 ma) 0 0 sz := by
  refine rn_W.ofW (cc := cX5_makeRoom) (maxL := 2) (ret := (some .int)) (by decide) rfl (Nat.le_of_ble_eq_true rfl) (fun p e s m below meth c ls hx hb hr hml hts hown hlocks hin hsz hF hG hS hl => ?_)
  have hl : lv_has ls 2 [(0, .ref m0), (1, .int (nI j))] := hl
  have hs10 := hV.1.2
  have hp12 := hV.2.2.2.2.2.1.2.1
  have hf20 := hV.2.2.2.2.2.2.1
  have hd3 := hV.2.2.2.2.1.2
  refine lv_aload_n hx hb dX5_makeRoom_0 rfl (lv_at hl 0 rfl) ?_
  refine lv_aload_n hx hb dX5_makeRoom_1 rfl (lv_at hl 0 rfl) ?_
  refine lv_iload_n hx hb dX5_makeRoom_2 rfl (lv_at hl 1 rfl) ?_
  refine rn_cV (As := [.int (nI j)]) (rest := [.ref m0]) 1 hx hb hml hown hts hG (m_isProcess l ((nI j))) gX5_makeRoom_X5_isProcess rfl ⟨rfl, rfl⟩ (by decide +kernel) ⟨Nat.le_of_ble_eq_true rfl, Nat.le_of_ble_eq_true rfl⟩ hF hF.1 rfl rfl hl.1 rfl (Nat.le_of_ble_eq_true rfl) ⟨by decide, by decide⟩ dX5_makeRoom_3 ?_
  refine W.eq (g2 := F0 m 6 ls [.int (rn_b (rn_in ((nI j)) 0 (nI σ.pn - 1))), .ref m0]) rfl ?_
  refine rn_top (y := .int 1) (congrArg Value.int (by rw [rn_ok_t (by omega) hj0]; rfl)) ?_
  refine lv_if_ne (tgt := 13) hx hb dX5_makeRoom_6 (by decide) (fun c_6 => ?_) (fun c_6 => ?_)
  · refine lv_aload_n hx hb dX5_makeRoom_13 rfl (lv_at hl 0 rfl) ?_
    refine rn_get (ci := 5) (v := .int (nI σ.sn)) (C := RX5) (T := TX5) (N := 18) hx hb hts iw_X5_makeRoom_5 hown hG hF.1 rfl 1 (by decide) fw_X5_makeRoom_7 rfl dX5_makeRoom_14 ?_
    refine lv_bipush (v := 10) hx hb dX5_makeRoom_17 (by decide +kernel) ?_
    refine lv_icmp_ne (tgt := 26) hx hb dX5_makeRoom_19 (by decide) (fun c_19 => ?_) (fun c_19 => ?_)
    · exact absurd (by rw [hfull]; rfl) c_19
    · refine lv_iconst (v := 2) hx hb dX5_makeRoom_22 (by decide) ?_
      refine lv_goto (tgt := 27) hx hb dX5_makeRoom_23 (by decide) ?_
      refine rn_wV (As := [.int 2]) (rest := []) 1 hx hb hml hown hts hG hS (m_refused l 2) (fun x hx => by rw [show x = m0 from hx]; exact rn_mA_0) gX5_makeRoom_X5_refused rfl ⟨rfl, rfl⟩ (by decide +kernel) ⟨Nat.le_of_ble_eq_true rfl, Nat.le_of_ble_eq_true rfl⟩ hF hF.1 rfl rfl hl.1 rfl (Nat.le_of_ble_eq_true rfl) ⟨by decide, by decide⟩ dX5_makeRoom_27 (fun H locs hP1 hz hk hS => ?_)
      refine W.eq (g2 := F0 m 30 ls [.int (rn_b (decide (2 ≠ 0)))]) rfl ?_
      have hF := hP1
      refine rn_top (y := .int 1) (congrArg Value.int (rfl)) ?_
      refine lv_if_eq (tgt := 35) hx hb dX5_makeRoom_30 (by decide) (fun c_30 => ?_) (fun c_30 => ?_)
      · exact absurd c_30 (by decide)
      · refine lv_iconst (v := 0) hx hb dX5_makeRoom_33 (by decide) ?_
        exact rn_Wiret hx hb hr rfl hlocks hS (by decide) (by decide) rfl ⟨_, hM, hF⟩ dX5_makeRoom_34
  · exact absurd c_6 (by decide)

set_option maxHeartbeats 4000000 in
set_option maxRecDepth 100000 in
theorem n_fork_s (l : Launch) {D : va_G} {cI : ClassId} {m0 : Nat} {ma : Nat → Nat} {rf : Int32} {V : Nat → Nat → Int32} {σ : rn_St} (hV : rn_V σ) (hM : rn_Mr σ V) {j : Nat} (hj0 : j < σ.pn) (hfull : σ.pn = 12) (sz : Nat) : rn_W l yX5_fork wsX5_fork ({ frames := 4, cells := 0, slots := 0, locals := 96 } : Room) D [(cI, .int)] ((rn_MW D cI m0 ma rf (nI σ.sn) (nI σ.sd.length) (nI σ.pn) (nI σ.fn) σ.rc σ.la V)) [.ref m0, .int (nI j)] (some (.int (0))) (rn_MP D cI m0 ma 2 σ) (rn_mA m0 ma) 0 0 sz := by
  refine rn_W.ofW (cc := cX5_fork) (maxL := 2) (ret := (some .int)) (by decide) rfl (Nat.le_of_ble_eq_true rfl) (fun p e s m below meth c ls hx hb hr hml hts hown hlocks hin hsz hF hG hS hl => ?_)
  have hl : lv_has ls 2 [(0, .ref m0), (1, .int (nI j))] := hl
  have hs10 := hV.1.2
  have hp12 := hV.2.2.2.2.2.1.2.1
  have hf20 := hV.2.2.2.2.2.2.1
  have hd3 := hV.2.2.2.2.1.2
  refine lv_aload_n hx hb dX5_fork_0 rfl (lv_at hl 0 rfl) ?_
  refine lv_aload_n hx hb dX5_fork_1 rfl (lv_at hl 0 rfl) ?_
  refine lv_iload_n hx hb dX5_fork_2 rfl (lv_at hl 1 rfl) ?_
  refine rn_cV (As := [.int (nI j)]) (rest := [.ref m0]) 1 hx hb hml hown hts hG (m_isProcess l ((nI j))) gX5_fork_X5_isProcess rfl ⟨rfl, rfl⟩ (by decide +kernel) ⟨Nat.le_of_ble_eq_true rfl, Nat.le_of_ble_eq_true rfl⟩ hF hF.1 rfl rfl hl.1 rfl (Nat.le_of_ble_eq_true rfl) ⟨by decide, by decide⟩ dX5_fork_3 ?_
  refine W.eq (g2 := F0 m 6 ls [.int (rn_b (rn_in ((nI j)) 0 (nI σ.pn - 1))), .ref m0]) rfl ?_
  refine rn_top (y := .int 1) (congrArg Value.int (by rw [rn_ok_t (by omega) hj0]; rfl)) ?_
  refine lv_if_ne (tgt := 13) hx hb dX5_fork_6 (by decide) (fun c_6 => ?_) (fun c_6 => ?_)
  · refine lv_aload_n hx hb dX5_fork_13 rfl (lv_at hl 0 rfl) ?_
    refine rn_get (ci := 5) (v := .int (nI σ.pn)) (C := RX5) (T := TX5) (N := 18) hx hb hts iw_X5_fork_5 hown hG hF.1 rfl 9 (by decide) fw_X5_fork_32 rfl dX5_fork_14 ?_
    refine lv_bipush (v := 12) hx hb dX5_fork_17 (by decide +kernel) ?_
    refine lv_icmp_ne (tgt := 26) hx hb dX5_fork_19 (by decide) (fun c_19 => ?_) (fun c_19 => ?_)
    · exact absurd (by rw [hfull]; rfl) c_19
    · refine lv_iconst (v := 2) hx hb dX5_fork_22 (by decide) ?_
      refine lv_goto (tgt := 27) hx hb dX5_fork_23 (by decide) ?_
      refine rn_wV (As := [.int 2]) (rest := []) 1 hx hb hml hown hts hG hS (m_refused l 2) (fun x hx => by rw [show x = m0 from hx]; exact rn_mA_0) gX5_fork_X5_refused rfl ⟨rfl, rfl⟩ (by decide +kernel) ⟨Nat.le_of_ble_eq_true rfl, Nat.le_of_ble_eq_true rfl⟩ hF hF.1 rfl rfl hl.1 rfl (Nat.le_of_ble_eq_true rfl) ⟨by decide, by decide⟩ dX5_fork_27 (fun H locs hP1 hz hk hS => ?_)
      refine W.eq (g2 := F0 m 30 ls [.int (rn_b (decide (2 ≠ 0)))]) rfl ?_
      have hF := hP1
      refine rn_top (y := .int 1) (congrArg Value.int (rfl)) ?_
      refine lv_if_eq (tgt := 35) hx hb dX5_fork_30 (by decide) (fun c_30 => ?_) (fun c_30 => ?_)
      · exact absurd c_30 (by decide)
      · refine lv_iconst (v := 0) hx hb dX5_fork_33 (by decide) ?_
        exact rn_Wiret hx hb hr rfl hlocks hS (by decide) (by decide) rfl ⟨_, hM, hF⟩ dX5_fork_34
  · exact absurd c_6 (by decide)

set_option maxHeartbeats 4000000 in
set_option maxRecDepth 100000 in
theorem n_makeFile_s (l : Launch) {D : va_G} {cI : ClassId} {m0 : Nat} {ma : Nat → Nat} {rf : Int32} {V : Nat → Nat → Int32} {σ : rn_St} (hV : rn_V σ) (hM : rn_Mr σ V) {j k : Nat} (hj0 : j < σ.pn) (hk0 : k ≤ 15) (hfull : σ.fn = 20) (sz : Nat) : rn_W l yX5_makeFile wsX5_makeFile ({ frames := 4, cells := 0, slots := 0, locals := 96 } : Room) D [(cI, .int)] ((rn_MW D cI m0 ma rf (nI σ.sn) (nI σ.sd.length) (nI σ.pn) (nI σ.fn) σ.rc σ.la V)) [.ref m0, .int (nI j), .int (nI k)] (some (.int (0))) (rn_MP D cI m0 ma 3 σ) (rn_mA m0 ma) 0 0 sz := by
  refine rn_W.ofW (cc := cX5_makeFile) (maxL := 3) (ret := (some .int)) (by decide) rfl (Nat.le_of_ble_eq_true rfl) (fun p e s m below meth c ls hx hb hr hml hts hown hlocks hin hsz hF hG hS hl => ?_)
  have hl : lv_has ls 3 [(0, .ref m0), (1, .int (nI j)), (2, .int (nI k))] := hl
  have hs10 := hV.1.2
  have hp12 := hV.2.2.2.2.2.1.2.1
  have hf20 := hV.2.2.2.2.2.2.1
  have hd3 := hV.2.2.2.2.1.2
  refine lv_aload_n hx hb dX5_makeFile_0 rfl (lv_at hl 0 rfl) ?_
  refine lv_aload_n hx hb dX5_makeFile_1 rfl (lv_at hl 0 rfl) ?_
  refine lv_iload_n hx hb dX5_makeFile_2 rfl (lv_at hl 1 rfl) ?_
  refine rn_cV (As := [.int (nI j)]) (rest := [.ref m0]) 1 hx hb hml hown hts hG (m_isProcess l ((nI j))) gX5_makeFile_X5_isProcess rfl ⟨rfl, rfl⟩ (by decide +kernel) ⟨Nat.le_of_ble_eq_true rfl, Nat.le_of_ble_eq_true rfl⟩ hF hF.1 rfl rfl hl.1 rfl (Nat.le_of_ble_eq_true rfl) ⟨by decide, by decide⟩ dX5_makeFile_3 ?_
  refine W.eq (g2 := F0 m 6 ls [.int (rn_b (rn_in ((nI j)) 0 (nI σ.pn - 1))), .ref m0]) rfl ?_
  refine rn_top (y := .int 1) (congrArg Value.int (by rw [rn_ok_t (by omega) hj0]; rfl)) ?_
  refine lv_if_ne (tgt := 13) hx hb dX5_makeFile_6 (by decide) (fun c_6 => ?_) (fun c_6 => ?_)
  · refine lv_iload_n hx hb dX5_makeFile_13 rfl (lv_at hl 2 rfl) ?_
    refine lv_iconst (v := 0) hx hb dX5_makeFile_14 (by decide) ?_
    refine lv_bipush (v := 15) hx hb dX5_makeFile_15 (by decide +kernel) ?_
    refine rn_cS (As := [.int (nI k), .int 0, .int 15]) (rest := [.ref m0]) 3 hx hb hml hown hts hG (m_in l ((nI k)) 0 15) gX5_makeFile_X5_in rfl ⟨rfl, rfl⟩ (by decide +kernel) ⟨Nat.le_of_ble_eq_true rfl, Nat.le_of_ble_eq_true rfl⟩ trivial rfl hl.1 rfl (Nat.le_of_ble_eq_true rfl) ⟨by decide, by decide⟩ dX5_makeFile_17 ?_
    refine W.eq (g2 := F0 m 20 ls [.int (rn_b (rn_in ((nI k)) 0 15)), .ref m0]) rfl ?_
    refine rn_top (y := .int 1) (congrArg Value.int (by rw [show (rn_in ((nI k)) 0 15) = true from rn_rng_t (n := 15) hk0 (by omega)]; rfl)) ?_
    refine lv_if_ne (tgt := 27) hx hb dX5_makeFile_20 (by decide) (fun c_20 => ?_) (fun c_20 => ?_)
    · refine lv_aload_n hx hb dX5_makeFile_27 rfl (lv_at hl 0 rfl) ?_
      refine rn_get (ci := 5) (v := .int (nI σ.fn)) (C := RX5) (T := TX5) (N := 18) hx hb hts iw_X5_makeFile_5 hown hG hF.1 rfl 13 (by decide) fw_X5_makeFile_63 rfl dX5_makeFile_28 ?_
      refine lv_bipush (v := 20) hx hb dX5_makeFile_31 (by decide +kernel) ?_
      refine lv_icmp_ne (tgt := 40) hx hb dX5_makeFile_33 (by decide) (fun c_33 => ?_) (fun c_33 => ?_)
      · exact absurd (by rw [hfull]; rfl) c_33
      · refine lv_iconst (v := 3) hx hb dX5_makeFile_36 (by decide) ?_
        refine lv_goto (tgt := 41) hx hb dX5_makeFile_37 (by decide) ?_
        refine rn_wV (As := [.int 3]) (rest := []) 1 hx hb hml hown hts hG hS (m_refused l 3) (fun x hx => by rw [show x = m0 from hx]; exact rn_mA_0) gX5_makeFile_X5_refused rfl ⟨rfl, rfl⟩ (by decide +kernel) ⟨Nat.le_of_ble_eq_true rfl, Nat.le_of_ble_eq_true rfl⟩ hF hF.1 rfl rfl hl.1 rfl (Nat.le_of_ble_eq_true rfl) ⟨by decide, by decide⟩ dX5_makeFile_41 (fun H locs hP1 hz hk hS => ?_)
        refine W.eq (g2 := F0 m 44 ls [.int (rn_b (decide (3 ≠ 0)))]) rfl ?_
        have hF := hP1
        refine rn_top (y := .int 1) (congrArg Value.int (rfl)) ?_
        refine lv_if_eq (tgt := 49) hx hb dX5_makeFile_44 (by decide) (fun c_44 => ?_) (fun c_44 => ?_)
        · exact absurd c_44 (by decide)
        · refine lv_iconst (v := 0) hx hb dX5_makeFile_47 (by decide) ?_
          exact rn_Wiret hx hb hr rfl hlocks hS (by decide) (by decide) rfl ⟨_, hM, hF⟩ dX5_makeFile_48
    · exact absurd c_20 (by decide)
  · exact absurd c_6 (by decide)

set_option maxHeartbeats 4000000 in
set_option maxRecDepth 100000 in
theorem n_line_1 (l : Launch) {D : va_G} {cI : ClassId} {m0 : Nat} {ma : Nat → Nat} {rf : Int32} {V : Nat → Nat → Int32} {σ : rn_St} (hV : rn_V σ) (hM : rn_Mr σ V) {x e1 e2 : Int32} (hbad : x < 0 ∨ nI 998 < x) (sz : Nat) : rn_W l yX5_line wsX5_line ({ frames := 4, cells := 0, slots := 0, locals := 96 } : Room) D [(cI, .int)] ((rn_MW D cI m0 ma rf (nI σ.sn) (nI σ.sd.length) (nI σ.pn) (nI σ.fn) σ.rc σ.la V)) [.ref m0, .int x, .int e1, .int e2] (some (.int (0))) (rn_MP D cI m0 ma 1 σ) (rn_mA m0 ma) 0 0 sz := by
  refine rn_W.ofW (cc := cX5_line) (maxL := 7) (ret := (some .int)) (by decide) rfl (Nat.le_of_ble_eq_true rfl) (fun p e s m below meth c ls hx hb hr hml hts hown hlocks hin hsz hF hG hS hl => ?_)
  have hl : lv_has ls 7 [(0, .ref m0), (1, .int x), (2, .int e1), (3, .int e2)] := hl
  have hs10 := hV.1.2
  have hp12 := hV.2.2.2.2.2.1.2.1
  have hf20 := hV.2.2.2.2.2.2.1
  have hd3 := hV.2.2.2.2.1.2
  refine lv_iload_n hx hb dX5_line_0 rfl (lv_at hl 1 rfl) ?_
  refine rn_cS (As := [.int x]) (rest := []) 1 hx hb hml hown hts hG (m_isNumber l x) gX5_line_X5_isNumber rfl ⟨rfl, rfl⟩ (by decide +kernel) ⟨Nat.le_of_ble_eq_true rfl, Nat.le_of_ble_eq_true rfl⟩ trivial rfl hl.1 rfl (Nat.le_of_ble_eq_true rfl) ⟨by decide, by decide⟩ dX5_line_1 ?_
  refine W.eq (g2 := F0 m 4 ls [.int (rn_b (rn_in x 0 998))]) rfl ?_
  refine rn_top (y := .int 0) (congrArg Value.int (by rw [show rn_in x 0 998 = false from rn_rng_f (n := 998) hbad]; rfl)) ?_
  refine lv_if_eq (tgt := 29) hx hb dX5_line_4 (by decide) (fun c_4 => ?_) (fun c_4 => ?_)
  · refine lv_iconst (v := 0) hx hb dX5_line_29 (by decide) ?_
    refine lv_istore (lv' := [(4, .int 0), (0, .ref m0), (1, .int x), (2, .int e1), (3, .int e2)]) hx hb dX5_line_30 hl (by decide) rfl (fun ls hl => ?_)
    refine lv_iload hx hb dX5_line_32 (lv_at hl 0 rfl) ?_
    refine lv_if_eq (tgt := 59) hx hb dX5_line_34 (by decide) (fun c_34 => ?_) (fun c_34 => ?_)
    · refine lv_iconst (v := 0) hx hb dX5_line_59 (by decide) ?_
      refine lv_istore (lv' := [(5, .int 0), (4, .int 0), (0, .ref m0), (1, .int x), (2, .int e1), (3, .int e2)]) hx hb dX5_line_60 hl (by decide) rfl (fun ls hl => ?_)
      refine lv_aload_n hx hb dX5_line_62 rfl (lv_at hl 2 rfl) ?_
      refine lv_iload hx hb dX5_line_63 (lv_at hl 0 rfl) ?_
      refine lv_if_ne (tgt := 72) hx hb dX5_line_65 (by decide) (fun c_65 => ?_) (fun c_65 => ?_)
      · exact absurd c_65 (by decide)
      · refine lv_iconst (v := 1) hx hb dX5_line_68 (by decide) ?_
        refine lv_goto (tgt := 85) hx hb dX5_line_69 (by decide) ?_
        refine rn_wV (As := [.int 1]) (rest := []) 1 hx hb hml hown hts hG hS (m_refused l 1) (fun x hx => by rw [show x = m0 from hx]; exact rn_mA_0) gX5_line_X5_refused rfl ⟨rfl, rfl⟩ (by decide +kernel) ⟨Nat.le_of_ble_eq_true rfl, Nat.le_of_ble_eq_true rfl⟩ hF hF.1 rfl rfl hl.1 rfl (Nat.le_of_ble_eq_true rfl) ⟨by decide, by decide⟩ dX5_line_85 (fun H locs hP1 hz hk hS => ?_)
        refine W.eq (g2 := F0 m 88 ls [.int (rn_b (decide (1 ≠ 0)))]) rfl ?_
        have hF := hP1
        refine rn_top (y := .int 1) (congrArg Value.int (rfl)) ?_
        refine lv_if_eq (tgt := 93) hx hb dX5_line_88 (by decide) (fun c_88 => ?_) (fun c_88 => ?_)
        · exact absurd c_88 (by decide)
        · refine lv_iconst (v := 0) hx hb dX5_line_91 (by decide) ?_
          exact rn_Wiret hx hb hr rfl hlocks hS (by decide) (by decide) rfl ⟨_, hM, hF⟩ dX5_line_92
    · exact absurd c_34 (by decide)
  · exact absurd c_4 (by decide)

set_option maxHeartbeats 4000000 in
set_option maxRecDepth 100000 in
theorem n_line_2 (l : Launch) {D : va_G} {cI : ClassId} {m0 : Nat} {ma : Nat → Nat} {rf : Int32} {V : Nat → Nat → Int32} {σ : rn_St} (hV : rn_V σ) (hM : rn_Mr σ V) {a : Nat} (ha0 : a ≤ 998) {x e2 : Int32} (hbad : x < 0 ∨ nI 998 < x) (sz : Nat) : rn_W l yX5_line wsX5_line ({ frames := 4, cells := 0, slots := 0, locals := 96 } : Room) D [(cI, .int)] ((rn_MW D cI m0 ma rf (nI σ.sn) (nI σ.sd.length) (nI σ.pn) (nI σ.fn) σ.rc σ.la V)) [.ref m0, .int (nI a), .int x, .int e2] (some (.int (0))) (rn_MP D cI m0 ma 1 σ) (rn_mA m0 ma) 0 0 sz := by
  refine rn_W.ofW (cc := cX5_line) (maxL := 7) (ret := (some .int)) (by decide) rfl (Nat.le_of_ble_eq_true rfl) (fun p e s m below meth c ls hx hb hr hml hts hown hlocks hin hsz hF hG hS hl => ?_)
  have hl : lv_has ls 7 [(0, .ref m0), (1, .int (nI a)), (2, .int x), (3, .int e2)] := hl
  have hs10 := hV.1.2
  have hp12 := hV.2.2.2.2.2.1.2.1
  have hf20 := hV.2.2.2.2.2.2.1
  have hd3 := hV.2.2.2.2.1.2
  refine lv_iload_n hx hb dX5_line_0 rfl (lv_at hl 1 rfl) ?_
  refine rn_cS (As := [.int (nI a)]) (rest := []) 1 hx hb hml hown hts hG (m_isNumber l ((nI a))) gX5_line_X5_isNumber rfl ⟨rfl, rfl⟩ (by decide +kernel) ⟨Nat.le_of_ble_eq_true rfl, Nat.le_of_ble_eq_true rfl⟩ trivial rfl hl.1 rfl (Nat.le_of_ble_eq_true rfl) ⟨by decide, by decide⟩ dX5_line_1 ?_
  refine W.eq (g2 := F0 m 4 ls [.int (rn_b (rn_in ((nI a)) 0 998))]) rfl ?_
  refine rn_top (y := .int 1) (congrArg Value.int (by rw [show rn_in ((nI a)) 0 998 = true from rn_rng_t (n := 998) ha0 (by omega)]; rfl)) ?_
  refine lv_if_eq (tgt := 29) hx hb dX5_line_4 (by decide) (fun c_4 => ?_) (fun c_4 => ?_)
  · exact absurd c_4 (by decide)
  · refine lv_iload_n hx hb dX5_line_7 rfl (lv_at hl 2 rfl) ?_
    refine rn_cS (As := [.int x]) (rest := []) 1 hx hb hml hown hts hG (m_isNumber l x) gX5_line_X5_isNumber rfl ⟨rfl, rfl⟩ (by decide +kernel) ⟨Nat.le_of_ble_eq_true rfl, Nat.le_of_ble_eq_true rfl⟩ trivial rfl hl.1 rfl (Nat.le_of_ble_eq_true rfl) ⟨by decide, by decide⟩ dX5_line_8 ?_
    refine W.eq (g2 := F0 m 11 ls [.int (rn_b (rn_in x 0 998))]) rfl ?_
    refine rn_top (y := .int 0) (congrArg Value.int (by rw [show rn_in x 0 998 = false from rn_rng_f (n := 998) hbad]; rfl)) ?_
    refine lv_if_eq (tgt := 29) hx hb dX5_line_11 (by decide) (fun c_11 => ?_) (fun c_11 => ?_)
    · refine lv_iconst (v := 0) hx hb dX5_line_29 (by decide) ?_
      refine lv_istore (lv' := [(4, .int 0), (0, .ref m0), (1, .int (nI a)), (2, .int x), (3, .int e2)]) hx hb dX5_line_30 hl (by decide) rfl (fun ls hl => ?_)
      refine lv_iload hx hb dX5_line_32 (lv_at hl 0 rfl) ?_
      refine lv_if_eq (tgt := 59) hx hb dX5_line_34 (by decide) (fun c_34 => ?_) (fun c_34 => ?_)
      · refine lv_iconst (v := 0) hx hb dX5_line_59 (by decide) ?_
        refine lv_istore (lv' := [(5, .int 0), (4, .int 0), (0, .ref m0), (1, .int (nI a)), (2, .int x), (3, .int e2)]) hx hb dX5_line_60 hl (by decide) rfl (fun ls hl => ?_)
        refine lv_aload_n hx hb dX5_line_62 rfl (lv_at hl 2 rfl) ?_
        refine lv_iload hx hb dX5_line_63 (lv_at hl 0 rfl) ?_
        refine lv_if_ne (tgt := 72) hx hb dX5_line_65 (by decide) (fun c_65 => ?_) (fun c_65 => ?_)
        · exact absurd c_65 (by decide)
        · refine lv_iconst (v := 1) hx hb dX5_line_68 (by decide) ?_
          refine lv_goto (tgt := 85) hx hb dX5_line_69 (by decide) ?_
          refine rn_wV (As := [.int 1]) (rest := []) 1 hx hb hml hown hts hG hS (m_refused l 1) (fun x hx => by rw [show x = m0 from hx]; exact rn_mA_0) gX5_line_X5_refused rfl ⟨rfl, rfl⟩ (by decide +kernel) ⟨Nat.le_of_ble_eq_true rfl, Nat.le_of_ble_eq_true rfl⟩ hF hF.1 rfl rfl hl.1 rfl (Nat.le_of_ble_eq_true rfl) ⟨by decide, by decide⟩ dX5_line_85 (fun H locs hP1 hz hk hS => ?_)
          refine W.eq (g2 := F0 m 88 ls [.int (rn_b (decide (1 ≠ 0)))]) rfl ?_
          have hF := hP1
          refine rn_top (y := .int 1) (congrArg Value.int (rfl)) ?_
          refine lv_if_eq (tgt := 93) hx hb dX5_line_88 (by decide) (fun c_88 => ?_) (fun c_88 => ?_)
          · exact absurd c_88 (by decide)
          · refine lv_iconst (v := 0) hx hb dX5_line_91 (by decide) ?_
            exact rn_Wiret hx hb hr rfl hlocks hS (by decide) (by decide) rfl ⟨_, hM, hF⟩ dX5_line_92
      · exact absurd c_34 (by decide)
    · exact absurd c_11 (by decide)

set_option maxHeartbeats 4000000 in
set_option maxRecDepth 100000 in
theorem n_line_3 (l : Launch) {D : va_G} {cI : ClassId} {m0 : Nat} {ma : Nat → Nat} {rf : Int32} {V : Nat → Nat → Int32} {σ : rn_St} (hV : rn_V σ) (hM : rn_Mr σ V) {a b : Nat} (ha0 : a ≤ 998) (hb0 : b ≤ 998) {x : Int32} (hbad : x < 1 ∨ nI 999 < x) (sz : Nat) : rn_W l yX5_line wsX5_line ({ frames := 4, cells := 0, slots := 0, locals := 96 } : Room) D [(cI, .int)] ((rn_MW D cI m0 ma rf (nI σ.sn) (nI σ.sd.length) (nI σ.pn) (nI σ.fn) σ.rc σ.la V)) [.ref m0, .int (nI a), .int (nI b), .int x] (some (.int (0))) (rn_MP D cI m0 ma 1 σ) (rn_mA m0 ma) 0 0 sz := by
  refine rn_W.ofW (cc := cX5_line) (maxL := 7) (ret := (some .int)) (by decide) rfl (Nat.le_of_ble_eq_true rfl) (fun p e s m below meth c ls hx hb hr hml hts hown hlocks hin hsz hF hG hS hl => ?_)
  have hl : lv_has ls 7 [(0, .ref m0), (1, .int (nI a)), (2, .int (nI b)), (3, .int x)] := hl
  have hs10 := hV.1.2
  have hp12 := hV.2.2.2.2.2.1.2.1
  have hf20 := hV.2.2.2.2.2.2.1
  have hd3 := hV.2.2.2.2.1.2
  refine lv_iload_n hx hb dX5_line_0 rfl (lv_at hl 1 rfl) ?_
  refine rn_cS (As := [.int (nI a)]) (rest := []) 1 hx hb hml hown hts hG (m_isNumber l ((nI a))) gX5_line_X5_isNumber rfl ⟨rfl, rfl⟩ (by decide +kernel) ⟨Nat.le_of_ble_eq_true rfl, Nat.le_of_ble_eq_true rfl⟩ trivial rfl hl.1 rfl (Nat.le_of_ble_eq_true rfl) ⟨by decide, by decide⟩ dX5_line_1 ?_
  refine W.eq (g2 := F0 m 4 ls [.int (rn_b (rn_in ((nI a)) 0 998))]) rfl ?_
  refine rn_top (y := .int 1) (congrArg Value.int (by rw [show rn_in ((nI a)) 0 998 = true from rn_rng_t (n := 998) ha0 (by omega)]; rfl)) ?_
  refine lv_if_eq (tgt := 29) hx hb dX5_line_4 (by decide) (fun c_4 => ?_) (fun c_4 => ?_)
  · exact absurd c_4 (by decide)
  · refine lv_iload_n hx hb dX5_line_7 rfl (lv_at hl 2 rfl) ?_
    refine rn_cS (As := [.int (nI b)]) (rest := []) 1 hx hb hml hown hts hG (m_isNumber l ((nI b))) gX5_line_X5_isNumber rfl ⟨rfl, rfl⟩ (by decide +kernel) ⟨Nat.le_of_ble_eq_true rfl, Nat.le_of_ble_eq_true rfl⟩ trivial rfl hl.1 rfl (Nat.le_of_ble_eq_true rfl) ⟨by decide, by decide⟩ dX5_line_8 ?_
    refine W.eq (g2 := F0 m 11 ls [.int (rn_b (rn_in ((nI b)) 0 998))]) rfl ?_
    refine rn_top (y := .int 1) (congrArg Value.int (by rw [show rn_in ((nI b)) 0 998 = true from rn_rng_t (n := 998) hb0 (by omega)]; rfl)) ?_
    refine lv_if_eq (tgt := 29) hx hb dX5_line_11 (by decide) (fun c_11 => ?_) (fun c_11 => ?_)
    · exact absurd c_11 (by decide)
    · refine lv_iload_n hx hb dX5_line_14 rfl (lv_at hl 3 rfl) ?_
      refine lv_iconst (v := 1) hx hb dX5_line_15 (by decide) ?_
      refine lv_sipush (v := 999) hx hb dX5_line_16 (by decide +kernel) ?_
      refine rn_cS (As := [.int x, .int 1, .int 999]) (rest := []) 3 hx hb hml hown hts hG (m_in l x 1 999) gX5_line_X5_in rfl ⟨rfl, rfl⟩ (by decide +kernel) ⟨Nat.le_of_ble_eq_true rfl, Nat.le_of_ble_eq_true rfl⟩ trivial rfl hl.1 rfl (Nat.le_of_ble_eq_true rfl) ⟨by decide, by decide⟩ dX5_line_19 ?_
      refine W.eq (g2 := F0 m 22 ls [.int (rn_b (rn_in x 1 999))]) rfl ?_
      refine rn_top (y := .int 0) (congrArg Value.int (by rw [show (rn_in x 1 999) = false from decide_eq_false (fun h => hbad.elim (fun b => rn_nle b h.1) (fun b => rn_nle b h.2))]; rfl)) ?_
      refine lv_if_eq (tgt := 29) hx hb dX5_line_22 (by decide) (fun c_22 => ?_) (fun c_22 => ?_)
      · refine lv_iconst (v := 0) hx hb dX5_line_29 (by decide) ?_
        refine lv_istore (lv' := [(4, .int 0), (0, .ref m0), (1, .int (nI a)), (2, .int (nI b)), (3, .int x)]) hx hb dX5_line_30 hl (by decide) rfl (fun ls hl => ?_)
        refine lv_iload hx hb dX5_line_32 (lv_at hl 0 rfl) ?_
        refine lv_if_eq (tgt := 59) hx hb dX5_line_34 (by decide) (fun c_34 => ?_) (fun c_34 => ?_)
        · refine lv_iconst (v := 0) hx hb dX5_line_59 (by decide) ?_
          refine lv_istore (lv' := [(5, .int 0), (4, .int 0), (0, .ref m0), (1, .int (nI a)), (2, .int (nI b)), (3, .int x)]) hx hb dX5_line_60 hl (by decide) rfl (fun ls hl => ?_)
          refine lv_aload_n hx hb dX5_line_62 rfl (lv_at hl 2 rfl) ?_
          refine lv_iload hx hb dX5_line_63 (lv_at hl 0 rfl) ?_
          refine lv_if_ne (tgt := 72) hx hb dX5_line_65 (by decide) (fun c_65 => ?_) (fun c_65 => ?_)
          · exact absurd c_65 (by decide)
          · refine lv_iconst (v := 1) hx hb dX5_line_68 (by decide) ?_
            refine lv_goto (tgt := 85) hx hb dX5_line_69 (by decide) ?_
            refine rn_wV (As := [.int 1]) (rest := []) 1 hx hb hml hown hts hG hS (m_refused l 1) (fun x hx => by rw [show x = m0 from hx]; exact rn_mA_0) gX5_line_X5_refused rfl ⟨rfl, rfl⟩ (by decide +kernel) ⟨Nat.le_of_ble_eq_true rfl, Nat.le_of_ble_eq_true rfl⟩ hF hF.1 rfl rfl hl.1 rfl (Nat.le_of_ble_eq_true rfl) ⟨by decide, by decide⟩ dX5_line_85 (fun H locs hP1 hz hk hS => ?_)
            refine W.eq (g2 := F0 m 88 ls [.int (rn_b (decide (1 ≠ 0)))]) rfl ?_
            have hF := hP1
            refine rn_top (y := .int 1) (congrArg Value.int (rfl)) ?_
            refine lv_if_eq (tgt := 93) hx hb dX5_line_88 (by decide) (fun c_88 => ?_) (fun c_88 => ?_)
            · exact absurd c_88 (by decide)
            · refine lv_iconst (v := 0) hx hb dX5_line_91 (by decide) ?_
              exact rn_Wiret hx hb hr rfl hlocks hS (by decide) (by decide) rfl ⟨_, hM, hF⟩ dX5_line_92
        · exact absurd c_34 (by decide)
      · exact absurd c_22 (by decide)

set_option maxHeartbeats 4000000 in
set_option maxRecDepth 100000 in
theorem n_line_4 (l : Launch) {D : va_G} {cI : ClassId} {m0 : Nat} {ma : Nat → Nat} {rf : Int32} {V : Nat → Nat → Int32} {σ : rn_St} (hV : rn_V σ) (hM : rn_Mr σ V) {a b c9 : Nat} (ha0 : a ≤ 998) (hb0 : b ≤ 998) (hc0 : 1 ≤ c9 ∧ c9 ≤ 999) (hbig : 999 < a + c9) (sz : Nat) : rn_W l yX5_line wsX5_line ({ frames := 4, cells := 0, slots := 0, locals := 96 } : Room) D [(cI, .int)] ((rn_MW D cI m0 ma rf (nI σ.sn) (nI σ.sd.length) (nI σ.pn) (nI σ.fn) σ.rc σ.la V)) [.ref m0, .int (nI a), .int (nI b), .int (nI c9)] (some (.int (0))) (rn_MP D cI m0 ma 1 σ) (rn_mA m0 ma) 0 0 sz := by
  refine rn_W.ofW (cc := cX5_line) (maxL := 7) (ret := (some .int)) (by decide) rfl (Nat.le_of_ble_eq_true rfl) (fun p e s m below meth c ls hx hb hr hml hts hown hlocks hin hsz hF hG hS hl => ?_)
  have hl : lv_has ls 7 [(0, .ref m0), (1, .int (nI a)), (2, .int (nI b)), (3, .int (nI c9))] := hl
  have hs10 := hV.1.2
  have hp12 := hV.2.2.2.2.2.1.2.1
  have hf20 := hV.2.2.2.2.2.2.1
  have hd3 := hV.2.2.2.2.1.2
  refine lv_iload_n hx hb dX5_line_0 rfl (lv_at hl 1 rfl) ?_
  refine rn_cS (As := [.int (nI a)]) (rest := []) 1 hx hb hml hown hts hG (m_isNumber l ((nI a))) gX5_line_X5_isNumber rfl ⟨rfl, rfl⟩ (by decide +kernel) ⟨Nat.le_of_ble_eq_true rfl, Nat.le_of_ble_eq_true rfl⟩ trivial rfl hl.1 rfl (Nat.le_of_ble_eq_true rfl) ⟨by decide, by decide⟩ dX5_line_1 ?_
  refine W.eq (g2 := F0 m 4 ls [.int (rn_b (rn_in ((nI a)) 0 998))]) rfl ?_
  refine rn_top (y := .int 1) (congrArg Value.int (by rw [show rn_in ((nI a)) 0 998 = true from rn_rng_t (n := 998) ha0 (by omega)]; rfl)) ?_
  refine lv_if_eq (tgt := 29) hx hb dX5_line_4 (by decide) (fun c_4 => ?_) (fun c_4 => ?_)
  · exact absurd c_4 (by decide)
  · refine lv_iload_n hx hb dX5_line_7 rfl (lv_at hl 2 rfl) ?_
    refine rn_cS (As := [.int (nI b)]) (rest := []) 1 hx hb hml hown hts hG (m_isNumber l ((nI b))) gX5_line_X5_isNumber rfl ⟨rfl, rfl⟩ (by decide +kernel) ⟨Nat.le_of_ble_eq_true rfl, Nat.le_of_ble_eq_true rfl⟩ trivial rfl hl.1 rfl (Nat.le_of_ble_eq_true rfl) ⟨by decide, by decide⟩ dX5_line_8 ?_
    refine W.eq (g2 := F0 m 11 ls [.int (rn_b (rn_in ((nI b)) 0 998))]) rfl ?_
    refine rn_top (y := .int 1) (congrArg Value.int (by rw [show rn_in ((nI b)) 0 998 = true from rn_rng_t (n := 998) hb0 (by omega)]; rfl)) ?_
    refine lv_if_eq (tgt := 29) hx hb dX5_line_11 (by decide) (fun c_11 => ?_) (fun c_11 => ?_)
    · exact absurd c_11 (by decide)
    · refine lv_iload_n hx hb dX5_line_14 rfl (lv_at hl 3 rfl) ?_
      refine lv_iconst (v := 1) hx hb dX5_line_15 (by decide) ?_
      refine lv_sipush (v := 999) hx hb dX5_line_16 (by decide +kernel) ?_
      refine rn_cS (As := [.int (nI c9), .int 1, .int 999]) (rest := []) 3 hx hb hml hown hts hG (m_in l ((nI c9)) 1 999) gX5_line_X5_in rfl ⟨rfl, rfl⟩ (by decide +kernel) ⟨Nat.le_of_ble_eq_true rfl, Nat.le_of_ble_eq_true rfl⟩ trivial rfl hl.1 rfl (Nat.le_of_ble_eq_true rfl) ⟨by decide, by decide⟩ dX5_line_19 ?_
      refine W.eq (g2 := F0 m 22 ls [.int (rn_b (rn_in ((nI c9)) 1 999))]) rfl ?_
      refine rn_top (y := .int 1) (congrArg Value.int (by rw [show (rn_in ((nI c9)) 1 999) = true from decide_eq_true ⟨(nI_leI (a := 1) (by omega) (by omega)).mpr hc0.1, (nI_leI (b := 999) (by omega) (by omega)).mpr hc0.2⟩]; rfl)) ?_
      refine lv_if_eq (tgt := 29) hx hb dX5_line_22 (by decide) (fun c_22 => ?_) (fun c_22 => ?_)
      · exact absurd c_22 (by decide)
      · refine lv_iconst (v := 1) hx hb dX5_line_25 (by decide) ?_
        refine lv_goto (tgt := 30) hx hb dX5_line_26 (by decide) ?_
        refine lv_istore (lv' := [(4, .int 1), (0, .ref m0), (1, .int (nI a)), (2, .int (nI b)), (3, .int (nI c9))]) hx hb dX5_line_30 hl (by decide) rfl (fun ls hl => ?_)
        refine lv_iload hx hb dX5_line_32 (lv_at hl 0 rfl) ?_
        refine lv_if_eq (tgt := 59) hx hb dX5_line_34 (by decide) (fun c_34 => ?_) (fun c_34 => ?_)
        · exact absurd c_34 (by decide)
        · refine lv_iload_n hx hb dX5_line_37 rfl (lv_at hl 2 rfl) ?_
          refine lv_iload_n hx hb dX5_line_38 rfl (lv_at hl 4 rfl) ?_
          refine lv_iadd hx hb dX5_line_39 ?_
          refine rn_top (y := .int (nI (a + c9))) (congrArg Value.int (nI_add _ _)) ?_
          refine lv_sipush (v := 999) hx hb dX5_line_40 (by decide +kernel) ?_
          refine lv_icmp_gt (tgt := 59) hx hb dX5_line_43 (by decide) (fun c_43 => ?_) (fun c_43 => ?_)
          · refine lv_iconst (v := 0) hx hb dX5_line_59 (by decide) ?_
            refine lv_istore (lv' := [(5, .int 0), (4, .int 1), (0, .ref m0), (1, .int (nI a)), (2, .int (nI b)), (3, .int (nI c9))]) hx hb dX5_line_60 hl (by decide) rfl (fun ls hl => ?_)
            refine lv_aload_n hx hb dX5_line_62 rfl (lv_at hl 2 rfl) ?_
            refine lv_iload hx hb dX5_line_63 (lv_at hl 0 rfl) ?_
            refine lv_if_ne (tgt := 72) hx hb dX5_line_65 (by decide) (fun c_65 => ?_) (fun c_65 => ?_)
            · exact absurd c_65 (by decide)
            · refine lv_iconst (v := 1) hx hb dX5_line_68 (by decide) ?_
              refine lv_goto (tgt := 85) hx hb dX5_line_69 (by decide) ?_
              refine rn_wV (As := [.int 1]) (rest := []) 1 hx hb hml hown hts hG hS (m_refused l 1) (fun x hx => by rw [show x = m0 from hx]; exact rn_mA_0) gX5_line_X5_refused rfl ⟨rfl, rfl⟩ (by decide +kernel) ⟨Nat.le_of_ble_eq_true rfl, Nat.le_of_ble_eq_true rfl⟩ hF hF.1 rfl rfl hl.1 rfl (Nat.le_of_ble_eq_true rfl) ⟨by decide, by decide⟩ dX5_line_85 (fun H locs hP1 hz hk hS => ?_)
              refine W.eq (g2 := F0 m 88 ls [.int (rn_b (decide (1 ≠ 0)))]) rfl ?_
              have hF := hP1
              refine rn_top (y := .int 1) (congrArg Value.int (rfl)) ?_
              refine lv_if_eq (tgt := 93) hx hb dX5_line_88 (by decide) (fun c_88 => ?_) (fun c_88 => ?_)
              · exact absurd c_88 (by decide)
              · refine lv_iconst (v := 0) hx hb dX5_line_91 (by decide) ?_
                exact rn_Wiret hx hb hr rfl hlocks hS (by decide) (by decide) rfl ⟨_, hM, hF⟩ dX5_line_92
          · exact absurd ((nI_ltI (a := 999) (by omega) (by omega)).mpr (by omega)) c_43

set_option maxHeartbeats 4000000 in
set_option maxRecDepth 100000 in
theorem n_line_5 (l : Launch) {D : va_G} {cI : ClassId} {m0 : Nat} {ma : Nat → Nat} {rf : Int32} {V : Nat → Nat → Int32} {σ : rn_St} (hV : rn_V σ) (hM : rn_Mr σ V) {a b c9 : Nat} (ha0 : a ≤ 998) (hb0 : b ≤ 998) (hc0 : 1 ≤ c9 ∧ c9 ≤ 999) (hfit : a + c9 ≤ 999) (hbig : 999 < b + c9) (sz : Nat) : rn_W l yX5_line wsX5_line ({ frames := 4, cells := 0, slots := 0, locals := 96 } : Room) D [(cI, .int)] ((rn_MW D cI m0 ma rf (nI σ.sn) (nI σ.sd.length) (nI σ.pn) (nI σ.fn) σ.rc σ.la V)) [.ref m0, .int (nI a), .int (nI b), .int (nI c9)] (some (.int (0))) (rn_MP D cI m0 ma 1 σ) (rn_mA m0 ma) 0 0 sz := by
  refine rn_W.ofW (cc := cX5_line) (maxL := 7) (ret := (some .int)) (by decide) rfl (Nat.le_of_ble_eq_true rfl) (fun p e s m below meth c ls hx hb hr hml hts hown hlocks hin hsz hF hG hS hl => ?_)
  have hl : lv_has ls 7 [(0, .ref m0), (1, .int (nI a)), (2, .int (nI b)), (3, .int (nI c9))] := hl
  have hs10 := hV.1.2
  have hp12 := hV.2.2.2.2.2.1.2.1
  have hf20 := hV.2.2.2.2.2.2.1
  have hd3 := hV.2.2.2.2.1.2
  refine lv_iload_n hx hb dX5_line_0 rfl (lv_at hl 1 rfl) ?_
  refine rn_cS (As := [.int (nI a)]) (rest := []) 1 hx hb hml hown hts hG (m_isNumber l ((nI a))) gX5_line_X5_isNumber rfl ⟨rfl, rfl⟩ (by decide +kernel) ⟨Nat.le_of_ble_eq_true rfl, Nat.le_of_ble_eq_true rfl⟩ trivial rfl hl.1 rfl (Nat.le_of_ble_eq_true rfl) ⟨by decide, by decide⟩ dX5_line_1 ?_
  refine W.eq (g2 := F0 m 4 ls [.int (rn_b (rn_in ((nI a)) 0 998))]) rfl ?_
  refine rn_top (y := .int 1) (congrArg Value.int (by rw [show rn_in ((nI a)) 0 998 = true from rn_rng_t (n := 998) ha0 (by omega)]; rfl)) ?_
  refine lv_if_eq (tgt := 29) hx hb dX5_line_4 (by decide) (fun c_4 => ?_) (fun c_4 => ?_)
  · exact absurd c_4 (by decide)
  · refine lv_iload_n hx hb dX5_line_7 rfl (lv_at hl 2 rfl) ?_
    refine rn_cS (As := [.int (nI b)]) (rest := []) 1 hx hb hml hown hts hG (m_isNumber l ((nI b))) gX5_line_X5_isNumber rfl ⟨rfl, rfl⟩ (by decide +kernel) ⟨Nat.le_of_ble_eq_true rfl, Nat.le_of_ble_eq_true rfl⟩ trivial rfl hl.1 rfl (Nat.le_of_ble_eq_true rfl) ⟨by decide, by decide⟩ dX5_line_8 ?_
    refine W.eq (g2 := F0 m 11 ls [.int (rn_b (rn_in ((nI b)) 0 998))]) rfl ?_
    refine rn_top (y := .int 1) (congrArg Value.int (by rw [show rn_in ((nI b)) 0 998 = true from rn_rng_t (n := 998) hb0 (by omega)]; rfl)) ?_
    refine lv_if_eq (tgt := 29) hx hb dX5_line_11 (by decide) (fun c_11 => ?_) (fun c_11 => ?_)
    · exact absurd c_11 (by decide)
    · refine lv_iload_n hx hb dX5_line_14 rfl (lv_at hl 3 rfl) ?_
      refine lv_iconst (v := 1) hx hb dX5_line_15 (by decide) ?_
      refine lv_sipush (v := 999) hx hb dX5_line_16 (by decide +kernel) ?_
      refine rn_cS (As := [.int (nI c9), .int 1, .int 999]) (rest := []) 3 hx hb hml hown hts hG (m_in l ((nI c9)) 1 999) gX5_line_X5_in rfl ⟨rfl, rfl⟩ (by decide +kernel) ⟨Nat.le_of_ble_eq_true rfl, Nat.le_of_ble_eq_true rfl⟩ trivial rfl hl.1 rfl (Nat.le_of_ble_eq_true rfl) ⟨by decide, by decide⟩ dX5_line_19 ?_
      refine W.eq (g2 := F0 m 22 ls [.int (rn_b (rn_in ((nI c9)) 1 999))]) rfl ?_
      refine rn_top (y := .int 1) (congrArg Value.int (by rw [show (rn_in ((nI c9)) 1 999) = true from decide_eq_true ⟨(nI_leI (a := 1) (by omega) (by omega)).mpr hc0.1, (nI_leI (b := 999) (by omega) (by omega)).mpr hc0.2⟩]; rfl)) ?_
      refine lv_if_eq (tgt := 29) hx hb dX5_line_22 (by decide) (fun c_22 => ?_) (fun c_22 => ?_)
      · exact absurd c_22 (by decide)
      · refine lv_iconst (v := 1) hx hb dX5_line_25 (by decide) ?_
        refine lv_goto (tgt := 30) hx hb dX5_line_26 (by decide) ?_
        refine lv_istore (lv' := [(4, .int 1), (0, .ref m0), (1, .int (nI a)), (2, .int (nI b)), (3, .int (nI c9))]) hx hb dX5_line_30 hl (by decide) rfl (fun ls hl => ?_)
        refine lv_iload hx hb dX5_line_32 (lv_at hl 0 rfl) ?_
        refine lv_if_eq (tgt := 59) hx hb dX5_line_34 (by decide) (fun c_34 => ?_) (fun c_34 => ?_)
        · exact absurd c_34 (by decide)
        · refine lv_iload_n hx hb dX5_line_37 rfl (lv_at hl 2 rfl) ?_
          refine lv_iload_n hx hb dX5_line_38 rfl (lv_at hl 4 rfl) ?_
          refine lv_iadd hx hb dX5_line_39 ?_
          refine rn_top (y := .int (nI (a + c9))) (congrArg Value.int (nI_add _ _)) ?_
          refine lv_sipush (v := 999) hx hb dX5_line_40 (by decide +kernel) ?_
          refine lv_icmp_gt (tgt := 59) hx hb dX5_line_43 (by decide) (fun c_43 => ?_) (fun c_43 => ?_)
          · exact absurd ((nI_ltI (a := 999) (by omega) (by omega)).mp c_43) (by omega)
          · refine lv_iload_n hx hb dX5_line_46 rfl (lv_at hl 3 rfl) ?_
            refine lv_iload_n hx hb dX5_line_47 rfl (lv_at hl 4 rfl) ?_
            refine lv_iadd hx hb dX5_line_48 ?_
            refine rn_top (y := .int (nI (b + c9))) (congrArg Value.int (nI_add _ _)) ?_
            refine lv_sipush (v := 999) hx hb dX5_line_49 (by decide +kernel) ?_
            refine lv_icmp_gt (tgt := 59) hx hb dX5_line_52 (by decide) (fun c_52 => ?_) (fun c_52 => ?_)
            · refine lv_iconst (v := 0) hx hb dX5_line_59 (by decide) ?_
              refine lv_istore (lv' := [(5, .int 0), (4, .int 1), (0, .ref m0), (1, .int (nI a)), (2, .int (nI b)), (3, .int (nI c9))]) hx hb dX5_line_60 hl (by decide) rfl (fun ls hl => ?_)
              refine lv_aload_n hx hb dX5_line_62 rfl (lv_at hl 2 rfl) ?_
              refine lv_iload hx hb dX5_line_63 (lv_at hl 0 rfl) ?_
              refine lv_if_ne (tgt := 72) hx hb dX5_line_65 (by decide) (fun c_65 => ?_) (fun c_65 => ?_)
              · exact absurd c_65 (by decide)
              · refine lv_iconst (v := 1) hx hb dX5_line_68 (by decide) ?_
                refine lv_goto (tgt := 85) hx hb dX5_line_69 (by decide) ?_
                refine rn_wV (As := [.int 1]) (rest := []) 1 hx hb hml hown hts hG hS (m_refused l 1) (fun x hx => by rw [show x = m0 from hx]; exact rn_mA_0) gX5_line_X5_refused rfl ⟨rfl, rfl⟩ (by decide +kernel) ⟨Nat.le_of_ble_eq_true rfl, Nat.le_of_ble_eq_true rfl⟩ hF hF.1 rfl rfl hl.1 rfl (Nat.le_of_ble_eq_true rfl) ⟨by decide, by decide⟩ dX5_line_85 (fun H locs hP1 hz hk hS => ?_)
                refine W.eq (g2 := F0 m 88 ls [.int (rn_b (decide (1 ≠ 0)))]) rfl ?_
                have hF := hP1
                refine rn_top (y := .int 1) (congrArg Value.int (rfl)) ?_
                refine lv_if_eq (tgt := 93) hx hb dX5_line_88 (by decide) (fun c_88 => ?_) (fun c_88 => ?_)
                · exact absurd c_88 (by decide)
                · refine lv_iconst (v := 0) hx hb dX5_line_91 (by decide) ?_
                  exact rn_Wiret hx hb hr rfl hlocks hS (by decide) (by decide) rfl ⟨_, hM, hF⟩ dX5_line_92
            · exact absurd ((nI_ltI (a := 999) (by omega) (by omega)).mpr (by omega)) c_52

set_option maxHeartbeats 4000000 in
set_option maxRecDepth 100000 in
theorem n_line_s (l : Launch) {D : va_G} {cI : ClassId} {m0 : Nat} {ma : Nat → Nat} {rf : Int32} {V : Nat → Nat → Int32} {σ : rn_St} (hV : rn_V σ) (hM : rn_Mr σ V) {a b c9 : Nat} (ha0 : a ≤ 998) (hb0 : b ≤ 998) (hc0 : 1 ≤ c9 ∧ c9 ≤ 999) (hfit : a + c9 ≤ 999) (hfit2 : b + c9 ≤ 999) (hfull : σ.sd.length = 3) (sz : Nat) : rn_W l yX5_line wsX5_line ({ frames := 4, cells := 0, slots := 0, locals := 96 } : Room) D [(cI, .int)] ((rn_MW D cI m0 ma rf (nI σ.sn) (nI σ.sd.length) (nI σ.pn) (nI σ.fn) σ.rc σ.la V)) [.ref m0, .int (nI a), .int (nI b), .int (nI c9)] (some (.int (0))) (rn_MP D cI m0 ma 2 σ) (rn_mA m0 ma) 0 0 sz := by
  refine rn_W.ofW (cc := cX5_line) (maxL := 7) (ret := (some .int)) (by decide) rfl (Nat.le_of_ble_eq_true rfl) (fun p e s m below meth c ls hx hb hr hml hts hown hlocks hin hsz hF hG hS hl => ?_)
  have hl : lv_has ls 7 [(0, .ref m0), (1, .int (nI a)), (2, .int (nI b)), (3, .int (nI c9))] := hl
  have hs10 := hV.1.2
  have hp12 := hV.2.2.2.2.2.1.2.1
  have hf20 := hV.2.2.2.2.2.2.1
  have hd3 := hV.2.2.2.2.1.2
  refine lv_iload_n hx hb dX5_line_0 rfl (lv_at hl 1 rfl) ?_
  refine rn_cS (As := [.int (nI a)]) (rest := []) 1 hx hb hml hown hts hG (m_isNumber l ((nI a))) gX5_line_X5_isNumber rfl ⟨rfl, rfl⟩ (by decide +kernel) ⟨Nat.le_of_ble_eq_true rfl, Nat.le_of_ble_eq_true rfl⟩ trivial rfl hl.1 rfl (Nat.le_of_ble_eq_true rfl) ⟨by decide, by decide⟩ dX5_line_1 ?_
  refine W.eq (g2 := F0 m 4 ls [.int (rn_b (rn_in ((nI a)) 0 998))]) rfl ?_
  refine rn_top (y := .int 1) (congrArg Value.int (by rw [show rn_in ((nI a)) 0 998 = true from rn_rng_t (n := 998) ha0 (by omega)]; rfl)) ?_
  refine lv_if_eq (tgt := 29) hx hb dX5_line_4 (by decide) (fun c_4 => ?_) (fun c_4 => ?_)
  · exact absurd c_4 (by decide)
  · refine lv_iload_n hx hb dX5_line_7 rfl (lv_at hl 2 rfl) ?_
    refine rn_cS (As := [.int (nI b)]) (rest := []) 1 hx hb hml hown hts hG (m_isNumber l ((nI b))) gX5_line_X5_isNumber rfl ⟨rfl, rfl⟩ (by decide +kernel) ⟨Nat.le_of_ble_eq_true rfl, Nat.le_of_ble_eq_true rfl⟩ trivial rfl hl.1 rfl (Nat.le_of_ble_eq_true rfl) ⟨by decide, by decide⟩ dX5_line_8 ?_
    refine W.eq (g2 := F0 m 11 ls [.int (rn_b (rn_in ((nI b)) 0 998))]) rfl ?_
    refine rn_top (y := .int 1) (congrArg Value.int (by rw [show rn_in ((nI b)) 0 998 = true from rn_rng_t (n := 998) hb0 (by omega)]; rfl)) ?_
    refine lv_if_eq (tgt := 29) hx hb dX5_line_11 (by decide) (fun c_11 => ?_) (fun c_11 => ?_)
    · exact absurd c_11 (by decide)
    · refine lv_iload_n hx hb dX5_line_14 rfl (lv_at hl 3 rfl) ?_
      refine lv_iconst (v := 1) hx hb dX5_line_15 (by decide) ?_
      refine lv_sipush (v := 999) hx hb dX5_line_16 (by decide +kernel) ?_
      refine rn_cS (As := [.int (nI c9), .int 1, .int 999]) (rest := []) 3 hx hb hml hown hts hG (m_in l ((nI c9)) 1 999) gX5_line_X5_in rfl ⟨rfl, rfl⟩ (by decide +kernel) ⟨Nat.le_of_ble_eq_true rfl, Nat.le_of_ble_eq_true rfl⟩ trivial rfl hl.1 rfl (Nat.le_of_ble_eq_true rfl) ⟨by decide, by decide⟩ dX5_line_19 ?_
      refine W.eq (g2 := F0 m 22 ls [.int (rn_b (rn_in ((nI c9)) 1 999))]) rfl ?_
      refine rn_top (y := .int 1) (congrArg Value.int (by rw [show (rn_in ((nI c9)) 1 999) = true from decide_eq_true ⟨(nI_leI (a := 1) (by omega) (by omega)).mpr hc0.1, (nI_leI (b := 999) (by omega) (by omega)).mpr hc0.2⟩]; rfl)) ?_
      refine lv_if_eq (tgt := 29) hx hb dX5_line_22 (by decide) (fun c_22 => ?_) (fun c_22 => ?_)
      · exact absurd c_22 (by decide)
      · refine lv_iconst (v := 1) hx hb dX5_line_25 (by decide) ?_
        refine lv_goto (tgt := 30) hx hb dX5_line_26 (by decide) ?_
        refine lv_istore (lv' := [(4, .int 1), (0, .ref m0), (1, .int (nI a)), (2, .int (nI b)), (3, .int (nI c9))]) hx hb dX5_line_30 hl (by decide) rfl (fun ls hl => ?_)
        refine lv_iload hx hb dX5_line_32 (lv_at hl 0 rfl) ?_
        refine lv_if_eq (tgt := 59) hx hb dX5_line_34 (by decide) (fun c_34 => ?_) (fun c_34 => ?_)
        · exact absurd c_34 (by decide)
        · refine lv_iload_n hx hb dX5_line_37 rfl (lv_at hl 2 rfl) ?_
          refine lv_iload_n hx hb dX5_line_38 rfl (lv_at hl 4 rfl) ?_
          refine lv_iadd hx hb dX5_line_39 ?_
          refine rn_top (y := .int (nI (a + c9))) (congrArg Value.int (nI_add _ _)) ?_
          refine lv_sipush (v := 999) hx hb dX5_line_40 (by decide +kernel) ?_
          refine lv_icmp_gt (tgt := 59) hx hb dX5_line_43 (by decide) (fun c_43 => ?_) (fun c_43 => ?_)
          · exact absurd ((nI_ltI (a := 999) (by omega) (by omega)).mp c_43) (by omega)
          · refine lv_iload_n hx hb dX5_line_46 rfl (lv_at hl 3 rfl) ?_
            refine lv_iload_n hx hb dX5_line_47 rfl (lv_at hl 4 rfl) ?_
            refine lv_iadd hx hb dX5_line_48 ?_
            refine rn_top (y := .int (nI (b + c9))) (congrArg Value.int (nI_add _ _)) ?_
            refine lv_sipush (v := 999) hx hb dX5_line_49 (by decide +kernel) ?_
            refine lv_icmp_gt (tgt := 59) hx hb dX5_line_52 (by decide) (fun c_52 => ?_) (fun c_52 => ?_)
            · exact absurd ((nI_ltI (a := 999) (by omega) (by omega)).mp c_52) (by omega)
            · refine lv_iconst (v := 1) hx hb dX5_line_55 (by decide) ?_
              refine lv_goto (tgt := 60) hx hb dX5_line_56 (by decide) ?_
              refine lv_istore (lv' := [(5, .int 1), (4, .int 1), (0, .ref m0), (1, .int (nI a)), (2, .int (nI b)), (3, .int (nI c9))]) hx hb dX5_line_60 hl (by decide) rfl (fun ls hl => ?_)
              refine lv_aload_n hx hb dX5_line_62 rfl (lv_at hl 2 rfl) ?_
              refine lv_iload hx hb dX5_line_63 (lv_at hl 0 rfl) ?_
              refine lv_if_ne (tgt := 72) hx hb dX5_line_65 (by decide) (fun c_65 => ?_) (fun c_65 => ?_)
              · refine lv_aload_n hx hb dX5_line_72 rfl (lv_at hl 2 rfl) ?_
                refine rn_get (ci := 5) (v := .int (nI σ.sd.length)) (C := RX5) (T := TX5) (N := 18) hx hb hts iw_X5_line_5 hown hG hF.1 rfl 8 (by decide) fw_X5_line_76 rfl dX5_line_73 ?_
                refine lv_iconst (v := 3) hx hb dX5_line_76 (by decide) ?_
                refine lv_icmp_ne (tgt := 84) hx hb dX5_line_77 (by decide) (fun c_77 => ?_) (fun c_77 => ?_)
                · exact absurd (by rw [hfull]; rfl) c_77
                · refine lv_iconst (v := 2) hx hb dX5_line_80 (by decide) ?_
                  refine lv_goto (tgt := 85) hx hb dX5_line_81 (by decide) ?_
                  refine rn_wV (As := [.int 2]) (rest := []) 1 hx hb hml hown hts hG hS (m_refused l 2) (fun x hx => by rw [show x = m0 from hx]; exact rn_mA_0) gX5_line_X5_refused rfl ⟨rfl, rfl⟩ (by decide +kernel) ⟨Nat.le_of_ble_eq_true rfl, Nat.le_of_ble_eq_true rfl⟩ hF hF.1 rfl rfl hl.1 rfl (Nat.le_of_ble_eq_true rfl) ⟨by decide, by decide⟩ dX5_line_85 (fun H locs hP1 hz hk hS => ?_)
                  refine W.eq (g2 := F0 m 88 ls [.int (rn_b (decide (2 ≠ 0)))]) rfl ?_
                  have hF := hP1
                  refine rn_top (y := .int 1) (congrArg Value.int (rfl)) ?_
                  refine lv_if_eq (tgt := 93) hx hb dX5_line_88 (by decide) (fun c_88 => ?_) (fun c_88 => ?_)
                  · exact absurd c_88 (by decide)
                  · refine lv_iconst (v := 0) hx hb dX5_line_91 (by decide) ?_
                    exact rn_Wiret hx hb hr rfl hlocks hS (by decide) (by decide) rfl ⟨_, hM, hF⟩ dX5_line_92
              · exact absurd c_65 (by decide)

set_option maxHeartbeats 4000000 in
set_option maxRecDepth 100000 in
theorem n_rooms (l : Launch) {D : va_G} {cI : ClassId} {m0 : Nat} {ma : Nat → Nat} {rf : Int32} {V : Nat → Nat → Int32} {σ : rn_St} (hV : rn_V σ) (hM : rn_Mr σ V)  (sz : Nat) : rn_W l yX5_rooms wsX5_rooms ({ frames := 4, cells := 0, slots := 0, locals := 96 } : Room) D [(cI, .int)] ((rn_MW D cI m0 ma rf (nI σ.sn) (nI σ.sd.length) (nI σ.pn) (nI σ.fn) σ.rc σ.la V)) [.ref m0] (some (.int (nI σ.sn))) (rn_MP D cI m0 ma 0 σ) (rn_mA m0 ma) 0 0 sz := by
  refine rn_W.ofW (cc := cX5_rooms) (maxL := 1) (ret := (some .int)) (by decide) rfl (Nat.le_of_ble_eq_true rfl) (fun p e s m below meth c ls hx hb hr hml hts hown hlocks hin hsz hF hG hS hl => ?_)
  have hl : lv_has ls 1 [(0, .ref m0)] := hl
  have hs10 := hV.1.2
  have hp12 := hV.2.2.2.2.2.1.2.1
  have hf20 := hV.2.2.2.2.2.2.1
  have hd3 := hV.2.2.2.2.1.2
  refine lv_aload_n hx hb dX5_rooms_0 rfl (lv_at hl 0 rfl) ?_
  refine lv_aload_n hx hb dX5_rooms_1 rfl (lv_at hl 0 rfl) ?_
  refine rn_get (ci := 5) (v := .int (nI σ.sn)) (C := RX5) (T := TX5) (N := 18) hx hb hts iw_X5_rooms_5 hown hG hF.1 rfl 1 (by decide) fw_X5_rooms_7 rfl dX5_rooms_2 ?_
  refine rn_wV (As := [.int (nI σ.sn)]) (rest := []) 1 hx hb hml hown hts hG hS (m_fine l ((nI σ.sn))) (fun x hx => by rw [show x = m0 from hx]; exact rn_mA_0) gX5_rooms_X5_fine rfl ⟨rfl, rfl⟩ (by decide +kernel) ⟨Nat.le_of_ble_eq_true rfl, Nat.le_of_ble_eq_true rfl⟩ hF hF.1 rfl rfl hl.1 rfl (Nat.le_of_ble_eq_true rfl) ⟨by decide, by decide⟩ dX5_rooms_5 (fun H locs hP1 hz hk hS => ?_)
  refine W.eq (g2 := F0 m 8 ls [.int (nI σ.sn)]) rfl ?_
  have hF := hP1
  exact rn_Wiret hx hb hr rfl hlocks hS (by decide) (by decide) rfl ⟨_, hM, hF⟩ dX5_rooms_8

set_option maxHeartbeats 4000000 in
set_option maxRecDepth 100000 in
theorem n_processes (l : Launch) {D : va_G} {cI : ClassId} {m0 : Nat} {ma : Nat → Nat} {rf : Int32} {V : Nat → Nat → Int32} {σ : rn_St} (hV : rn_V σ) (hM : rn_Mr σ V)  (sz : Nat) : rn_W l yX5_processes wsX5_processes ({ frames := 4, cells := 0, slots := 0, locals := 96 } : Room) D [(cI, .int)] ((rn_MW D cI m0 ma rf (nI σ.sn) (nI σ.sd.length) (nI σ.pn) (nI σ.fn) σ.rc σ.la V)) [.ref m0] (some (.int (nI σ.pn))) (rn_MP D cI m0 ma 0 σ) (rn_mA m0 ma) 0 0 sz := by
  refine rn_W.ofW (cc := cX5_processes) (maxL := 1) (ret := (some .int)) (by decide) rfl (Nat.le_of_ble_eq_true rfl) (fun p e s m below meth c ls hx hb hr hml hts hown hlocks hin hsz hF hG hS hl => ?_)
  have hl : lv_has ls 1 [(0, .ref m0)] := hl
  have hs10 := hV.1.2
  have hp12 := hV.2.2.2.2.2.1.2.1
  have hf20 := hV.2.2.2.2.2.2.1
  have hd3 := hV.2.2.2.2.1.2
  refine lv_aload_n hx hb dX5_processes_0 rfl (lv_at hl 0 rfl) ?_
  refine lv_aload_n hx hb dX5_processes_1 rfl (lv_at hl 0 rfl) ?_
  refine rn_get (ci := 5) (v := .int (nI σ.pn)) (C := RX5) (T := TX5) (N := 18) hx hb hts iw_X5_processes_5 hown hG hF.1 rfl 9 (by decide) fw_X5_processes_32 rfl dX5_processes_2 ?_
  refine rn_wV (As := [.int (nI σ.pn)]) (rest := []) 1 hx hb hml hown hts hG hS (m_fine l ((nI σ.pn))) (fun x hx => by rw [show x = m0 from hx]; exact rn_mA_0) gX5_processes_X5_fine rfl ⟨rfl, rfl⟩ (by decide +kernel) ⟨Nat.le_of_ble_eq_true rfl, Nat.le_of_ble_eq_true rfl⟩ hF hF.1 rfl rfl hl.1 rfl (Nat.le_of_ble_eq_true rfl) ⟨by decide, by decide⟩ dX5_processes_5 (fun H locs hP1 hz hk hS => ?_)
  refine W.eq (g2 := F0 m 8 ls [.int (nI σ.pn)]) rfl ?_
  have hF := hP1
  exact rn_Wiret hx hb hr rfl hlocks hS (by decide) (by decide) rfl ⟨_, hM, hF⟩ dX5_processes_8

set_option maxHeartbeats 4000000 in
set_option maxRecDepth 100000 in
theorem n_files (l : Launch) {D : va_G} {cI : ClassId} {m0 : Nat} {ma : Nat → Nat} {rf : Int32} {V : Nat → Nat → Int32} {σ : rn_St} (hV : rn_V σ) (hM : rn_Mr σ V)  (sz : Nat) : rn_W l yX5_files wsX5_files ({ frames := 4, cells := 0, slots := 0, locals := 96 } : Room) D [(cI, .int)] ((rn_MW D cI m0 ma rf (nI σ.sn) (nI σ.sd.length) (nI σ.pn) (nI σ.fn) σ.rc σ.la V)) [.ref m0] (some (.int (nI σ.fn))) (rn_MP D cI m0 ma 0 σ) (rn_mA m0 ma) 0 0 sz := by
  refine rn_W.ofW (cc := cX5_files) (maxL := 1) (ret := (some .int)) (by decide) rfl (Nat.le_of_ble_eq_true rfl) (fun p e s m below meth c ls hx hb hr hml hts hown hlocks hin hsz hF hG hS hl => ?_)
  have hl : lv_has ls 1 [(0, .ref m0)] := hl
  have hs10 := hV.1.2
  have hp12 := hV.2.2.2.2.2.1.2.1
  have hf20 := hV.2.2.2.2.2.2.1
  have hd3 := hV.2.2.2.2.1.2
  refine lv_aload_n hx hb dX5_files_0 rfl (lv_at hl 0 rfl) ?_
  refine lv_aload_n hx hb dX5_files_1 rfl (lv_at hl 0 rfl) ?_
  refine rn_get (ci := 5) (v := .int (nI σ.fn)) (C := RX5) (T := TX5) (N := 18) hx hb hts iw_X5_files_5 hown hG hF.1 rfl 13 (by decide) fw_X5_files_63 rfl dX5_files_2 ?_
  refine rn_wV (As := [.int (nI σ.fn)]) (rest := []) 1 hx hb hml hown hts hG hS (m_fine l ((nI σ.fn))) (fun x hx => by rw [show x = m0 from hx]; exact rn_mA_0) gX5_files_X5_fine rfl ⟨rfl, rfl⟩ (by decide +kernel) ⟨Nat.le_of_ble_eq_true rfl, Nat.le_of_ble_eq_true rfl⟩ hF hF.1 rfl rfl hl.1 rfl (Nat.le_of_ble_eq_true rfl) ⟨by decide, by decide⟩ dX5_files_5 (fun H locs hP1 hz hk hS => ?_)
  refine W.eq (g2 := F0 m 8 ls [.int (nI σ.fn)]) rfl ?_
  have hF := hP1
  exact rn_Wiret hx hb hr rfl hlocks hS (by decide) (by decide) rfl ⟨_, hM, hF⟩ dX5_files_8

set_option maxHeartbeats 4000000 in
set_option maxRecDepth 100000 in
theorem n_refusals (l : Launch) {D : va_G} {cI : ClassId} {m0 : Nat} {ma : Nat → Nat} {rf : Int32} {V : Nat → Nat → Int32} {σ : rn_St} (hV : rn_V σ) (hM : rn_Mr σ V)  (sz : Nat) : rn_W l yX5_refusals wsX5_refusals ({ frames := 4, cells := 0, slots := 0, locals := 96 } : Room) D [(cI, .int)] ((rn_MW D cI m0 ma rf (nI σ.sn) (nI σ.sd.length) (nI σ.pn) (nI σ.fn) σ.rc σ.la V)) [.ref m0] (some (.int (σ.rc))) (rn_MP D cI m0 ma 0 σ) (rn_mA m0 ma) 0 0 sz := by
  refine rn_W.ofW (cc := cX5_refusals) (maxL := 1) (ret := (some .int)) (by decide) rfl (Nat.le_of_ble_eq_true rfl) (fun p e s m below meth c ls hx hb hr hml hts hown hlocks hin hsz hF hG hS hl => ?_)
  have hl : lv_has ls 1 [(0, .ref m0)] := hl
  have hs10 := hV.1.2
  have hp12 := hV.2.2.2.2.2.1.2.1
  have hf20 := hV.2.2.2.2.2.2.1
  have hd3 := hV.2.2.2.2.1.2
  refine lv_aload_n hx hb dX5_refusals_0 rfl (lv_at hl 0 rfl) ?_
  refine lv_aload_n hx hb dX5_refusals_1 rfl (lv_at hl 0 rfl) ?_
  refine rn_get (ci := 5) (v := .int σ.rc) (C := RX5) (T := TX5) (N := 18) hx hb hts iw_X5_refusals_5 hown hG hF.1 rfl 16 (by decide) fw_X5_refusals_53 rfl dX5_refusals_2 ?_
  refine rn_wV (As := [.int σ.rc]) (rest := []) 1 hx hb hml hown hts hG hS (m_fine l σ.rc) (fun x hx => by rw [show x = m0 from hx]; exact rn_mA_0) gX5_refusals_X5_fine rfl ⟨rfl, rfl⟩ (by decide +kernel) ⟨Nat.le_of_ble_eq_true rfl, Nat.le_of_ble_eq_true rfl⟩ hF hF.1 rfl rfl hl.1 rfl (Nat.le_of_ble_eq_true rfl) ⟨by decide, by decide⟩ dX5_refusals_5 (fun H locs hP1 hz hk hS => ?_)
  refine W.eq (g2 := F0 m 8 ls [.int σ.rc]) rfl ?_
  have hF := hP1
  exact rn_Wiret hx hb hr rfl hlocks hS (by decide) (by decide) rfl ⟨_, hM, hF⟩ dX5_refusals_8

set_option maxHeartbeats 4000000 in
set_option maxRecDepth 100000 in
theorem n_lastRefusal (l : Launch) {D : va_G} {cI : ClassId} {m0 : Nat} {ma : Nat → Nat} {rf : Int32} {V : Nat → Nat → Int32} {σ : rn_St} (hV : rn_V σ) (hM : rn_Mr σ V)  (sz : Nat) : rn_W l yX5_lastRefusal wsX5_lastRefusal ({ frames := 4, cells := 0, slots := 0, locals := 96 } : Room) D [(cI, .int)] ((rn_MW D cI m0 ma rf (nI σ.sn) (nI σ.sd.length) (nI σ.pn) (nI σ.fn) σ.rc σ.la V)) [.ref m0] (some (.int (σ.la))) (rn_MP D cI m0 ma 0 σ) (rn_mA m0 ma) 0 0 sz := by
  refine rn_W.ofW (cc := cX5_lastRefusal) (maxL := 1) (ret := (some .int)) (by decide) rfl (Nat.le_of_ble_eq_true rfl) (fun p e s m below meth c ls hx hb hr hml hts hown hlocks hin hsz hF hG hS hl => ?_)
  have hl : lv_has ls 1 [(0, .ref m0)] := hl
  have hs10 := hV.1.2
  have hp12 := hV.2.2.2.2.2.1.2.1
  have hf20 := hV.2.2.2.2.2.2.1
  have hd3 := hV.2.2.2.2.1.2
  refine lv_aload_n hx hb dX5_lastRefusal_0 rfl (lv_at hl 0 rfl) ?_
  refine lv_aload_n hx hb dX5_lastRefusal_1 rfl (lv_at hl 0 rfl) ?_
  refine rn_get (ci := 5) (v := .int σ.la) (C := RX5) (T := TX5) (N := 18) hx hb hts iw_X5_lastRefusal_5 hown hG hF.1 rfl 17 (by decide) fw_X5_lastRefusal_56 rfl dX5_lastRefusal_2 ?_
  refine rn_wV (As := [.int σ.la]) (rest := []) 1 hx hb hml hown hts hG hS (m_fine l σ.la) (fun x hx => by rw [show x = m0 from hx]; exact rn_mA_0) gX5_lastRefusal_X5_fine rfl ⟨rfl, rfl⟩ (by decide +kernel) ⟨Nat.le_of_ble_eq_true rfl, Nat.le_of_ble_eq_true rfl⟩ hF hF.1 rfl rfl hl.1 rfl (Nat.le_of_ble_eq_true rfl) ⟨by decide, by decide⟩ dX5_lastRefusal_5 (fun H locs hP1 hz hk hS => ?_)
  refine W.eq (g2 := F0 m 8 ls [.int σ.la]) rfl ?_
  have hF := hP1
  exact rn_Wiret hx hb hr rfl hlocks hS (by decide) (by decide) rfl ⟨_, hM, hF⟩ dX5_lastRefusal_8

set_option maxHeartbeats 4000000 in
set_option maxRecDepth 100000 in
theorem n_outerOf (l : Launch) {D : va_G} {cI : ClassId} {m0 : Nat} {ma : Nat → Nat} {rf : Int32} {V : Nat → Nat → Int32} {σ : rn_St} (hV : rn_V σ) (hM : rn_Mr σ V) {i : Nat} (hi0 : i < σ.sn) (sz : Nat) : rn_W l yX5_outerOf wsX5_outerOf ({ frames := 4, cells := 0, slots := 0, locals := 96 } : Room) D [(cI, .int)] ((rn_MW D cI m0 ma rf (nI σ.sn) (nI σ.sd.length) (nI σ.pn) (nI σ.fn) σ.rc σ.la V)) [.ref m0, .int (nI i)] (some (.int (rn_enc (rn_nx σ i)))) (rn_MP D cI m0 ma 0 σ) (rn_mA m0 ma) 0 0 sz := by
  refine rn_W.ofW (cc := cX5_outerOf) (maxL := 2) (ret := (some .int)) (by decide) rfl (Nat.le_of_ble_eq_true rfl) (fun p e s m below meth c ls hx hb hr hml hts hown hlocks hin hsz hF hG hS hl => ?_)
  have hl : lv_has ls 2 [(0, .ref m0), (1, .int (nI i))] := hl
  have hs10 := hV.1.2
  have hp12 := hV.2.2.2.2.2.1.2.1
  have hf20 := hV.2.2.2.2.2.2.1
  have hd3 := hV.2.2.2.2.1.2
  refine lv_aload_n hx hb dX5_outerOf_0 rfl (lv_at hl 0 rfl) ?_
  refine lv_aload_n hx hb dX5_outerOf_1 rfl (lv_at hl 0 rfl) ?_
  refine lv_iload_n hx hb dX5_outerOf_2 rfl (lv_at hl 1 rfl) ?_
  refine rn_cV (As := [.int (nI i)]) (rest := [.ref m0]) 1 hx hb hml hown hts hG (m_isRoom l ((nI i))) gX5_outerOf_X5_isRoom rfl ⟨rfl, rfl⟩ (by decide +kernel) ⟨Nat.le_of_ble_eq_true rfl, Nat.le_of_ble_eq_true rfl⟩ hF hF.1 rfl rfl hl.1 rfl (Nat.le_of_ble_eq_true rfl) ⟨by decide, by decide⟩ dX5_outerOf_3 ?_
  refine W.eq (g2 := F0 m 6 ls [.int (rn_b (rn_in ((nI i)) 0 (nI σ.sn - 1))), .ref m0]) rfl ?_
  refine rn_top (y := .int 1) (congrArg Value.int (by rw [rn_ok_t (by omega) hi0]; rfl)) ?_
  refine lv_if_eq (tgt := 13) hx hb dX5_outerOf_6 (by decide) (fun c_6 => ?_) (fun c_6 => ?_)
  · exact absurd c_6 (by decide)
  · refine lv_iconst (v := 0) hx hb dX5_outerOf_9 (by decide) ?_
    refine lv_goto (tgt := 14) hx hb dX5_outerOf_10 (by decide) ?_
    refine rn_wV (As := [.int 0]) (rest := []) 1 hx hb hml hown hts hG hS (m_refused l 0) (fun x hx => by rw [show x = m0 from hx]; exact rn_mA_0) gX5_outerOf_X5_refused rfl ⟨rfl, rfl⟩ (by decide +kernel) ⟨Nat.le_of_ble_eq_true rfl, Nat.le_of_ble_eq_true rfl⟩ hF hF.1 rfl rfl hl.1 rfl (Nat.le_of_ble_eq_true rfl) ⟨by decide, by decide⟩ dX5_outerOf_14 (fun H locs hP1 hz hk hS => ?_)
    refine W.eq (g2 := F0 m 17 ls [.int (rn_b (decide (0 ≠ 0)))]) rfl ?_
    have hF := hP1
    refine rn_top (y := .int 0) (congrArg Value.int (rfl)) ?_
    refine lv_if_eq (tgt := 24) hx hb dX5_outerOf_17 (by decide) (fun c_17 => ?_) (fun c_17 => ?_)
    · refine lv_aload_n hx hb dX5_outerOf_24 rfl (lv_at hl 0 rfl) ?_
      refine rn_get (ci := 5) (v := .ref (ma 0)) (C := RX5) (T := TX5) (N := 18) hx hb hts iw_X5_outerOf_5 hown hG hF.1 rfl 2 (by decide) fw_X5_outerOf_13 rfl dX5_outerOf_25 ?_
      refine lv_iload_n hx hb dX5_outerOf_28 rfl (lv_at hl 1 rfl) ?_
      refine rn_iald (j := i) hx hb hG (show va_at D vwCl (ma 0, .inl (cI, 10, .inl (V 0))) _ from hF.2.1 0 (by decide)) 0 rfl (by omega) (by decide) dX5_outerOf_29 ?_
      refine rn_top (y := .int (rn_enc (rn_nx σ i))) (congrArg Value.int (hM.1 i hi0)) ?_
      exact rn_Wiret hx hb hr rfl hlocks hS (by decide) (by decide) rfl ⟨_, hM, hF⟩ dX5_outerOf_30
    · exact absurd c_17 (by decide)

set_option maxHeartbeats 4000000 in
set_option maxRecDepth 100000 in
theorem n_leadsTo (l : Launch) {D : va_G} {cI : ClassId} {m0 : Nat} {ma : Nat → Nat} {rf : Int32} {V : Nat → Nat → Int32} {σ : rn_St} (hV : rn_V σ) (hM : rn_Mr σ V) {i x : Nat} (hi0 : i < σ.sn) (hx0 : x ≤ 998) (sz : Nat) : rn_W l yX5_leadsTo wsX5_leadsTo ({ frames := 4, cells := 0, slots := 0, locals := 96 } : Room) D [(cI, .int)] ((rn_MW D cI m0 ma rf (nI σ.sn) (nI σ.sd.length) (nI σ.pn) (nI σ.fn) σ.rc σ.la V)) [.ref m0, .int (nI i), .int (nI x)] (some (.int (rn_enc (rn_lead σ i x)))) (rn_MP D cI m0 ma 0 σ) (rn_mA m0 ma) 0 0 sz := by
  refine rn_W.ofW (cc := cX5_leadsTo) (maxL := 3) (ret := (some .int)) (by decide) rfl (Nat.le_of_ble_eq_true rfl) (fun p e s m below meth c ls hx hb hr hml hts hown hlocks hin hsz hF hG hS hl => ?_)
  have hl : lv_has ls 3 [(0, .ref m0), (1, .int (nI i)), (2, .int (nI x))] := hl
  have hs10 := hV.1.2
  have hp12 := hV.2.2.2.2.2.1.2.1
  have hf20 := hV.2.2.2.2.2.2.1
  have hd3 := hV.2.2.2.2.1.2
  refine lv_aload_n hx hb dX5_leadsTo_0 rfl (lv_at hl 0 rfl) ?_
  refine lv_iload_n hx hb dX5_leadsTo_1 rfl (lv_at hl 1 rfl) ?_
  refine lv_iload_n hx hb dX5_leadsTo_2 rfl (lv_at hl 2 rfl) ?_
  refine rn_wV (As := [.int (nI i), .int (nI x)]) (rest := []) 2 hx hb hml hown hts hG hS (q_noNumber_o l hV hM hi0 hx0 _) (fun x hx => hx) gX5_leadsTo_X5_noNumber rfl ⟨rfl, rfl⟩ (by decide +kernel) ⟨Nat.le_of_ble_eq_true rfl, Nat.le_of_ble_eq_true rfl⟩ hF hF.1 rfl rfl hl.1 rfl (Nat.le_of_ble_eq_true rfl) ⟨by decide, by decide⟩ dX5_leadsTo_3 (fun H locs hP1 hz hk hS => ?_)
  refine W.eq (g2 := F0 m 6 ls [.int 0]) rfl ?_
  have hF := hP1
  refine lv_if_eq (tgt := 13) hx hb dX5_leadsTo_6 (by decide) (fun c_6 => ?_) (fun c_6 => ?_)
  · refine lv_aload_n hx hb dX5_leadsTo_13 rfl (lv_at hl 0 rfl) ?_
    refine lv_iload_n hx hb dX5_leadsTo_14 rfl (lv_at hl 1 rfl) ?_
    refine lv_iload_n hx hb dX5_leadsTo_15 rfl (lv_at hl 2 rfl) ?_
    refine rn_cV (As := [.int (nI i), .int (nI x)]) (rest := []) 2 hx hb hml hown hts hG (m_led l hV hM hi0 (x := x) hx0) gX5_leadsTo_X5_led rfl ⟨rfl, rfl⟩ (by decide +kernel) ⟨Nat.le_of_ble_eq_true rfl, Nat.le_of_ble_eq_true rfl⟩ hF hF.1 rfl rfl hl.1 rfl (Nat.le_of_ble_eq_true rfl) ⟨by decide, by decide⟩ dX5_leadsTo_16 ?_
    refine W.eq (g2 := F0 m 19 ls [.int (rn_enc (rn_lead σ i x))]) rfl ?_
    exact rn_Wiret hx hb hr rfl hlocks hS (by decide) (by decide) rfl ⟨_, hM, hF⟩ dX5_leadsTo_19
  · exact absurd c_6 (by decide)

set_option maxHeartbeats 4000000 in
set_option maxRecDepth 100000 in
theorem n_seenAs (l : Launch) {D : va_G} {cI : ClassId} {m0 : Nat} {ma : Nat → Nat} {rf : Int32} {V : Nat → Nat → Int32} {σ : rn_St} (hV : rn_V σ) (hM : rn_Mr σ V) {i x : Nat} (hi0 : i < σ.sn) (hx0 : x ≤ 998) (sz : Nat) : rn_W l yX5_seenAs wsX5_seenAs ({ frames := 4, cells := 0, slots := 0, locals := 96 } : Room) D [(cI, .int)] ((rn_MW D cI m0 ma rf (nI σ.sn) (nI σ.sd.length) (nI σ.pn) (nI σ.fn) σ.rc σ.la V)) [.ref m0, .int (nI i), .int (nI x)] (some (.int (nI (rn_see σ i x)))) (rn_MP D cI m0 ma 0 σ) (rn_mA m0 ma) 0 0 sz := by
  refine rn_W.ofW (cc := cX5_seenAs) (maxL := 3) (ret := (some .int)) (by decide) rfl (Nat.le_of_ble_eq_true rfl) (fun p e s m below meth c ls hx hb hr hml hts hown hlocks hin hsz hF hG hS hl => ?_)
  have hl : lv_has ls 3 [(0, .ref m0), (1, .int (nI i)), (2, .int (nI x))] := hl
  have hs10 := hV.1.2
  have hp12 := hV.2.2.2.2.2.1.2.1
  have hf20 := hV.2.2.2.2.2.2.1
  have hd3 := hV.2.2.2.2.1.2
  refine lv_aload_n hx hb dX5_seenAs_0 rfl (lv_at hl 0 rfl) ?_
  refine lv_iload_n hx hb dX5_seenAs_1 rfl (lv_at hl 1 rfl) ?_
  refine lv_iload_n hx hb dX5_seenAs_2 rfl (lv_at hl 2 rfl) ?_
  refine rn_wV (As := [.int (nI i), .int (nI x)]) (rest := []) 2 hx hb hml hown hts hG hS (q_noNumber_o l hV hM hi0 hx0 _) (fun x hx => hx) gX5_seenAs_X5_noNumber rfl ⟨rfl, rfl⟩ (by decide +kernel) ⟨Nat.le_of_ble_eq_true rfl, Nat.le_of_ble_eq_true rfl⟩ hF hF.1 rfl rfl hl.1 rfl (Nat.le_of_ble_eq_true rfl) ⟨by decide, by decide⟩ dX5_seenAs_3 (fun H locs hP1 hz hk hS => ?_)
  refine W.eq (g2 := F0 m 6 ls [.int 0]) rfl ?_
  have hF := hP1
  refine lv_if_eq (tgt := 13) hx hb dX5_seenAs_6 (by decide) (fun c_6 => ?_) (fun c_6 => ?_)
  · refine lv_aload_n hx hb dX5_seenAs_13 rfl (lv_at hl 0 rfl) ?_
    refine lv_iload_n hx hb dX5_seenAs_14 rfl (lv_at hl 1 rfl) ?_
    refine lv_iload_n hx hb dX5_seenAs_15 rfl (lv_at hl 2 rfl) ?_
    refine rn_cV (As := [.int (nI i), .int (nI x)]) (rest := []) 2 hx hb hml hown hts hG (m_seen l hV hM hi0 (y := x) hx0) gX5_seenAs_X5_seen rfl ⟨rfl, rfl⟩ (by decide +kernel) ⟨Nat.le_of_ble_eq_true rfl, Nat.le_of_ble_eq_true rfl⟩ hF hF.1 rfl rfl hl.1 rfl (Nat.le_of_ble_eq_true rfl) ⟨by decide, by decide⟩ dX5_seenAs_16 ?_
    refine W.eq (g2 := F0 m 19 ls [.int (nI (rn_see σ i x))]) rfl ?_
    exact rn_Wiret hx hb hr rfl hlocks hS (by decide) (by decide) rfl ⟨_, hM, hF⟩ dX5_seenAs_19
  · exact absurd c_6 (by decide)

set_option maxHeartbeats 4000000 in
set_option maxRecDepth 100000 in
theorem n_seenByLeading (l : Launch) {D : va_G} {cI : ClassId} {m0 : Nat} {ma : Nat → Nat} {rf : Int32} {V : Nat → Nat → Int32} {σ : rn_St} (hV : rn_V σ) (hM : rn_Mr σ V) {i x : Nat} (hi0 : i < σ.sn) (hx0 : x ≤ 998) (sz : Nat) : rn_W l yX5_seenByLeading wsX5_seenByLeading ({ frames := 5, cells := 0, slots := 0, locals := 118 } : Room) D [(cI, .int)] ((rn_MW D cI m0 ma rf (nI σ.sn) (nI σ.sd.length) (nI σ.pn) (nI σ.fn) σ.rc σ.la V)) [.ref m0, .int (nI i), .int (nI x)] (some (.int (nI (rn_see σ i x)))) (rn_MP D cI m0 ma 0 σ) (rn_mA m0 ma) 0 0 sz := by
  refine rn_W.ofW (cc := cX5_seenByLeading) (maxL := 3) (ret := (some .int)) (by decide) rfl (Nat.le_of_ble_eq_true rfl) (fun p e s m below meth c ls hx hb hr hml hts hown hlocks hin hsz hF hG hS hl => ?_)
  have hl : lv_has ls 3 [(0, .ref m0), (1, .int (nI i)), (2, .int (nI x))] := hl
  have hs10 := hV.1.2
  have hp12 := hV.2.2.2.2.2.1.2.1
  have hf20 := hV.2.2.2.2.2.2.1
  have hd3 := hV.2.2.2.2.1.2
  refine lv_aload_n hx hb dX5_seenByLeading_0 rfl (lv_at hl 0 rfl) ?_
  refine lv_iload_n hx hb dX5_seenByLeading_1 rfl (lv_at hl 1 rfl) ?_
  refine lv_iload_n hx hb dX5_seenByLeading_2 rfl (lv_at hl 2 rfl) ?_
  refine rn_wV (As := [.int (nI i), .int (nI x)]) (rest := []) 2 hx hb hml hown hts hG hS (n_seenAs l hV hM hi0 hx0 _) (fun x hx => hx) gX5_seenByLeading_X5_seenAs rfl ⟨rfl, rfl⟩ (by decide +kernel) ⟨Nat.le_of_ble_eq_true rfl, Nat.le_of_ble_eq_true rfl⟩ hF hF.1 rfl rfl hl.1 rfl (Nat.le_of_ble_eq_true rfl) ⟨by decide, by decide⟩ dX5_seenByLeading_3 (fun H locs hP1 hz hk hS => ?_)
  refine W.eq (g2 := F0 m 6 ls [.int (nI (rn_see σ i x))]) rfl ?_
  exact rn_Wiret hx hb hr rfl hlocks hS (by decide) (by decide) rfl hP1 dX5_seenByLeading_6

set_option maxHeartbeats 4000000 in
set_option maxRecDepth 100000 in
theorem n_roomOf (l : Launch) {D : va_G} {cI : ClassId} {m0 : Nat} {ma : Nat → Nat} {rf : Int32} {V : Nat → Nat → Int32} {σ : rn_St} (hV : rn_V σ) (hM : rn_Mr σ V) {j : Nat} (hj0 : j < σ.pn) (sz : Nat) : rn_W l yX5_roomOf wsX5_roomOf ({ frames := 4, cells := 0, slots := 0, locals := 96 } : Room) D [(cI, .int)] ((rn_MW D cI m0 ma rf (nI σ.sn) (nI σ.sd.length) (nI σ.pn) (nI σ.fn) σ.rc σ.la V)) [.ref m0, .int (nI j)] (some (.int (nI (σ.pl j)))) (rn_MP D cI m0 ma 0 σ) (rn_mA m0 ma) 0 0 sz := by
  refine rn_W.ofW (cc := cX5_roomOf) (maxL := 2) (ret := (some .int)) (by decide) rfl (Nat.le_of_ble_eq_true rfl) (fun p e s m below meth c ls hx hb hr hml hts hown hlocks hin hsz hF hG hS hl => ?_)
  have hl : lv_has ls 2 [(0, .ref m0), (1, .int (nI j))] := hl
  have hs10 := hV.1.2
  have hp12 := hV.2.2.2.2.2.1.2.1
  have hf20 := hV.2.2.2.2.2.2.1
  have hd3 := hV.2.2.2.2.1.2
  refine lv_aload_n hx hb dX5_roomOf_0 rfl (lv_at hl 0 rfl) ?_
  refine lv_iload_n hx hb dX5_roomOf_1 rfl (lv_at hl 1 rfl) ?_
  refine rn_wV (As := [.int (nI j)]) (rest := []) 1 hx hb hml hown hts hG hS (q_noProcess_o l hV hM hj0 _) (fun x hx => hx) gX5_roomOf_X5_noProcess rfl ⟨rfl, rfl⟩ (by decide +kernel) ⟨Nat.le_of_ble_eq_true rfl, Nat.le_of_ble_eq_true rfl⟩ hF hF.1 rfl rfl hl.1 rfl (Nat.le_of_ble_eq_true rfl) ⟨by decide, by decide⟩ dX5_roomOf_2 (fun H locs hP1 hz hk hS => ?_)
  refine W.eq (g2 := F0 m 5 ls [.int 0]) rfl ?_
  have hF := hP1
  refine lv_if_eq (tgt := 12) hx hb dX5_roomOf_5 (by decide) (fun c_5 => ?_) (fun c_5 => ?_)
  · refine lv_aload_n hx hb dX5_roomOf_12 rfl (lv_at hl 0 rfl) ?_
    refine rn_get (ci := 5) (v := .ref (ma 6)) (C := RX5) (T := TX5) (N := 18) hx hb hts iw_X5_roomOf_5 hown hG hF.1 rfl 10 (by decide) fw_X5_roomOf_35 rfl dX5_roomOf_13 ?_
    refine lv_iload_n hx hb dX5_roomOf_16 rfl (lv_at hl 1 rfl) ?_
    refine rn_iald (j := j) hx hb hG (show va_at D vwCl (ma 6, .inl (cI, 12, .inl (V 6))) _ from hF.2.1 6 (by decide)) 0 rfl (by omega) (by decide) dX5_roomOf_17 ?_
    refine rn_top (y := .int (nI (σ.pl j))) (congrArg Value.int (hM.2.2.2.2.2.1 j hj0).1) ?_
    exact rn_Wiret hx hb hr rfl hlocks hS (by decide) (by decide) rfl ⟨_, hM, hF⟩ dX5_roomOf_18
  · exact absurd c_5 (by decide)

set_option maxHeartbeats 4000000 in
set_option maxRecDepth 100000 in
theorem n_numberOf (l : Launch) {D : va_G} {cI : ClassId} {m0 : Nat} {ma : Nat → Nat} {rf : Int32} {V : Nat → Nat → Int32} {σ : rn_St} (hV : rn_V σ) (hM : rn_Mr σ V) {j : Nat} (hj0 : j < σ.pn) (sz : Nat) : rn_W l yX5_numberOf wsX5_numberOf ({ frames := 4, cells := 0, slots := 0, locals := 96 } : Room) D [(cI, .int)] ((rn_MW D cI m0 ma rf (nI σ.sn) (nI σ.sd.length) (nI σ.pn) (nI σ.fn) σ.rc σ.la V)) [.ref m0, .int (nI j)] (some (.int (nI (σ.pu j)))) (rn_MP D cI m0 ma 0 σ) (rn_mA m0 ma) 0 0 sz := by
  refine rn_W.ofW (cc := cX5_numberOf) (maxL := 2) (ret := (some .int)) (by decide) rfl (Nat.le_of_ble_eq_true rfl) (fun p e s m below meth c ls hx hb hr hml hts hown hlocks hin hsz hF hG hS hl => ?_)
  have hl : lv_has ls 2 [(0, .ref m0), (1, .int (nI j))] := hl
  have hs10 := hV.1.2
  have hp12 := hV.2.2.2.2.2.1.2.1
  have hf20 := hV.2.2.2.2.2.2.1
  have hd3 := hV.2.2.2.2.1.2
  refine lv_aload_n hx hb dX5_numberOf_0 rfl (lv_at hl 0 rfl) ?_
  refine lv_iload_n hx hb dX5_numberOf_1 rfl (lv_at hl 1 rfl) ?_
  refine rn_wV (As := [.int (nI j)]) (rest := []) 1 hx hb hml hown hts hG hS (q_noProcess_o l hV hM hj0 _) (fun x hx => hx) gX5_numberOf_X5_noProcess rfl ⟨rfl, rfl⟩ (by decide +kernel) ⟨Nat.le_of_ble_eq_true rfl, Nat.le_of_ble_eq_true rfl⟩ hF hF.1 rfl rfl hl.1 rfl (Nat.le_of_ble_eq_true rfl) ⟨by decide, by decide⟩ dX5_numberOf_2 (fun H locs hP1 hz hk hS => ?_)
  refine W.eq (g2 := F0 m 5 ls [.int 0]) rfl ?_
  have hF := hP1
  refine lv_if_eq (tgt := 12) hx hb dX5_numberOf_5 (by decide) (fun c_5 => ?_) (fun c_5 => ?_)
  · refine lv_aload_n hx hb dX5_numberOf_12 rfl (lv_at hl 0 rfl) ?_
    refine rn_get (ci := 5) (v := .ref (ma 7)) (C := RX5) (T := TX5) (N := 18) hx hb hts iw_X5_numberOf_5 hown hG hF.1 rfl 11 (by decide) fw_X5_numberOf_38 rfl dX5_numberOf_13 ?_
    refine lv_iload_n hx hb dX5_numberOf_16 rfl (lv_at hl 1 rfl) ?_
    refine rn_iald (j := j) hx hb hG (show va_at D vwCl (ma 7, .inl (cI, 12, .inl (V 7))) _ from hF.2.1 7 (by decide)) 0 rfl (by omega) (by decide) dX5_numberOf_17 ?_
    refine rn_top (y := .int (nI (σ.pu j))) (congrArg Value.int (hM.2.2.2.2.2.1 j hj0).2.1) ?_
    exact rn_Wiret hx hb hr rfl hlocks hS (by decide) (by decide) rfl ⟨_, hM, hF⟩ dX5_numberOf_18
  · exact absurd c_5 (by decide)

set_option maxHeartbeats 4000000 in
set_option maxRecDepth 100000 in
theorem n_rightsIn (l : Launch) {D : va_G} {cI : ClassId} {m0 : Nat} {ma : Nat → Nat} {rf : Int32} {V : Nat → Nat → Int32} {σ : rn_St} (hV : rn_V σ) (hM : rn_Mr σ V) {j i : Nat} (hj0 : j < σ.pn) (hi0 : i < σ.sn) (sz : Nat) : rn_W l yX5_rightsIn wsX5_rightsIn ({ frames := 4, cells := 0, slots := 0, locals := 96 } : Room) D [(cI, .int)] ((rn_MW D cI m0 ma rf (nI σ.sn) (nI σ.sd.length) (nI σ.pn) (nI σ.fn) σ.rc σ.la V)) [.ref m0, .int (nI j), .int (nI i)] (some (.int (rn_held σ j i))) (rn_MP D cI m0 ma 0 σ) (rn_mA m0 ma) 0 0 sz := by
  refine rn_W.ofW (cc := cX5_rightsIn) (maxL := 3) (ret := (some .int)) (by decide) rfl (Nat.le_of_ble_eq_true rfl) (fun p e s m below meth c ls hx hb hr hml hts hown hlocks hin hsz hF hG hS hl => ?_)
  have hl : lv_has ls 3 [(0, .ref m0), (1, .int (nI j)), (2, .int (nI i))] := hl
  have hs10 := hV.1.2
  have hp12 := hV.2.2.2.2.2.1.2.1
  have hf20 := hV.2.2.2.2.2.2.1
  have hd3 := hV.2.2.2.2.1.2
  refine lv_aload_n hx hb dX5_rightsIn_0 rfl (lv_at hl 0 rfl) ?_
  refine lv_aload_n hx hb dX5_rightsIn_1 rfl (lv_at hl 0 rfl) ?_
  refine lv_iload_n hx hb dX5_rightsIn_2 rfl (lv_at hl 1 rfl) ?_
  refine rn_cV (As := [.int (nI j)]) (rest := [.ref m0]) 1 hx hb hml hown hts hG (m_isProcess l ((nI j))) gX5_rightsIn_X5_isProcess rfl ⟨rfl, rfl⟩ (by decide +kernel) ⟨Nat.le_of_ble_eq_true rfl, Nat.le_of_ble_eq_true rfl⟩ hF hF.1 rfl rfl hl.1 rfl (Nat.le_of_ble_eq_true rfl) ⟨by decide, by decide⟩ dX5_rightsIn_3 ?_
  refine W.eq (g2 := F0 m 6 ls [.int (rn_b (rn_in ((nI j)) 0 (nI σ.pn - 1))), .ref m0]) rfl ?_
  refine rn_top (y := .int 1) (congrArg Value.int (by rw [rn_ok_t (by omega) hj0]; rfl)) ?_
  refine lv_if_eq (tgt := 21) hx hb dX5_rightsIn_6 (by decide) (fun c_6 => ?_) (fun c_6 => ?_)
  · exact absurd c_6 (by decide)
  · refine lv_aload_n hx hb dX5_rightsIn_9 rfl (lv_at hl 0 rfl) ?_
    refine lv_iload_n hx hb dX5_rightsIn_10 rfl (lv_at hl 2 rfl) ?_
    refine rn_cV (As := [.int (nI i)]) (rest := [.ref m0]) 1 hx hb hml hown hts hG (m_isRoom l ((nI i))) gX5_rightsIn_X5_isRoom rfl ⟨rfl, rfl⟩ (by decide +kernel) ⟨Nat.le_of_ble_eq_true rfl, Nat.le_of_ble_eq_true rfl⟩ hF hF.1 rfl rfl hl.1 rfl (Nat.le_of_ble_eq_true rfl) ⟨by decide, by decide⟩ dX5_rightsIn_11 ?_
    refine W.eq (g2 := F0 m 14 ls [.int (rn_b (rn_in ((nI i)) 0 (nI σ.sn - 1))), .ref m0]) rfl ?_
    refine rn_top (y := .int 1) (congrArg Value.int (by rw [rn_ok_t (by omega) hi0]; rfl)) ?_
    refine lv_if_eq (tgt := 21) hx hb dX5_rightsIn_14 (by decide) (fun c_14 => ?_) (fun c_14 => ?_)
    · exact absurd c_14 (by decide)
    · refine lv_iconst (v := 0) hx hb dX5_rightsIn_17 (by decide) ?_
      refine lv_goto (tgt := 22) hx hb dX5_rightsIn_18 (by decide) ?_
      refine rn_wV (As := [.int 0]) (rest := []) 1 hx hb hml hown hts hG hS (m_refused l 0) (fun x hx => by rw [show x = m0 from hx]; exact rn_mA_0) gX5_rightsIn_X5_refused rfl ⟨rfl, rfl⟩ (by decide +kernel) ⟨Nat.le_of_ble_eq_true rfl, Nat.le_of_ble_eq_true rfl⟩ hF hF.1 rfl rfl hl.1 rfl (Nat.le_of_ble_eq_true rfl) ⟨by decide, by decide⟩ dX5_rightsIn_22 (fun H locs hP1 hz hk hS => ?_)
      refine W.eq (g2 := F0 m 25 ls [.int (rn_b (decide (0 ≠ 0)))]) rfl ?_
      have hF := hP1
      refine rn_top (y := .int 0) (congrArg Value.int (rfl)) ?_
      refine lv_if_eq (tgt := 32) hx hb dX5_rightsIn_25 (by decide) (fun c_25 => ?_) (fun c_25 => ?_)
      · refine lv_aload_n hx hb dX5_rightsIn_32 rfl (lv_at hl 0 rfl) ?_
        refine lv_iload_n hx hb dX5_rightsIn_33 rfl (lv_at hl 1 rfl) ?_
        refine lv_iload_n hx hb dX5_rightsIn_34 rfl (lv_at hl 2 rfl) ?_
        refine rn_cV (As := [.int (nI j), .int (nI i)]) (rest := []) 2 hx hb hml hown hts hG (m_held l hV hM hj0 hi0) gX5_rightsIn_X5_held rfl ⟨rfl, rfl⟩ (by decide +kernel) ⟨Nat.le_of_ble_eq_true rfl, Nat.le_of_ble_eq_true rfl⟩ hF hF.1 rfl rfl hl.1 rfl (Nat.le_of_ble_eq_true rfl) ⟨by decide, by decide⟩ dX5_rightsIn_35 ?_
        refine W.eq (g2 := F0 m 38 ls [.int (rn_held σ j i)]) rfl ?_
        exact rn_Wiret hx hb hr rfl hlocks hS (by decide) (by decide) rfl ⟨_, hM, hF⟩ dX5_rightsIn_38
      · exact absurd c_25 (by decide)

set_option maxHeartbeats 4000000 in
set_option maxRecDepth 100000 in
theorem n_ownerSeenBy (l : Launch) {D : va_G} {cI : ClassId} {m0 : Nat} {ma : Nat → Nat} {rf : Int32} {V : Nat → Nat → Int32} {σ : rn_St} (hV : rn_V σ) (hM : rn_Mr σ V) {j k : Nat} (hj0 : j < σ.pn) (hk0 : k < σ.fn) (sz : Nat) : rn_W l yX5_ownerSeenBy wsX5_ownerSeenBy ({ frames := 4, cells := 0, slots := 0, locals := 96 } : Room) D [(cI, .int)] ((rn_MW D cI m0 ma rf (nI σ.sn) (nI σ.sd.length) (nI σ.pn) (nI σ.fn) σ.rc σ.la V)) [.ref m0, .int (nI j), .int (nI k)] (some (.int (nI (rn_see σ (σ.pl j) (σ.fo k))))) (rn_MP D cI m0 ma 0 σ) (rn_mA m0 ma) 0 0 sz := by
  refine rn_W.ofW (cc := cX5_ownerSeenBy) (maxL := 3) (ret := (some .int)) (by decide) rfl (Nat.le_of_ble_eq_true rfl) (fun p e s m below meth c ls hx hb hr hml hts hown hlocks hin hsz hF hG hS hl => ?_)
  have hl : lv_has ls 3 [(0, .ref m0), (1, .int (nI j)), (2, .int (nI k))] := hl
  have hs10 := hV.1.2
  have hp12 := hV.2.2.2.2.2.1.2.1
  have hf20 := hV.2.2.2.2.2.2.1
  have hd3 := hV.2.2.2.2.1.2
  refine lv_aload_n hx hb dX5_ownerSeenBy_0 rfl (lv_at hl 0 rfl) ?_
  refine lv_aload_n hx hb dX5_ownerSeenBy_1 rfl (lv_at hl 0 rfl) ?_
  refine lv_iload_n hx hb dX5_ownerSeenBy_2 rfl (lv_at hl 1 rfl) ?_
  refine rn_cV (As := [.int (nI j)]) (rest := [.ref m0]) 1 hx hb hml hown hts hG (m_isProcess l ((nI j))) gX5_ownerSeenBy_X5_isProcess rfl ⟨rfl, rfl⟩ (by decide +kernel) ⟨Nat.le_of_ble_eq_true rfl, Nat.le_of_ble_eq_true rfl⟩ hF hF.1 rfl rfl hl.1 rfl (Nat.le_of_ble_eq_true rfl) ⟨by decide, by decide⟩ dX5_ownerSeenBy_3 ?_
  refine W.eq (g2 := F0 m 6 ls [.int (rn_b (rn_in ((nI j)) 0 (nI σ.pn - 1))), .ref m0]) rfl ?_
  refine rn_top (y := .int 1) (congrArg Value.int (by rw [rn_ok_t (by omega) hj0]; rfl)) ?_
  refine lv_if_eq (tgt := 21) hx hb dX5_ownerSeenBy_6 (by decide) (fun c_6 => ?_) (fun c_6 => ?_)
  · exact absurd c_6 (by decide)
  · refine lv_aload_n hx hb dX5_ownerSeenBy_9 rfl (lv_at hl 0 rfl) ?_
    refine lv_iload_n hx hb dX5_ownerSeenBy_10 rfl (lv_at hl 2 rfl) ?_
    refine rn_cV (As := [.int (nI k)]) (rest := [.ref m0]) 1 hx hb hml hown hts hG (m_isFile l ((nI k))) gX5_ownerSeenBy_X5_isFile rfl ⟨rfl, rfl⟩ (by decide +kernel) ⟨Nat.le_of_ble_eq_true rfl, Nat.le_of_ble_eq_true rfl⟩ hF hF.1 rfl rfl hl.1 rfl (Nat.le_of_ble_eq_true rfl) ⟨by decide, by decide⟩ dX5_ownerSeenBy_11 ?_
    refine W.eq (g2 := F0 m 14 ls [.int (rn_b (rn_in ((nI k)) 0 (nI σ.fn - 1))), .ref m0]) rfl ?_
    refine rn_top (y := .int 1) (congrArg Value.int (by rw [rn_ok_t (by omega) hk0]; rfl)) ?_
    refine lv_if_eq (tgt := 21) hx hb dX5_ownerSeenBy_14 (by decide) (fun c_14 => ?_) (fun c_14 => ?_)
    · exact absurd c_14 (by decide)
    · refine lv_iconst (v := 0) hx hb dX5_ownerSeenBy_17 (by decide) ?_
      refine lv_goto (tgt := 22) hx hb dX5_ownerSeenBy_18 (by decide) ?_
      refine rn_wV (As := [.int 0]) (rest := []) 1 hx hb hml hown hts hG hS (m_refused l 0) (fun x hx => by rw [show x = m0 from hx]; exact rn_mA_0) gX5_ownerSeenBy_X5_refused rfl ⟨rfl, rfl⟩ (by decide +kernel) ⟨Nat.le_of_ble_eq_true rfl, Nat.le_of_ble_eq_true rfl⟩ hF hF.1 rfl rfl hl.1 rfl (Nat.le_of_ble_eq_true rfl) ⟨by decide, by decide⟩ dX5_ownerSeenBy_22 (fun H locs hP1 hz hk hS => ?_)
      refine W.eq (g2 := F0 m 25 ls [.int (rn_b (decide (0 ≠ 0)))]) rfl ?_
      have hF := hP1
      refine rn_top (y := .int 0) (congrArg Value.int (rfl)) ?_
      refine lv_if_eq (tgt := 32) hx hb dX5_ownerSeenBy_25 (by decide) (fun c_25 => ?_) (fun c_25 => ?_)
      · refine lv_aload_n hx hb dX5_ownerSeenBy_32 rfl (lv_at hl 0 rfl) ?_
        refine lv_aload_n hx hb dX5_ownerSeenBy_33 rfl (lv_at hl 0 rfl) ?_
        refine rn_get (ci := 5) (v := .ref (ma 6)) (C := RX5) (T := TX5) (N := 18) hx hb hts iw_X5_ownerSeenBy_5 hown hG hF.1 rfl 10 (by decide) fw_X5_ownerSeenBy_35 rfl dX5_ownerSeenBy_34 ?_
        refine lv_iload_n hx hb dX5_ownerSeenBy_37 rfl (lv_at hl 1 rfl) ?_
        refine rn_iald (j := j) hx hb hG (show va_at D vwCl (ma 6, .inl (cI, 12, .inl (V 6))) _ from hF.2.1 6 (by decide)) 0 rfl (by omega) (by decide) dX5_ownerSeenBy_38 ?_
        refine rn_top (y := .int (nI (σ.pl j))) (congrArg Value.int (hM.2.2.2.2.2.1 j hj0).1) ?_
        refine lv_aload_n hx hb dX5_ownerSeenBy_39 rfl (lv_at hl 0 rfl) ?_
        refine rn_get (ci := 5) (v := .ref (ma 9)) (C := RX5) (T := TX5) (N := 18) hx hb hts iw_X5_ownerSeenBy_5 hown hG hF.1 rfl 14 (by decide) fw_X5_ownerSeenBy_44 rfl dX5_ownerSeenBy_40 ?_
        refine lv_iload_n hx hb dX5_ownerSeenBy_43 rfl (lv_at hl 2 rfl) ?_
        refine rn_iald (j := k) hx hb hG (show va_at D vwCl (ma 9, .inl (cI, 20, .inl (V 9))) _ from hF.2.1 9 (by decide)) 0 rfl (by omega) (by decide) dX5_ownerSeenBy_44 ?_
        refine rn_top (y := .int (nI (σ.fo k))) (congrArg Value.int (hM.2.2.2.2.2.2 k hk0).1) ?_
        refine rn_cV (As := [.int (nI (σ.pl j)), .int (nI (σ.fo k))]) (rest := []) 2 hx hb hml hown hts hG (m_seen l hV hM (hV.2.2.2.2.2.1.2.2 j hj0).1 (y := σ.fo k) (hV.2.2.2.2.2.2.2 k hk0)) gX5_ownerSeenBy_X5_seen rfl ⟨rfl, rfl⟩ (by decide +kernel) ⟨Nat.le_of_ble_eq_true rfl, Nat.le_of_ble_eq_true rfl⟩ hF hF.1 rfl rfl hl.1 rfl (Nat.le_of_ble_eq_true rfl) ⟨by decide, by decide⟩ dX5_ownerSeenBy_45 ?_
        refine W.eq (g2 := F0 m 48 ls [.int (nI (rn_see σ (σ.pl j) (σ.fo k)))]) rfl ?_
        exact rn_Wiret hx hb hr rfl hlocks hS (by decide) (by decide) rfl ⟨_, hM, hF⟩ dX5_ownerSeenBy_48
      · exact absurd c_25 (by decide)
