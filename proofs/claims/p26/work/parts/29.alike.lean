/-! TWO HOUSES OF ONE VALUE ARE ALIKE -/
def rn_SS (D : va_G) (f f1 : rn_T) (H : Heap) : Prop := rn_S D f H ∧ rn_S D f1 H
theorem rn_small {X : Nat} (hX : X < 2 ^ 31) (d : Nat) : X / d < 2 ^ 31 := Nat.lt_of_le_of_lt (Nat.div_le_self _ _) hX
theorem rn_nIle {a b : Nat} (ha : a < 2 ^ 31) (hb : b < 2 ^ 31) (h : nI a ≤ nI b) : a ≤ b := (nI_leI ha hb).mp h
theorem rn_nInle {a b : Nat} (ha : a < 2 ^ 31) (hb : b < 2 ^ 31) (h : ¬ nI a ≤ nI b) : b < a := Nat.not_le.mp (fun h2 => h ((nI_leI ha hb).mpr h2))

set_option maxHeartbeats 4000000 in
set_option maxRecDepth 100000 in
theorem a_alike (l : Launch) {D : va_G} {cR cP cF : ClassId} {h0 aR aP aF : Nat} {ra pa fa : Nat → Nat} {hd : Nat → Option Nat} {dh : Option Nat} {f : rn_T} {σ : rn_St} (hV : rn_V σ) (hC : rn_CI cR cP cF h0 aR aP aF ra pa fa hd dh f σ) {h1 bR bP bF : Nat} {ra1 pa1 fa1 : Nat → Nat} {hd1 : Nat → Option Nat} {dh1 : Option Nat} {f1 : rn_T} (hC1 : rn_CI cR cP cF h1 bR bP bF ra1 pa1 fa1 hd1 dh1 f1 σ) {X : Nat} (hX : X < 2 ^ 31) : rn_R l yL_alike wsL_alike ({ frames := 9, cells := 0, slots := 0, locals := 170 } : Room) D (rn_tys cR cP cF) (rn_SS D f f1) [.ref h0, .ref h1, .int (nI X)] (some (.int 1)) := by
  refine rn_R.ofW (cc := cL_alike) (maxL := 6) (ret := (some .boolean)) (by decide) rfl (Nat.le_of_ble_eq_true rfl) (fun p e s m below meth c ls hx hb hr hml hts hown hlocks hFF hG hl => ?_)
  have hl : lv_has ls 6 [(0, .ref h0), (1, .ref h1), (2, .int (nI X))] := hl
  obtain ⟨hF, hF1⟩ := hFF
  have hp1 : 1 ≤ σ.pn := hV.2.2.2.2.2.1.1
  have hp2 : σ.pn ≤ 12 := hV.2.2.2.2.2.1.2.1
  have hs1 : 1 ≤ σ.sn := hV.1.1
  have hs2 : σ.sn ≤ 10 := hV.1.2
  have hf2 : σ.fn ≤ 20 := hV.2.2.2.2.2.2.1
  obtain ⟨i, hi0, ei⟩ : ∃ i, i < σ.sn ∧ nI X - nI X / nI σ.sn * nI σ.sn = nI i := ⟨X % σ.sn, Nat.mod_lt _ hs1, pk_rem hX hs1 (by omega)⟩
  obtain ⟨j, hj0, ej⟩ : ∃ j, j < σ.pn ∧ nI X - nI X / nI σ.pn * nI σ.pn = nI j := ⟨X % σ.pn, Nat.mod_lt _ hp1, pk_rem hX hp1 (by omega)⟩
  have t305 : ∀ (ls : Array Slot), lv_has ls 6 [(3, .int 1), (0, .ref h0), (1, .ref h1), (2, .int (nI X))] → W p l e ({ frames := 9, cells := 0, slots := 0, locals := 170 } : Room) s m ([.ref h0, .ref h1, .int (nI X)] : List Value).toArray below meth c s.heap [] 0 0 (MQ below (fun _ st o t => o = .returned (some (.int 1)) ∧ t.heap = st.heap) ([.ref h0, .ref h1, .int (nI X)] : List Value).toArray s 0 0 (fun _ => False)) (F0 m 305 ls []) := by
    intro ls hl
    refine lv_iload_n hx hb dL_alike_305 rfl (lv_at hl 0 rfl) ?_
    exact rn_iret hx hb hr rfl hlocks rfl dL_alike_306
  have p253 : ∀ (n K : Nat), σ.fn ≤ K + n → K ≤ σ.fn → ∀ (ls : Array Slot), lv_has ls 6 [(4, .int (nI K)), (3, .int 1), (0, .ref h0), (1, .ref h1), (2, .int (nI X))] → W p l e ({ frames := 9, cells := 0, slots := 0, locals := 170 } : Room) s m ([.ref h0, .ref h1, .int (nI X)] : List Value).toArray below meth c s.heap [] 0 0 (MQ below (fun _ st o t => o = .returned (some (.int 1)) ∧ t.heap = st.heap) ([.ref h0, .ref h1, .int (nI X)] : List Value).toArray s 0 0 (fun _ => False)) (F0 m 253 ls []) := by
    intro n
    induction n with
    | zero =>
      intro K g1 g2 ls hl
      refine lv_iload hx hb dL_alike_253 (lv_at hl 0 rfl) ?_
      refine lv_aload_n hx hb dL_alike_255 rfl (lv_at hl 2 rfl) ?_
      refine rn_cV (As := []) (rest := [.int (nI K)]) 0 hx hb hml hown hts hG (c_files l hV hC ) gL_alike_X4_files rfl ⟨rfl, rfl⟩ (by decide +kernel) ⟨Nat.le_of_ble_eq_true rfl, Nat.le_of_ble_eq_true rfl⟩ hF (hF _ _ hC.1.1) rfl rfl hl.1 rfl (Nat.le_of_ble_eq_true rfl) ⟨Nat.zero_le _, Nat.zero_le _⟩ dL_alike_256 ?_
      refine W.eq (g2 := F0 m 259 ls [.int (nI σ.fn), .int (nI K)]) rfl ?_
      refine lv_icmp_ge (tgt := 305) hx hb dL_alike_259 (by decide) (fun c_259 => ?_) (fun c_259 => ?_)
      · exact t305 ls (lv_sub hl [1, 2, 3, 4] rfl)
      · exact absurd (rn_nInle (by omega) (by omega) c_259) (by omega)
    | succ n ih =>
      intro K g1 g2 ls hl
      refine lv_iload hx hb dL_alike_253 (lv_at hl 0 rfl) ?_
      refine lv_aload_n hx hb dL_alike_255 rfl (lv_at hl 2 rfl) ?_
      refine rn_cV (As := []) (rest := [.int (nI K)]) 0 hx hb hml hown hts hG (c_files l hV hC ) gL_alike_X4_files rfl ⟨rfl, rfl⟩ (by decide +kernel) ⟨Nat.le_of_ble_eq_true rfl, Nat.le_of_ble_eq_true rfl⟩ hF (hF _ _ hC.1.1) rfl rfl hl.1 rfl (Nat.le_of_ble_eq_true rfl) ⟨Nat.zero_le _, Nat.zero_le _⟩ dL_alike_256 ?_
      refine W.eq (g2 := F0 m 259 ls [.int (nI σ.fn), .int (nI K)]) rfl ?_
      refine lv_icmp_ge (tgt := 305) hx hb dL_alike_259 (by decide) (fun c_259 => ?_) (fun c_259 => ?_)
      · exact t305 ls (lv_sub hl [1, 2, 3, 4] rfl)
      · have hK := rn_nInle (by omega) (by omega) c_259
        refine lv_iload_n hx hb dL_alike_262 rfl (lv_at hl 1 rfl) ?_
        refine lv_if_eq (tgt := 305) hx hb dL_alike_263 (by decide) (fun c_263 => ?_) (fun c_263 => ?_)
        · exact absurd c_263 (by decide)
        · refine lv_aload_n hx hb dL_alike_266 rfl (lv_at hl 2 rfl) ?_
          refine lv_iload_n hx hb dL_alike_267 rfl (lv_at hl 4 rfl) ?_
          refine lv_aload_n hx hb dL_alike_268 rfl (lv_at hl 2 rfl) ?_
          refine rn_cV (As := []) (rest := [.int (nI X), .ref h0]) 0 hx hb hml hown hts hG (c_processes l hV hC ) gL_alike_X4_processes rfl ⟨rfl, rfl⟩ (by decide +kernel) ⟨Nat.le_of_ble_eq_true rfl, Nat.le_of_ble_eq_true rfl⟩ hF (hF _ _ hC.1.1) rfl rfl hl.1 rfl (Nat.le_of_ble_eq_true rfl) ⟨Nat.zero_le _, Nat.zero_le _⟩ dL_alike_269 ?_
          refine W.eq (g2 := F0 m 272 ls [.int (nI σ.pn), .int (nI X), .ref h0]) rfl ?_
          refine lv_irem hx hb dL_alike_272 (rn_nz (by omega) hp1) ?_
          refine rn_top (y := .int (nI j)) (congrArg Value.int ej) ?_
          refine lv_iload hx hb dL_alike_273 (lv_at hl 0 rfl) ?_
          refine rn_cSH (As := [.ref h0, .int (nI j), .int (nI K)]) (rest := []) 3 hx hb hml hown hts hG (l_owner_o l hV hC hj0 hK) gL_alike_L_owner rfl ⟨rfl, rfl⟩ (by decide +kernel) ⟨Nat.le_of_ble_eq_true rfl, Nat.le_of_ble_eq_true rfl⟩ hF rfl hl.1 rfl (Nat.le_of_ble_eq_true rfl) ⟨Nat.zero_le _, Nat.zero_le _⟩ dL_alike_275 ?_
          refine W.eq (g2 := F0 m 278 ls [.int (nI (rn_see σ (σ.pl j) (σ.fo K)))]) rfl ?_
          refine lv_aload_n hx hb dL_alike_278 rfl (lv_at hl 3 rfl) ?_
          refine lv_iload_n hx hb dL_alike_279 rfl (lv_at hl 4 rfl) ?_
          refine lv_aload_n hx hb dL_alike_280 rfl (lv_at hl 2 rfl) ?_
          refine rn_cV (As := []) (rest := [.int (nI X), .ref h1, .int (nI (rn_see σ (σ.pl j) (σ.fo K)))]) 0 hx hb hml hown hts hG (c_processes l hV hC ) gL_alike_X4_processes rfl ⟨rfl, rfl⟩ (by decide +kernel) ⟨Nat.le_of_ble_eq_true rfl, Nat.le_of_ble_eq_true rfl⟩ hF (hF _ _ hC.1.1) rfl rfl hl.1 rfl (Nat.le_of_ble_eq_true rfl) ⟨Nat.zero_le _, Nat.zero_le _⟩ dL_alike_281 ?_
          refine W.eq (g2 := F0 m 284 ls [.int (nI σ.pn), .int (nI X), .ref h1, .int (nI (rn_see σ (σ.pl j) (σ.fo K)))]) rfl ?_
          refine lv_irem hx hb dL_alike_284 (rn_nz (by omega) hp1) ?_
          refine rn_top (y := .int (nI j)) (congrArg Value.int ej) ?_
          refine lv_iload hx hb dL_alike_285 (lv_at hl 0 rfl) ?_
          refine rn_cSH (As := [.ref h1, .int (nI j), .int (nI K)]) (rest := [.int (nI (rn_see σ (σ.pl j) (σ.fo K)))]) 3 hx hb hml hown hts hG (l_owner_o l hV hC1 hj0 hK) gL_alike_L_owner rfl ⟨rfl, rfl⟩ (by decide +kernel) ⟨Nat.le_of_ble_eq_true rfl, Nat.le_of_ble_eq_true rfl⟩ hF1 rfl hl.1 rfl (Nat.le_of_ble_eq_true rfl) ⟨Nat.zero_le _, Nat.zero_le _⟩ dL_alike_287 ?_
          refine W.eq (g2 := F0 m 290 ls [.int (nI (rn_see σ (σ.pl j) (σ.fo K))), .int (nI (rn_see σ (σ.pl j) (σ.fo K)))]) rfl ?_
          refine lv_icmp_ne (tgt := 297) hx hb dL_alike_290 (by decide) (fun c_290 => ?_) (fun c_290 => ?_)
          · exact absurd rfl c_290
          · refine lv_iconst (v := 1) hx hb dL_alike_293 (by decide) ?_
            refine lv_goto (tgt := 298) hx hb dL_alike_294 (by decide) ?_
            refine lv_istore_n (lv' := [(3, .int 1), (4, .int (nI K)), (0, .ref h0), (1, .ref h1), (2, .int (nI X))]) hx hb dL_alike_298 rfl hl (by decide) rfl (fun ls hl => ?_)
            refine lv_iinc (v := (nI (K + 1))) (lv' := [(4, .int (nI (K + 1))), (3, .int 1), (0, .ref h0), (1, .ref h1), (2, .int (nI X))]) hx hb dL_alike_299 hl (k := 1) rfl (nI_add K 1) (by decide) rfl (fun ls hl => ?_)
            refine lv_goto (tgt := 253) hx hb dL_alike_302 (by decide) ?_
            exact ih (K + 1) (by omega) (by omega) ls (lv_sub hl [0, 1, 2, 3, 4] rfl)
  have p168 : ∀ (n K : Nat), σ.pn ≤ K + n → K ≤ σ.pn → ∀ (ls : Array Slot), lv_has ls 6 [(4, .int (nI K)), (3, .int 1), (0, .ref h0), (1, .ref h1), (2, .int (nI X))] → W p l e ({ frames := 9, cells := 0, slots := 0, locals := 170 } : Room) s m ([.ref h0, .ref h1, .int (nI X)] : List Value).toArray below meth c s.heap [] 0 0 (MQ below (fun _ st o t => o = .returned (some (.int 1)) ∧ t.heap = st.heap) ([.ref h0, .ref h1, .int (nI X)] : List Value).toArray s 0 0 (fun _ => False)) (F0 m 168 ls []) := by
    intro n
    induction n with
    | zero =>
      intro K g1 g2 ls hl
      refine lv_iload hx hb dL_alike_168 (lv_at hl 0 rfl) ?_
      refine lv_aload_n hx hb dL_alike_170 rfl (lv_at hl 2 rfl) ?_
      refine rn_cV (As := []) (rest := [.int (nI K)]) 0 hx hb hml hown hts hG (c_processes l hV hC ) gL_alike_X4_processes rfl ⟨rfl, rfl⟩ (by decide +kernel) ⟨Nat.le_of_ble_eq_true rfl, Nat.le_of_ble_eq_true rfl⟩ hF (hF _ _ hC.1.1) rfl rfl hl.1 rfl (Nat.le_of_ble_eq_true rfl) ⟨Nat.zero_le _, Nat.zero_le _⟩ dL_alike_171 ?_
      refine W.eq (g2 := F0 m 174 ls [.int (nI σ.pn), .int (nI K)]) rfl ?_
      refine lv_icmp_ge (tgt := 250) hx hb dL_alike_174 (by decide) (fun c_174 => ?_) (fun c_174 => ?_)
      · refine lv_iconst (v := 0) hx hb dL_alike_250 (by decide) ?_
        refine lv_istore (lv' := [(4, .int 0), (3, .int 1), (0, .ref h0), (1, .ref h1), (2, .int (nI X))]) hx hb dL_alike_251 hl (by decide) rfl (fun ls hl => ?_)
        exact p253 σ.fn 0 (by omega) (by omega) ls (lv_sub hl [0, 1, 2, 3, 4] rfl)
      · exact absurd (rn_nInle (by omega) (by omega) c_174) (by omega)
    | succ n ih =>
      intro K g1 g2 ls hl
      refine lv_iload hx hb dL_alike_168 (lv_at hl 0 rfl) ?_
      refine lv_aload_n hx hb dL_alike_170 rfl (lv_at hl 2 rfl) ?_
      refine rn_cV (As := []) (rest := [.int (nI K)]) 0 hx hb hml hown hts hG (c_processes l hV hC ) gL_alike_X4_processes rfl ⟨rfl, rfl⟩ (by decide +kernel) ⟨Nat.le_of_ble_eq_true rfl, Nat.le_of_ble_eq_true rfl⟩ hF (hF _ _ hC.1.1) rfl rfl hl.1 rfl (Nat.le_of_ble_eq_true rfl) ⟨Nat.zero_le _, Nat.zero_le _⟩ dL_alike_171 ?_
      refine W.eq (g2 := F0 m 174 ls [.int (nI σ.pn), .int (nI K)]) rfl ?_
      refine lv_icmp_ge (tgt := 250) hx hb dL_alike_174 (by decide) (fun c_174 => ?_) (fun c_174 => ?_)
      · refine lv_iconst (v := 0) hx hb dL_alike_250 (by decide) ?_
        refine lv_istore (lv' := [(4, .int 0), (3, .int 1), (0, .ref h0), (1, .ref h1), (2, .int (nI X))]) hx hb dL_alike_251 hl (by decide) rfl (fun ls hl => ?_)
        exact p253 σ.fn 0 (by omega) (by omega) ls (lv_sub hl [0, 1, 2, 3, 4] rfl)
      · have hK := rn_nInle (by omega) (by omega) c_174
        refine lv_iload_n hx hb dL_alike_177 rfl (lv_at hl 1 rfl) ?_
        refine lv_if_eq (tgt := 250) hx hb dL_alike_178 (by decide) (fun c_178 => ?_) (fun c_178 => ?_)
        · exact absurd c_178 (by decide)
        · refine lv_aload_n hx hb dL_alike_181 rfl (lv_at hl 2 rfl) ?_
          refine lv_iload hx hb dL_alike_182 (lv_at hl 0 rfl) ?_
          refine rn_cSH (As := [.ref h0, .int (nI K)]) (rest := []) 2 hx hb hml hown hts hG (l_room_o l hV hC hK) gL_alike_L_room rfl ⟨rfl, rfl⟩ (by decide +kernel) ⟨Nat.le_of_ble_eq_true rfl, Nat.le_of_ble_eq_true rfl⟩ hF rfl hl.1 rfl (Nat.le_of_ble_eq_true rfl) ⟨Nat.zero_le _, Nat.zero_le _⟩ dL_alike_184 ?_
          refine W.eq (g2 := F0 m 187 ls [.int (nI (σ.pl K))]) rfl ?_
          refine lv_aload_n hx hb dL_alike_187 rfl (lv_at hl 3 rfl) ?_
          refine lv_iload hx hb dL_alike_188 (lv_at hl 0 rfl) ?_
          refine rn_cSH (As := [.ref h1, .int (nI K)]) (rest := [.int (nI (σ.pl K))]) 2 hx hb hml hown hts hG (l_room_o l hV hC1 hK) gL_alike_L_room rfl ⟨rfl, rfl⟩ (by decide +kernel) ⟨Nat.le_of_ble_eq_true rfl, Nat.le_of_ble_eq_true rfl⟩ hF1 rfl hl.1 rfl (Nat.le_of_ble_eq_true rfl) ⟨Nat.zero_le _, Nat.zero_le _⟩ dL_alike_190 ?_
          refine W.eq (g2 := F0 m 193 ls [.int (nI (σ.pl K)), .int (nI (σ.pl K))]) rfl ?_
          refine lv_icmp_ne (tgt := 242) hx hb dL_alike_193 (by decide) (fun c_193 => ?_) (fun c_193 => ?_)
          · exact absurd rfl c_193
          · refine lv_aload_n hx hb dL_alike_196 rfl (lv_at hl 2 rfl) ?_
            refine lv_iload hx hb dL_alike_197 (lv_at hl 0 rfl) ?_
            refine rn_cSH (As := [.ref h0, .int (nI K)]) (rest := []) 2 hx hb hml hown hts hG (l_number_o l hV hC hK) gL_alike_L_number rfl ⟨rfl, rfl⟩ (by decide +kernel) ⟨Nat.le_of_ble_eq_true rfl, Nat.le_of_ble_eq_true rfl⟩ hF rfl hl.1 rfl (Nat.le_of_ble_eq_true rfl) ⟨Nat.zero_le _, Nat.zero_le _⟩ dL_alike_199 ?_
            refine W.eq (g2 := F0 m 202 ls [.int (nI (σ.pu K))]) rfl ?_
            refine lv_aload_n hx hb dL_alike_202 rfl (lv_at hl 3 rfl) ?_
            refine lv_iload hx hb dL_alike_203 (lv_at hl 0 rfl) ?_
            refine rn_cSH (As := [.ref h1, .int (nI K)]) (rest := [.int (nI (σ.pu K))]) 2 hx hb hml hown hts hG (l_number_o l hV hC1 hK) gL_alike_L_number rfl ⟨rfl, rfl⟩ (by decide +kernel) ⟨Nat.le_of_ble_eq_true rfl, Nat.le_of_ble_eq_true rfl⟩ hF1 rfl hl.1 rfl (Nat.le_of_ble_eq_true rfl) ⟨Nat.zero_le _, Nat.zero_le _⟩ dL_alike_205 ?_
            refine W.eq (g2 := F0 m 208 ls [.int (nI (σ.pu K)), .int (nI (σ.pu K))]) rfl ?_
            refine lv_icmp_ne (tgt := 242) hx hb dL_alike_208 (by decide) (fun c_208 => ?_) (fun c_208 => ?_)
            · exact absurd rfl c_208
            · refine lv_aload_n hx hb dL_alike_211 rfl (lv_at hl 2 rfl) ?_
              refine lv_iload hx hb dL_alike_212 (lv_at hl 0 rfl) ?_
              refine lv_iload_n hx hb dL_alike_214 rfl (lv_at hl 4 rfl) ?_
              refine lv_aload_n hx hb dL_alike_215 rfl (lv_at hl 2 rfl) ?_
              refine rn_cV (As := []) (rest := [.int (nI X), .int (nI K), .ref h0]) 0 hx hb hml hown hts hG (c_rooms l hV hC ) gL_alike_X4_rooms rfl ⟨rfl, rfl⟩ (by decide +kernel) ⟨Nat.le_of_ble_eq_true rfl, Nat.le_of_ble_eq_true rfl⟩ hF (hF _ _ hC.1.1) rfl rfl hl.1 rfl (Nat.le_of_ble_eq_true rfl) ⟨Nat.zero_le _, Nat.zero_le _⟩ dL_alike_216 ?_
              refine W.eq (g2 := F0 m 219 ls [.int (nI σ.sn), .int (nI X), .int (nI K), .ref h0]) rfl ?_
              refine lv_irem hx hb dL_alike_219 (rn_nz (by omega) hs1) ?_
              refine rn_top (y := .int (nI i)) (congrArg Value.int ei) ?_
              refine rn_cSH (As := [.ref h0, .int (nI K), .int (nI i)]) (rest := []) 3 hx hb hml hown hts hG (l_rights_o l hV hC hK hi0) gL_alike_L_rights rfl ⟨rfl, rfl⟩ (by decide +kernel) ⟨Nat.le_of_ble_eq_true rfl, Nat.le_of_ble_eq_true rfl⟩ hF rfl hl.1 rfl (Nat.le_of_ble_eq_true rfl) ⟨Nat.zero_le _, Nat.zero_le _⟩ dL_alike_220 ?_
              refine W.eq (g2 := F0 m 223 ls [.int (rn_held σ K i)]) rfl ?_
              refine lv_aload_n hx hb dL_alike_223 rfl (lv_at hl 3 rfl) ?_
              refine lv_iload hx hb dL_alike_224 (lv_at hl 0 rfl) ?_
              refine lv_iload_n hx hb dL_alike_226 rfl (lv_at hl 4 rfl) ?_
              refine lv_aload_n hx hb dL_alike_227 rfl (lv_at hl 2 rfl) ?_
              refine rn_cV (As := []) (rest := [.int (nI X), .int (nI K), .ref h1, .int (rn_held σ K i)]) 0 hx hb hml hown hts hG (c_rooms l hV hC ) gL_alike_X4_rooms rfl ⟨rfl, rfl⟩ (by decide +kernel) ⟨Nat.le_of_ble_eq_true rfl, Nat.le_of_ble_eq_true rfl⟩ hF (hF _ _ hC.1.1) rfl rfl hl.1 rfl (Nat.le_of_ble_eq_true rfl) ⟨Nat.zero_le _, Nat.zero_le _⟩ dL_alike_228 ?_
              refine W.eq (g2 := F0 m 231 ls [.int (nI σ.sn), .int (nI X), .int (nI K), .ref h1, .int (rn_held σ K i)]) rfl ?_
              refine lv_irem hx hb dL_alike_231 (rn_nz (by omega) hs1) ?_
              refine rn_top (y := .int (nI i)) (congrArg Value.int ei) ?_
              refine rn_cSH (As := [.ref h1, .int (nI K), .int (nI i)]) (rest := [.int (rn_held σ K i)]) 3 hx hb hml hown hts hG (l_rights_o l hV hC1 hK hi0) gL_alike_L_rights rfl ⟨rfl, rfl⟩ (by decide +kernel) ⟨Nat.le_of_ble_eq_true rfl, Nat.le_of_ble_eq_true rfl⟩ hF1 rfl hl.1 rfl (Nat.le_of_ble_eq_true rfl) ⟨Nat.zero_le _, Nat.zero_le _⟩ dL_alike_232 ?_
              refine W.eq (g2 := F0 m 235 ls [.int (rn_held σ K i), .int (rn_held σ K i)]) rfl ?_
              refine lv_icmp_ne (tgt := 242) hx hb dL_alike_235 (by decide) (fun c_235 => ?_) (fun c_235 => ?_)
              · exact absurd rfl c_235
              · refine lv_iconst (v := 1) hx hb dL_alike_238 (by decide) ?_
                refine lv_goto (tgt := 243) hx hb dL_alike_239 (by decide) ?_
                refine lv_istore_n (lv' := [(3, .int 1), (4, .int (nI K)), (0, .ref h0), (1, .ref h1), (2, .int (nI X))]) hx hb dL_alike_243 rfl hl (by decide) rfl (fun ls hl => ?_)
                refine lv_iinc (v := (nI (K + 1))) (lv' := [(4, .int (nI (K + 1))), (3, .int 1), (0, .ref h0), (1, .ref h1), (2, .int (nI X))]) hx hb dL_alike_244 hl (k := 1) rfl (nI_add K 1) (by decide) rfl (fun ls hl => ?_)
                refine lv_goto (tgt := 168) hx hb dL_alike_247 (by decide) ?_
                exact ih (K + 1) (by omega) (by omega) ls (lv_sub hl [0, 1, 2, 3, 4] rfl)
  have p64 : ∀ (n K : Nat), σ.sn ≤ K + n → K ≤ σ.sn → ∀ (ls : Array Slot), lv_has ls 6 [(4, .int (nI K)), (3, .int 1), (0, .ref h0), (1, .ref h1), (2, .int (nI X))] → W p l e ({ frames := 9, cells := 0, slots := 0, locals := 170 } : Room) s m ([.ref h0, .ref h1, .int (nI X)] : List Value).toArray below meth c s.heap [] 0 0 (MQ below (fun _ st o t => o = .returned (some (.int 1)) ∧ t.heap = st.heap) ([.ref h0, .ref h1, .int (nI X)] : List Value).toArray s 0 0 (fun _ => False)) (F0 m 64 ls []) := by
    intro n
    induction n with
    | zero =>
      intro K g1 g2 ls hl
      refine lv_iload hx hb dL_alike_64 (lv_at hl 0 rfl) ?_
      refine lv_aload_n hx hb dL_alike_66 rfl (lv_at hl 2 rfl) ?_
      refine rn_cV (As := []) (rest := [.int (nI K)]) 0 hx hb hml hown hts hG (c_rooms l hV hC ) gL_alike_X4_rooms rfl ⟨rfl, rfl⟩ (by decide +kernel) ⟨Nat.le_of_ble_eq_true rfl, Nat.le_of_ble_eq_true rfl⟩ hF (hF _ _ hC.1.1) rfl rfl hl.1 rfl (Nat.le_of_ble_eq_true rfl) ⟨Nat.zero_le _, Nat.zero_le _⟩ dL_alike_67 ?_
      refine W.eq (g2 := F0 m 70 ls [.int (nI σ.sn), .int (nI K)]) rfl ?_
      refine lv_icmp_ge (tgt := 165) hx hb dL_alike_70 (by decide) (fun c_70 => ?_) (fun c_70 => ?_)
      · refine lv_iconst (v := 0) hx hb dL_alike_165 (by decide) ?_
        refine lv_istore (lv' := [(4, .int 0), (3, .int 1), (0, .ref h0), (1, .ref h1), (2, .int (nI X))]) hx hb dL_alike_166 hl (by decide) rfl (fun ls hl => ?_)
        exact p168 σ.pn 0 (by omega) (by omega) ls (lv_sub hl [0, 1, 2, 3, 4] rfl)
      · exact absurd (rn_nInle (by omega) (by omega) c_70) (by omega)
    | succ n ih =>
      intro K g1 g2 ls hl
      refine lv_iload hx hb dL_alike_64 (lv_at hl 0 rfl) ?_
      refine lv_aload_n hx hb dL_alike_66 rfl (lv_at hl 2 rfl) ?_
      refine rn_cV (As := []) (rest := [.int (nI K)]) 0 hx hb hml hown hts hG (c_rooms l hV hC ) gL_alike_X4_rooms rfl ⟨rfl, rfl⟩ (by decide +kernel) ⟨Nat.le_of_ble_eq_true rfl, Nat.le_of_ble_eq_true rfl⟩ hF (hF _ _ hC.1.1) rfl rfl hl.1 rfl (Nat.le_of_ble_eq_true rfl) ⟨Nat.zero_le _, Nat.zero_le _⟩ dL_alike_67 ?_
      refine W.eq (g2 := F0 m 70 ls [.int (nI σ.sn), .int (nI K)]) rfl ?_
      refine lv_icmp_ge (tgt := 165) hx hb dL_alike_70 (by decide) (fun c_70 => ?_) (fun c_70 => ?_)
      · refine lv_iconst (v := 0) hx hb dL_alike_165 (by decide) ?_
        refine lv_istore (lv' := [(4, .int 0), (3, .int 1), (0, .ref h0), (1, .ref h1), (2, .int (nI X))]) hx hb dL_alike_166 hl (by decide) rfl (fun ls hl => ?_)
        exact p168 σ.pn 0 (by omega) (by omega) ls (lv_sub hl [0, 1, 2, 3, 4] rfl)
      · have hK := rn_nInle (by omega) (by omega) c_70
        refine lv_iload_n hx hb dL_alike_73 rfl (lv_at hl 1 rfl) ?_
        refine lv_if_eq (tgt := 165) hx hb dL_alike_74 (by decide) (fun c_74 => ?_) (fun c_74 => ?_)
        · exact absurd c_74 (by decide)
        · refine lv_iload_n hx hb dL_alike_77 rfl (lv_at hl 4 rfl) ?_
          refine lv_iconst (v := 2) hx hb dL_alike_78 (by decide) ?_
          refine lv_iload hx hb dL_alike_79 (lv_at hl 0 rfl) ?_
          refine lv_iadd hx hb dL_alike_81 ?_
          refine rn_top (y := .int (nI (2 + K))) (congrArg Value.int (nI_add 2 K)) ?_
          refine lv_idiv hx hb dL_alike_82 (rn_nz (by omega) (by omega)) ?_
          refine rn_top (y := .int (nI (X / (2 + K)))) (congrArg Value.int (pk_div hX (by omega) (by omega))) ?_
          refine lv_iload_n hx hb dL_alike_83 rfl (lv_at hl 4 rfl) ?_
          refine lv_iconst (v := 3) hx hb dL_alike_84 (by decide) ?_
          refine lv_irem hx hb dL_alike_85 (by decide) ?_
          refine rn_top (y := .int (nI (X % 3))) (congrArg Value.int (pk_rem (d := 3) hX (by decide) (by decide))) ?_
          refine lv_if_ne (tgt := 95) hx hb dL_alike_86 (by decide) (fun c_86 => ?_) (fun c_86 => ?_)
          · refine lv_bipush (v := 14) hx hb dL_alike_95 (by decide +kernel) ?_
            refine lv_irem hx hb dL_alike_97 (by decide) ?_
            obtain ⟨u, hu, eu⟩ : ∃ u, u ≤ 998 ∧ (nI (X / (2 + K))) - (nI (X / (2 + K))) / 14 * 14 = nI u := ⟨X / (2 + K) % 14, by omega, pk_rem (d := 14) (rn_small hX _) (by decide) (by decide)⟩
            refine rn_top (y := .int (nI u)) (congrArg Value.int eu) ?_
            refine lv_istore (lv' := [(5, .int (nI u)), (4, .int (nI K)), (3, .int 1), (0, .ref h0), (1, .ref h1), (2, .int (nI X))]) hx hb dL_alike_98 hl (by decide) rfl (fun ls hl => ?_)
            refine lv_aload_n hx hb dL_alike_100 rfl (lv_at hl 3 rfl) ?_
            refine lv_iload hx hb dL_alike_101 (lv_at hl 1 rfl) ?_
            refine rn_cSH (As := [.ref h0, .int (nI K)]) (rest := []) 2 hx hb hml hown hts hG (l_outer_o l hV hC hK) gL_alike_L_outer rfl ⟨rfl, rfl⟩ (by decide +kernel) ⟨Nat.le_of_ble_eq_true rfl, Nat.le_of_ble_eq_true rfl⟩ hF rfl hl.1 rfl (Nat.le_of_ble_eq_true rfl) ⟨Nat.zero_le _, Nat.zero_le _⟩ dL_alike_103 ?_
            refine W.eq (g2 := F0 m 106 ls [.int (rn_enc (rn_nx σ K))]) rfl ?_
            refine lv_aload_n hx hb dL_alike_106 rfl (lv_at hl 4 rfl) ?_
            refine lv_iload hx hb dL_alike_107 (lv_at hl 1 rfl) ?_
            refine rn_cSH (As := [.ref h1, .int (nI K)]) (rest := [.int (rn_enc (rn_nx σ K))]) 2 hx hb hml hown hts hG (l_outer_o l hV hC1 hK) gL_alike_L_outer rfl ⟨rfl, rfl⟩ (by decide +kernel) ⟨Nat.le_of_ble_eq_true rfl, Nat.le_of_ble_eq_true rfl⟩ hF1 rfl hl.1 rfl (Nat.le_of_ble_eq_true rfl) ⟨Nat.zero_le _, Nat.zero_le _⟩ dL_alike_109 ?_
            refine W.eq (g2 := F0 m 112 ls [.int (rn_enc (rn_nx σ K)), .int (rn_enc (rn_nx σ K))]) rfl ?_
            refine lv_icmp_ne (tgt := 157) hx hb dL_alike_112 (by decide) (fun c_112 => ?_) (fun c_112 => ?_)
            · exact absurd rfl c_112
            · refine lv_aload_n hx hb dL_alike_115 rfl (lv_at hl 3 rfl) ?_
              refine lv_iload hx hb dL_alike_116 (lv_at hl 1 rfl) ?_
              refine lv_iload hx hb dL_alike_118 (lv_at hl 0 rfl) ?_
              refine rn_cSH (As := [.ref h0, .int (nI K), .int (nI u)]) (rest := []) 3 hx hb hml hown hts hG (l_leads_o l hV hC hK hu) gL_alike_L_leads rfl ⟨rfl, rfl⟩ (by decide +kernel) ⟨Nat.le_of_ble_eq_true rfl, Nat.le_of_ble_eq_true rfl⟩ hF rfl hl.1 rfl (Nat.le_of_ble_eq_true rfl) ⟨Nat.zero_le _, Nat.zero_le _⟩ dL_alike_120 ?_
              refine W.eq (g2 := F0 m 123 ls [.int (rn_enc (rn_lead σ K u))]) rfl ?_
              refine lv_aload_n hx hb dL_alike_123 rfl (lv_at hl 4 rfl) ?_
              refine lv_iload hx hb dL_alike_124 (lv_at hl 1 rfl) ?_
              refine lv_iload hx hb dL_alike_126 (lv_at hl 0 rfl) ?_
              refine rn_cSH (As := [.ref h1, .int (nI K), .int (nI u)]) (rest := [.int (rn_enc (rn_lead σ K u))]) 3 hx hb hml hown hts hG (l_leads_o l hV hC1 hK hu) gL_alike_L_leads rfl ⟨rfl, rfl⟩ (by decide +kernel) ⟨Nat.le_of_ble_eq_true rfl, Nat.le_of_ble_eq_true rfl⟩ hF1 rfl hl.1 rfl (Nat.le_of_ble_eq_true rfl) ⟨Nat.zero_le _, Nat.zero_le _⟩ dL_alike_128 ?_
              refine W.eq (g2 := F0 m 131 ls [.int (rn_enc (rn_lead σ K u)), .int (rn_enc (rn_lead σ K u))]) rfl ?_
              refine lv_icmp_ne (tgt := 157) hx hb dL_alike_131 (by decide) (fun c_131 => ?_) (fun c_131 => ?_)
              · exact absurd rfl c_131
              · refine lv_aload_n hx hb dL_alike_134 rfl (lv_at hl 3 rfl) ?_
                refine lv_iload hx hb dL_alike_135 (lv_at hl 1 rfl) ?_
                refine lv_iload hx hb dL_alike_137 (lv_at hl 0 rfl) ?_
                refine rn_cSH (As := [.ref h0, .int (nI K), .int (nI u)]) (rest := []) 3 hx hb hml hown hts hG (l_seen_o l hV hC hK hu) gL_alike_L_seen rfl ⟨rfl, rfl⟩ (by decide +kernel) ⟨Nat.le_of_ble_eq_true rfl, Nat.le_of_ble_eq_true rfl⟩ hF rfl hl.1 rfl (Nat.le_of_ble_eq_true rfl) ⟨Nat.zero_le _, Nat.zero_le _⟩ dL_alike_139 ?_
                refine W.eq (g2 := F0 m 142 ls [.int (nI (rn_see σ K u))]) rfl ?_
                refine lv_aload_n hx hb dL_alike_142 rfl (lv_at hl 4 rfl) ?_
                refine lv_iload hx hb dL_alike_143 (lv_at hl 1 rfl) ?_
                refine lv_iload hx hb dL_alike_145 (lv_at hl 0 rfl) ?_
                refine rn_cSH (As := [.ref h1, .int (nI K), .int (nI u)]) (rest := [.int (nI (rn_see σ K u))]) 3 hx hb hml hown hts hG (l_seen_o l hV hC1 hK hu) gL_alike_L_seen rfl ⟨rfl, rfl⟩ (by decide +kernel) ⟨Nat.le_of_ble_eq_true rfl, Nat.le_of_ble_eq_true rfl⟩ hF1 rfl hl.1 rfl (Nat.le_of_ble_eq_true rfl) ⟨Nat.zero_le _, Nat.zero_le _⟩ dL_alike_147 ?_
                refine W.eq (g2 := F0 m 150 ls [.int (nI (rn_see σ K u)), .int (nI (rn_see σ K u))]) rfl ?_
                refine lv_icmp_ne (tgt := 157) hx hb dL_alike_150 (by decide) (fun c_150 => ?_) (fun c_150 => ?_)
                · exact absurd rfl c_150
                · refine lv_iconst (v := 1) hx hb dL_alike_153 (by decide) ?_
                  refine lv_goto (tgt := 158) hx hb dL_alike_154 (by decide) ?_
                  refine lv_istore_n (lv' := [(3, .int 1), (5, .int (nI u)), (4, .int (nI K)), (0, .ref h0), (1, .ref h1), (2, .int (nI X))]) hx hb dL_alike_158 rfl hl (by decide) rfl (fun ls hl => ?_)
                  refine lv_iinc (v := (nI (K + 1))) (lv' := [(4, .int (nI (K + 1))), (3, .int 1), (5, .int (nI u)), (0, .ref h0), (1, .ref h1), (2, .int (nI X))]) hx hb dL_alike_159 hl (k := 2) rfl (nI_add K 1) (by decide) rfl (fun ls hl => ?_)
                  refine lv_goto (tgt := 64) hx hb dL_alike_162 (by decide) ?_
                  exact ih (K + 1) (by omega) (by omega) ls (lv_sub hl [0, 1, 3, 4, 5] rfl)
          · refine lv_sipush (v := 999) hx hb dL_alike_89 (by decide +kernel) ?_
            refine lv_goto (tgt := 97) hx hb dL_alike_92 (by decide) ?_
            refine lv_irem hx hb dL_alike_97 (by decide) ?_
            obtain ⟨u, hu, eu⟩ : ∃ u, u ≤ 998 ∧ (nI (X / (2 + K))) - (nI (X / (2 + K))) / 999 * 999 = nI u := ⟨X / (2 + K) % 999, by omega, pk_rem (d := 999) (rn_small hX _) (by decide) (by decide)⟩
            refine rn_top (y := .int (nI u)) (congrArg Value.int eu) ?_
            refine lv_istore (lv' := [(5, .int (nI u)), (4, .int (nI K)), (3, .int 1), (0, .ref h0), (1, .ref h1), (2, .int (nI X))]) hx hb dL_alike_98 hl (by decide) rfl (fun ls hl => ?_)
            refine lv_aload_n hx hb dL_alike_100 rfl (lv_at hl 3 rfl) ?_
            refine lv_iload hx hb dL_alike_101 (lv_at hl 1 rfl) ?_
            refine rn_cSH (As := [.ref h0, .int (nI K)]) (rest := []) 2 hx hb hml hown hts hG (l_outer_o l hV hC hK) gL_alike_L_outer rfl ⟨rfl, rfl⟩ (by decide +kernel) ⟨Nat.le_of_ble_eq_true rfl, Nat.le_of_ble_eq_true rfl⟩ hF rfl hl.1 rfl (Nat.le_of_ble_eq_true rfl) ⟨Nat.zero_le _, Nat.zero_le _⟩ dL_alike_103 ?_
            refine W.eq (g2 := F0 m 106 ls [.int (rn_enc (rn_nx σ K))]) rfl ?_
            refine lv_aload_n hx hb dL_alike_106 rfl (lv_at hl 4 rfl) ?_
            refine lv_iload hx hb dL_alike_107 (lv_at hl 1 rfl) ?_
            refine rn_cSH (As := [.ref h1, .int (nI K)]) (rest := [.int (rn_enc (rn_nx σ K))]) 2 hx hb hml hown hts hG (l_outer_o l hV hC1 hK) gL_alike_L_outer rfl ⟨rfl, rfl⟩ (by decide +kernel) ⟨Nat.le_of_ble_eq_true rfl, Nat.le_of_ble_eq_true rfl⟩ hF1 rfl hl.1 rfl (Nat.le_of_ble_eq_true rfl) ⟨Nat.zero_le _, Nat.zero_le _⟩ dL_alike_109 ?_
            refine W.eq (g2 := F0 m 112 ls [.int (rn_enc (rn_nx σ K)), .int (rn_enc (rn_nx σ K))]) rfl ?_
            refine lv_icmp_ne (tgt := 157) hx hb dL_alike_112 (by decide) (fun c_112 => ?_) (fun c_112 => ?_)
            · exact absurd rfl c_112
            · refine lv_aload_n hx hb dL_alike_115 rfl (lv_at hl 3 rfl) ?_
              refine lv_iload hx hb dL_alike_116 (lv_at hl 1 rfl) ?_
              refine lv_iload hx hb dL_alike_118 (lv_at hl 0 rfl) ?_
              refine rn_cSH (As := [.ref h0, .int (nI K), .int (nI u)]) (rest := []) 3 hx hb hml hown hts hG (l_leads_o l hV hC hK hu) gL_alike_L_leads rfl ⟨rfl, rfl⟩ (by decide +kernel) ⟨Nat.le_of_ble_eq_true rfl, Nat.le_of_ble_eq_true rfl⟩ hF rfl hl.1 rfl (Nat.le_of_ble_eq_true rfl) ⟨Nat.zero_le _, Nat.zero_le _⟩ dL_alike_120 ?_
              refine W.eq (g2 := F0 m 123 ls [.int (rn_enc (rn_lead σ K u))]) rfl ?_
              refine lv_aload_n hx hb dL_alike_123 rfl (lv_at hl 4 rfl) ?_
              refine lv_iload hx hb dL_alike_124 (lv_at hl 1 rfl) ?_
              refine lv_iload hx hb dL_alike_126 (lv_at hl 0 rfl) ?_
              refine rn_cSH (As := [.ref h1, .int (nI K), .int (nI u)]) (rest := [.int (rn_enc (rn_lead σ K u))]) 3 hx hb hml hown hts hG (l_leads_o l hV hC1 hK hu) gL_alike_L_leads rfl ⟨rfl, rfl⟩ (by decide +kernel) ⟨Nat.le_of_ble_eq_true rfl, Nat.le_of_ble_eq_true rfl⟩ hF1 rfl hl.1 rfl (Nat.le_of_ble_eq_true rfl) ⟨Nat.zero_le _, Nat.zero_le _⟩ dL_alike_128 ?_
              refine W.eq (g2 := F0 m 131 ls [.int (rn_enc (rn_lead σ K u)), .int (rn_enc (rn_lead σ K u))]) rfl ?_
              refine lv_icmp_ne (tgt := 157) hx hb dL_alike_131 (by decide) (fun c_131 => ?_) (fun c_131 => ?_)
              · exact absurd rfl c_131
              · refine lv_aload_n hx hb dL_alike_134 rfl (lv_at hl 3 rfl) ?_
                refine lv_iload hx hb dL_alike_135 (lv_at hl 1 rfl) ?_
                refine lv_iload hx hb dL_alike_137 (lv_at hl 0 rfl) ?_
                refine rn_cSH (As := [.ref h0, .int (nI K), .int (nI u)]) (rest := []) 3 hx hb hml hown hts hG (l_seen_o l hV hC hK hu) gL_alike_L_seen rfl ⟨rfl, rfl⟩ (by decide +kernel) ⟨Nat.le_of_ble_eq_true rfl, Nat.le_of_ble_eq_true rfl⟩ hF rfl hl.1 rfl (Nat.le_of_ble_eq_true rfl) ⟨Nat.zero_le _, Nat.zero_le _⟩ dL_alike_139 ?_
                refine W.eq (g2 := F0 m 142 ls [.int (nI (rn_see σ K u))]) rfl ?_
                refine lv_aload_n hx hb dL_alike_142 rfl (lv_at hl 4 rfl) ?_
                refine lv_iload hx hb dL_alike_143 (lv_at hl 1 rfl) ?_
                refine lv_iload hx hb dL_alike_145 (lv_at hl 0 rfl) ?_
                refine rn_cSH (As := [.ref h1, .int (nI K), .int (nI u)]) (rest := [.int (nI (rn_see σ K u))]) 3 hx hb hml hown hts hG (l_seen_o l hV hC1 hK hu) gL_alike_L_seen rfl ⟨rfl, rfl⟩ (by decide +kernel) ⟨Nat.le_of_ble_eq_true rfl, Nat.le_of_ble_eq_true rfl⟩ hF1 rfl hl.1 rfl (Nat.le_of_ble_eq_true rfl) ⟨Nat.zero_le _, Nat.zero_le _⟩ dL_alike_147 ?_
                refine W.eq (g2 := F0 m 150 ls [.int (nI (rn_see σ K u)), .int (nI (rn_see σ K u))]) rfl ?_
                refine lv_icmp_ne (tgt := 157) hx hb dL_alike_150 (by decide) (fun c_150 => ?_) (fun c_150 => ?_)
                · exact absurd rfl c_150
                · refine lv_iconst (v := 1) hx hb dL_alike_153 (by decide) ?_
                  refine lv_goto (tgt := 158) hx hb dL_alike_154 (by decide) ?_
                  refine lv_istore_n (lv' := [(3, .int 1), (5, .int (nI u)), (4, .int (nI K)), (0, .ref h0), (1, .ref h1), (2, .int (nI X))]) hx hb dL_alike_158 rfl hl (by decide) rfl (fun ls hl => ?_)
                  refine lv_iinc (v := (nI (K + 1))) (lv' := [(4, .int (nI (K + 1))), (3, .int 1), (5, .int (nI u)), (0, .ref h0), (1, .ref h1), (2, .int (nI X))]) hx hb dL_alike_159 hl (k := 2) rfl (nI_add K 1) (by decide) rfl (fun ls hl => ?_)
                  refine lv_goto (tgt := 64) hx hb dL_alike_162 (by decide) ?_
                  exact ih (K + 1) (by omega) (by omega) ls (lv_sub hl [0, 1, 3, 4, 5] rfl)
  refine lv_aload_n hx hb dL_alike_0 rfl (lv_at hl 0 rfl) ?_
  refine rn_cV (As := []) (rest := []) 0 hx hb hml hown hts hG (c_rooms l hV hC ) gL_alike_X4_rooms rfl ⟨rfl, rfl⟩ (by decide +kernel) ⟨Nat.le_of_ble_eq_true rfl, Nat.le_of_ble_eq_true rfl⟩ hF (hF _ _ hC.1.1) rfl rfl hl.1 rfl (Nat.le_of_ble_eq_true rfl) ⟨Nat.zero_le _, Nat.zero_le _⟩ dL_alike_1 ?_
  refine W.eq (g2 := F0 m 4 ls [.int (nI σ.sn)]) rfl ?_
  refine lv_aload_n hx hb dL_alike_4 rfl (lv_at hl 1 rfl) ?_
  refine rn_cV (As := []) (rest := [.int (nI σ.sn)]) 0 hx hb hml hown hts hG (c_rooms l hV hC1 ) gL_alike_X4_rooms rfl ⟨rfl, rfl⟩ (by decide +kernel) ⟨Nat.le_of_ble_eq_true rfl, Nat.le_of_ble_eq_true rfl⟩ hF1 (hF1 _ _ hC1.1.1) rfl rfl hl.1 rfl (Nat.le_of_ble_eq_true rfl) ⟨Nat.zero_le _, Nat.zero_le _⟩ dL_alike_5 ?_
  refine W.eq (g2 := F0 m 8 ls [.int (nI σ.sn), .int (nI σ.sn)]) rfl ?_
  refine lv_icmp_ne (tgt := 59) hx hb dL_alike_8 (by decide) (fun c_8 => ?_) (fun c_8 => ?_)
  · exact absurd rfl c_8
  · refine lv_aload_n hx hb dL_alike_11 rfl (lv_at hl 0 rfl) ?_
    refine rn_cV (As := []) (rest := []) 0 hx hb hml hown hts hG (c_processes l hV hC ) gL_alike_X4_processes rfl ⟨rfl, rfl⟩ (by decide +kernel) ⟨Nat.le_of_ble_eq_true rfl, Nat.le_of_ble_eq_true rfl⟩ hF (hF _ _ hC.1.1) rfl rfl hl.1 rfl (Nat.le_of_ble_eq_true rfl) ⟨Nat.zero_le _, Nat.zero_le _⟩ dL_alike_12 ?_
    refine W.eq (g2 := F0 m 15 ls [.int (nI σ.pn)]) rfl ?_
    refine lv_aload_n hx hb dL_alike_15 rfl (lv_at hl 1 rfl) ?_
    refine rn_cV (As := []) (rest := [.int (nI σ.pn)]) 0 hx hb hml hown hts hG (c_processes l hV hC1 ) gL_alike_X4_processes rfl ⟨rfl, rfl⟩ (by decide +kernel) ⟨Nat.le_of_ble_eq_true rfl, Nat.le_of_ble_eq_true rfl⟩ hF1 (hF1 _ _ hC1.1.1) rfl rfl hl.1 rfl (Nat.le_of_ble_eq_true rfl) ⟨Nat.zero_le _, Nat.zero_le _⟩ dL_alike_16 ?_
    refine W.eq (g2 := F0 m 19 ls [.int (nI σ.pn), .int (nI σ.pn)]) rfl ?_
    refine lv_icmp_ne (tgt := 59) hx hb dL_alike_19 (by decide) (fun c_19 => ?_) (fun c_19 => ?_)
    · exact absurd rfl c_19
    · refine lv_aload_n hx hb dL_alike_22 rfl (lv_at hl 0 rfl) ?_
      refine rn_cV (As := []) (rest := []) 0 hx hb hml hown hts hG (c_files l hV hC ) gL_alike_X4_files rfl ⟨rfl, rfl⟩ (by decide +kernel) ⟨Nat.le_of_ble_eq_true rfl, Nat.le_of_ble_eq_true rfl⟩ hF (hF _ _ hC.1.1) rfl rfl hl.1 rfl (Nat.le_of_ble_eq_true rfl) ⟨Nat.zero_le _, Nat.zero_le _⟩ dL_alike_23 ?_
      refine W.eq (g2 := F0 m 26 ls [.int (nI σ.fn)]) rfl ?_
      refine lv_aload_n hx hb dL_alike_26 rfl (lv_at hl 1 rfl) ?_
      refine rn_cV (As := []) (rest := [.int (nI σ.fn)]) 0 hx hb hml hown hts hG (c_files l hV hC1 ) gL_alike_X4_files rfl ⟨rfl, rfl⟩ (by decide +kernel) ⟨Nat.le_of_ble_eq_true rfl, Nat.le_of_ble_eq_true rfl⟩ hF1 (hF1 _ _ hC1.1.1) rfl rfl hl.1 rfl (Nat.le_of_ble_eq_true rfl) ⟨Nat.zero_le _, Nat.zero_le _⟩ dL_alike_27 ?_
      refine W.eq (g2 := F0 m 30 ls [.int (nI σ.fn), .int (nI σ.fn)]) rfl ?_
      refine lv_icmp_ne (tgt := 59) hx hb dL_alike_30 (by decide) (fun c_30 => ?_) (fun c_30 => ?_)
      · exact absurd rfl c_30
      · refine lv_aload_n hx hb dL_alike_33 rfl (lv_at hl 0 rfl) ?_
        refine rn_cV (As := []) (rest := []) 0 hx hb hml hown hts hG (c_refusals l hV hC ) gL_alike_X4_refusals rfl ⟨rfl, rfl⟩ (by decide +kernel) ⟨Nat.le_of_ble_eq_true rfl, Nat.le_of_ble_eq_true rfl⟩ hF (hF _ _ hC.1.1) rfl rfl hl.1 rfl (Nat.le_of_ble_eq_true rfl) ⟨Nat.zero_le _, Nat.zero_le _⟩ dL_alike_34 ?_
        refine W.eq (g2 := F0 m 37 ls [.int σ.rc]) rfl ?_
        refine lv_aload_n hx hb dL_alike_37 rfl (lv_at hl 1 rfl) ?_
        refine rn_cV (As := []) (rest := [.int σ.rc]) 0 hx hb hml hown hts hG (c_refusals l hV hC1 ) gL_alike_X4_refusals rfl ⟨rfl, rfl⟩ (by decide +kernel) ⟨Nat.le_of_ble_eq_true rfl, Nat.le_of_ble_eq_true rfl⟩ hF1 (hF1 _ _ hC1.1.1) rfl rfl hl.1 rfl (Nat.le_of_ble_eq_true rfl) ⟨Nat.zero_le _, Nat.zero_le _⟩ dL_alike_38 ?_
        refine W.eq (g2 := F0 m 41 ls [.int σ.rc, .int σ.rc]) rfl ?_
        refine lv_icmp_ne (tgt := 59) hx hb dL_alike_41 (by decide) (fun c_41 => ?_) (fun c_41 => ?_)
        · exact absurd rfl c_41
        · refine lv_aload_n hx hb dL_alike_44 rfl (lv_at hl 0 rfl) ?_
          refine rn_cV (As := []) (rest := []) 0 hx hb hml hown hts hG (c_lastRefusal l hV hC ) gL_alike_X4_lastRefusal rfl ⟨rfl, rfl⟩ (by decide +kernel) ⟨Nat.le_of_ble_eq_true rfl, Nat.le_of_ble_eq_true rfl⟩ hF (hF _ _ hC.1.1) rfl rfl hl.1 rfl (Nat.le_of_ble_eq_true rfl) ⟨Nat.zero_le _, Nat.zero_le _⟩ dL_alike_45 ?_
          refine W.eq (g2 := F0 m 48 ls [.int σ.la]) rfl ?_
          refine lv_aload_n hx hb dL_alike_48 rfl (lv_at hl 1 rfl) ?_
          refine rn_cV (As := []) (rest := [.int σ.la]) 0 hx hb hml hown hts hG (c_lastRefusal l hV hC1 ) gL_alike_X4_lastRefusal rfl ⟨rfl, rfl⟩ (by decide +kernel) ⟨Nat.le_of_ble_eq_true rfl, Nat.le_of_ble_eq_true rfl⟩ hF1 (hF1 _ _ hC1.1.1) rfl rfl hl.1 rfl (Nat.le_of_ble_eq_true rfl) ⟨Nat.zero_le _, Nat.zero_le _⟩ dL_alike_49 ?_
          refine W.eq (g2 := F0 m 52 ls [.int σ.la, .int σ.la]) rfl ?_
          refine lv_icmp_ne (tgt := 59) hx hb dL_alike_52 (by decide) (fun c_52 => ?_) (fun c_52 => ?_)
          · exact absurd rfl c_52
          · refine lv_iconst (v := 1) hx hb dL_alike_55 (by decide) ?_
            refine lv_goto (tgt := 60) hx hb dL_alike_56 (by decide) ?_
            refine lv_istore_n (lv' := [(3, .int 1), (0, .ref h0), (1, .ref h1), (2, .int (nI X))]) hx hb dL_alike_60 rfl hl (by decide) rfl (fun ls hl => ?_)
            refine lv_iconst (v := 0) hx hb dL_alike_61 (by decide) ?_
            refine lv_istore (lv' := [(4, .int 0), (3, .int 1), (0, .ref h0), (1, .ref h1), (2, .int (nI X))]) hx hb dL_alike_62 hl (by decide) rfl (fun ls hl => ?_)
            exact p64 σ.sn 0 (by omega) (by omega) ls (lv_sub hl [0, 1, 2, 3, 4] rfl)
