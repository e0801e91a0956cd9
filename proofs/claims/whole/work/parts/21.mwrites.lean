set_option maxHeartbeats 4000000 in
set_option maxRecDepth 100000 in
theorem m_refused (l : Launch) {D : va_G} {cI : ClassId} {m0 : Nat} {ma : Nat → Nat} {rf : Int32} {V : Nat → Nat → Int32} {n dn pn fn rc la : Int32} {sz : Nat} (k : Int32) : rn_W l yX5_refused wsX5_refused ({ frames := 0, cells := 0, slots := 0, locals := 0 } : Room) D [(cI, .int)] ((rn_MW D cI m0 ma rf n dn pn fn rc la V)) [.ref m0, .int k] (some (.int (rn_b (decide (k ≠ 0))))) (rn_MW D cI m0 ma k n dn pn fn rc la V) (fun x => x = m0) 0 0 sz := by
  refine rn_W.ofW (cc := cX5_refused) (maxL := 2) (ret := (some .boolean)) (by decide) rfl (Nat.le_of_ble_eq_true rfl) (fun p e s m below meth c ls hx hb hr hml hts hown hlocks hin hsz hF hG hS hl => ?_)
  have hl : lv_has ls 2 [(0, .ref m0), (1, .int k)] := hl
  refine lv_aload_n hx hb dX5_refused_0 rfl (lv_at hl 0 rfl) ?_
  refine lv_iload_n hx hb dX5_refused_1 rfl (lv_at hl 1 rfl) ?_
  refine rn_put (A := (fun x => x = m0)) (ci := 5) (v := .int k) (C := RX5) (T := TX5) (N := 18) (fs' := [.int k, .int n, .ref (ma 0), .ref (ma 1), .ref (ma 2), .ref (ma 3), .ref (ma 4), .ref (ma 5), .int dn, .int pn, .ref (ma 6), .ref (ma 7), .ref (ma 8), .int fn, .ref (ma 9), .ref (ma 10), .int rc, .int la]) hx hb hts iw_X5_refused_5 tyX5 tyX5_ok nmX5 hown hG hS rfl hF.1 rfl 0 (by decide) fw_X5_refused_50 (Or.inl rfl) rfl rfl (Nat.le_of_ble_eq_true rfl) rfl dX5_refused_2 (fun H locs hat hz ho hS => ?_)
  have hF := hF.put hat ho
  refine lv_iload_n hx hb dX5_refused_5 rfl (lv_at hl 1 rfl) ?_
  refine lv_if_eq (tgt := 13) hx hb dX5_refused_6 (by decide) (fun c_6 => ?_) (fun c_6 => ?_)
  · refine lv_iconst (v := 0) hx hb dX5_refused_13 (by decide) ?_
    exact rn_Wiret hx hb hr rfl hlocks hS (by decide) (by decide) (by rw [decide_eq_false (fun h => h c_6)]; rfl) hF dX5_refused_14
  · refine lv_iconst (v := 1) hx hb dX5_refused_9 (by decide) ?_
    refine lv_goto (tgt := 14) hx hb dX5_refused_10 (by decide) ?_
    exact rn_Wiret hx hb hr rfl hlocks hS (by decide) (by decide) (by rw [decide_eq_true c_6]; rfl) hF dX5_refused_14

set_option maxHeartbeats 4000000 in
set_option maxRecDepth 100000 in
theorem m_fine (l : Launch) {D : va_G} {cI : ClassId} {m0 : Nat} {ma : Nat → Nat} {rf : Int32} {V : Nat → Nat → Int32} {n dn pn fn rc la : Int32} {sz : Nat} (k : Int32) : rn_W l yX5_fine wsX5_fine ({ frames := 0, cells := 0, slots := 0, locals := 0 } : Room) D [(cI, .int)] ((rn_MW D cI m0 ma rf n dn pn fn rc la V)) [.ref m0, .int k] (some (.int (k))) (rn_MW D cI m0 ma 0 n dn pn fn rc la V) (fun x => x = m0) 0 0 sz := by
  refine rn_W.ofW (cc := cX5_fine) (maxL := 2) (ret := (some .int)) (by decide) rfl (Nat.le_of_ble_eq_true rfl) (fun p e s m below meth c ls hx hb hr hml hts hown hlocks hin hsz hF hG hS hl => ?_)
  have hl : lv_has ls 2 [(0, .ref m0), (1, .int k)] := hl
  refine lv_aload_n hx hb dX5_fine_0 rfl (lv_at hl 0 rfl) ?_
  refine lv_iconst (v := 0) hx hb dX5_fine_1 (by decide) ?_
  refine rn_put (A := (fun x => x = m0)) (ci := 5) (v := .int 0) (C := RX5) (T := TX5) (N := 18) (fs' := [.int 0, .int n, .ref (ma 0), .ref (ma 1), .ref (ma 2), .ref (ma 3), .ref (ma 4), .ref (ma 5), .int dn, .int pn, .ref (ma 6), .ref (ma 7), .ref (ma 8), .int fn, .ref (ma 9), .ref (ma 10), .int rc, .int la]) hx hb hts iw_X5_fine_5 tyX5 tyX5_ok nmX5 hown hG hS rfl hF.1 rfl 0 (by decide) fw_X5_fine_50 (Or.inl rfl) rfl rfl (Nat.le_of_ble_eq_true rfl) rfl dX5_fine_2 (fun H locs hat hz ho hS => ?_)
  have hF := hF.put hat ho
  refine lv_iload_n hx hb dX5_fine_5 rfl (lv_at hl 1 rfl) ?_
  exact rn_Wiret hx hb hr rfl hlocks hS (by decide) (by decide) rfl hF dX5_fine_6

set_option maxHeartbeats 4000000 in
set_option maxRecDepth 100000 in
theorem m_told (l : Launch) {D : va_G} {cI : ClassId} {m0 : Nat} {ma : Nat → Nat} {rf : Int32} {V : Nat → Nat → Int32} {n dn pn fn rc la : Int32} {sz : Nat} (k : Int32) : rn_W l yX5_told wsX5_told ({ frames := 0, cells := 0, slots := 0, locals := 0 } : Room) D [(cI, .int)] ((rn_MW D cI m0 ma rf n dn pn fn rc la V)) [.ref m0, .int k] (some (.int (k))) (rn_MW D cI m0 ma rf n dn pn fn (rc + 1) k V) (fun x => x = m0) 0 0 sz := by
  refine rn_W.ofW (cc := cX5_told) (maxL := 2) (ret := (some .int)) (by decide) rfl (Nat.le_of_ble_eq_true rfl) (fun p e s m below meth c ls hx hb hr hml hts hown hlocks hin hsz hF hG hS hl => ?_)
  have hl : lv_has ls 2 [(0, .ref m0), (1, .int k)] := hl
  refine lv_aload_n hx hb dX5_told_0 rfl (lv_at hl 0 rfl) ?_
  refine lv_dup hx hb dX5_told_1 rfl ?_
  refine rn_get (ci := 5) (v := .int rc) (C := RX5) (T := TX5) (N := 18) hx hb hts iw_X5_told_5 hown hG hF.1 rfl 16 (by decide) fw_X5_told_53 rfl dX5_told_2 ?_
  refine lv_iconst (v := 1) hx hb dX5_told_5 (by decide) ?_
  refine lv_iadd hx hb dX5_told_6 ?_
  refine rn_put (A := (fun x => x = m0)) (ci := 5) (v := .int (rc + 1)) (C := RX5) (T := TX5) (N := 18) (fs' := [.int rf, .int n, .ref (ma 0), .ref (ma 1), .ref (ma 2), .ref (ma 3), .ref (ma 4), .ref (ma 5), .int dn, .int pn, .ref (ma 6), .ref (ma 7), .ref (ma 8), .int fn, .ref (ma 9), .ref (ma 10), .int (rc + 1), .int la]) hx hb hts iw_X5_told_5 tyX5 tyX5_ok nmX5 hown hG hS rfl hF.1 rfl 16 (by decide) fw_X5_told_53 (Or.inl rfl) rfl rfl (Nat.le_of_ble_eq_true rfl) rfl dX5_told_7 (fun H locs hat hz ho hS => ?_)
  have hF := hF.put hat ho
  refine lv_aload_n hx hb dX5_told_10 rfl (lv_at hl 0 rfl) ?_
  refine lv_iload_n hx hb dX5_told_11 rfl (lv_at hl 1 rfl) ?_
  refine rn_put (A := (fun x => x = m0)) (ci := 5) (v := .int k) (C := RX5) (T := TX5) (N := 18) (fs' := [.int rf, .int n, .ref (ma 0), .ref (ma 1), .ref (ma 2), .ref (ma 3), .ref (ma 4), .ref (ma 5), .int dn, .int pn, .ref (ma 6), .ref (ma 7), .ref (ma 8), .int fn, .ref (ma 9), .ref (ma 10), .int (rc + 1), .int k]) hx hb hts iw_X5_told_5 tyX5 tyX5_ok nmX5 hown hG hS rfl hF.1 rfl 17 (by decide) fw_X5_told_56 (Or.inl rfl) rfl rfl (Nat.le_of_ble_eq_true rfl) rfl dX5_told_12 (fun H locs hat hz ho hS => ?_)
  have hF := hF.put hat ho
  refine lv_iload_n hx hb dX5_told_15 rfl (lv_at hl 1 rfl) ?_
  exact rn_Wiret hx hb hr rfl hlocks hS (by decide) (by decide) rfl hF dX5_told_16

set_option maxHeartbeats 4000000 in
set_option maxRecDepth 100000 in
theorem m_thrown (l : Launch) {D : va_G} {cI : ClassId} {m0 : Nat} {ma : Nat → Nat} {rf : Int32} {V : Nat → Nat → Int32} {n dn pn fn rc la : Int32} : rn_R l yX5_thrown wsX5_thrown ({ frames := 0, cells := 0, slots := 0, locals := 0 } : Room) D [(cI, .int)] ((rn_MW D cI m0 ma rf n dn pn fn rc la V)) [.ref m0] (some (.int rf)) := by
  refine rn_R.ofW (cc := cX5_thrown) (maxL := 1) (ret := (some .int)) (by decide) rfl (Nat.le_of_ble_eq_true rfl) (fun p e s m below meth c ls hx hb hr hml hts hown hlocks hF hG hl => ?_)
  have hl : lv_has ls 1 [(0, .ref m0)] := hl
  refine lv_aload_n hx hb dX5_thrown_0 rfl (lv_at hl 0 rfl) ?_
  refine rn_get (ci := 5) (v := .int rf) (C := RX5) (T := TX5) (N := 18) hx hb hts iw_X5_thrown_5 hown hG hF.1 rfl 0 (by decide) fw_X5_thrown_50 rfl dX5_thrown_1 ?_
  exact rn_iret hx hb hr rfl hlocks rfl dX5_thrown_4

/-! the arrays behind each change of the value -/
section RNM
variable {σ : rn_St} {V V' : Nat → Nat → Int32}
theorem rn_Mr.proc {j r u : Nat} {k : Int32} (h : rn_Mr σ V) (h6 : ∀ i, i < σ.pn → V' 6 i = if i = j then nI r else V 6 i) (h7 : ∀ i, i < σ.pn → V' 7 i = if i = j then nI u else V 7 i) (h8 : ∀ i, i < σ.pn → V' 8 i = if i = j then k else V 8 i) (hr : ∀ q, q ≠ 6 → q ≠ 7 → q ≠ 8 → V' q = V q) : rn_Mr (rn_proc σ j r u k) V' := by
  obtain ⟨a0, a1, a2, a3, a4, a5, a6⟩ := h
  refine ⟨fun i hi => by rw [hr 0 (by decide) (by decide) (by decide)]; exact a0 i hi, fun i h0 hi => by rw [hr 1 (by decide) (by decide) (by decide)]; exact a1 i h0 hi, fun i hi => ⟨by rw [hr 2 (by decide) (by decide) (by decide)]; exact (a2 i hi).1, fun q hq => by rw [hr 3 (by decide) (by decide) (by decide), hr 4 (by decide) (by decide) (by decide), hr 5 (by decide) (by decide) (by decide)]; exact (a2 i hi).2 q hq⟩, fun i h1 h2 => by rw [hr 2 (by decide) (by decide) (by decide)]; exact a3 i h1 h2, fun q hq => by rw [hr 3 (by decide) (by decide) (by decide), hr 4 (by decide) (by decide) (by decide), hr 5 (by decide) (by decide) (by decide)]; exact a4 q hq, fun i hi => ?_, fun q hq => by rw [hr 9 (by decide) (by decide) (by decide), hr 10 (by decide) (by decide) (by decide)]; exact a6 q hq⟩
  rw [h6 i hi, h7 i hi, h8 i hi]
  show _ = nI (va_up σ.pl j r i) ∧ _ = nI (va_up σ.pu j u i) ∧ _ = va_up σ.pr j k i
  by_cases e : i = j
  · subst e; simp [va_up]
  · rw [if_neg e, if_neg e, if_neg e, rn_up_ne _ _ e, rn_up_ne _ _ e, rn_up_ne _ _ e]; exact a5 i hi
theorem rn_Mr.newRoom {j : Nat} (hV : rn_V σ) (hn : σ.sn < 10) (h : rn_Mr σ V) (h0 : ∀ i, V' 0 i = if i = σ.sn then nI (σ.pl j) else V 0 i) (h1 : ∀ i, V' 1 i = if i = σ.sn then nI (σ.pu j) else V 1 i) (hr : ∀ q, q ≠ 0 → q ≠ 1 → V' q = V q) : rn_Mr (rn_newRoom σ j) V' := by
  obtain ⟨a0, a1, a2, a3, a4, a5, a6⟩ := h
  have hs1 := hV.1.1
  refine ⟨fun i hi => ?_, fun i hi0 hi => ?_, fun i hi => ?_, fun i h1 h2 => by rw [hr 2 (by decide) (by decide)]; exact a3 i (Nat.le_of_succ_le h1) h2, fun q hq => by rw [hr 3 (by decide) (by decide), hr 4 (by decide) (by decide), hr 5 (by decide) (by decide)]; exact a4 q hq, fun i hi => by rw [hr 6 (by decide) (by decide), hr 7 (by decide) (by decide), hr 8 (by decide) (by decide)]; exact a5 i hi, fun q hq => by rw [hr 9 (by decide) (by decide), hr 10 (by decide) (by decide)]; exact a6 q hq⟩
  · have hi : i < σ.sn + 1 := hi
    rw [h0 i]
    show _ = rn_enc (if i = 0 then none else some (va_up σ.so σ.sn (σ.pl j) i))
    by_cases e : i = σ.sn
    · rw [if_pos e, if_neg (by omega), e, rn_up_eq]; rfl
    · rw [if_neg e, rn_up_ne _ _ e]; exact a0 i (by omega)
  · have hi : i < σ.sn + 1 := hi
    rw [h1 i]
    show _ = va_up σ.sw σ.sn (nI (σ.pu j)) i
    by_cases e : i = σ.sn
    · rw [if_pos e, e, rn_up_eq]
    · rw [if_neg e, rn_up_ne _ _ e]; exact a1 i hi0 (by omega)
  · have hi : i < σ.sn + 1 := hi
    show V' 2 i = nI (va_up σ.sm σ.sn [] i).length ∧ rn_ml V' (3 * i) (va_up σ.sm σ.sn [] i)
    by_cases e : i = σ.sn
    · rw [e, rn_up_eq, hr 2 (by decide) (by decide)]
      exact ⟨a3 _ (Nat.le_refl _) hn, fun q hq => absurd hq (Nat.not_lt_zero _)⟩
    · rw [rn_up_ne _ _ e, hr 2 (by decide) (by decide)]
      exact ⟨(a2 i (by omega)).1, fun q hq => by rw [hr 3 (by decide) (by decide), hr 4 (by decide) (by decide), hr 5 (by decide) (by decide)]; exact (a2 i (by omega)).2 q hq⟩
theorem rn_Mr.fork {j : Nat} (hj : j < σ.pn) (h : rn_Mr σ V) (h6 : ∀ i, V' 6 i = if i = σ.pn then nI (σ.pl j) else V 6 i) (h7 : ∀ i, V' 7 i = if i = σ.pn then nI (σ.pu j) else V 7 i) (h8 : ∀ i, V' 8 i = if i = σ.pn then σ.pr j else V 8 i) (hr : ∀ q, q ≠ 6 → q ≠ 7 → q ≠ 8 → V' q = V q) : rn_Mr (rn_fork σ j) V' := by
  obtain ⟨a0, a1, a2, a3, a4, a5, a6⟩ := h
  refine ⟨fun i hi => by rw [hr 0 (by decide) (by decide) (by decide)]; exact a0 i hi, fun i h0 hi => by rw [hr 1 (by decide) (by decide) (by decide)]; exact a1 i h0 hi, fun i hi => ⟨by rw [hr 2 (by decide) (by decide) (by decide)]; exact (a2 i hi).1, fun q hq => by rw [hr 3 (by decide) (by decide) (by decide), hr 4 (by decide) (by decide) (by decide), hr 5 (by decide) (by decide) (by decide)]; exact (a2 i hi).2 q hq⟩, fun i h1 h2 => by rw [hr 2 (by decide) (by decide) (by decide)]; exact a3 i h1 h2, fun q hq => by rw [hr 3 (by decide) (by decide) (by decide), hr 4 (by decide) (by decide) (by decide), hr 5 (by decide) (by decide) (by decide)]; exact a4 q hq, fun i hi => ?_, fun q hq => by rw [hr 9 (by decide) (by decide) (by decide), hr 10 (by decide) (by decide) (by decide)]; exact a6 q hq⟩
  have hi : i < σ.pn + 1 := hi
  rw [h6 i, h7 i, h8 i]
  show _ = nI (va_up σ.pl σ.pn (σ.pl j) i) ∧ _ = nI (va_up σ.pu σ.pn (σ.pu j) i) ∧ _ = va_up σ.pr σ.pn (σ.pr j) i
  by_cases e : i = σ.pn
  · subst e; simp [va_up]
  · rw [if_neg e, if_neg e, if_neg e, rn_up_ne _ _ e, rn_up_ne _ _ e, rn_up_ne _ _ e]; exact a5 i (by omega)
theorem rn_Mr.addFile {j : Nat} {md : Int32} (h : rn_Mr σ V) (h9 : ∀ i, V' 9 i = if i = σ.fn then nI (σ.pu j) else V 9 i) (h10 : ∀ i, V' 10 i = if i = σ.fn then md else V 10 i) (hr : ∀ q, q ≠ 9 → q ≠ 10 → V' q = V q) : rn_Mr (rn_addFile σ j md) V' := by
  obtain ⟨a0, a1, a2, a3, a4, a5, a6⟩ := h
  refine ⟨fun i hi => by rw [hr 0 (by decide) (by decide)]; exact a0 i hi, fun i h0 hi => by rw [hr 1 (by decide) (by decide)]; exact a1 i h0 hi, fun i hi => ⟨by rw [hr 2 (by decide) (by decide)]; exact (a2 i hi).1, fun q hq => by rw [hr 3 (by decide) (by decide), hr 4 (by decide) (by decide), hr 5 (by decide) (by decide)]; exact (a2 i hi).2 q hq⟩, fun i h1 h2 => by rw [hr 2 (by decide) (by decide)]; exact a3 i h1 h2, fun q hq => by rw [hr 3 (by decide) (by decide), hr 4 (by decide) (by decide), hr 5 (by decide) (by decide)]; exact a4 q hq, fun i hi => by rw [hr 6 (by decide) (by decide), hr 7 (by decide) (by decide), hr 8 (by decide) (by decide)]; exact a5 i hi, fun i hi => ?_⟩
  have hi : i < σ.fn + 1 := hi
  rw [h9 i, h10 i]
  show _ = nI (va_up σ.fo σ.fn (σ.pu j) i) ∧ _ = va_up σ.fm σ.fn md i
  by_cases e : i = σ.fn
  · subst e; simp [va_up]
  · rw [if_neg e, if_neg e, rn_up_ne _ _ e, rn_up_ne _ _ e]; exact a6 i (by omega)
theorem rn_Mr.hand {k y : Nat} (h : rn_Mr σ V) (h9 : ∀ i, V' 9 i = if i = k then nI y else V 9 i) (hr : ∀ q, q ≠ 9 → V' q = V q) : rn_Mr (rn_hand σ k y) V' := by
  obtain ⟨a0, a1, a2, a3, a4, a5, a6⟩ := h
  refine ⟨fun i hi => by rw [hr 0 (by decide)]; exact a0 i hi, fun i h0 hi => by rw [hr 1 (by decide)]; exact a1 i h0 hi, fun i hi => ⟨by rw [hr 2 (by decide)]; exact (a2 i hi).1, fun q hq => by rw [hr 3 (by decide), hr 4 (by decide), hr 5 (by decide)]; exact (a2 i hi).2 q hq⟩, fun i h1 h2 => by rw [hr 2 (by decide)]; exact a3 i h1 h2, fun q hq => by rw [hr 3 (by decide), hr 4 (by decide), hr 5 (by decide)]; exact a4 q hq, fun i hi => by rw [hr 6 (by decide), hr 7 (by decide), hr 8 (by decide)]; exact a5 i hi, fun i hi => ?_⟩
  rw [h9 i, hr 10 (by decide)]
  show _ = nI (va_up σ.fo k y i) ∧ _ = σ.fm i
  by_cases e : i = k
  · subst e; rw [if_pos rfl, rn_up_eq]; exact ⟨rfl, (a6 i hi).2⟩
  · rw [if_neg e, rn_up_ne _ _ e]; exact a6 i hi
theorem rn_Mr.line {q : rn_Ln} (hV : rn_V σ) (hd : σ.sd.length < 3) (h : rn_Mr σ V) (h3 : ∀ i, V' 3 i = if i = 30 + σ.sd.length then nI q.1 else V 3 i) (h4 : ∀ i, V' 4 i = if i = 30 + σ.sd.length then nI q.2.1 else V 4 i) (h5 : ∀ i, V' 5 i = if i = 30 + σ.sd.length then nI q.2.2 else V 5 i) (hr : ∀ k, k ≠ 3 → k ≠ 4 → k ≠ 5 → V' k = V k) : rn_Mr (rn_draft σ (q :: σ.sd)) V' := by
  obtain ⟨a0, a1, a2, a3, a4, a5, a6⟩ := h
  have hs := hV.1.2
  refine ⟨fun i hi => by rw [hr 0 (by decide) (by decide) (by decide)]; exact a0 i hi, fun i h0 hi => by rw [hr 1 (by decide) (by decide) (by decide)]; exact a1 i h0 hi, fun i hi => ⟨by rw [hr 2 (by decide) (by decide) (by decide)]; exact (a2 i hi).1, fun k hk => ?_⟩, fun i h1 h2 => by rw [hr 2 (by decide) (by decide) (by decide)]; exact a3 i h1 h2, fun k hk => ?_, fun i hi => by rw [hr 6 (by decide) (by decide) (by decide), hr 7 (by decide) (by decide) (by decide), hr 8 (by decide) (by decide) (by decide)]; exact a5 i hi, fun k hk => by rw [hr 9 (by decide) (by decide) (by decide), hr 10 (by decide) (by decide) (by decide)]; exact a6 k hk⟩
  · have hi : i < σ.sn := hi
    have hk : k < (σ.sm i).length := hk
    have := (hV.2.2.1 i hi).2.1
    rw [h3, h4, h5, if_neg (by omega), if_neg (by omega), if_neg (by omega)]
    exact (a2 i hi).2 k hk
  · have hk : k < σ.sd.length + 1 := hk
    show _ = nI (rn_lat (q :: σ.sd) k).1 ∧ _ = nI (rn_lat (q :: σ.sd) k).2.1 ∧ _ = nI (rn_lat (q :: σ.sd) k).2.2
    rw [h3, h4, h5]
    by_cases e : k = σ.sd.length
    · subst e
      rw [if_pos rfl, if_pos rfl, if_pos rfl, rn_lat_eq]
      exact ⟨rfl, rfl, rfl⟩
    · rw [if_neg (by omega), if_neg (by omega), if_neg (by omega), rn_lat_lt _ (by omega)]
      exact a4 k (by omega)
theorem rn_Mr.draft0 (h : rn_Mr σ V) : rn_Mr (rn_draft σ []) V := by
  obtain ⟨a0, a1, a2, a3, a4, a5, a6⟩ := h
  exact ⟨a0, a1, a2, a3, fun k hk => absurd hk (Nat.not_lt_zero _), a5, a6⟩
/-- a map is written: the draft's lines come to the room's places -/
theorem rn_Mr.setMap {r : Nat} (hV : rn_V σ) (hr0 : r < σ.sn) (h : rn_Mr σ V) (h2 : ∀ i, V' 2 i = if i = r then nI σ.sd.length else V 2 i) (hl : ∀ k, k < σ.sd.length → V' 3 (3 * r + k) = V 3 (30 + k) ∧ V' 4 (3 * r + k) = V 4 (30 + k) ∧ V' 5 (3 * r + k) = V 5 (30 + k)) (ho : ∀ x, (x < 3 * r ∨ 3 * r + 3 ≤ x) → V' 3 x = V 3 x ∧ V' 4 x = V 4 x ∧ V' 5 x = V 5 x) (hr : ∀ k, k ≠ 2 → k ≠ 3 → k ≠ 4 → k ≠ 5 → V' k = V k) : rn_Mr (rn_setMap σ r) V' := by
  obtain ⟨a0, a1, a2, a3, a4, a5, a6⟩ := h
  have hs := hV.1.2
  refine ⟨fun i hi => by rw [hr 0 (by decide) (by decide) (by decide) (by decide)]; exact a0 i hi, fun i h0 hi => by rw [hr 1 (by decide) (by decide) (by decide) (by decide)]; exact a1 i h0 hi, fun i hi => ?_, fun i h1 h3 => ?_, fun k hk => absurd hk (Nat.not_lt_zero _), fun i hi => by rw [hr 6 (by decide) (by decide) (by decide) (by decide), hr 7 (by decide) (by decide) (by decide) (by decide), hr 8 (by decide) (by decide) (by decide) (by decide)]; exact a5 i hi, fun k hk => by rw [hr 9 (by decide) (by decide) (by decide) (by decide), hr 10 (by decide) (by decide) (by decide) (by decide)]; exact a6 k hk⟩
  · have hi : i < σ.sn := hi
    show V' 2 i = nI (va_up σ.sm r σ.sd i).length ∧ rn_ml V' (3 * i) (va_up σ.sm r σ.sd i)
    rw [h2]
    by_cases e : i = r
    · subst e
      rw [if_pos rfl, rn_up_eq]
      exact ⟨rfl, fun k hk => by rw [(hl k hk).1, (hl k hk).2.1, (hl k hk).2.2]; exact a4 k hk⟩
    · rw [if_neg e, rn_up_ne _ _ e]
      refine ⟨(a2 i hi).1, fun k hk => ?_⟩
      have := (hV.2.2.1 i hi).2.1
      have ho := ho (3 * i + k) (by omega)
      rw [ho.1, ho.2.1, ho.2.2]
      exact (a2 i hi).2 k hk
  · have h1 : σ.sn ≤ i := h1
    rw [h2, if_neg (by omega)]
    exact a3 i h1 h3
end RNM
