theorem rn_up_up {α : Type} (f : Nat → α) (k : Nat) (v w : α) : va_up (va_up f k v) k w = va_up f k w := by
  funext j
  by_cases h : j = k <;> simp [va_up, h]

set_option maxHeartbeats 4000000 in
set_option maxRecDepth 100000 in
theorem c_File_init (l : Launch) {D : va_G} {tys : List (ClassId × FieldType)} {f : rn_T} {q sz : Nat} {x0 x1 : Int32} (o md : Int32) (hq : f q = some (.inr (0, [.int x0, .int x1]))) : rn_W l yX0_init wsX0_init ({ frames := 1, cells := 0, slots := 0, locals := 12 } : Room) D tys (rn_S D f) [.ref q, .int o, .int md] none (rn_S D (va_up f q (some (.inr (0, [.int o, .int md]))))) (fun x => x = q) 0 0 sz := by
  refine rn_W.ofW (cc := cX0_init) (maxL := 3) (ret := none) (by decide) rfl (Nat.le_of_ble_eq_true rfl) (fun p e s m below meth c ls hx hb hr hml hts hown hlocks hin hsz hF hG hS hl => ?_)
  have hl : lv_has ls 3 [(0, .ref q), (1, .int o), (2, .int md)] := hl
  refine lv_aload_n hx hb dX0_init_0 rfl (lv_at hl 0 rfl) ?_
  refine W.objInit hx hb hown (hts _ (mw_X0_init_3)) (hts _ ow_X0_init_1) (hts _ ow_X0_init_2) rfl (by rw [hml]; exact hl.1) rfl dX0_init_1 (Nat.le_of_ble_eq_true rfl) (Nat.le_of_ble_eq_true rfl) ?_
  refine W.eq (g2 := F0 m 4 ls []) rfl ?_
  refine lv_aload_n hx hb dX0_init_4 rfl (lv_at hl 0 rfl) ?_
  refine lv_iload_n hx hb dX0_init_5 rfl (lv_at hl 1 rfl) ?_
  refine rn_put (A := fun x => x = q) (ci := 0) (v := .int o) (C := RX0) (T := TX0) (N := 2) (fs' := [.int o, .int x1]) hx hb hts iw_X0_init_0 tyX0 tyX0_ok nmX0 hown hG hS rfl (hF _ _ hq) rfl 0 (by decide) fw_X0_init_9 (Or.inl rfl) rfl rfl (Nat.le_of_ble_eq_true rfl) rfl dX0_init_6 (fun H locs hat hz ho hS => ?_)
  have hF := hF.set hat ho
  refine lv_aload_n hx hb dX0_init_9 rfl (lv_at hl 0 rfl) ?_
  refine lv_iload_n hx hb dX0_init_10 rfl (lv_at hl 2 rfl) ?_
  refine rn_put (A := fun x => x = q) (ci := 0) (v := .int md) (C := RX0) (T := TX0) (N := 2) (fs' := [.int o, .int md]) hx hb hts iw_X0_init_0 tyX0 tyX0_ok nmX0 hown hG hS rfl (hF _ _ (rn_up_eq _ _ _)) rfl 1 (by decide) fw_X0_init_15 (Or.inr ⟨hin, rfl, rfl⟩) rfl rfl (Nat.le_of_ble_eq_true rfl) rfl dX0_init_11 (fun H locs hat hz ho hS => ?_)
  have hF := hF.set hat ho
  rw [rn_up_up] at hF
  exact rn_Wvret hx hb hr hlocks hS (by decide) (by decide) rfl hF dX0_init_14

set_option maxHeartbeats 4000000 in
set_option maxRecDepth 100000 in
theorem c_Process_init (l : Launch) {D : va_G} {tys : List (ClassId × FieldType)} {f : rn_T} {q sz : Nat} {x1 x2 : Int32} {r : Nat} (u k : Int32) (hq : f q = some (.inr (1, [.null, .int x1, .int x2]))) : rn_W l yX1_init wsX1_init ({ frames := 1, cells := 0, slots := 0, locals := 12 } : Room) D tys (rn_S D f) [.ref q, .ref r, .int u, .int k] none (rn_S D (va_up f q (some (.inr (1, [.ref r, .int u, .int k]))))) (fun x => x = q) 0 0 sz := by
  refine rn_W.ofW (cc := cX1_init) (maxL := 4) (ret := none) (by decide) rfl (Nat.le_of_ble_eq_true rfl) (fun p e s m below meth c ls hx hb hr hml hts hown hlocks hin hsz hF hG hS hl => ?_)
  have hl : lv_has ls 4 [(0, .ref q), (1, .ref r), (2, .int u), (3, .int k)] := hl
  refine lv_aload_n hx hb dX1_init_0 rfl (lv_at hl 0 rfl) ?_
  refine W.objInit hx hb hown (hts _ (mw_X1_init_3)) (hts _ ow_X1_init_1) (hts _ ow_X1_init_2) rfl (by rw [hml]; exact hl.1) rfl dX1_init_1 (Nat.le_of_ble_eq_true rfl) (Nat.le_of_ble_eq_true rfl) ?_
  refine W.eq (g2 := F0 m 4 ls []) rfl ?_
  refine lv_aload_n hx hb dX1_init_4 rfl (lv_at hl 0 rfl) ?_
  refine lv_aload_n hx hb dX1_init_5 rfl (lv_at hl 1 rfl) ?_
  refine rn_put (A := fun x => x = q) (ci := 1) (v := .ref r) (C := RX1) (T := TX1) (N := 3) (fs' := [.ref r, .int x1, .int x2]) hx hb hts iw_X1_init_1 tyX1 tyX1_ok nmX1 hown hG hS rfl (hF _ _ hq) rfl 0 (by decide) fw_X1_init_9 (Or.inl rfl) rfl rfl (Nat.le_of_ble_eq_true rfl) rfl dX1_init_6 (fun H locs hat hz ho hS => ?_)
  have hF := hF.set hat ho
  refine lv_aload_n hx hb dX1_init_9 rfl (lv_at hl 0 rfl) ?_
  refine lv_iload_n hx hb dX1_init_10 rfl (lv_at hl 2 rfl) ?_
  refine rn_put (A := fun x => x = q) (ci := 1) (v := .int u) (C := RX1) (T := TX1) (N := 3) (fs' := [.ref r, .int u, .int x2]) hx hb hts iw_X1_init_1 tyX1 tyX1_ok nmX1 hown hG hS rfl (hF _ _ (rn_up_eq _ _ _)) rfl 1 (by decide) fw_X1_init_15 (Or.inl rfl) rfl rfl (Nat.le_of_ble_eq_true rfl) rfl dX1_init_11 (fun H locs hat hz ho hS => ?_)
  have hF := hF.set hat ho
  rw [rn_up_up] at hF
  refine lv_aload_n hx hb dX1_init_14 rfl (lv_at hl 0 rfl) ?_
  refine lv_iload_n hx hb dX1_init_15 rfl (lv_at hl 3 rfl) ?_
  refine rn_put (A := fun x => x = q) (ci := 1) (v := .int k) (C := RX1) (T := TX1) (N := 3) (fs' := [.ref r, .int u, .int k]) hx hb hts iw_X1_init_1 tyX1 tyX1_ok nmX1 hown hG hS rfl (hF _ _ (rn_up_eq _ _ _)) rfl 2 (by decide) fw_X1_init_19 (Or.inl rfl) rfl rfl (Nat.le_of_ble_eq_true rfl) rfl dX1_init_16 (fun H locs hat hz ho hS => ?_)
  have hF := hF.set hat ho
  rw [rn_up_up] at hF
  exact rn_Wvret hx hb hr hlocks hS (by decide) (by decide) rfl hF dX1_init_19

set_option maxHeartbeats 4000000 in
set_option maxRecDepth 100000 in
theorem c_Line_init (l : Launch) {D : va_G} {tys : List (ClassId × FieldType)} {f : rn_T} {q sz : Nat} {x0 x1 x2 : Int32} (ea eb ec : Int32) (z : Option Nat) (hq : f q = some (.inr (2, [.int x0, .int x1, .int x2, .null]))) : rn_W l yX2_init wsX2_init ({ frames := 1, cells := 0, slots := 0, locals := 12 } : Room) D tys (rn_S D f) [.ref q, .int ea, .int eb, .int ec, va_rf z] none (rn_S D (va_up f q (some (.inr (2, [.int ea, .int eb, .int ec, va_rf z]))))) (fun x => x = q) 0 0 sz := by
  refine rn_W.ofW (cc := cX2_init) (maxL := 5) (ret := none) (by decide) rfl (by cases z <;> exact Nat.le_of_ble_eq_true rfl) (fun p e s m below meth c ls hx hb hr hml hts hown hlocks hin hsz hF hG hS hl => ?_)
  have hl : lv_has ls 5 [(0, .ref q), (1, .int ea), (2, .int eb), (3, .int ec), (4, va_rf z)] := by cases z <;> exact hl
  refine lv_aload_n hx hb dX2_init_0 rfl (lv_at hl 0 rfl) ?_
  refine W.objInit hx hb hown (hts _ (mw_X2_init_1)) (hts _ ow_X2_init_1) (hts _ ow_X2_init_2) rfl (by rw [hml]; exact hl.1) rfl dX2_init_1 (Nat.le_of_ble_eq_true rfl) (Nat.le_of_ble_eq_true rfl) ?_
  refine W.eq (g2 := F0 m 4 ls []) rfl ?_
  refine lv_aload_n hx hb dX2_init_4 rfl (lv_at hl 0 rfl) ?_
  refine lv_iload_n hx hb dX2_init_5 rfl (lv_at hl 1 rfl) ?_
  refine rn_put (A := fun x => x = q) (ci := 2) (v := .int ea) (C := RX2) (T := TX2) (N := 4) (fs' := [.int ea, .int x1, .int x2, .null]) hx hb hts iw_X2_init_2 tyX2 tyX2_ok nmX2 hown hG hS rfl (hF _ _ hq) rfl 0 (by decide) fw_X2_init_7 (Or.inr ⟨hin, rfl, rfl⟩) rfl rfl (Nat.le_of_ble_eq_true rfl) rfl dX2_init_6 (fun H locs hat hz ho hS => ?_)
  have hF := hF.set hat ho
  refine lv_aload_n hx hb dX2_init_9 rfl (lv_at hl 0 rfl) ?_
  refine lv_iload_n hx hb dX2_init_10 rfl (lv_at hl 2 rfl) ?_
  refine rn_put (A := fun x => x = q) (ci := 2) (v := .int eb) (C := RX2) (T := TX2) (N := 4) (fs' := [.int ea, .int eb, .int x2, .null]) hx hb hts iw_X2_init_2 tyX2 tyX2_ok nmX2 hown hG hS rfl (hF _ _ (rn_up_eq _ _ _)) rfl 1 (by decide) fw_X2_init_13 (Or.inr ⟨hin, rfl, rfl⟩) rfl rfl (Nat.le_of_ble_eq_true rfl) rfl dX2_init_11 (fun H locs hat hz ho hS => ?_)
  have hF := hF.set hat ho
  rw [rn_up_up] at hF
  refine lv_aload_n hx hb dX2_init_14 rfl (lv_at hl 0 rfl) ?_
  refine lv_iload_n hx hb dX2_init_15 rfl (lv_at hl 3 rfl) ?_
  refine rn_put (A := fun x => x = q) (ci := 2) (v := .int ec) (C := RX2) (T := TX2) (N := 4) (fs' := [.int ea, .int eb, .int ec, .null]) hx hb hts iw_X2_init_2 tyX2 tyX2_ok nmX2 hown hG hS rfl (hF _ _ (rn_up_eq _ _ _)) rfl 2 (by decide) fw_X2_init_16 (Or.inr ⟨hin, rfl, rfl⟩) rfl rfl (Nat.le_of_ble_eq_true rfl) rfl dX2_init_16 (fun H locs hat hz ho hS => ?_)
  have hF := hF.set hat ho
  rw [rn_up_up] at hF
  refine lv_aload_n hx hb dX2_init_19 rfl (lv_at hl 0 rfl) ?_
  refine rn_aload hx hb dX2_init_20 (lv_at hl 4 rfl) ?_
  refine rn_put (A := fun x => x = q) (ci := 2) (v := va_rf z) (C := RX2) (T := TX2) (N := 4) (fs' := [.int ea, .int eb, .int ec, va_rf z]) hx hb hts iw_X2_init_2 tyX2 tyX2_ok nmX2 hown hG hS rfl (hF _ _ (rn_up_eq _ _ _)) rfl 3 (by decide) fw_X2_init_19 (Or.inr ⟨hin, rfl, rfl⟩) (rn_nrf _ _) (rn_fitrf _ _) (Nat.le_of_ble_eq_true rfl) rfl dX2_init_22 (fun H locs hat hz ho hS => ?_)
  have hF := hF.set hat ho
  rw [rn_up_up] at hF
  exact rn_Wvret hx hb hr hlocks hS (by decide) (by decide) rfl hF dX2_init_25

set_option maxHeartbeats 4000000 in
set_option maxRecDepth 100000 in
theorem c_Room_init (l : Launch) {D : va_G} {tys : List (ClassId × FieldType)} {f : rn_T} {q sz : Nat} {x0 x2 : Int32} (n : Int32) (z : Option Nat) (w : Int32) (hq : f q = some (.inr (3, [.int x0, .null, .int x2, .null]))) : rn_W l yX3_init wsX3_init ({ frames := 1, cells := 0, slots := 0, locals := 12 } : Room) D tys (rn_S D f) [.ref q, .int n, va_rf z, .int w] none (rn_S D (va_up f q (some (.inr (3, [.int n, va_rf z, .int w, .null]))))) (fun x => x = q) 0 0 sz := by
  refine rn_W.ofW (cc := cX3_init) (maxL := 4) (ret := none) (by decide) rfl (by cases z <;> exact Nat.le_of_ble_eq_true rfl) (fun p e s m below meth c ls hx hb hr hml hts hown hlocks hin hsz hF hG hS hl => ?_)
  have hl : lv_has ls 4 [(0, .ref q), (1, .int n), (2, va_rf z), (3, .int w)] := by cases z <;> exact hl
  refine lv_aload_n hx hb dX3_init_0 rfl (lv_at hl 0 rfl) ?_
  refine W.objInit hx hb hown (hts _ (mw_X3_init_3)) (hts _ ow_X3_init_1) (hts _ ow_X3_init_2) rfl (by rw [hml]; exact hl.1) rfl dX3_init_1 (Nat.le_of_ble_eq_true rfl) (Nat.le_of_ble_eq_true rfl) ?_
  refine W.eq (g2 := F0 m 4 ls []) rfl ?_
  refine lv_aload_n hx hb dX3_init_4 rfl (lv_at hl 0 rfl) ?_
  refine lv_iload_n hx hb dX3_init_5 rfl (lv_at hl 1 rfl) ?_
  refine rn_put (A := fun x => x = q) (ci := 3) (v := .int n) (C := RX3) (T := TX3) (N := 4) (fs' := [.int n, .null, .int x2, .null]) hx hb hts iw_X3_init_3 tyX3 tyX3_ok nmX3 hown hG hS rfl (hF _ _ hq) rfl 0 (by decide) fw_X3_init_9 (Or.inr ⟨hin, rfl, rfl⟩) rfl rfl (Nat.le_of_ble_eq_true rfl) rfl dX3_init_6 (fun H locs hat hz ho hS => ?_)
  have hF := hF.set hat ho
  refine lv_aload_n hx hb dX3_init_9 rfl (lv_at hl 0 rfl) ?_
  refine rn_aload_n hx hb dX3_init_10 rfl (lv_at hl 2 rfl) ?_
  refine rn_put (A := fun x => x = q) (ci := 3) (v := va_rf z) (C := RX3) (T := TX3) (N := 4) (fs' := [.int n, va_rf z, .int x2, .null]) hx hb hts iw_X3_init_3 tyX3 tyX3_ok nmX3 hown hG hS rfl (hF _ _ (rn_up_eq _ _ _)) rfl 1 (by decide) fw_X3_init_15 (Or.inr ⟨hin, rfl, rfl⟩) (rn_nrf _ _) (rn_fitrf _ _) (Nat.le_of_ble_eq_true rfl) rfl dX3_init_11 (fun H locs hat hz ho hS => ?_)
  have hF := hF.set hat ho
  rw [rn_up_up] at hF
  refine lv_aload_n hx hb dX3_init_14 rfl (lv_at hl 0 rfl) ?_
  refine lv_iload_n hx hb dX3_init_15 rfl (lv_at hl 3 rfl) ?_
  refine rn_put (A := fun x => x = q) (ci := 3) (v := .int w) (C := RX3) (T := TX3) (N := 4) (fs' := [.int n, va_rf z, .int w, .null]) hx hb hts iw_X3_init_3 tyX3 tyX3_ok nmX3 hown hG hS rfl (hF _ _ (rn_up_eq _ _ _)) rfl 2 (by decide) fw_X3_init_19 (Or.inr ⟨hin, rfl, rfl⟩) rfl rfl (Nat.le_of_ble_eq_true rfl) rfl dX3_init_16 (fun H locs hat hz ho hS => ?_)
  have hF := hF.set hat ho
  rw [rn_up_up] at hF
  refine lv_aload_n hx hb dX3_init_19 rfl (lv_at hl 0 rfl) ?_
  refine lv_null hx hb dX3_init_20 ?_
  refine rn_put (A := fun x => x = q) (ci := 3) (v := .null) (C := RX3) (T := TX3) (N := 4) (fs' := [.int n, va_rf z, .int w, .null]) hx hb hts iw_X3_init_3 tyX3 tyX3_ok nmX3 hown hG hS rfl (hF _ _ (rn_up_eq _ _ _)) rfl 3 (by decide) fw_X3_init_22 (Or.inl rfl) rfl rfl (Nat.le_of_ble_eq_true rfl) rfl dX3_init_21 (fun H locs hat hz ho hS => ?_)
  have hF := hF.set hat ho
  rw [rn_up_up] at hF
  exact rn_Wvret hx hb hr hlocks hS (by decide) (by decide) rfl hF dX3_init_24

set_option maxHeartbeats 4000000 in
set_option maxRecDepth 100000 in
theorem c_moveInto (l : Launch) {D : va_G} {tys : List (ClassId × FieldType)} {f : rn_T} {q sz : Nat} {r0 r : Nat} {u k : Int32} (hq : f q = some (.inr (1, [.ref r0, .int u, .int k]))) : rn_W l yX1_moveInto wsX1_moveInto ({ frames := 0, cells := 0, slots := 0, locals := 0 } : Room) D tys (rn_S D f) [.ref q, .ref r] none (rn_S D (va_up f q (some (.inr (1, [.ref r, .int u, .int 15]))))) (fun x => x = q) 0 0 sz := by
  refine rn_W.ofW (cc := cX1_moveInto) (maxL := 2) (ret := none) (by decide) rfl (Nat.le_of_ble_eq_true rfl) (fun p e s m below meth c ls hx hb hr hml hts hown hlocks hin hsz hF hG hS hl => ?_)
  have hl : lv_has ls 2 [(0, .ref q), (1, .ref r)] := hl
  refine lv_aload_n hx hb dX1_moveInto_0 rfl (lv_at hl 0 rfl) ?_
  refine lv_aload_n hx hb dX1_moveInto_1 rfl (lv_at hl 1 rfl) ?_
  refine rn_put (A := fun x => x = q) (ci := 1) (v := .ref r) (C := RX1) (T := TX1) (N := 3) (fs' := [.ref r, .int u, .int k]) hx hb hts iw_X1_moveInto_1 tyX1 tyX1_ok nmX1 hown hG hS rfl (hF _ _ hq) rfl 0 (by decide) fw_X1_moveInto_9 (Or.inl rfl) rfl rfl (Nat.le_of_ble_eq_true rfl) rfl dX1_moveInto_2 (fun H locs hat hz ho hS => ?_)
  have hF := hF.set hat ho
  refine lv_aload_n hx hb dX1_moveInto_5 rfl (lv_at hl 0 rfl) ?_
  refine lv_bipush (v := 15) hx hb dX1_moveInto_6 (by decide +kernel) ?_
  refine rn_put (A := fun x => x = q) (ci := 1) (v := .int 15) (C := RX1) (T := TX1) (N := 3) (fs' := [.ref r, .int u, .int 15]) hx hb hts iw_X1_moveInto_1 tyX1 tyX1_ok nmX1 hown hG hS rfl (hF _ _ (rn_up_eq _ _ _)) rfl 2 (by decide) fw_X1_moveInto_19 (Or.inl rfl) rfl rfl (Nat.le_of_ble_eq_true rfl) rfl dX1_moveInto_8 (fun H locs hat hz ho hS => ?_)
  have hF := hF.set hat ho
  rw [rn_up_up] at hF
  exact rn_Wvret hx hb hr hlocks hS (by decide) (by decide) rfl hF dX1_moveInto_11

set_option maxHeartbeats 4000000 in
set_option maxRecDepth 100000 in
theorem c_refuse (l : Launch) {D : va_G} {tys : List (ClassId × FieldType)} {f : rn_T} {q sz : Nat} {aR aP aF : Nat} {n0 n1 n2 rc la : Int32} {dh : Option Nat} (k : Int32) (hq : f q = some (.inr (4, [.ref aR, .int n0, .ref aP, .int n1, .ref aF, .int n2, va_rf dh, .int rc, .int la]))) : rn_W l yX4_refuse wsX4_refuse ({ frames := 0, cells := 0, slots := 0, locals := 0 } : Room) D tys (rn_S D f) [.ref q, .int k] (some (.int k)) (rn_S D (va_up f q (some (.inr (4, [.ref aR, .int n0, .ref aP, .int n1, .ref aF, .int n2, va_rf dh, .int (rc + 1), .int k]))))) (fun x => x = q) 0 0 sz := by
  refine rn_W.ofW (cc := cX4_refuse) (maxL := 2) (ret := (some .int)) (by decide) rfl (Nat.le_of_ble_eq_true rfl) (fun p e s m below meth c ls hx hb hr hml hts hown hlocks hin hsz hF hG hS hl => ?_)
  have hl : lv_has ls 2 [(0, .ref q), (1, .int k)] := hl
  refine lv_aload_n hx hb dX4_refuse_0 rfl (lv_at hl 0 rfl) ?_
  refine lv_dup hx hb dX4_refuse_1 rfl ?_
  refine rn_get (ci := 4) (v := .int rc) (C := RX4) (T := TX4) (N := 9) hx hb hts iw_X4_refuse_4 hown hG (hF _ _ hq) rfl 7 (by decide) fw_X4_refuse_47 rfl dX4_refuse_2 ?_
  refine lv_iconst (v := 1) hx hb dX4_refuse_5 (by decide) ?_
  refine lv_iadd hx hb dX4_refuse_6 ?_
  refine rn_put (A := fun x => x = q) (ci := 4) (v := .int (rc + 1)) (C := RX4) (T := TX4) (N := 9) (fs' := [.ref aR, .int n0, .ref aP, .int n1, .ref aF, .int n2, va_rf dh, .int (rc + 1), .int la]) hx hb hts iw_X4_refuse_4 tyX4 tyX4_ok nmX4 hown hG hS rfl (hF _ _ hq) rfl 7 (by decide) fw_X4_refuse_47 (Or.inl rfl) rfl rfl (Nat.le_of_ble_eq_true rfl) rfl dX4_refuse_7 (fun H locs hat hz ho hS => ?_)
  have hF := hF.set hat ho
  refine lv_aload_n hx hb dX4_refuse_10 rfl (lv_at hl 0 rfl) ?_
  refine lv_iload_n hx hb dX4_refuse_11 rfl (lv_at hl 1 rfl) ?_
  refine rn_put (A := fun x => x = q) (ci := 4) (v := .int k) (C := RX4) (T := TX4) (N := 9) (fs' := [.ref aR, .int n0, .ref aP, .int n1, .ref aF, .int n2, va_rf dh, .int (rc + 1), .int k]) hx hb hts iw_X4_refuse_4 tyX4 tyX4_ok nmX4 hown hG hS rfl (hF _ _ (rn_up_eq _ _ _)) rfl 8 (by decide) fw_X4_refuse_50 (Or.inl rfl) rfl rfl (Nat.le_of_ble_eq_true rfl) rfl dX4_refuse_12 (fun H locs hat hz ho hS => ?_)
  have hF := hF.set hat ho
  rw [rn_up_up] at hF
  refine lv_iload_n hx hb dX4_refuse_15 rfl (lv_at hl 1 rfl) ?_
  exact rn_Wiret hx hb hr rfl hlocks hS (by decide) (by decide) rfl hF dX4_refuse_16
