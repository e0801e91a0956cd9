theorem rn_lt01 {x : Int32} (h : x < 0) : x < 1 := by
  rw [rn_lt] at h ⊢
  have h3 : (0 : Int32).toInt = 0 := by decide
  have h4 : (1 : Int32).toInt = 1 := by decide
  omega

set_option maxHeartbeats 4000000 in
theorem o_makeRoom (l : Launch) (hfl : l.stackTraces = false) {D : va_G} {cR cP cF cL : ClassId} {h0 aR aP aF : Nat} {ra pa fa : Nat → Nat} {hd : Nat → Option Nat} {dh : Option Nat} {f : rn_T} {σ : rn_St} (hV : rn_V σ) (hC : rn_CI cR cP cF h0 aR aP aF ra pa fa hd dh f σ) {o : Nat} {g : Nat → Int64} (hfo : f o = none) {cI : ClassId} {m0 : Nat} {ma : Nat → Nat} {V : Nat → Nat → Int32} (hM : rn_Mr σ V) (a1 : Int32) : ∃ (k v : Int32) (σ' : rn_St), (∀ sz : Nat, rn_LT l yL_makeRoom wsL_makeRoom ({ frames := 8, cells := 1, slots := 6, locals := 140 } : Room) D (rn_tyl cR cP cF cL) (rn_LB D f o cL g) ([.ref h0, .int a1, .ref o]) (some (.int k)) (rn_LP D cR cP cF h0 f sz σ' o cL k v) (rn_LA f sz o) 1 6 sz) ∧ (∀ (rf : Int32) (sz : Nat), rn_W l yX5_makeRoom wsX5_makeRoom ({ frames := 4, cells := 0, slots := 0, locals := 96 } : Room) D [(cI, .int)] (rn_MW D cI m0 ma rf (nI σ.sn) (nI σ.sd.length) (nI σ.pn) (nI σ.fn) σ.rc σ.la V) ([.ref m0, .int a1]) (some (.int v)) (rn_MP D cI m0 ma k σ') (rn_mA m0 ma) 0 0 sz) := by
  by_cases hp : ∃ j, j < σ.pn ∧ a1 = nI j
  rotate_left
  · exact ⟨_, _, _, fun sz => l_makeRoom_p l hfl hV hC hfo hp sz, fun rf sz => n_makeRoom_p l hV hM hp sz⟩
  obtain ⟨j, hj0, rfl⟩ := hp
  by_cases hfull : σ.sn = 10
  · exact ⟨_, _, _, fun sz => l_makeRoom_s l hfl hV hC hfo hj0 hfull sz, fun rf sz => n_makeRoom_s l hV hM hj0 hfull sz⟩
  have hn0 : σ.sn < 10 := by have := hV.1.2; omega
  exact ⟨_, _, _, fun sz => l_makeRoom_o l hV hC hfo hj0 hn0 sz, fun rf sz => n_makeRoom l hV hM hj0 hn0 sz⟩

set_option maxHeartbeats 4000000 in
theorem o_line (l : Launch) (hfl : l.stackTraces = false) {D : va_G} {cR cP cF cL : ClassId} {h0 aR aP aF : Nat} {ra pa fa : Nat → Nat} {hd : Nat → Option Nat} {dh : Option Nat} {f : rn_T} {σ : rn_St} (hV : rn_V σ) (hC : rn_CI cR cP cF h0 aR aP aF ra pa fa hd dh f σ) {o : Nat} {g : Nat → Int64} (hfo : f o = none) {cI : ClassId} {m0 : Nat} {ma : Nat → Nat} {V : Nat → Nat → Int32} (hM : rn_Mr σ V) (a1 : Int32) (a2 : Int32) (a3 : Int32) : ∃ (k v : Int32) (σ' : rn_St), (∀ sz : Nat, rn_LT l yL_line wsL_line ({ frames := 8, cells := 1, slots := 6, locals := 140 } : Room) D (rn_tyl cR cP cF cL) (rn_LB D f o cL g) ([.ref h0, .int a1, .int a2, .int a3, .ref o]) (some (.int k)) (rn_LP D cR cP cF h0 f sz σ' o cL k v) (rn_LA f sz o) 1 6 sz) ∧ (∀ (rf : Int32) (sz : Nat), rn_W l yX5_line wsX5_line ({ frames := 4, cells := 0, slots := 0, locals := 96 } : Room) D [(cI, .int)] (rn_MW D cI m0 ma rf (nI σ.sn) (nI σ.sd.length) (nI σ.pn) (nI σ.fn) σ.rc σ.la V) ([.ref m0, .int a1, .int a2, .int a3]) (some (.int v)) (rn_MP D cI m0 ma k σ') (rn_mA m0 ma) 0 0 sz) := by
  rcases rn_num a1 998 (by decide) with ⟨a, ha0, rfl⟩ | hbad
  rotate_left
  · exact ⟨_, _, _, fun sz => l_line_1 l hfl hV hC hfo hbad sz, fun rf sz => n_line_1 l hV hM hbad sz⟩
  rcases rn_num a2 998 (by decide) with ⟨b, hb0, rfl⟩ | hbad
  rotate_left
  · exact ⟨_, _, _, fun sz => l_line_2 l hfl hV hC hfo ha0 hbad sz, fun rf sz => n_line_2 l hV hM ha0 hbad sz⟩
  rcases rn_num a3 999 (by decide) with ⟨c9, hc9, rfl⟩ | hbad
  rotate_left
  · exact ⟨_, _, _, fun sz => l_line_3 l hfl hV hC hfo ha0 hb0 (hbad.imp (fun h => rn_lt01 h) id) sz, fun rf sz => n_line_3 l hV hM ha0 hb0 (hbad.imp (fun h => rn_lt01 h) id) sz⟩
  by_cases h9 : c9 = 0
  · subst h9; exact ⟨_, _, _, fun sz => l_line_3 l hfl hV hC hfo ha0 hb0 (Or.inl (by decide)) sz, fun rf sz => n_line_3 l hV hM ha0 hb0 (Or.inl (by decide)) sz⟩
  have hc0 : 1 ≤ c9 ∧ c9 ≤ 999 := ⟨by omega, hc9⟩
  by_cases hfit : a + c9 ≤ 999
  rotate_left
  · exact ⟨_, _, _, fun sz => l_line_4 l hfl hV hC hfo ha0 hb0 hc0 (Nat.not_le.mp hfit) sz, fun rf sz => n_line_4 l hV hM ha0 hb0 hc0 (Nat.not_le.mp hfit) sz⟩
  by_cases hfit2 : b + c9 ≤ 999
  rotate_left
  · exact ⟨_, _, _, fun sz => l_line_5 l hfl hV hC hfo ha0 hb0 hc0 hfit (Nat.not_le.mp hfit2) sz, fun rf sz => n_line_5 l hV hM ha0 hb0 hc0 hfit (Nat.not_le.mp hfit2) sz⟩
  by_cases hfull : σ.sd.length = 3
  · exact ⟨_, _, _, fun sz => l_line_s l hfl hV hC hfo ha0 hb0 hc0 hfit hfit2 hfull sz, fun rf sz => n_line_s l hV hM ha0 hb0 hc0 hfit hfit2 hfull sz⟩
  have hn0 : σ.sd.length < 3 := by have := hV.2.2.2.2.1.2; omega
  exact ⟨_, _, _, fun sz => l_line_o l hV hC hfo ha0 hb0 hc0 hfit hfit2 hn0 sz, fun rf sz => n_line l hV hM ha0 hb0 hc0 hfit hfit2 hn0 sz⟩

set_option maxHeartbeats 4000000 in
theorem o_writeMap (l : Launch) (hfl : l.stackTraces = false) {D : va_G} {cR cP cF cL : ClassId} {h0 aR aP aF : Nat} {ra pa fa : Nat → Nat} {hd : Nat → Option Nat} {dh : Option Nat} {f : rn_T} {σ : rn_St} (hV : rn_V σ) (hC : rn_CI cR cP cF h0 aR aP aF ra pa fa hd dh f σ) {o : Nat} {g : Nat → Int64} (hfo : f o = none) {cI : ClassId} {m0 : Nat} {ma : Nat → Nat} {V : Nat → Nat → Int32} (hM : rn_Mr σ V) (a1 : Int32) (a2 : Int32) : ∃ (k v : Int32) (σ' : rn_St), (∀ sz : Nat, rn_LT l yL_writeMap wsL_writeMap ({ frames := 8, cells := 1, slots := 6, locals := 140 } : Room) D (rn_tyl cR cP cF cL) (rn_LB D f o cL g) ([.ref h0, .int a1, .int a2, .ref o]) (some (.int k)) (rn_LP D cR cP cF h0 f sz σ' o cL k v) (rn_LA f sz o) 1 6 sz) ∧ (∀ (rf : Int32) (sz : Nat), rn_W l yX5_writeMap wsX5_writeMap ({ frames := 4, cells := 0, slots := 0, locals := 96 } : Room) D [(cI, .int)] (rn_MW D cI m0 ma rf (nI σ.sn) (nI σ.sd.length) (nI σ.pn) (nI σ.fn) σ.rc σ.la V) ([.ref m0, .int a1, .int a2]) (some (.int v)) (rn_MP D cI m0 ma k σ') (rn_mA m0 ma) 0 0 sz) := by
  by_cases hp : ∃ j, j < σ.pn ∧ a1 = nI j
  rotate_left
  · exact ⟨_, _, _, fun sz => l_writeMap_p l hfl hV hC hfo hp sz, fun rf sz => n_writeMap_p l hV hM hp sz⟩
  obtain ⟨j, hj0, rfl⟩ := hp
  by_cases hr : ∃ i, i < σ.sn ∧ a2 = nI i
  rotate_left
  · exact ⟨_, _, _, fun sz => l_writeMap_r l hfl hV hC hfo hj0 hr sz, fun rf sz => n_writeMap_r l hV hM hj0 hr sz⟩
  obtain ⟨i, hi0, rfl⟩ := hr
  by_cases hi9 : i = 0
  · subst hi9; exact ⟨_, _, _, fun sz => l_writeMap_0 l hfl hV hC hfo hj0 sz, fun rf sz => n_writeMap_0 l hV hM hj0 sz⟩
  exact ⟨_, _, _, fun sz => l_writeMap_o l hV hC hfo hj0 hi0 hi9 sz, fun rf sz => n_writeMap l hV hM hj0 hi0 hi9 sz⟩

set_option maxHeartbeats 4000000 in
theorem o_outerOf (l : Launch) (hfl : l.stackTraces = false) {D : va_G} {cR cP cF cL : ClassId} {h0 aR aP aF : Nat} {ra pa fa : Nat → Nat} {hd : Nat → Option Nat} {dh : Option Nat} {f : rn_T} {σ : rn_St} (hV : rn_V σ) (hC : rn_CI cR cP cF h0 aR aP aF ra pa fa hd dh f σ) {o : Nat} {g : Nat → Int64} (hfo : f o = none) {cI : ClassId} {m0 : Nat} {ma : Nat → Nat} {V : Nat → Nat → Int32} (hM : rn_Mr σ V) (a1 : Int32) : ∃ (k v : Int32) (σ' : rn_St), (∀ sz : Nat, rn_LT l yL_outerOf wsL_outerOf ({ frames := 8, cells := 1, slots := 6, locals := 140 } : Room) D (rn_tyl cR cP cF cL) (rn_LB D f o cL g) ([.ref h0, .int a1, .ref o]) (some (.int k)) (rn_LP D cR cP cF h0 f sz σ' o cL k v) (rn_LA f sz o) 1 6 sz) ∧ (∀ (rf : Int32) (sz : Nat), rn_W l yX5_outerOf wsX5_outerOf ({ frames := 4, cells := 0, slots := 0, locals := 96 } : Room) D [(cI, .int)] (rn_MW D cI m0 ma rf (nI σ.sn) (nI σ.sd.length) (nI σ.pn) (nI σ.fn) σ.rc σ.la V) ([.ref m0, .int a1]) (some (.int v)) (rn_MP D cI m0 ma k σ') (rn_mA m0 ma) 0 0 sz) := by
  by_cases hr : ∃ i, i < σ.sn ∧ a1 = nI i
  rotate_left
  · exact ⟨_, _, _, fun sz => l_outerOf_r l hfl hV hC hfo hr sz, fun rf sz => n_outerOf_r l hV hM hr sz⟩
  obtain ⟨i, hi0, rfl⟩ := hr
  exact ⟨_, _, _, fun sz => l_outerOf_o l hV hC hfo hi0 sz, fun rf sz => n_outerOf l hV hM hi0 sz⟩

set_option maxHeartbeats 4000000 in
theorem o_leadsTo (l : Launch) (hfl : l.stackTraces = false) {D : va_G} {cR cP cF cL : ClassId} {h0 aR aP aF : Nat} {ra pa fa : Nat → Nat} {hd : Nat → Option Nat} {dh : Option Nat} {f : rn_T} {σ : rn_St} (hV : rn_V σ) (hC : rn_CI cR cP cF h0 aR aP aF ra pa fa hd dh f σ) {o : Nat} {g : Nat → Int64} (hfo : f o = none) {cI : ClassId} {m0 : Nat} {ma : Nat → Nat} {V : Nat → Nat → Int32} (hM : rn_Mr σ V) (a1 : Int32) (a2 : Int32) : ∃ (k v : Int32) (σ' : rn_St), (∀ sz : Nat, rn_LT l yL_leadsTo wsL_leadsTo ({ frames := 8, cells := 1, slots := 6, locals := 140 } : Room) D (rn_tyl cR cP cF cL) (rn_LB D f o cL g) ([.ref h0, .int a1, .int a2, .ref o]) (some (.int k)) (rn_LP D cR cP cF h0 f sz σ' o cL k v) (rn_LA f sz o) 1 6 sz) ∧ (∀ (rf : Int32) (sz : Nat), rn_W l yX5_leadsTo wsX5_leadsTo ({ frames := 4, cells := 0, slots := 0, locals := 96 } : Room) D [(cI, .int)] (rn_MW D cI m0 ma rf (nI σ.sn) (nI σ.sd.length) (nI σ.pn) (nI σ.fn) σ.rc σ.la V) ([.ref m0, .int a1, .int a2]) (some (.int v)) (rn_MP D cI m0 ma k σ') (rn_mA m0 ma) 0 0 sz) := by
  by_cases hr : ∃ i, i < σ.sn ∧ a1 = nI i
  rotate_left
  · exact ⟨_, _, _, fun sz => l_leadsTo_r l hfl hV hC hfo hr sz, fun rf sz => n_leadsTo_r l hV hM hr sz⟩
  obtain ⟨i, hi0, rfl⟩ := hr
  rcases rn_num a2 998 (by decide) with ⟨x, hx0, rfl⟩ | hbad
  rotate_left
  · exact ⟨_, _, _, fun sz => l_leadsTo_n l hfl hV hC hfo hi0 hbad sz, fun rf sz => n_leadsTo_n l hV hM hi0 hbad sz⟩
  exact ⟨_, _, _, fun sz => l_leadsTo_o l hV hC hfo hi0 hx0 sz, fun rf sz => n_leadsTo l hV hM hi0 hx0 sz⟩

set_option maxHeartbeats 4000000 in
theorem o_seenAs (l : Launch) (hfl : l.stackTraces = false) {D : va_G} {cR cP cF cL : ClassId} {h0 aR aP aF : Nat} {ra pa fa : Nat → Nat} {hd : Nat → Option Nat} {dh : Option Nat} {f : rn_T} {σ : rn_St} (hV : rn_V σ) (hC : rn_CI cR cP cF h0 aR aP aF ra pa fa hd dh f σ) {o : Nat} {g : Nat → Int64} (hfo : f o = none) {cI : ClassId} {m0 : Nat} {ma : Nat → Nat} {V : Nat → Nat → Int32} (hM : rn_Mr σ V) (a1 : Int32) (a2 : Int32) : ∃ (k v : Int32) (σ' : rn_St), (∀ sz : Nat, rn_LT l yL_seenAs wsL_seenAs ({ frames := 8, cells := 1, slots := 6, locals := 140 } : Room) D (rn_tyl cR cP cF cL) (rn_LB D f o cL g) ([.ref h0, .int a1, .int a2, .ref o]) (some (.int k)) (rn_LP D cR cP cF h0 f sz σ' o cL k v) (rn_LA f sz o) 1 6 sz) ∧ (∀ (rf : Int32) (sz : Nat), rn_W l yX5_seenAs wsX5_seenAs ({ frames := 4, cells := 0, slots := 0, locals := 96 } : Room) D [(cI, .int)] (rn_MW D cI m0 ma rf (nI σ.sn) (nI σ.sd.length) (nI σ.pn) (nI σ.fn) σ.rc σ.la V) ([.ref m0, .int a1, .int a2]) (some (.int v)) (rn_MP D cI m0 ma k σ') (rn_mA m0 ma) 0 0 sz) := by
  by_cases hr : ∃ i, i < σ.sn ∧ a1 = nI i
  rotate_left
  · exact ⟨_, _, _, fun sz => l_seenAs_r l hfl hV hC hfo hr sz, fun rf sz => n_seenAs_r l hV hM hr sz⟩
  obtain ⟨i, hi0, rfl⟩ := hr
  rcases rn_num a2 998 (by decide) with ⟨x, hx0, rfl⟩ | hbad
  rotate_left
  · exact ⟨_, _, _, fun sz => l_seenAs_n l hfl hV hC hfo hi0 hbad sz, fun rf sz => n_seenAs_n l hV hM hi0 hbad sz⟩
  exact ⟨_, _, _, fun sz => l_seenAs_o l hV hC hfo hi0 hx0 sz, fun rf sz => n_seenAs l hV hM hi0 hx0 sz⟩

set_option maxHeartbeats 4000000 in
theorem o_seenByLeading (l : Launch) (hfl : l.stackTraces = false) {D : va_G} {cR cP cF cL : ClassId} {h0 aR aP aF : Nat} {ra pa fa : Nat → Nat} {hd : Nat → Option Nat} {dh : Option Nat} {f : rn_T} {σ : rn_St} (hV : rn_V σ) (hC : rn_CI cR cP cF h0 aR aP aF ra pa fa hd dh f σ) {o : Nat} {g : Nat → Int64} (hfo : f o = none) {cI : ClassId} {m0 : Nat} {ma : Nat → Nat} {V : Nat → Nat → Int32} (hM : rn_Mr σ V) (a1 : Int32) (a2 : Int32) : ∃ (k v : Int32) (σ' : rn_St), (∀ sz : Nat, rn_LT l yL_seenByLeading wsL_seenByLeading ({ frames := 8, cells := 1, slots := 6, locals := 140 } : Room) D (rn_tyl cR cP cF cL) (rn_LB D f o cL g) ([.ref h0, .int a1, .int a2, .ref o]) (some (.int k)) (rn_LP D cR cP cF h0 f sz σ' o cL k v) (rn_LA f sz o) 1 6 sz) ∧ (∀ (rf : Int32) (sz : Nat), rn_W l yX5_seenByLeading wsX5_seenByLeading ({ frames := 5, cells := 0, slots := 0, locals := 118 } : Room) D [(cI, .int)] (rn_MW D cI m0 ma rf (nI σ.sn) (nI σ.sd.length) (nI σ.pn) (nI σ.fn) σ.rc σ.la V) ([.ref m0, .int a1, .int a2]) (some (.int v)) (rn_MP D cI m0 ma k σ') (rn_mA m0 ma) 0 0 sz) := by
  by_cases hr : ∃ i, i < σ.sn ∧ a1 = nI i
  rotate_left
  · exact ⟨_, _, _, fun sz => l_seenByLeading_r l hfl hV hC hfo hr sz, fun rf sz => n_seenByLeading_r l hV hM hr sz⟩
  obtain ⟨i, hi0, rfl⟩ := hr
  rcases rn_num a2 998 (by decide) with ⟨x, hx0, rfl⟩ | hbad
  rotate_left
  · exact ⟨_, _, _, fun sz => l_seenByLeading_n l hfl hV hC hfo hi0 hbad sz, fun rf sz => n_seenByLeading_n l hV hM hi0 hbad sz⟩
  exact ⟨_, _, _, fun sz => l_seenByLeading_o l hV hC hfo hi0 hx0 sz, fun rf sz => n_seenByLeading l hV hM hi0 hx0 sz⟩

set_option maxHeartbeats 4000000 in
theorem o_fork (l : Launch) (hfl : l.stackTraces = false) {D : va_G} {cR cP cF cL : ClassId} {h0 aR aP aF : Nat} {ra pa fa : Nat → Nat} {hd : Nat → Option Nat} {dh : Option Nat} {f : rn_T} {σ : rn_St} (hV : rn_V σ) (hC : rn_CI cR cP cF h0 aR aP aF ra pa fa hd dh f σ) {o : Nat} {g : Nat → Int64} (hfo : f o = none) {cI : ClassId} {m0 : Nat} {ma : Nat → Nat} {V : Nat → Nat → Int32} (hM : rn_Mr σ V) (a1 : Int32) : ∃ (k v : Int32) (σ' : rn_St), (∀ sz : Nat, rn_LT l yL_fork wsL_fork ({ frames := 8, cells := 1, slots := 6, locals := 140 } : Room) D (rn_tyl cR cP cF cL) (rn_LB D f o cL g) ([.ref h0, .int a1, .ref o]) (some (.int k)) (rn_LP D cR cP cF h0 f sz σ' o cL k v) (rn_LA f sz o) 1 6 sz) ∧ (∀ (rf : Int32) (sz : Nat), rn_W l yX5_fork wsX5_fork ({ frames := 4, cells := 0, slots := 0, locals := 96 } : Room) D [(cI, .int)] (rn_MW D cI m0 ma rf (nI σ.sn) (nI σ.sd.length) (nI σ.pn) (nI σ.fn) σ.rc σ.la V) ([.ref m0, .int a1]) (some (.int v)) (rn_MP D cI m0 ma k σ') (rn_mA m0 ma) 0 0 sz) := by
  by_cases hp : ∃ j, j < σ.pn ∧ a1 = nI j
  rotate_left
  · exact ⟨_, _, _, fun sz => l_fork_p l hfl hV hC hfo hp sz, fun rf sz => n_fork_p l hV hM hp sz⟩
  obtain ⟨j, hj0, rfl⟩ := hp
  by_cases hfull : σ.pn = 12
  · exact ⟨_, _, _, fun sz => l_fork_s l hfl hV hC hfo hj0 hfull sz, fun rf sz => n_fork_s l hV hM hj0 hfull sz⟩
  have hn0 : σ.pn < 12 := by have := hV.2.2.2.2.2.1.2.1; omega
  exact ⟨_, _, _, fun sz => l_fork_o l hV hC hfo hj0 hn0 sz, fun rf sz => n_fork l hV hM hj0 hn0 sz⟩

set_option maxHeartbeats 4000000 in
theorem o_drop (l : Launch) (hfl : l.stackTraces = false) {D : va_G} {cR cP cF cL : ClassId} {h0 aR aP aF : Nat} {ra pa fa : Nat → Nat} {hd : Nat → Option Nat} {dh : Option Nat} {f : rn_T} {σ : rn_St} (hV : rn_V σ) (hC : rn_CI cR cP cF h0 aR aP aF ra pa fa hd dh f σ) {o : Nat} {g : Nat → Int64} (hfo : f o = none) {cI : ClassId} {m0 : Nat} {ma : Nat → Nat} {V : Nat → Nat → Int32} (hM : rn_Mr σ V) (a1 : Int32) (a2 : Int32) : ∃ (k v : Int32) (σ' : rn_St), (∀ sz : Nat, rn_LT l yL_drop wsL_drop ({ frames := 8, cells := 1, slots := 6, locals := 140 } : Room) D (rn_tyl cR cP cF cL) (rn_LB D f o cL g) ([.ref h0, .int a1, .int a2, .ref o]) (some (.int k)) (rn_LP D cR cP cF h0 f sz σ' o cL k v) (rn_LA f sz o) 1 6 sz) ∧ (∀ (rf : Int32) (sz : Nat), rn_W l yX5_drop wsX5_drop ({ frames := 4, cells := 0, slots := 0, locals := 96 } : Room) D [(cI, .int)] (rn_MW D cI m0 ma rf (nI σ.sn) (nI σ.sd.length) (nI σ.pn) (nI σ.fn) σ.rc σ.la V) ([.ref m0, .int a1, .int a2]) (some (.int v)) (rn_MP D cI m0 ma k σ') (rn_mA m0 ma) 0 0 sz) := by
  by_cases hp : ∃ j, j < σ.pn ∧ a1 = nI j
  rotate_left
  · exact ⟨_, _, _, fun sz => l_drop_p l hfl hV hC hfo hp sz, fun rf sz => n_drop_p l hV hM hp sz⟩
  obtain ⟨j, hj0, rfl⟩ := hp
  rcases rn_num a2 15 (by decide) with ⟨k, hk0, rfl⟩ | hbad
  rotate_left
  · exact ⟨_, _, _, fun sz => l_drop_n l hfl hV hC hfo hj0 hbad sz, fun rf sz => n_drop_n l hV hM hj0 hbad sz⟩
  exact ⟨_, _, _, fun sz => l_drop_o l hV hC hfo hj0 ⟨nI_pos (by omega), (nI_leI (b := 15) (by omega) (by omega)).mpr hk0⟩ sz, fun rf sz => n_drop l hV hM hj0 ⟨nI_pos (by omega), (nI_leI (b := 15) (by omega) (by omega)).mpr hk0⟩ sz⟩

set_option maxHeartbeats 4000000 in
theorem o_enter (l : Launch) (hfl : l.stackTraces = false) {D : va_G} {cR cP cF cL : ClassId} {h0 aR aP aF : Nat} {ra pa fa : Nat → Nat} {hd : Nat → Option Nat} {dh : Option Nat} {f : rn_T} {σ : rn_St} (hV : rn_V σ) (hC : rn_CI cR cP cF h0 aR aP aF ra pa fa hd dh f σ) {o : Nat} {g : Nat → Int64} (hfo : f o = none) {cI : ClassId} {m0 : Nat} {ma : Nat → Nat} {V : Nat → Nat → Int32} (hM : rn_Mr σ V) (a1 : Int32) (a2 : Int32) : ∃ (k v : Int32) (σ' : rn_St), (∀ sz : Nat, rn_LT l yL_enter wsL_enter ({ frames := 8, cells := 1, slots := 6, locals := 140 } : Room) D (rn_tyl cR cP cF cL) (rn_LB D f o cL g) ([.ref h0, .int a1, .int a2, .ref o]) (some (.int k)) (rn_LP D cR cP cF h0 f sz σ' o cL k v) (rn_LA f sz o) 1 6 sz) ∧ (∀ (rf : Int32) (sz : Nat), rn_W l yX5_enter wsX5_enter ({ frames := 4, cells := 0, slots := 0, locals := 96 } : Room) D [(cI, .int)] (rn_MW D cI m0 ma rf (nI σ.sn) (nI σ.sd.length) (nI σ.pn) (nI σ.fn) σ.rc σ.la V) ([.ref m0, .int a1, .int a2]) (some (.int v)) (rn_MP D cI m0 ma k σ') (rn_mA m0 ma) 0 0 sz) := by
  by_cases hp : ∃ j, j < σ.pn ∧ a1 = nI j
  rotate_left
  · exact ⟨_, _, _, fun sz => l_enter_p l hfl hV hC hfo hp sz, fun rf sz => n_enter_p l hV hM hp sz⟩
  obtain ⟨j, hj0, rfl⟩ := hp
  by_cases hr : ∃ i, i < σ.sn ∧ a2 = nI i
  rotate_left
  · exact ⟨_, _, _, fun sz => l_enter_r l hfl hV hC hfo hj0 hr sz, fun rf sz => n_enter_r l hV hM hj0 hr sz⟩
  obtain ⟨i, hi0, rfl⟩ := hr
  exact ⟨_, _, _, fun sz => l_enter_o l hV hC hfo hj0 hi0 sz, fun rf sz => n_enter l hV hM hj0 hi0 sz⟩

set_option maxHeartbeats 4000000 in
theorem o_setNumber (l : Launch) (hfl : l.stackTraces = false) {D : va_G} {cR cP cF cL : ClassId} {h0 aR aP aF : Nat} {ra pa fa : Nat → Nat} {hd : Nat → Option Nat} {dh : Option Nat} {f : rn_T} {σ : rn_St} (hV : rn_V σ) (hC : rn_CI cR cP cF h0 aR aP aF ra pa fa hd dh f σ) {o : Nat} {g : Nat → Int64} (hfo : f o = none) {cI : ClassId} {m0 : Nat} {ma : Nat → Nat} {V : Nat → Nat → Int32} (hM : rn_Mr σ V) (a1 : Int32) (a2 : Int32) : ∃ (k v : Int32) (σ' : rn_St), (∀ sz : Nat, rn_LT l yL_setNumber wsL_setNumber ({ frames := 8, cells := 1, slots := 6, locals := 140 } : Room) D (rn_tyl cR cP cF cL) (rn_LB D f o cL g) ([.ref h0, .int a1, .int a2, .ref o]) (some (.int k)) (rn_LP D cR cP cF h0 f sz σ' o cL k v) (rn_LA f sz o) 1 6 sz) ∧ (∀ (rf : Int32) (sz : Nat), rn_W l yX5_setNumber wsX5_setNumber ({ frames := 4, cells := 0, slots := 0, locals := 96 } : Room) D [(cI, .int)] (rn_MW D cI m0 ma rf (nI σ.sn) (nI σ.sd.length) (nI σ.pn) (nI σ.fn) σ.rc σ.la V) ([.ref m0, .int a1, .int a2]) (some (.int v)) (rn_MP D cI m0 ma k σ') (rn_mA m0 ma) 0 0 sz) := by
  by_cases hp : ∃ j, j < σ.pn ∧ a1 = nI j
  rotate_left
  · exact ⟨_, _, _, fun sz => l_setNumber_p l hfl hV hC hfo hp sz, fun rf sz => n_setNumber_p l hV hM hp sz⟩
  obtain ⟨j, hj0, rfl⟩ := hp
  rcases rn_num a2 998 (by decide) with ⟨x, hx0, rfl⟩ | hbad
  rotate_left
  · exact ⟨_, _, _, fun sz => l_setNumber_n l hfl hV hC hfo hj0 hbad sz, fun rf sz => n_setNumber_n l hV hM hj0 hbad sz⟩
  exact ⟨_, _, _, fun sz => l_setNumber_o l hV hC hfo hj0 hx0 sz, fun rf sz => n_setNumber l hV hM hj0 hx0 sz⟩

set_option maxHeartbeats 4000000 in
theorem o_roomOf (l : Launch) (hfl : l.stackTraces = false) {D : va_G} {cR cP cF cL : ClassId} {h0 aR aP aF : Nat} {ra pa fa : Nat → Nat} {hd : Nat → Option Nat} {dh : Option Nat} {f : rn_T} {σ : rn_St} (hV : rn_V σ) (hC : rn_CI cR cP cF h0 aR aP aF ra pa fa hd dh f σ) {o : Nat} {g : Nat → Int64} (hfo : f o = none) {cI : ClassId} {m0 : Nat} {ma : Nat → Nat} {V : Nat → Nat → Int32} (hM : rn_Mr σ V) (a1 : Int32) : ∃ (k v : Int32) (σ' : rn_St), (∀ sz : Nat, rn_LT l yL_roomOf wsL_roomOf ({ frames := 8, cells := 1, slots := 6, locals := 140 } : Room) D (rn_tyl cR cP cF cL) (rn_LB D f o cL g) ([.ref h0, .int a1, .ref o]) (some (.int k)) (rn_LP D cR cP cF h0 f sz σ' o cL k v) (rn_LA f sz o) 1 6 sz) ∧ (∀ (rf : Int32) (sz : Nat), rn_W l yX5_roomOf wsX5_roomOf ({ frames := 4, cells := 0, slots := 0, locals := 96 } : Room) D [(cI, .int)] (rn_MW D cI m0 ma rf (nI σ.sn) (nI σ.sd.length) (nI σ.pn) (nI σ.fn) σ.rc σ.la V) ([.ref m0, .int a1]) (some (.int v)) (rn_MP D cI m0 ma k σ') (rn_mA m0 ma) 0 0 sz) := by
  by_cases hp : ∃ j, j < σ.pn ∧ a1 = nI j
  rotate_left
  · exact ⟨_, _, _, fun sz => l_roomOf_p l hfl hV hC hfo hp sz, fun rf sz => n_roomOf_p l hV hM hp sz⟩
  obtain ⟨j, hj0, rfl⟩ := hp
  exact ⟨_, _, _, fun sz => l_roomOf_o l hV hC hfo hj0 sz, fun rf sz => n_roomOf l hV hM hj0 sz⟩

set_option maxHeartbeats 4000000 in
theorem o_numberOf (l : Launch) (hfl : l.stackTraces = false) {D : va_G} {cR cP cF cL : ClassId} {h0 aR aP aF : Nat} {ra pa fa : Nat → Nat} {hd : Nat → Option Nat} {dh : Option Nat} {f : rn_T} {σ : rn_St} (hV : rn_V σ) (hC : rn_CI cR cP cF h0 aR aP aF ra pa fa hd dh f σ) {o : Nat} {g : Nat → Int64} (hfo : f o = none) {cI : ClassId} {m0 : Nat} {ma : Nat → Nat} {V : Nat → Nat → Int32} (hM : rn_Mr σ V) (a1 : Int32) : ∃ (k v : Int32) (σ' : rn_St), (∀ sz : Nat, rn_LT l yL_numberOf wsL_numberOf ({ frames := 8, cells := 1, slots := 6, locals := 140 } : Room) D (rn_tyl cR cP cF cL) (rn_LB D f o cL g) ([.ref h0, .int a1, .ref o]) (some (.int k)) (rn_LP D cR cP cF h0 f sz σ' o cL k v) (rn_LA f sz o) 1 6 sz) ∧ (∀ (rf : Int32) (sz : Nat), rn_W l yX5_numberOf wsX5_numberOf ({ frames := 4, cells := 0, slots := 0, locals := 96 } : Room) D [(cI, .int)] (rn_MW D cI m0 ma rf (nI σ.sn) (nI σ.sd.length) (nI σ.pn) (nI σ.fn) σ.rc σ.la V) ([.ref m0, .int a1]) (some (.int v)) (rn_MP D cI m0 ma k σ') (rn_mA m0 ma) 0 0 sz) := by
  by_cases hp : ∃ j, j < σ.pn ∧ a1 = nI j
  rotate_left
  · exact ⟨_, _, _, fun sz => l_numberOf_p l hfl hV hC hfo hp sz, fun rf sz => n_numberOf_p l hV hM hp sz⟩
  obtain ⟨j, hj0, rfl⟩ := hp
  exact ⟨_, _, _, fun sz => l_numberOf_o l hV hC hfo hj0 sz, fun rf sz => n_numberOf l hV hM hj0 sz⟩

set_option maxHeartbeats 4000000 in
theorem o_rightsIn (l : Launch) (hfl : l.stackTraces = false) {D : va_G} {cR cP cF cL : ClassId} {h0 aR aP aF : Nat} {ra pa fa : Nat → Nat} {hd : Nat → Option Nat} {dh : Option Nat} {f : rn_T} {σ : rn_St} (hV : rn_V σ) (hC : rn_CI cR cP cF h0 aR aP aF ra pa fa hd dh f σ) {o : Nat} {g : Nat → Int64} (hfo : f o = none) {cI : ClassId} {m0 : Nat} {ma : Nat → Nat} {V : Nat → Nat → Int32} (hM : rn_Mr σ V) (a1 : Int32) (a2 : Int32) : ∃ (k v : Int32) (σ' : rn_St), (∀ sz : Nat, rn_LT l yL_rightsIn wsL_rightsIn ({ frames := 8, cells := 1, slots := 6, locals := 140 } : Room) D (rn_tyl cR cP cF cL) (rn_LB D f o cL g) ([.ref h0, .int a1, .int a2, .ref o]) (some (.int k)) (rn_LP D cR cP cF h0 f sz σ' o cL k v) (rn_LA f sz o) 1 6 sz) ∧ (∀ (rf : Int32) (sz : Nat), rn_W l yX5_rightsIn wsX5_rightsIn ({ frames := 4, cells := 0, slots := 0, locals := 96 } : Room) D [(cI, .int)] (rn_MW D cI m0 ma rf (nI σ.sn) (nI σ.sd.length) (nI σ.pn) (nI σ.fn) σ.rc σ.la V) ([.ref m0, .int a1, .int a2]) (some (.int v)) (rn_MP D cI m0 ma k σ') (rn_mA m0 ma) 0 0 sz) := by
  by_cases hp : ∃ j, j < σ.pn ∧ a1 = nI j
  rotate_left
  · exact ⟨_, _, _, fun sz => l_rightsIn_p l hfl hV hC hfo hp sz, fun rf sz => n_rightsIn_p l hV hM hp sz⟩
  obtain ⟨j, hj0, rfl⟩ := hp
  by_cases hr : ∃ i, i < σ.sn ∧ a2 = nI i
  rotate_left
  · exact ⟨_, _, _, fun sz => l_rightsIn_r l hfl hV hC hfo hj0 hr sz, fun rf sz => n_rightsIn_r l hV hM hj0 hr sz⟩
  obtain ⟨i, hi0, rfl⟩ := hr
  exact ⟨_, _, _, fun sz => l_rightsIn_o l hV hC hfo hj0 hi0 sz, fun rf sz => n_rightsIn l hV hM hj0 hi0 sz⟩

set_option maxHeartbeats 4000000 in
theorem o_makeFile (l : Launch) (hfl : l.stackTraces = false) {D : va_G} {cR cP cF cL : ClassId} {h0 aR aP aF : Nat} {ra pa fa : Nat → Nat} {hd : Nat → Option Nat} {dh : Option Nat} {f : rn_T} {σ : rn_St} (hV : rn_V σ) (hC : rn_CI cR cP cF h0 aR aP aF ra pa fa hd dh f σ) {o : Nat} {g : Nat → Int64} (hfo : f o = none) {cI : ClassId} {m0 : Nat} {ma : Nat → Nat} {V : Nat → Nat → Int32} (hM : rn_Mr σ V) (a1 : Int32) (a2 : Int32) : ∃ (k v : Int32) (σ' : rn_St), (∀ sz : Nat, rn_LT l yL_makeFile wsL_makeFile ({ frames := 8, cells := 1, slots := 6, locals := 140 } : Room) D (rn_tyl cR cP cF cL) (rn_LB D f o cL g) ([.ref h0, .int a1, .int a2, .ref o]) (some (.int k)) (rn_LP D cR cP cF h0 f sz σ' o cL k v) (rn_LA f sz o) 1 6 sz) ∧ (∀ (rf : Int32) (sz : Nat), rn_W l yX5_makeFile wsX5_makeFile ({ frames := 4, cells := 0, slots := 0, locals := 96 } : Room) D [(cI, .int)] (rn_MW D cI m0 ma rf (nI σ.sn) (nI σ.sd.length) (nI σ.pn) (nI σ.fn) σ.rc σ.la V) ([.ref m0, .int a1, .int a2]) (some (.int v)) (rn_MP D cI m0 ma k σ') (rn_mA m0 ma) 0 0 sz) := by
  by_cases hp : ∃ j, j < σ.pn ∧ a1 = nI j
  rotate_left
  · exact ⟨_, _, _, fun sz => l_makeFile_p l hfl hV hC hfo hp sz, fun rf sz => n_makeFile_p l hV hM hp sz⟩
  obtain ⟨j, hj0, rfl⟩ := hp
  rcases rn_num a2 15 (by decide) with ⟨k, hk0, rfl⟩ | hbad
  rotate_left
  · exact ⟨_, _, _, fun sz => l_makeFile_n l hfl hV hC hfo hj0 hbad sz, fun rf sz => n_makeFile_n l hV hM hj0 hbad sz⟩
  by_cases hfull : σ.fn = 20
  · exact ⟨_, _, _, fun sz => l_makeFile_s l hfl hV hC hfo hj0 hk0 hfull sz, fun rf sz => n_makeFile_s l hV hM hj0 hk0 hfull sz⟩
  have hn0 : σ.fn < 20 := by have := hV.2.2.2.2.2.2.1; omega
  exact ⟨_, _, _, fun sz => l_makeFile_o l hV hC hfo hj0 hk0 hn0 sz, fun rf sz => n_makeFile l hV hM hj0 hk0 hn0 sz⟩

set_option maxHeartbeats 4000000 in
theorem o_handOver (l : Launch) (hfl : l.stackTraces = false) {D : va_G} {cR cP cF cL : ClassId} {h0 aR aP aF : Nat} {ra pa fa : Nat → Nat} {hd : Nat → Option Nat} {dh : Option Nat} {f : rn_T} {σ : rn_St} (hV : rn_V σ) (hC : rn_CI cR cP cF h0 aR aP aF ra pa fa hd dh f σ) {o : Nat} {g : Nat → Int64} (hfo : f o = none) {cI : ClassId} {m0 : Nat} {ma : Nat → Nat} {V : Nat → Nat → Int32} (hM : rn_Mr σ V) (a1 : Int32) (a2 : Int32) (a3 : Int32) : ∃ (k v : Int32) (σ' : rn_St), (∀ sz : Nat, rn_LT l yL_handOver wsL_handOver ({ frames := 8, cells := 1, slots := 6, locals := 140 } : Room) D (rn_tyl cR cP cF cL) (rn_LB D f o cL g) ([.ref h0, .int a1, .int a2, .int a3, .ref o]) (some (.int k)) (rn_LP D cR cP cF h0 f sz σ' o cL k v) (rn_LA f sz o) 1 6 sz) ∧ (∀ (rf : Int32) (sz : Nat), rn_W l yX5_handOver wsX5_handOver ({ frames := 4, cells := 0, slots := 0, locals := 96 } : Room) D [(cI, .int)] (rn_MW D cI m0 ma rf (nI σ.sn) (nI σ.sd.length) (nI σ.pn) (nI σ.fn) σ.rc σ.la V) ([.ref m0, .int a1, .int a2, .int a3]) (some (.int v)) (rn_MP D cI m0 ma k σ') (rn_mA m0 ma) 0 0 sz) := by
  by_cases hp : ∃ j, j < σ.pn ∧ a1 = nI j
  rotate_left
  · exact ⟨_, _, _, fun sz => l_handOver_p l hfl hV hC hfo hp sz, fun rf sz => n_handOver_p l hV hM hp sz⟩
  obtain ⟨j, hj0, rfl⟩ := hp
  by_cases hf : ∃ k, k < σ.fn ∧ a2 = nI k
  rotate_left
  · exact ⟨_, _, _, fun sz => l_handOver_f l hfl hV hC hfo hj0 hf sz, fun rf sz => n_handOver_f l hV hM hj0 hf sz⟩
  obtain ⟨k, hk0, rfl⟩ := hf
  rcases rn_num a3 998 (by decide) with ⟨x, hx0, rfl⟩ | hbad
  rotate_left
  · exact ⟨_, _, _, fun sz => l_handOver_n l hfl hV hC hfo hj0 hk0 hbad sz, fun rf sz => n_handOver_n l hV hM hj0 hk0 hbad sz⟩
  exact ⟨_, _, _, fun sz => l_handOver_o l hV hC hfo hj0 hk0 hx0 sz, fun rf sz => n_handOver l hV hM hj0 hk0 hx0 sz⟩

set_option maxHeartbeats 4000000 in
theorem o_open (l : Launch) (hfl : l.stackTraces = false) {D : va_G} {cR cP cF cL : ClassId} {h0 aR aP aF : Nat} {ra pa fa : Nat → Nat} {hd : Nat → Option Nat} {dh : Option Nat} {f : rn_T} {σ : rn_St} (hV : rn_V σ) (hC : rn_CI cR cP cF h0 aR aP aF ra pa fa hd dh f σ) {o : Nat} {g : Nat → Int64} (hfo : f o = none) {cI : ClassId} {m0 : Nat} {ma : Nat → Nat} {V : Nat → Nat → Int32} (hM : rn_Mr σ V) (a1 : Int32) (a2 : Int32) (wb : Bool) : ∃ (k v : Int32) (σ' : rn_St), (∀ sz : Nat, rn_LT l yL_open wsL_open ({ frames := 8, cells := 1, slots := 6, locals := 140 } : Room) D (rn_tyl cR cP cF cL) (rn_LB D f o cL g) ([.ref h0, .int a1, .int a2, .int (rn_b wb), .ref o]) (some (.int k)) (rn_LP D cR cP cF h0 f sz σ' o cL k v) (rn_LA f sz o) 1 6 sz) ∧ (∀ (rf : Int32) (sz : Nat), rn_W l yX5_open wsX5_open ({ frames := 4, cells := 0, slots := 0, locals := 96 } : Room) D [(cI, .int)] (rn_MW D cI m0 ma rf (nI σ.sn) (nI σ.sd.length) (nI σ.pn) (nI σ.fn) σ.rc σ.la V) ([.ref m0, .int a1, .int a2, .int (rn_b wb)]) (some (.int v)) (rn_MP D cI m0 ma k σ') (rn_mA m0 ma) 0 0 sz) := by
  by_cases hp : ∃ j, j < σ.pn ∧ a1 = nI j
  rotate_left
  · exact ⟨_, _, _, fun sz => l_open_p l hfl hV hC hfo hp sz, fun rf sz => n_open_p l hV hM hp sz⟩
  obtain ⟨j, hj0, rfl⟩ := hp
  by_cases hf : ∃ k, k < σ.fn ∧ a2 = nI k
  rotate_left
  · exact ⟨_, _, _, fun sz => l_open_f l hfl hV hC hfo hj0 hf sz, fun rf sz => n_open_f l hV hM hj0 hf sz⟩
  obtain ⟨k, hk0, rfl⟩ := hf
  exact ⟨_, _, _, fun sz => l_open_o l hV hC hfo hj0 hk0 sz, fun rf sz => n_open l hV hM hj0 hk0 sz⟩

set_option maxHeartbeats 4000000 in
theorem o_ownerSeenBy (l : Launch) (hfl : l.stackTraces = false) {D : va_G} {cR cP cF cL : ClassId} {h0 aR aP aF : Nat} {ra pa fa : Nat → Nat} {hd : Nat → Option Nat} {dh : Option Nat} {f : rn_T} {σ : rn_St} (hV : rn_V σ) (hC : rn_CI cR cP cF h0 aR aP aF ra pa fa hd dh f σ) {o : Nat} {g : Nat → Int64} (hfo : f o = none) {cI : ClassId} {m0 : Nat} {ma : Nat → Nat} {V : Nat → Nat → Int32} (hM : rn_Mr σ V) (a1 : Int32) (a2 : Int32) : ∃ (k v : Int32) (σ' : rn_St), (∀ sz : Nat, rn_LT l yL_ownerSeenBy wsL_ownerSeenBy ({ frames := 8, cells := 1, slots := 6, locals := 140 } : Room) D (rn_tyl cR cP cF cL) (rn_LB D f o cL g) ([.ref h0, .int a1, .int a2, .ref o]) (some (.int k)) (rn_LP D cR cP cF h0 f sz σ' o cL k v) (rn_LA f sz o) 1 6 sz) ∧ (∀ (rf : Int32) (sz : Nat), rn_W l yX5_ownerSeenBy wsX5_ownerSeenBy ({ frames := 4, cells := 0, slots := 0, locals := 96 } : Room) D [(cI, .int)] (rn_MW D cI m0 ma rf (nI σ.sn) (nI σ.sd.length) (nI σ.pn) (nI σ.fn) σ.rc σ.la V) ([.ref m0, .int a1, .int a2]) (some (.int v)) (rn_MP D cI m0 ma k σ') (rn_mA m0 ma) 0 0 sz) := by
  by_cases hp : ∃ j, j < σ.pn ∧ a1 = nI j
  rotate_left
  · exact ⟨_, _, _, fun sz => l_ownerSeenBy_p l hfl hV hC hfo hp sz, fun rf sz => n_ownerSeenBy_p l hV hM hp sz⟩
  obtain ⟨j, hj0, rfl⟩ := hp
  by_cases hf : ∃ k, k < σ.fn ∧ a2 = nI k
  rotate_left
  · exact ⟨_, _, _, fun sz => l_ownerSeenBy_f l hfl hV hC hfo hj0 hf sz, fun rf sz => n_ownerSeenBy_f l hV hM hj0 hf sz⟩
  obtain ⟨k, hk0, rfl⟩ := hf
  exact ⟨_, _, _, fun sz => l_ownerSeenBy_o l hV hC hfo hj0 hk0 sz, fun rf sz => n_ownerSeenBy l hV hM hj0 hk0 sz⟩
