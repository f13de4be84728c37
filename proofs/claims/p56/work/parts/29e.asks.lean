/-! what the questions answer -/
/-- the minutes of salt, the street of a plough, as the law asks for them -/
def zsalt (A : Nat → Nat) (i : Nat) : Int32 := if A 0 < A (15 + 7 * i) then nI (A (15 + 7 * i) - A 0) else -900002
def zcur (A : Nat → Nat) (j : Nat) : Int32 := if 0 < A (95 + 9 * j) then nI (A (96 + 9 * j)) else -900002
noncomputable def zdst (A : Nat → Nat) (u v : Nat) : Int32 := if zD A u v < 9999 then nI (zD A u v) else -900002
noncomputable def zmns (A : Nat → Nat) (j i : Nat) : Int32 := if znr A (A (94 + 9 * j)) i < 9999 then nI (2 * znr A (A (94 + 9 * j)) i + 4 * A (13 + 7 * i)) else -900002
theorem q_time {tb : Nat} {Z : (Nat → Nat) → Prop} {A : Nat → Nat} {c : Nat} {h : Nat → Nat → Nat} {V : DV} (hV : zST tb Z A c h V) {post : Int32 → DV → Prop} (hp : post (nI (A 0)) V) : wpP_time V post := by
  obtain ⟨⟨d1, d2, d3, w_reach, w_settled, d6⟩, ⟨t_time, t_store, t_rate, t_force, t_cleared, t_ploughed, t_failed, t_complained, s_lower, s_higher, s_kind, s_size, s_snow, s_saltEnd, s_complained, s_clearings, s_count, q_place, q_target, q_minutesLeft, q_waiting, q_orders, q_count⟩, F, S, ⟨h_free, h_count, R⟩, ⟨g1, g2, g3, b_mlt, b_countt, b_att, b_capt, b_bytest, b_mlo, b_counto, b_ato, b_capo, b_byteso⟩⟩ := V
  obtain ⟨hAt, hT, hR⟩ := hV
  have hT : zTc A t_time t_store t_rate t_force t_cleared t_ploughed t_failed t_complained s_lower s_higher s_kind s_size s_snow s_saltEnd s_complained s_clearings s_count q_place q_target q_minutesLeft q_waiting q_orders q_count := hT
  have hT9 := hT
  obtain ⟨hI, ⟨rfl, rfl, rfl, rfl, rfl, rfl, rfl, rfl⟩, ⟨rfl, hl, hh, hk, hz, hsn, hse, hco⟩, ⟨rfl, q1, q2, q3, q4, q5⟩, hK9, C, hC, hC4⟩ := hT
  have hA := hI.1
  unfold wpP_time wpX6_time
  exact hp
theorem q_streetCount {tb : Nat} {Z : (Nat → Nat) → Prop} {A : Nat → Nat} {c : Nat} {h : Nat → Nat → Nat} {V : DV} (hV : zST tb Z A c h V) {post : Int32 → DV → Prop} (hp : post (nI (A 1)) V) : wpP_streetCount V post := by
  obtain ⟨⟨d1, d2, d3, w_reach, w_settled, d6⟩, ⟨t_time, t_store, t_rate, t_force, t_cleared, t_ploughed, t_failed, t_complained, s_lower, s_higher, s_kind, s_size, s_snow, s_saltEnd, s_complained, s_clearings, s_count, q_place, q_target, q_minutesLeft, q_waiting, q_orders, q_count⟩, F, S, ⟨h_free, h_count, R⟩, ⟨g1, g2, g3, b_mlt, b_countt, b_att, b_capt, b_bytest, b_mlo, b_counto, b_ato, b_capo, b_byteso⟩⟩ := V
  obtain ⟨hAt, hT, hR⟩ := hV
  have hT : zTc A t_time t_store t_rate t_force t_cleared t_ploughed t_failed t_complained s_lower s_higher s_kind s_size s_snow s_saltEnd s_complained s_clearings s_count q_place q_target q_minutesLeft q_waiting q_orders q_count := hT
  have hT9 := hT
  obtain ⟨hI, ⟨rfl, rfl, rfl, rfl, rfl, rfl, rfl, rfl⟩, ⟨rfl, hl, hh, hk, hz, hsn, hse, hco⟩, ⟨rfl, q1, q2, q3, q4, q5⟩, hK9, C, hC, hC4⟩ := hT
  have hA := hI.1
  unfold wpP_streetCount wpX6_streetCount
  exact hp
theorem q_ploughCount {tb : Nat} {Z : (Nat → Nat) → Prop} {A : Nat → Nat} {c : Nat} {h : Nat → Nat → Nat} {V : DV} (hV : zST tb Z A c h V) {post : Int32 → DV → Prop} (hp : post (nI (A 2)) V) : wpP_ploughCount V post := by
  obtain ⟨⟨d1, d2, d3, w_reach, w_settled, d6⟩, ⟨t_time, t_store, t_rate, t_force, t_cleared, t_ploughed, t_failed, t_complained, s_lower, s_higher, s_kind, s_size, s_snow, s_saltEnd, s_complained, s_clearings, s_count, q_place, q_target, q_minutesLeft, q_waiting, q_orders, q_count⟩, F, S, ⟨h_free, h_count, R⟩, ⟨g1, g2, g3, b_mlt, b_countt, b_att, b_capt, b_bytest, b_mlo, b_counto, b_ato, b_capo, b_byteso⟩⟩ := V
  obtain ⟨hAt, hT, hR⟩ := hV
  have hT : zTc A t_time t_store t_rate t_force t_cleared t_ploughed t_failed t_complained s_lower s_higher s_kind s_size s_snow s_saltEnd s_complained s_clearings s_count q_place q_target q_minutesLeft q_waiting q_orders q_count := hT
  have hT9 := hT
  obtain ⟨hI, ⟨rfl, rfl, rfl, rfl, rfl, rfl, rfl, rfl⟩, ⟨rfl, hl, hh, hk, hz, hsn, hse, hco⟩, ⟨rfl, q1, q2, q3, q4, q5⟩, hK9, C, hC, hC4⟩ := hT
  have hA := hI.1
  unfold wpP_ploughCount wpX6_ploughCount
  exact hp
theorem q_saltStore {tb : Nat} {Z : (Nat → Nat) → Prop} {A : Nat → Nat} {c : Nat} {h : Nat → Nat → Nat} {V : DV} (hV : zST tb Z A c h V) {post : Int32 → DV → Prop} (hp : post (nI (A 3)) V) : wpP_saltStore V post := by
  obtain ⟨⟨d1, d2, d3, w_reach, w_settled, d6⟩, ⟨t_time, t_store, t_rate, t_force, t_cleared, t_ploughed, t_failed, t_complained, s_lower, s_higher, s_kind, s_size, s_snow, s_saltEnd, s_complained, s_clearings, s_count, q_place, q_target, q_minutesLeft, q_waiting, q_orders, q_count⟩, F, S, ⟨h_free, h_count, R⟩, ⟨g1, g2, g3, b_mlt, b_countt, b_att, b_capt, b_bytest, b_mlo, b_counto, b_ato, b_capo, b_byteso⟩⟩ := V
  obtain ⟨hAt, hT, hR⟩ := hV
  have hT : zTc A t_time t_store t_rate t_force t_cleared t_ploughed t_failed t_complained s_lower s_higher s_kind s_size s_snow s_saltEnd s_complained s_clearings s_count q_place q_target q_minutesLeft q_waiting q_orders q_count := hT
  have hT9 := hT
  obtain ⟨hI, ⟨rfl, rfl, rfl, rfl, rfl, rfl, rfl, rfl⟩, ⟨rfl, hl, hh, hk, hz, hsn, hse, hco⟩, ⟨rfl, q1, q2, q3, q4, q5⟩, hK9, C, hC, hC4⟩ := hT
  have hA := hI.1
  unfold wpP_saltStore wpX6_saltStore
  exact hp
theorem q_snowfall {tb : Nat} {Z : (Nat → Nat) → Prop} {A : Nat → Nat} {c : Nat} {h : Nat → Nat → Nat} {V : DV} (hV : zST tb Z A c h V) {post : Int32 → DV → Prop} (hp : post (nI (A 4)) V) : wpP_snowfall V post := by
  obtain ⟨⟨d1, d2, d3, w_reach, w_settled, d6⟩, ⟨t_time, t_store, t_rate, t_force, t_cleared, t_ploughed, t_failed, t_complained, s_lower, s_higher, s_kind, s_size, s_snow, s_saltEnd, s_complained, s_clearings, s_count, q_place, q_target, q_minutesLeft, q_waiting, q_orders, q_count⟩, F, S, ⟨h_free, h_count, R⟩, ⟨g1, g2, g3, b_mlt, b_countt, b_att, b_capt, b_bytest, b_mlo, b_counto, b_ato, b_capo, b_byteso⟩⟩ := V
  obtain ⟨hAt, hT, hR⟩ := hV
  have hT : zTc A t_time t_store t_rate t_force t_cleared t_ploughed t_failed t_complained s_lower s_higher s_kind s_size s_snow s_saltEnd s_complained s_clearings s_count q_place q_target q_minutesLeft q_waiting q_orders q_count := hT
  have hT9 := hT
  obtain ⟨hI, ⟨rfl, rfl, rfl, rfl, rfl, rfl, rfl, rfl⟩, ⟨rfl, hl, hh, hk, hz, hsn, hse, hco⟩, ⟨rfl, q1, q2, q3, q4, q5⟩, hK9, C, hC, hC4⟩ := hT
  have hA := hI.1
  unfold wpP_snowfall wpX6_snowfall
  exact hp
theorem q_wind {tb : Nat} {Z : (Nat → Nat) → Prop} {A : Nat → Nat} {c : Nat} {h : Nat → Nat → Nat} {V : DV} (hV : zST tb Z A c h V) {post : Int32 → DV → Prop} (hp : post (nI (A 5)) V) : wpP_wind V post := by
  obtain ⟨⟨d1, d2, d3, w_reach, w_settled, d6⟩, ⟨t_time, t_store, t_rate, t_force, t_cleared, t_ploughed, t_failed, t_complained, s_lower, s_higher, s_kind, s_size, s_snow, s_saltEnd, s_complained, s_clearings, s_count, q_place, q_target, q_minutesLeft, q_waiting, q_orders, q_count⟩, F, S, ⟨h_free, h_count, R⟩, ⟨g1, g2, g3, b_mlt, b_countt, b_att, b_capt, b_bytest, b_mlo, b_counto, b_ato, b_capo, b_byteso⟩⟩ := V
  obtain ⟨hAt, hT, hR⟩ := hV
  have hT : zTc A t_time t_store t_rate t_force t_cleared t_ploughed t_failed t_complained s_lower s_higher s_kind s_size s_snow s_saltEnd s_complained s_clearings s_count q_place q_target q_minutesLeft q_waiting q_orders q_count := hT
  have hT9 := hT
  obtain ⟨hI, ⟨rfl, rfl, rfl, rfl, rfl, rfl, rfl, rfl⟩, ⟨rfl, hl, hh, hk, hz, hsn, hse, hco⟩, ⟨rfl, q1, q2, q3, q4, q5⟩, hK9, C, hC, hC4⟩ := hT
  have hA := hI.1
  unfold wpP_wind wpX6_wind
  exact hp
theorem q_clearedTotal {tb : Nat} {Z : (Nat → Nat) → Prop} {A : Nat → Nat} {c : Nat} {h : Nat → Nat → Nat} {V : DV} (hV : zST tb Z A c h V) {post : Int32 → DV → Prop} (hp : post (nI (A 6)) V) : wpP_clearedTotal V post := by
  obtain ⟨⟨d1, d2, d3, w_reach, w_settled, d6⟩, ⟨t_time, t_store, t_rate, t_force, t_cleared, t_ploughed, t_failed, t_complained, s_lower, s_higher, s_kind, s_size, s_snow, s_saltEnd, s_complained, s_clearings, s_count, q_place, q_target, q_minutesLeft, q_waiting, q_orders, q_count⟩, F, S, ⟨h_free, h_count, R⟩, ⟨g1, g2, g3, b_mlt, b_countt, b_att, b_capt, b_bytest, b_mlo, b_counto, b_ato, b_capo, b_byteso⟩⟩ := V
  obtain ⟨hAt, hT, hR⟩ := hV
  have hT : zTc A t_time t_store t_rate t_force t_cleared t_ploughed t_failed t_complained s_lower s_higher s_kind s_size s_snow s_saltEnd s_complained s_clearings s_count q_place q_target q_minutesLeft q_waiting q_orders q_count := hT
  have hT9 := hT
  obtain ⟨hI, ⟨rfl, rfl, rfl, rfl, rfl, rfl, rfl, rfl⟩, ⟨rfl, hl, hh, hk, hz, hsn, hse, hco⟩, ⟨rfl, q1, q2, q3, q4, q5⟩, hK9, C, hC, hC4⟩ := hT
  have hA := hI.1
  unfold wpP_clearedTotal wpX6_clearedTotal
  exact hp
theorem q_ploughedTotal {tb : Nat} {Z : (Nat → Nat) → Prop} {A : Nat → Nat} {c : Nat} {h : Nat → Nat → Nat} {V : DV} (hV : zST tb Z A c h V) {post : Int32 → DV → Prop} (hp : post (nI (A 7)) V) : wpP_ploughedTotal V post := by
  obtain ⟨⟨d1, d2, d3, w_reach, w_settled, d6⟩, ⟨t_time, t_store, t_rate, t_force, t_cleared, t_ploughed, t_failed, t_complained, s_lower, s_higher, s_kind, s_size, s_snow, s_saltEnd, s_complained, s_clearings, s_count, q_place, q_target, q_minutesLeft, q_waiting, q_orders, q_count⟩, F, S, ⟨h_free, h_count, R⟩, ⟨g1, g2, g3, b_mlt, b_countt, b_att, b_capt, b_bytest, b_mlo, b_counto, b_ato, b_capo, b_byteso⟩⟩ := V
  obtain ⟨hAt, hT, hR⟩ := hV
  have hT : zTc A t_time t_store t_rate t_force t_cleared t_ploughed t_failed t_complained s_lower s_higher s_kind s_size s_snow s_saltEnd s_complained s_clearings s_count q_place q_target q_minutesLeft q_waiting q_orders q_count := hT
  have hT9 := hT
  obtain ⟨hI, ⟨rfl, rfl, rfl, rfl, rfl, rfl, rfl, rfl⟩, ⟨rfl, hl, hh, hk, hz, hsn, hse, hco⟩, ⟨rfl, q1, q2, q3, q4, q5⟩, hK9, C, hC, hC4⟩ := hT
  have hA := hI.1
  unfold wpP_ploughedTotal wpX6_ploughedTotal
  exact hp
theorem q_failedOrders {tb : Nat} {Z : (Nat → Nat) → Prop} {A : Nat → Nat} {c : Nat} {h : Nat → Nat → Nat} {V : DV} (hV : zST tb Z A c h V) {post : Int32 → DV → Prop} (hp : post (nI (A 8)) V) : wpP_failedOrders V post := by
  obtain ⟨⟨d1, d2, d3, w_reach, w_settled, d6⟩, ⟨t_time, t_store, t_rate, t_force, t_cleared, t_ploughed, t_failed, t_complained, s_lower, s_higher, s_kind, s_size, s_snow, s_saltEnd, s_complained, s_clearings, s_count, q_place, q_target, q_minutesLeft, q_waiting, q_orders, q_count⟩, F, S, ⟨h_free, h_count, R⟩, ⟨g1, g2, g3, b_mlt, b_countt, b_att, b_capt, b_bytest, b_mlo, b_counto, b_ato, b_capo, b_byteso⟩⟩ := V
  obtain ⟨hAt, hT, hR⟩ := hV
  have hT : zTc A t_time t_store t_rate t_force t_cleared t_ploughed t_failed t_complained s_lower s_higher s_kind s_size s_snow s_saltEnd s_complained s_clearings s_count q_place q_target q_minutesLeft q_waiting q_orders q_count := hT
  have hT9 := hT
  obtain ⟨hI, ⟨rfl, rfl, rfl, rfl, rfl, rfl, rfl, rfl⟩, ⟨rfl, hl, hh, hk, hz, hsn, hse, hco⟩, ⟨rfl, q1, q2, q3, q4, q5⟩, hK9, C, hC, hC4⟩ := hT
  have hA := hI.1
  unfold wpP_failedOrders wpX6_failedOrders
  exact hp
theorem q_complaintTotal {tb : Nat} {Z : (Nat → Nat) → Prop} {A : Nat → Nat} {c : Nat} {h : Nat → Nat → Nat} {V : DV} (hV : zST tb Z A c h V) {post : Int32 → DV → Prop} (hp : post (nI (A 9)) V) : wpP_complaintTotal V post := by
  obtain ⟨⟨d1, d2, d3, w_reach, w_settled, d6⟩, ⟨t_time, t_store, t_rate, t_force, t_cleared, t_ploughed, t_failed, t_complained, s_lower, s_higher, s_kind, s_size, s_snow, s_saltEnd, s_complained, s_clearings, s_count, q_place, q_target, q_minutesLeft, q_waiting, q_orders, q_count⟩, F, S, ⟨h_free, h_count, R⟩, ⟨g1, g2, g3, b_mlt, b_countt, b_att, b_capt, b_bytest, b_mlo, b_counto, b_ato, b_capo, b_byteso⟩⟩ := V
  obtain ⟨hAt, hT, hR⟩ := hV
  have hT : zTc A t_time t_store t_rate t_force t_cleared t_ploughed t_failed t_complained s_lower s_higher s_kind s_size s_snow s_saltEnd s_complained s_clearings s_count q_place q_target q_minutesLeft q_waiting q_orders q_count := hT
  have hT9 := hT
  obtain ⟨hI, ⟨rfl, rfl, rfl, rfl, rfl, rfl, rfl, rfl⟩, ⟨rfl, hl, hh, hk, hz, hsn, hse, hco⟩, ⟨rfl, q1, q2, q3, q4, q5⟩, hK9, C, hC, hC4⟩ := hT
  have hA := hI.1
  unfold wpP_complaintTotal wpX6_complaintTotal
  exact hp
theorem q_lowerEnd {tb : Nat} {Z : (Nat → Nat) → Prop} {A : Nat → Nat} {c : Nat} {h : Nat → Nat → Nat} {V : DV} (hV : zST tb Z A c h V) {i : Nat} (hi : i < A 1) {post : Int32 → DV → Prop} (hp : post (nI (A (10 + 7 * i))) V) : wpD_lowerEnd (nI i) V post := by
  obtain ⟨⟨d1, d2, d3, w_reach, w_settled, d6⟩, ⟨t_time, t_store, t_rate, t_force, t_cleared, t_ploughed, t_failed, t_complained, s_lower, s_higher, s_kind, s_size, s_snow, s_saltEnd, s_complained, s_clearings, s_count, q_place, q_target, q_minutesLeft, q_waiting, q_orders, q_count⟩, F, S, ⟨h_free, h_count, R⟩, ⟨g1, g2, g3, b_mlt, b_countt, b_att, b_capt, b_bytest, b_mlo, b_counto, b_ato, b_capo, b_byteso⟩⟩ := V
  obtain ⟨hAt, hT, hR⟩ := hV
  have hT : zTc A t_time t_store t_rate t_force t_cleared t_ploughed t_failed t_complained s_lower s_higher s_kind s_size s_snow s_saltEnd s_complained s_clearings s_count q_place q_target q_minutesLeft q_waiting q_orders q_count := hT
  have hT9 := hT
  obtain ⟨hI, ⟨rfl, rfl, rfl, rfl, rfl, rfl, rfl, rfl⟩, ⟨rfl, hl, hh, hk, hz, hsn, hse, hco⟩, ⟨rfl, q1, q2, q3, q4, q5⟩, hK9, C, hC, hC4⟩ := hT
  have hA := hI.1
  have g := hI.2.1 i hi
  unfold wpD_lowerEnd wpP_lowerEnd wpX6_lowerEnd
  dsimp only
  refine k_hasI hA.1 hi (br_n (by decide) ⟨vp_in_nI (by omega) (by omega), ?_⟩)
  rw [nI_clamp (by omega), zg hl i hi]
  exact hp
theorem q_higherEnd {tb : Nat} {Z : (Nat → Nat) → Prop} {A : Nat → Nat} {c : Nat} {h : Nat → Nat → Nat} {V : DV} (hV : zST tb Z A c h V) {i : Nat} (hi : i < A 1) {post : Int32 → DV → Prop} (hp : post (nI (A (11 + 7 * i))) V) : wpD_higherEnd (nI i) V post := by
  obtain ⟨⟨d1, d2, d3, w_reach, w_settled, d6⟩, ⟨t_time, t_store, t_rate, t_force, t_cleared, t_ploughed, t_failed, t_complained, s_lower, s_higher, s_kind, s_size, s_snow, s_saltEnd, s_complained, s_clearings, s_count, q_place, q_target, q_minutesLeft, q_waiting, q_orders, q_count⟩, F, S, ⟨h_free, h_count, R⟩, ⟨g1, g2, g3, b_mlt, b_countt, b_att, b_capt, b_bytest, b_mlo, b_counto, b_ato, b_capo, b_byteso⟩⟩ := V
  obtain ⟨hAt, hT, hR⟩ := hV
  have hT : zTc A t_time t_store t_rate t_force t_cleared t_ploughed t_failed t_complained s_lower s_higher s_kind s_size s_snow s_saltEnd s_complained s_clearings s_count q_place q_target q_minutesLeft q_waiting q_orders q_count := hT
  have hT9 := hT
  obtain ⟨hI, ⟨rfl, rfl, rfl, rfl, rfl, rfl, rfl, rfl⟩, ⟨rfl, hl, hh, hk, hz, hsn, hse, hco⟩, ⟨rfl, q1, q2, q3, q4, q5⟩, hK9, C, hC, hC4⟩ := hT
  have hA := hI.1
  have g := hI.2.1 i hi
  unfold wpD_higherEnd wpP_higherEnd wpX6_higherEnd
  dsimp only
  refine k_hasI hA.1 hi (br_n (by decide) ⟨vp_in_nI (by omega) (by omega), ?_⟩)
  rw [nI_clamp (by omega), zg hh i hi]
  exact hp
theorem q_streetClass {tb : Nat} {Z : (Nat → Nat) → Prop} {A : Nat → Nat} {c : Nat} {h : Nat → Nat → Nat} {V : DV} (hV : zST tb Z A c h V) {i : Nat} (hi : i < A 1) {post : Int32 → DV → Prop} (hp : post (nI (A (12 + 7 * i))) V) : wpD_streetClass (nI i) V post := by
  obtain ⟨⟨d1, d2, d3, w_reach, w_settled, d6⟩, ⟨t_time, t_store, t_rate, t_force, t_cleared, t_ploughed, t_failed, t_complained, s_lower, s_higher, s_kind, s_size, s_snow, s_saltEnd, s_complained, s_clearings, s_count, q_place, q_target, q_minutesLeft, q_waiting, q_orders, q_count⟩, F, S, ⟨h_free, h_count, R⟩, ⟨g1, g2, g3, b_mlt, b_countt, b_att, b_capt, b_bytest, b_mlo, b_counto, b_ato, b_capo, b_byteso⟩⟩ := V
  obtain ⟨hAt, hT, hR⟩ := hV
  have hT : zTc A t_time t_store t_rate t_force t_cleared t_ploughed t_failed t_complained s_lower s_higher s_kind s_size s_snow s_saltEnd s_complained s_clearings s_count q_place q_target q_minutesLeft q_waiting q_orders q_count := hT
  have hT9 := hT
  obtain ⟨hI, ⟨rfl, rfl, rfl, rfl, rfl, rfl, rfl, rfl⟩, ⟨rfl, hl, hh, hk, hz, hsn, hse, hco⟩, ⟨rfl, q1, q2, q3, q4, q5⟩, hK9, C, hC, hC4⟩ := hT
  have hA := hI.1
  have g := hI.2.1 i hi
  unfold wpD_streetClass wpP_streetClass wpX6_streetClass
  dsimp only
  refine k_hasI hA.1 hi (br_n (by decide) ⟨vp_in_nI (by omega) (by omega), ?_⟩)
  rw [nI_clamp (by omega), zg hk i hi]
  exact ⟨(pk_charN (by omega)).1, hp⟩
theorem q_length {tb : Nat} {Z : (Nat → Nat) → Prop} {A : Nat → Nat} {c : Nat} {h : Nat → Nat → Nat} {V : DV} (hV : zST tb Z A c h V) {i : Nat} (hi : i < A 1) {post : Int32 → DV → Prop} (hp : post (nI (A (13 + 7 * i))) V) : wpD_length (nI i) V post := by
  obtain ⟨⟨d1, d2, d3, w_reach, w_settled, d6⟩, ⟨t_time, t_store, t_rate, t_force, t_cleared, t_ploughed, t_failed, t_complained, s_lower, s_higher, s_kind, s_size, s_snow, s_saltEnd, s_complained, s_clearings, s_count, q_place, q_target, q_minutesLeft, q_waiting, q_orders, q_count⟩, F, S, ⟨h_free, h_count, R⟩, ⟨g1, g2, g3, b_mlt, b_countt, b_att, b_capt, b_bytest, b_mlo, b_counto, b_ato, b_capo, b_byteso⟩⟩ := V
  obtain ⟨hAt, hT, hR⟩ := hV
  have hT : zTc A t_time t_store t_rate t_force t_cleared t_ploughed t_failed t_complained s_lower s_higher s_kind s_size s_snow s_saltEnd s_complained s_clearings s_count q_place q_target q_minutesLeft q_waiting q_orders q_count := hT
  have hT9 := hT
  obtain ⟨hI, ⟨rfl, rfl, rfl, rfl, rfl, rfl, rfl, rfl⟩, ⟨rfl, hl, hh, hk, hz, hsn, hse, hco⟩, ⟨rfl, q1, q2, q3, q4, q5⟩, hK9, C, hC, hC4⟩ := hT
  have hA := hI.1
  have g := hI.2.1 i hi
  unfold wpD_length wpP_length wpX6_length
  dsimp only
  refine k_hasI hA.1 hi (br_n (by decide) ⟨vp_in_nI (by omega) (by omega), ?_⟩)
  rw [nI_clamp (by omega), zg hz i hi]
  exact hp
theorem q_depth {tb : Nat} {Z : (Nat → Nat) → Prop} {A : Nat → Nat} {c : Nat} {h : Nat → Nat → Nat} {V : DV} (hV : zST tb Z A c h V) {i : Nat} (hi : i < A 1) {post : Int32 → DV → Prop} (hp : post (nI (A (14 + 7 * i))) V) : wpD_depth (nI i) V post := by
  obtain ⟨⟨d1, d2, d3, w_reach, w_settled, d6⟩, ⟨t_time, t_store, t_rate, t_force, t_cleared, t_ploughed, t_failed, t_complained, s_lower, s_higher, s_kind, s_size, s_snow, s_saltEnd, s_complained, s_clearings, s_count, q_place, q_target, q_minutesLeft, q_waiting, q_orders, q_count⟩, F, S, ⟨h_free, h_count, R⟩, ⟨g1, g2, g3, b_mlt, b_countt, b_att, b_capt, b_bytest, b_mlo, b_counto, b_ato, b_capo, b_byteso⟩⟩ := V
  obtain ⟨hAt, hT, hR⟩ := hV
  have hT : zTc A t_time t_store t_rate t_force t_cleared t_ploughed t_failed t_complained s_lower s_higher s_kind s_size s_snow s_saltEnd s_complained s_clearings s_count q_place q_target q_minutesLeft q_waiting q_orders q_count := hT
  have hT9 := hT
  obtain ⟨hI, ⟨rfl, rfl, rfl, rfl, rfl, rfl, rfl, rfl⟩, ⟨rfl, hl, hh, hk, hz, hsn, hse, hco⟩, ⟨rfl, q1, q2, q3, q4, q5⟩, hK9, C, hC, hC4⟩ := hT
  have hA := hI.1
  have g := hI.2.1 i hi
  unfold wpD_depth wpP_depth wpX6_depth
  dsimp only
  refine k_hasI hA.1 hi (br_n (by decide) ⟨vp_in_nI (by omega) (by omega), ?_⟩)
  rw [nI_clamp (by omega), zg hsn i hi]
  exact hp
theorem q_complaints {tb : Nat} {Z : (Nat → Nat) → Prop} {A : Nat → Nat} {c : Nat} {h : Nat → Nat → Nat} {V : DV} (hV : zST tb Z A c h V) {i : Nat} (hi : i < A 1) {post : Int32 → DV → Prop} (hp : post (nI (A (16 + 7 * i))) V) : wpD_complaints (nI i) V post := by
  obtain ⟨⟨d1, d2, d3, w_reach, w_settled, d6⟩, ⟨t_time, t_store, t_rate, t_force, t_cleared, t_ploughed, t_failed, t_complained, s_lower, s_higher, s_kind, s_size, s_snow, s_saltEnd, s_complained, s_clearings, s_count, q_place, q_target, q_minutesLeft, q_waiting, q_orders, q_count⟩, F, S, ⟨h_free, h_count, R⟩, ⟨g1, g2, g3, b_mlt, b_countt, b_att, b_capt, b_bytest, b_mlo, b_counto, b_ato, b_capo, b_byteso⟩⟩ := V
  obtain ⟨hAt, hT, hR⟩ := hV
  have hT : zTc A t_time t_store t_rate t_force t_cleared t_ploughed t_failed t_complained s_lower s_higher s_kind s_size s_snow s_saltEnd s_complained s_clearings s_count q_place q_target q_minutesLeft q_waiting q_orders q_count := hT
  have hT9 := hT
  obtain ⟨hI, ⟨rfl, rfl, rfl, rfl, rfl, rfl, rfl, rfl⟩, ⟨rfl, hl, hh, hk, hz, hsn, hse, hco⟩, ⟨rfl, q1, q2, q3, q4, q5⟩, hK9, C, hC, hC4⟩ := hT
  have hA := hI.1
  have g := hI.2.1 i hi
  unfold wpD_complaints wpP_complaints wpX6_complaints
  dsimp only
  refine k_hasI hA.1 hi (br_n (by decide) ⟨vp_in_nI (by omega) (by omega), ?_⟩)
  rw [nI_clamp (by omega), zg hco i hi]
  exact hp
theorem q_isOverdue {tb : Nat} {Z : (Nat → Nat) → Prop} {A : Nat → Nat} {c : Nat} {h : Nat → Nat → Nat} {V : DV} (hV : zST tb Z A c h V) {i : Nat} (hi : i < A 1) {post : Int32 → DV → Prop} (hp : post (if zlim (A (12 + 7 * i)) < A (14 + 7 * i) then 1 else 0) V) : wpD_isOverdue (nI i) V post := by
  obtain ⟨⟨d1, d2, d3, w_reach, w_settled, d6⟩, ⟨t_time, t_store, t_rate, t_force, t_cleared, t_ploughed, t_failed, t_complained, s_lower, s_higher, s_kind, s_size, s_snow, s_saltEnd, s_complained, s_clearings, s_count, q_place, q_target, q_minutesLeft, q_waiting, q_orders, q_count⟩, F, S, ⟨h_free, h_count, R⟩, ⟨g1, g2, g3, b_mlt, b_countt, b_att, b_capt, b_bytest, b_mlo, b_counto, b_ato, b_capo, b_byteso⟩⟩ := V
  obtain ⟨hAt, hT, hR⟩ := hV
  have hT : zTc A t_time t_store t_rate t_force t_cleared t_ploughed t_failed t_complained s_lower s_higher s_kind s_size s_snow s_saltEnd s_complained s_clearings s_count q_place q_target q_minutesLeft q_waiting q_orders q_count := hT
  have hT9 := hT
  obtain ⟨hI, ⟨rfl, rfl, rfl, rfl, rfl, rfl, rfl, rfl⟩, ⟨rfl, hl, hh, hk, hz, hsn, hse, hco⟩, ⟨rfl, q1, q2, q3, q4, q5⟩, hK9, C, hC, hC4⟩ := hT
  have hA := hI.1
  have g := hI.2.1 i hi
  have lx := zlim_le g.2.2.2.1
  unfold wpD_isOverdue wpP_isOverdue wpX6_isOverdue
  dsimp only
  refine k_hasI hA.1 hi (br_n (by decide) (k_excess hI hk hsn hi ?_))
  by_cases e : zlim (A (12 + 7 * i)) < A (14 + 7 * i)
  · rw [if_pos e] at hp
    exact br_f (fun q => by have := (z_sub_le (by omega) (by omega)).mp q; omega) hp
  · rw [if_neg e] at hp
    exact br_t ((z_sub_le (by omega) (by omega)).mpr (by omega)) hp
theorem q_isSalted {tb : Nat} {Z : (Nat → Nat) → Prop} {A : Nat → Nat} {c : Nat} {h : Nat → Nat → Nat} {V : DV} (hV : zST tb Z A c h V) (htb : tb < 2 ^ 29) {i : Nat} (hi : i < A 1) {post : Int32 → DV → Prop} (hp : post (if A 0 < A (15 + 7 * i) then 1 else 0) V) : wpD_isSalted (nI i) V post := by
  obtain ⟨⟨d1, d2, d3, w_reach, w_settled, d6⟩, ⟨t_time, t_store, t_rate, t_force, t_cleared, t_ploughed, t_failed, t_complained, s_lower, s_higher, s_kind, s_size, s_snow, s_saltEnd, s_complained, s_clearings, s_count, q_place, q_target, q_minutesLeft, q_waiting, q_orders, q_count⟩, F, S, ⟨h_free, h_count, R⟩, ⟨g1, g2, g3, b_mlt, b_countt, b_att, b_capt, b_bytest, b_mlo, b_counto, b_ato, b_capo, b_byteso⟩⟩ := V
  obtain ⟨hAt, hT, hR⟩ := hV
  have hT : zTc A t_time t_store t_rate t_force t_cleared t_ploughed t_failed t_complained s_lower s_higher s_kind s_size s_snow s_saltEnd s_complained s_clearings s_count q_place q_target q_minutesLeft q_waiting q_orders q_count := hT
  have hT9 := hT
  obtain ⟨hI, ⟨rfl, rfl, rfl, rfl, rfl, rfl, rfl, rfl⟩, ⟨rfl, hl, hh, hk, hz, hsn, hse, hco⟩, ⟨rfl, q1, q2, q3, q4, q5⟩, hK9, C, hC, hC4⟩ := hT
  have hA := hI.1
  have g := hI.2.1 i hi
  unfold wpD_isSalted wpP_isSalted wpX6_isSalted
  dsimp only
  refine k_hasI hA.1 hi (br_n (by decide) (k_salt hI hse hi ?_))
  by_cases e : A 0 < A (15 + 7 * i)
  · rw [if_pos e] at hp
    exact br_f (fun q => by have := (z_sub_le (by omega) (by omega)).mp q; omega) hp
  · rw [if_neg e] at hp
    exact br_t ((z_sub_le (by omega) (by omega)).mpr (by omega)) hp
theorem q_saltMinutes {tb : Nat} {Z : (Nat → Nat) → Prop} {A : Nat → Nat} {c : Nat} {h : Nat → Nat → Nat} {V : DV} (hV : zST tb Z A c h V) (htb : tb < 2 ^ 29) {i : Nat} (hi : i < A 1) {post : Int32 → DV → Prop} (hp : post (zsalt A i) V) : wpL_saltMinutes (nI i) V post := by
  obtain ⟨⟨d1, d2, d3, w_reach, w_settled, d6⟩, ⟨t_time, t_store, t_rate, t_force, t_cleared, t_ploughed, t_failed, t_complained, s_lower, s_higher, s_kind, s_size, s_snow, s_saltEnd, s_complained, s_clearings, s_count, q_place, q_target, q_minutesLeft, q_waiting, q_orders, q_count⟩, F, S, ⟨h_free, h_count, R⟩, ⟨g1, g2, g3, b_mlt, b_countt, b_att, b_capt, b_bytest, b_mlo, b_counto, b_ato, b_capo, b_byteso⟩⟩ := V
  obtain ⟨hAt, hT, hR⟩ := hV
  have hT : zTc A t_time t_store t_rate t_force t_cleared t_ploughed t_failed t_complained s_lower s_higher s_kind s_size s_snow s_saltEnd s_complained s_clearings s_count q_place q_target q_minutesLeft q_waiting q_orders q_count := hT
  have hT9 := hT
  obtain ⟨hI, ⟨rfl, rfl, rfl, rfl, rfl, rfl, rfl, rfl⟩, ⟨rfl, hl, hh, hk, hz, hsn, hse, hco⟩, ⟨rfl, q1, q2, q3, q4, q5⟩, hK9, C, hC, hC4⟩ := hT
  have hA := hI.1
  have g := hI.2.1 i hi
  unfold wpL_saltMinutes wpP_saltMinutes wpX6_saltMinutes zsalt at *
  dsimp only
  refine k_hasI hA.1 hi (br_n (by decide) (k_salt hI hse hi ?_))
  by_cases e : A 0 < A (15 + 7 * i)
  · rw [if_pos e] at hp
    rw [show nI (A (15 + 7 * i)) - nI (A 0) = nI (A (15 + 7 * i) - A 0) from pk_sub (by omega)]
    exact br_t (nI_lt (a := 0) (by omega) (by omega)) hp
  · rw [if_neg e] at hp
    exact br_f (fun q => e ((z_sub_lt (by omega) (by omega)).mp q)) (Or.inr ⟨rfl, hp⟩)
theorem q_junction {tb : Nat} {Z : (Nat → Nat) → Prop} {A : Nat → Nat} {c : Nat} {h : Nat → Nat → Nat} {V : DV} (hV : zST tb Z A c h V) {j : Nat} (hj : j < A 2) {post : Int32 → DV → Prop} (hp : post (nI (A (94 + 9 * j))) V) : wpD_junction (nI j) V post := by
  obtain ⟨⟨d1, d2, d3, w_reach, w_settled, d6⟩, ⟨t_time, t_store, t_rate, t_force, t_cleared, t_ploughed, t_failed, t_complained, s_lower, s_higher, s_kind, s_size, s_snow, s_saltEnd, s_complained, s_clearings, s_count, q_place, q_target, q_minutesLeft, q_waiting, q_orders, q_count⟩, F, S, ⟨h_free, h_count, R⟩, ⟨g1, g2, g3, b_mlt, b_countt, b_att, b_capt, b_bytest, b_mlo, b_counto, b_ato, b_capo, b_byteso⟩⟩ := V
  obtain ⟨hAt, hT, hR⟩ := hV
  have hT : zTc A t_time t_store t_rate t_force t_cleared t_ploughed t_failed t_complained s_lower s_higher s_kind s_size s_snow s_saltEnd s_complained s_clearings s_count q_place q_target q_minutesLeft q_waiting q_orders q_count := hT
  have hT9 := hT
  obtain ⟨hI, ⟨rfl, rfl, rfl, rfl, rfl, rfl, rfl, rfl⟩, ⟨rfl, hl, hh, hk, hz, hsn, hse, hco⟩, ⟨rfl, q1, q2, q3, q4, q5⟩, hK9, C, hC, hC4⟩ := hT
  have hA := hI.1
  have g := zI_pl hI hj
  unfold wpD_junction wpP_junction wpX6_junction
  dsimp only
  refine k_pasI hA.2.1 hj (br_n (by decide) ⟨vp_in_nI (by omega) (by omega), ?_⟩)
  rw [nI_clamp (by omega), zg q1 j hj]
  exact hp
theorem q_busyMinutes {tb : Nat} {Z : (Nat → Nat) → Prop} {A : Nat → Nat} {c : Nat} {h : Nat → Nat → Nat} {V : DV} (hV : zST tb Z A c h V) {j : Nat} (hj : j < A 2) {post : Int32 → DV → Prop} (hp : post (nI (A (95 + 9 * j))) V) : wpD_busyMinutes (nI j) V post := by
  obtain ⟨⟨d1, d2, d3, w_reach, w_settled, d6⟩, ⟨t_time, t_store, t_rate, t_force, t_cleared, t_ploughed, t_failed, t_complained, s_lower, s_higher, s_kind, s_size, s_snow, s_saltEnd, s_complained, s_clearings, s_count, q_place, q_target, q_minutesLeft, q_waiting, q_orders, q_count⟩, F, S, ⟨h_free, h_count, R⟩, ⟨g1, g2, g3, b_mlt, b_countt, b_att, b_capt, b_bytest, b_mlo, b_counto, b_ato, b_capo, b_byteso⟩⟩ := V
  obtain ⟨hAt, hT, hR⟩ := hV
  have hT : zTc A t_time t_store t_rate t_force t_cleared t_ploughed t_failed t_complained s_lower s_higher s_kind s_size s_snow s_saltEnd s_complained s_clearings s_count q_place q_target q_minutesLeft q_waiting q_orders q_count := hT
  have hT9 := hT
  obtain ⟨hI, ⟨rfl, rfl, rfl, rfl, rfl, rfl, rfl, rfl⟩, ⟨rfl, hl, hh, hk, hz, hsn, hse, hco⟩, ⟨rfl, q1, q2, q3, q4, q5⟩, hK9, C, hC, hC4⟩ := hT
  have hA := hI.1
  have g := zI_pl hI hj
  unfold wpD_busyMinutes wpP_busyMinutes wpX6_busyMinutes
  dsimp only
  refine k_pasI hA.2.1 hj (br_n (by decide) ⟨vp_in_nI (by omega) (by omega), ?_⟩)
  rw [nI_clamp (by omega), zg q3 j hj]
  exact hp
theorem q_queueLength {tb : Nat} {Z : (Nat → Nat) → Prop} {A : Nat → Nat} {c : Nat} {h : Nat → Nat → Nat} {V : DV} (hV : zST tb Z A c h V) {j : Nat} (hj : j < A 2) {post : Int32 → DV → Prop} (hp : post (nI (A (97 + 9 * j))) V) : wpD_queueLength (nI j) V post := by
  obtain ⟨⟨d1, d2, d3, w_reach, w_settled, d6⟩, ⟨t_time, t_store, t_rate, t_force, t_cleared, t_ploughed, t_failed, t_complained, s_lower, s_higher, s_kind, s_size, s_snow, s_saltEnd, s_complained, s_clearings, s_count, q_place, q_target, q_minutesLeft, q_waiting, q_orders, q_count⟩, F, S, ⟨h_free, h_count, R⟩, ⟨g1, g2, g3, b_mlt, b_countt, b_att, b_capt, b_bytest, b_mlo, b_counto, b_ato, b_capo, b_byteso⟩⟩ := V
  obtain ⟨hAt, hT, hR⟩ := hV
  have hT : zTc A t_time t_store t_rate t_force t_cleared t_ploughed t_failed t_complained s_lower s_higher s_kind s_size s_snow s_saltEnd s_complained s_clearings s_count q_place q_target q_minutesLeft q_waiting q_orders q_count := hT
  have hT9 := hT
  obtain ⟨hI, ⟨rfl, rfl, rfl, rfl, rfl, rfl, rfl, rfl⟩, ⟨rfl, hl, hh, hk, hz, hsn, hse, hco⟩, ⟨rfl, q1, q2, q3, q4, q5⟩, hK9, C, hC, hC4⟩ := hT
  have hA := hI.1
  have g := zI_pl hI hj
  unfold wpD_queueLength wpP_queueLength wpX6_queueLength
  dsimp only
  refine k_pasI hA.2.1 hj (br_n (by decide) ⟨vp_in_nI (by omega) (by omega), ?_⟩)
  rw [nI_clamp (by omega), zg q4 j hj]
  exact hp
theorem q_isBusy {tb : Nat} {Z : (Nat → Nat) → Prop} {A : Nat → Nat} {c : Nat} {h : Nat → Nat → Nat} {V : DV} (hV : zST tb Z A c h V) {j : Nat} (hj : j < A 2) {post : Int32 → DV → Prop} (hp : post (if 0 < A (95 + 9 * j) then 1 else 0) V) : wpD_isBusy (nI j) V post := by
  obtain ⟨⟨d1, d2, d3, w_reach, w_settled, d6⟩, ⟨t_time, t_store, t_rate, t_force, t_cleared, t_ploughed, t_failed, t_complained, s_lower, s_higher, s_kind, s_size, s_snow, s_saltEnd, s_complained, s_clearings, s_count, q_place, q_target, q_minutesLeft, q_waiting, q_orders, q_count⟩, F, S, ⟨h_free, h_count, R⟩, ⟨g1, g2, g3, b_mlt, b_countt, b_att, b_capt, b_bytest, b_mlo, b_counto, b_ato, b_capo, b_byteso⟩⟩ := V
  obtain ⟨hAt, hT, hR⟩ := hV
  have hT : zTc A t_time t_store t_rate t_force t_cleared t_ploughed t_failed t_complained s_lower s_higher s_kind s_size s_snow s_saltEnd s_complained s_clearings s_count q_place q_target q_minutesLeft q_waiting q_orders q_count := hT
  have hT9 := hT
  obtain ⟨hI, ⟨rfl, rfl, rfl, rfl, rfl, rfl, rfl, rfl⟩, ⟨rfl, hl, hh, hk, hz, hsn, hse, hco⟩, ⟨rfl, q1, q2, q3, q4, q5⟩, hK9, C, hC, hC4⟩ := hT
  have hA := hI.1
  have g2 := (zI_pl hI hj).2.1
  unfold wpD_isBusy wpP_isBusy wpX6_isBusy
  dsimp only
  refine k_pasI hA.2.1 hj (br_n (by decide) ⟨vp_in_nI (by omega) (by omega), ?_⟩)
  rw [nI_clamp (by omega), zg q3 j hj]
  by_cases e : 0 < A (95 + 9 * j)
  · rw [if_pos e] at hp
    exact br_f (nI_nle (by omega) (by omega)) hp
  · rw [if_neg e] at hp
    exact br_t (by rw [show A (95 + 9 * j) = 0 by omega]; decide) hp
theorem q_currentStreet {tb : Nat} {Z : (Nat → Nat) → Prop} {A : Nat → Nat} {c : Nat} {h : Nat → Nat → Nat} {V : DV} (hV : zST tb Z A c h V) {j : Nat} (hj : j < A 2) {post : Int32 → DV → Prop} (hp : post (zcur A j) V) : wpL_currentStreet (nI j) V post := by
  obtain ⟨⟨d1, d2, d3, w_reach, w_settled, d6⟩, ⟨t_time, t_store, t_rate, t_force, t_cleared, t_ploughed, t_failed, t_complained, s_lower, s_higher, s_kind, s_size, s_snow, s_saltEnd, s_complained, s_clearings, s_count, q_place, q_target, q_minutesLeft, q_waiting, q_orders, q_count⟩, F, S, ⟨h_free, h_count, R⟩, ⟨g1, g2, g3, b_mlt, b_countt, b_att, b_capt, b_bytest, b_mlo, b_counto, b_ato, b_capo, b_byteso⟩⟩ := V
  obtain ⟨hAt, hT, hR⟩ := hV
  have hT : zTc A t_time t_store t_rate t_force t_cleared t_ploughed t_failed t_complained s_lower s_higher s_kind s_size s_snow s_saltEnd s_complained s_clearings s_count q_place q_target q_minutesLeft q_waiting q_orders q_count := hT
  have hT9 := hT
  obtain ⟨hI, ⟨rfl, rfl, rfl, rfl, rfl, rfl, rfl, rfl⟩, ⟨rfl, hl, hh, hk, hz, hsn, hse, hco⟩, ⟨rfl, q1, q2, q3, q4, q5⟩, hK9, C, hC, hC4⟩ := hT
  have hA := hI.1
  have g2 := (zI_pl hI hj).2.1
  unfold wpL_currentStreet wpP_currentStreet wpX6_currentStreet zcur at *
  dsimp only
  refine k_pasI hA.2.1 hj (br_n (by decide) ⟨vp_in_nI (by omega) (by omega), ?_⟩)
  rw [nI_clamp (by omega), zg q3 j hj]
  by_cases e : 0 < A (95 + 9 * j)
  · rw [if_pos e] at hp
    refine br_t (nI_lt (a := 0) e (by omega)) ⟨vp_in_nI (by omega) (by omega), ?_⟩
    rw [q2 j hj e]
    exact hp
  · rw [if_neg e] at hp
    exact br_f (by rw [show A (95 + 9 * j) = 0 by omega]; decide) (Or.inr ⟨rfl, hp⟩)
theorem q_queuedStreet {tb : Nat} {Z : (Nat → Nat) → Prop} {A : Nat → Nat} {c : Nat} {h : Nat → Nat → Nat} {V : DV} (hV : zST tb Z A c h V) {j k : Nat} (hj : j < A 2) (hk : k < A (97 + 9 * j)) {post : Int32 → DV → Prop} (hp : post (nI (A (98 + 9 * j + k))) V) : wpL_queuedStreet (nI j) (nI k) V post := by
  obtain ⟨⟨d1, d2, d3, w_reach, w_settled, d6⟩, ⟨t_time, t_store, t_rate, t_force, t_cleared, t_ploughed, t_failed, t_complained, s_lower, s_higher, s_kind, s_size, s_snow, s_saltEnd, s_complained, s_clearings, s_count, q_place, q_target, q_minutesLeft, q_waiting, q_orders, q_count⟩, F, S, ⟨h_free, h_count, R⟩, ⟨g1, g2, g3, b_mlt, b_countt, b_att, b_capt, b_bytest, b_mlo, b_counto, b_ato, b_capo, b_byteso⟩⟩ := V
  obtain ⟨hAt, hT, hR⟩ := hV
  have hT : zTc A t_time t_store t_rate t_force t_cleared t_ploughed t_failed t_complained s_lower s_higher s_kind s_size s_snow s_saltEnd s_complained s_clearings s_count q_place q_target q_minutesLeft q_waiting q_orders q_count := hT
  have hT9 := hT
  obtain ⟨hI, ⟨rfl, rfl, rfl, rfl, rfl, rfl, rfl, rfl⟩, ⟨rfl, hl, hh, hk9, hz, hsn, hse, hco⟩, ⟨rfl, q1, q2, q3, q4, q5⟩, hK9, C, hC, hC4⟩ := hT
  have hA := hI.1
  have g := zI_pl hI hj
  have g5 := g.2.2.2.1
  have hlt := g.2.2.2.2 k hk
  unfold wpL_queuedStreet wpP_queuedStreet wpX6_queuedStreet
  dsimp only
  refine k_pasI hA.2.1 hj (br_n (by decide) ?_)
  refine k_waitAt hI q4 q5 hj (fun k2 hk2 e => ?_) (fun q => absurd ⟨k, hk, rfl⟩ q)
  have ek : k2 = k := ((nI_eq (by omega) (by omega)).mp e).symm
  subst ek
  exact br_t (nI_pos' (by omega)) hp
theorem q_distance {tb : Nat} {Z : (Nat → Nat) → Prop} {A : Nat → Nat} {c : Nat} {h : Nat → Nat → Nat} {V : DV} (hV : zST tb Z A c h V) {a b : Nat} (ha : a < 8) (hb : b < 8) {post : Int32 → DV → Prop} (hp : ∀ V', zST tb Z A c h V' → post (zdst A a b) V') : wpL_distance (nI a) (nI b) V post := by
  obtain ⟨⟨d1, d2, d3, w_reach, w_settled, d6⟩, ⟨t_time, t_store, t_rate, t_force, t_cleared, t_ploughed, t_failed, t_complained, s_lower, s_higher, s_kind, s_size, s_snow, s_saltEnd, s_complained, s_clearings, s_count, q_place, q_target, q_minutesLeft, q_waiting, q_orders, q_count⟩, F, S, ⟨h_free, h_count, R⟩, ⟨g1, g2, g3, b_mlt, b_countt, b_att, b_capt, b_bytest, b_mlo, b_counto, b_ato, b_capo, b_byteso⟩⟩ := V
  obtain ⟨hAt, hT, hR⟩ := hV
  have hT : zTc A t_time t_store t_rate t_force t_cleared t_ploughed t_failed t_complained s_lower s_higher s_kind s_size s_snow s_saltEnd s_complained s_clearings s_count q_place q_target q_minutesLeft q_waiting q_orders q_count := hT
  have hT9 := hT
  obtain ⟨hI, ⟨rfl, rfl, rfl, rfl, rfl, rfl, rfl, rfl⟩, ⟨rfl, hl, hh, hk, hz, hsn, hse, hco⟩, ⟨rfl, q1, q2, q3, q4, q5⟩, hK9, C, hC, hC4⟩ := hT
  have hA := hI.1
  have d9 := (zD_sp hI a).2.2.2.2 b
  unfold wpL_distance wpP_distance wpX6_distance zdst at *
  dsimp only
  refine k_isjI ha (br_f (by decide) (k_isjI hb (br_n (by decide) (k_meas hI hl hh hz ha (fun f g9 hf => k_reach hf hb ?_)))))
  by_cases e : zD A a b < 9999
  · rw [if_pos e] at hp
    rw [show zcd (zD A a b) = zD A a b from if_pos e]
    exact br_t (nI_lt (b := 1000000) (by omega) (by omega)) (hp _ ⟨hAt, hT9, hR⟩)
  · rw [if_neg e] at hp
    rw [show zcd (zD A a b) = 1000000 from if_neg e]
    exact br_f (by decide) (Or.inr ⟨rfl, hp _ ⟨hAt, hT9, hR⟩⟩)
theorem q_distanceByJunctions {tb : Nat} {Z : (Nat → Nat) → Prop} {A : Nat → Nat} {c : Nat} {h : Nat → Nat → Nat} {V : DV} (hV : zST tb Z A c h V) {a b : Nat} (ha : a < 8) (hb : b < 8) {post : Int32 → DV → Prop} (hp : ∀ V', zST tb Z A c h V' → post (zdst A a b) V') : wpL_distanceByJunctions (nI a) (nI b) V post := by
  obtain ⟨⟨d1, d2, d3, w_reach, w_settled, d6⟩, ⟨t_time, t_store, t_rate, t_force, t_cleared, t_ploughed, t_failed, t_complained, s_lower, s_higher, s_kind, s_size, s_snow, s_saltEnd, s_complained, s_clearings, s_count, q_place, q_target, q_minutesLeft, q_waiting, q_orders, q_count⟩, F, S, ⟨h_free, h_count, R⟩, ⟨g1, g2, g3, b_mlt, b_countt, b_att, b_capt, b_bytest, b_mlo, b_counto, b_ato, b_capo, b_byteso⟩⟩ := V
  obtain ⟨hAt, hT, hR⟩ := hV
  have hT : zTc A t_time t_store t_rate t_force t_cleared t_ploughed t_failed t_complained s_lower s_higher s_kind s_size s_snow s_saltEnd s_complained s_clearings s_count q_place q_target q_minutesLeft q_waiting q_orders q_count := hT
  have hT9 := hT
  obtain ⟨hI, ⟨rfl, rfl, rfl, rfl, rfl, rfl, rfl, rfl⟩, ⟨rfl, hl, hh, hk, hz, hsn, hse, hco⟩, ⟨rfl, q1, q2, q3, q4, q5⟩, hK9, C, hC, hC4⟩ := hT
  have hA := hI.1
  have d9 := (zD_sp hI a).2.2.2.2 b
  unfold wpL_distanceByJunctions wpP_distanceByJunctions wpX6_distanceByJunctions zdst at *
  dsimp only
  refine k_isjI ha (br_f (by decide) (k_isjI hb (br_n (by decide) (k_all hI hl hh hz (fun f hf => k_betw hf ha hb ?_)))))
  by_cases e : zD A a b < 9999
  · rw [if_pos e] at hp
    rw [show zcd (zD A a b) = zD A a b from if_pos e]
    exact br_t (nI_lt (b := 1000000) (by omega) (by omega)) (hp _ ⟨hAt, hT9, hR⟩)
  · rw [if_neg e] at hp
    rw [show zcd (zD A a b) = 1000000 from if_neg e]
    exact br_f (by decide) (Or.inr ⟨rfl, hp _ ⟨hAt, hT9, hR⟩⟩)
theorem q_orderMinutes {tb : Nat} {Z : (Nat → Nat) → Prop} {A : Nat → Nat} {c : Nat} {h : Nat → Nat → Nat} {V : DV} (hV : zST tb Z A c h V) {j i : Nat} (hj : j < A 2) (hi : i < A 1) {post : Int32 → DV → Prop} (hp : ∀ V', zST tb Z A c h V' → post (zmns A j i) V') : wpL_orderMinutes (nI j) (nI i) V post := by
  obtain ⟨⟨d1, d2, d3, w_reach, w_settled, d6⟩, ⟨t_time, t_store, t_rate, t_force, t_cleared, t_ploughed, t_failed, t_complained, s_lower, s_higher, s_kind, s_size, s_snow, s_saltEnd, s_complained, s_clearings, s_count, q_place, q_target, q_minutesLeft, q_waiting, q_orders, q_count⟩, F, S, ⟨h_free, h_count, R⟩, ⟨g1, g2, g3, b_mlt, b_countt, b_att, b_capt, b_bytest, b_mlo, b_counto, b_ato, b_capo, b_byteso⟩⟩ := V
  obtain ⟨hAt, hT, hR⟩ := hV
  have hT : zTc A t_time t_store t_rate t_force t_cleared t_ploughed t_failed t_complained s_lower s_higher s_kind s_size s_snow s_saltEnd s_complained s_clearings s_count q_place q_target q_minutesLeft q_waiting q_orders q_count := hT
  have hT9 := hT
  obtain ⟨hI, ⟨rfl, rfl, rfl, rfl, rfl, rfl, rfl, rfl⟩, ⟨rfl, hl, hh, hk, hz, hsn, hse, hco⟩, ⟨rfl, q1, q2, q3, q4, q5⟩, hK9, C, hC, hC4⟩ := hT
  have hA := hI.1
  have g := zI_pl hI hj
  have gs := hI.2.1 i hi
  unfold wpL_orderMinutes wpP_orderMinutes wpX6_orderMinutes zmns at *
  dsimp only
  refine k_pasI hA.2.1 hj (br_f (by decide) (k_hasI hA.1 hi (br_n (by decide) (k_minutesFor hI hl hh hz q1 hj hi (fun f g9 _ => ⟨fun e => ?_, fun e => ?_⟩)))))
  · have hn := znr_le hI hi e
    rw [if_pos e] at hp
    exact br_t (nI_lt (b := 1000000) (by omega) (by omega)) (hp _ ⟨hAt, hT9, hR⟩)
  · rw [if_neg e] at hp
    exact br_f (by decide) (Or.inr ⟨rfl, hp _ ⟨hAt, hT9, hR⟩⟩)
theorem q_isConsistent {tb : Nat} {Z : (Nat → Nat) → Prop} {A : Nat → Nat} {c : Nat} {h : Nat → Nat → Nat} {V : DV} (hV : zST tb Z A c h V) (hJ : zsum (fun i => A (16 + 7 * i)) (A 1) = A 9) {post : Int32 → DV → Prop} (hp : ∀ V', zST tb Z A c h V' → post 1 V') : wpP_isConsistent V post := by
  obtain ⟨⟨d1, d2, d3, w_reach, w_settled, d6⟩, ⟨t_time, t_store, t_rate, t_force, t_cleared, t_ploughed, t_failed, t_complained, s_lower, s_higher, s_kind, s_size, s_snow, s_saltEnd, s_complained, s_clearings, s_count, q_place, q_target, q_minutesLeft, q_waiting, q_orders, q_count⟩, F, S, ⟨h_free, h_count, R⟩, ⟨g1, g2, g3, b_mlt, b_countt, b_att, b_capt, b_bytest, b_mlo, b_counto, b_ato, b_capo, b_byteso⟩⟩ := V
  obtain ⟨hAt, hT, hR⟩ := hV
  have hT : zTc A t_time t_store t_rate t_force t_cleared t_ploughed t_failed t_complained s_lower s_higher s_kind s_size s_snow s_saltEnd s_complained s_clearings s_count q_place q_target q_minutesLeft q_waiting q_orders q_count := hT
  have hT9 := hT
  obtain ⟨hI, ⟨rfl, rfl, rfl, rfl, rfl, rfl, rfl, rfl⟩, ⟨rfl, hl, hh, hk, hz, hsn, hse, hco⟩, ⟨rfl, q1, q2, q3, q4, q5⟩, hK9, C, hC, hC4⟩ := hT
  have hA := hI.1
  unfold wpP_isConsistent wpX6_isConsistent
  dsimp only
  refine k_agree hI hl hh hz (fun r s t => br_f (by decide) (k_compSum hA.1 hco ?_))
  rw [hJ]
  exact br_m rfl (k_depths hI hsn (br_f (by decide) (hp _ ⟨hAt, hT9, hR⟩)))
theorem q_depthNow {tb : Nat} {Z : (Nat → Nat) → Prop} {A : Nat → Nat} {c : Nat} {h : Nat → Nat → Nat} {V : DV} (hV : zST tb Z A c h V) {i : Nat} (hi : i < A 1) {post : Int32 → DV → Prop} (hp : post (nI (A (14 + 7 * i))) V) : wpL_depthAfter (nI i) 0 V post := by
  obtain ⟨⟨d1, d2, d3, w_reach, w_settled, d6⟩, ⟨t_time, t_store, t_rate, t_force, t_cleared, t_ploughed, t_failed, t_complained, s_lower, s_higher, s_kind, s_size, s_snow, s_saltEnd, s_complained, s_clearings, s_count, q_place, q_target, q_minutesLeft, q_waiting, q_orders, q_count⟩, F, S, ⟨h_free, h_count, R⟩, ⟨g1, g2, g3, b_mlt, b_countt, b_att, b_capt, b_bytest, b_mlo, b_counto, b_ato, b_capo, b_byteso⟩⟩ := V
  obtain ⟨hAt, hT, hR⟩ := hV
  have hT : zTc A t_time t_store t_rate t_force t_cleared t_ploughed t_failed t_complained s_lower s_higher s_kind s_size s_snow s_saltEnd s_complained s_clearings s_count q_place q_target q_minutesLeft q_waiting q_orders q_count := hT
  have hT9 := hT
  obtain ⟨hI, ⟨rfl, rfl, rfl, rfl, rfl, rfl, rfl, rfl⟩, ⟨rfl, hl, hh, hk, hz, hsn, hse, hco⟩, ⟨rfl, q1, q2, q3, q4, q5⟩, hK9, C, hC, hC4⟩ := hT
  have hA := hI.1
  have g := hI.2.1 i hi
  unfold wpL_depthAfter wpP_depthAfter wpX6_depthAfter
  dsimp only
  refine k_hasI hA.1 hi (br_n (by decide) (br_f (by decide) (br_t (by decide) (br_m rfl ⟨vp_in_nI (by omega) (by omega), ?_⟩))))
  rw [nI_clamp (by omega), zg hsn i hi]
  exact hp
