/-! contracts: by program (wip/whole/gen) -/
abbrev rmX5_copyFrom : Room := { frames := 2, cells := 0, slots := 0, locals := 122 }
set_option maxRecDepth 20000 in
theorem inX5_copyFrom_X2 : ∀ w ∈ wsX20, w ∈ wsX5_copyFrom := by decide +kernel
set_option maxRecDepth 20000 in
theorem inX5_copyFrom_X4 : ∀ w ∈ wsX40, w ∈ wsX5_copyFrom := by decide +kernel
set_option maxRecDepth 20000 in
theorem inX5_copyFrom_X5 : ∀ w ∈ wsX50, w ∈ wsX5_copyFrom := by decide +kernel
set_option maxHeartbeats 4000000 in
set_option maxRecDepth 100000 in
theorem ctX5_copyFrom (l : Launch) (g : GG) (a_to : Nat → Nat) (a_pa : Nat → Nat) (a_st : Nat → Nat) (a_pl : Nat → Nat) (a_t2 : Nat → Nat) (a_so : Nat → Nat) (a_po : Nat → Nat) (sz : Nat) (t_time : Int32) (t_store : Int32) (t_rate : Int32) (t_force : Int32) (t_cleared : Int32) (t_ploughed : Int32) (t_failed : Int32) (t_complained : Int32) (s_lower : Nat → Int32) (s_higher : Nat → Int32) (s_kind : Nat → Int32) (s_size : Nat → Int32) (s_snow : Nat → Int32) (s_saltEnd : Nat → Int32) (s_complained : Nat → Int32) (s_clearings : Nat → Int32) (s_count : Int32) (q_place : Nat → Int32) (q_target : Nat → Int32) (q_minutesLeft : Nat → Int32) (q_waiting : Nat → Int32) (q_orders : Nat → Int32) (q_count : Int32) (t_timeo : Int32) (t_storeo : Int32) (t_rateo : Int32) (t_forceo : Int32) (t_clearedo : Int32) (t_ploughedo : Int32) (t_failedo : Int32) (t_complainedo : Int32) (s_lowero : Nat → Int32) (s_highero : Nat → Int32) (s_kindo : Nat → Int32) (s_sizeo : Nat → Int32) (s_snowo : Nat → Int32) (s_saltEndo : Nat → Int32) (s_complainedo : Nat → Int32) (s_clearingso : Nat → Int32) (s_counto : Int32) (q_placeo : Nat → Int32) (q_targeto : Nat → Int32) (q_minutesLefto : Nat → Int32) (q_waitingo : Nat → Int32) (q_orderso : Nat → Int32) (q_counto : Int32) {post : Int32 → Int32 → Int32 → Int32 → Int32 → Int32 → Int32 → Int32 → (Nat → Int32) → (Nat → Int32) → (Nat → Int32) → (Nat → Int32) → (Nat → Int32) → (Nat → Int32) → (Nat → Int32) → (Nat → Int32) → Int32 → (Nat → Int32) → (Nat → Int32) → (Nat → Int32) → (Nat → Int32) → (Nat → Int32) → Int32 → Prop} (hw : wpX5_copyFrom t_time t_store t_rate t_force t_cleared t_ploughed t_failed t_complained s_lower s_higher s_kind s_size s_snow s_saltEnd s_complained s_clearings s_count q_place q_target q_minutesLeft q_waiting q_orders q_count t_timeo t_storeo t_rateo t_forceo t_clearedo t_ploughedo t_failedo t_complainedo s_lowero s_highero s_kindo s_sizeo s_snowo s_saltEndo s_complainedo s_clearingso s_counto q_placeo q_targeto q_minutesLefto q_waitingo q_orderso q_counto post) :
    Met l yX5_copyFrom wsX5_copyFrom rmX5_copyFrom (gPc g sz (List.flatten [kTo g a_to a_pa a_st a_pl t_time t_store t_rate t_force t_cleared t_ploughed t_failed t_complained, kSt g a_st s_lower s_higher s_kind s_size s_snow s_saltEnd s_complained s_clearings s_count, kPl g a_pl q_place q_target q_minutesLeft q_waiting q_orders q_count, kTo g a_t2 a_pa a_so a_po t_timeo t_storeo t_rateo t_forceo t_clearedo t_ploughedo t_failedo t_complainedo, kSt g a_so s_lowero s_highero s_kindo s_sizeo s_snowo s_saltEndo s_complainedo s_clearingso s_counto, kPl g a_po q_placeo q_targeto q_minutesLefto q_waitingo q_orderso q_counto]) [.ref (a_to 0), .ref (a_t2 0)]) (gQv23 post (fun u1 u2 u3 u4 u5 u6 u7 u8 u9 u10 u11 u12 u13 u14 u15 u16 u17 u18 u19 u20 u21 u22 u23 => gB g (List.flatten [kTo g a_to a_pa a_st a_pl t_time t_store t_rate t_force t_cleared t_ploughed t_failed t_complained, kSt g a_st s_lower s_higher s_kind s_size s_snow s_saltEnd s_complained s_clearings s_count, kPl g a_pl q_place q_target q_minutesLeft q_waiting q_orders q_count, kTo g a_t2 a_pa a_so a_po t_timeo t_storeo t_rateo t_forceo t_clearedo t_ploughedo t_failedo t_complainedo, kSt g a_so s_lowero s_highero s_kindo s_sizeo s_snowo s_saltEndo s_complainedo s_clearingso s_counto, kPl g a_po q_placeo q_targeto q_minutesLefto q_waitingo q_orderso q_counto]) sz (List.flatten [kTo g a_to a_pa a_st a_pl u1 u2 u3 u4 u5 u6 u7 u8, kSt g a_st u9 u10 u11 u12 u13 u14 u15 u16 u17, kPl g a_pl u18 u19 u20 u21 u22 u23, kTo g a_t2 a_pa a_so a_po t_timeo t_storeo t_rateo t_forceo t_clearedo t_ploughedo t_failedo t_complainedo, kSt g a_so s_lowero s_highero s_kindo s_sizeo s_snowo s_saltEndo s_complainedo s_clearingso s_counto, kPl g a_po q_placeo q_targeto q_minutesLefto q_waitingo q_orderso q_counto])) (va_A (List.flatten [kTo g a_to a_pa a_st a_pl t_time t_store t_rate t_force t_cleared t_ploughed t_failed t_complained, kSt g a_st s_lower s_higher s_kind s_size s_snow s_saltEnd s_complained s_clearings s_count, kPl g a_pl q_place q_target q_minutesLeft q_waiting q_orders q_count, kTo g a_t2 a_pa a_so a_po t_timeo t_storeo t_rateo t_forceo t_clearedo t_ploughedo t_failedo t_complainedo, kSt g a_so s_lowero s_highero s_kindo s_sizeo s_snowo s_saltEndo s_complainedo s_clearingso s_counto, kPl g a_po q_placeo q_targeto q_minutesLefto q_waitingo q_orderso q_counto]) sz)) 0 0 (va_A (List.flatten [kTo g a_to a_pa a_st a_pl t_time t_store t_rate t_force t_cleared t_ploughed t_failed t_complained, kSt g a_st s_lower s_higher s_kind s_size s_snow s_saltEnd s_complained s_clearings s_count, kPl g a_pl q_place q_target q_minutesLeft q_waiting q_orders q_count, kTo g a_t2 a_pa a_so a_po t_timeo t_storeo t_rateo t_forceo t_clearedo t_ploughedo t_failedo t_complainedo, kSt g a_so s_lowero s_highero s_kindo s_sizeo s_snowo s_saltEndo s_complainedo s_clearingso s_counto, kPl g a_po q_placeo q_targeto q_minutesLefto q_waitingo q_orderso q_counto]) sz) := by
  refine gOf (cc := cX5_copyFrom) (maxL := 2) (ret := none) (by decide) rfl (Nat.le_of_ble_eq_true rfl) ?_
  intro p e s m below meth c ls Q A hQ hx hb hr hml hts hown hlocks hE hA0 hsz hP hD hA hS hl
  have hl : lv_has ls 2 [(0, .ref (a_to 0)), (1, .ref (a_t2 0))] := hl
  refine lv_aload_n hx hb dX5_copyFrom_0 rfl (lv_at hl 0 rfl) ?_
  refine va_get (D := g.1) (ci := 9) (v := .ref (a_st 0)) (C := RX5) (T := TX5) (N := 11) hx hb hts inX5_copyFrom_X5 hown hE.1 hP 0 rfl rfl 1 (by decide) (gW hts 1 (.fieldLink RX5 18 "SnowDispatcher$Town" "streets" "LSnowDispatcher$Streets;") rfl) (fun _ h9 => h9) rfl dX5_copyFrom_1 ?_
  refine lv_aload_n hx hb dX5_copyFrom_4 rfl (lv_at hl 1 rfl) ?_
  refine va_get (D := g.1) (ci := 9) (v := .ref (a_so 0)) (C := RX5) (T := TX5) (N := 11) hx hb hts inX5_copyFrom_X5 hown hE.1 hP 16 rfl rfl 1 (by decide) (gW hts 1 (.fieldLink RX5 18 "SnowDispatcher$Town" "streets" "LSnowDispatcher$Streets;") rfl) (fun _ h9 => h9) rfl dX5_copyFrom_5 ?_
  refine gCv9 (gRunV (As := [.ref (a_so 0)]) (rest := []) ⟨hx, hb, hml, hown, hts⟩ (ctX4_copyFrom l g a_st a_so _ s_lower s_higher s_kind s_size s_snow s_saltEnd s_complained s_clearings s_count s_lowero s_highero s_kindo s_sizeo s_snowo s_saltEndo s_complainedo s_clearingso s_counto hw) (cwV 1 hts gX5_copyFrom_X4_copyFrom rfl rfl rfl (by decide +kernel) ⟨Nat.le_of_ble_eq_true rfl, Nat.le_of_ble_eq_true rfl⟩) hE (gSub hP [1, 4]) (gDSub hD [1, 4] rfl) 0 8 rfl rfl rfl rfl rfl hl.1 rfl (lv_room (Nat.le_of_ble_eq_true rfl)) dX5_copyFrom_8 ⟨Nat.le_of_ble_eq_true rfl, Nat.le_of_ble_eq_true rfl⟩) hP hD hS hA [1, 4] rfl (fun _ _ _ _ _ _ _ _ _ => rfl) rfl (fun s_lower_v1 s_higher_v1 s_kind_v1 s_size_v1 s_snow_v1 s_saltEnd_v1 s_complained_v1 s_clearings_v1 s_count_v1 H locs hw hP hD hS => ?_)
  have hP : va_P g.1 vwCl (List.flatten [kTo g a_to a_pa a_st a_pl t_time t_store t_rate t_force t_cleared t_ploughed t_failed t_complained, kSt g a_st s_lower_v1 s_higher_v1 s_kind_v1 s_size_v1 s_snow_v1 s_saltEnd_v1 s_complained_v1 s_clearings_v1 s_count_v1, kPl g a_pl q_place q_target q_minutesLeft q_waiting q_orders q_count, kTo g a_t2 a_pa a_so a_po t_timeo t_storeo t_rateo t_forceo t_clearedo t_ploughedo t_failedo t_complainedo, kSt g a_so s_lowero s_highero s_kindo s_sizeo s_snowo s_saltEndo s_complainedo s_clearingso s_counto, kPl g a_po q_placeo q_targeto q_minutesLefto q_waitingo q_orderso q_counto]) H := hP
  have hD : va_D A (List.flatten [kTo g a_to a_pa a_st a_pl t_time t_store t_rate t_force t_cleared t_ploughed t_failed t_complained, kSt g a_st s_lower_v1 s_higher_v1 s_kind_v1 s_size_v1 s_snow_v1 s_saltEnd_v1 s_complained_v1 s_clearings_v1 s_count_v1, kPl g a_pl q_place q_target q_minutesLeft q_waiting q_orders q_count, kTo g a_t2 a_pa a_so a_po t_timeo t_storeo t_rateo t_forceo t_clearedo t_ploughedo t_failedo t_complainedo, kSt g a_so s_lowero s_highero s_kindo s_sizeo s_snowo s_saltEndo s_complainedo s_clearingso s_counto, kPl g a_po q_placeo q_targeto q_minutesLefto q_waitingo q_orderso q_counto]) := hD
  refine lv_aload_n hx hb dX5_copyFrom_11 rfl (lv_at hl 0 rfl) ?_
  refine va_get (D := g.1) (ci := 9) (v := .ref (a_pl 0)) (C := RX5) (T := TX5) (N := 11) hx hb hts inX5_copyFrom_X5 hown hE.1 hP 0 rfl rfl 2 (by decide) (gW hts 2 (.fieldLink RX5 25 "SnowDispatcher$Town" "ploughs" "LSnowDispatcher$Ploughs;") rfl) (fun _ h9 => h9) rfl dX5_copyFrom_12 ?_
  refine lv_aload_n hx hb dX5_copyFrom_15 rfl (lv_at hl 1 rfl) ?_
  refine va_get (D := g.1) (ci := 9) (v := .ref (a_po 0)) (C := RX5) (T := TX5) (N := 11) hx hb hts inX5_copyFrom_X5 hown hE.1 hP 16 rfl rfl 2 (by decide) (gW hts 2 (.fieldLink RX5 25 "SnowDispatcher$Town" "ploughs" "LSnowDispatcher$Ploughs;") rfl) (fun _ h9 => h9) rfl dX5_copyFrom_16 ?_
  refine gCv6 (gRunV (As := [.ref (a_po 0)]) (rest := []) ⟨hx, hb, hml, hown, hts⟩ (ctX2_copyFrom l g a_pl a_po _ q_place q_target q_minutesLeft q_waiting q_orders q_count q_placeo q_targeto q_minutesLefto q_waitingo q_orderso q_counto hw) (cwV 1 hts gX5_copyFrom_X2_copyFrom rfl rfl rfl (by decide +kernel) ⟨Nat.le_of_ble_eq_true rfl, Nat.le_of_ble_eq_true rfl⟩) hE (gSub hP [2, 5]) (gDSub hD [2, 5] rfl) 0 6 rfl rfl rfl rfl rfl hl.1 rfl (lv_room (Nat.le_of_ble_eq_true rfl)) dX5_copyFrom_19 ⟨Nat.le_of_ble_eq_true rfl, Nat.le_of_ble_eq_true rfl⟩) hP hD hS hA [2, 5] rfl (fun _ _ _ _ _ _ => rfl) rfl (fun q_place_v2 q_target_v2 q_minutesLeft_v2 q_waiting_v2 q_orders_v2 q_count_v2 H locs hw hP hD hS => ?_)
  have hP : va_P g.1 vwCl (List.flatten [kTo g a_to a_pa a_st a_pl t_time t_store t_rate t_force t_cleared t_ploughed t_failed t_complained, kSt g a_st s_lower_v1 s_higher_v1 s_kind_v1 s_size_v1 s_snow_v1 s_saltEnd_v1 s_complained_v1 s_clearings_v1 s_count_v1, kPl g a_pl q_place_v2 q_target_v2 q_minutesLeft_v2 q_waiting_v2 q_orders_v2 q_count_v2, kTo g a_t2 a_pa a_so a_po t_timeo t_storeo t_rateo t_forceo t_clearedo t_ploughedo t_failedo t_complainedo, kSt g a_so s_lowero s_highero s_kindo s_sizeo s_snowo s_saltEndo s_complainedo s_clearingso s_counto, kPl g a_po q_placeo q_targeto q_minutesLefto q_waitingo q_orderso q_counto]) H := hP
  have hD : va_D A (List.flatten [kTo g a_to a_pa a_st a_pl t_time t_store t_rate t_force t_cleared t_ploughed t_failed t_complained, kSt g a_st s_lower_v1 s_higher_v1 s_kind_v1 s_size_v1 s_snow_v1 s_saltEnd_v1 s_complained_v1 s_clearings_v1 s_count_v1, kPl g a_pl q_place_v2 q_target_v2 q_minutesLeft_v2 q_waiting_v2 q_orders_v2 q_count_v2, kTo g a_t2 a_pa a_so a_po t_timeo t_storeo t_rateo t_forceo t_clearedo t_ploughedo t_failedo t_complainedo, kSt g a_so s_lowero s_highero s_kindo s_sizeo s_snowo s_saltEndo s_complainedo s_clearingso s_counto, kPl g a_po q_placeo q_targeto q_minutesLefto q_waitingo q_orderso q_counto]) := hD
  refine lv_aload_n hx hb dX5_copyFrom_22 rfl (lv_at hl 0 rfl) ?_
  refine lv_aload_n hx hb dX5_copyFrom_23 rfl (lv_at hl 1 rfl) ?_
  refine va_get (D := g.1) (ci := 9) (v := .int t_timeo) (C := RX5) (T := TX5) (N := 11) hx hb hts inX5_copyFrom_X5 hown hE.1 hP 16 rfl rfl 3 (by decide) (gW hts 3 (.fieldLink RX5 36 "SnowDispatcher$Town" "time" "I") rfl) (fun _ h9 => h9) rfl dX5_copyFrom_24 ?_
  refine va_put (D := g.1) (ci := 9) (v := .int t_timeo) (ty := .int) (C := RX5) (T := TX5) (N := 11) hx hb hts inX5_copyFrom_X5 tyX5 tyX5_ok nmX5 hown hE.1 hP hD hS 0 rfl rfl 3 (by decide) (gW hts 3 (.fieldLink RX5 36 "SnowDispatcher$Town" "time" "I") rfl) (fun _ h9 => h9) rfl (by decide +kernel) rfl rfl (Nat.le_of_ble_eq_true rfl) dX5_copyFrom_27 (fun H locs hP hD hS => ?_)
  have hP : va_P g.1 vwCl (List.flatten [kTo g a_to a_pa a_st a_pl t_timeo t_store t_rate t_force t_cleared t_ploughed t_failed t_complained, kSt g a_st s_lower_v1 s_higher_v1 s_kind_v1 s_size_v1 s_snow_v1 s_saltEnd_v1 s_complained_v1 s_clearings_v1 s_count_v1, kPl g a_pl q_place_v2 q_target_v2 q_minutesLeft_v2 q_waiting_v2 q_orders_v2 q_count_v2, kTo g a_t2 a_pa a_so a_po t_timeo t_storeo t_rateo t_forceo t_clearedo t_ploughedo t_failedo t_complainedo, kSt g a_so s_lowero s_highero s_kindo s_sizeo s_snowo s_saltEndo s_complainedo s_clearingso s_counto, kPl g a_po q_placeo q_targeto q_minutesLefto q_waitingo q_orderso q_counto]) H := hP
  have hD : va_D A (List.flatten [kTo g a_to a_pa a_st a_pl t_timeo t_store t_rate t_force t_cleared t_ploughed t_failed t_complained, kSt g a_st s_lower_v1 s_higher_v1 s_kind_v1 s_size_v1 s_snow_v1 s_saltEnd_v1 s_complained_v1 s_clearings_v1 s_count_v1, kPl g a_pl q_place_v2 q_target_v2 q_minutesLeft_v2 q_waiting_v2 q_orders_v2 q_count_v2, kTo g a_t2 a_pa a_so a_po t_timeo t_storeo t_rateo t_forceo t_clearedo t_ploughedo t_failedo t_complainedo, kSt g a_so s_lowero s_highero s_kindo s_sizeo s_snowo s_saltEndo s_complainedo s_clearingso s_counto, kPl g a_po q_placeo q_targeto q_minutesLefto q_waitingo q_orderso q_counto]) := hD
  refine lv_aload_n hx hb dX5_copyFrom_30 rfl (lv_at hl 0 rfl) ?_
  refine lv_aload_n hx hb dX5_copyFrom_31 rfl (lv_at hl 1 rfl) ?_
  refine va_get (D := g.1) (ci := 9) (v := .int t_storeo) (C := RX5) (T := TX5) (N := 11) hx hb hts inX5_copyFrom_X5 hown hE.1 hP 16 rfl rfl 4 (by decide) (gW hts 4 (.fieldLink RX5 40 "SnowDispatcher$Town" "store" "I") rfl) (fun _ h9 => h9) rfl dX5_copyFrom_32 ?_
  refine va_put (D := g.1) (ci := 9) (v := .int t_storeo) (ty := .int) (C := RX5) (T := TX5) (N := 11) hx hb hts inX5_copyFrom_X5 tyX5 tyX5_ok nmX5 hown hE.1 hP hD hS 0 rfl rfl 4 (by decide) (gW hts 4 (.fieldLink RX5 40 "SnowDispatcher$Town" "store" "I") rfl) (fun _ h9 => h9) rfl (by decide +kernel) rfl rfl (Nat.le_of_ble_eq_true rfl) dX5_copyFrom_35 (fun H locs hP hD hS => ?_)
  have hP : va_P g.1 vwCl (List.flatten [kTo g a_to a_pa a_st a_pl t_timeo t_storeo t_rate t_force t_cleared t_ploughed t_failed t_complained, kSt g a_st s_lower_v1 s_higher_v1 s_kind_v1 s_size_v1 s_snow_v1 s_saltEnd_v1 s_complained_v1 s_clearings_v1 s_count_v1, kPl g a_pl q_place_v2 q_target_v2 q_minutesLeft_v2 q_waiting_v2 q_orders_v2 q_count_v2, kTo g a_t2 a_pa a_so a_po t_timeo t_storeo t_rateo t_forceo t_clearedo t_ploughedo t_failedo t_complainedo, kSt g a_so s_lowero s_highero s_kindo s_sizeo s_snowo s_saltEndo s_complainedo s_clearingso s_counto, kPl g a_po q_placeo q_targeto q_minutesLefto q_waitingo q_orderso q_counto]) H := hP
  have hD : va_D A (List.flatten [kTo g a_to a_pa a_st a_pl t_timeo t_storeo t_rate t_force t_cleared t_ploughed t_failed t_complained, kSt g a_st s_lower_v1 s_higher_v1 s_kind_v1 s_size_v1 s_snow_v1 s_saltEnd_v1 s_complained_v1 s_clearings_v1 s_count_v1, kPl g a_pl q_place_v2 q_target_v2 q_minutesLeft_v2 q_waiting_v2 q_orders_v2 q_count_v2, kTo g a_t2 a_pa a_so a_po t_timeo t_storeo t_rateo t_forceo t_clearedo t_ploughedo t_failedo t_complainedo, kSt g a_so s_lowero s_highero s_kindo s_sizeo s_snowo s_saltEndo s_complainedo s_clearingso s_counto, kPl g a_po q_placeo q_targeto q_minutesLefto q_waitingo q_orderso q_counto]) := hD
  refine lv_aload_n hx hb dX5_copyFrom_38 rfl (lv_at hl 0 rfl) ?_
  refine lv_aload_n hx hb dX5_copyFrom_39 rfl (lv_at hl 1 rfl) ?_
  refine va_get (D := g.1) (ci := 9) (v := .int t_rateo) (C := RX5) (T := TX5) (N := 11) hx hb hts inX5_copyFrom_X5 hown hE.1 hP 16 rfl rfl 5 (by decide) (gW hts 5 (.fieldLink RX5 43 "SnowDispatcher$Town" "rate" "I") rfl) (fun _ h9 => h9) rfl dX5_copyFrom_40 ?_
  refine va_put (D := g.1) (ci := 9) (v := .int t_rateo) (ty := .int) (C := RX5) (T := TX5) (N := 11) hx hb hts inX5_copyFrom_X5 tyX5 tyX5_ok nmX5 hown hE.1 hP hD hS 0 rfl rfl 5 (by decide) (gW hts 5 (.fieldLink RX5 43 "SnowDispatcher$Town" "rate" "I") rfl) (fun _ h9 => h9) rfl (by decide +kernel) rfl rfl (Nat.le_of_ble_eq_true rfl) dX5_copyFrom_43 (fun H locs hP hD hS => ?_)
  have hP : va_P g.1 vwCl (List.flatten [kTo g a_to a_pa a_st a_pl t_timeo t_storeo t_rateo t_force t_cleared t_ploughed t_failed t_complained, kSt g a_st s_lower_v1 s_higher_v1 s_kind_v1 s_size_v1 s_snow_v1 s_saltEnd_v1 s_complained_v1 s_clearings_v1 s_count_v1, kPl g a_pl q_place_v2 q_target_v2 q_minutesLeft_v2 q_waiting_v2 q_orders_v2 q_count_v2, kTo g a_t2 a_pa a_so a_po t_timeo t_storeo t_rateo t_forceo t_clearedo t_ploughedo t_failedo t_complainedo, kSt g a_so s_lowero s_highero s_kindo s_sizeo s_snowo s_saltEndo s_complainedo s_clearingso s_counto, kPl g a_po q_placeo q_targeto q_minutesLefto q_waitingo q_orderso q_counto]) H := hP
  have hD : va_D A (List.flatten [kTo g a_to a_pa a_st a_pl t_timeo t_storeo t_rateo t_force t_cleared t_ploughed t_failed t_complained, kSt g a_st s_lower_v1 s_higher_v1 s_kind_v1 s_size_v1 s_snow_v1 s_saltEnd_v1 s_complained_v1 s_clearings_v1 s_count_v1, kPl g a_pl q_place_v2 q_target_v2 q_minutesLeft_v2 q_waiting_v2 q_orders_v2 q_count_v2, kTo g a_t2 a_pa a_so a_po t_timeo t_storeo t_rateo t_forceo t_clearedo t_ploughedo t_failedo t_complainedo, kSt g a_so s_lowero s_highero s_kindo s_sizeo s_snowo s_saltEndo s_complainedo s_clearingso s_counto, kPl g a_po q_placeo q_targeto q_minutesLefto q_waitingo q_orderso q_counto]) := hD
  refine lv_aload_n hx hb dX5_copyFrom_46 rfl (lv_at hl 0 rfl) ?_
  refine lv_aload_n hx hb dX5_copyFrom_47 rfl (lv_at hl 1 rfl) ?_
  refine va_get (D := g.1) (ci := 9) (v := .int t_forceo) (C := RX5) (T := TX5) (N := 11) hx hb hts inX5_copyFrom_X5 hown hE.1 hP 16 rfl rfl 6 (by decide) (gW hts 6 (.fieldLink RX5 46 "SnowDispatcher$Town" "force" "I") rfl) (fun _ h9 => h9) rfl dX5_copyFrom_48 ?_
  refine va_put (D := g.1) (ci := 9) (v := .int t_forceo) (ty := .int) (C := RX5) (T := TX5) (N := 11) hx hb hts inX5_copyFrom_X5 tyX5 tyX5_ok nmX5 hown hE.1 hP hD hS 0 rfl rfl 6 (by decide) (gW hts 6 (.fieldLink RX5 46 "SnowDispatcher$Town" "force" "I") rfl) (fun _ h9 => h9) rfl (by decide +kernel) rfl rfl (Nat.le_of_ble_eq_true rfl) dX5_copyFrom_51 (fun H locs hP hD hS => ?_)
  have hP : va_P g.1 vwCl (List.flatten [kTo g a_to a_pa a_st a_pl t_timeo t_storeo t_rateo t_forceo t_cleared t_ploughed t_failed t_complained, kSt g a_st s_lower_v1 s_higher_v1 s_kind_v1 s_size_v1 s_snow_v1 s_saltEnd_v1 s_complained_v1 s_clearings_v1 s_count_v1, kPl g a_pl q_place_v2 q_target_v2 q_minutesLeft_v2 q_waiting_v2 q_orders_v2 q_count_v2, kTo g a_t2 a_pa a_so a_po t_timeo t_storeo t_rateo t_forceo t_clearedo t_ploughedo t_failedo t_complainedo, kSt g a_so s_lowero s_highero s_kindo s_sizeo s_snowo s_saltEndo s_complainedo s_clearingso s_counto, kPl g a_po q_placeo q_targeto q_minutesLefto q_waitingo q_orderso q_counto]) H := hP
  have hD : va_D A (List.flatten [kTo g a_to a_pa a_st a_pl t_timeo t_storeo t_rateo t_forceo t_cleared t_ploughed t_failed t_complained, kSt g a_st s_lower_v1 s_higher_v1 s_kind_v1 s_size_v1 s_snow_v1 s_saltEnd_v1 s_complained_v1 s_clearings_v1 s_count_v1, kPl g a_pl q_place_v2 q_target_v2 q_minutesLeft_v2 q_waiting_v2 q_orders_v2 q_count_v2, kTo g a_t2 a_pa a_so a_po t_timeo t_storeo t_rateo t_forceo t_clearedo t_ploughedo t_failedo t_complainedo, kSt g a_so s_lowero s_highero s_kindo s_sizeo s_snowo s_saltEndo s_complainedo s_clearingso s_counto, kPl g a_po q_placeo q_targeto q_minutesLefto q_waitingo q_orderso q_counto]) := hD
  refine lv_aload_n hx hb dX5_copyFrom_54 rfl (lv_at hl 0 rfl) ?_
  refine lv_aload_n hx hb dX5_copyFrom_55 rfl (lv_at hl 1 rfl) ?_
  refine va_get (D := g.1) (ci := 9) (v := .int t_clearedo) (C := RX5) (T := TX5) (N := 11) hx hb hts inX5_copyFrom_X5 hown hE.1 hP 16 rfl rfl 7 (by decide) (gW hts 7 (.fieldLink RX5 49 "SnowDispatcher$Town" "cleared" "I") rfl) (fun _ h9 => h9) rfl dX5_copyFrom_56 ?_
  refine va_put (D := g.1) (ci := 9) (v := .int t_clearedo) (ty := .int) (C := RX5) (T := TX5) (N := 11) hx hb hts inX5_copyFrom_X5 tyX5 tyX5_ok nmX5 hown hE.1 hP hD hS 0 rfl rfl 7 (by decide) (gW hts 7 (.fieldLink RX5 49 "SnowDispatcher$Town" "cleared" "I") rfl) (fun _ h9 => h9) rfl (by decide +kernel) rfl rfl (Nat.le_of_ble_eq_true rfl) dX5_copyFrom_59 (fun H locs hP hD hS => ?_)
  have hP : va_P g.1 vwCl (List.flatten [kTo g a_to a_pa a_st a_pl t_timeo t_storeo t_rateo t_forceo t_clearedo t_ploughed t_failed t_complained, kSt g a_st s_lower_v1 s_higher_v1 s_kind_v1 s_size_v1 s_snow_v1 s_saltEnd_v1 s_complained_v1 s_clearings_v1 s_count_v1, kPl g a_pl q_place_v2 q_target_v2 q_minutesLeft_v2 q_waiting_v2 q_orders_v2 q_count_v2, kTo g a_t2 a_pa a_so a_po t_timeo t_storeo t_rateo t_forceo t_clearedo t_ploughedo t_failedo t_complainedo, kSt g a_so s_lowero s_highero s_kindo s_sizeo s_snowo s_saltEndo s_complainedo s_clearingso s_counto, kPl g a_po q_placeo q_targeto q_minutesLefto q_waitingo q_orderso q_counto]) H := hP
  have hD : va_D A (List.flatten [kTo g a_to a_pa a_st a_pl t_timeo t_storeo t_rateo t_forceo t_clearedo t_ploughed t_failed t_complained, kSt g a_st s_lower_v1 s_higher_v1 s_kind_v1 s_size_v1 s_snow_v1 s_saltEnd_v1 s_complained_v1 s_clearings_v1 s_count_v1, kPl g a_pl q_place_v2 q_target_v2 q_minutesLeft_v2 q_waiting_v2 q_orders_v2 q_count_v2, kTo g a_t2 a_pa a_so a_po t_timeo t_storeo t_rateo t_forceo t_clearedo t_ploughedo t_failedo t_complainedo, kSt g a_so s_lowero s_highero s_kindo s_sizeo s_snowo s_saltEndo s_complainedo s_clearingso s_counto, kPl g a_po q_placeo q_targeto q_minutesLefto q_waitingo q_orderso q_counto]) := hD
  refine lv_aload_n hx hb dX5_copyFrom_62 rfl (lv_at hl 0 rfl) ?_
  refine lv_aload_n hx hb dX5_copyFrom_63 rfl (lv_at hl 1 rfl) ?_
  refine va_get (D := g.1) (ci := 9) (v := .int t_ploughedo) (C := RX5) (T := TX5) (N := 11) hx hb hts inX5_copyFrom_X5 hown hE.1 hP 16 rfl rfl 8 (by decide) (gW hts 8 (.fieldLink RX5 52 "SnowDispatcher$Town" "ploughed" "I") rfl) (fun _ h9 => h9) rfl dX5_copyFrom_64 ?_
  refine va_put (D := g.1) (ci := 9) (v := .int t_ploughedo) (ty := .int) (C := RX5) (T := TX5) (N := 11) hx hb hts inX5_copyFrom_X5 tyX5 tyX5_ok nmX5 hown hE.1 hP hD hS 0 rfl rfl 8 (by decide) (gW hts 8 (.fieldLink RX5 52 "SnowDispatcher$Town" "ploughed" "I") rfl) (fun _ h9 => h9) rfl (by decide +kernel) rfl rfl (Nat.le_of_ble_eq_true rfl) dX5_copyFrom_67 (fun H locs hP hD hS => ?_)
  have hP : va_P g.1 vwCl (List.flatten [kTo g a_to a_pa a_st a_pl t_timeo t_storeo t_rateo t_forceo t_clearedo t_ploughedo t_failed t_complained, kSt g a_st s_lower_v1 s_higher_v1 s_kind_v1 s_size_v1 s_snow_v1 s_saltEnd_v1 s_complained_v1 s_clearings_v1 s_count_v1, kPl g a_pl q_place_v2 q_target_v2 q_minutesLeft_v2 q_waiting_v2 q_orders_v2 q_count_v2, kTo g a_t2 a_pa a_so a_po t_timeo t_storeo t_rateo t_forceo t_clearedo t_ploughedo t_failedo t_complainedo, kSt g a_so s_lowero s_highero s_kindo s_sizeo s_snowo s_saltEndo s_complainedo s_clearingso s_counto, kPl g a_po q_placeo q_targeto q_minutesLefto q_waitingo q_orderso q_counto]) H := hP
  have hD : va_D A (List.flatten [kTo g a_to a_pa a_st a_pl t_timeo t_storeo t_rateo t_forceo t_clearedo t_ploughedo t_failed t_complained, kSt g a_st s_lower_v1 s_higher_v1 s_kind_v1 s_size_v1 s_snow_v1 s_saltEnd_v1 s_complained_v1 s_clearings_v1 s_count_v1, kPl g a_pl q_place_v2 q_target_v2 q_minutesLeft_v2 q_waiting_v2 q_orders_v2 q_count_v2, kTo g a_t2 a_pa a_so a_po t_timeo t_storeo t_rateo t_forceo t_clearedo t_ploughedo t_failedo t_complainedo, kSt g a_so s_lowero s_highero s_kindo s_sizeo s_snowo s_saltEndo s_complainedo s_clearingso s_counto, kPl g a_po q_placeo q_targeto q_minutesLefto q_waitingo q_orderso q_counto]) := hD
  refine lv_aload_n hx hb dX5_copyFrom_70 rfl (lv_at hl 0 rfl) ?_
  refine lv_aload_n hx hb dX5_copyFrom_71 rfl (lv_at hl 1 rfl) ?_
  refine va_get (D := g.1) (ci := 9) (v := .int t_failedo) (C := RX5) (T := TX5) (N := 11) hx hb hts inX5_copyFrom_X5 hown hE.1 hP 16 rfl rfl 9 (by decide) (gW hts 9 (.fieldLink RX5 55 "SnowDispatcher$Town" "failed" "I") rfl) (fun _ h9 => h9) rfl dX5_copyFrom_72 ?_
  refine va_put (D := g.1) (ci := 9) (v := .int t_failedo) (ty := .int) (C := RX5) (T := TX5) (N := 11) hx hb hts inX5_copyFrom_X5 tyX5 tyX5_ok nmX5 hown hE.1 hP hD hS 0 rfl rfl 9 (by decide) (gW hts 9 (.fieldLink RX5 55 "SnowDispatcher$Town" "failed" "I") rfl) (fun _ h9 => h9) rfl (by decide +kernel) rfl rfl (Nat.le_of_ble_eq_true rfl) dX5_copyFrom_75 (fun H locs hP hD hS => ?_)
  have hP : va_P g.1 vwCl (List.flatten [kTo g a_to a_pa a_st a_pl t_timeo t_storeo t_rateo t_forceo t_clearedo t_ploughedo t_failedo t_complained, kSt g a_st s_lower_v1 s_higher_v1 s_kind_v1 s_size_v1 s_snow_v1 s_saltEnd_v1 s_complained_v1 s_clearings_v1 s_count_v1, kPl g a_pl q_place_v2 q_target_v2 q_minutesLeft_v2 q_waiting_v2 q_orders_v2 q_count_v2, kTo g a_t2 a_pa a_so a_po t_timeo t_storeo t_rateo t_forceo t_clearedo t_ploughedo t_failedo t_complainedo, kSt g a_so s_lowero s_highero s_kindo s_sizeo s_snowo s_saltEndo s_complainedo s_clearingso s_counto, kPl g a_po q_placeo q_targeto q_minutesLefto q_waitingo q_orderso q_counto]) H := hP
  have hD : va_D A (List.flatten [kTo g a_to a_pa a_st a_pl t_timeo t_storeo t_rateo t_forceo t_clearedo t_ploughedo t_failedo t_complained, kSt g a_st s_lower_v1 s_higher_v1 s_kind_v1 s_size_v1 s_snow_v1 s_saltEnd_v1 s_complained_v1 s_clearings_v1 s_count_v1, kPl g a_pl q_place_v2 q_target_v2 q_minutesLeft_v2 q_waiting_v2 q_orders_v2 q_count_v2, kTo g a_t2 a_pa a_so a_po t_timeo t_storeo t_rateo t_forceo t_clearedo t_ploughedo t_failedo t_complainedo, kSt g a_so s_lowero s_highero s_kindo s_sizeo s_snowo s_saltEndo s_complainedo s_clearingso s_counto, kPl g a_po q_placeo q_targeto q_minutesLefto q_waitingo q_orderso q_counto]) := hD
  refine lv_aload_n hx hb dX5_copyFrom_78 rfl (lv_at hl 0 rfl) ?_
  refine lv_aload_n hx hb dX5_copyFrom_79 rfl (lv_at hl 1 rfl) ?_
  refine va_get (D := g.1) (ci := 9) (v := .int t_complainedo) (C := RX5) (T := TX5) (N := 11) hx hb hts inX5_copyFrom_X5 hown hE.1 hP 16 rfl rfl 10 (by decide) (gW hts 10 (.fieldLink RX5 58 "SnowDispatcher$Town" "complained" "I") rfl) (fun _ h9 => h9) rfl dX5_copyFrom_80 ?_
  refine va_put (D := g.1) (ci := 9) (v := .int t_complainedo) (ty := .int) (C := RX5) (T := TX5) (N := 11) hx hb hts inX5_copyFrom_X5 tyX5 tyX5_ok nmX5 hown hE.1 hP hD hS 0 rfl rfl 10 (by decide) (gW hts 10 (.fieldLink RX5 58 "SnowDispatcher$Town" "complained" "I") rfl) (fun _ h9 => h9) rfl (by decide +kernel) rfl rfl (Nat.le_of_ble_eq_true rfl) dX5_copyFrom_83 (fun H locs hP hD hS => ?_)
  have hP : va_P g.1 vwCl (List.flatten [kTo g a_to a_pa a_st a_pl t_timeo t_storeo t_rateo t_forceo t_clearedo t_ploughedo t_failedo t_complainedo, kSt g a_st s_lower_v1 s_higher_v1 s_kind_v1 s_size_v1 s_snow_v1 s_saltEnd_v1 s_complained_v1 s_clearings_v1 s_count_v1, kPl g a_pl q_place_v2 q_target_v2 q_minutesLeft_v2 q_waiting_v2 q_orders_v2 q_count_v2, kTo g a_t2 a_pa a_so a_po t_timeo t_storeo t_rateo t_forceo t_clearedo t_ploughedo t_failedo t_complainedo, kSt g a_so s_lowero s_highero s_kindo s_sizeo s_snowo s_saltEndo s_complainedo s_clearingso s_counto, kPl g a_po q_placeo q_targeto q_minutesLefto q_waitingo q_orderso q_counto]) H := hP
  have hD : va_D A (List.flatten [kTo g a_to a_pa a_st a_pl t_timeo t_storeo t_rateo t_forceo t_clearedo t_ploughedo t_failedo t_complainedo, kSt g a_st s_lower_v1 s_higher_v1 s_kind_v1 s_size_v1 s_snow_v1 s_saltEnd_v1 s_complained_v1 s_clearings_v1 s_count_v1, kPl g a_pl q_place_v2 q_target_v2 q_minutesLeft_v2 q_waiting_v2 q_orders_v2 q_count_v2, kTo g a_t2 a_pa a_so a_po t_timeo t_storeo t_rateo t_forceo t_clearedo t_ploughedo t_failedo t_complainedo, kSt g a_so s_lowero s_highero s_kindo s_sizeo s_snowo s_saltEndo s_complainedo s_clearingso s_counto, kPl g a_po q_placeo q_targeto q_minutesLefto q_waitingo q_orderso q_counto]) := hD
  subst hQ
  exact W.vret hx hb hr (gRv23 (c1 := t_timeo) (c2 := t_storeo) (c3 := t_rateo) (c4 := t_forceo) (c5 := t_clearedo) (c6 := t_ploughedo) (c7 := t_failedo) (c8 := t_complainedo) (c9 := s_lower_v1) (c10 := s_higher_v1) (c11 := s_kind_v1) (c12 := s_size_v1) (c13 := s_snow_v1) (c14 := s_saltEnd_v1) (c15 := s_complained_v1) (c16 := s_clearings_v1) (c17 := s_count_v1) (c18 := q_place_v2) (c19 := q_target_v2) (c20 := q_minutesLeft_v2) (c21 := q_waiting_v2) (c22 := q_orders_v2) (c23 := q_count_v2) (wf := _) hA0 hsz hw hP hD hS) hS.2.2 dX5_copyFrom_86
abbrev rmX5_putStreet : Room := { frames := 2, cells := 0, slots := 0, locals := 126 }
set_option maxRecDepth 20000 in
theorem inX5_putStreet_X4 : ∀ w ∈ wsX40, w ∈ wsX5_putStreet := by decide +kernel
set_option maxRecDepth 20000 in
theorem inX5_putStreet_X5 : ∀ w ∈ wsX50, w ∈ wsX5_putStreet := by decide +kernel
set_option maxHeartbeats 4000000 in
set_option maxRecDepth 100000 in
theorem ctX5_putStreet (l : Launch) (g : GG) (a_to : Nat → Nat) (a_pa : Nat → Nat) (a_st : Nat → Nat) (a_pl : Nat → Nat) (sz : Nat) (t_time : Int32) (t_store : Int32) (t_rate : Int32) (t_force : Int32) (t_cleared : Int32) (t_ploughed : Int32) (t_failed : Int32) (t_complained : Int32) (s_lower : Nat → Int32) (s_higher : Nat → Int32) (s_kind : Nat → Int32) (s_size : Nat → Int32) (s_snow : Nat → Int32) (s_saltEnd : Nat → Int32) (s_complained : Nat → Int32) (s_clearings : Nat → Int32) (s_count : Int32) (x1 : Int32) (x2 : Int32) (x3 : Int32) (x4 : Int32) {post : Int32 → (Nat → Int32) → (Nat → Int32) → (Nat → Int32) → (Nat → Int32) → (Nat → Int32) → (Nat → Int32) → (Nat → Int32) → (Nat → Int32) → Int32 → Prop} (hw : wpX5_putStreet x1 x2 x3 x4 s_lower s_higher s_kind s_size s_snow s_saltEnd s_complained s_clearings s_count post) :
    Met l yX5_putStreet wsX5_putStreet rmX5_putStreet (gPc g sz (List.flatten [kTo g a_to a_pa a_st a_pl t_time t_store t_rate t_force t_cleared t_ploughed t_failed t_complained, kSt g a_st s_lower s_higher s_kind s_size s_snow s_saltEnd s_complained s_clearings s_count]) [.ref (a_to 0), .int x1, .int x2, .int x3, .int x4]) (gQi9 post (fun u1 u2 u3 u4 u5 u6 u7 u8 u9 => gB g (List.flatten [kTo g a_to a_pa a_st a_pl t_time t_store t_rate t_force t_cleared t_ploughed t_failed t_complained, kSt g a_st s_lower s_higher s_kind s_size s_snow s_saltEnd s_complained s_clearings s_count]) sz (List.flatten [kTo g a_to a_pa a_st a_pl t_time t_store t_rate t_force t_cleared t_ploughed t_failed t_complained, kSt g a_st u1 u2 u3 u4 u5 u6 u7 u8 u9])) (va_A (List.flatten [kTo g a_to a_pa a_st a_pl t_time t_store t_rate t_force t_cleared t_ploughed t_failed t_complained, kSt g a_st s_lower s_higher s_kind s_size s_snow s_saltEnd s_complained s_clearings s_count]) sz)) 0 0 (va_A (List.flatten [kTo g a_to a_pa a_st a_pl t_time t_store t_rate t_force t_cleared t_ploughed t_failed t_complained, kSt g a_st s_lower s_higher s_kind s_size s_snow s_saltEnd s_complained s_clearings s_count]) sz) := by
  refine gOf (cc := cX5_putStreet) (maxL := 7) (ret := (some .int)) (by decide) rfl (Nat.le_of_ble_eq_true rfl) ?_
  intro p e s m below meth c ls Q A hQ hx hb hr hml hts hown hlocks hE hA0 hsz hP hD hA hS hl
  have hl : lv_has ls 7 [(0, .ref (a_to 0)), (1, .int x1), (2, .int x2), (3, .int x3), (4, .int x4)] := hl
  refine lv_iload_n hx hb dX5_putStreet_0 rfl (lv_at hl 1 rfl) ?_
  refine gCi0 (gRunSN (As := [.int x1]) (rest := []) ⟨hx, hb, hml, hown, hts⟩ (ctX6_isJunction l g _ x1 hw) ⟨va_cnB 1 hts gX5_putStreet_X6_isJunction_n61 rfl rfl rfl hE.2.2 (gW hts 10 (.initialized RX6) rfl) (by decide +kernel) ⟨Nat.le_of_ble_eq_true rfl, Nat.le_of_ble_eq_true rfl⟩, gW hts 9 (.static yX6_isJunction) rfl, trivial⟩ hE (gSub hP []) (gDSub hD [] rfl) rfl rfl hl.1 rfl (lv_room (Nat.le_of_ble_eq_true rfl)) dX5_putStreet_1 ⟨Nat.le_of_ble_eq_true rfl, Nat.le_of_ble_eq_true rfl⟩) hP hD hS hA [] rfl rfl rfl (fun r1 H locs hw hP hD hS => ?_)
  have hP : va_P g.1 vwCl (List.flatten [kTo g a_to a_pa a_st a_pl t_time t_store t_rate t_force t_cleared t_ploughed t_failed t_complained, kSt g a_st s_lower s_higher s_kind s_size s_snow s_saltEnd s_complained s_clearings s_count]) H := hP
  have hD : va_D A (List.flatten [kTo g a_to a_pa a_st a_pl t_time t_store t_rate t_force t_cleared t_ploughed t_failed t_complained, kSt g a_st s_lower s_higher s_kind s_size s_snow s_saltEnd s_complained s_clearings s_count]) := hD
  refine lv_if_eq (tgt := 14) hx hb dX5_putStreet_4 (by decide) (fun c_4 => ?_) (fun c_4 => ?_)
  · have hw := hw.1 c_4
    refine lv_iconst (v := (-1)) hx hb dX5_putStreet_14 (by decide) ?_
    subst hQ
    exact W.iret hx hb hr (gRi9 (c1 := s_lower) (c2 := s_higher) (c3 := s_kind) (c4 := s_size) (c5 := s_snow) (c6 := s_saltEnd) (c7 := s_complained) (c8 := s_clearings) (c9 := s_count) (wf := _) hA0 hsz hw hP hD hS) hS.2.2 dX5_putStreet_15
  · have hw := hw.2 c_4
    refine lv_iload_n hx hb dX5_putStreet_7 rfl (lv_at hl 2 rfl) ?_
    refine gCi0 (gRunSN (As := [.int x2]) (rest := []) ⟨hx, hb, hml, hown, hts⟩ (ctX6_isJunction l g _ x2 hw) ⟨va_cnB 1 hts gX5_putStreet_X6_isJunction_n61 rfl rfl rfl hE.2.2 (gW hts 10 (.initialized RX6) rfl) (by decide +kernel) ⟨Nat.le_of_ble_eq_true rfl, Nat.le_of_ble_eq_true rfl⟩, gW hts 9 (.static yX6_isJunction) rfl, trivial⟩ hE (gSub hP []) (gDSub hD [] rfl) rfl rfl hl.1 rfl (lv_room (Nat.le_of_ble_eq_true rfl)) dX5_putStreet_8 ⟨Nat.le_of_ble_eq_true rfl, Nat.le_of_ble_eq_true rfl⟩) hP hD hS hA [] rfl rfl rfl (fun r2 H locs hw hP hD hS => ?_)
    have hP : va_P g.1 vwCl (List.flatten [kTo g a_to a_pa a_st a_pl t_time t_store t_rate t_force t_cleared t_ploughed t_failed t_complained, kSt g a_st s_lower s_higher s_kind s_size s_snow s_saltEnd s_complained s_clearings s_count]) H := hP
    have hD : va_D A (List.flatten [kTo g a_to a_pa a_st a_pl t_time t_store t_rate t_force t_cleared t_ploughed t_failed t_complained, kSt g a_st s_lower s_higher s_kind s_size s_snow s_saltEnd s_complained s_clearings s_count]) := hD
    refine lv_if_ne (tgt := 16) hx hb dX5_putStreet_11 (by decide) (fun c_11 => ?_) (fun c_11 => ?_)
    · have hw := hw.1 c_11
      refine lv_iload_n hx hb dX5_putStreet_16 rfl (lv_at hl 1 rfl) ?_
      refine lv_iload_n hx hb dX5_putStreet_17 rfl (lv_at hl 2 rfl) ?_
      refine lv_icmp_eq (tgt := 46) hx hb dX5_putStreet_18 (by decide) (fun c_18 => ?_) (fun c_18 => ?_)
      · have hw := hw.1 c_18
        refine lv_bipush (v := (-2)) hx hb dX5_putStreet_46 (by decide) ?_
        subst hQ
        exact W.iret hx hb hr (gRi9 (c1 := s_lower) (c2 := s_higher) (c3 := s_kind) (c4 := s_size) (c5 := s_snow) (c6 := s_saltEnd) (c7 := s_complained) (c8 := s_clearings) (c9 := s_count) (wf := _) hA0 hsz hw hP hD hS) hS.2.2 dX5_putStreet_48
      · have hw := hw.2 c_18
        refine lv_iload_n hx hb dX5_putStreet_21 rfl (lv_at hl 3 rfl) ?_
        refine lv_bipush (v := 97) hx hb dX5_putStreet_22 (by decide) ?_
        refine lv_icmp_lt (tgt := 46) hx hb dX5_putStreet_24 (by decide) (fun c_24 => ?_) (fun c_24 => ?_)
        · have hw := hw.1 c_24
          refine lv_bipush (v := (-2)) hx hb dX5_putStreet_46 (by decide) ?_
          subst hQ
          exact W.iret hx hb hr (gRi9 (c1 := s_lower) (c2 := s_higher) (c3 := s_kind) (c4 := s_size) (c5 := s_snow) (c6 := s_saltEnd) (c7 := s_complained) (c8 := s_clearings) (c9 := s_count) (wf := _) hA0 hsz hw hP hD hS) hS.2.2 dX5_putStreet_48
        · have hw := hw.2 c_24
          refine lv_iload_n hx hb dX5_putStreet_27 rfl (lv_at hl 3 rfl) ?_
          refine lv_bipush (v := 99) hx hb dX5_putStreet_28 (by decide) ?_
          refine lv_icmp_gt (tgt := 46) hx hb dX5_putStreet_30 (by decide) (fun c_30 => ?_) (fun c_30 => ?_)
          · have hw := hw.1 c_30
            refine lv_bipush (v := (-2)) hx hb dX5_putStreet_46 (by decide) ?_
            subst hQ
            exact W.iret hx hb hr (gRi9 (c1 := s_lower) (c2 := s_higher) (c3 := s_kind) (c4 := s_size) (c5 := s_snow) (c6 := s_saltEnd) (c7 := s_complained) (c8 := s_clearings) (c9 := s_count) (wf := _) hA0 hsz hw hP hD hS) hS.2.2 dX5_putStreet_48
          · have hw := hw.2 c_30
            refine lv_iload hx hb dX5_putStreet_33 (lv_at hl 4 rfl) ?_
            refine lv_iconst (v := 1) hx hb dX5_putStreet_35 (by decide) ?_
            refine lv_icmp_lt (tgt := 46) hx hb dX5_putStreet_36 (by decide) (fun c_36 => ?_) (fun c_36 => ?_)
            · have hw := hw.1 c_36
              refine lv_bipush (v := (-2)) hx hb dX5_putStreet_46 (by decide) ?_
              subst hQ
              exact W.iret hx hb hr (gRi9 (c1 := s_lower) (c2 := s_higher) (c3 := s_kind) (c4 := s_size) (c5 := s_snow) (c6 := s_saltEnd) (c7 := s_complained) (c8 := s_clearings) (c9 := s_count) (wf := _) hA0 hsz hw hP hD hS) hS.2.2 dX5_putStreet_48
            · have hw := hw.2 c_36
              refine lv_iload hx hb dX5_putStreet_39 (lv_at hl 4 rfl) ?_
              refine lv_bipush (v := 9) hx hb dX5_putStreet_41 (by decide) ?_
              refine lv_icmp_le (tgt := 49) hx hb dX5_putStreet_43 (by decide) (fun c_43 => ?_) (fun c_43 => ?_)
              · have hw := hw.1 c_43
                refine lv_iload_n hx hb dX5_putStreet_49 rfl (lv_at hl 1 rfl) ?_
                refine lv_iload_n hx hb dX5_putStreet_50 rfl (lv_at hl 2 rfl) ?_
                refine va_mmin hx hb (hml.trans hl.1.symm) hown (gW hts 1 (.methodLink RX5 65 Lib.Math.min.name) rfl) (gW hts 2 (.static Lib.Math.min.name) rfl) (gW hts 3 (.initialized "java/lang/Math") rfl) (gW hts 4 (.code Lib.Math.min.name Lib.Math.min.code 2 (some .int)) rfl) (Nat.le_of_ble_eq_true rfl) (Nat.le_of_ble_eq_true rfl) (Nat.le_of_ble_eq_true rfl) (Nat.le_of_ble_eq_true rfl) dX5_putStreet_51 ?_
                refine lv_istore (lv' := [(5, .int (if x2 < x1 then x2 else x1)), (0, .ref (a_to 0)), (1, .int x1), (2, .int x2), (3, .int x3), (4, .int x4)]) hx hb dX5_putStreet_54 hl (by decide) rfl (fun ls hl => ?_)
                refine lv_iload_n hx hb dX5_putStreet_56 rfl (lv_at hl 2 rfl) ?_
                refine lv_iload_n hx hb dX5_putStreet_57 rfl (lv_at hl 3 rfl) ?_
                refine va_mmax hx hb (hml.trans hl.1.symm) hown (gW hts 5 (.methodLink RX5 71 Lib.Math.max.name) rfl) (gW hts 6 (.static Lib.Math.max.name) rfl) (gW hts 3 (.initialized "java/lang/Math") rfl) (gW hts 7 (.code Lib.Math.max.name Lib.Math.max.code 2 (some .int)) rfl) (Nat.le_of_ble_eq_true rfl) (Nat.le_of_ble_eq_true rfl) (Nat.le_of_ble_eq_true rfl) (Nat.le_of_ble_eq_true rfl) dX5_putStreet_58 ?_
                refine lv_istore (lv' := [(6, .int (if x1 < x2 then x2 else x1)), (5, .int (if x2 < x1 then x2 else x1)), (0, .ref (a_to 0)), (1, .int x1), (2, .int x2), (3, .int x3), (4, .int x4)]) hx hb dX5_putStreet_61 hl (by decide) rfl (fun ls hl => ?_)
                refine lv_aload_n hx hb dX5_putStreet_63 rfl (lv_at hl 2 rfl) ?_
                refine va_get (D := g.1) (ci := 9) (v := .ref (a_st 0)) (C := RX5) (T := TX5) (N := 11) hx hb hts inX5_putStreet_X5 hown hE.1 hP 0 rfl rfl 1 (by decide) (gW hts 8 (.fieldLink RX5 18 "SnowDispatcher$Town" "streets" "LSnowDispatcher$Streets;") rfl) (fun _ h9 => h9) rfl dX5_putStreet_64 ?_
                refine lv_iload hx hb dX5_putStreet_67 (lv_at hl 1 rfl) ?_
                refine lv_iload hx hb dX5_putStreet_69 (lv_at hl 0 rfl) ?_
                refine gCi0 (gRunV (As := [.int (if x2 < x1 then x2 else x1), .int (if x1 < x2 then x2 else x1)]) (rest := []) ⟨hx, hb, hml, hown, hts⟩ (ctX4_areConnected l g a_st _ s_lower s_higher s_kind s_size s_snow s_saltEnd s_complained s_clearings s_count (if x2 < x1 then x2 else x1) (if x1 < x2 then x2 else x1) hw) (cwV 2 hts gX5_putStreet_X4_areConnected rfl rfl rfl (by decide +kernel) ⟨Nat.le_of_ble_eq_true rfl, Nat.le_of_ble_eq_true rfl⟩) hE (gSub hP [1]) (gDSub hD [1] rfl) 0 8 rfl rfl rfl rfl rfl hl.1 rfl (lv_room (Nat.le_of_ble_eq_true rfl)) dX5_putStreet_71 ⟨Nat.le_of_ble_eq_true rfl, Nat.le_of_ble_eq_true rfl⟩) hP hD hS hA [1] rfl rfl rfl (fun r3 H locs hw hP hD hS => ?_)
                have hP : va_P g.1 vwCl (List.flatten [kTo g a_to a_pa a_st a_pl t_time t_store t_rate t_force t_cleared t_ploughed t_failed t_complained, kSt g a_st s_lower s_higher s_kind s_size s_snow s_saltEnd s_complained s_clearings s_count]) H := hP
                have hD : va_D A (List.flatten [kTo g a_to a_pa a_st a_pl t_time t_store t_rate t_force t_cleared t_ploughed t_failed t_complained, kSt g a_st s_lower s_higher s_kind s_size s_snow s_saltEnd s_complained s_clearings s_count]) := hD
                refine lv_if_eq (tgt := 80) hx hb dX5_putStreet_74 (by decide) (fun c_74 => ?_) (fun c_74 => ?_)
                · have hw := hw.1 c_74
                  refine lv_aload_n hx hb dX5_putStreet_80 rfl (lv_at hl 2 rfl) ?_
                  refine va_get (D := g.1) (ci := 9) (v := .ref (a_st 0)) (C := RX5) (T := TX5) (N := 11) hx hb hts inX5_putStreet_X5 hown hE.1 hP 0 rfl rfl 1 (by decide) (gW hts 8 (.fieldLink RX5 18 "SnowDispatcher$Town" "streets" "LSnowDispatcher$Streets;") rfl) (fun _ h9 => h9) rfl dX5_putStreet_81 ?_
                  refine lv_iload hx hb dX5_putStreet_84 (lv_at hl 1 rfl) ?_
                  refine lv_iload hx hb dX5_putStreet_86 (lv_at hl 0 rfl) ?_
                  refine lv_iload_n hx hb dX5_putStreet_88 rfl (lv_at hl 5 rfl) ?_
                  refine lv_iload hx hb dX5_putStreet_89 (lv_at hl 6 rfl) ?_
                  refine gCi9 (gRunV (As := [.int (if x2 < x1 then x2 else x1), .int (if x1 < x2 then x2 else x1), .int x3, .int x4]) (rest := []) ⟨hx, hb, hml, hown, hts⟩ (ctX4_put l g a_st _ s_lower s_higher s_kind s_size s_snow s_saltEnd s_complained s_clearings s_count (if x2 < x1 then x2 else x1) (if x1 < x2 then x2 else x1) x3 x4 hw) (cwV 4 hts gX5_putStreet_X4_put rfl rfl rfl (by decide +kernel) ⟨Nat.le_of_ble_eq_true rfl, Nat.le_of_ble_eq_true rfl⟩) hE (gSub hP [1]) (gDSub hD [1] rfl) 0 8 rfl rfl rfl rfl rfl hl.1 rfl (lv_room (Nat.le_of_ble_eq_true rfl)) dX5_putStreet_91 ⟨Nat.le_of_ble_eq_true rfl, Nat.le_of_ble_eq_true rfl⟩) hP hD hS hA [1] rfl (fun _ _ _ _ _ _ _ _ _ => rfl) rfl (fun r4 s_lower_v4 s_higher_v4 s_kind_v4 s_size_v4 s_snow_v4 s_saltEnd_v4 s_complained_v4 s_clearings_v4 s_count_v4 H locs hw hP hD hS => ?_)
                  have hP : va_P g.1 vwCl (List.flatten [kTo g a_to a_pa a_st a_pl t_time t_store t_rate t_force t_cleared t_ploughed t_failed t_complained, kSt g a_st s_lower_v4 s_higher_v4 s_kind_v4 s_size_v4 s_snow_v4 s_saltEnd_v4 s_complained_v4 s_clearings_v4 s_count_v4]) H := hP
                  have hD : va_D A (List.flatten [kTo g a_to a_pa a_st a_pl t_time t_store t_rate t_force t_cleared t_ploughed t_failed t_complained, kSt g a_st s_lower_v4 s_higher_v4 s_kind_v4 s_size_v4 s_snow_v4 s_saltEnd_v4 s_complained_v4 s_clearings_v4 s_count_v4]) := hD
                  subst hQ
                  exact W.iret hx hb hr (gRi9 (c1 := s_lower_v4) (c2 := s_higher_v4) (c3 := s_kind_v4) (c4 := s_size_v4) (c5 := s_snow_v4) (c6 := s_saltEnd_v4) (c7 := s_complained_v4) (c8 := s_clearings_v4) (c9 := s_count_v4) (wf := _) hA0 hsz hw hP hD hS) hS.2.2 dX5_putStreet_94
                · have hw := hw.2 c_74
                  refine lv_bipush (v := (-4)) hx hb dX5_putStreet_77 (by decide) ?_
                  subst hQ
                  exact W.iret hx hb hr (gRi9 (c1 := s_lower) (c2 := s_higher) (c3 := s_kind) (c4 := s_size) (c5 := s_snow) (c6 := s_saltEnd) (c7 := s_complained) (c8 := s_clearings) (c9 := s_count) (wf := _) hA0 hsz hw hP hD hS) hS.2.2 dX5_putStreet_79
              · have hw := hw.2 c_43
                refine lv_bipush (v := (-2)) hx hb dX5_putStreet_46 (by decide) ?_
                subst hQ
                exact W.iret hx hb hr (gRi9 (c1 := s_lower) (c2 := s_higher) (c3 := s_kind) (c4 := s_size) (c5 := s_snow) (c6 := s_saltEnd) (c7 := s_complained) (c8 := s_clearings) (c9 := s_count) (wf := _) hA0 hsz hw hP hD hS) hS.2.2 dX5_putStreet_48
    · have hw := hw.2 c_11
      refine lv_iconst (v := (-1)) hx hb dX5_putStreet_14 (by decide) ?_
      subst hQ
      exact W.iret hx hb hr (gRi9 (c1 := s_lower) (c2 := s_higher) (c3 := s_kind) (c4 := s_size) (c5 := s_snow) (c6 := s_saltEnd) (c7 := s_complained) (c8 := s_clearings) (c9 := s_count) (wf := _) hA0 hsz hw hP hD hS) hS.2.2 dX5_putStreet_15
abbrev rmX5_putPlough : Room := { frames := 2, cells := 0, slots := 0, locals := 123 }
set_option maxRecDepth 20000 in
theorem inX5_putPlough_X2 : ∀ w ∈ wsX20, w ∈ wsX5_putPlough := by decide +kernel
set_option maxRecDepth 20000 in
theorem inX5_putPlough_X5 : ∀ w ∈ wsX50, w ∈ wsX5_putPlough := by decide +kernel
set_option maxHeartbeats 4000000 in
set_option maxRecDepth 100000 in
theorem ctX5_putPlough (l : Launch) (g : GG) (a_to : Nat → Nat) (a_pa : Nat → Nat) (a_st : Nat → Nat) (a_pl : Nat → Nat) (sz : Nat) (t_time : Int32) (t_store : Int32) (t_rate : Int32) (t_force : Int32) (t_cleared : Int32) (t_ploughed : Int32) (t_failed : Int32) (t_complained : Int32) (q_place : Nat → Int32) (q_target : Nat → Int32) (q_minutesLeft : Nat → Int32) (q_waiting : Nat → Int32) (q_orders : Nat → Int32) (q_count : Int32) (x1 : Int32) {post : Int32 → (Nat → Int32) → (Nat → Int32) → (Nat → Int32) → (Nat → Int32) → Int32 → Prop} (hw : wpX5_putPlough x1 q_place q_target q_minutesLeft q_waiting q_count post) :
    Met l yX5_putPlough wsX5_putPlough rmX5_putPlough (gPc g sz (List.flatten [kTo g a_to a_pa a_st a_pl t_time t_store t_rate t_force t_cleared t_ploughed t_failed t_complained, kPl g a_pl q_place q_target q_minutesLeft q_waiting q_orders q_count]) [.ref (a_to 0), .int x1]) (gQi5 post (fun u1 u2 u3 u4 u5 => gB g (List.flatten [kTo g a_to a_pa a_st a_pl t_time t_store t_rate t_force t_cleared t_ploughed t_failed t_complained, kPl g a_pl q_place q_target q_minutesLeft q_waiting q_orders q_count]) sz (List.flatten [kTo g a_to a_pa a_st a_pl t_time t_store t_rate t_force t_cleared t_ploughed t_failed t_complained, kPl g a_pl u1 u2 u3 u4 q_orders u5])) (va_A (List.flatten [kTo g a_to a_pa a_st a_pl t_time t_store t_rate t_force t_cleared t_ploughed t_failed t_complained, kPl g a_pl q_place q_target q_minutesLeft q_waiting q_orders q_count]) sz)) 0 0 (va_A (List.flatten [kTo g a_to a_pa a_st a_pl t_time t_store t_rate t_force t_cleared t_ploughed t_failed t_complained, kPl g a_pl q_place q_target q_minutesLeft q_waiting q_orders q_count]) sz) := by
  refine gOf (cc := cX5_putPlough) (maxL := 2) (ret := (some .int)) (by decide) rfl (Nat.le_of_ble_eq_true rfl) ?_
  intro p e s m below meth c ls Q A hQ hx hb hr hml hts hown hlocks hE hA0 hsz hP hD hA hS hl
  have hl : lv_has ls 2 [(0, .ref (a_to 0)), (1, .int x1)] := hl
  refine lv_iload_n hx hb dX5_putPlough_0 rfl (lv_at hl 1 rfl) ?_
  refine gCi0 (gRunSN (As := [.int x1]) (rest := []) ⟨hx, hb, hml, hown, hts⟩ (ctX6_isJunction l g _ x1 hw) ⟨va_cnB 1 hts gX5_putPlough_X6_isJunction_n61 rfl rfl rfl hE.2.2 (gW hts 3 (.initialized RX6) rfl) (by decide +kernel) ⟨Nat.le_of_ble_eq_true rfl, Nat.le_of_ble_eq_true rfl⟩, gW hts 2 (.static yX6_isJunction) rfl, trivial⟩ hE (gSub hP []) (gDSub hD [] rfl) rfl rfl hl.1 rfl (lv_room (Nat.le_of_ble_eq_true rfl)) dX5_putPlough_1 ⟨Nat.le_of_ble_eq_true rfl, Nat.le_of_ble_eq_true rfl⟩) hP hD hS hA [] rfl rfl rfl (fun r1 H locs hw hP hD hS => ?_)
  have hP : va_P g.1 vwCl (List.flatten [kTo g a_to a_pa a_st a_pl t_time t_store t_rate t_force t_cleared t_ploughed t_failed t_complained, kPl g a_pl q_place q_target q_minutesLeft q_waiting q_orders q_count]) H := hP
  have hD : va_D A (List.flatten [kTo g a_to a_pa a_st a_pl t_time t_store t_rate t_force t_cleared t_ploughed t_failed t_complained, kPl g a_pl q_place q_target q_minutesLeft q_waiting q_orders q_count]) := hD
  refine lv_if_eq (tgt := 18) hx hb dX5_putPlough_4 (by decide) (fun c_4 => ?_) (fun c_4 => ?_)
  · have hw := hw.1 c_4
    refine lv_iconst (v := (-1)) hx hb dX5_putPlough_18 (by decide) ?_
    subst hQ
    exact W.iret hx hb hr (gRi5 (c1 := q_place) (c2 := q_target) (c3 := q_minutesLeft) (c4 := q_waiting) (c5 := q_count) (wf := _) hA0 hsz hw hP hD hS) hS.2.2 dX5_putPlough_19
  · have hw := hw.2 c_4
    refine lv_aload_n hx hb dX5_putPlough_7 rfl (lv_at hl 0 rfl) ?_
    refine va_get (D := g.1) (ci := 9) (v := .ref (a_pl 0)) (C := RX5) (T := TX5) (N := 11) hx hb hts inX5_putPlough_X5 hown hE.1 hP 0 rfl rfl 2 (by decide) (gW hts 1 (.fieldLink RX5 25 "SnowDispatcher$Town" "ploughs" "LSnowDispatcher$Ploughs;") rfl) (fun _ h9 => h9) rfl dX5_putPlough_8 ?_
    refine lv_iload_n hx hb dX5_putPlough_11 rfl (lv_at hl 1 rfl) ?_
    refine gCi5 (gRunV (As := [.int x1]) (rest := []) ⟨hx, hb, hml, hown, hts⟩ (ctX2_put l g a_pl _ q_place q_target q_minutesLeft q_waiting q_orders q_count x1 hw) (cwV 1 hts gX5_putPlough_X2_put rfl rfl rfl (by decide +kernel) ⟨Nat.le_of_ble_eq_true rfl, Nat.le_of_ble_eq_true rfl⟩) hE (gSub hP [1]) (gDSub hD [1] rfl) 0 6 rfl rfl rfl rfl rfl hl.1 rfl (lv_room (Nat.le_of_ble_eq_true rfl)) dX5_putPlough_12 ⟨Nat.le_of_ble_eq_true rfl, Nat.le_of_ble_eq_true rfl⟩) hP hD hS hA [1] rfl (fun _ _ _ _ _ => rfl) rfl (fun r2 q_place_v2 q_target_v2 q_minutesLeft_v2 q_waiting_v2 q_count_v2 H locs hw hP hD hS => ?_)
    have hP : va_P g.1 vwCl (List.flatten [kTo g a_to a_pa a_st a_pl t_time t_store t_rate t_force t_cleared t_ploughed t_failed t_complained, kPl g a_pl q_place_v2 q_target_v2 q_minutesLeft_v2 q_waiting_v2 q_orders q_count_v2]) H := hP
    have hD : va_D A (List.flatten [kTo g a_to a_pa a_st a_pl t_time t_store t_rate t_force t_cleared t_ploughed t_failed t_complained, kPl g a_pl q_place_v2 q_target_v2 q_minutesLeft_v2 q_waiting_v2 q_orders q_count_v2]) := hD
    refine lv_goto (tgt := 19) hx hb dX5_putPlough_15 (by decide) ?_
    subst hQ
    exact W.iret hx hb hr (gRi5 (c1 := q_place_v2) (c2 := q_target_v2) (c3 := q_minutesLeft_v2) (c4 := q_waiting_v2) (c5 := q_count_v2) (wf := _) hA0 hsz hw hP hD hS) hS.2.2 dX5_putPlough_19
abbrev rmX5_appendOrder : Room := { frames := 3, cells := 0, slots := 0, locals := 146 }
set_option maxRecDepth 20000 in
theorem inX5_appendOrder_X2 : ∀ w ∈ wsX20, w ∈ wsX5_appendOrder := by decide +kernel
set_option maxRecDepth 20000 in
theorem inX5_appendOrder_X4 : ∀ w ∈ wsX40, w ∈ wsX5_appendOrder := by decide +kernel
set_option maxRecDepth 20000 in
theorem inX5_appendOrder_X5 : ∀ w ∈ wsX50, w ∈ wsX5_appendOrder := by decide +kernel
set_option maxHeartbeats 4000000 in
set_option maxRecDepth 100000 in
theorem ctX5_appendOrder (l : Launch) (g : GG) (a_to : Nat → Nat) (a_pa : Nat → Nat) (a_st : Nat → Nat) (a_pl : Nat → Nat) (sz : Nat) (t_time : Int32) (t_store : Int32) (t_rate : Int32) (t_force : Int32) (t_cleared : Int32) (t_ploughed : Int32) (t_failed : Int32) (t_complained : Int32) (s_lower : Nat → Int32) (s_higher : Nat → Int32) (s_kind : Nat → Int32) (s_size : Nat → Int32) (s_snow : Nat → Int32) (s_saltEnd : Nat → Int32) (s_complained : Nat → Int32) (s_clearings : Nat → Int32) (s_count : Int32) (q_place : Nat → Int32) (q_target : Nat → Int32) (q_minutesLeft : Nat → Int32) (q_waiting : Nat → Int32) (q_orders : Nat → Int32) (q_count : Int32) (x1 : Int32) (x2 : Int32) {post : Int32 → (Nat → Int32) → (Nat → Int32) → Prop} (hw : wpX5_appendOrder x1 x2 s_count q_waiting q_orders q_count post) :
    Met l yX5_appendOrder wsX5_appendOrder rmX5_appendOrder (gPc g sz (List.flatten [kTo g a_to a_pa a_st a_pl t_time t_store t_rate t_force t_cleared t_ploughed t_failed t_complained, kSt g a_st s_lower s_higher s_kind s_size s_snow s_saltEnd s_complained s_clearings s_count, kPl g a_pl q_place q_target q_minutesLeft q_waiting q_orders q_count]) [.ref (a_to 0), .int x1, .int x2]) (gQi2 post (fun u1 u2 => gB g (List.flatten [kTo g a_to a_pa a_st a_pl t_time t_store t_rate t_force t_cleared t_ploughed t_failed t_complained, kSt g a_st s_lower s_higher s_kind s_size s_snow s_saltEnd s_complained s_clearings s_count, kPl g a_pl q_place q_target q_minutesLeft q_waiting q_orders q_count]) sz (List.flatten [kTo g a_to a_pa a_st a_pl t_time t_store t_rate t_force t_cleared t_ploughed t_failed t_complained, kSt g a_st s_lower s_higher s_kind s_size s_snow s_saltEnd s_complained s_clearings s_count, kPl g a_pl q_place q_target q_minutesLeft u1 u2 q_count])) (va_A (List.flatten [kTo g a_to a_pa a_st a_pl t_time t_store t_rate t_force t_cleared t_ploughed t_failed t_complained, kSt g a_st s_lower s_higher s_kind s_size s_snow s_saltEnd s_complained s_clearings s_count, kPl g a_pl q_place q_target q_minutesLeft q_waiting q_orders q_count]) sz)) 0 0 (va_A (List.flatten [kTo g a_to a_pa a_st a_pl t_time t_store t_rate t_force t_cleared t_ploughed t_failed t_complained, kSt g a_st s_lower s_higher s_kind s_size s_snow s_saltEnd s_complained s_clearings s_count, kPl g a_pl q_place q_target q_minutesLeft q_waiting q_orders q_count]) sz) := by
  refine gOf (cc := cX5_appendOrder) (maxL := 3) (ret := (some .int)) (by decide) rfl (Nat.le_of_ble_eq_true rfl) ?_
  intro p e s m below meth c ls Q A hQ hx hb hr hml hts hown hlocks hE hA0 hsz hP hD hA hS hl
  have hl : lv_has ls 3 [(0, .ref (a_to 0)), (1, .int x1), (2, .int x2)] := hl
  refine lv_aload_n hx hb dX5_appendOrder_0 rfl (lv_at hl 0 rfl) ?_
  refine va_get (D := g.1) (ci := 9) (v := .ref (a_st 0)) (C := RX5) (T := TX5) (N := 11) hx hb hts inX5_appendOrder_X5 hown hE.1 hP 0 rfl rfl 1 (by decide) (gW hts 1 (.fieldLink RX5 18 "SnowDispatcher$Town" "streets" "LSnowDispatcher$Streets;") rfl) (fun _ h9 => h9) rfl dX5_appendOrder_1 ?_
  refine lv_iload_n hx hb dX5_appendOrder_4 rfl (lv_at hl 2 rfl) ?_
  refine gCi0 (gRunV (As := [.int x2]) (rest := []) ⟨hx, hb, hml, hown, hts⟩ (ctX4_has l g a_st _ s_lower s_higher s_kind s_size s_snow s_saltEnd s_complained s_clearings s_count x2 hw) (cwV 1 hts gX5_appendOrder_X4_has rfl rfl rfl (by decide +kernel) ⟨Nat.le_of_ble_eq_true rfl, Nat.le_of_ble_eq_true rfl⟩) hE (gSub hP [1]) (gDSub hD [1] rfl) 0 8 rfl rfl rfl rfl rfl hl.1 rfl (lv_room (Nat.le_of_ble_eq_true rfl)) dX5_appendOrder_5 ⟨Nat.le_of_ble_eq_true rfl, Nat.le_of_ble_eq_true rfl⟩) hP hD hS hA [1] rfl rfl rfl (fun r1 H locs hw hP hD hS => ?_)
  have hP : va_P g.1 vwCl (List.flatten [kTo g a_to a_pa a_st a_pl t_time t_store t_rate t_force t_cleared t_ploughed t_failed t_complained, kSt g a_st s_lower s_higher s_kind s_size s_snow s_saltEnd s_complained s_clearings s_count, kPl g a_pl q_place q_target q_minutesLeft q_waiting q_orders q_count]) H := hP
  have hD : va_D A (List.flatten [kTo g a_to a_pa a_st a_pl t_time t_store t_rate t_force t_cleared t_ploughed t_failed t_complained, kSt g a_st s_lower s_higher s_kind s_size s_snow s_saltEnd s_complained s_clearings s_count, kPl g a_pl q_place q_target q_minutesLeft q_waiting q_orders q_count]) := hD
  refine lv_if_eq (tgt := 23) hx hb dX5_appendOrder_8 (by decide) (fun c_8 => ?_) (fun c_8 => ?_)
  · have hw := hw.1 c_8
    refine lv_iconst (v := (-1)) hx hb dX5_appendOrder_23 (by decide) ?_
    subst hQ
    exact W.iret hx hb hr (gRi2 (c1 := q_waiting) (c2 := q_orders) (wf := _) hA0 hsz hw hP hD hS) hS.2.2 dX5_appendOrder_24
  · have hw := hw.2 c_8
    refine lv_aload_n hx hb dX5_appendOrder_11 rfl (lv_at hl 0 rfl) ?_
    refine va_get (D := g.1) (ci := 9) (v := .ref (a_pl 0)) (C := RX5) (T := TX5) (N := 11) hx hb hts inX5_appendOrder_X5 hown hE.1 hP 0 rfl rfl 2 (by decide) (gW hts 2 (.fieldLink RX5 25 "SnowDispatcher$Town" "ploughs" "LSnowDispatcher$Ploughs;") rfl) (fun _ h9 => h9) rfl dX5_appendOrder_12 ?_
    refine lv_iload_n hx hb dX5_appendOrder_15 rfl (lv_at hl 1 rfl) ?_
    refine lv_iload_n hx hb dX5_appendOrder_16 rfl (lv_at hl 2 rfl) ?_
    refine gCi2 (gRunV (As := [.int x1, .int x2]) (rest := []) ⟨hx, hb, hml, hown, hts⟩ (ctX2_append l g a_pl _ q_place q_target q_minutesLeft q_waiting q_orders q_count x1 x2 hw) (cwV 2 hts gX5_appendOrder_X2_append rfl rfl rfl (by decide +kernel) ⟨Nat.le_of_ble_eq_true rfl, Nat.le_of_ble_eq_true rfl⟩) hE (gSub hP [2]) (gDSub hD [2] rfl) 0 6 rfl rfl rfl rfl rfl hl.1 rfl (lv_room (Nat.le_of_ble_eq_true rfl)) dX5_appendOrder_17 ⟨Nat.le_of_ble_eq_true rfl, Nat.le_of_ble_eq_true rfl⟩) hP hD hS hA [2] rfl (fun _ _ => rfl) rfl (fun r2 q_waiting_v2 q_orders_v2 H locs hw hP hD hS => ?_)
    have hP : va_P g.1 vwCl (List.flatten [kTo g a_to a_pa a_st a_pl t_time t_store t_rate t_force t_cleared t_ploughed t_failed t_complained, kSt g a_st s_lower s_higher s_kind s_size s_snow s_saltEnd s_complained s_clearings s_count, kPl g a_pl q_place q_target q_minutesLeft q_waiting_v2 q_orders_v2 q_count]) H := hP
    have hD : va_D A (List.flatten [kTo g a_to a_pa a_st a_pl t_time t_store t_rate t_force t_cleared t_ploughed t_failed t_complained, kSt g a_st s_lower s_higher s_kind s_size s_snow s_saltEnd s_complained s_clearings s_count, kPl g a_pl q_place q_target q_minutesLeft q_waiting_v2 q_orders_v2 q_count]) := hD
    refine lv_goto (tgt := 24) hx hb dX5_appendOrder_20 (by decide) ?_
    subst hQ
    exact W.iret hx hb hr (gRi2 (c1 := q_waiting_v2) (c2 := q_orders_v2) (wf := _) hA0 hsz hw hP hD hS) hS.2.2 dX5_appendOrder_24
abbrev rmX5_removeOrder : Room := { frames := 4, cells := 0, slots := 0, locals := 168 }
set_option maxRecDepth 20000 in
theorem inX5_removeOrder_X2 : ∀ w ∈ wsX20, w ∈ wsX5_removeOrder := by decide +kernel
set_option maxRecDepth 20000 in
theorem inX5_removeOrder_X5 : ∀ w ∈ wsX50, w ∈ wsX5_removeOrder := by decide +kernel
set_option maxHeartbeats 4000000 in
set_option maxRecDepth 100000 in
theorem ctX5_removeOrder (l : Launch) (g : GG) (a_to : Nat → Nat) (a_pa : Nat → Nat) (a_st : Nat → Nat) (a_pl : Nat → Nat) (sz : Nat) (t_time : Int32) (t_store : Int32) (t_rate : Int32) (t_force : Int32) (t_cleared : Int32) (t_ploughed : Int32) (t_failed : Int32) (t_complained : Int32) (q_place : Nat → Int32) (q_target : Nat → Int32) (q_minutesLeft : Nat → Int32) (q_waiting : Nat → Int32) (q_orders : Nat → Int32) (q_count : Int32) (x1 : Int32) {post : Int32 → (Nat → Int32) → Prop} (hw : wpX5_removeOrder x1 q_waiting q_orders q_count post) :
    Met l yX5_removeOrder wsX5_removeOrder rmX5_removeOrder (gPc g sz (List.flatten [kTo g a_to a_pa a_st a_pl t_time t_store t_rate t_force t_cleared t_ploughed t_failed t_complained, kPl g a_pl q_place q_target q_minutesLeft q_waiting q_orders q_count]) [.ref (a_to 0), .int x1]) (gQi1 post (fun u1 => gB g (List.flatten [kTo g a_to a_pa a_st a_pl t_time t_store t_rate t_force t_cleared t_ploughed t_failed t_complained, kPl g a_pl q_place q_target q_minutesLeft q_waiting q_orders q_count]) sz (List.flatten [kTo g a_to a_pa a_st a_pl t_time t_store t_rate t_force t_cleared t_ploughed t_failed t_complained, kPl g a_pl q_place q_target q_minutesLeft u1 q_orders q_count])) (va_A (List.flatten [kTo g a_to a_pa a_st a_pl t_time t_store t_rate t_force t_cleared t_ploughed t_failed t_complained, kPl g a_pl q_place q_target q_minutesLeft q_waiting q_orders q_count]) sz)) 0 0 (va_A (List.flatten [kTo g a_to a_pa a_st a_pl t_time t_store t_rate t_force t_cleared t_ploughed t_failed t_complained, kPl g a_pl q_place q_target q_minutesLeft q_waiting q_orders q_count]) sz) := by
  refine gOf (cc := cX5_removeOrder) (maxL := 2) (ret := (some .int)) (by decide) rfl (Nat.le_of_ble_eq_true rfl) ?_
  intro p e s m below meth c ls Q A hQ hx hb hr hml hts hown hlocks hE hA0 hsz hP hD hA hS hl
  have hl : lv_has ls 2 [(0, .ref (a_to 0)), (1, .int x1)] := hl
  refine lv_aload_n hx hb dX5_removeOrder_0 rfl (lv_at hl 0 rfl) ?_
  refine va_get (D := g.1) (ci := 9) (v := .ref (a_pl 0)) (C := RX5) (T := TX5) (N := 11) hx hb hts inX5_removeOrder_X5 hown hE.1 hP 0 rfl rfl 2 (by decide) (gW hts 1 (.fieldLink RX5 25 "SnowDispatcher$Town" "ploughs" "LSnowDispatcher$Ploughs;") rfl) (fun _ h9 => h9) rfl dX5_removeOrder_1 ?_
  refine lv_iload_n hx hb dX5_removeOrder_4 rfl (lv_at hl 1 rfl) ?_
  refine gCi1 (gRunV (As := [.int x1]) (rest := []) ⟨hx, hb, hml, hown, hts⟩ (ctX2_removeLast l g a_pl _ q_place q_target q_minutesLeft q_waiting q_orders q_count x1 hw) (cwV 1 hts gX5_removeOrder_X2_removeLast rfl rfl rfl (by decide +kernel) ⟨Nat.le_of_ble_eq_true rfl, Nat.le_of_ble_eq_true rfl⟩) hE (gSub hP [1]) (gDSub hD [1] rfl) 0 6 rfl rfl rfl rfl rfl hl.1 rfl (lv_room (Nat.le_of_ble_eq_true rfl)) dX5_removeOrder_5 ⟨Nat.le_of_ble_eq_true rfl, Nat.le_of_ble_eq_true rfl⟩) hP hD hS hA [1] rfl (fun _ => rfl) rfl (fun r1 q_waiting_v1 H locs hw hP hD hS => ?_)
  have hP : va_P g.1 vwCl (List.flatten [kTo g a_to a_pa a_st a_pl t_time t_store t_rate t_force t_cleared t_ploughed t_failed t_complained, kPl g a_pl q_place q_target q_minutesLeft q_waiting_v1 q_orders q_count]) H := hP
  have hD : va_D A (List.flatten [kTo g a_to a_pa a_st a_pl t_time t_store t_rate t_force t_cleared t_ploughed t_failed t_complained, kPl g a_pl q_place q_target q_minutesLeft q_waiting_v1 q_orders q_count]) := hD
  subst hQ
  exact W.iret hx hb hr (gRi1 (c1 := q_waiting_v1) (wf := _) hA0 hsz hw hP hD hS) hS.2.2 dX5_removeOrder_8
abbrev rmX5_spreadSalt : Room := { frames := 3, cells := 0, slots := 0, locals := 145 }
set_option maxRecDepth 20000 in
theorem inX5_spreadSalt_X4 : ∀ w ∈ wsX40, w ∈ wsX5_spreadSalt := by decide +kernel
set_option maxRecDepth 20000 in
theorem inX5_spreadSalt_X5 : ∀ w ∈ wsX50, w ∈ wsX5_spreadSalt := by decide +kernel
set_option maxHeartbeats 4000000 in
set_option maxRecDepth 100000 in
theorem ctX5_spreadSalt (l : Launch) (g : GG) (a_to : Nat → Nat) (a_pa : Nat → Nat) (a_st : Nat → Nat) (a_pl : Nat → Nat) (sz : Nat) (t_time : Int32) (t_store : Int32) (t_rate : Int32) (t_force : Int32) (t_cleared : Int32) (t_ploughed : Int32) (t_failed : Int32) (t_complained : Int32) (s_lower : Nat → Int32) (s_higher : Nat → Int32) (s_kind : Nat → Int32) (s_size : Nat → Int32) (s_snow : Nat → Int32) (s_saltEnd : Nat → Int32) (s_complained : Nat → Int32) (s_clearings : Nat → Int32) (s_count : Int32) (x1 : Int32) {post : Int32 → Int32 → (Nat → Int32) → Prop} (hw : wpX5_spreadSalt x1 t_time t_store s_size s_saltEnd s_count post) :
    Met l yX5_spreadSalt wsX5_spreadSalt rmX5_spreadSalt (gPc g sz (List.flatten [kTo g a_to a_pa a_st a_pl t_time t_store t_rate t_force t_cleared t_ploughed t_failed t_complained, kSt g a_st s_lower s_higher s_kind s_size s_snow s_saltEnd s_complained s_clearings s_count]) [.ref (a_to 0), .int x1]) (gQi2 post (fun u1 u2 => gB g (List.flatten [kTo g a_to a_pa a_st a_pl t_time t_store t_rate t_force t_cleared t_ploughed t_failed t_complained, kSt g a_st s_lower s_higher s_kind s_size s_snow s_saltEnd s_complained s_clearings s_count]) sz (List.flatten [kTo g a_to a_pa a_st a_pl t_time u1 t_rate t_force t_cleared t_ploughed t_failed t_complained, kSt g a_st s_lower s_higher s_kind s_size s_snow u2 s_complained s_clearings s_count])) (va_A (List.flatten [kTo g a_to a_pa a_st a_pl t_time t_store t_rate t_force t_cleared t_ploughed t_failed t_complained, kSt g a_st s_lower s_higher s_kind s_size s_snow s_saltEnd s_complained s_clearings s_count]) sz)) 0 0 (va_A (List.flatten [kTo g a_to a_pa a_st a_pl t_time t_store t_rate t_force t_cleared t_ploughed t_failed t_complained, kSt g a_st s_lower s_higher s_kind s_size s_snow s_saltEnd s_complained s_clearings s_count]) sz) := by
  refine gOf (cc := cX5_spreadSalt) (maxL := 2) (ret := (some .int)) (by decide) rfl (Nat.le_of_ble_eq_true rfl) ?_
  intro p e s m below meth c ls Q A hQ hx hb hr hml hts hown hlocks hE hA0 hsz hP hD hA hS hl
  have hl : lv_has ls 2 [(0, .ref (a_to 0)), (1, .int x1)] := hl
  refine lv_aload_n hx hb dX5_spreadSalt_0 rfl (lv_at hl 0 rfl) ?_
  refine va_get (D := g.1) (ci := 9) (v := .ref (a_st 0)) (C := RX5) (T := TX5) (N := 11) hx hb hts inX5_spreadSalt_X5 hown hE.1 hP 0 rfl rfl 1 (by decide) (gW hts 1 (.fieldLink RX5 18 "SnowDispatcher$Town" "streets" "LSnowDispatcher$Streets;") rfl) (fun _ h9 => h9) rfl dX5_spreadSalt_1 ?_
  refine lv_iload_n hx hb dX5_spreadSalt_4 rfl (lv_at hl 1 rfl) ?_
  refine gCi0 (gRunV (As := [.int x1]) (rest := []) ⟨hx, hb, hml, hown, hts⟩ (ctX4_has l g a_st _ s_lower s_higher s_kind s_size s_snow s_saltEnd s_complained s_clearings s_count x1 hw) (cwV 1 hts gX5_spreadSalt_X4_has rfl rfl rfl (by decide +kernel) ⟨Nat.le_of_ble_eq_true rfl, Nat.le_of_ble_eq_true rfl⟩) hE (gSub hP [1]) (gDSub hD [1] rfl) 0 8 rfl rfl rfl rfl rfl hl.1 rfl (lv_room (Nat.le_of_ble_eq_true rfl)) dX5_spreadSalt_5 ⟨Nat.le_of_ble_eq_true rfl, Nat.le_of_ble_eq_true rfl⟩) hP hD hS hA [1] rfl rfl rfl (fun r1 H locs hw hP hD hS => ?_)
  have hP : va_P g.1 vwCl (List.flatten [kTo g a_to a_pa a_st a_pl t_time t_store t_rate t_force t_cleared t_ploughed t_failed t_complained, kSt g a_st s_lower s_higher s_kind s_size s_snow s_saltEnd s_complained s_clearings s_count]) H := hP
  have hD : va_D A (List.flatten [kTo g a_to a_pa a_st a_pl t_time t_store t_rate t_force t_cleared t_ploughed t_failed t_complained, kSt g a_st s_lower s_higher s_kind s_size s_snow s_saltEnd s_complained s_clearings s_count]) := hD
  refine lv_if_ne (tgt := 13) hx hb dX5_spreadSalt_8 (by decide) (fun c_8 => ?_) (fun c_8 => ?_)
  · have hw := hw.1 c_8
    refine lv_aload_n hx hb dX5_spreadSalt_13 rfl (lv_at hl 0 rfl) ?_
    refine va_get (D := g.1) (ci := 9) (v := .ref (a_st 0)) (C := RX5) (T := TX5) (N := 11) hx hb hts inX5_spreadSalt_X5 hown hE.1 hP 0 rfl rfl 1 (by decide) (gW hts 1 (.fieldLink RX5 18 "SnowDispatcher$Town" "streets" "LSnowDispatcher$Streets;") rfl) (fun _ h9 => h9) rfl dX5_spreadSalt_14 ?_
    refine lv_iload_n hx hb dX5_spreadSalt_17 rfl (lv_at hl 1 rfl) ?_
    refine lv_aload_n hx hb dX5_spreadSalt_18 rfl (lv_at hl 0 rfl) ?_
    refine va_get (D := g.1) (ci := 9) (v := .int t_time) (C := RX5) (T := TX5) (N := 11) hx hb hts inX5_spreadSalt_X5 hown hE.1 hP 0 rfl rfl 3 (by decide) (gW hts 2 (.fieldLink RX5 36 "SnowDispatcher$Town" "time" "I") rfl) (fun _ h9 => h9) rfl dX5_spreadSalt_19 ?_
    refine gCi0 (gRunV (As := [.int x1, .int t_time]) (rest := []) ⟨hx, hb, hml, hown, hts⟩ (ctX4_saltLeft l g a_st _ s_lower s_higher s_kind s_size s_snow s_saltEnd s_complained s_clearings s_count x1 t_time hw) (cwV 2 hts gX5_spreadSalt_X4_saltLeft rfl rfl rfl (by decide +kernel) ⟨Nat.le_of_ble_eq_true rfl, Nat.le_of_ble_eq_true rfl⟩) hE (gSub hP [1]) (gDSub hD [1] rfl) 0 8 rfl rfl rfl rfl rfl hl.1 rfl (lv_room (Nat.le_of_ble_eq_true rfl)) dX5_spreadSalt_22 ⟨Nat.le_of_ble_eq_true rfl, Nat.le_of_ble_eq_true rfl⟩) hP hD hS hA [1] rfl rfl rfl (fun r2 H locs hw hP hD hS => ?_)
    have hP : va_P g.1 vwCl (List.flatten [kTo g a_to a_pa a_st a_pl t_time t_store t_rate t_force t_cleared t_ploughed t_failed t_complained, kSt g a_st s_lower s_higher s_kind s_size s_snow s_saltEnd s_complained s_clearings s_count]) H := hP
    have hD : va_D A (List.flatten [kTo g a_to a_pa a_st a_pl t_time t_store t_rate t_force t_cleared t_ploughed t_failed t_complained, kSt g a_st s_lower s_higher s_kind s_size s_snow s_saltEnd s_complained s_clearings s_count]) := hD
    refine lv_if_le (tgt := 31) hx hb dX5_spreadSalt_25 (by decide) (fun c_25 => ?_) (fun c_25 => ?_)
    · have hw := hw.1 c_25
      refine lv_aload_n hx hb dX5_spreadSalt_31 rfl (lv_at hl 0 rfl) ?_
      refine va_get (D := g.1) (ci := 9) (v := .int t_store) (C := RX5) (T := TX5) (N := 11) hx hb hts inX5_spreadSalt_X5 hown hE.1 hP 0 rfl rfl 4 (by decide) (gW hts 3 (.fieldLink RX5 40 "SnowDispatcher$Town" "store" "I") rfl) (fun _ h9 => h9) rfl dX5_spreadSalt_32 ?_
      refine lv_aload_n hx hb dX5_spreadSalt_35 rfl (lv_at hl 0 rfl) ?_
      refine va_get (D := g.1) (ci := 9) (v := .ref (a_st 0)) (C := RX5) (T := TX5) (N := 11) hx hb hts inX5_spreadSalt_X5 hown hE.1 hP 0 rfl rfl 1 (by decide) (gW hts 1 (.fieldLink RX5 18 "SnowDispatcher$Town" "streets" "LSnowDispatcher$Streets;") rfl) (fun _ h9 => h9) rfl dX5_spreadSalt_36 ?_
      refine va_get (D := g.1) (ci := 8) (v := .ref (a_st 4)) (C := RX4) (T := TX4) (N := 9) hx hb hts inX5_spreadSalt_X4 hown hE.1 hP 1 rfl rfl 3 (by decide) (gW hts 4 (.fieldLink RX5 97 "SnowDispatcher$Streets" "size" "[I") rfl) (fun _ h9 => h9) rfl dX5_spreadSalt_39 ?_
      refine lv_iload_n hx hb dX5_spreadSalt_42 rfl (lv_at hl 1 rfl) ?_
      have h3 := hw.1
      have hw := hw.2
      refine va_iald hx hb hE.1 hP 5 0 rfl rfl h3 dX5_spreadSalt_43 ?_
      refine lv_icmp_ge (tgt := 50) hx hb dX5_spreadSalt_44 (by decide) (fun c_44 => ?_) (fun c_44 => ?_)
      · have hw := hw.1 c_44
        refine lv_aload_n hx hb dX5_spreadSalt_50 rfl (lv_at hl 0 rfl) ?_
        refine lv_dup hx hb dX5_spreadSalt_51 rfl ?_
        refine va_get (D := g.1) (ci := 9) (v := .int t_store) (C := RX5) (T := TX5) (N := 11) hx hb hts inX5_spreadSalt_X5 hown hE.1 hP 0 rfl rfl 4 (by decide) (gW hts 3 (.fieldLink RX5 40 "SnowDispatcher$Town" "store" "I") rfl) (fun _ h9 => h9) rfl dX5_spreadSalt_52 ?_
        refine lv_aload_n hx hb dX5_spreadSalt_55 rfl (lv_at hl 0 rfl) ?_
        refine va_get (D := g.1) (ci := 9) (v := .ref (a_st 0)) (C := RX5) (T := TX5) (N := 11) hx hb hts inX5_spreadSalt_X5 hown hE.1 hP 0 rfl rfl 1 (by decide) (gW hts 1 (.fieldLink RX5 18 "SnowDispatcher$Town" "streets" "LSnowDispatcher$Streets;") rfl) (fun _ h9 => h9) rfl dX5_spreadSalt_56 ?_
        refine va_get (D := g.1) (ci := 8) (v := .ref (a_st 4)) (C := RX4) (T := TX4) (N := 9) hx hb hts inX5_spreadSalt_X4 hown hE.1 hP 1 rfl rfl 3 (by decide) (gW hts 4 (.fieldLink RX5 97 "SnowDispatcher$Streets" "size" "[I") rfl) (fun _ h9 => h9) rfl dX5_spreadSalt_59 ?_
        refine lv_iload_n hx hb dX5_spreadSalt_62 rfl (lv_at hl 1 rfl) ?_
        have h4 := hw.1
        have hw := hw.2
        refine va_iald hx hb hE.1 hP 5 0 rfl rfl h4 dX5_spreadSalt_63 ?_
        refine lv_isub hx hb dX5_spreadSalt_64 ?_
        refine va_put (D := g.1) (ci := 9) (v := .int (t_store - (s_size x1.toNatClampNeg))) (ty := .int) (C := RX5) (T := TX5) (N := 11) hx hb hts inX5_spreadSalt_X5 tyX5 tyX5_ok nmX5 hown hE.1 hP hD hS 0 rfl rfl 4 (by decide) (gW hts 3 (.fieldLink RX5 40 "SnowDispatcher$Town" "store" "I") rfl) (fun _ h9 => h9) rfl (by decide +kernel) rfl rfl (Nat.le_of_ble_eq_true rfl) dX5_spreadSalt_65 (fun H locs hP hD hS => ?_)
        have hP : va_P g.1 vwCl (List.flatten [kTo g a_to a_pa a_st a_pl t_time (t_store - (s_size x1.toNatClampNeg)) t_rate t_force t_cleared t_ploughed t_failed t_complained, kSt g a_st s_lower s_higher s_kind s_size s_snow s_saltEnd s_complained s_clearings s_count]) H := hP
        have hD : va_D A (List.flatten [kTo g a_to a_pa a_st a_pl t_time (t_store - (s_size x1.toNatClampNeg)) t_rate t_force t_cleared t_ploughed t_failed t_complained, kSt g a_st s_lower s_higher s_kind s_size s_snow s_saltEnd s_complained s_clearings s_count]) := hD
        refine lv_aload_n hx hb dX5_spreadSalt_68 rfl (lv_at hl 0 rfl) ?_
        refine va_get (D := g.1) (ci := 9) (v := .ref (a_st 0)) (C := RX5) (T := TX5) (N := 11) hx hb hts inX5_spreadSalt_X5 hown hE.1 hP 0 rfl rfl 1 (by decide) (gW hts 1 (.fieldLink RX5 18 "SnowDispatcher$Town" "streets" "LSnowDispatcher$Streets;") rfl) (fun _ h9 => h9) rfl dX5_spreadSalt_69 ?_
        refine va_get (D := g.1) (ci := 8) (v := .ref (a_st 6)) (C := RX4) (T := TX4) (N := 9) hx hb hts inX5_spreadSalt_X4 hown hE.1 hP 1 rfl rfl 5 (by decide) (gW hts 5 (.fieldLink RX5 101 "SnowDispatcher$Streets" "saltEnd" "[I") rfl) (fun _ h9 => h9) rfl dX5_spreadSalt_72 ?_
        refine lv_iload_n hx hb dX5_spreadSalt_75 rfl (lv_at hl 1 rfl) ?_
        refine lv_aload_n hx hb dX5_spreadSalt_76 rfl (lv_at hl 0 rfl) ?_
        refine va_get (D := g.1) (ci := 9) (v := .int t_time) (C := RX5) (T := TX5) (N := 11) hx hb hts inX5_spreadSalt_X5 hown hE.1 hP 0 rfl rfl 3 (by decide) (gW hts 2 (.fieldLink RX5 36 "SnowDispatcher$Town" "time" "I") rfl) (fun _ h9 => h9) rfl dX5_spreadSalt_77 ?_
        refine lv_sipush (v := 240) hx hb dX5_spreadSalt_80 (by decide) ?_
        refine lv_iadd hx hb dX5_spreadSalt_83 ?_
        have h5 := hw.1
        have hw := hw.2
        refine va_iast hx hb hE.1 hP hD hS 7 0 rfl rfl h5 dX5_spreadSalt_84 (fun H locs hP hD hS => ?_)
        have hP : va_P g.1 vwCl (List.flatten [kTo g a_to a_pa a_st a_pl t_time (t_store - (s_size x1.toNatClampNeg)) t_rate t_force t_cleared t_ploughed t_failed t_complained, kSt g a_st s_lower s_higher s_kind s_size s_snow (upd s_saltEnd x1.toNatClampNeg (t_time + 240)) s_complained s_clearings s_count]) H := hP
        have hD : va_D A (List.flatten [kTo g a_to a_pa a_st a_pl t_time (t_store - (s_size x1.toNatClampNeg)) t_rate t_force t_cleared t_ploughed t_failed t_complained, kSt g a_st s_lower s_higher s_kind s_size s_snow (upd s_saltEnd x1.toNatClampNeg (t_time + 240)) s_complained s_clearings s_count]) := hD
        refine lv_aload_n hx hb dX5_spreadSalt_85 rfl (lv_at hl 0 rfl) ?_
        refine va_get (D := g.1) (ci := 9) (v := .int (t_store - (s_size x1.toNatClampNeg))) (C := RX5) (T := TX5) (N := 11) hx hb hts inX5_spreadSalt_X5 hown hE.1 hP 0 rfl rfl 4 (by decide) (gW hts 3 (.fieldLink RX5 40 "SnowDispatcher$Town" "store" "I") rfl) (fun _ h9 => h9) rfl dX5_spreadSalt_86 ?_
        subst hQ
        exact W.iret hx hb hr (gRi2 (c1 := (t_store - (s_size x1.toNatClampNeg))) (c2 := (upd s_saltEnd x1.toNatClampNeg (t_time + 240))) (wf := _) hA0 hsz hw hP hD hS) hS.2.2 dX5_spreadSalt_89
      · have hw := hw.2 c_44
        refine lv_bipush (v := (-4)) hx hb dX5_spreadSalt_47 (by decide) ?_
        subst hQ
        exact W.iret hx hb hr (gRi2 (c1 := t_store) (c2 := s_saltEnd) (wf := _) hA0 hsz hw hP hD hS) hS.2.2 dX5_spreadSalt_49
    · have hw := hw.2 c_25
      refine lv_bipush (v := (-3)) hx hb dX5_spreadSalt_28 (by decide) ?_
      subst hQ
      exact W.iret hx hb hr (gRi2 (c1 := t_store) (c2 := s_saltEnd) (wf := _) hA0 hsz hw hP hD hS) hS.2.2 dX5_spreadSalt_30
  · have hw := hw.2 c_8
    refine lv_iconst (v := (-1)) hx hb dX5_spreadSalt_11 (by decide) ?_
    subst hQ
    exact W.iret hx hb hr (gRi2 (c1 := t_store) (c2 := s_saltEnd) (wf := _) hA0 hsz hw hP hD hS) hS.2.2 dX5_spreadSalt_12
abbrev rmX5_fillStore : Room := { frames := 1, cells := 0, slots := 0, locals := 100 }
set_option maxRecDepth 20000 in
theorem inX5_fillStore_X5 : ∀ w ∈ wsX50, w ∈ wsX5_fillStore := by decide +kernel
set_option maxHeartbeats 4000000 in
set_option maxRecDepth 100000 in
theorem ctX5_fillStore (l : Launch) (g : GG) (a_to : Nat → Nat) (a_pa : Nat → Nat) (a_st : Nat → Nat) (a_pl : Nat → Nat) (sz : Nat) (t_time : Int32) (t_store : Int32) (t_rate : Int32) (t_force : Int32) (t_cleared : Int32) (t_ploughed : Int32) (t_failed : Int32) (t_complained : Int32) (x1 : Int32) {post : Int32 → Int32 → Prop} (hw : wpX5_fillStore x1 t_store post) :
    Met l yX5_fillStore wsX5_fillStore rmX5_fillStore (gPc g sz (List.flatten [kTo g a_to a_pa a_st a_pl t_time t_store t_rate t_force t_cleared t_ploughed t_failed t_complained]) [.ref (a_to 0), .int x1]) (gQi1 post (fun u1 => gB g (List.flatten [kTo g a_to a_pa a_st a_pl t_time t_store t_rate t_force t_cleared t_ploughed t_failed t_complained]) sz (List.flatten [kTo g a_to a_pa a_st a_pl t_time u1 t_rate t_force t_cleared t_ploughed t_failed t_complained])) (va_A (List.flatten [kTo g a_to a_pa a_st a_pl t_time t_store t_rate t_force t_cleared t_ploughed t_failed t_complained]) sz)) 0 0 (va_A (List.flatten [kTo g a_to a_pa a_st a_pl t_time t_store t_rate t_force t_cleared t_ploughed t_failed t_complained]) sz) := by
  refine gOf (cc := cX5_fillStore) (maxL := 2) (ret := (some .int)) (by decide) rfl (Nat.le_of_ble_eq_true rfl) ?_
  intro p e s m below meth c ls Q A hQ hx hb hr hml hts hown hlocks hE hA0 hsz hP hD hA hS hl
  have hl : lv_has ls 2 [(0, .ref (a_to 0)), (1, .int x1)] := hl
  refine lv_iload_n hx hb dX5_fillStore_0 rfl (lv_at hl 1 rfl) ?_
  refine lv_iconst (v := 1) hx hb dX5_fillStore_1 (by decide) ?_
  refine lv_icmp_lt (tgt := 12) hx hb dX5_fillStore_2 (by decide) (fun c_2 => ?_) (fun c_2 => ?_)
  · have hw := hw.1 c_2
    refine lv_bipush (v := (-2)) hx hb dX5_fillStore_12 (by decide) ?_
    subst hQ
    exact W.iret hx hb hr (gRi1 (c1 := t_store) (wf := _) hA0 hsz hw hP hD hS) hS.2.2 dX5_fillStore_14
  · have hw := hw.2 c_2
    refine lv_iload_n hx hb dX5_fillStore_5 rfl (lv_at hl 1 rfl) ?_
    refine lv_sipush (v := 200) hx hb dX5_fillStore_6 (by decide) ?_
    refine lv_icmp_le (tgt := 15) hx hb dX5_fillStore_9 (by decide) (fun c_9 => ?_) (fun c_9 => ?_)
    · have hw := hw.1 c_9
      refine lv_aload_n hx hb dX5_fillStore_15 rfl (lv_at hl 0 rfl) ?_
      refine va_get (D := g.1) (ci := 9) (v := .int t_store) (C := RX5) (T := TX5) (N := 11) hx hb hts inX5_fillStore_X5 hown hE.1 hP 0 rfl rfl 4 (by decide) (gW hts 1 (.fieldLink RX5 40 "SnowDispatcher$Town" "store" "I") rfl) (fun _ h9 => h9) rfl dX5_fillStore_16 ?_
      refine lv_iload_n hx hb dX5_fillStore_19 rfl (lv_at hl 1 rfl) ?_
      refine lv_iadd hx hb dX5_fillStore_20 ?_
      refine lv_sipush (v := 500) hx hb dX5_fillStore_21 (by decide) ?_
      refine lv_icmp_le (tgt := 30) hx hb dX5_fillStore_24 (by decide) (fun c_24 => ?_) (fun c_24 => ?_)
      · have hw := hw.1 c_24
        refine lv_aload_n hx hb dX5_fillStore_30 rfl (lv_at hl 0 rfl) ?_
        refine lv_dup hx hb dX5_fillStore_31 rfl ?_
        refine va_get (D := g.1) (ci := 9) (v := .int t_store) (C := RX5) (T := TX5) (N := 11) hx hb hts inX5_fillStore_X5 hown hE.1 hP 0 rfl rfl 4 (by decide) (gW hts 1 (.fieldLink RX5 40 "SnowDispatcher$Town" "store" "I") rfl) (fun _ h9 => h9) rfl dX5_fillStore_32 ?_
        refine lv_iload_n hx hb dX5_fillStore_35 rfl (lv_at hl 1 rfl) ?_
        refine lv_iadd hx hb dX5_fillStore_36 ?_
        refine va_put (D := g.1) (ci := 9) (v := .int (t_store + x1)) (ty := .int) (C := RX5) (T := TX5) (N := 11) hx hb hts inX5_fillStore_X5 tyX5 tyX5_ok nmX5 hown hE.1 hP hD hS 0 rfl rfl 4 (by decide) (gW hts 1 (.fieldLink RX5 40 "SnowDispatcher$Town" "store" "I") rfl) (fun _ h9 => h9) rfl (by decide +kernel) rfl rfl (Nat.le_of_ble_eq_true rfl) dX5_fillStore_37 (fun H locs hP hD hS => ?_)
        have hP : va_P g.1 vwCl (List.flatten [kTo g a_to a_pa a_st a_pl t_time (t_store + x1) t_rate t_force t_cleared t_ploughed t_failed t_complained]) H := hP
        have hD : va_D A (List.flatten [kTo g a_to a_pa a_st a_pl t_time (t_store + x1) t_rate t_force t_cleared t_ploughed t_failed t_complained]) := hD
        refine lv_aload_n hx hb dX5_fillStore_40 rfl (lv_at hl 0 rfl) ?_
        refine va_get (D := g.1) (ci := 9) (v := .int (t_store + x1)) (C := RX5) (T := TX5) (N := 11) hx hb hts inX5_fillStore_X5 hown hE.1 hP 0 rfl rfl 4 (by decide) (gW hts 1 (.fieldLink RX5 40 "SnowDispatcher$Town" "store" "I") rfl) (fun _ h9 => h9) rfl dX5_fillStore_41 ?_
        subst hQ
        exact W.iret hx hb hr (gRi1 (c1 := (t_store + x1)) (wf := _) hA0 hsz hw hP hD hS) hS.2.2 dX5_fillStore_44
      · have hw := hw.2 c_24
        refine lv_bipush (v := (-3)) hx hb dX5_fillStore_27 (by decide) ?_
        subst hQ
        exact W.iret hx hb hr (gRi1 (c1 := t_store) (wf := _) hA0 hsz hw hP hD hS) hS.2.2 dX5_fillStore_29
    · have hw := hw.2 c_9
      refine lv_bipush (v := (-2)) hx hb dX5_fillStore_12 (by decide) ?_
      subst hQ
      exact W.iret hx hb hr (gRi1 (c1 := t_store) (wf := _) hA0 hsz hw hP hD hS) hS.2.2 dX5_fillStore_14
abbrev rmX5_changeRate : Room := { frames := 1, cells := 0, slots := 0, locals := 100 }
set_option maxRecDepth 20000 in
theorem inX5_changeRate_X5 : ∀ w ∈ wsX50, w ∈ wsX5_changeRate := by decide +kernel
set_option maxHeartbeats 4000000 in
set_option maxRecDepth 100000 in
theorem ctX5_changeRate (l : Launch) (g : GG) (a_to : Nat → Nat) (a_pa : Nat → Nat) (a_st : Nat → Nat) (a_pl : Nat → Nat) (sz : Nat) (t_time : Int32) (t_store : Int32) (t_rate : Int32) (t_force : Int32) (t_cleared : Int32) (t_ploughed : Int32) (t_failed : Int32) (t_complained : Int32) (x1 : Int32) {post : Int32 → Int32 → Prop} (hw : wpX5_changeRate x1 t_rate post) :
    Met l yX5_changeRate wsX5_changeRate rmX5_changeRate (gPc g sz (List.flatten [kTo g a_to a_pa a_st a_pl t_time t_store t_rate t_force t_cleared t_ploughed t_failed t_complained]) [.ref (a_to 0), .int x1]) (gQi1 post (fun u1 => gB g (List.flatten [kTo g a_to a_pa a_st a_pl t_time t_store t_rate t_force t_cleared t_ploughed t_failed t_complained]) sz (List.flatten [kTo g a_to a_pa a_st a_pl t_time t_store u1 t_force t_cleared t_ploughed t_failed t_complained])) (va_A (List.flatten [kTo g a_to a_pa a_st a_pl t_time t_store t_rate t_force t_cleared t_ploughed t_failed t_complained]) sz)) 0 0 (va_A (List.flatten [kTo g a_to a_pa a_st a_pl t_time t_store t_rate t_force t_cleared t_ploughed t_failed t_complained]) sz) := by
  refine gOf (cc := cX5_changeRate) (maxL := 3) (ret := (some .int)) (by decide) rfl (Nat.le_of_ble_eq_true rfl) ?_
  intro p e s m below meth c ls Q A hQ hx hb hr hml hts hown hlocks hE hA0 hsz hP hD hA hS hl
  have hl : lv_has ls 3 [(0, .ref (a_to 0)), (1, .int x1)] := hl
  refine lv_iload_n hx hb dX5_changeRate_0 rfl (lv_at hl 1 rfl) ?_
  refine lv_if_lt (tgt := 10) hx hb dX5_changeRate_1 (by decide) (fun c_1 => ?_) (fun c_1 => ?_)
  · have hw := hw.1 c_1
    refine lv_bipush (v := (-2)) hx hb dX5_changeRate_10 (by decide) ?_
    subst hQ
    exact W.iret hx hb hr (gRi1 (c1 := t_rate) (wf := _) hA0 hsz hw hP hD hS) hS.2.2 dX5_changeRate_12
  · have hw := hw.2 c_1
    refine lv_iload_n hx hb dX5_changeRate_4 rfl (lv_at hl 1 rfl) ?_
    refine lv_bipush (v := 9) hx hb dX5_changeRate_5 (by decide) ?_
    refine lv_icmp_le (tgt := 13) hx hb dX5_changeRate_7 (by decide) (fun c_7 => ?_) (fun c_7 => ?_)
    · have hw := hw.1 c_7
      refine lv_aload_n hx hb dX5_changeRate_13 rfl (lv_at hl 0 rfl) ?_
      refine va_get (D := g.1) (ci := 9) (v := .int t_rate) (C := RX5) (T := TX5) (N := 11) hx hb hts inX5_changeRate_X5 hown hE.1 hP 0 rfl rfl 5 (by decide) (gW hts 1 (.fieldLink RX5 43 "SnowDispatcher$Town" "rate" "I") rfl) (fun _ h9 => h9) rfl dX5_changeRate_14 ?_
      refine lv_istore_n (lv' := [(2, .int t_rate), (0, .ref (a_to 0)), (1, .int x1)]) hx hb dX5_changeRate_17 rfl hl (by decide) rfl (fun ls hl => ?_)
      refine lv_aload_n hx hb dX5_changeRate_18 rfl (lv_at hl 1 rfl) ?_
      refine lv_iload_n hx hb dX5_changeRate_19 rfl (lv_at hl 2 rfl) ?_
      refine va_put (D := g.1) (ci := 9) (v := .int x1) (ty := .int) (C := RX5) (T := TX5) (N := 11) hx hb hts inX5_changeRate_X5 tyX5 tyX5_ok nmX5 hown hE.1 hP hD hS 0 rfl rfl 5 (by decide) (gW hts 1 (.fieldLink RX5 43 "SnowDispatcher$Town" "rate" "I") rfl) (fun _ h9 => h9) rfl (by decide +kernel) rfl rfl (Nat.le_of_ble_eq_true rfl) dX5_changeRate_20 (fun H locs hP hD hS => ?_)
      have hP : va_P g.1 vwCl (List.flatten [kTo g a_to a_pa a_st a_pl t_time t_store x1 t_force t_cleared t_ploughed t_failed t_complained]) H := hP
      have hD : va_D A (List.flatten [kTo g a_to a_pa a_st a_pl t_time t_store x1 t_force t_cleared t_ploughed t_failed t_complained]) := hD
      refine lv_iload_n hx hb dX5_changeRate_23 rfl (lv_at hl 0 rfl) ?_
      subst hQ
      exact W.iret hx hb hr (gRi1 (c1 := x1) (wf := _) hA0 hsz hw hP hD hS) hS.2.2 dX5_changeRate_24
    · have hw := hw.2 c_7
      refine lv_bipush (v := (-2)) hx hb dX5_changeRate_10 (by decide) ?_
      subst hQ
      exact W.iret hx hb hr (gRi1 (c1 := t_rate) (wf := _) hA0 hsz hw hP hD hS) hS.2.2 dX5_changeRate_12
abbrev rmX5_changeForce : Room := { frames := 1, cells := 0, slots := 0, locals := 100 }
set_option maxRecDepth 20000 in
theorem inX5_changeForce_X5 : ∀ w ∈ wsX50, w ∈ wsX5_changeForce := by decide +kernel
set_option maxHeartbeats 4000000 in
set_option maxRecDepth 100000 in
theorem ctX5_changeForce (l : Launch) (g : GG) (a_to : Nat → Nat) (a_pa : Nat → Nat) (a_st : Nat → Nat) (a_pl : Nat → Nat) (sz : Nat) (t_time : Int32) (t_store : Int32) (t_rate : Int32) (t_force : Int32) (t_cleared : Int32) (t_ploughed : Int32) (t_failed : Int32) (t_complained : Int32) (x1 : Int32) {post : Int32 → Int32 → Prop} (hw : wpX5_changeForce x1 t_force post) :
    Met l yX5_changeForce wsX5_changeForce rmX5_changeForce (gPc g sz (List.flatten [kTo g a_to a_pa a_st a_pl t_time t_store t_rate t_force t_cleared t_ploughed t_failed t_complained]) [.ref (a_to 0), .int x1]) (gQi1 post (fun u1 => gB g (List.flatten [kTo g a_to a_pa a_st a_pl t_time t_store t_rate t_force t_cleared t_ploughed t_failed t_complained]) sz (List.flatten [kTo g a_to a_pa a_st a_pl t_time t_store t_rate u1 t_cleared t_ploughed t_failed t_complained])) (va_A (List.flatten [kTo g a_to a_pa a_st a_pl t_time t_store t_rate t_force t_cleared t_ploughed t_failed t_complained]) sz)) 0 0 (va_A (List.flatten [kTo g a_to a_pa a_st a_pl t_time t_store t_rate t_force t_cleared t_ploughed t_failed t_complained]) sz) := by
  refine gOf (cc := cX5_changeForce) (maxL := 3) (ret := (some .int)) (by decide) rfl (Nat.le_of_ble_eq_true rfl) ?_
  intro p e s m below meth c ls Q A hQ hx hb hr hml hts hown hlocks hE hA0 hsz hP hD hA hS hl
  have hl : lv_has ls 3 [(0, .ref (a_to 0)), (1, .int x1)] := hl
  refine lv_iload_n hx hb dX5_changeForce_0 rfl (lv_at hl 1 rfl) ?_
  refine lv_if_lt (tgt := 10) hx hb dX5_changeForce_1 (by decide) (fun c_1 => ?_) (fun c_1 => ?_)
  · have hw := hw.1 c_1
    refine lv_bipush (v := (-2)) hx hb dX5_changeForce_10 (by decide) ?_
    subst hQ
    exact W.iret hx hb hr (gRi1 (c1 := t_force) (wf := _) hA0 hsz hw hP hD hS) hS.2.2 dX5_changeForce_12
  · have hw := hw.2 c_1
    refine lv_iload_n hx hb dX5_changeForce_4 rfl (lv_at hl 1 rfl) ?_
    refine lv_bipush (v := 9) hx hb dX5_changeForce_5 (by decide) ?_
    refine lv_icmp_le (tgt := 13) hx hb dX5_changeForce_7 (by decide) (fun c_7 => ?_) (fun c_7 => ?_)
    · have hw := hw.1 c_7
      refine lv_aload_n hx hb dX5_changeForce_13 rfl (lv_at hl 0 rfl) ?_
      refine va_get (D := g.1) (ci := 9) (v := .int t_force) (C := RX5) (T := TX5) (N := 11) hx hb hts inX5_changeForce_X5 hown hE.1 hP 0 rfl rfl 6 (by decide) (gW hts 1 (.fieldLink RX5 46 "SnowDispatcher$Town" "force" "I") rfl) (fun _ h9 => h9) rfl dX5_changeForce_14 ?_
      refine lv_istore_n (lv' := [(2, .int t_force), (0, .ref (a_to 0)), (1, .int x1)]) hx hb dX5_changeForce_17 rfl hl (by decide) rfl (fun ls hl => ?_)
      refine lv_aload_n hx hb dX5_changeForce_18 rfl (lv_at hl 1 rfl) ?_
      refine lv_iload_n hx hb dX5_changeForce_19 rfl (lv_at hl 2 rfl) ?_
      refine va_put (D := g.1) (ci := 9) (v := .int x1) (ty := .int) (C := RX5) (T := TX5) (N := 11) hx hb hts inX5_changeForce_X5 tyX5 tyX5_ok nmX5 hown hE.1 hP hD hS 0 rfl rfl 6 (by decide) (gW hts 1 (.fieldLink RX5 46 "SnowDispatcher$Town" "force" "I") rfl) (fun _ h9 => h9) rfl (by decide +kernel) rfl rfl (Nat.le_of_ble_eq_true rfl) dX5_changeForce_20 (fun H locs hP hD hS => ?_)
      have hP : va_P g.1 vwCl (List.flatten [kTo g a_to a_pa a_st a_pl t_time t_store t_rate x1 t_cleared t_ploughed t_failed t_complained]) H := hP
      have hD : va_D A (List.flatten [kTo g a_to a_pa a_st a_pl t_time t_store t_rate x1 t_cleared t_ploughed t_failed t_complained]) := hD
      refine lv_iload_n hx hb dX5_changeForce_23 rfl (lv_at hl 0 rfl) ?_
      subst hQ
      exact W.iret hx hb hr (gRi1 (c1 := x1) (wf := _) hA0 hsz hw hP hD hS) hS.2.2 dX5_changeForce_24
    · have hw := hw.2 c_7
      refine lv_bipush (v := (-2)) hx hb dX5_changeForce_10 (by decide) ?_
      subst hQ
      exact W.iret hx hb hr (gRi1 (c1 := t_force) (wf := _) hA0 hsz hw hP hD hS) hS.2.2 dX5_changeForce_12
abbrev rmX5_minutesFor : Room := { frames := 3, cells := 0, slots := 0, locals := 151 }
set_option maxRecDepth 20000 in
theorem inX5_minutesFor_X1 : ∀ w ∈ wsX10, w ∈ wsX5_minutesFor := by decide +kernel
set_option maxRecDepth 20000 in
theorem inX5_minutesFor_X2 : ∀ w ∈ wsX20, w ∈ wsX5_minutesFor := by decide +kernel
set_option maxRecDepth 20000 in
theorem inX5_minutesFor_X4 : ∀ w ∈ wsX40, w ∈ wsX5_minutesFor := by decide +kernel
set_option maxRecDepth 20000 in
theorem inX5_minutesFor_X5 : ∀ w ∈ wsX50, w ∈ wsX5_minutesFor := by decide +kernel
set_option maxHeartbeats 4000000 in
set_option maxRecDepth 100000 in
theorem ctX5_minutesFor (l : Launch) (g : GG) (a_to : Nat → Nat) (a_pa : Nat → Nat) (a_st : Nat → Nat) (a_pl : Nat → Nat) (sz : Nat) (t_time : Int32) (t_store : Int32) (t_rate : Int32) (t_force : Int32) (t_cleared : Int32) (t_ploughed : Int32) (t_failed : Int32) (t_complained : Int32) (w_reach : Nat → Int32) (w_settled : Nat → Int32) (w_table : Nat → Int32) (s_lower : Nat → Int32) (s_higher : Nat → Int32) (s_kind : Nat → Int32) (s_size : Nat → Int32) (s_snow : Nat → Int32) (s_saltEnd : Nat → Int32) (s_complained : Nat → Int32) (s_clearings : Nat → Int32) (s_count : Int32) (q_place : Nat → Int32) (q_target : Nat → Int32) (q_minutesLeft : Nat → Int32) (q_waiting : Nat → Int32) (q_orders : Nat → Int32) (q_count : Int32) (x1 : Int32) (x2 : Int32) {post : Int32 → (Nat → Int32) → (Nat → Int32) → Prop} (hw : wpX5_minutesFor x1 x2 w_reach w_settled s_lower s_higher s_size s_count q_place q_count post) :
    Met l yX5_minutesFor wsX5_minutesFor rmX5_minutesFor (gPc g sz (List.flatten [kTo g a_to a_pa a_st a_pl t_time t_store t_rate t_force t_cleared t_ploughed t_failed t_complained, kPa g a_pa w_reach w_settled w_table, kSt g a_st s_lower s_higher s_kind s_size s_snow s_saltEnd s_complained s_clearings s_count, kPl g a_pl q_place q_target q_minutesLeft q_waiting q_orders q_count]) [.ref (a_to 0), .int x1, .int x2]) (gQi2 post (fun u1 u2 => gB g (List.flatten [kTo g a_to a_pa a_st a_pl t_time t_store t_rate t_force t_cleared t_ploughed t_failed t_complained, kPa g a_pa w_reach w_settled w_table, kSt g a_st s_lower s_higher s_kind s_size s_snow s_saltEnd s_complained s_clearings s_count, kPl g a_pl q_place q_target q_minutesLeft q_waiting q_orders q_count]) sz (List.flatten [kTo g a_to a_pa a_st a_pl t_time t_store t_rate t_force t_cleared t_ploughed t_failed t_complained, kPa g a_pa u1 u2 w_table, kSt g a_st s_lower s_higher s_kind s_size s_snow s_saltEnd s_complained s_clearings s_count, kPl g a_pl q_place q_target q_minutesLeft q_waiting q_orders q_count])) (va_A (List.flatten [kTo g a_to a_pa a_st a_pl t_time t_store t_rate t_force t_cleared t_ploughed t_failed t_complained, kPa g a_pa w_reach w_settled w_table, kSt g a_st s_lower s_higher s_kind s_size s_snow s_saltEnd s_complained s_clearings s_count, kPl g a_pl q_place q_target q_minutesLeft q_waiting q_orders q_count]) sz)) 0 0 (va_A (List.flatten [kTo g a_to a_pa a_st a_pl t_time t_store t_rate t_force t_cleared t_ploughed t_failed t_complained, kPa g a_pa w_reach w_settled w_table, kSt g a_st s_lower s_higher s_kind s_size s_snow s_saltEnd s_complained s_clearings s_count, kPl g a_pl q_place q_target q_minutesLeft q_waiting q_orders q_count]) sz) := by
  refine gOf (cc := cX5_minutesFor) (maxL := 4) (ret := (some .int)) (by decide) rfl (Nat.le_of_ble_eq_true rfl) ?_
  intro p e s m below meth c ls Q A hQ hx hb hr hml hts hown hlocks hE hA0 hsz hP hD hA hS hl
  have hl : lv_has ls 4 [(0, .ref (a_to 0)), (1, .int x1), (2, .int x2)] := hl
  refine lv_aload_n hx hb dX5_minutesFor_0 rfl (lv_at hl 0 rfl) ?_
  refine va_get (D := g.1) (ci := 9) (v := .ref (a_pl 0)) (C := RX5) (T := TX5) (N := 11) hx hb hts inX5_minutesFor_X5 hown hE.1 hP 0 rfl rfl 2 (by decide) (gW hts 1 (.fieldLink RX5 25 "SnowDispatcher$Town" "ploughs" "LSnowDispatcher$Ploughs;") rfl) (fun _ h9 => h9) rfl dX5_minutesFor_1 ?_
  refine lv_iload_n hx hb dX5_minutesFor_4 rfl (lv_at hl 1 rfl) ?_
  refine gCi0 (gRunV (As := [.int x1]) (rest := []) ⟨hx, hb, hml, hown, hts⟩ (ctX2_has l g a_pl _ q_place q_target q_minutesLeft q_waiting q_orders q_count x1 hw) (cwV 1 hts gX5_minutesFor_X2_has rfl rfl rfl (by decide +kernel) ⟨Nat.le_of_ble_eq_true rfl, Nat.le_of_ble_eq_true rfl⟩) hE (gSub hP [3]) (gDSub hD [3] rfl) 0 6 rfl rfl rfl rfl rfl hl.1 rfl (lv_room (Nat.le_of_ble_eq_true rfl)) dX5_minutesFor_5 ⟨Nat.le_of_ble_eq_true rfl, Nat.le_of_ble_eq_true rfl⟩) hP hD hS hA [3] rfl rfl rfl (fun r1 H locs hw hP hD hS => ?_)
  have hP : va_P g.1 vwCl (List.flatten [kTo g a_to a_pa a_st a_pl t_time t_store t_rate t_force t_cleared t_ploughed t_failed t_complained, kPa g a_pa w_reach w_settled w_table, kSt g a_st s_lower s_higher s_kind s_size s_snow s_saltEnd s_complained s_clearings s_count, kPl g a_pl q_place q_target q_minutesLeft q_waiting q_orders q_count]) H := hP
  have hD : va_D A (List.flatten [kTo g a_to a_pa a_st a_pl t_time t_store t_rate t_force t_cleared t_ploughed t_failed t_complained, kPa g a_pa w_reach w_settled w_table, kSt g a_st s_lower s_higher s_kind s_size s_snow s_saltEnd s_complained s_clearings s_count, kPl g a_pl q_place q_target q_minutesLeft q_waiting q_orders q_count]) := hD
  refine lv_if_eq (tgt := 22) hx hb dX5_minutesFor_8 (by decide) (fun c_8 => ?_) (fun c_8 => ?_)
  · have hw := hw.1 c_8
    refine lv_ldc (v := 1000000) hx hb hown (gW hts 3 (.constant RX5 129 (1000000)) rfl) dX5_minutesFor_22 ?_
    subst hQ
    exact W.iret hx hb hr (gRi2 (c1 := w_reach) (c2 := w_settled) (wf := _) hA0 hsz hw hP hD hS) hS.2.2 dX5_minutesFor_24
  · have hw := hw.2 c_8
    refine lv_aload_n hx hb dX5_minutesFor_11 rfl (lv_at hl 0 rfl) ?_
    refine va_get (D := g.1) (ci := 9) (v := .ref (a_st 0)) (C := RX5) (T := TX5) (N := 11) hx hb hts inX5_minutesFor_X5 hown hE.1 hP 0 rfl rfl 1 (by decide) (gW hts 2 (.fieldLink RX5 18 "SnowDispatcher$Town" "streets" "LSnowDispatcher$Streets;") rfl) (fun _ h9 => h9) rfl dX5_minutesFor_12 ?_
    refine lv_iload_n hx hb dX5_minutesFor_15 rfl (lv_at hl 2 rfl) ?_
    refine gCi0 (gRunV (As := [.int x2]) (rest := []) ⟨hx, hb, hml, hown, hts⟩ (ctX4_has l g a_st _ s_lower s_higher s_kind s_size s_snow s_saltEnd s_complained s_clearings s_count x2 hw) (cwV 1 hts gX5_minutesFor_X4_has rfl rfl rfl (by decide +kernel) ⟨Nat.le_of_ble_eq_true rfl, Nat.le_of_ble_eq_true rfl⟩) hE (gSub hP [2]) (gDSub hD [2] rfl) 0 8 rfl rfl rfl rfl rfl hl.1 rfl (lv_room (Nat.le_of_ble_eq_true rfl)) dX5_minutesFor_16 ⟨Nat.le_of_ble_eq_true rfl, Nat.le_of_ble_eq_true rfl⟩) hP hD hS hA [2] rfl rfl rfl (fun r2 H locs hw hP hD hS => ?_)
    have hP : va_P g.1 vwCl (List.flatten [kTo g a_to a_pa a_st a_pl t_time t_store t_rate t_force t_cleared t_ploughed t_failed t_complained, kPa g a_pa w_reach w_settled w_table, kSt g a_st s_lower s_higher s_kind s_size s_snow s_saltEnd s_complained s_clearings s_count, kPl g a_pl q_place q_target q_minutesLeft q_waiting q_orders q_count]) H := hP
    have hD : va_D A (List.flatten [kTo g a_to a_pa a_st a_pl t_time t_store t_rate t_force t_cleared t_ploughed t_failed t_complained, kPa g a_pa w_reach w_settled w_table, kSt g a_st s_lower s_higher s_kind s_size s_snow s_saltEnd s_complained s_clearings s_count, kPl g a_pl q_place q_target q_minutesLeft q_waiting q_orders q_count]) := hD
    refine lv_if_ne (tgt := 25) hx hb dX5_minutesFor_19 (by decide) (fun c_19 => ?_) (fun c_19 => ?_)
    · have hw := hw.1 c_19
      refine lv_aload_n hx hb dX5_minutesFor_25 rfl (lv_at hl 0 rfl) ?_
      refine va_get (D := g.1) (ci := 9) (v := .ref (a_pa 0)) (C := RX5) (T := TX5) (N := 11) hx hb hts inX5_minutesFor_X5 hown hE.1 hP 0 rfl rfl 0 (by decide) (gW hts 4 (.fieldLink RX5 9 "SnowDispatcher$Town" "paths" "LSnowDispatcher$Paths;") rfl) (fun _ h9 => h9) rfl dX5_minutesFor_26 ?_
      refine lv_aload_n hx hb dX5_minutesFor_29 rfl (lv_at hl 0 rfl) ?_
      refine va_get (D := g.1) (ci := 9) (v := .ref (a_pl 0)) (C := RX5) (T := TX5) (N := 11) hx hb hts inX5_minutesFor_X5 hown hE.1 hP 0 rfl rfl 2 (by decide) (gW hts 1 (.fieldLink RX5 25 "SnowDispatcher$Town" "ploughs" "LSnowDispatcher$Ploughs;") rfl) (fun _ h9 => h9) rfl dX5_minutesFor_30 ?_
      refine va_get (D := g.1) (ci := 6) (v := .ref (a_pl 1)) (C := RX2) (T := TX2) (N := 6) hx hb hts inX5_minutesFor_X2 hown hE.1 hP 14 rfl rfl 0 (by decide) (gW hts 5 (.fieldLink RX5 146 "SnowDispatcher$Ploughs" "place" "[I") rfl) (fun _ h9 => h9) rfl dX5_minutesFor_33 ?_
      refine lv_iload_n hx hb dX5_minutesFor_36 rfl (lv_at hl 1 rfl) ?_
      have h3 := hw.1
      have hw := hw.2
      refine va_iald hx hb hE.1 hP 15 0 rfl rfl h3 dX5_minutesFor_37 ?_
      refine lv_aload_n hx hb dX5_minutesFor_38 rfl (lv_at hl 0 rfl) ?_
      refine va_get (D := g.1) (ci := 9) (v := .ref (a_st 0)) (C := RX5) (T := TX5) (N := 11) hx hb hts inX5_minutesFor_X5 hown hE.1 hP 0 rfl rfl 1 (by decide) (gW hts 2 (.fieldLink RX5 18 "SnowDispatcher$Town" "streets" "LSnowDispatcher$Streets;") rfl) (fun _ h9 => h9) rfl dX5_minutesFor_39 ?_
      refine gCv2 (gRunV (As := [.int (q_place x1.toNatClampNeg), .ref (a_st 0)]) (rest := []) ⟨hx, hb, hml, hown, hts⟩ (ctX1_measureFrom l g a_pa a_st _ w_reach w_settled w_table s_lower s_higher s_kind s_size s_snow s_saltEnd s_complained s_clearings s_count (q_place x1.toNatClampNeg) hw) (cwV 2 hts gX5_minutesFor_X1_measureFrom rfl rfl rfl (by decide +kernel) ⟨Nat.le_of_ble_eq_true rfl, Nat.le_of_ble_eq_true rfl⟩) hE (gSub hP [1, 2]) (gDSub hD [1, 2] rfl) 0 5 rfl rfl rfl rfl rfl hl.1 rfl (lv_room (Nat.le_of_ble_eq_true rfl)) dX5_minutesFor_42 ⟨Nat.le_of_ble_eq_true rfl, Nat.le_of_ble_eq_true rfl⟩) hP hD hS hA [1, 2] rfl (fun _ _ => rfl) rfl (fun w_reach_v4 w_settled_v4 H locs hw hP hD hS => ?_)
      have hP : va_P g.1 vwCl (List.flatten [kTo g a_to a_pa a_st a_pl t_time t_store t_rate t_force t_cleared t_ploughed t_failed t_complained, kPa g a_pa w_reach_v4 w_settled_v4 w_table, kSt g a_st s_lower s_higher s_kind s_size s_snow s_saltEnd s_complained s_clearings s_count, kPl g a_pl q_place q_target q_minutesLeft q_waiting q_orders q_count]) H := hP
      have hD : va_D A (List.flatten [kTo g a_to a_pa a_st a_pl t_time t_store t_rate t_force t_cleared t_ploughed t_failed t_complained, kPa g a_pa w_reach_v4 w_settled_v4 w_table, kSt g a_st s_lower s_higher s_kind s_size s_snow s_saltEnd s_complained s_clearings s_count, kPl g a_pl q_place q_target q_minutesLeft q_waiting q_orders q_count]) := hD
      refine lv_aload_n hx hb dX5_minutesFor_45 rfl (lv_at hl 0 rfl) ?_
      refine va_get (D := g.1) (ci := 9) (v := .ref (a_pa 0)) (C := RX5) (T := TX5) (N := 11) hx hb hts inX5_minutesFor_X5 hown hE.1 hP 0 rfl rfl 0 (by decide) (gW hts 4 (.fieldLink RX5 9 "SnowDispatcher$Town" "paths" "LSnowDispatcher$Paths;") rfl) (fun _ h9 => h9) rfl dX5_minutesFor_46 ?_
      refine lv_aload_n hx hb dX5_minutesFor_49 rfl (lv_at hl 0 rfl) ?_
      refine va_get (D := g.1) (ci := 9) (v := .ref (a_st 0)) (C := RX5) (T := TX5) (N := 11) hx hb hts inX5_minutesFor_X5 hown hE.1 hP 0 rfl rfl 1 (by decide) (gW hts 2 (.fieldLink RX5 18 "SnowDispatcher$Town" "streets" "LSnowDispatcher$Streets;") rfl) (fun _ h9 => h9) rfl dX5_minutesFor_50 ?_
      refine va_get (D := g.1) (ci := 8) (v := .ref (a_st 1)) (C := RX4) (T := TX4) (N := 9) hx hb hts inX5_minutesFor_X4 hown hE.1 hP 5 rfl rfl 0 (by decide) (gW hts 6 (.fieldLink RX5 130 "SnowDispatcher$Streets" "lower" "[I") rfl) (fun _ h9 => h9) rfl dX5_minutesFor_53 ?_
      refine lv_iload_n hx hb dX5_minutesFor_56 rfl (lv_at hl 2 rfl) ?_
      have h5 := hw.1
      have hw := hw.2
      refine va_iald hx hb hE.1 hP 6 0 rfl rfl h5 dX5_minutesFor_57 ?_
      refine gCi0 (gRunV (As := [.int (s_lower x2.toNatClampNeg)]) (rest := []) ⟨hx, hb, hml, hown, hts⟩ (ctX1_reachOf l g a_pa _ w_reach_v4 w_settled_v4 w_table (s_lower x2.toNatClampNeg) hw) (cwV 1 hts gX5_minutesFor_X1_reachOf rfl rfl rfl (by decide +kernel) ⟨Nat.le_of_ble_eq_true rfl, Nat.le_of_ble_eq_true rfl⟩) hE (gSub hP [1]) (gDSub hD [1] rfl) 0 5 rfl rfl rfl rfl rfl hl.1 rfl (lv_room (Nat.le_of_ble_eq_true rfl)) dX5_minutesFor_58 ⟨Nat.le_of_ble_eq_true rfl, Nat.le_of_ble_eq_true rfl⟩) hP hD hS hA [1] rfl rfl rfl (fun r6 H locs hw hP hD hS => ?_)
      have hP : va_P g.1 vwCl (List.flatten [kTo g a_to a_pa a_st a_pl t_time t_store t_rate t_force t_cleared t_ploughed t_failed t_complained, kPa g a_pa w_reach_v4 w_settled_v4 w_table, kSt g a_st s_lower s_higher s_kind s_size s_snow s_saltEnd s_complained s_clearings s_count, kPl g a_pl q_place q_target q_minutesLeft q_waiting q_orders q_count]) H := hP
      have hD : va_D A (List.flatten [kTo g a_to a_pa a_st a_pl t_time t_store t_rate t_force t_cleared t_ploughed t_failed t_complained, kPa g a_pa w_reach_v4 w_settled_v4 w_table, kSt g a_st s_lower s_higher s_kind s_size s_snow s_saltEnd s_complained s_clearings s_count, kPl g a_pl q_place q_target q_minutesLeft q_waiting q_orders q_count]) := hD
      refine lv_aload_n hx hb dX5_minutesFor_61 rfl (lv_at hl 0 rfl) ?_
      refine va_get (D := g.1) (ci := 9) (v := .ref (a_pa 0)) (C := RX5) (T := TX5) (N := 11) hx hb hts inX5_minutesFor_X5 hown hE.1 hP 0 rfl rfl 0 (by decide) (gW hts 4 (.fieldLink RX5 9 "SnowDispatcher$Town" "paths" "LSnowDispatcher$Paths;") rfl) (fun _ h9 => h9) rfl dX5_minutesFor_62 ?_
      refine lv_aload_n hx hb dX5_minutesFor_65 rfl (lv_at hl 0 rfl) ?_
      refine va_get (D := g.1) (ci := 9) (v := .ref (a_st 0)) (C := RX5) (T := TX5) (N := 11) hx hb hts inX5_minutesFor_X5 hown hE.1 hP 0 rfl rfl 1 (by decide) (gW hts 2 (.fieldLink RX5 18 "SnowDispatcher$Town" "streets" "LSnowDispatcher$Streets;") rfl) (fun _ h9 => h9) rfl dX5_minutesFor_66 ?_
      refine va_get (D := g.1) (ci := 8) (v := .ref (a_st 2)) (C := RX4) (T := TX4) (N := 9) hx hb hts inX5_minutesFor_X4 hown hE.1 hP 5 rfl rfl 1 (by decide) (gW hts 7 (.fieldLink RX5 133 "SnowDispatcher$Streets" "higher" "[I") rfl) (fun _ h9 => h9) rfl dX5_minutesFor_69 ?_
      refine lv_iload_n hx hb dX5_minutesFor_72 rfl (lv_at hl 2 rfl) ?_
      have h7 := hw.1
      have hw := hw.2
      refine va_iald hx hb hE.1 hP 7 0 rfl rfl h7 dX5_minutesFor_73 ?_
      refine gCi0 (gRunV (As := [.int (s_higher x2.toNatClampNeg)]) (rest := [.int r6]) ⟨hx, hb, hml, hown, hts⟩ (ctX1_reachOf l g a_pa _ w_reach_v4 w_settled_v4 w_table (s_higher x2.toNatClampNeg) hw) (cwV 1 hts gX5_minutesFor_X1_reachOf rfl rfl rfl (by decide +kernel) ⟨Nat.le_of_ble_eq_true rfl, Nat.le_of_ble_eq_true rfl⟩) hE (gSub hP [1]) (gDSub hD [1] rfl) 0 5 rfl rfl rfl rfl rfl hl.1 rfl (lv_room (Nat.le_of_ble_eq_true rfl)) dX5_minutesFor_74 ⟨Nat.le_of_ble_eq_true rfl, Nat.le_of_ble_eq_true rfl⟩) hP hD hS hA [1] rfl rfl rfl (fun r8 H locs hw hP hD hS => ?_)
      have hP : va_P g.1 vwCl (List.flatten [kTo g a_to a_pa a_st a_pl t_time t_store t_rate t_force t_cleared t_ploughed t_failed t_complained, kPa g a_pa w_reach_v4 w_settled_v4 w_table, kSt g a_st s_lower s_higher s_kind s_size s_snow s_saltEnd s_complained s_clearings s_count, kPl g a_pl q_place q_target q_minutesLeft q_waiting q_orders q_count]) H := hP
      have hD : va_D A (List.flatten [kTo g a_to a_pa a_st a_pl t_time t_store t_rate t_force t_cleared t_ploughed t_failed t_complained, kPa g a_pa w_reach_v4 w_settled_v4 w_table, kSt g a_st s_lower s_higher s_kind s_size s_snow s_saltEnd s_complained s_clearings s_count, kPl g a_pl q_place q_target q_minutesLeft q_waiting q_orders q_count]) := hD
      refine va_mmin hx hb (hml.trans hl.1.symm) hown (gW hts 8 (.methodLink RX5 65 Lib.Math.min.name) rfl) (gW hts 9 (.static Lib.Math.min.name) rfl) (gW hts 10 (.initialized "java/lang/Math") rfl) (gW hts 11 (.code Lib.Math.min.name Lib.Math.min.code 2 (some .int)) rfl) (Nat.le_of_ble_eq_true rfl) (Nat.le_of_ble_eq_true rfl) (Nat.le_of_ble_eq_true rfl) (Nat.le_of_ble_eq_true rfl) dX5_minutesFor_77 ?_
      refine lv_istore_n (lv' := [(3, .int (if r8 < r6 then r8 else r6)), (0, .ref (a_to 0)), (1, .int x1), (2, .int x2)]) hx hb dX5_minutesFor_80 rfl hl (by decide) rfl (fun ls hl => ?_)
      refine lv_iload_n hx hb dX5_minutesFor_81 rfl (lv_at hl 0 rfl) ?_
      refine lv_ldc (v := 1000000) hx hb hown (gW hts 3 (.constant RX5 129 (1000000)) rfl) dX5_minutesFor_82 ?_
      refine lv_icmp_lt (tgt := 90) hx hb dX5_minutesFor_84 (by decide) (fun c_84 => ?_) (fun c_84 => ?_)
      · have hw := hw.1 c_84
        refine lv_iconst (v := 2) hx hb dX5_minutesFor_90 (by decide) ?_
        refine lv_iload_n hx hb dX5_minutesFor_91 rfl (lv_at hl 0 rfl) ?_
        refine lv_imul hx hb dX5_minutesFor_92 ?_
        refine lv_iconst (v := 4) hx hb dX5_minutesFor_93 (by decide) ?_
        refine lv_aload_n hx hb dX5_minutesFor_94 rfl (lv_at hl 1 rfl) ?_
        refine va_get (D := g.1) (ci := 9) (v := .ref (a_st 0)) (C := RX5) (T := TX5) (N := 11) hx hb hts inX5_minutesFor_X5 hown hE.1 hP 0 rfl rfl 1 (by decide) (gW hts 2 (.fieldLink RX5 18 "SnowDispatcher$Town" "streets" "LSnowDispatcher$Streets;") rfl) (fun _ h9 => h9) rfl dX5_minutesFor_95 ?_
        refine va_get (D := g.1) (ci := 8) (v := .ref (a_st 4)) (C := RX4) (T := TX4) (N := 9) hx hb hts inX5_minutesFor_X4 hown hE.1 hP 5 rfl rfl 3 (by decide) (gW hts 12 (.fieldLink RX5 97 "SnowDispatcher$Streets" "size" "[I") rfl) (fun _ h9 => h9) rfl dX5_minutesFor_98 ?_
        refine lv_iload_n hx hb dX5_minutesFor_101 rfl (lv_at hl 3 rfl) ?_
        have h9 := hw.1
        have hw := hw.2
        refine va_iald hx hb hE.1 hP 9 0 rfl rfl h9 dX5_minutesFor_102 ?_
        refine lv_imul hx hb dX5_minutesFor_103 ?_
        refine lv_iadd hx hb dX5_minutesFor_104 ?_
        subst hQ
        exact W.iret hx hb hr (gRi2 (c1 := w_reach_v4) (c2 := w_settled_v4) (wf := _) hA0 hsz hw hP hD hS) hS.2.2 dX5_minutesFor_105
      · have hw := hw.2 c_84
        refine lv_ldc (v := 1000000) hx hb hown (gW hts 3 (.constant RX5 129 (1000000)) rfl) dX5_minutesFor_87 ?_
        subst hQ
        exact W.iret hx hb hr (gRi2 (c1 := w_reach_v4) (c2 := w_settled_v4) (wf := _) hA0 hsz hw hP hD hS) hS.2.2 dX5_minutesFor_89
    · have hw := hw.2 c_19
      refine lv_ldc (v := 1000000) hx hb hown (gW hts 3 (.constant RX5 129 (1000000)) rfl) dX5_minutesFor_22 ?_
      subst hQ
      exact W.iret hx hb hr (gRi2 (c1 := w_reach) (c2 := w_settled) (wf := _) hA0 hsz hw hP hD hS) hS.2.2 dX5_minutesFor_24
abbrev rmX5_beginOrder : Room := { frames := 4, cells := 0, slots := 0, locals := 175 }
set_option maxRecDepth 20000 in
theorem inX5_beginOrder_X1 : ∀ w ∈ wsX10, w ∈ wsX5_beginOrder := by decide +kernel
set_option maxRecDepth 20000 in
theorem inX5_beginOrder_X2 : ∀ w ∈ wsX20, w ∈ wsX5_beginOrder := by decide +kernel
set_option maxRecDepth 20000 in
theorem inX5_beginOrder_X4 : ∀ w ∈ wsX40, w ∈ wsX5_beginOrder := by decide +kernel
set_option maxRecDepth 20000 in
theorem inX5_beginOrder_X5 : ∀ w ∈ wsX50, w ∈ wsX5_beginOrder := by decide +kernel
set_option maxHeartbeats 4000000 in
set_option maxRecDepth 100000 in
theorem ctX5_beginOrder (l : Launch) (g : GG) (a_to : Nat → Nat) (a_pa : Nat → Nat) (a_st : Nat → Nat) (a_pl : Nat → Nat) (sz : Nat) (t_time : Int32) (t_store : Int32) (t_rate : Int32) (t_force : Int32) (t_cleared : Int32) (t_ploughed : Int32) (t_failed : Int32) (t_complained : Int32) (w_reach : Nat → Int32) (w_settled : Nat → Int32) (w_table : Nat → Int32) (s_lower : Nat → Int32) (s_higher : Nat → Int32) (s_kind : Nat → Int32) (s_size : Nat → Int32) (s_snow : Nat → Int32) (s_saltEnd : Nat → Int32) (s_complained : Nat → Int32) (s_clearings : Nat → Int32) (s_count : Int32) (q_place : Nat → Int32) (q_target : Nat → Int32) (q_minutesLeft : Nat → Int32) (q_waiting : Nat → Int32) (q_orders : Nat → Int32) (q_count : Int32) (x1 : Int32) {post : Int32 → (Nat → Int32) → (Nat → Int32) → (Nat → Int32) → (Nat → Int32) → (Nat → Int32) → (Nat → Int32) → (Nat → Int32) → Prop} (hw : wpX5_beginOrder x1 t_failed w_reach w_settled s_lower s_higher s_size s_count q_place q_target q_minutesLeft q_waiting q_orders q_count post) :
    Met l yX5_beginOrder wsX5_beginOrder rmX5_beginOrder (gPc g sz (List.flatten [kTo g a_to a_pa a_st a_pl t_time t_store t_rate t_force t_cleared t_ploughed t_failed t_complained, kPa g a_pa w_reach w_settled w_table, kSt g a_st s_lower s_higher s_kind s_size s_snow s_saltEnd s_complained s_clearings s_count, kPl g a_pl q_place q_target q_minutesLeft q_waiting q_orders q_count]) [.ref (a_to 0), .int x1]) (gQv8 post (fun u1 u2 u3 u4 u5 u6 u7 u8 => gB g (List.flatten [kTo g a_to a_pa a_st a_pl t_time t_store t_rate t_force t_cleared t_ploughed t_failed t_complained, kPa g a_pa w_reach w_settled w_table, kSt g a_st s_lower s_higher s_kind s_size s_snow s_saltEnd s_complained s_clearings s_count, kPl g a_pl q_place q_target q_minutesLeft q_waiting q_orders q_count]) sz (List.flatten [kTo g a_to a_pa a_st a_pl t_time t_store t_rate t_force t_cleared t_ploughed u1 t_complained, kPa g a_pa u2 u3 w_table, kSt g a_st s_lower s_higher s_kind s_size s_snow s_saltEnd s_complained s_clearings s_count, kPl g a_pl u4 u5 u6 u7 u8 q_count])) (va_A (List.flatten [kTo g a_to a_pa a_st a_pl t_time t_store t_rate t_force t_cleared t_ploughed t_failed t_complained, kPa g a_pa w_reach w_settled w_table, kSt g a_st s_lower s_higher s_kind s_size s_snow s_saltEnd s_complained s_clearings s_count, kPl g a_pl q_place q_target q_minutesLeft q_waiting q_orders q_count]) sz)) 0 0 (va_A (List.flatten [kTo g a_to a_pa a_st a_pl t_time t_store t_rate t_force t_cleared t_ploughed t_failed t_complained, kPa g a_pa w_reach w_settled w_table, kSt g a_st s_lower s_higher s_kind s_size s_snow s_saltEnd s_complained s_clearings s_count, kPl g a_pl q_place q_target q_minutesLeft q_waiting q_orders q_count]) sz) := by
  refine gOf (cc := cX5_beginOrder) (maxL := 7) (ret := none) (by decide) rfl (Nat.le_of_ble_eq_true rfl) ?_
  intro p e s m below meth c ls Q A hQ hx hb hr hml hts hown hlocks hE hA0 hsz hP hD hA hS hl
  have hl : lv_has ls 7 [(0, .ref (a_to 0)), (1, .int x1)] := hl
  have J92 : ∀ (z0_92 : Int32) (x2_92 : Int32) (x3_92 : Int32) (x4_92 : Int32) (x5_92 : Int32) (t_failed_92 : Int32) (w_reach_92 : Nat → Int32) (w_settled_92 : Nat → Int32) (q_place_92 : Nat → Int32) (q_target_92 : Nat → Int32) (q_minutesLeft_92 : Nat → Int32) (q_waiting_92 : Nat → Int32) (q_orders_92 : Nat → Int32) (H : Heap) (locs : List Loc) (ls : Array Slot), wpX5_beginOrder_L92 x1 s_lower s_higher s_size s_count q_count post z0_92 x2_92 x3_92 x4_92 x5_92 t_failed_92 w_reach_92 w_settled_92 q_place_92 q_target_92 q_minutesLeft_92 q_waiting_92 q_orders_92 → va_P g.1 vwCl (List.flatten [kTo g a_to a_pa a_st a_pl t_time t_store t_rate t_force t_cleared t_ploughed t_failed_92 t_complained, kPa g a_pa w_reach_92 w_settled_92 w_table, kSt g a_st s_lower s_higher s_kind s_size s_snow s_saltEnd s_complained s_clearings s_count, kPl g a_pl q_place_92 q_target_92 q_minutesLeft_92 q_waiting_92 q_orders_92 q_count]) H → va_D A (List.flatten [kTo g a_to a_pa a_st a_pl t_time t_store t_rate t_force t_cleared t_ploughed t_failed_92 t_complained, kPa g a_pa w_reach_92 w_settled_92 w_table, kSt g a_st s_lower s_higher s_kind s_size s_snow s_saltEnd s_complained s_clearings s_count, kPl g a_pl q_place_92 q_target_92 q_minutesLeft_92 q_waiting_92 q_orders_92 q_count]) → va_S A s.heap H locs → lv_has ls 7 [(0, .ref (a_to 0)), (1, .int x1), (2, .int x2_92), (3, .int x3_92), (4, .int x4_92), (5, .int x5_92)] → W p l e rmX5_beginOrder s m (([.ref (a_to 0), .int x1] : List Value).toArray) below meth c H locs 0 0 Q (F0 m 92 ls [.int z0_92]) := by
    intro z0_92 x2_92 x3_92 x4_92 x5_92 t_failed_92 w_reach_92 w_settled_92 q_place_92 q_target_92 q_minutesLeft_92 q_waiting_92 q_orders_92 H locs ls hw hP hD hS hl
    refine lv_istore (lv' := [(6, .int z0_92), (0, .ref (a_to 0)), (1, .int x1), (2, .int x2_92), (3, .int x3_92), (4, .int x4_92), (5, .int x5_92)]) hx hb dX5_beginOrder_92 hl (by decide) rfl (fun ls hl => ?_)
    refine lv_aload_n hx hb dX5_beginOrder_94 rfl (lv_at hl 1 rfl) ?_
    refine va_get (D := g.1) (ci := 9) (v := .ref (a_pl 0)) (C := RX5) (T := TX5) (N := 11) hx hb hts inX5_beginOrder_X5 hown hE.1 hP 0 rfl rfl 2 (by decide) (gW hts 1 (.fieldLink RX5 25 "SnowDispatcher$Town" "ploughs" "LSnowDispatcher$Ploughs;") rfl) (fun _ h9 => h9) rfl dX5_beginOrder_95 ?_
    refine lv_iload_n hx hb dX5_beginOrder_98 rfl (lv_at hl 2 rfl) ?_
    refine lv_iload_n hx hb dX5_beginOrder_99 rfl (lv_at hl 3 rfl) ?_
    refine lv_iload_n hx hb dX5_beginOrder_100 rfl (lv_at hl 4 rfl) ?_
    refine lv_iload hx hb dX5_beginOrder_101 (lv_at hl 0 rfl) ?_
    refine lv_if_eq (tgt := 111) hx hb dX5_beginOrder_103 (by decide) (fun c_103 => ?_) (fun c_103 => ?_)
    · have hw := hw.1 c_103
      refine lv_iload hx hb dX5_beginOrder_111 (lv_at hl 5 rfl) ?_
      refine gCv3 (gRunV (As := [.int x1, .int x2_92, .int x3_92, .int x4_92]) (rest := []) ⟨hx, hb, hml, hown, hts⟩ (ctX2_begin l g a_pl _ q_place_92 q_target_92 q_minutesLeft_92 q_waiting_92 q_orders_92 q_count x1 x2_92 x3_92 x4_92 hw) (cwV 4 hts gX5_beginOrder_X2_begin rfl rfl rfl (by decide +kernel) ⟨Nat.le_of_ble_eq_true rfl, Nat.le_of_ble_eq_true rfl⟩) hE (gSub hP [3]) (gDSub hD [3] rfl) 0 6 rfl rfl rfl rfl rfl hl.1 rfl (lv_room (Nat.le_of_ble_eq_true rfl)) dX5_beginOrder_113 ⟨Nat.le_of_ble_eq_true rfl, Nat.le_of_ble_eq_true rfl⟩) hP hD hS hA [3] rfl (fun _ _ _ => rfl) rfl (fun q_place_v8 q_target_v8 q_minutesLeft_v8 H locs hw hP hD hS => ?_)
      have hP : va_P g.1 vwCl (List.flatten [kTo g a_to a_pa a_st a_pl t_time t_store t_rate t_force t_cleared t_ploughed t_failed_92 t_complained, kPa g a_pa w_reach_92 w_settled_92 w_table, kSt g a_st s_lower s_higher s_kind s_size s_snow s_saltEnd s_complained s_clearings s_count, kPl g a_pl q_place_v8 q_target_v8 q_minutesLeft_v8 q_waiting_92 q_orders_92 q_count]) H := hP
      have hD : va_D A (List.flatten [kTo g a_to a_pa a_st a_pl t_time t_store t_rate t_force t_cleared t_ploughed t_failed_92 t_complained, kPa g a_pa w_reach_92 w_settled_92 w_table, kSt g a_st s_lower s_higher s_kind s_size s_snow s_saltEnd s_complained s_clearings s_count, kPl g a_pl q_place_v8 q_target_v8 q_minutesLeft_v8 q_waiting_92 q_orders_92 q_count]) := hD
      subst hQ
      exact W.vret hx hb hr (gRv8 (c1 := t_failed_92) (c2 := w_reach_92) (c3 := w_settled_92) (c4 := q_place_v8) (c5 := q_target_v8) (c6 := q_minutesLeft_v8) (c7 := q_waiting_92) (c8 := q_orders_92) (wf := _) hA0 hsz hw hP hD hS) hS.2.2 dX5_beginOrder_116
    · have hw := hw.2 c_103
      refine lv_iload hx hb dX5_beginOrder_106 (lv_at hl 6 rfl) ?_
      refine lv_goto (tgt := 113) hx hb dX5_beginOrder_108 (by decide) ?_
      refine gCv3 (gRunV (As := [.int x1, .int x2_92, .int x3_92, .int x5_92]) (rest := []) ⟨hx, hb, hml, hown, hts⟩ (ctX2_begin l g a_pl _ q_place_92 q_target_92 q_minutesLeft_92 q_waiting_92 q_orders_92 q_count x1 x2_92 x3_92 x5_92 hw) (cwV 4 hts gX5_beginOrder_X2_begin rfl rfl rfl (by decide +kernel) ⟨Nat.le_of_ble_eq_true rfl, Nat.le_of_ble_eq_true rfl⟩) hE (gSub hP [3]) (gDSub hD [3] rfl) 0 6 rfl rfl rfl rfl rfl hl.1 rfl (lv_room (Nat.le_of_ble_eq_true rfl)) dX5_beginOrder_113 ⟨Nat.le_of_ble_eq_true rfl, Nat.le_of_ble_eq_true rfl⟩) hP hD hS hA [3] rfl (fun _ _ _ => rfl) rfl (fun q_place_v9 q_target_v9 q_minutesLeft_v9 H locs hw hP hD hS => ?_)
      have hP : va_P g.1 vwCl (List.flatten [kTo g a_to a_pa a_st a_pl t_time t_store t_rate t_force t_cleared t_ploughed t_failed_92 t_complained, kPa g a_pa w_reach_92 w_settled_92 w_table, kSt g a_st s_lower s_higher s_kind s_size s_snow s_saltEnd s_complained s_clearings s_count, kPl g a_pl q_place_v9 q_target_v9 q_minutesLeft_v9 q_waiting_92 q_orders_92 q_count]) H := hP
      have hD : va_D A (List.flatten [kTo g a_to a_pa a_st a_pl t_time t_store t_rate t_force t_cleared t_ploughed t_failed_92 t_complained, kPa g a_pa w_reach_92 w_settled_92 w_table, kSt g a_st s_lower s_higher s_kind s_size s_snow s_saltEnd s_complained s_clearings s_count, kPl g a_pl q_place_v9 q_target_v9 q_minutesLeft_v9 q_waiting_92 q_orders_92 q_count]) := hD
      subst hQ
      exact W.vret hx hb hr (gRv8 (c1 := t_failed_92) (c2 := w_reach_92) (c3 := w_settled_92) (c4 := q_place_v9) (c5 := q_target_v9) (c6 := q_minutesLeft_v9) (c7 := q_waiting_92) (c8 := q_orders_92) (wf := _) hA0 hsz hw hP hD hS) hS.2.2 dX5_beginOrder_116
  refine lv_aload_n hx hb dX5_beginOrder_0 rfl (lv_at hl 0 rfl) ?_
  refine va_get (D := g.1) (ci := 9) (v := .ref (a_pl 0)) (C := RX5) (T := TX5) (N := 11) hx hb hts inX5_beginOrder_X5 hown hE.1 hP 0 rfl rfl 2 (by decide) (gW hts 1 (.fieldLink RX5 25 "SnowDispatcher$Town" "ploughs" "LSnowDispatcher$Ploughs;") rfl) (fun _ h9 => h9) rfl dX5_beginOrder_1 ?_
  refine lv_iload_n hx hb dX5_beginOrder_4 rfl (lv_at hl 1 rfl) ?_
  refine gCi2 (gRunV (As := [.int x1]) (rest := []) ⟨hx, hb, hml, hown, hts⟩ (ctX2_removeFirst l g a_pl _ q_place q_target q_minutesLeft q_waiting q_orders q_count x1 hw) (cwV 1 hts gX5_beginOrder_X2_removeFirst rfl rfl rfl (by decide +kernel) ⟨Nat.le_of_ble_eq_true rfl, Nat.le_of_ble_eq_true rfl⟩) hE (gSub hP [3]) (gDSub hD [3] rfl) 0 6 rfl rfl rfl rfl rfl hl.1 rfl (lv_room (Nat.le_of_ble_eq_true rfl)) dX5_beginOrder_5 ⟨Nat.le_of_ble_eq_true rfl, Nat.le_of_ble_eq_true rfl⟩) hP hD hS hA [3] rfl (fun _ _ => rfl) rfl (fun r1 q_waiting_v1 q_orders_v1 H locs hw hP hD hS => ?_)
  have hP : va_P g.1 vwCl (List.flatten [kTo g a_to a_pa a_st a_pl t_time t_store t_rate t_force t_cleared t_ploughed t_failed t_complained, kPa g a_pa w_reach w_settled w_table, kSt g a_st s_lower s_higher s_kind s_size s_snow s_saltEnd s_complained s_clearings s_count, kPl g a_pl q_place q_target q_minutesLeft q_waiting_v1 q_orders_v1 q_count]) H := hP
  have hD : va_D A (List.flatten [kTo g a_to a_pa a_st a_pl t_time t_store t_rate t_force t_cleared t_ploughed t_failed t_complained, kPa g a_pa w_reach w_settled w_table, kSt g a_st s_lower s_higher s_kind s_size s_snow s_saltEnd s_complained s_clearings s_count, kPl g a_pl q_place q_target q_minutesLeft q_waiting_v1 q_orders_v1 q_count]) := hD
  refine lv_istore_n (lv' := [(2, .int r1), (0, .ref (a_to 0)), (1, .int x1)]) hx hb dX5_beginOrder_8 rfl hl (by decide) rfl (fun ls hl => ?_)
  refine lv_aload_n hx hb dX5_beginOrder_9 rfl (lv_at hl 1 rfl) ?_
  refine lv_iload_n hx hb dX5_beginOrder_10 rfl (lv_at hl 2 rfl) ?_
  refine lv_iload_n hx hb dX5_beginOrder_11 rfl (lv_at hl 0 rfl) ?_
  refine gCi2 (gRunV (As := [.int x1, .int r1]) (rest := []) ⟨hx, hb, hml, hown, hts⟩ (ctX5_minutesFor l g a_to a_pa a_st a_pl _ t_time t_store t_rate t_force t_cleared t_ploughed t_failed t_complained w_reach w_settled w_table s_lower s_higher s_kind s_size s_snow s_saltEnd s_complained s_clearings s_count q_place q_target q_minutesLeft q_waiting_v1 q_orders_v1 q_count x1 r1 hw) (cwV 2 hts gX5_beginOrder_X5_minutesFor rfl rfl rfl (by decide +kernel) ⟨Nat.le_of_ble_eq_true rfl, Nat.le_of_ble_eq_true rfl⟩) hE (gSub hP [0, 1, 2, 3]) (gDSub hD [0, 1, 2, 3] rfl) 0 9 rfl rfl rfl rfl rfl hl.1 rfl (lv_room (Nat.le_of_ble_eq_true rfl)) dX5_beginOrder_12 ⟨Nat.le_of_ble_eq_true rfl, Nat.le_of_ble_eq_true rfl⟩) hP hD hS hA [0, 1, 2, 3] rfl (fun _ _ => rfl) rfl (fun r2 w_reach_v2 w_settled_v2 H locs hw hP hD hS => ?_)
  have hP : va_P g.1 vwCl (List.flatten [kTo g a_to a_pa a_st a_pl t_time t_store t_rate t_force t_cleared t_ploughed t_failed t_complained, kPa g a_pa w_reach_v2 w_settled_v2 w_table, kSt g a_st s_lower s_higher s_kind s_size s_snow s_saltEnd s_complained s_clearings s_count, kPl g a_pl q_place q_target q_minutesLeft q_waiting_v1 q_orders_v1 q_count]) H := hP
  have hD : va_D A (List.flatten [kTo g a_to a_pa a_st a_pl t_time t_store t_rate t_force t_cleared t_ploughed t_failed t_complained, kPa g a_pa w_reach_v2 w_settled_v2 w_table, kSt g a_st s_lower s_higher s_kind s_size s_snow s_saltEnd s_complained s_clearings s_count, kPl g a_pl q_place q_target q_minutesLeft q_waiting_v1 q_orders_v1 q_count]) := hD
  refine lv_istore_n (lv' := [(3, .int r2), (2, .int r1), (0, .ref (a_to 0)), (1, .int x1)]) hx hb dX5_beginOrder_15 rfl hl (by decide) rfl (fun ls hl => ?_)
  refine lv_iload_n hx hb dX5_beginOrder_16 rfl (lv_at hl 0 rfl) ?_
  refine lv_ldc (v := 1000000) hx hb hown (gW hts 2 (.constant RX5 129 (1000000)) rfl) dX5_beginOrder_17 ?_
  refine lv_icmp_ge (tgt := 33) hx hb dX5_beginOrder_19 (by decide) (fun c_19 => ?_) (fun c_19 => ?_)
  · have hw := hw.1 c_19
    refine lv_aload_n hx hb dX5_beginOrder_33 rfl (lv_at hl 2 rfl) ?_
    refine lv_dup hx hb dX5_beginOrder_34 rfl ?_
    refine va_get (D := g.1) (ci := 9) (v := .int t_failed) (C := RX5) (T := TX5) (N := 11) hx hb hts inX5_beginOrder_X5 hown hE.1 hP 0 rfl rfl 9 (by decide) (gW hts 4 (.fieldLink RX5 55 "SnowDispatcher$Town" "failed" "I") rfl) (fun _ h9 => h9) rfl dX5_beginOrder_35 ?_
    refine lv_iconst (v := 1) hx hb dX5_beginOrder_38 (by decide) ?_
    refine lv_iadd hx hb dX5_beginOrder_39 ?_
    refine va_put (D := g.1) (ci := 9) (v := .int (t_failed + 1)) (ty := .int) (C := RX5) (T := TX5) (N := 11) hx hb hts inX5_beginOrder_X5 tyX5 tyX5_ok nmX5 hown hE.1 hP hD hS 0 rfl rfl 9 (by decide) (gW hts 4 (.fieldLink RX5 55 "SnowDispatcher$Town" "failed" "I") rfl) (fun _ h9 => h9) rfl (by decide +kernel) rfl rfl (Nat.le_of_ble_eq_true rfl) dX5_beginOrder_40 (fun H locs hP hD hS => ?_)
    have hP : va_P g.1 vwCl (List.flatten [kTo g a_to a_pa a_st a_pl t_time t_store t_rate t_force t_cleared t_ploughed (t_failed + 1) t_complained, kPa g a_pa w_reach_v2 w_settled_v2 w_table, kSt g a_st s_lower s_higher s_kind s_size s_snow s_saltEnd s_complained s_clearings s_count, kPl g a_pl q_place q_target q_minutesLeft q_waiting_v1 q_orders_v1 q_count]) H := hP
    have hD : va_D A (List.flatten [kTo g a_to a_pa a_st a_pl t_time t_store t_rate t_force t_cleared t_ploughed (t_failed + 1) t_complained, kPa g a_pa w_reach_v2 w_settled_v2 w_table, kSt g a_st s_lower s_higher s_kind s_size s_snow s_saltEnd s_complained s_clearings s_count, kPl g a_pl q_place q_target q_minutesLeft q_waiting_v1 q_orders_v1 q_count]) := hD
    subst hQ
    exact W.vret hx hb hr (gRv8 (c1 := (t_failed + 1)) (c2 := w_reach_v2) (c3 := w_settled_v2) (c4 := q_place) (c5 := q_target) (c6 := q_minutesLeft) (c7 := q_waiting_v1) (c8 := q_orders_v1) (wf := _) hA0 hsz hw hP hD hS) hS.2.2 dX5_beginOrder_43
  · have hw := hw.2 c_19
    refine lv_aload_n hx hb dX5_beginOrder_22 rfl (lv_at hl 2 rfl) ?_
    refine va_get (D := g.1) (ci := 9) (v := .ref (a_st 0)) (C := RX5) (T := TX5) (N := 11) hx hb hts inX5_beginOrder_X5 hown hE.1 hP 0 rfl rfl 1 (by decide) (gW hts 3 (.fieldLink RX5 18 "SnowDispatcher$Town" "streets" "LSnowDispatcher$Streets;") rfl) (fun _ h9 => h9) rfl dX5_beginOrder_23 ?_
    refine lv_iload_n hx hb dX5_beginOrder_26 rfl (lv_at hl 1 rfl) ?_
    refine gCi0 (gRunV (As := [.int r1]) (rest := []) ⟨hx, hb, hml, hown, hts⟩ (ctX4_has l g a_st _ s_lower s_higher s_kind s_size s_snow s_saltEnd s_complained s_clearings s_count r1 hw) (cwV 1 hts gX5_beginOrder_X4_has rfl rfl rfl (by decide +kernel) ⟨Nat.le_of_ble_eq_true rfl, Nat.le_of_ble_eq_true rfl⟩) hE (gSub hP [2]) (gDSub hD [2] rfl) 0 8 rfl rfl rfl rfl rfl hl.1 rfl (lv_room (Nat.le_of_ble_eq_true rfl)) dX5_beginOrder_27 ⟨Nat.le_of_ble_eq_true rfl, Nat.le_of_ble_eq_true rfl⟩) hP hD hS hA [2] rfl rfl rfl (fun r3 H locs hw hP hD hS => ?_)
    have hP : va_P g.1 vwCl (List.flatten [kTo g a_to a_pa a_st a_pl t_time t_store t_rate t_force t_cleared t_ploughed t_failed t_complained, kPa g a_pa w_reach_v2 w_settled_v2 w_table, kSt g a_st s_lower s_higher s_kind s_size s_snow s_saltEnd s_complained s_clearings s_count, kPl g a_pl q_place q_target q_minutesLeft q_waiting_v1 q_orders_v1 q_count]) H := hP
    have hD : va_D A (List.flatten [kTo g a_to a_pa a_st a_pl t_time t_store t_rate t_force t_cleared t_ploughed t_failed t_complained, kPa g a_pa w_reach_v2 w_settled_v2 w_table, kSt g a_st s_lower s_higher s_kind s_size s_snow s_saltEnd s_complained s_clearings s_count, kPl g a_pl q_place q_target q_minutesLeft q_waiting_v1 q_orders_v1 q_count]) := hD
    refine lv_if_ne (tgt := 44) hx hb dX5_beginOrder_30 (by decide) (fun c_30 => ?_) (fun c_30 => ?_)
    · have hw := hw.1 c_30
      refine lv_aload_n hx hb dX5_beginOrder_44 rfl (lv_at hl 2 rfl) ?_
      refine va_get (D := g.1) (ci := 9) (v := .ref (a_st 0)) (C := RX5) (T := TX5) (N := 11) hx hb hts inX5_beginOrder_X5 hown hE.1 hP 0 rfl rfl 1 (by decide) (gW hts 3 (.fieldLink RX5 18 "SnowDispatcher$Town" "streets" "LSnowDispatcher$Streets;") rfl) (fun _ h9 => h9) rfl dX5_beginOrder_45 ?_
      refine va_get (D := g.1) (ci := 8) (v := .ref (a_st 1)) (C := RX4) (T := TX4) (N := 9) hx hb hts inX5_beginOrder_X4 hown hE.1 hP 5 rfl rfl 0 (by decide) (gW hts 5 (.fieldLink RX5 130 "SnowDispatcher$Streets" "lower" "[I") rfl) (fun _ h9 => h9) rfl dX5_beginOrder_48 ?_
      refine lv_iload_n hx hb dX5_beginOrder_51 rfl (lv_at hl 1 rfl) ?_
      have h4 := hw.1
      have hw := hw.2
      refine va_iald hx hb hE.1 hP 6 0 rfl rfl h4 dX5_beginOrder_52 ?_
      refine lv_istore (lv' := [(4, .int (s_lower r1.toNatClampNeg)), (3, .int r2), (2, .int r1), (0, .ref (a_to 0)), (1, .int x1)]) hx hb dX5_beginOrder_53 hl (by decide) rfl (fun ls hl => ?_)
      refine lv_aload_n hx hb dX5_beginOrder_55 rfl (lv_at hl 3 rfl) ?_
      refine va_get (D := g.1) (ci := 9) (v := .ref (a_st 0)) (C := RX5) (T := TX5) (N := 11) hx hb hts inX5_beginOrder_X5 hown hE.1 hP 0 rfl rfl 1 (by decide) (gW hts 3 (.fieldLink RX5 18 "SnowDispatcher$Town" "streets" "LSnowDispatcher$Streets;") rfl) (fun _ h9 => h9) rfl dX5_beginOrder_56 ?_
      refine va_get (D := g.1) (ci := 8) (v := .ref (a_st 2)) (C := RX4) (T := TX4) (N := 9) hx hb hts inX5_beginOrder_X4 hown hE.1 hP 5 rfl rfl 1 (by decide) (gW hts 6 (.fieldLink RX5 133 "SnowDispatcher$Streets" "higher" "[I") rfl) (fun _ h9 => h9) rfl dX5_beginOrder_59 ?_
      refine lv_iload_n hx hb dX5_beginOrder_62 rfl (lv_at hl 2 rfl) ?_
      have h5 := hw.1
      have hw := hw.2
      refine va_iald hx hb hE.1 hP 7 0 rfl rfl h5 dX5_beginOrder_63 ?_
      refine lv_istore (lv' := [(5, .int (s_higher r1.toNatClampNeg)), (4, .int (s_lower r1.toNatClampNeg)), (3, .int r2), (2, .int r1), (0, .ref (a_to 0)), (1, .int x1)]) hx hb dX5_beginOrder_64 hl (by decide) rfl (fun ls hl => ?_)
      refine lv_aload_n hx hb dX5_beginOrder_66 rfl (lv_at hl 4 rfl) ?_
      refine va_get (D := g.1) (ci := 9) (v := .ref (a_pa 0)) (C := RX5) (T := TX5) (N := 11) hx hb hts inX5_beginOrder_X5 hown hE.1 hP 0 rfl rfl 0 (by decide) (gW hts 7 (.fieldLink RX5 9 "SnowDispatcher$Town" "paths" "LSnowDispatcher$Paths;") rfl) (fun _ h9 => h9) rfl dX5_beginOrder_67 ?_
      refine lv_iload hx hb dX5_beginOrder_70 (lv_at hl 1 rfl) ?_
      refine gCi0 (gRunV (As := [.int (s_lower r1.toNatClampNeg)]) (rest := []) ⟨hx, hb, hml, hown, hts⟩ (ctX1_reachOf l g a_pa _ w_reach_v2 w_settled_v2 w_table (s_lower r1.toNatClampNeg) hw) (cwV 1 hts gX5_beginOrder_X1_reachOf rfl rfl rfl (by decide +kernel) ⟨Nat.le_of_ble_eq_true rfl, Nat.le_of_ble_eq_true rfl⟩) hE (gSub hP [1]) (gDSub hD [1] rfl) 0 5 rfl rfl rfl rfl rfl hl.1 rfl (lv_room (Nat.le_of_ble_eq_true rfl)) dX5_beginOrder_72 ⟨Nat.le_of_ble_eq_true rfl, Nat.le_of_ble_eq_true rfl⟩) hP hD hS hA [1] rfl rfl rfl (fun r6 H locs hw hP hD hS => ?_)
      have hP : va_P g.1 vwCl (List.flatten [kTo g a_to a_pa a_st a_pl t_time t_store t_rate t_force t_cleared t_ploughed t_failed t_complained, kPa g a_pa w_reach_v2 w_settled_v2 w_table, kSt g a_st s_lower s_higher s_kind s_size s_snow s_saltEnd s_complained s_clearings s_count, kPl g a_pl q_place q_target q_minutesLeft q_waiting_v1 q_orders_v1 q_count]) H := hP
      have hD : va_D A (List.flatten [kTo g a_to a_pa a_st a_pl t_time t_store t_rate t_force t_cleared t_ploughed t_failed t_complained, kPa g a_pa w_reach_v2 w_settled_v2 w_table, kSt g a_st s_lower s_higher s_kind s_size s_snow s_saltEnd s_complained s_clearings s_count, kPl g a_pl q_place q_target q_minutesLeft q_waiting_v1 q_orders_v1 q_count]) := hD
      refine lv_aload_n hx hb dX5_beginOrder_75 rfl (lv_at hl 4 rfl) ?_
      refine va_get (D := g.1) (ci := 9) (v := .ref (a_pa 0)) (C := RX5) (T := TX5) (N := 11) hx hb hts inX5_beginOrder_X5 hown hE.1 hP 0 rfl rfl 0 (by decide) (gW hts 7 (.fieldLink RX5 9 "SnowDispatcher$Town" "paths" "LSnowDispatcher$Paths;") rfl) (fun _ h9 => h9) rfl dX5_beginOrder_76 ?_
      refine lv_iload hx hb dX5_beginOrder_79 (lv_at hl 0 rfl) ?_
      refine gCi0 (gRunV (As := [.int (s_higher r1.toNatClampNeg)]) (rest := [.int r6]) ⟨hx, hb, hml, hown, hts⟩ (ctX1_reachOf l g a_pa _ w_reach_v2 w_settled_v2 w_table (s_higher r1.toNatClampNeg) hw) (cwV 1 hts gX5_beginOrder_X1_reachOf rfl rfl rfl (by decide +kernel) ⟨Nat.le_of_ble_eq_true rfl, Nat.le_of_ble_eq_true rfl⟩) hE (gSub hP [1]) (gDSub hD [1] rfl) 0 5 rfl rfl rfl rfl rfl hl.1 rfl (lv_room (Nat.le_of_ble_eq_true rfl)) dX5_beginOrder_81 ⟨Nat.le_of_ble_eq_true rfl, Nat.le_of_ble_eq_true rfl⟩) hP hD hS hA [1] rfl rfl rfl (fun r7 H locs hw hP hD hS => ?_)
      have hP : va_P g.1 vwCl (List.flatten [kTo g a_to a_pa a_st a_pl t_time t_store t_rate t_force t_cleared t_ploughed t_failed t_complained, kPa g a_pa w_reach_v2 w_settled_v2 w_table, kSt g a_st s_lower s_higher s_kind s_size s_snow s_saltEnd s_complained s_clearings s_count, kPl g a_pl q_place q_target q_minutesLeft q_waiting_v1 q_orders_v1 q_count]) H := hP
      have hD : va_D A (List.flatten [kTo g a_to a_pa a_st a_pl t_time t_store t_rate t_force t_cleared t_ploughed t_failed t_complained, kPa g a_pa w_reach_v2 w_settled_v2 w_table, kSt g a_st s_lower s_higher s_kind s_size s_snow s_saltEnd s_complained s_clearings s_count, kPl g a_pl q_place q_target q_minutesLeft q_waiting_v1 q_orders_v1 q_count]) := hD
      refine lv_icmp_gt (tgt := 91) hx hb dX5_beginOrder_84 (by decide) (fun c_84 => ?_) (fun c_84 => ?_)
      · have hw := hw.1 c_84
        refine lv_iconst (v := 0) hx hb dX5_beginOrder_91 (by decide) ?_
        exact J92 0 r1 r2 (s_lower r1.toNatClampNeg) (s_higher r1.toNatClampNeg) t_failed w_reach_v2 w_settled_v2 q_place q_target q_minutesLeft q_waiting_v1 q_orders_v1 _ _ _ hw hP hD hS (lv_sub hl [4, 5, 3, 2, 1, 0] rfl)
      · have hw := hw.2 c_84
        refine lv_iconst (v := 1) hx hb dX5_beginOrder_87 (by decide) ?_
        refine lv_goto (tgt := 92) hx hb dX5_beginOrder_88 (by decide) ?_
        exact J92 1 r1 r2 (s_lower r1.toNatClampNeg) (s_higher r1.toNatClampNeg) t_failed w_reach_v2 w_settled_v2 q_place q_target q_minutesLeft q_waiting_v1 q_orders_v1 _ _ _ hw hP hD hS (lv_sub hl [4, 5, 3, 2, 1, 0] rfl)
    · have hw := hw.2 c_30
      refine lv_aload_n hx hb dX5_beginOrder_33 rfl (lv_at hl 2 rfl) ?_
      refine lv_dup hx hb dX5_beginOrder_34 rfl ?_
      refine va_get (D := g.1) (ci := 9) (v := .int t_failed) (C := RX5) (T := TX5) (N := 11) hx hb hts inX5_beginOrder_X5 hown hE.1 hP 0 rfl rfl 9 (by decide) (gW hts 4 (.fieldLink RX5 55 "SnowDispatcher$Town" "failed" "I") rfl) (fun _ h9 => h9) rfl dX5_beginOrder_35 ?_
      refine lv_iconst (v := 1) hx hb dX5_beginOrder_38 (by decide) ?_
      refine lv_iadd hx hb dX5_beginOrder_39 ?_
      refine va_put (D := g.1) (ci := 9) (v := .int (t_failed + 1)) (ty := .int) (C := RX5) (T := TX5) (N := 11) hx hb hts inX5_beginOrder_X5 tyX5 tyX5_ok nmX5 hown hE.1 hP hD hS 0 rfl rfl 9 (by decide) (gW hts 4 (.fieldLink RX5 55 "SnowDispatcher$Town" "failed" "I") rfl) (fun _ h9 => h9) rfl (by decide +kernel) rfl rfl (Nat.le_of_ble_eq_true rfl) dX5_beginOrder_40 (fun H locs hP hD hS => ?_)
      have hP : va_P g.1 vwCl (List.flatten [kTo g a_to a_pa a_st a_pl t_time t_store t_rate t_force t_cleared t_ploughed (t_failed + 1) t_complained, kPa g a_pa w_reach_v2 w_settled_v2 w_table, kSt g a_st s_lower s_higher s_kind s_size s_snow s_saltEnd s_complained s_clearings s_count, kPl g a_pl q_place q_target q_minutesLeft q_waiting_v1 q_orders_v1 q_count]) H := hP
      have hD : va_D A (List.flatten [kTo g a_to a_pa a_st a_pl t_time t_store t_rate t_force t_cleared t_ploughed (t_failed + 1) t_complained, kPa g a_pa w_reach_v2 w_settled_v2 w_table, kSt g a_st s_lower s_higher s_kind s_size s_snow s_saltEnd s_complained s_clearings s_count, kPl g a_pl q_place q_target q_minutesLeft q_waiting_v1 q_orders_v1 q_count]) := hD
      subst hQ
      exact W.vret hx hb hr (gRv8 (c1 := (t_failed + 1)) (c2 := w_reach_v2) (c3 := w_settled_v2) (c4 := q_place) (c5 := q_target) (c6 := q_minutesLeft) (c7 := q_waiting_v1) (c8 := q_orders_v1) (wf := _) hA0 hsz hw hP hD hS) hS.2.2 dX5_beginOrder_43
abbrev rmX5_clearStreet : Room := { frames := 2, cells := 0, slots := 0, locals := 122 }
set_option maxRecDepth 20000 in
theorem inX5_clearStreet_X4 : ∀ w ∈ wsX40, w ∈ wsX5_clearStreet := by decide +kernel
set_option maxRecDepth 20000 in
theorem inX5_clearStreet_X5 : ∀ w ∈ wsX50, w ∈ wsX5_clearStreet := by decide +kernel
set_option maxHeartbeats 4000000 in
set_option maxRecDepth 100000 in
theorem ctX5_clearStreet (l : Launch) (g : GG) (a_to : Nat → Nat) (a_pa : Nat → Nat) (a_st : Nat → Nat) (a_pl : Nat → Nat) (sz : Nat) (t_time : Int32) (t_store : Int32) (t_rate : Int32) (t_force : Int32) (t_cleared : Int32) (t_ploughed : Int32) (t_failed : Int32) (t_complained : Int32) (s_lower : Nat → Int32) (s_higher : Nat → Int32) (s_kind : Nat → Int32) (s_size : Nat → Int32) (s_snow : Nat → Int32) (s_saltEnd : Nat → Int32) (s_complained : Nat → Int32) (s_clearings : Nat → Int32) (s_count : Int32) (x1 : Int32) {post : Int32 → Int32 → (Nat → Int32) → (Nat → Int32) → Prop} (hw : wpX5_clearStreet x1 t_cleared t_ploughed s_snow s_clearings s_count post) :
    Met l yX5_clearStreet wsX5_clearStreet rmX5_clearStreet (gPc g sz (List.flatten [kTo g a_to a_pa a_st a_pl t_time t_store t_rate t_force t_cleared t_ploughed t_failed t_complained, kSt g a_st s_lower s_higher s_kind s_size s_snow s_saltEnd s_complained s_clearings s_count]) [.ref (a_to 0), .int x1]) (gQv4 post (fun u1 u2 u3 u4 => gB g (List.flatten [kTo g a_to a_pa a_st a_pl t_time t_store t_rate t_force t_cleared t_ploughed t_failed t_complained, kSt g a_st s_lower s_higher s_kind s_size s_snow s_saltEnd s_complained s_clearings s_count]) sz (List.flatten [kTo g a_to a_pa a_st a_pl t_time t_store t_rate t_force u1 u2 t_failed t_complained, kSt g a_st s_lower s_higher s_kind s_size u3 s_saltEnd s_complained u4 s_count])) (va_A (List.flatten [kTo g a_to a_pa a_st a_pl t_time t_store t_rate t_force t_cleared t_ploughed t_failed t_complained, kSt g a_st s_lower s_higher s_kind s_size s_snow s_saltEnd s_complained s_clearings s_count]) sz)) 0 0 (va_A (List.flatten [kTo g a_to a_pa a_st a_pl t_time t_store t_rate t_force t_cleared t_ploughed t_failed t_complained, kSt g a_st s_lower s_higher s_kind s_size s_snow s_saltEnd s_complained s_clearings s_count]) sz) := by
  refine gOf (cc := cX5_clearStreet) (maxL := 2) (ret := none) (by decide) rfl (Nat.le_of_ble_eq_true rfl) ?_
  intro p e s m below meth c ls Q A hQ hx hb hr hml hts hown hlocks hE hA0 hsz hP hD hA hS hl
  have hl : lv_has ls 2 [(0, .ref (a_to 0)), (1, .int x1)] := hl
  refine lv_aload_n hx hb dX5_clearStreet_0 rfl (lv_at hl 0 rfl) ?_
  refine va_get (D := g.1) (ci := 9) (v := .ref (a_st 0)) (C := RX5) (T := TX5) (N := 11) hx hb hts inX5_clearStreet_X5 hown hE.1 hP 0 rfl rfl 1 (by decide) (gW hts 1 (.fieldLink RX5 18 "SnowDispatcher$Town" "streets" "LSnowDispatcher$Streets;") rfl) (fun _ h9 => h9) rfl dX5_clearStreet_1 ?_
  refine lv_iload_n hx hb dX5_clearStreet_4 rfl (lv_at hl 1 rfl) ?_
  refine gCi0 (gRunV (As := [.int x1]) (rest := []) ⟨hx, hb, hml, hown, hts⟩ (ctX4_has l g a_st _ s_lower s_higher s_kind s_size s_snow s_saltEnd s_complained s_clearings s_count x1 hw) (cwV 1 hts gX5_clearStreet_X4_has rfl rfl rfl (by decide +kernel) ⟨Nat.le_of_ble_eq_true rfl, Nat.le_of_ble_eq_true rfl⟩) hE (gSub hP [1]) (gDSub hD [1] rfl) 0 8 rfl rfl rfl rfl rfl hl.1 rfl (lv_room (Nat.le_of_ble_eq_true rfl)) dX5_clearStreet_5 ⟨Nat.le_of_ble_eq_true rfl, Nat.le_of_ble_eq_true rfl⟩) hP hD hS hA [1] rfl rfl rfl (fun r1 H locs hw hP hD hS => ?_)
  have hP : va_P g.1 vwCl (List.flatten [kTo g a_to a_pa a_st a_pl t_time t_store t_rate t_force t_cleared t_ploughed t_failed t_complained, kSt g a_st s_lower s_higher s_kind s_size s_snow s_saltEnd s_complained s_clearings s_count]) H := hP
  have hD : va_D A (List.flatten [kTo g a_to a_pa a_st a_pl t_time t_store t_rate t_force t_cleared t_ploughed t_failed t_complained, kSt g a_st s_lower s_higher s_kind s_size s_snow s_saltEnd s_complained s_clearings s_count]) := hD
  refine lv_if_eq (tgt := 62) hx hb dX5_clearStreet_8 (by decide) (fun c_8 => ?_) (fun c_8 => ?_)
  · have hw := hw.1 c_8
    subst hQ
    exact W.vret hx hb hr (gRv4 (c1 := t_cleared) (c2 := t_ploughed) (c3 := s_snow) (c4 := s_clearings) (wf := _) hA0 hsz hw hP hD hS) hS.2.2 dX5_clearStreet_62
  · have hw := hw.2 c_8
    refine lv_aload_n hx hb dX5_clearStreet_11 rfl (lv_at hl 0 rfl) ?_
    refine lv_dup hx hb dX5_clearStreet_12 rfl ?_
    refine va_get (D := g.1) (ci := 9) (v := .int t_ploughed) (C := RX5) (T := TX5) (N := 11) hx hb hts inX5_clearStreet_X5 hown hE.1 hP 0 rfl rfl 8 (by decide) (gW hts 2 (.fieldLink RX5 52 "SnowDispatcher$Town" "ploughed" "I") rfl) (fun _ h9 => h9) rfl dX5_clearStreet_13 ?_
    refine lv_aload_n hx hb dX5_clearStreet_16 rfl (lv_at hl 0 rfl) ?_
    refine va_get (D := g.1) (ci := 9) (v := .ref (a_st 0)) (C := RX5) (T := TX5) (N := 11) hx hb hts inX5_clearStreet_X5 hown hE.1 hP 0 rfl rfl 1 (by decide) (gW hts 1 (.fieldLink RX5 18 "SnowDispatcher$Town" "streets" "LSnowDispatcher$Streets;") rfl) (fun _ h9 => h9) rfl dX5_clearStreet_17 ?_
    refine va_get (D := g.1) (ci := 8) (v := .ref (a_st 5)) (C := RX4) (T := TX4) (N := 9) hx hb hts inX5_clearStreet_X4 hown hE.1 hP 1 rfl rfl 4 (by decide) (gW hts 3 (.fieldLink RX5 153 "SnowDispatcher$Streets" "snow" "[I") rfl) (fun _ h9 => h9) rfl dX5_clearStreet_20 ?_
    refine lv_iload_n hx hb dX5_clearStreet_23 rfl (lv_at hl 1 rfl) ?_
    have h2 := hw.1
    have hw := hw.2
    refine va_iald hx hb hE.1 hP 6 0 rfl rfl h2 dX5_clearStreet_24 ?_
    refine lv_iadd hx hb dX5_clearStreet_25 ?_
    refine va_put (D := g.1) (ci := 9) (v := .int (t_ploughed + (s_snow x1.toNatClampNeg))) (ty := .int) (C := RX5) (T := TX5) (N := 11) hx hb hts inX5_clearStreet_X5 tyX5 tyX5_ok nmX5 hown hE.1 hP hD hS 0 rfl rfl 8 (by decide) (gW hts 2 (.fieldLink RX5 52 "SnowDispatcher$Town" "ploughed" "I") rfl) (fun _ h9 => h9) rfl (by decide +kernel) rfl rfl (Nat.le_of_ble_eq_true rfl) dX5_clearStreet_26 (fun H locs hP hD hS => ?_)
    have hP : va_P g.1 vwCl (List.flatten [kTo g a_to a_pa a_st a_pl t_time t_store t_rate t_force t_cleared (t_ploughed + (s_snow x1.toNatClampNeg)) t_failed t_complained, kSt g a_st s_lower s_higher s_kind s_size s_snow s_saltEnd s_complained s_clearings s_count]) H := hP
    have hD : va_D A (List.flatten [kTo g a_to a_pa a_st a_pl t_time t_store t_rate t_force t_cleared (t_ploughed + (s_snow x1.toNatClampNeg)) t_failed t_complained, kSt g a_st s_lower s_higher s_kind s_size s_snow s_saltEnd s_complained s_clearings s_count]) := hD
    refine lv_aload_n hx hb dX5_clearStreet_29 rfl (lv_at hl 0 rfl) ?_
    refine lv_dup hx hb dX5_clearStreet_30 rfl ?_
    refine va_get (D := g.1) (ci := 9) (v := .int t_cleared) (C := RX5) (T := TX5) (N := 11) hx hb hts inX5_clearStreet_X5 hown hE.1 hP 0 rfl rfl 7 (by decide) (gW hts 4 (.fieldLink RX5 49 "SnowDispatcher$Town" "cleared" "I") rfl) (fun _ h9 => h9) rfl dX5_clearStreet_31 ?_
    refine lv_iconst (v := 1) hx hb dX5_clearStreet_34 (by decide) ?_
    refine lv_iadd hx hb dX5_clearStreet_35 ?_
    refine va_put (D := g.1) (ci := 9) (v := .int (t_cleared + 1)) (ty := .int) (C := RX5) (T := TX5) (N := 11) hx hb hts inX5_clearStreet_X5 tyX5 tyX5_ok nmX5 hown hE.1 hP hD hS 0 rfl rfl 7 (by decide) (gW hts 4 (.fieldLink RX5 49 "SnowDispatcher$Town" "cleared" "I") rfl) (fun _ h9 => h9) rfl (by decide +kernel) rfl rfl (Nat.le_of_ble_eq_true rfl) dX5_clearStreet_36 (fun H locs hP hD hS => ?_)
    have hP : va_P g.1 vwCl (List.flatten [kTo g a_to a_pa a_st a_pl t_time t_store t_rate t_force (t_cleared + 1) (t_ploughed + (s_snow x1.toNatClampNeg)) t_failed t_complained, kSt g a_st s_lower s_higher s_kind s_size s_snow s_saltEnd s_complained s_clearings s_count]) H := hP
    have hD : va_D A (List.flatten [kTo g a_to a_pa a_st a_pl t_time t_store t_rate t_force (t_cleared + 1) (t_ploughed + (s_snow x1.toNatClampNeg)) t_failed t_complained, kSt g a_st s_lower s_higher s_kind s_size s_snow s_saltEnd s_complained s_clearings s_count]) := hD
    refine lv_aload_n hx hb dX5_clearStreet_39 rfl (lv_at hl 0 rfl) ?_
    refine va_get (D := g.1) (ci := 9) (v := .ref (a_st 0)) (C := RX5) (T := TX5) (N := 11) hx hb hts inX5_clearStreet_X5 hown hE.1 hP 0 rfl rfl 1 (by decide) (gW hts 1 (.fieldLink RX5 18 "SnowDispatcher$Town" "streets" "LSnowDispatcher$Streets;") rfl) (fun _ h9 => h9) rfl dX5_clearStreet_40 ?_
    refine va_get (D := g.1) (ci := 8) (v := .ref (a_st 5)) (C := RX4) (T := TX4) (N := 9) hx hb hts inX5_clearStreet_X4 hown hE.1 hP 1 rfl rfl 4 (by decide) (gW hts 3 (.fieldLink RX5 153 "SnowDispatcher$Streets" "snow" "[I") rfl) (fun _ h9 => h9) rfl dX5_clearStreet_43 ?_
    refine lv_iload_n hx hb dX5_clearStreet_46 rfl (lv_at hl 1 rfl) ?_
    refine lv_iconst (v := 0) hx hb dX5_clearStreet_47 (by decide) ?_
    have h3 := hw.1
    have hw := hw.2
    refine va_iast hx hb hE.1 hP hD hS 6 0 rfl rfl h3 dX5_clearStreet_48 (fun H locs hP hD hS => ?_)
    have hP : va_P g.1 vwCl (List.flatten [kTo g a_to a_pa a_st a_pl t_time t_store t_rate t_force (t_cleared + 1) (t_ploughed + (s_snow x1.toNatClampNeg)) t_failed t_complained, kSt g a_st s_lower s_higher s_kind s_size (upd s_snow x1.toNatClampNeg 0) s_saltEnd s_complained s_clearings s_count]) H := hP
    have hD : va_D A (List.flatten [kTo g a_to a_pa a_st a_pl t_time t_store t_rate t_force (t_cleared + 1) (t_ploughed + (s_snow x1.toNatClampNeg)) t_failed t_complained, kSt g a_st s_lower s_higher s_kind s_size (upd s_snow x1.toNatClampNeg 0) s_saltEnd s_complained s_clearings s_count]) := hD
    refine lv_aload_n hx hb dX5_clearStreet_49 rfl (lv_at hl 0 rfl) ?_
    refine va_get (D := g.1) (ci := 9) (v := .ref (a_st 0)) (C := RX5) (T := TX5) (N := 11) hx hb hts inX5_clearStreet_X5 hown hE.1 hP 0 rfl rfl 1 (by decide) (gW hts 1 (.fieldLink RX5 18 "SnowDispatcher$Town" "streets" "LSnowDispatcher$Streets;") rfl) (fun _ h9 => h9) rfl dX5_clearStreet_50 ?_
    refine va_get (D := g.1) (ci := 8) (v := .ref (a_st 8)) (C := RX4) (T := TX4) (N := 9) hx hb hts inX5_clearStreet_X4 hown hE.1 hP 1 rfl rfl 7 (by decide) (gW hts 5 (.fieldLink RX5 156 "SnowDispatcher$Streets" "clearings" "[I") rfl) (fun _ h9 => h9) rfl dX5_clearStreet_53 ?_
    refine lv_iload_n hx hb dX5_clearStreet_56 rfl (lv_at hl 1 rfl) ?_
    refine lv_dup2_11 hx hb dX5_clearStreet_57 rfl rfl ?_
    have h4 := hw.1
    have hw := hw.2
    refine va_iald hx hb hE.1 hP 9 0 rfl rfl h4 dX5_clearStreet_58 ?_
    refine lv_iconst (v := 1) hx hb dX5_clearStreet_59 (by decide) ?_
    refine lv_iadd hx hb dX5_clearStreet_60 ?_
    have h5 := hw.1
    have hw := hw.2
    refine va_iast hx hb hE.1 hP hD hS 9 0 rfl rfl h5 dX5_clearStreet_61 (fun H locs hP hD hS => ?_)
    have hP : va_P g.1 vwCl (List.flatten [kTo g a_to a_pa a_st a_pl t_time t_store t_rate t_force (t_cleared + 1) (t_ploughed + (s_snow x1.toNatClampNeg)) t_failed t_complained, kSt g a_st s_lower s_higher s_kind s_size (upd s_snow x1.toNatClampNeg 0) s_saltEnd s_complained (upd s_clearings x1.toNatClampNeg ((s_clearings x1.toNatClampNeg) + 1)) s_count]) H := hP
    have hD : va_D A (List.flatten [kTo g a_to a_pa a_st a_pl t_time t_store t_rate t_force (t_cleared + 1) (t_ploughed + (s_snow x1.toNatClampNeg)) t_failed t_complained, kSt g a_st s_lower s_higher s_kind s_size (upd s_snow x1.toNatClampNeg 0) s_saltEnd s_complained (upd s_clearings x1.toNatClampNeg ((s_clearings x1.toNatClampNeg) + 1)) s_count]) := hD
    subst hQ
    exact W.vret hx hb hr (gRv4 (c1 := (t_cleared + 1)) (c2 := (t_ploughed + (s_snow x1.toNatClampNeg))) (c3 := (upd s_snow x1.toNatClampNeg 0)) (c4 := (upd s_clearings x1.toNatClampNeg ((s_clearings x1.toNatClampNeg) + 1))) (wf := _) hA0 hsz hw hP hD hS) hS.2.2 dX5_clearStreet_62
abbrev rmX5_endHour : Room := { frames := 4, cells := 0, slots := 0, locals := 168 }
set_option maxRecDepth 20000 in
theorem inX5_endHour_X4 : ∀ w ∈ wsX40, w ∈ wsX5_endHour := by decide +kernel
set_option maxRecDepth 20000 in
theorem inX5_endHour_X5 : ∀ w ∈ wsX50, w ∈ wsX5_endHour := by decide +kernel
set_option maxHeartbeats 4000000 in
set_option maxRecDepth 100000 in
theorem ctX5_endHour (l : Launch) (g : GG) (a_to : Nat → Nat) (a_pa : Nat → Nat) (a_st : Nat → Nat) (a_pl : Nat → Nat) (sz : Nat) (t_time : Int32) (t_store : Int32) (t_rate : Int32) (t_force : Int32) (t_cleared : Int32) (t_ploughed : Int32) (t_failed : Int32) (t_complained : Int32) (s_lower : Nat → Int32) (s_higher : Nat → Int32) (s_kind : Nat → Int32) (s_size : Nat → Int32) (s_snow : Nat → Int32) (s_saltEnd : Nat → Int32) (s_complained : Nat → Int32) (s_clearings : Nat → Int32) (s_count : Int32) {post : Int32 → (Nat → Int32) → (Nat → Int32) → Prop} (hw : wpX5_endHour t_time t_rate t_force t_complained s_kind s_snow s_saltEnd s_complained s_count post) :
    Met l yX5_endHour wsX5_endHour rmX5_endHour (gPc g sz (List.flatten [kTo g a_to a_pa a_st a_pl t_time t_store t_rate t_force t_cleared t_ploughed t_failed t_complained, kSt g a_st s_lower s_higher s_kind s_size s_snow s_saltEnd s_complained s_clearings s_count]) [.ref (a_to 0)]) (gQv3 post (fun u1 u2 u3 => gB g (List.flatten [kTo g a_to a_pa a_st a_pl t_time t_store t_rate t_force t_cleared t_ploughed t_failed t_complained, kSt g a_st s_lower s_higher s_kind s_size s_snow s_saltEnd s_complained s_clearings s_count]) sz (List.flatten [kTo g a_to a_pa a_st a_pl t_time t_store t_rate t_force t_cleared t_ploughed t_failed u1, kSt g a_st s_lower s_higher s_kind s_size u2 s_saltEnd u3 s_clearings s_count])) (va_A (List.flatten [kTo g a_to a_pa a_st a_pl t_time t_store t_rate t_force t_cleared t_ploughed t_failed t_complained, kSt g a_st s_lower s_higher s_kind s_size s_snow s_saltEnd s_complained s_clearings s_count]) sz)) 0 0 (va_A (List.flatten [kTo g a_to a_pa a_st a_pl t_time t_store t_rate t_force t_cleared t_ploughed t_failed t_complained, kSt g a_st s_lower s_higher s_kind s_size s_snow s_saltEnd s_complained s_clearings s_count]) sz) := by
  refine gOf (cc := cX5_endHour) (maxL := 1) (ret := none) (by decide) rfl (Nat.le_of_ble_eq_true rfl) ?_
  intro p e s m below meth c ls Q A hQ hx hb hr hml hts hown hlocks hE hA0 hsz hP hD hA hS hl
  have hl : lv_has ls 1 [(0, .ref (a_to 0))] := hl
  refine lv_aload_n hx hb dX5_endHour_0 rfl (lv_at hl 0 rfl) ?_
  refine va_get (D := g.1) (ci := 9) (v := .ref (a_st 0)) (C := RX5) (T := TX5) (N := 11) hx hb hts inX5_endHour_X5 hown hE.1 hP 0 rfl rfl 1 (by decide) (gW hts 1 (.fieldLink RX5 18 "SnowDispatcher$Town" "streets" "LSnowDispatcher$Streets;") rfl) (fun _ h9 => h9) rfl dX5_endHour_1 ?_
  refine lv_aload_n hx hb dX5_endHour_4 rfl (lv_at hl 0 rfl) ?_
  refine va_get (D := g.1) (ci := 9) (v := .int t_rate) (C := RX5) (T := TX5) (N := 11) hx hb hts inX5_endHour_X5 hown hE.1 hP 0 rfl rfl 5 (by decide) (gW hts 2 (.fieldLink RX5 43 "SnowDispatcher$Town" "rate" "I") rfl) (fun _ h9 => h9) rfl dX5_endHour_5 ?_
  refine gCv1 (gRunV (As := [.int t_rate]) (rest := []) ⟨hx, hb, hml, hown, hts⟩ (ctX4_fall l g a_st _ s_lower s_higher s_kind s_size s_snow s_saltEnd s_complained s_clearings s_count t_rate hw) (cwV 1 hts gX5_endHour_X4_fall rfl rfl rfl (by decide +kernel) ⟨Nat.le_of_ble_eq_true rfl, Nat.le_of_ble_eq_true rfl⟩) hE (gSub hP [1]) (gDSub hD [1] rfl) 0 8 rfl rfl rfl rfl rfl hl.1 rfl (lv_room (Nat.le_of_ble_eq_true rfl)) dX5_endHour_8 ⟨Nat.le_of_ble_eq_true rfl, Nat.le_of_ble_eq_true rfl⟩) hP hD hS hA [1] rfl (fun _ => rfl) rfl (fun s_snow_v1 H locs hw hP hD hS => ?_)
  have hP : va_P g.1 vwCl (List.flatten [kTo g a_to a_pa a_st a_pl t_time t_store t_rate t_force t_cleared t_ploughed t_failed t_complained, kSt g a_st s_lower s_higher s_kind s_size s_snow_v1 s_saltEnd s_complained s_clearings s_count]) H := hP
  have hD : va_D A (List.flatten [kTo g a_to a_pa a_st a_pl t_time t_store t_rate t_force t_cleared t_ploughed t_failed t_complained, kSt g a_st s_lower s_higher s_kind s_size s_snow_v1 s_saltEnd s_complained s_clearings s_count]) := hD
  refine lv_aload_n hx hb dX5_endHour_11 rfl (lv_at hl 0 rfl) ?_
  refine va_get (D := g.1) (ci := 9) (v := .ref (a_st 0)) (C := RX5) (T := TX5) (N := 11) hx hb hts inX5_endHour_X5 hown hE.1 hP 0 rfl rfl 1 (by decide) (gW hts 1 (.fieldLink RX5 18 "SnowDispatcher$Town" "streets" "LSnowDispatcher$Streets;") rfl) (fun _ h9 => h9) rfl dX5_endHour_12 ?_
  refine lv_aload_n hx hb dX5_endHour_15 rfl (lv_at hl 0 rfl) ?_
  refine va_get (D := g.1) (ci := 9) (v := .int t_time) (C := RX5) (T := TX5) (N := 11) hx hb hts inX5_endHour_X5 hown hE.1 hP 0 rfl rfl 3 (by decide) (gW hts 3 (.fieldLink RX5 36 "SnowDispatcher$Town" "time" "I") rfl) (fun _ h9 => h9) rfl dX5_endHour_16 ?_
  refine gCv1 (gRunV (As := [.int t_time]) (rest := []) ⟨hx, hb, hml, hown, hts⟩ (ctX4_melt l g a_st _ s_lower s_higher s_kind s_size s_snow_v1 s_saltEnd s_complained s_clearings s_count t_time hw) (cwV 1 hts gX5_endHour_X4_melt rfl rfl rfl (by decide +kernel) ⟨Nat.le_of_ble_eq_true rfl, Nat.le_of_ble_eq_true rfl⟩) hE (gSub hP [1]) (gDSub hD [1] rfl) 0 8 rfl rfl rfl rfl rfl hl.1 rfl (lv_room (Nat.le_of_ble_eq_true rfl)) dX5_endHour_19 ⟨Nat.le_of_ble_eq_true rfl, Nat.le_of_ble_eq_true rfl⟩) hP hD hS hA [1] rfl (fun _ => rfl) rfl (fun s_snow_v2 H locs hw hP hD hS => ?_)
  have hP : va_P g.1 vwCl (List.flatten [kTo g a_to a_pa a_st a_pl t_time t_store t_rate t_force t_cleared t_ploughed t_failed t_complained, kSt g a_st s_lower s_higher s_kind s_size s_snow_v2 s_saltEnd s_complained s_clearings s_count]) H := hP
  have hD : va_D A (List.flatten [kTo g a_to a_pa a_st a_pl t_time t_store t_rate t_force t_cleared t_ploughed t_failed t_complained, kSt g a_st s_lower s_higher s_kind s_size s_snow_v2 s_saltEnd s_complained s_clearings s_count]) := hD
  refine lv_aload_n hx hb dX5_endHour_22 rfl (lv_at hl 0 rfl) ?_
  refine va_get (D := g.1) (ci := 9) (v := .ref (a_st 0)) (C := RX5) (T := TX5) (N := 11) hx hb hts inX5_endHour_X5 hown hE.1 hP 0 rfl rfl 1 (by decide) (gW hts 1 (.fieldLink RX5 18 "SnowDispatcher$Town" "streets" "LSnowDispatcher$Streets;") rfl) (fun _ h9 => h9) rfl dX5_endHour_23 ?_
  refine lv_aload_n hx hb dX5_endHour_26 rfl (lv_at hl 0 rfl) ?_
  refine va_get (D := g.1) (ci := 9) (v := .int t_force) (C := RX5) (T := TX5) (N := 11) hx hb hts inX5_endHour_X5 hown hE.1 hP 0 rfl rfl 6 (by decide) (gW hts 4 (.fieldLink RX5 46 "SnowDispatcher$Town" "force" "I") rfl) (fun _ h9 => h9) rfl dX5_endHour_27 ?_
  refine gCv1 (gRunV (As := [.int t_force]) (rest := []) ⟨hx, hb, hml, hown, hts⟩ (ctX4_drift l g a_st _ s_lower s_higher s_kind s_size s_snow_v2 s_saltEnd s_complained s_clearings s_count t_force hw) (cwV 1 hts gX5_endHour_X4_drift rfl rfl rfl (by decide +kernel) ⟨Nat.le_of_ble_eq_true rfl, Nat.le_of_ble_eq_true rfl⟩) hE (gSub hP [1]) (gDSub hD [1] rfl) 0 8 rfl rfl rfl rfl rfl hl.1 rfl (lv_room (Nat.le_of_ble_eq_true rfl)) dX5_endHour_30 ⟨Nat.le_of_ble_eq_true rfl, Nat.le_of_ble_eq_true rfl⟩) hP hD hS hA [1] rfl (fun _ => rfl) rfl (fun s_snow_v3 H locs hw hP hD hS => ?_)
  have hP : va_P g.1 vwCl (List.flatten [kTo g a_to a_pa a_st a_pl t_time t_store t_rate t_force t_cleared t_ploughed t_failed t_complained, kSt g a_st s_lower s_higher s_kind s_size s_snow_v3 s_saltEnd s_complained s_clearings s_count]) H := hP
  have hD : va_D A (List.flatten [kTo g a_to a_pa a_st a_pl t_time t_store t_rate t_force t_cleared t_ploughed t_failed t_complained, kSt g a_st s_lower s_higher s_kind s_size s_snow_v3 s_saltEnd s_complained s_clearings s_count]) := hD
  refine lv_aload_n hx hb dX5_endHour_33 rfl (lv_at hl 0 rfl) ?_
  refine lv_dup hx hb dX5_endHour_34 rfl ?_
  refine va_get (D := g.1) (ci := 9) (v := .int t_complained) (C := RX5) (T := TX5) (N := 11) hx hb hts inX5_endHour_X5 hown hE.1 hP 0 rfl rfl 10 (by decide) (gW hts 5 (.fieldLink RX5 58 "SnowDispatcher$Town" "complained" "I") rfl) (fun _ h9 => h9) rfl dX5_endHour_35 ?_
  refine lv_aload_n hx hb dX5_endHour_38 rfl (lv_at hl 0 rfl) ?_
  refine va_get (D := g.1) (ci := 9) (v := .ref (a_st 0)) (C := RX5) (T := TX5) (N := 11) hx hb hts inX5_endHour_X5 hown hE.1 hP 0 rfl rfl 1 (by decide) (gW hts 1 (.fieldLink RX5 18 "SnowDispatcher$Town" "streets" "LSnowDispatcher$Streets;") rfl) (fun _ h9 => h9) rfl dX5_endHour_39 ?_
  refine gCi1 (gRunV (As := []) (rest := [.int t_complained, .ref (a_to 0)]) ⟨hx, hb, hml, hown, hts⟩ (ctX4_complain l g a_st _ s_lower s_higher s_kind s_size s_snow_v3 s_saltEnd s_complained s_clearings s_count hw) (cwV 0 hts gX5_endHour_X4_complain rfl rfl rfl (by decide +kernel) ⟨Nat.le_of_ble_eq_true rfl, Nat.le_of_ble_eq_true rfl⟩) hE (gSub hP [1]) (gDSub hD [1] rfl) 0 8 rfl rfl rfl rfl rfl hl.1 rfl (lv_room (Nat.le_of_ble_eq_true rfl)) dX5_endHour_42 ⟨Nat.le_of_ble_eq_true rfl, Nat.le_of_ble_eq_true rfl⟩) hP hD hS hA [1] rfl (fun _ => rfl) rfl (fun r4 s_complained_v4 H locs hw hP hD hS => ?_)
  have hP : va_P g.1 vwCl (List.flatten [kTo g a_to a_pa a_st a_pl t_time t_store t_rate t_force t_cleared t_ploughed t_failed t_complained, kSt g a_st s_lower s_higher s_kind s_size s_snow_v3 s_saltEnd s_complained_v4 s_clearings s_count]) H := hP
  have hD : va_D A (List.flatten [kTo g a_to a_pa a_st a_pl t_time t_store t_rate t_force t_cleared t_ploughed t_failed t_complained, kSt g a_st s_lower s_higher s_kind s_size s_snow_v3 s_saltEnd s_complained_v4 s_clearings s_count]) := hD
  refine lv_iadd hx hb dX5_endHour_45 ?_
  refine va_put (D := g.1) (ci := 9) (v := .int (t_complained + r4)) (ty := .int) (C := RX5) (T := TX5) (N := 11) hx hb hts inX5_endHour_X5 tyX5 tyX5_ok nmX5 hown hE.1 hP hD hS 0 rfl rfl 10 (by decide) (gW hts 5 (.fieldLink RX5 58 "SnowDispatcher$Town" "complained" "I") rfl) (fun _ h9 => h9) rfl (by decide +kernel) rfl rfl (Nat.le_of_ble_eq_true rfl) dX5_endHour_46 (fun H locs hP hD hS => ?_)
  have hP : va_P g.1 vwCl (List.flatten [kTo g a_to a_pa a_st a_pl t_time t_store t_rate t_force t_cleared t_ploughed t_failed (t_complained + r4), kSt g a_st s_lower s_higher s_kind s_size s_snow_v3 s_saltEnd s_complained_v4 s_clearings s_count]) H := hP
  have hD : va_D A (List.flatten [kTo g a_to a_pa a_st a_pl t_time t_store t_rate t_force t_cleared t_ploughed t_failed (t_complained + r4), kSt g a_st s_lower s_higher s_kind s_size s_snow_v3 s_saltEnd s_complained_v4 s_clearings s_count]) := hD
  subst hQ
  exact W.vret hx hb hr (gRv3 (c1 := (t_complained + r4)) (c2 := s_snow_v3) (c3 := s_complained_v4) (wf := _) hA0 hsz hw hP hD hS) hS.2.2 dX5_endHour_49
abbrev rmX5_passMinutes : Room := { frames := 5, cells := 0, slots := 0, locals := 202 }
set_option maxRecDepth 20000 in
theorem inX5_passMinutes_X1 : ∀ w ∈ wsX10, w ∈ wsX5_passMinutes := by decide +kernel
set_option maxRecDepth 20000 in
theorem inX5_passMinutes_X2 : ∀ w ∈ wsX20, w ∈ wsX5_passMinutes := by decide +kernel
set_option maxRecDepth 20000 in
theorem inX5_passMinutes_X4 : ∀ w ∈ wsX40, w ∈ wsX5_passMinutes := by decide +kernel
set_option maxRecDepth 20000 in
theorem inX5_passMinutes_X5 : ∀ w ∈ wsX50, w ∈ wsX5_passMinutes := by decide +kernel
set_option maxHeartbeats 4000000 in
set_option maxRecDepth 100000 in
theorem ctX5_passMinutes (l : Launch) (g : GG) (a_to : Nat → Nat) (a_pa : Nat → Nat) (a_st : Nat → Nat) (a_pl : Nat → Nat) (sz : Nat) (t_time : Int32) (t_store : Int32) (t_rate : Int32) (t_force : Int32) (t_cleared : Int32) (t_ploughed : Int32) (t_failed : Int32) (t_complained : Int32) (w_reach : Nat → Int32) (w_settled : Nat → Int32) (w_table : Nat → Int32) (s_lower : Nat → Int32) (s_higher : Nat → Int32) (s_kind : Nat → Int32) (s_size : Nat → Int32) (s_snow : Nat → Int32) (s_saltEnd : Nat → Int32) (s_complained : Nat → Int32) (s_clearings : Nat → Int32) (s_count : Int32) (q_place : Nat → Int32) (q_target : Nat → Int32) (q_minutesLeft : Nat → Int32) (q_waiting : Nat → Int32) (q_orders : Nat → Int32) (q_count : Int32) (x1 : Int32) {post : Int32 → Int32 → Int32 → Int32 → Int32 → Int32 → (Nat → Int32) → (Nat → Int32) → (Nat → Int32) → (Nat → Int32) → (Nat → Int32) → (Nat → Int32) → (Nat → Int32) → (Nat → Int32) → (Nat → Int32) → (Nat → Int32) → Prop} (hw : wpX5_passMinutes x1 t_time t_rate t_force t_cleared t_ploughed t_failed t_complained w_reach w_settled s_lower s_higher s_kind s_size s_snow s_saltEnd s_complained s_clearings s_count q_place q_target q_minutesLeft q_waiting q_orders q_count post) :
    Met l yX5_passMinutes wsX5_passMinutes rmX5_passMinutes (gPc g sz (List.flatten [kTo g a_to a_pa a_st a_pl t_time t_store t_rate t_force t_cleared t_ploughed t_failed t_complained, kPa g a_pa w_reach w_settled w_table, kSt g a_st s_lower s_higher s_kind s_size s_snow s_saltEnd s_complained s_clearings s_count, kPl g a_pl q_place q_target q_minutesLeft q_waiting q_orders q_count]) [.ref (a_to 0), .int x1]) (gQi15 post (fun u1 u2 u3 u4 u5 u6 u7 u8 u9 u10 u11 u12 u13 u14 u15 => gB g (List.flatten [kTo g a_to a_pa a_st a_pl t_time t_store t_rate t_force t_cleared t_ploughed t_failed t_complained, kPa g a_pa w_reach w_settled w_table, kSt g a_st s_lower s_higher s_kind s_size s_snow s_saltEnd s_complained s_clearings s_count, kPl g a_pl q_place q_target q_minutesLeft q_waiting q_orders q_count]) sz (List.flatten [kTo g a_to a_pa a_st a_pl u1 t_store t_rate t_force u2 u3 u4 u5, kPa g a_pa u6 u7 w_table, kSt g a_st s_lower s_higher s_kind s_size u8 s_saltEnd u9 u10 s_count, kPl g a_pl u11 u12 u13 u14 u15 q_count])) (va_A (List.flatten [kTo g a_to a_pa a_st a_pl t_time t_store t_rate t_force t_cleared t_ploughed t_failed t_complained, kPa g a_pa w_reach w_settled w_table, kSt g a_st s_lower s_higher s_kind s_size s_snow s_saltEnd s_complained s_clearings s_count, kPl g a_pl q_place q_target q_minutesLeft q_waiting q_orders q_count]) sz)) 0 0 (va_A (List.flatten [kTo g a_to a_pa a_st a_pl t_time t_store t_rate t_force t_cleared t_ploughed t_failed t_complained, kPa g a_pa w_reach w_settled w_table, kSt g a_st s_lower s_higher s_kind s_size s_snow s_saltEnd s_complained s_clearings s_count, kPl g a_pl q_place q_target q_minutesLeft q_waiting q_orders q_count]) sz) := by
  refine gOf (cc := cX5_passMinutes) (maxL := 5) (ret := (some .int)) (by decide) rfl (Nat.le_of_ble_eq_true rfl) ?_
  intro p e s m below meth c ls Q A hQ hx hb hr hml hts hown hlocks hE hA0 hsz hP hD hA hS hl
  have hl : lv_has ls 5 [(0, .ref (a_to 0)), (1, .int x1)] := hl
  have L22 : ∀ (n : Nat) (x2_22 : Int32) (x3_22 : Int32) (t_time_22 : Int32) (t_cleared_22 : Int32) (t_ploughed_22 : Int32) (t_failed_22 : Int32) (t_complained_22 : Int32) (w_reach_22 : Nat → Int32) (w_settled_22 : Nat → Int32) (s_snow_22 : Nat → Int32) (s_complained_22 : Nat → Int32) (s_clearings_22 : Nat → Int32) (q_place_22 : Nat → Int32) (q_target_22 : Nat → Int32) (q_minutesLeft_22 : Nat → Int32) (q_waiting_22 : Nat → Int32) (q_orders_22 : Nat → Int32) (H : Heap) (locs : List Loc) (ls : Array Slot), wpX5_passMinutes_L22 x1 t_rate t_force s_lower s_higher s_kind s_size s_saltEnd s_count q_count x2_22 post n x3_22 t_time_22 t_cleared_22 t_ploughed_22 t_failed_22 t_complained_22 w_reach_22 w_settled_22 s_snow_22 s_complained_22 s_clearings_22 q_place_22 q_target_22 q_minutesLeft_22 q_waiting_22 q_orders_22 → va_P g.1 vwCl (List.flatten [kTo g a_to a_pa a_st a_pl t_time_22 t_store t_rate t_force t_cleared_22 t_ploughed_22 t_failed_22 t_complained_22, kPa g a_pa w_reach_22 w_settled_22 w_table, kSt g a_st s_lower s_higher s_kind s_size s_snow_22 s_saltEnd s_complained_22 s_clearings_22 s_count, kPl g a_pl q_place_22 q_target_22 q_minutesLeft_22 q_waiting_22 q_orders_22 q_count]) H → va_D A (List.flatten [kTo g a_to a_pa a_st a_pl t_time_22 t_store t_rate t_force t_cleared_22 t_ploughed_22 t_failed_22 t_complained_22, kPa g a_pa w_reach_22 w_settled_22 w_table, kSt g a_st s_lower s_higher s_kind s_size s_snow_22 s_saltEnd s_complained_22 s_clearings_22 s_count, kPl g a_pl q_place_22 q_target_22 q_minutesLeft_22 q_waiting_22 q_orders_22 q_count]) → va_S A s.heap H locs → lv_has ls 5 [(0, .ref (a_to 0)), (1, .int x1), (2, .int x2_22), (3, .int x3_22)] → W p l e rmX5_passMinutes s m (([.ref (a_to 0), .int x1] : List Value).toArray) below meth c H locs 0 0 Q (F0 m 22 ls []) := by
    intro n_22
    induction n_22 with
    | zero => intro x2_22 x3_22 t_time_22 t_cleared_22 t_ploughed_22 t_failed_22 t_complained_22 w_reach_22 w_settled_22 s_snow_22 s_complained_22 s_clearings_22 q_place_22 q_target_22 q_minutesLeft_22 q_waiting_22 q_orders_22 H locs ls hw; exact False.elim hw
    | succ n_22 ih_22 =>
      intro x2_22 x3_22 t_time_22 t_cleared_22 t_ploughed_22 t_failed_22 t_complained_22 w_reach_22 w_settled_22 s_snow_22 s_complained_22 s_clearings_22 q_place_22 q_target_22 q_minutesLeft_22 q_waiting_22 q_orders_22 H locs ls hw hP hD hS hl
      have L40 : ∀ (n : Nat) (x3_40 : Int32) (t_time_40 : Int32) (t_complained_40 : Int32) (s_complained_40 : Nat → Int32) (x4_40 : Int32) (t_cleared_40 : Int32) (t_ploughed_40 : Int32) (t_failed_40 : Int32) (w_reach_40 : Nat → Int32) (w_settled_40 : Nat → Int32) (s_snow_40 : Nat → Int32) (s_clearings_40 : Nat → Int32) (q_place_40 : Nat → Int32) (q_target_40 : Nat → Int32) (q_minutesLeft_40 : Nat → Int32) (q_waiting_40 : Nat → Int32) (q_orders_40 : Nat → Int32) (H : Heap) (locs : List Loc) (ls : Array Slot), wpX5_passMinutes_L40 x1 x2_22 t_rate t_force s_lower s_higher s_kind s_size s_saltEnd s_count q_count x3_40 t_time_40 t_complained_40 s_complained_40 (wpX5_passMinutes_L22 x1 t_rate t_force s_lower s_higher s_kind s_size s_saltEnd s_count q_count x2_22 post n_22) post n x4_40 t_cleared_40 t_ploughed_40 t_failed_40 w_reach_40 w_settled_40 s_snow_40 s_clearings_40 q_place_40 q_target_40 q_minutesLeft_40 q_waiting_40 q_orders_40 → va_P g.1 vwCl (List.flatten [kTo g a_to a_pa a_st a_pl t_time_40 t_store t_rate t_force t_cleared_40 t_ploughed_40 t_failed_40 t_complained_40, kPa g a_pa w_reach_40 w_settled_40 w_table, kSt g a_st s_lower s_higher s_kind s_size s_snow_40 s_saltEnd s_complained_40 s_clearings_40 s_count, kPl g a_pl q_place_40 q_target_40 q_minutesLeft_40 q_waiting_40 q_orders_40 q_count]) H → va_D A (List.flatten [kTo g a_to a_pa a_st a_pl t_time_40 t_store t_rate t_force t_cleared_40 t_ploughed_40 t_failed_40 t_complained_40, kPa g a_pa w_reach_40 w_settled_40 w_table, kSt g a_st s_lower s_higher s_kind s_size s_snow_40 s_saltEnd s_complained_40 s_clearings_40 s_count, kPl g a_pl q_place_40 q_target_40 q_minutesLeft_40 q_waiting_40 q_orders_40 q_count]) → va_S A s.heap H locs → lv_has ls 5 [(0, .ref (a_to 0)), (1, .int x1), (2, .int x2_22), (3, .int x3_40), (4, .int x4_40)] → W p l e rmX5_passMinutes s m (([.ref (a_to 0), .int x1] : List Value).toArray) below meth c H locs 0 0 Q (F0 m 40 ls []) := by
        intro n_40
        induction n_40 with
        | zero => intro x3_40 t_time_40 t_complained_40 s_complained_40 x4_40 t_cleared_40 t_ploughed_40 t_failed_40 w_reach_40 w_settled_40 s_snow_40 s_clearings_40 q_place_40 q_target_40 q_minutesLeft_40 q_waiting_40 q_orders_40 H locs ls hw; exact False.elim hw
        | succ n_40 ih_40 =>
          intro x3_40 t_time_40 t_complained_40 s_complained_40 x4_40 t_cleared_40 t_ploughed_40 t_failed_40 w_reach_40 w_settled_40 s_snow_40 s_clearings_40 q_place_40 q_target_40 q_minutesLeft_40 q_waiting_40 q_orders_40 H locs ls hw hP hD hS hl
          refine lv_iload hx hb dX5_passMinutes_40 (lv_at hl 4 rfl) ?_
          refine lv_aload_n hx hb dX5_passMinutes_42 rfl (lv_at hl 0 rfl) ?_
          refine va_get (D := g.1) (ci := 9) (v := .ref (a_pl 0)) (C := RX5) (T := TX5) (N := 11) hx hb hts inX5_passMinutes_X5 hown hE.1 hP 0 rfl rfl 2 (by decide) (gW hts 3 (.fieldLink RX5 25 "SnowDispatcher$Town" "ploughs" "LSnowDispatcher$Ploughs;") rfl) (fun _ h9 => h9) rfl dX5_passMinutes_43 ?_
          refine va_get (D := g.1) (ci := 6) (v := .int q_count) (C := RX2) (T := TX2) (N := 6) hx hb hts inX5_passMinutes_X2 hown hE.1 hP 14 rfl rfl 5 (by decide) (gW hts 4 (.fieldLink RX5 104 "SnowDispatcher$Ploughs" "count" "I") rfl) (fun _ h9 => h9) rfl dX5_passMinutes_46 ?_
          refine lv_icmp_ge (tgt := 89) hx hb dX5_passMinutes_49 (by decide) (fun c_49 => ?_) (fun c_49 => ?_)
          · have hw := hw.1 c_49
            refine lv_aload_n hx hb dX5_passMinutes_89 rfl (lv_at hl 0 rfl) ?_
            refine va_get (D := g.1) (ci := 9) (v := .int t_time_40) (C := RX5) (T := TX5) (N := 11) hx hb hts inX5_passMinutes_X5 hown hE.1 hP 0 rfl rfl 3 (by decide) (gW hts 2 (.fieldLink RX5 36 "SnowDispatcher$Town" "time" "I") rfl) (fun _ h9 => h9) rfl dX5_passMinutes_90 ?_
            refine lv_bipush (v := 60) hx hb dX5_passMinutes_93 (by decide) ?_
            refine lv_irem hx hb dX5_passMinutes_95 (by decide) ?_
            refine lv_if_ne (tgt := 103) hx hb dX5_passMinutes_96 (by decide) (fun c_96 => ?_) (fun c_96 => ?_)
            · have hw := hw.1 c_96
              refine lv_iinc (v := (x3_40 + 1)) (lv' := [(3, .int (x3_40 + 1)), (0, .ref (a_to 0)), (1, .int x1), (2, .int x2_22), (4, .int x4_40)]) hx hb dX5_passMinutes_103 hl (k := 3) rfl rfl (by decide) rfl (fun ls hl => ?_)
              refine lv_goto (tgt := 22) hx hb dX5_passMinutes_106 (by decide) ?_
              exact ih_22 x2_22 (x3_40 + 1) t_time_40 t_cleared_40 t_ploughed_40 t_failed_40 t_complained_40 w_reach_40 w_settled_40 s_snow_40 s_complained_40 s_clearings_40 q_place_40 q_target_40 q_minutesLeft_40 q_waiting_40 q_orders_40 _ _ _ hw hP hD hS (lv_sub hl [1, 2, 3, 0] rfl)
            · have hw := hw.2 c_96
              refine lv_aload_n hx hb dX5_passMinutes_99 rfl (lv_at hl 0 rfl) ?_
              refine gCv3 (gRunV (As := []) (rest := []) ⟨hx, hb, hml, hown, hts⟩ (ctX5_endHour l g a_to a_pa a_st a_pl _ t_time_40 t_store t_rate t_force t_cleared_40 t_ploughed_40 t_failed_40 t_complained_40 s_lower s_higher s_kind s_size s_snow_40 s_saltEnd s_complained_40 s_clearings_40 s_count hw) (cwV 0 hts gX5_passMinutes_X5_endHour rfl rfl rfl (by decide +kernel) ⟨Nat.le_of_ble_eq_true rfl, Nat.le_of_ble_eq_true rfl⟩) hE (gSub hP [0, 2]) (gDSub hD [0, 2] rfl) 0 9 rfl rfl rfl rfl rfl hl.1 rfl (lv_room (Nat.le_of_ble_eq_true rfl)) dX5_passMinutes_100 ⟨Nat.le_of_ble_eq_true rfl, Nat.le_of_ble_eq_true rfl⟩) hP hD hS hA [0, 2] rfl (fun _ _ _ => rfl) rfl (fun t_complained_v1 s_snow_v1 s_complained_v1 H locs hw hP hD hS => ?_)
              have hP : va_P g.1 vwCl (List.flatten [kTo g a_to a_pa a_st a_pl t_time_40 t_store t_rate t_force t_cleared_40 t_ploughed_40 t_failed_40 t_complained_v1, kPa g a_pa w_reach_40 w_settled_40 w_table, kSt g a_st s_lower s_higher s_kind s_size s_snow_v1 s_saltEnd s_complained_v1 s_clearings_40 s_count, kPl g a_pl q_place_40 q_target_40 q_minutesLeft_40 q_waiting_40 q_orders_40 q_count]) H := hP
              have hD : va_D A (List.flatten [kTo g a_to a_pa a_st a_pl t_time_40 t_store t_rate t_force t_cleared_40 t_ploughed_40 t_failed_40 t_complained_v1, kPa g a_pa w_reach_40 w_settled_40 w_table, kSt g a_st s_lower s_higher s_kind s_size s_snow_v1 s_saltEnd s_complained_v1 s_clearings_40 s_count, kPl g a_pl q_place_40 q_target_40 q_minutesLeft_40 q_waiting_40 q_orders_40 q_count]) := hD
              refine lv_iinc (v := (x3_40 + 1)) (lv' := [(3, .int (x3_40 + 1)), (0, .ref (a_to 0)), (1, .int x1), (2, .int x2_22), (4, .int x4_40)]) hx hb dX5_passMinutes_103 hl (k := 3) rfl rfl (by decide) rfl (fun ls hl => ?_)
              refine lv_goto (tgt := 22) hx hb dX5_passMinutes_106 (by decide) ?_
              exact ih_22 x2_22 (x3_40 + 1) t_time_40 t_cleared_40 t_ploughed_40 t_failed_40 t_complained_v1 w_reach_40 w_settled_40 s_snow_v1 s_complained_v1 s_clearings_40 q_place_40 q_target_40 q_minutesLeft_40 q_waiting_40 q_orders_40 _ _ _ hw hP hD hS (lv_sub hl [1, 2, 3, 0] rfl)
          · have hw := hw.2 c_49
            refine lv_aload_n hx hb dX5_passMinutes_52 rfl (lv_at hl 0 rfl) ?_
            refine va_get (D := g.1) (ci := 9) (v := .ref (a_pl 0)) (C := RX5) (T := TX5) (N := 11) hx hb hts inX5_passMinutes_X5 hown hE.1 hP 0 rfl rfl 2 (by decide) (gW hts 3 (.fieldLink RX5 25 "SnowDispatcher$Town" "ploughs" "LSnowDispatcher$Ploughs;") rfl) (fun _ h9 => h9) rfl dX5_passMinutes_53 ?_
            refine lv_iload hx hb dX5_passMinutes_56 (lv_at hl 4 rfl) ?_
            refine gCi0 (gRunV (As := [.int x4_40]) (rest := []) ⟨hx, hb, hml, hown, hts⟩ (ctX2_canBegin l g a_pl _ q_place_40 q_target_40 q_minutesLeft_40 q_waiting_40 q_orders_40 q_count x4_40 hw) (cwV 1 hts gX5_passMinutes_X2_canBegin rfl rfl rfl (by decide +kernel) ⟨Nat.le_of_ble_eq_true rfl, Nat.le_of_ble_eq_true rfl⟩) hE (gSub hP [3]) (gDSub hD [3] rfl) 0 6 rfl rfl rfl rfl rfl hl.1 rfl (lv_room (Nat.le_of_ble_eq_true rfl)) dX5_passMinutes_58 ⟨Nat.le_of_ble_eq_true rfl, Nat.le_of_ble_eq_true rfl⟩) hP hD hS hA [3] rfl rfl rfl (fun r2 H locs hw hP hD hS => ?_)
            have hP : va_P g.1 vwCl (List.flatten [kTo g a_to a_pa a_st a_pl t_time_40 t_store t_rate t_force t_cleared_40 t_ploughed_40 t_failed_40 t_complained_40, kPa g a_pa w_reach_40 w_settled_40 w_table, kSt g a_st s_lower s_higher s_kind s_size s_snow_40 s_saltEnd s_complained_40 s_clearings_40 s_count, kPl g a_pl q_place_40 q_target_40 q_minutesLeft_40 q_waiting_40 q_orders_40 q_count]) H := hP
            have hD : va_D A (List.flatten [kTo g a_to a_pa a_st a_pl t_time_40 t_store t_rate t_force t_cleared_40 t_ploughed_40 t_failed_40 t_complained_40, kPa g a_pa w_reach_40 w_settled_40 w_table, kSt g a_st s_lower s_higher s_kind s_size s_snow_40 s_saltEnd s_complained_40 s_clearings_40 s_count, kPl g a_pl q_place_40 q_target_40 q_minutesLeft_40 q_waiting_40 q_orders_40 q_count]) := hD
            refine lv_if_eq (tgt := 70) hx hb dX5_passMinutes_61 (by decide) (fun c_61 => ?_) (fun c_61 => ?_)
            · have hw := hw.1 c_61
              refine lv_aload_n hx hb dX5_passMinutes_70 rfl (lv_at hl 0 rfl) ?_
              refine lv_aload_n hx hb dX5_passMinutes_71 rfl (lv_at hl 0 rfl) ?_
              refine va_get (D := g.1) (ci := 9) (v := .ref (a_pl 0)) (C := RX5) (T := TX5) (N := 11) hx hb hts inX5_passMinutes_X5 hown hE.1 hP 0 rfl rfl 2 (by decide) (gW hts 3 (.fieldLink RX5 25 "SnowDispatcher$Town" "ploughs" "LSnowDispatcher$Ploughs;") rfl) (fun _ h9 => h9) rfl dX5_passMinutes_72 ?_
              refine lv_iload hx hb dX5_passMinutes_75 (lv_at hl 4 rfl) ?_
              refine gCi1 (gRunV (As := [.int x4_40]) (rest := [.ref (a_to 0)]) ⟨hx, hb, hml, hown, hts⟩ (ctX2_work l g a_pl _ q_place_40 q_target_40 q_minutesLeft_40 q_waiting_40 q_orders_40 q_count x4_40 hw) (cwV 1 hts gX5_passMinutes_X2_work rfl rfl rfl (by decide +kernel) ⟨Nat.le_of_ble_eq_true rfl, Nat.le_of_ble_eq_true rfl⟩) hE (gSub hP [3]) (gDSub hD [3] rfl) 0 6 rfl rfl rfl rfl rfl hl.1 rfl (lv_room (Nat.le_of_ble_eq_true rfl)) dX5_passMinutes_77 ⟨Nat.le_of_ble_eq_true rfl, Nat.le_of_ble_eq_true rfl⟩) hP hD hS hA [3] rfl (fun _ => rfl) rfl (fun r3 q_minutesLeft_v3 H locs hw hP hD hS => ?_)
              have hP : va_P g.1 vwCl (List.flatten [kTo g a_to a_pa a_st a_pl t_time_40 t_store t_rate t_force t_cleared_40 t_ploughed_40 t_failed_40 t_complained_40, kPa g a_pa w_reach_40 w_settled_40 w_table, kSt g a_st s_lower s_higher s_kind s_size s_snow_40 s_saltEnd s_complained_40 s_clearings_40 s_count, kPl g a_pl q_place_40 q_target_40 q_minutesLeft_v3 q_waiting_40 q_orders_40 q_count]) H := hP
              have hD : va_D A (List.flatten [kTo g a_to a_pa a_st a_pl t_time_40 t_store t_rate t_force t_cleared_40 t_ploughed_40 t_failed_40 t_complained_40, kPa g a_pa w_reach_40 w_settled_40 w_table, kSt g a_st s_lower s_higher s_kind s_size s_snow_40 s_saltEnd s_complained_40 s_clearings_40 s_count, kPl g a_pl q_place_40 q_target_40 q_minutesLeft_v3 q_waiting_40 q_orders_40 q_count]) := hD
              refine gCv4 (gRunV (As := [.int r3]) (rest := []) ⟨hx, hb, hml, hown, hts⟩ (ctX5_clearStreet l g a_to a_pa a_st a_pl _ t_time_40 t_store t_rate t_force t_cleared_40 t_ploughed_40 t_failed_40 t_complained_40 s_lower s_higher s_kind s_size s_snow_40 s_saltEnd s_complained_40 s_clearings_40 s_count r3 hw) (cwV 1 hts gX5_passMinutes_X5_clearStreet rfl rfl rfl (by decide +kernel) ⟨Nat.le_of_ble_eq_true rfl, Nat.le_of_ble_eq_true rfl⟩) hE (gSub hP [0, 2]) (gDSub hD [0, 2] rfl) 0 9 rfl rfl rfl rfl rfl hl.1 rfl (lv_room (Nat.le_of_ble_eq_true rfl)) dX5_passMinutes_80 ⟨Nat.le_of_ble_eq_true rfl, Nat.le_of_ble_eq_true rfl⟩) hP hD hS hA [0, 2] rfl (fun _ _ _ _ => rfl) rfl (fun t_cleared_v4 t_ploughed_v4 s_snow_v4 s_clearings_v4 H locs hw hP hD hS => ?_)
              have hP : va_P g.1 vwCl (List.flatten [kTo g a_to a_pa a_st a_pl t_time_40 t_store t_rate t_force t_cleared_v4 t_ploughed_v4 t_failed_40 t_complained_40, kPa g a_pa w_reach_40 w_settled_40 w_table, kSt g a_st s_lower s_higher s_kind s_size s_snow_v4 s_saltEnd s_complained_40 s_clearings_v4 s_count, kPl g a_pl q_place_40 q_target_40 q_minutesLeft_v3 q_waiting_40 q_orders_40 q_count]) H := hP
              have hD : va_D A (List.flatten [kTo g a_to a_pa a_st a_pl t_time_40 t_store t_rate t_force t_cleared_v4 t_ploughed_v4 t_failed_40 t_complained_40, kPa g a_pa w_reach_40 w_settled_40 w_table, kSt g a_st s_lower s_higher s_kind s_size s_snow_v4 s_saltEnd s_complained_40 s_clearings_v4 s_count, kPl g a_pl q_place_40 q_target_40 q_minutesLeft_v3 q_waiting_40 q_orders_40 q_count]) := hD
              refine lv_iinc (v := (x4_40 + 1)) (lv' := [(4, .int (x4_40 + 1)), (0, .ref (a_to 0)), (1, .int x1), (2, .int x2_22), (3, .int x3_40)]) hx hb dX5_passMinutes_83 hl (k := 4) rfl rfl (by decide) rfl (fun ls hl => ?_)
              refine lv_goto (tgt := 40) hx hb dX5_passMinutes_86 (by decide) ?_
              exact ih_40 x3_40 t_time_40 t_complained_40 s_complained_40 (x4_40 + 1) t_cleared_v4 t_ploughed_v4 t_failed_40 w_reach_40 w_settled_40 s_snow_v4 s_clearings_v4 q_place_40 q_target_40 q_minutesLeft_v3 q_waiting_40 q_orders_40 _ _ _ hw hP hD hS (lv_sub hl [1, 2, 3, 4, 0] rfl)
            · have hw := hw.2 c_61
              refine lv_aload_n hx hb dX5_passMinutes_64 rfl (lv_at hl 0 rfl) ?_
              refine lv_iload hx hb dX5_passMinutes_65 (lv_at hl 4 rfl) ?_
              refine gCv8 (gRunV (As := [.int x4_40]) (rest := []) ⟨hx, hb, hml, hown, hts⟩ (ctX5_beginOrder l g a_to a_pa a_st a_pl _ t_time_40 t_store t_rate t_force t_cleared_40 t_ploughed_40 t_failed_40 t_complained_40 w_reach_40 w_settled_40 w_table s_lower s_higher s_kind s_size s_snow_40 s_saltEnd s_complained_40 s_clearings_40 s_count q_place_40 q_target_40 q_minutesLeft_40 q_waiting_40 q_orders_40 q_count x4_40 hw) (cwV 1 hts gX5_passMinutes_X5_beginOrder rfl rfl rfl (by decide +kernel) ⟨Nat.le_of_ble_eq_true rfl, Nat.le_of_ble_eq_true rfl⟩) hE (gSub hP [0, 1, 2, 3]) (gDSub hD [0, 1, 2, 3] rfl) 0 9 rfl rfl rfl rfl rfl hl.1 rfl (lv_room (Nat.le_of_ble_eq_true rfl)) dX5_passMinutes_67 ⟨Nat.le_of_ble_eq_true rfl, Nat.le_of_ble_eq_true rfl⟩) hP hD hS hA [0, 1, 2, 3] rfl (fun _ _ _ _ _ _ _ _ => rfl) rfl (fun t_failed_v5 w_reach_v5 w_settled_v5 q_place_v5 q_target_v5 q_minutesLeft_v5 q_waiting_v5 q_orders_v5 H locs hw hP hD hS => ?_)
              have hP : va_P g.1 vwCl (List.flatten [kTo g a_to a_pa a_st a_pl t_time_40 t_store t_rate t_force t_cleared_40 t_ploughed_40 t_failed_v5 t_complained_40, kPa g a_pa w_reach_v5 w_settled_v5 w_table, kSt g a_st s_lower s_higher s_kind s_size s_snow_40 s_saltEnd s_complained_40 s_clearings_40 s_count, kPl g a_pl q_place_v5 q_target_v5 q_minutesLeft_v5 q_waiting_v5 q_orders_v5 q_count]) H := hP
              have hD : va_D A (List.flatten [kTo g a_to a_pa a_st a_pl t_time_40 t_store t_rate t_force t_cleared_40 t_ploughed_40 t_failed_v5 t_complained_40, kPa g a_pa w_reach_v5 w_settled_v5 w_table, kSt g a_st s_lower s_higher s_kind s_size s_snow_40 s_saltEnd s_complained_40 s_clearings_40 s_count, kPl g a_pl q_place_v5 q_target_v5 q_minutesLeft_v5 q_waiting_v5 q_orders_v5 q_count]) := hD
              refine lv_aload_n hx hb dX5_passMinutes_70 rfl (lv_at hl 0 rfl) ?_
              refine lv_aload_n hx hb dX5_passMinutes_71 rfl (lv_at hl 0 rfl) ?_
              refine va_get (D := g.1) (ci := 9) (v := .ref (a_pl 0)) (C := RX5) (T := TX5) (N := 11) hx hb hts inX5_passMinutes_X5 hown hE.1 hP 0 rfl rfl 2 (by decide) (gW hts 3 (.fieldLink RX5 25 "SnowDispatcher$Town" "ploughs" "LSnowDispatcher$Ploughs;") rfl) (fun _ h9 => h9) rfl dX5_passMinutes_72 ?_
              refine lv_iload hx hb dX5_passMinutes_75 (lv_at hl 4 rfl) ?_
              refine gCi1 (gRunV (As := [.int x4_40]) (rest := [.ref (a_to 0)]) ⟨hx, hb, hml, hown, hts⟩ (ctX2_work l g a_pl _ q_place_v5 q_target_v5 q_minutesLeft_v5 q_waiting_v5 q_orders_v5 q_count x4_40 hw) (cwV 1 hts gX5_passMinutes_X2_work rfl rfl rfl (by decide +kernel) ⟨Nat.le_of_ble_eq_true rfl, Nat.le_of_ble_eq_true rfl⟩) hE (gSub hP [3]) (gDSub hD [3] rfl) 0 6 rfl rfl rfl rfl rfl hl.1 rfl (lv_room (Nat.le_of_ble_eq_true rfl)) dX5_passMinutes_77 ⟨Nat.le_of_ble_eq_true rfl, Nat.le_of_ble_eq_true rfl⟩) hP hD hS hA [3] rfl (fun _ => rfl) rfl (fun r6 q_minutesLeft_v6 H locs hw hP hD hS => ?_)
              have hP : va_P g.1 vwCl (List.flatten [kTo g a_to a_pa a_st a_pl t_time_40 t_store t_rate t_force t_cleared_40 t_ploughed_40 t_failed_v5 t_complained_40, kPa g a_pa w_reach_v5 w_settled_v5 w_table, kSt g a_st s_lower s_higher s_kind s_size s_snow_40 s_saltEnd s_complained_40 s_clearings_40 s_count, kPl g a_pl q_place_v5 q_target_v5 q_minutesLeft_v6 q_waiting_v5 q_orders_v5 q_count]) H := hP
              have hD : va_D A (List.flatten [kTo g a_to a_pa a_st a_pl t_time_40 t_store t_rate t_force t_cleared_40 t_ploughed_40 t_failed_v5 t_complained_40, kPa g a_pa w_reach_v5 w_settled_v5 w_table, kSt g a_st s_lower s_higher s_kind s_size s_snow_40 s_saltEnd s_complained_40 s_clearings_40 s_count, kPl g a_pl q_place_v5 q_target_v5 q_minutesLeft_v6 q_waiting_v5 q_orders_v5 q_count]) := hD
              refine gCv4 (gRunV (As := [.int r6]) (rest := []) ⟨hx, hb, hml, hown, hts⟩ (ctX5_clearStreet l g a_to a_pa a_st a_pl _ t_time_40 t_store t_rate t_force t_cleared_40 t_ploughed_40 t_failed_v5 t_complained_40 s_lower s_higher s_kind s_size s_snow_40 s_saltEnd s_complained_40 s_clearings_40 s_count r6 hw) (cwV 1 hts gX5_passMinutes_X5_clearStreet rfl rfl rfl (by decide +kernel) ⟨Nat.le_of_ble_eq_true rfl, Nat.le_of_ble_eq_true rfl⟩) hE (gSub hP [0, 2]) (gDSub hD [0, 2] rfl) 0 9 rfl rfl rfl rfl rfl hl.1 rfl (lv_room (Nat.le_of_ble_eq_true rfl)) dX5_passMinutes_80 ⟨Nat.le_of_ble_eq_true rfl, Nat.le_of_ble_eq_true rfl⟩) hP hD hS hA [0, 2] rfl (fun _ _ _ _ => rfl) rfl (fun t_cleared_v7 t_ploughed_v7 s_snow_v7 s_clearings_v7 H locs hw hP hD hS => ?_)
              have hP : va_P g.1 vwCl (List.flatten [kTo g a_to a_pa a_st a_pl t_time_40 t_store t_rate t_force t_cleared_v7 t_ploughed_v7 t_failed_v5 t_complained_40, kPa g a_pa w_reach_v5 w_settled_v5 w_table, kSt g a_st s_lower s_higher s_kind s_size s_snow_v7 s_saltEnd s_complained_40 s_clearings_v7 s_count, kPl g a_pl q_place_v5 q_target_v5 q_minutesLeft_v6 q_waiting_v5 q_orders_v5 q_count]) H := hP
              have hD : va_D A (List.flatten [kTo g a_to a_pa a_st a_pl t_time_40 t_store t_rate t_force t_cleared_v7 t_ploughed_v7 t_failed_v5 t_complained_40, kPa g a_pa w_reach_v5 w_settled_v5 w_table, kSt g a_st s_lower s_higher s_kind s_size s_snow_v7 s_saltEnd s_complained_40 s_clearings_v7 s_count, kPl g a_pl q_place_v5 q_target_v5 q_minutesLeft_v6 q_waiting_v5 q_orders_v5 q_count]) := hD
              refine lv_iinc (v := (x4_40 + 1)) (lv' := [(4, .int (x4_40 + 1)), (0, .ref (a_to 0)), (1, .int x1), (2, .int x2_22), (3, .int x3_40)]) hx hb dX5_passMinutes_83 hl (k := 4) rfl rfl (by decide) rfl (fun ls hl => ?_)
              refine lv_goto (tgt := 40) hx hb dX5_passMinutes_86 (by decide) ?_
              exact ih_40 x3_40 t_time_40 t_complained_40 s_complained_40 (x4_40 + 1) t_cleared_v7 t_ploughed_v7 t_failed_v5 w_reach_v5 w_settled_v5 s_snow_v7 s_clearings_v7 q_place_v5 q_target_v5 q_minutesLeft_v6 q_waiting_v5 q_orders_v5 _ _ _ hw hP hD hS (lv_sub hl [1, 2, 3, 4, 0] rfl)
      refine lv_iload_n hx hb dX5_passMinutes_22 rfl (lv_at hl 3 rfl) ?_
      refine lv_iload_n hx hb dX5_passMinutes_23 rfl (lv_at hl 1 rfl) ?_
      refine lv_icmp_ge (tgt := 109) hx hb dX5_passMinutes_24 (by decide) (fun c_24 => ?_) (fun c_24 => ?_)
      · have hw := hw.1 c_24
        refine lv_aload_n hx hb dX5_passMinutes_109 rfl (lv_at hl 0 rfl) ?_
        refine va_get (D := g.1) (ci := 9) (v := .int t_cleared_22) (C := RX5) (T := TX5) (N := 11) hx hb hts inX5_passMinutes_X5 hown hE.1 hP 0 rfl rfl 7 (by decide) (gW hts 1 (.fieldLink RX5 49 "SnowDispatcher$Town" "cleared" "I") rfl) (fun _ h9 => h9) rfl dX5_passMinutes_110 ?_
        refine lv_iload_n hx hb dX5_passMinutes_113 rfl (lv_at hl 2 rfl) ?_
        refine lv_isub hx hb dX5_passMinutes_114 ?_
        subst hQ
        exact W.iret hx hb hr (gRi15 (c1 := t_time_22) (c2 := t_cleared_22) (c3 := t_ploughed_22) (c4 := t_failed_22) (c5 := t_complained_22) (c6 := w_reach_22) (c7 := w_settled_22) (c8 := s_snow_22) (c9 := s_complained_22) (c10 := s_clearings_22) (c11 := q_place_22) (c12 := q_target_22) (c13 := q_minutesLeft_22) (c14 := q_waiting_22) (c15 := q_orders_22) (wf := _) hA0 hsz hw hP hD hS) hS.2.2 dX5_passMinutes_115
      · have hw := hw.2 c_24
        refine lv_aload_n hx hb dX5_passMinutes_27 rfl (lv_at hl 0 rfl) ?_
        refine lv_dup hx hb dX5_passMinutes_28 rfl ?_
        refine va_get (D := g.1) (ci := 9) (v := .int t_time_22) (C := RX5) (T := TX5) (N := 11) hx hb hts inX5_passMinutes_X5 hown hE.1 hP 0 rfl rfl 3 (by decide) (gW hts 2 (.fieldLink RX5 36 "SnowDispatcher$Town" "time" "I") rfl) (fun _ h9 => h9) rfl dX5_passMinutes_29 ?_
        refine lv_iconst (v := 1) hx hb dX5_passMinutes_32 (by decide) ?_
        refine lv_iadd hx hb dX5_passMinutes_33 ?_
        refine va_put (D := g.1) (ci := 9) (v := .int (t_time_22 + 1)) (ty := .int) (C := RX5) (T := TX5) (N := 11) hx hb hts inX5_passMinutes_X5 tyX5 tyX5_ok nmX5 hown hE.1 hP hD hS 0 rfl rfl 3 (by decide) (gW hts 2 (.fieldLink RX5 36 "SnowDispatcher$Town" "time" "I") rfl) (fun _ h9 => h9) rfl (by decide +kernel) rfl rfl (Nat.le_of_ble_eq_true rfl) dX5_passMinutes_34 (fun H locs hP hD hS => ?_)
        have hP : va_P g.1 vwCl (List.flatten [kTo g a_to a_pa a_st a_pl (t_time_22 + 1) t_store t_rate t_force t_cleared_22 t_ploughed_22 t_failed_22 t_complained_22, kPa g a_pa w_reach_22 w_settled_22 w_table, kSt g a_st s_lower s_higher s_kind s_size s_snow_22 s_saltEnd s_complained_22 s_clearings_22 s_count, kPl g a_pl q_place_22 q_target_22 q_minutesLeft_22 q_waiting_22 q_orders_22 q_count]) H := hP
        have hD : va_D A (List.flatten [kTo g a_to a_pa a_st a_pl (t_time_22 + 1) t_store t_rate t_force t_cleared_22 t_ploughed_22 t_failed_22 t_complained_22, kPa g a_pa w_reach_22 w_settled_22 w_table, kSt g a_st s_lower s_higher s_kind s_size s_snow_22 s_saltEnd s_complained_22 s_clearings_22 s_count, kPl g a_pl q_place_22 q_target_22 q_minutesLeft_22 q_waiting_22 q_orders_22 q_count]) := hD
        refine lv_iconst (v := 0) hx hb dX5_passMinutes_37 (by decide) ?_
        refine lv_istore (lv' := [(4, .int 0), (0, .ref (a_to 0)), (1, .int x1), (2, .int x2_22), (3, .int x3_22)]) hx hb dX5_passMinutes_38 hl (by decide) rfl (fun ls hl => ?_)
        obtain ⟨n, hw⟩ := hw
        exact L40 n x3_22 (t_time_22 + 1) t_complained_22 s_complained_22 0 t_cleared_22 t_ploughed_22 t_failed_22 w_reach_22 w_settled_22 s_snow_22 s_clearings_22 q_place_22 q_target_22 q_minutesLeft_22 q_waiting_22 q_orders_22 _ _ _ hw hP hD hS (lv_sub hl [1, 2, 3, 4, 0] rfl)
  refine lv_iload_n hx hb dX5_passMinutes_0 rfl (lv_at hl 1 rfl) ?_
  refine lv_iconst (v := 1) hx hb dX5_passMinutes_1 (by decide) ?_
  refine lv_icmp_lt (tgt := 12) hx hb dX5_passMinutes_2 (by decide) (fun c_2 => ?_) (fun c_2 => ?_)
  · have hw := hw.1 c_2
    refine lv_bipush (v := (-2)) hx hb dX5_passMinutes_12 (by decide) ?_
    subst hQ
    exact W.iret hx hb hr (gRi15 (c1 := t_time) (c2 := t_cleared) (c3 := t_ploughed) (c4 := t_failed) (c5 := t_complained) (c6 := w_reach) (c7 := w_settled) (c8 := s_snow) (c9 := s_complained) (c10 := s_clearings) (c11 := q_place) (c12 := q_target) (c13 := q_minutesLeft) (c14 := q_waiting) (c15 := q_orders) (wf := _) hA0 hsz hw hP hD hS) hS.2.2 dX5_passMinutes_14
  · have hw := hw.2 c_2
    refine lv_iload_n hx hb dX5_passMinutes_5 rfl (lv_at hl 1 rfl) ?_
    refine lv_sipush (v := 600) hx hb dX5_passMinutes_6 (by decide) ?_
    refine lv_icmp_le (tgt := 15) hx hb dX5_passMinutes_9 (by decide) (fun c_9 => ?_) (fun c_9 => ?_)
    · have hw := hw.1 c_9
      refine lv_aload_n hx hb dX5_passMinutes_15 rfl (lv_at hl 0 rfl) ?_
      refine va_get (D := g.1) (ci := 9) (v := .int t_cleared) (C := RX5) (T := TX5) (N := 11) hx hb hts inX5_passMinutes_X5 hown hE.1 hP 0 rfl rfl 7 (by decide) (gW hts 1 (.fieldLink RX5 49 "SnowDispatcher$Town" "cleared" "I") rfl) (fun _ h9 => h9) rfl dX5_passMinutes_16 ?_
      refine lv_istore_n (lv' := [(2, .int t_cleared), (0, .ref (a_to 0)), (1, .int x1)]) hx hb dX5_passMinutes_19 rfl hl (by decide) rfl (fun ls hl => ?_)
      refine lv_iconst (v := 0) hx hb dX5_passMinutes_20 (by decide) ?_
      refine lv_istore_n (lv' := [(3, .int 0), (2, .int t_cleared), (0, .ref (a_to 0)), (1, .int x1)]) hx hb dX5_passMinutes_21 rfl hl (by decide) rfl (fun ls hl => ?_)
      obtain ⟨n, hw⟩ := hw
      exact L22 n t_cleared 0 t_time t_cleared t_ploughed t_failed t_complained w_reach w_settled s_snow s_complained s_clearings q_place q_target q_minutesLeft q_waiting q_orders _ _ _ hw hP hD hS (lv_sub hl [2, 3, 1, 0] rfl)
    · have hw := hw.2 c_9
      refine lv_bipush (v := (-2)) hx hb dX5_passMinutes_12 (by decide) ?_
      subst hQ
      exact W.iret hx hb hr (gRi15 (c1 := t_time) (c2 := t_cleared) (c3 := t_ploughed) (c4 := t_failed) (c5 := t_complained) (c6 := w_reach) (c7 := w_settled) (c8 := s_snow) (c9 := s_complained) (c10 := s_clearings) (c11 := q_place) (c12 := q_target) (c13 := q_minutesLeft) (c14 := q_waiting) (c15 := q_orders) (wf := _) hA0 hsz hw hP hD hS) hS.2.2 dX5_passMinutes_14
