/-! contracts: by program (wip/whole/gen) -/
abbrev rmX2_has : Room := { frames := 1, cells := 0, slots := 0, locals := 100 }
set_option maxRecDepth 20000 in
theorem inX2_has_X2 : ∀ w ∈ wsX20, w ∈ wsX2_has := by decide +kernel
set_option maxHeartbeats 4000000 in
set_option maxRecDepth 100000 in
theorem ctX2_has (l : Launch) (g : GG) (a_pl : Nat → Nat) (sz : Nat) (q_place : Nat → Int32) (q_target : Nat → Int32) (q_minutesLeft : Nat → Int32) (q_waiting : Nat → Int32) (q_orders : Nat → Int32) (q_count : Int32) (x1 : Int32) {post : Int32 → Prop} (hw : wpX2_has x1 q_count post) :
    Met l yX2_has wsX2_has rmX2_has (gPc g sz (List.flatten [kPl g a_pl q_place q_target q_minutesLeft q_waiting q_orders q_count]) [.ref (a_pl 0), .int x1]) (gQi0 post (gB g (List.flatten [kPl g a_pl q_place q_target q_minutesLeft q_waiting q_orders q_count]) sz (List.flatten [kPl g a_pl q_place q_target q_minutesLeft q_waiting q_orders q_count])) (va_A (List.flatten [kPl g a_pl q_place q_target q_minutesLeft q_waiting q_orders q_count]) sz)) 0 0 (va_A (List.flatten [kPl g a_pl q_place q_target q_minutesLeft q_waiting q_orders q_count]) sz) := by
  refine gOf (cc := cX2_has) (maxL := 2) (ret := (some .boolean)) (by decide) rfl (Nat.le_of_ble_eq_true rfl) ?_
  intro p e s m below meth c ls Q A hQ hx hb hr hml hts hown hlocks hE hA0 hsz hP hD hA hS hl
  have hl : lv_has ls 2 [(0, .ref (a_pl 0)), (1, .int x1)] := hl
  refine lv_iload_n hx hb dX2_has_0 rfl (lv_at hl 1 rfl) ?_
  refine lv_if_lt (tgt := 21) hx hb dX2_has_1 (by decide) (fun c_1 => ?_) (fun c_1 => ?_)
  · have hw := hw.1 c_1
    refine lv_iconst (v := 0) hx hb dX2_has_21 (by decide) ?_
    subst hQ
    exact W.zret (ty := .boolean) hx hb hr (by decide) (gRi0 (wf := _) hA0 hsz hw hP hD hS) hS.2.2 dX2_has_22
  · have hw := hw.2 c_1
    refine lv_iload_n hx hb dX2_has_4 rfl (lv_at hl 1 rfl) ?_
    refine lv_aload_n hx hb dX2_has_5 rfl (lv_at hl 0 rfl) ?_
    refine va_get (D := g.1) (ci := 6) (v := .int q_count) (C := RX2) (T := TX2) (N := 6) hx hb hts inX2_has_X2 hown hE.1 hP 0 rfl rfl 5 (by decide) (gW hts 1 (.fieldLink RX2 27 "SnowDispatcher$Ploughs" "count" "I") rfl) (fun _ h9 => h9) rfl dX2_has_6 ?_
    refine lv_icmp_ge (tgt := 21) hx hb dX2_has_9 (by decide) (fun c_9 => ?_) (fun c_9 => ?_)
    · have hw := hw.1 c_9
      refine lv_iconst (v := 0) hx hb dX2_has_21 (by decide) ?_
      subst hQ
      exact W.zret (ty := .boolean) hx hb hr (by decide) (gRi0 (wf := _) hA0 hsz hw hP hD hS) hS.2.2 dX2_has_22
    · have hw := hw.2 c_9
      refine lv_iload_n hx hb dX2_has_12 rfl (lv_at hl 1 rfl) ?_
      refine lv_iconst (v := 4) hx hb dX2_has_13 (by decide) ?_
      refine lv_icmp_ge (tgt := 21) hx hb dX2_has_14 (by decide) (fun c_14 => ?_) (fun c_14 => ?_)
      · have hw := hw.1 c_14
        refine lv_iconst (v := 0) hx hb dX2_has_21 (by decide) ?_
        subst hQ
        exact W.zret (ty := .boolean) hx hb hr (by decide) (gRi0 (wf := _) hA0 hsz hw hP hD hS) hS.2.2 dX2_has_22
      · have hw := hw.2 c_14
        refine lv_iconst (v := 1) hx hb dX2_has_17 (by decide) ?_
        refine lv_goto (tgt := 22) hx hb dX2_has_18 (by decide) ?_
        subst hQ
        exact W.zret (ty := .boolean) hx hb hr (by decide) (gRi0 (wf := _) hA0 hsz hw hP hD hS) hS.2.2 dX2_has_22
abbrev rmX2_copyFrom : Room := { frames := 1, cells := 0, slots := 0, locals := 100 }
set_option maxRecDepth 20000 in
theorem inX2_copyFrom_X2 : ∀ w ∈ wsX20, w ∈ wsX2_copyFrom := by decide +kernel
set_option maxHeartbeats 4000000 in
set_option maxRecDepth 100000 in
theorem ctX2_copyFrom (l : Launch) (g : GG) (a_pl : Nat → Nat) (a_po : Nat → Nat) (sz : Nat) (q_place : Nat → Int32) (q_target : Nat → Int32) (q_minutesLeft : Nat → Int32) (q_waiting : Nat → Int32) (q_orders : Nat → Int32) (q_count : Int32) (q_placeo : Nat → Int32) (q_targeto : Nat → Int32) (q_minutesLefto : Nat → Int32) (q_waitingo : Nat → Int32) (q_orderso : Nat → Int32) (q_counto : Int32) {post : (Nat → Int32) → (Nat → Int32) → (Nat → Int32) → (Nat → Int32) → (Nat → Int32) → Int32 → Prop} (hw : wpX2_copyFrom q_place q_target q_minutesLeft q_waiting q_orders q_count q_placeo q_targeto q_minutesLefto q_waitingo q_orderso q_counto post) :
    Met l yX2_copyFrom wsX2_copyFrom rmX2_copyFrom (gPc g sz (List.flatten [kPl g a_pl q_place q_target q_minutesLeft q_waiting q_orders q_count, kPl g a_po q_placeo q_targeto q_minutesLefto q_waitingo q_orderso q_counto]) [.ref (a_pl 0), .ref (a_po 0)]) (gQv6 post (fun u1 u2 u3 u4 u5 u6 => gB g (List.flatten [kPl g a_pl q_place q_target q_minutesLeft q_waiting q_orders q_count, kPl g a_po q_placeo q_targeto q_minutesLefto q_waitingo q_orderso q_counto]) sz (List.flatten [kPl g a_pl u1 u2 u3 u4 u5 u6, kPl g a_po q_placeo q_targeto q_minutesLefto q_waitingo q_orderso q_counto])) (va_A (List.flatten [kPl g a_pl q_place q_target q_minutesLeft q_waiting q_orders q_count, kPl g a_po q_placeo q_targeto q_minutesLefto q_waitingo q_orderso q_counto]) sz)) 0 0 (va_A (List.flatten [kPl g a_pl q_place q_target q_minutesLeft q_waiting q_orders q_count, kPl g a_po q_placeo q_targeto q_minutesLefto q_waitingo q_orderso q_counto]) sz) := by
  refine gOf (cc := cX2_copyFrom) (maxL := 2) (ret := none) (by decide) rfl (Nat.le_of_ble_eq_true rfl) ?_
  intro p e s m below meth c ls Q A hQ hx hb hr hml hts hown hlocks hE hA0 hsz hP hD hA hS hl
  have hl : lv_has ls 2 [(0, .ref (a_pl 0)), (1, .ref (a_po 0))] := hl
  refine lv_aload_n hx hb dX2_copyFrom_0 rfl (lv_at hl 1 rfl) ?_
  refine va_get (D := g.1) (ci := 6) (v := .ref (a_po 1)) (C := RX2) (T := TX2) (N := 6) hx hb hts inX2_copyFrom_X2 hown hE.1 hP 6 rfl rfl 0 (by decide) (gW hts 1 (.fieldLink RX2 9 "SnowDispatcher$Ploughs" "place" "[I") rfl) (fun _ h9 => h9) rfl dX2_copyFrom_1 ?_
  refine lv_iconst (v := 0) hx hb dX2_copyFrom_4 (by decide) ?_
  refine lv_aload_n hx hb dX2_copyFrom_5 rfl (lv_at hl 0 rfl) ?_
  refine va_get (D := g.1) (ci := 6) (v := .ref (a_pl 1)) (C := RX2) (T := TX2) (N := 6) hx hb hts inX2_copyFrom_X2 hown hE.1 hP 0 rfl rfl 0 (by decide) (gW hts 1 (.fieldLink RX2 9 "SnowDispatcher$Ploughs" "place" "[I") rfl) (fun _ h9 => h9) rfl dX2_copyFrom_6 ?_
  refine lv_iconst (v := 0) hx hb dX2_copyFrom_9 (by decide) ?_
  refine lv_iconst (v := 4) hx hb dX2_copyFrom_10 (by decide) ?_
  refine va_copyi hx hb (hml.trans hl.1.symm) hown (gW hts 2 (.methodLink RX2 31 arraycopyName) rfl) (gW hts 3 (.native arraycopyName) rfl) (gW hts 4 (.static arraycopyName) rfl) (gW hts 5 (.initialized "java/lang/System") rfl) hE.1 hP hD hS 7 1 0 0 rfl rfl rfl rfl rfl (by decide) (by decide) (by decide) (by decide) (by decide) (fun _ _ => rfl) (Nat.le_of_ble_eq_true rfl) (by decide +kernel) dX2_copyFrom_11 (fun H locs hP hD hS => ?_)
  have hP : va_P g.1 vwCl (List.flatten [kPl g a_pl (va_cpy q_placeo q_place (0 : Int32).toNatClampNeg (0 : Int32).toNatClampNeg (4 : Int32).toNatClampNeg) q_target q_minutesLeft q_waiting q_orders q_count, kPl g a_po q_placeo q_targeto q_minutesLefto q_waitingo q_orderso q_counto]) H := hP
  have hD : va_D A (List.flatten [kPl g a_pl (va_cpy q_placeo q_place (0 : Int32).toNatClampNeg (0 : Int32).toNatClampNeg (4 : Int32).toNatClampNeg) q_target q_minutesLeft q_waiting q_orders q_count, kPl g a_po q_placeo q_targeto q_minutesLefto q_waitingo q_orderso q_counto]) := hD
  refine lv_aload_n hx hb dX2_copyFrom_14 rfl (lv_at hl 1 rfl) ?_
  refine va_get (D := g.1) (ci := 6) (v := .ref (a_po 2)) (C := RX2) (T := TX2) (N := 6) hx hb hts inX2_copyFrom_X2 hown hE.1 hP 6 rfl rfl 1 (by decide) (gW hts 6 (.fieldLink RX2 15 "SnowDispatcher$Ploughs" "target" "[I") rfl) (fun _ h9 => h9) rfl dX2_copyFrom_15 ?_
  refine lv_iconst (v := 0) hx hb dX2_copyFrom_18 (by decide) ?_
  refine lv_aload_n hx hb dX2_copyFrom_19 rfl (lv_at hl 0 rfl) ?_
  refine va_get (D := g.1) (ci := 6) (v := .ref (a_pl 2)) (C := RX2) (T := TX2) (N := 6) hx hb hts inX2_copyFrom_X2 hown hE.1 hP 0 rfl rfl 1 (by decide) (gW hts 6 (.fieldLink RX2 15 "SnowDispatcher$Ploughs" "target" "[I") rfl) (fun _ h9 => h9) rfl dX2_copyFrom_20 ?_
  refine lv_iconst (v := 0) hx hb dX2_copyFrom_23 (by decide) ?_
  refine lv_iconst (v := 4) hx hb dX2_copyFrom_24 (by decide) ?_
  refine va_copyi hx hb (hml.trans hl.1.symm) hown (gW hts 2 (.methodLink RX2 31 arraycopyName) rfl) (gW hts 3 (.native arraycopyName) rfl) (gW hts 4 (.static arraycopyName) rfl) (gW hts 5 (.initialized "java/lang/System") rfl) hE.1 hP hD hS 8 2 0 0 rfl rfl rfl rfl rfl (by decide) (by decide) (by decide) (by decide) (by decide) (fun _ _ => rfl) (Nat.le_of_ble_eq_true rfl) (by decide +kernel) dX2_copyFrom_25 (fun H locs hP hD hS => ?_)
  have hP : va_P g.1 vwCl (List.flatten [kPl g a_pl (va_cpy q_placeo q_place (0 : Int32).toNatClampNeg (0 : Int32).toNatClampNeg (4 : Int32).toNatClampNeg) (va_cpy q_targeto q_target (0 : Int32).toNatClampNeg (0 : Int32).toNatClampNeg (4 : Int32).toNatClampNeg) q_minutesLeft q_waiting q_orders q_count, kPl g a_po q_placeo q_targeto q_minutesLefto q_waitingo q_orderso q_counto]) H := hP
  have hD : va_D A (List.flatten [kPl g a_pl (va_cpy q_placeo q_place (0 : Int32).toNatClampNeg (0 : Int32).toNatClampNeg (4 : Int32).toNatClampNeg) (va_cpy q_targeto q_target (0 : Int32).toNatClampNeg (0 : Int32).toNatClampNeg (4 : Int32).toNatClampNeg) q_minutesLeft q_waiting q_orders q_count, kPl g a_po q_placeo q_targeto q_minutesLefto q_waitingo q_orderso q_counto]) := hD
  refine lv_aload_n hx hb dX2_copyFrom_28 rfl (lv_at hl 1 rfl) ?_
  refine va_get (D := g.1) (ci := 6) (v := .ref (a_po 3)) (C := RX2) (T := TX2) (N := 6) hx hb hts inX2_copyFrom_X2 hown hE.1 hP 6 rfl rfl 2 (by decide) (gW hts 7 (.fieldLink RX2 18 "SnowDispatcher$Ploughs" "minutesLeft" "[I") rfl) (fun _ h9 => h9) rfl dX2_copyFrom_29 ?_
  refine lv_iconst (v := 0) hx hb dX2_copyFrom_32 (by decide) ?_
  refine lv_aload_n hx hb dX2_copyFrom_33 rfl (lv_at hl 0 rfl) ?_
  refine va_get (D := g.1) (ci := 6) (v := .ref (a_pl 3)) (C := RX2) (T := TX2) (N := 6) hx hb hts inX2_copyFrom_X2 hown hE.1 hP 0 rfl rfl 2 (by decide) (gW hts 7 (.fieldLink RX2 18 "SnowDispatcher$Ploughs" "minutesLeft" "[I") rfl) (fun _ h9 => h9) rfl dX2_copyFrom_34 ?_
  refine lv_iconst (v := 0) hx hb dX2_copyFrom_37 (by decide) ?_
  refine lv_iconst (v := 4) hx hb dX2_copyFrom_38 (by decide) ?_
  refine va_copyi hx hb (hml.trans hl.1.symm) hown (gW hts 2 (.methodLink RX2 31 arraycopyName) rfl) (gW hts 3 (.native arraycopyName) rfl) (gW hts 4 (.static arraycopyName) rfl) (gW hts 5 (.initialized "java/lang/System") rfl) hE.1 hP hD hS 9 3 0 0 rfl rfl rfl rfl rfl (by decide) (by decide) (by decide) (by decide) (by decide) (fun _ _ => rfl) (Nat.le_of_ble_eq_true rfl) (by decide +kernel) dX2_copyFrom_39 (fun H locs hP hD hS => ?_)
  have hP : va_P g.1 vwCl (List.flatten [kPl g a_pl (va_cpy q_placeo q_place (0 : Int32).toNatClampNeg (0 : Int32).toNatClampNeg (4 : Int32).toNatClampNeg) (va_cpy q_targeto q_target (0 : Int32).toNatClampNeg (0 : Int32).toNatClampNeg (4 : Int32).toNatClampNeg) (va_cpy q_minutesLefto q_minutesLeft (0 : Int32).toNatClampNeg (0 : Int32).toNatClampNeg (4 : Int32).toNatClampNeg) q_waiting q_orders q_count, kPl g a_po q_placeo q_targeto q_minutesLefto q_waitingo q_orderso q_counto]) H := hP
  have hD : va_D A (List.flatten [kPl g a_pl (va_cpy q_placeo q_place (0 : Int32).toNatClampNeg (0 : Int32).toNatClampNeg (4 : Int32).toNatClampNeg) (va_cpy q_targeto q_target (0 : Int32).toNatClampNeg (0 : Int32).toNatClampNeg (4 : Int32).toNatClampNeg) (va_cpy q_minutesLefto q_minutesLeft (0 : Int32).toNatClampNeg (0 : Int32).toNatClampNeg (4 : Int32).toNatClampNeg) q_waiting q_orders q_count, kPl g a_po q_placeo q_targeto q_minutesLefto q_waitingo q_orderso q_counto]) := hD
  refine lv_aload_n hx hb dX2_copyFrom_42 rfl (lv_at hl 1 rfl) ?_
  refine va_get (D := g.1) (ci := 6) (v := .ref (a_po 4)) (C := RX2) (T := TX2) (N := 6) hx hb hts inX2_copyFrom_X2 hown hE.1 hP 6 rfl rfl 3 (by decide) (gW hts 8 (.fieldLink RX2 21 "SnowDispatcher$Ploughs" "waiting" "[I") rfl) (fun _ h9 => h9) rfl dX2_copyFrom_43 ?_
  refine lv_iconst (v := 0) hx hb dX2_copyFrom_46 (by decide) ?_
  refine lv_aload_n hx hb dX2_copyFrom_47 rfl (lv_at hl 0 rfl) ?_
  refine va_get (D := g.1) (ci := 6) (v := .ref (a_pl 4)) (C := RX2) (T := TX2) (N := 6) hx hb hts inX2_copyFrom_X2 hown hE.1 hP 0 rfl rfl 3 (by decide) (gW hts 8 (.fieldLink RX2 21 "SnowDispatcher$Ploughs" "waiting" "[I") rfl) (fun _ h9 => h9) rfl dX2_copyFrom_48 ?_
  refine lv_iconst (v := 0) hx hb dX2_copyFrom_51 (by decide) ?_
  refine lv_iconst (v := 4) hx hb dX2_copyFrom_52 (by decide) ?_
  refine va_copyi hx hb (hml.trans hl.1.symm) hown (gW hts 2 (.methodLink RX2 31 arraycopyName) rfl) (gW hts 3 (.native arraycopyName) rfl) (gW hts 4 (.static arraycopyName) rfl) (gW hts 5 (.initialized "java/lang/System") rfl) hE.1 hP hD hS 10 4 0 0 rfl rfl rfl rfl rfl (by decide) (by decide) (by decide) (by decide) (by decide) (fun _ _ => rfl) (Nat.le_of_ble_eq_true rfl) (by decide +kernel) dX2_copyFrom_53 (fun H locs hP hD hS => ?_)
  have hP : va_P g.1 vwCl (List.flatten [kPl g a_pl (va_cpy q_placeo q_place (0 : Int32).toNatClampNeg (0 : Int32).toNatClampNeg (4 : Int32).toNatClampNeg) (va_cpy q_targeto q_target (0 : Int32).toNatClampNeg (0 : Int32).toNatClampNeg (4 : Int32).toNatClampNeg) (va_cpy q_minutesLefto q_minutesLeft (0 : Int32).toNatClampNeg (0 : Int32).toNatClampNeg (4 : Int32).toNatClampNeg) (va_cpy q_waitingo q_waiting (0 : Int32).toNatClampNeg (0 : Int32).toNatClampNeg (4 : Int32).toNatClampNeg) q_orders q_count, kPl g a_po q_placeo q_targeto q_minutesLefto q_waitingo q_orderso q_counto]) H := hP
  have hD : va_D A (List.flatten [kPl g a_pl (va_cpy q_placeo q_place (0 : Int32).toNatClampNeg (0 : Int32).toNatClampNeg (4 : Int32).toNatClampNeg) (va_cpy q_targeto q_target (0 : Int32).toNatClampNeg (0 : Int32).toNatClampNeg (4 : Int32).toNatClampNeg) (va_cpy q_minutesLefto q_minutesLeft (0 : Int32).toNatClampNeg (0 : Int32).toNatClampNeg (4 : Int32).toNatClampNeg) (va_cpy q_waitingo q_waiting (0 : Int32).toNatClampNeg (0 : Int32).toNatClampNeg (4 : Int32).toNatClampNeg) q_orders q_count, kPl g a_po q_placeo q_targeto q_minutesLefto q_waitingo q_orderso q_counto]) := hD
  refine lv_aload_n hx hb dX2_copyFrom_56 rfl (lv_at hl 1 rfl) ?_
  refine va_get (D := g.1) (ci := 6) (v := .ref (a_po 5)) (C := RX2) (T := TX2) (N := 6) hx hb hts inX2_copyFrom_X2 hown hE.1 hP 6 rfl rfl 4 (by decide) (gW hts 9 (.fieldLink RX2 24 "SnowDispatcher$Ploughs" "orders" "[I") rfl) (fun _ h9 => h9) rfl dX2_copyFrom_57 ?_
  refine lv_iconst (v := 0) hx hb dX2_copyFrom_60 (by decide) ?_
  refine lv_aload_n hx hb dX2_copyFrom_61 rfl (lv_at hl 0 rfl) ?_
  refine va_get (D := g.1) (ci := 6) (v := .ref (a_pl 5)) (C := RX2) (T := TX2) (N := 6) hx hb hts inX2_copyFrom_X2 hown hE.1 hP 0 rfl rfl 4 (by decide) (gW hts 9 (.fieldLink RX2 24 "SnowDispatcher$Ploughs" "orders" "[I") rfl) (fun _ h9 => h9) rfl dX2_copyFrom_62 ?_
  refine lv_iconst (v := 0) hx hb dX2_copyFrom_65 (by decide) ?_
  refine lv_bipush (v := 20) hx hb dX2_copyFrom_66 (by decide) ?_
  refine va_copyi hx hb (hml.trans hl.1.symm) hown (gW hts 2 (.methodLink RX2 31 arraycopyName) rfl) (gW hts 3 (.native arraycopyName) rfl) (gW hts 4 (.static arraycopyName) rfl) (gW hts 5 (.initialized "java/lang/System") rfl) hE.1 hP hD hS 11 5 0 0 rfl rfl rfl rfl rfl (by decide) (by decide) (by decide) (by decide) (by decide) (fun _ _ => rfl) (Nat.le_of_ble_eq_true rfl) (by decide +kernel) dX2_copyFrom_68 (fun H locs hP hD hS => ?_)
  have hP : va_P g.1 vwCl (List.flatten [kPl g a_pl (va_cpy q_placeo q_place (0 : Int32).toNatClampNeg (0 : Int32).toNatClampNeg (4 : Int32).toNatClampNeg) (va_cpy q_targeto q_target (0 : Int32).toNatClampNeg (0 : Int32).toNatClampNeg (4 : Int32).toNatClampNeg) (va_cpy q_minutesLefto q_minutesLeft (0 : Int32).toNatClampNeg (0 : Int32).toNatClampNeg (4 : Int32).toNatClampNeg) (va_cpy q_waitingo q_waiting (0 : Int32).toNatClampNeg (0 : Int32).toNatClampNeg (4 : Int32).toNatClampNeg) (va_cpy q_orderso q_orders (0 : Int32).toNatClampNeg (0 : Int32).toNatClampNeg (20 : Int32).toNatClampNeg) q_count, kPl g a_po q_placeo q_targeto q_minutesLefto q_waitingo q_orderso q_counto]) H := hP
  have hD : va_D A (List.flatten [kPl g a_pl (va_cpy q_placeo q_place (0 : Int32).toNatClampNeg (0 : Int32).toNatClampNeg (4 : Int32).toNatClampNeg) (va_cpy q_targeto q_target (0 : Int32).toNatClampNeg (0 : Int32).toNatClampNeg (4 : Int32).toNatClampNeg) (va_cpy q_minutesLefto q_minutesLeft (0 : Int32).toNatClampNeg (0 : Int32).toNatClampNeg (4 : Int32).toNatClampNeg) (va_cpy q_waitingo q_waiting (0 : Int32).toNatClampNeg (0 : Int32).toNatClampNeg (4 : Int32).toNatClampNeg) (va_cpy q_orderso q_orders (0 : Int32).toNatClampNeg (0 : Int32).toNatClampNeg (20 : Int32).toNatClampNeg) q_count, kPl g a_po q_placeo q_targeto q_minutesLefto q_waitingo q_orderso q_counto]) := hD
  refine lv_aload_n hx hb dX2_copyFrom_71 rfl (lv_at hl 0 rfl) ?_
  refine lv_aload_n hx hb dX2_copyFrom_72 rfl (lv_at hl 1 rfl) ?_
  refine va_get (D := g.1) (ci := 6) (v := .int q_counto) (C := RX2) (T := TX2) (N := 6) hx hb hts inX2_copyFrom_X2 hown hE.1 hP 6 rfl rfl 5 (by decide) (gW hts 10 (.fieldLink RX2 27 "SnowDispatcher$Ploughs" "count" "I") rfl) (fun _ h9 => h9) rfl dX2_copyFrom_73 ?_
  refine va_put (D := g.1) (ci := 6) (v := .int q_counto) (ty := .int) (C := RX2) (T := TX2) (N := 6) hx hb hts inX2_copyFrom_X2 tyX2 tyX2_ok nmX2 hown hE.1 hP hD hS 0 rfl rfl 5 (by decide) (gW hts 10 (.fieldLink RX2 27 "SnowDispatcher$Ploughs" "count" "I") rfl) (fun _ h9 => h9) rfl (by decide +kernel) rfl rfl (Nat.le_of_ble_eq_true rfl) dX2_copyFrom_76 (fun H locs hP hD hS => ?_)
  have hP : va_P g.1 vwCl (List.flatten [kPl g a_pl (va_cpy q_placeo q_place (0 : Int32).toNatClampNeg (0 : Int32).toNatClampNeg (4 : Int32).toNatClampNeg) (va_cpy q_targeto q_target (0 : Int32).toNatClampNeg (0 : Int32).toNatClampNeg (4 : Int32).toNatClampNeg) (va_cpy q_minutesLefto q_minutesLeft (0 : Int32).toNatClampNeg (0 : Int32).toNatClampNeg (4 : Int32).toNatClampNeg) (va_cpy q_waitingo q_waiting (0 : Int32).toNatClampNeg (0 : Int32).toNatClampNeg (4 : Int32).toNatClampNeg) (va_cpy q_orderso q_orders (0 : Int32).toNatClampNeg (0 : Int32).toNatClampNeg (20 : Int32).toNatClampNeg) q_counto, kPl g a_po q_placeo q_targeto q_minutesLefto q_waitingo q_orderso q_counto]) H := hP
  have hD : va_D A (List.flatten [kPl g a_pl (va_cpy q_placeo q_place (0 : Int32).toNatClampNeg (0 : Int32).toNatClampNeg (4 : Int32).toNatClampNeg) (va_cpy q_targeto q_target (0 : Int32).toNatClampNeg (0 : Int32).toNatClampNeg (4 : Int32).toNatClampNeg) (va_cpy q_minutesLefto q_minutesLeft (0 : Int32).toNatClampNeg (0 : Int32).toNatClampNeg (4 : Int32).toNatClampNeg) (va_cpy q_waitingo q_waiting (0 : Int32).toNatClampNeg (0 : Int32).toNatClampNeg (4 : Int32).toNatClampNeg) (va_cpy q_orderso q_orders (0 : Int32).toNatClampNeg (0 : Int32).toNatClampNeg (20 : Int32).toNatClampNeg) q_counto, kPl g a_po q_placeo q_targeto q_minutesLefto q_waitingo q_orderso q_counto]) := hD
  subst hQ
  exact W.vret hx hb hr (gRv6 (c1 := (va_cpy q_placeo q_place (0 : Int32).toNatClampNeg (0 : Int32).toNatClampNeg (4 : Int32).toNatClampNeg)) (c2 := (va_cpy q_targeto q_target (0 : Int32).toNatClampNeg (0 : Int32).toNatClampNeg (4 : Int32).toNatClampNeg)) (c3 := (va_cpy q_minutesLefto q_minutesLeft (0 : Int32).toNatClampNeg (0 : Int32).toNatClampNeg (4 : Int32).toNatClampNeg)) (c4 := (va_cpy q_waitingo q_waiting (0 : Int32).toNatClampNeg (0 : Int32).toNatClampNeg (4 : Int32).toNatClampNeg)) (c5 := (va_cpy q_orderso q_orders (0 : Int32).toNatClampNeg (0 : Int32).toNatClampNeg (20 : Int32).toNatClampNeg)) (c6 := q_counto) (wf := _) hA0 hsz hw hP hD hS) hS.2.2 dX2_copyFrom_79
abbrev rmX2_put : Room := { frames := 1, cells := 0, slots := 0, locals := 100 }
set_option maxRecDepth 20000 in
theorem inX2_put_X2 : ∀ w ∈ wsX20, w ∈ wsX2_put := by decide +kernel
set_option maxHeartbeats 4000000 in
set_option maxRecDepth 100000 in
theorem ctX2_put (l : Launch) (g : GG) (a_pl : Nat → Nat) (sz : Nat) (q_place : Nat → Int32) (q_target : Nat → Int32) (q_minutesLeft : Nat → Int32) (q_waiting : Nat → Int32) (q_orders : Nat → Int32) (q_count : Int32) (x1 : Int32) {post : Int32 → (Nat → Int32) → (Nat → Int32) → (Nat → Int32) → (Nat → Int32) → Int32 → Prop} (hw : wpX2_put x1 q_place q_target q_minutesLeft q_waiting q_count post) :
    Met l yX2_put wsX2_put rmX2_put (gPc g sz (List.flatten [kPl g a_pl q_place q_target q_minutesLeft q_waiting q_orders q_count]) [.ref (a_pl 0), .int x1]) (gQi5 post (fun u1 u2 u3 u4 u5 => gB g (List.flatten [kPl g a_pl q_place q_target q_minutesLeft q_waiting q_orders q_count]) sz (List.flatten [kPl g a_pl u1 u2 u3 u4 q_orders u5])) (va_A (List.flatten [kPl g a_pl q_place q_target q_minutesLeft q_waiting q_orders q_count]) sz)) 0 0 (va_A (List.flatten [kPl g a_pl q_place q_target q_minutesLeft q_waiting q_orders q_count]) sz) := by
  refine gOf (cc := cX2_put) (maxL := 3) (ret := (some .int)) (by decide) rfl (Nat.le_of_ble_eq_true rfl) ?_
  intro p e s m below meth c ls Q A hQ hx hb hr hml hts hown hlocks hE hA0 hsz hP hD hA hS hl
  have hl : lv_has ls 3 [(0, .ref (a_pl 0)), (1, .int x1)] := hl
  refine lv_aload_n hx hb dX2_put_0 rfl (lv_at hl 0 rfl) ?_
  refine va_get (D := g.1) (ci := 6) (v := .int q_count) (C := RX2) (T := TX2) (N := 6) hx hb hts inX2_put_X2 hown hE.1 hP 0 rfl rfl 5 (by decide) (gW hts 1 (.fieldLink RX2 27 "SnowDispatcher$Ploughs" "count" "I") rfl) (fun _ h9 => h9) rfl dX2_put_1 ?_
  refine lv_if_lt (tgt := 15) hx hb dX2_put_4 (by decide) (fun c_4 => ?_) (fun c_4 => ?_)
  · have hw := hw.1 c_4
    refine lv_bipush (v := (-4)) hx hb dX2_put_15 (by decide) ?_
    subst hQ
    exact W.iret hx hb hr (gRi5 (c1 := q_place) (c2 := q_target) (c3 := q_minutesLeft) (c4 := q_waiting) (c5 := q_count) (wf := _) hA0 hsz hw hP hD hS) hS.2.2 dX2_put_17
  · have hw := hw.2 c_4
    refine lv_aload_n hx hb dX2_put_7 rfl (lv_at hl 0 rfl) ?_
    refine va_get (D := g.1) (ci := 6) (v := .int q_count) (C := RX2) (T := TX2) (N := 6) hx hb hts inX2_put_X2 hown hE.1 hP 0 rfl rfl 5 (by decide) (gW hts 1 (.fieldLink RX2 27 "SnowDispatcher$Ploughs" "count" "I") rfl) (fun _ h9 => h9) rfl dX2_put_8 ?_
    refine lv_iconst (v := 4) hx hb dX2_put_11 (by decide) ?_
    refine lv_icmp_lt (tgt := 18) hx hb dX2_put_12 (by decide) (fun c_12 => ?_) (fun c_12 => ?_)
    · have hw := hw.1 c_12
      refine lv_aload_n hx hb dX2_put_18 rfl (lv_at hl 0 rfl) ?_
      refine va_get (D := g.1) (ci := 6) (v := .int q_count) (C := RX2) (T := TX2) (N := 6) hx hb hts inX2_put_X2 hown hE.1 hP 0 rfl rfl 5 (by decide) (gW hts 1 (.fieldLink RX2 27 "SnowDispatcher$Ploughs" "count" "I") rfl) (fun _ h9 => h9) rfl dX2_put_19 ?_
      refine lv_istore_n (lv' := [(2, .int q_count), (0, .ref (a_pl 0)), (1, .int x1)]) hx hb dX2_put_22 rfl hl (by decide) rfl (fun ls hl => ?_)
      refine lv_aload_n hx hb dX2_put_23 rfl (lv_at hl 1 rfl) ?_
      refine va_get (D := g.1) (ci := 6) (v := .ref (a_pl 1)) (C := RX2) (T := TX2) (N := 6) hx hb hts inX2_put_X2 hown hE.1 hP 0 rfl rfl 0 (by decide) (gW hts 2 (.fieldLink RX2 9 "SnowDispatcher$Ploughs" "place" "[I") rfl) (fun _ h9 => h9) rfl dX2_put_24 ?_
      refine lv_iload_n hx hb dX2_put_27 rfl (lv_at hl 0 rfl) ?_
      refine lv_iload_n hx hb dX2_put_28 rfl (lv_at hl 2 rfl) ?_
      have h1 := hw.1
      have hw := hw.2
      refine va_iast hx hb hE.1 hP hD hS 1 0 rfl rfl h1 dX2_put_29 (fun H locs hP hD hS => ?_)
      have hP : va_P g.1 vwCl (List.flatten [kPl g a_pl (upd q_place q_count.toNatClampNeg x1) q_target q_minutesLeft q_waiting q_orders q_count]) H := hP
      have hD : va_D A (List.flatten [kPl g a_pl (upd q_place q_count.toNatClampNeg x1) q_target q_minutesLeft q_waiting q_orders q_count]) := hD
      refine lv_aload_n hx hb dX2_put_30 rfl (lv_at hl 1 rfl) ?_
      refine va_get (D := g.1) (ci := 6) (v := .ref (a_pl 2)) (C := RX2) (T := TX2) (N := 6) hx hb hts inX2_put_X2 hown hE.1 hP 0 rfl rfl 1 (by decide) (gW hts 3 (.fieldLink RX2 15 "SnowDispatcher$Ploughs" "target" "[I") rfl) (fun _ h9 => h9) rfl dX2_put_31 ?_
      refine lv_iload_n hx hb dX2_put_34 rfl (lv_at hl 0 rfl) ?_
      refine lv_iconst (v := (-1)) hx hb dX2_put_35 (by decide) ?_
      have h2 := hw.1
      have hw := hw.2
      refine va_iast hx hb hE.1 hP hD hS 2 0 rfl rfl h2 dX2_put_36 (fun H locs hP hD hS => ?_)
      have hP : va_P g.1 vwCl (List.flatten [kPl g a_pl (upd q_place q_count.toNatClampNeg x1) (upd q_target q_count.toNatClampNeg (-1)) q_minutesLeft q_waiting q_orders q_count]) H := hP
      have hD : va_D A (List.flatten [kPl g a_pl (upd q_place q_count.toNatClampNeg x1) (upd q_target q_count.toNatClampNeg (-1)) q_minutesLeft q_waiting q_orders q_count]) := hD
      refine lv_aload_n hx hb dX2_put_37 rfl (lv_at hl 1 rfl) ?_
      refine va_get (D := g.1) (ci := 6) (v := .ref (a_pl 3)) (C := RX2) (T := TX2) (N := 6) hx hb hts inX2_put_X2 hown hE.1 hP 0 rfl rfl 2 (by decide) (gW hts 4 (.fieldLink RX2 18 "SnowDispatcher$Ploughs" "minutesLeft" "[I") rfl) (fun _ h9 => h9) rfl dX2_put_38 ?_
      refine lv_iload_n hx hb dX2_put_41 rfl (lv_at hl 0 rfl) ?_
      refine lv_iconst (v := 0) hx hb dX2_put_42 (by decide) ?_
      have h3 := hw.1
      have hw := hw.2
      refine va_iast hx hb hE.1 hP hD hS 3 0 rfl rfl h3 dX2_put_43 (fun H locs hP hD hS => ?_)
      have hP : va_P g.1 vwCl (List.flatten [kPl g a_pl (upd q_place q_count.toNatClampNeg x1) (upd q_target q_count.toNatClampNeg (-1)) (upd q_minutesLeft q_count.toNatClampNeg 0) q_waiting q_orders q_count]) H := hP
      have hD : va_D A (List.flatten [kPl g a_pl (upd q_place q_count.toNatClampNeg x1) (upd q_target q_count.toNatClampNeg (-1)) (upd q_minutesLeft q_count.toNatClampNeg 0) q_waiting q_orders q_count]) := hD
      refine lv_aload_n hx hb dX2_put_44 rfl (lv_at hl 1 rfl) ?_
      refine va_get (D := g.1) (ci := 6) (v := .ref (a_pl 4)) (C := RX2) (T := TX2) (N := 6) hx hb hts inX2_put_X2 hown hE.1 hP 0 rfl rfl 3 (by decide) (gW hts 5 (.fieldLink RX2 21 "SnowDispatcher$Ploughs" "waiting" "[I") rfl) (fun _ h9 => h9) rfl dX2_put_45 ?_
      refine lv_iload_n hx hb dX2_put_48 rfl (lv_at hl 0 rfl) ?_
      refine lv_iconst (v := 0) hx hb dX2_put_49 (by decide) ?_
      have h4 := hw.1
      have hw := hw.2
      refine va_iast hx hb hE.1 hP hD hS 4 0 rfl rfl h4 dX2_put_50 (fun H locs hP hD hS => ?_)
      have hP : va_P g.1 vwCl (List.flatten [kPl g a_pl (upd q_place q_count.toNatClampNeg x1) (upd q_target q_count.toNatClampNeg (-1)) (upd q_minutesLeft q_count.toNatClampNeg 0) (upd q_waiting q_count.toNatClampNeg 0) q_orders q_count]) H := hP
      have hD : va_D A (List.flatten [kPl g a_pl (upd q_place q_count.toNatClampNeg x1) (upd q_target q_count.toNatClampNeg (-1)) (upd q_minutesLeft q_count.toNatClampNeg 0) (upd q_waiting q_count.toNatClampNeg 0) q_orders q_count]) := hD
      refine lv_aload_n hx hb dX2_put_51 rfl (lv_at hl 1 rfl) ?_
      refine lv_dup hx hb dX2_put_52 rfl ?_
      refine va_get (D := g.1) (ci := 6) (v := .int q_count) (C := RX2) (T := TX2) (N := 6) hx hb hts inX2_put_X2 hown hE.1 hP 0 rfl rfl 5 (by decide) (gW hts 1 (.fieldLink RX2 27 "SnowDispatcher$Ploughs" "count" "I") rfl) (fun _ h9 => h9) rfl dX2_put_53 ?_
      refine lv_iconst (v := 1) hx hb dX2_put_56 (by decide) ?_
      refine lv_iadd hx hb dX2_put_57 ?_
      refine va_put (D := g.1) (ci := 6) (v := .int (q_count + 1)) (ty := .int) (C := RX2) (T := TX2) (N := 6) hx hb hts inX2_put_X2 tyX2 tyX2_ok nmX2 hown hE.1 hP hD hS 0 rfl rfl 5 (by decide) (gW hts 1 (.fieldLink RX2 27 "SnowDispatcher$Ploughs" "count" "I") rfl) (fun _ h9 => h9) rfl (by decide +kernel) rfl rfl (Nat.le_of_ble_eq_true rfl) dX2_put_58 (fun H locs hP hD hS => ?_)
      have hP : va_P g.1 vwCl (List.flatten [kPl g a_pl (upd q_place q_count.toNatClampNeg x1) (upd q_target q_count.toNatClampNeg (-1)) (upd q_minutesLeft q_count.toNatClampNeg 0) (upd q_waiting q_count.toNatClampNeg 0) q_orders (q_count + 1)]) H := hP
      have hD : va_D A (List.flatten [kPl g a_pl (upd q_place q_count.toNatClampNeg x1) (upd q_target q_count.toNatClampNeg (-1)) (upd q_minutesLeft q_count.toNatClampNeg 0) (upd q_waiting q_count.toNatClampNeg 0) q_orders (q_count + 1)]) := hD
      refine lv_iload_n hx hb dX2_put_61 rfl (lv_at hl 0 rfl) ?_
      subst hQ
      exact W.iret hx hb hr (gRi5 (c1 := (upd q_place q_count.toNatClampNeg x1)) (c2 := (upd q_target q_count.toNatClampNeg (-1))) (c3 := (upd q_minutesLeft q_count.toNatClampNeg 0)) (c4 := (upd q_waiting q_count.toNatClampNeg 0)) (c5 := (q_count + 1)) (wf := _) hA0 hsz hw hP hD hS) hS.2.2 dX2_put_62
    · have hw := hw.2 c_12
      refine lv_bipush (v := (-4)) hx hb dX2_put_15 (by decide) ?_
      subst hQ
      exact W.iret hx hb hr (gRi5 (c1 := q_place) (c2 := q_target) (c3 := q_minutesLeft) (c4 := q_waiting) (c5 := q_count) (wf := _) hA0 hsz hw hP hD hS) hS.2.2 dX2_put_17
abbrev rmX2_waitingAt : Room := { frames := 2, cells := 0, slots := 0, locals := 122 }
set_option maxRecDepth 20000 in
theorem inX2_waitingAt_X2 : ∀ w ∈ wsX20, w ∈ wsX2_waitingAt := by decide +kernel
set_option maxHeartbeats 4000000 in
set_option maxRecDepth 100000 in
theorem ctX2_waitingAt (l : Launch) (g : GG) (a_pl : Nat → Nat) (sz : Nat) (q_place : Nat → Int32) (q_target : Nat → Int32) (q_minutesLeft : Nat → Int32) (q_waiting : Nat → Int32) (q_orders : Nat → Int32) (q_count : Int32) (x1 : Int32) (x2 : Int32) {post : Int32 → Prop} (hw : wpX2_waitingAt x1 x2 q_waiting q_orders q_count post) :
    Met l yX2_waitingAt wsX2_waitingAt rmX2_waitingAt (gPc g sz (List.flatten [kPl g a_pl q_place q_target q_minutesLeft q_waiting q_orders q_count]) [.ref (a_pl 0), .int x1, .int x2]) (gQi0 post (gB g (List.flatten [kPl g a_pl q_place q_target q_minutesLeft q_waiting q_orders q_count]) sz (List.flatten [kPl g a_pl q_place q_target q_minutesLeft q_waiting q_orders q_count])) (va_A (List.flatten [kPl g a_pl q_place q_target q_minutesLeft q_waiting q_orders q_count]) sz)) 0 0 (va_A (List.flatten [kPl g a_pl q_place q_target q_minutesLeft q_waiting q_orders q_count]) sz) := by
  refine gOf (cc := cX2_waitingAt) (maxL := 3) (ret := (some .int)) (by decide) rfl (Nat.le_of_ble_eq_true rfl) ?_
  intro p e s m below meth c ls Q A hQ hx hb hr hml hts hown hlocks hE hA0 hsz hP hD hA hS hl
  have hl : lv_has ls 3 [(0, .ref (a_pl 0)), (1, .int x1), (2, .int x2)] := hl
  refine lv_aload_n hx hb dX2_waitingAt_0 rfl (lv_at hl 0 rfl) ?_
  refine lv_iload_n hx hb dX2_waitingAt_1 rfl (lv_at hl 1 rfl) ?_
  refine gCi0 (gRunV (As := [.int x1]) (rest := []) ⟨hx, hb, hml, hown, hts⟩ (ctX2_has l g a_pl _ q_place q_target q_minutesLeft q_waiting q_orders q_count x1 hw) (cwV 1 hts gX2_waitingAt_X2_has rfl rfl rfl (by decide +kernel) ⟨Nat.le_of_ble_eq_true rfl, Nat.le_of_ble_eq_true rfl⟩) hE (gSub hP [0]) (gDSub hD [0] rfl) 0 6 rfl rfl rfl rfl rfl hl.1 rfl (lv_room (Nat.le_of_ble_eq_true rfl)) dX2_waitingAt_2 ⟨Nat.le_of_ble_eq_true rfl, Nat.le_of_ble_eq_true rfl⟩) hP hD hS hA [0] rfl rfl rfl (fun r1 H locs hw hP hD hS => ?_)
  have hP : va_P g.1 vwCl (List.flatten [kPl g a_pl q_place q_target q_minutesLeft q_waiting q_orders q_count]) H := hP
  have hD : va_D A (List.flatten [kPl g a_pl q_place q_target q_minutesLeft q_waiting q_orders q_count]) := hD
  refine lv_if_eq (tgt := 27) hx hb dX2_waitingAt_5 (by decide) (fun c_5 => ?_) (fun c_5 => ?_)
  · have hw := hw.1 c_5
    refine lv_iconst (v := (-1)) hx hb dX2_waitingAt_27 (by decide) ?_
    subst hQ
    exact W.iret hx hb hr (gRi0 (wf := _) hA0 hsz hw hP hD hS) hS.2.2 dX2_waitingAt_28
  · have hw := hw.2 c_5
    refine lv_iload_n hx hb dX2_waitingAt_8 rfl (lv_at hl 2 rfl) ?_
    refine lv_if_lt (tgt := 27) hx hb dX2_waitingAt_9 (by decide) (fun c_9 => ?_) (fun c_9 => ?_)
    · have hw := hw.1 c_9
      refine lv_iconst (v := (-1)) hx hb dX2_waitingAt_27 (by decide) ?_
      subst hQ
      exact W.iret hx hb hr (gRi0 (wf := _) hA0 hsz hw hP hD hS) hS.2.2 dX2_waitingAt_28
    · have hw := hw.2 c_9
      refine lv_iload_n hx hb dX2_waitingAt_12 rfl (lv_at hl 2 rfl) ?_
      refine lv_aload_n hx hb dX2_waitingAt_13 rfl (lv_at hl 0 rfl) ?_
      refine va_get (D := g.1) (ci := 6) (v := .ref (a_pl 4)) (C := RX2) (T := TX2) (N := 6) hx hb hts inX2_waitingAt_X2 hown hE.1 hP 0 rfl rfl 3 (by decide) (gW hts 1 (.fieldLink RX2 21 "SnowDispatcher$Ploughs" "waiting" "[I") rfl) (fun _ h9 => h9) rfl dX2_waitingAt_14 ?_
      refine lv_iload_n hx hb dX2_waitingAt_17 rfl (lv_at hl 1 rfl) ?_
      have h2 := hw.1
      have hw := hw.2
      refine va_iald hx hb hE.1 hP 4 0 rfl rfl h2 dX2_waitingAt_18 ?_
      refine lv_icmp_ge (tgt := 27) hx hb dX2_waitingAt_19 (by decide) (fun c_19 => ?_) (fun c_19 => ?_)
      · have hw := hw.1 c_19
        refine lv_iconst (v := (-1)) hx hb dX2_waitingAt_27 (by decide) ?_
        subst hQ
        exact W.iret hx hb hr (gRi0 (wf := _) hA0 hsz hw hP hD hS) hS.2.2 dX2_waitingAt_28
      · have hw := hw.2 c_19
        refine lv_iload_n hx hb dX2_waitingAt_22 rfl (lv_at hl 2 rfl) ?_
        refine lv_iconst (v := 5) hx hb dX2_waitingAt_23 (by decide) ?_
        refine lv_icmp_lt (tgt := 29) hx hb dX2_waitingAt_24 (by decide) (fun c_24 => ?_) (fun c_24 => ?_)
        · have hw := hw.1 c_24
          refine lv_aload_n hx hb dX2_waitingAt_29 rfl (lv_at hl 0 rfl) ?_
          refine va_get (D := g.1) (ci := 6) (v := .ref (a_pl 5)) (C := RX2) (T := TX2) (N := 6) hx hb hts inX2_waitingAt_X2 hown hE.1 hP 0 rfl rfl 4 (by decide) (gW hts 2 (.fieldLink RX2 24 "SnowDispatcher$Ploughs" "orders" "[I") rfl) (fun _ h9 => h9) rfl dX2_waitingAt_30 ?_
          refine lv_iload_n hx hb dX2_waitingAt_33 rfl (lv_at hl 1 rfl) ?_
          refine lv_iconst (v := 5) hx hb dX2_waitingAt_34 (by decide) ?_
          refine lv_imul hx hb dX2_waitingAt_35 ?_
          refine lv_iload_n hx hb dX2_waitingAt_36 rfl (lv_at hl 2 rfl) ?_
          refine lv_iadd hx hb dX2_waitingAt_37 ?_
          have h3 := hw.1
          have hw := hw.2
          refine va_iald hx hb hE.1 hP 5 0 rfl rfl h3 dX2_waitingAt_38 ?_
          subst hQ
          exact W.iret hx hb hr (gRi0 (wf := _) hA0 hsz hw hP hD hS) hS.2.2 dX2_waitingAt_39
        · have hw := hw.2 c_24
          refine lv_iconst (v := (-1)) hx hb dX2_waitingAt_27 (by decide) ?_
          subst hQ
          exact W.iret hx hb hr (gRi0 (wf := _) hA0 hsz hw hP hD hS) hS.2.2 dX2_waitingAt_28
abbrev rmX2_append : Room := { frames := 2, cells := 0, slots := 0, locals := 122 }
set_option maxRecDepth 20000 in
theorem inX2_append_X2 : ∀ w ∈ wsX20, w ∈ wsX2_append := by decide +kernel
set_option maxHeartbeats 4000000 in
set_option maxRecDepth 100000 in
theorem ctX2_append (l : Launch) (g : GG) (a_pl : Nat → Nat) (sz : Nat) (q_place : Nat → Int32) (q_target : Nat → Int32) (q_minutesLeft : Nat → Int32) (q_waiting : Nat → Int32) (q_orders : Nat → Int32) (q_count : Int32) (x1 : Int32) (x2 : Int32) {post : Int32 → (Nat → Int32) → (Nat → Int32) → Prop} (hw : wpX2_append x1 x2 q_waiting q_orders q_count post) :
    Met l yX2_append wsX2_append rmX2_append (gPc g sz (List.flatten [kPl g a_pl q_place q_target q_minutesLeft q_waiting q_orders q_count]) [.ref (a_pl 0), .int x1, .int x2]) (gQi2 post (fun u1 u2 => gB g (List.flatten [kPl g a_pl q_place q_target q_minutesLeft q_waiting q_orders q_count]) sz (List.flatten [kPl g a_pl q_place q_target q_minutesLeft u1 u2 q_count])) (va_A (List.flatten [kPl g a_pl q_place q_target q_minutesLeft q_waiting q_orders q_count]) sz)) 0 0 (va_A (List.flatten [kPl g a_pl q_place q_target q_minutesLeft q_waiting q_orders q_count]) sz) := by
  refine gOf (cc := cX2_append) (maxL := 4) (ret := (some .int)) (by decide) rfl (Nat.le_of_ble_eq_true rfl) ?_
  intro p e s m below meth c ls Q A hQ hx hb hr hml hts hown hlocks hE hA0 hsz hP hD hA hS hl
  have hl : lv_has ls 4 [(0, .ref (a_pl 0)), (1, .int x1), (2, .int x2)] := hl
  refine lv_aload_n hx hb dX2_append_0 rfl (lv_at hl 0 rfl) ?_
  refine lv_iload_n hx hb dX2_append_1 rfl (lv_at hl 1 rfl) ?_
  refine gCi0 (gRunV (As := [.int x1]) (rest := []) ⟨hx, hb, hml, hown, hts⟩ (ctX2_has l g a_pl _ q_place q_target q_minutesLeft q_waiting q_orders q_count x1 hw) (cwV 1 hts gX2_append_X2_has rfl rfl rfl (by decide +kernel) ⟨Nat.le_of_ble_eq_true rfl, Nat.le_of_ble_eq_true rfl⟩) hE (gSub hP [0]) (gDSub hD [0] rfl) 0 6 rfl rfl rfl rfl rfl hl.1 rfl (lv_room (Nat.le_of_ble_eq_true rfl)) dX2_append_2 ⟨Nat.le_of_ble_eq_true rfl, Nat.le_of_ble_eq_true rfl⟩) hP hD hS hA [0] rfl rfl rfl (fun r1 H locs hw hP hD hS => ?_)
  have hP : va_P g.1 vwCl (List.flatten [kPl g a_pl q_place q_target q_minutesLeft q_waiting q_orders q_count]) H := hP
  have hD : va_D A (List.flatten [kPl g a_pl q_place q_target q_minutesLeft q_waiting q_orders q_count]) := hD
  refine lv_if_ne (tgt := 10) hx hb dX2_append_5 (by decide) (fun c_5 => ?_) (fun c_5 => ?_)
  · have hw := hw.1 c_5
    refine lv_aload_n hx hb dX2_append_10 rfl (lv_at hl 0 rfl) ?_
    refine va_get (D := g.1) (ci := 6) (v := .ref (a_pl 4)) (C := RX2) (T := TX2) (N := 6) hx hb hts inX2_append_X2 hown hE.1 hP 0 rfl rfl 3 (by decide) (gW hts 1 (.fieldLink RX2 21 "SnowDispatcher$Ploughs" "waiting" "[I") rfl) (fun _ h9 => h9) rfl dX2_append_11 ?_
    refine lv_iload_n hx hb dX2_append_14 rfl (lv_at hl 1 rfl) ?_
    have h2 := hw.1
    have hw := hw.2
    refine va_iald hx hb hE.1 hP 4 0 rfl rfl h2 dX2_append_15 ?_
    refine lv_istore_n (lv' := [(3, .int (q_waiting x1.toNatClampNeg)), (0, .ref (a_pl 0)), (1, .int x1), (2, .int x2)]) hx hb dX2_append_16 rfl hl (by decide) rfl (fun ls hl => ?_)
    refine lv_iload_n hx hb dX2_append_17 rfl (lv_at hl 0 rfl) ?_
    refine lv_if_lt (tgt := 26) hx hb dX2_append_18 (by decide) (fun c_18 => ?_) (fun c_18 => ?_)
    · have hw := hw.1 c_18
      refine lv_bipush (v := (-4)) hx hb dX2_append_26 (by decide) ?_
      subst hQ
      exact W.iret hx hb hr (gRi2 (c1 := q_waiting) (c2 := q_orders) (wf := _) hA0 hsz hw hP hD hS) hS.2.2 dX2_append_28
    · have hw := hw.2 c_18
      refine lv_iload_n hx hb dX2_append_21 rfl (lv_at hl 0 rfl) ?_
      refine lv_iconst (v := 5) hx hb dX2_append_22 (by decide) ?_
      refine lv_icmp_lt (tgt := 29) hx hb dX2_append_23 (by decide) (fun c_23 => ?_) (fun c_23 => ?_)
      · have hw := hw.1 c_23
        refine lv_aload_n hx hb dX2_append_29 rfl (lv_at hl 1 rfl) ?_
        refine va_get (D := g.1) (ci := 6) (v := .ref (a_pl 5)) (C := RX2) (T := TX2) (N := 6) hx hb hts inX2_append_X2 hown hE.1 hP 0 rfl rfl 4 (by decide) (gW hts 2 (.fieldLink RX2 24 "SnowDispatcher$Ploughs" "orders" "[I") rfl) (fun _ h9 => h9) rfl dX2_append_30 ?_
        refine lv_iload_n hx hb dX2_append_33 rfl (lv_at hl 2 rfl) ?_
        refine lv_iconst (v := 5) hx hb dX2_append_34 (by decide) ?_
        refine lv_imul hx hb dX2_append_35 ?_
        refine lv_iload_n hx hb dX2_append_36 rfl (lv_at hl 0 rfl) ?_
        refine lv_iadd hx hb dX2_append_37 ?_
        refine lv_iload_n hx hb dX2_append_38 rfl (lv_at hl 3 rfl) ?_
        have h3 := hw.1
        have hw := hw.2
        refine va_iast hx hb hE.1 hP hD hS 5 0 rfl rfl h3 dX2_append_39 (fun H locs hP hD hS => ?_)
        have hP : va_P g.1 vwCl (List.flatten [kPl g a_pl q_place q_target q_minutesLeft q_waiting (upd q_orders ((x1 * 5) + (q_waiting x1.toNatClampNeg)).toNatClampNeg x2) q_count]) H := hP
        have hD : va_D A (List.flatten [kPl g a_pl q_place q_target q_minutesLeft q_waiting (upd q_orders ((x1 * 5) + (q_waiting x1.toNatClampNeg)).toNatClampNeg x2) q_count]) := hD
        refine lv_aload_n hx hb dX2_append_40 rfl (lv_at hl 1 rfl) ?_
        refine va_get (D := g.1) (ci := 6) (v := .ref (a_pl 4)) (C := RX2) (T := TX2) (N := 6) hx hb hts inX2_append_X2 hown hE.1 hP 0 rfl rfl 3 (by decide) (gW hts 1 (.fieldLink RX2 21 "SnowDispatcher$Ploughs" "waiting" "[I") rfl) (fun _ h9 => h9) rfl dX2_append_41 ?_
        refine lv_iload_n hx hb dX2_append_44 rfl (lv_at hl 2 rfl) ?_
        refine lv_dup2_11 hx hb dX2_append_45 rfl rfl ?_
        have h4 := hw.1
        have hw := hw.2
        refine va_iald hx hb hE.1 hP 4 0 rfl rfl h4 dX2_append_46 ?_
        refine lv_iconst (v := 1) hx hb dX2_append_47 (by decide) ?_
        refine lv_iadd hx hb dX2_append_48 ?_
        have h5 := hw.1
        have hw := hw.2
        refine va_iast hx hb hE.1 hP hD hS 4 0 rfl rfl h5 dX2_append_49 (fun H locs hP hD hS => ?_)
        have hP : va_P g.1 vwCl (List.flatten [kPl g a_pl q_place q_target q_minutesLeft (upd q_waiting x1.toNatClampNeg ((q_waiting x1.toNatClampNeg) + 1)) (upd q_orders ((x1 * 5) + (q_waiting x1.toNatClampNeg)).toNatClampNeg x2) q_count]) H := hP
        have hD : va_D A (List.flatten [kPl g a_pl q_place q_target q_minutesLeft (upd q_waiting x1.toNatClampNeg ((q_waiting x1.toNatClampNeg) + 1)) (upd q_orders ((x1 * 5) + (q_waiting x1.toNatClampNeg)).toNatClampNeg x2) q_count]) := hD
        refine lv_aload_n hx hb dX2_append_50 rfl (lv_at hl 1 rfl) ?_
        refine va_get (D := g.1) (ci := 6) (v := .ref (a_pl 4)) (C := RX2) (T := TX2) (N := 6) hx hb hts inX2_append_X2 hown hE.1 hP 0 rfl rfl 3 (by decide) (gW hts 1 (.fieldLink RX2 21 "SnowDispatcher$Ploughs" "waiting" "[I") rfl) (fun _ h9 => h9) rfl dX2_append_51 ?_
        refine lv_iload_n hx hb dX2_append_54 rfl (lv_at hl 2 rfl) ?_
        have h6 := hw.1
        have hw := hw.2
        refine va_iald hx hb hE.1 hP 4 0 rfl rfl h6 dX2_append_55 ?_
        subst hQ
        exact W.iret hx hb hr (gRi2 (c1 := (upd q_waiting x1.toNatClampNeg ((q_waiting x1.toNatClampNeg) + 1))) (c2 := (upd q_orders ((x1 * 5) + (q_waiting x1.toNatClampNeg)).toNatClampNeg x2)) (wf := _) hA0 hsz hw hP hD hS) hS.2.2 dX2_append_56
      · have hw := hw.2 c_23
        refine lv_bipush (v := (-4)) hx hb dX2_append_26 (by decide) ?_
        subst hQ
        exact W.iret hx hb hr (gRi2 (c1 := q_waiting) (c2 := q_orders) (wf := _) hA0 hsz hw hP hD hS) hS.2.2 dX2_append_28
  · have hw := hw.2 c_5
    refine lv_iconst (v := (-1)) hx hb dX2_append_8 (by decide) ?_
    subst hQ
    exact W.iret hx hb hr (gRi2 (c1 := q_waiting) (c2 := q_orders) (wf := _) hA0 hsz hw hP hD hS) hS.2.2 dX2_append_9
abbrev rmX2_removeLast : Room := { frames := 3, cells := 0, slots := 0, locals := 145 }
set_option maxRecDepth 20000 in
theorem inX2_removeLast_X2 : ∀ w ∈ wsX20, w ∈ wsX2_removeLast := by decide +kernel
set_option maxHeartbeats 4000000 in
set_option maxRecDepth 100000 in
theorem ctX2_removeLast (l : Launch) (g : GG) (a_pl : Nat → Nat) (sz : Nat) (q_place : Nat → Int32) (q_target : Nat → Int32) (q_minutesLeft : Nat → Int32) (q_waiting : Nat → Int32) (q_orders : Nat → Int32) (q_count : Int32) (x1 : Int32) {post : Int32 → (Nat → Int32) → Prop} (hw : wpX2_removeLast x1 q_waiting q_orders q_count post) :
    Met l yX2_removeLast wsX2_removeLast rmX2_removeLast (gPc g sz (List.flatten [kPl g a_pl q_place q_target q_minutesLeft q_waiting q_orders q_count]) [.ref (a_pl 0), .int x1]) (gQi1 post (fun u1 => gB g (List.flatten [kPl g a_pl q_place q_target q_minutesLeft q_waiting q_orders q_count]) sz (List.flatten [kPl g a_pl q_place q_target q_minutesLeft u1 q_orders q_count])) (va_A (List.flatten [kPl g a_pl q_place q_target q_minutesLeft q_waiting q_orders q_count]) sz)) 0 0 (va_A (List.flatten [kPl g a_pl q_place q_target q_minutesLeft q_waiting q_orders q_count]) sz) := by
  refine gOf (cc := cX2_removeLast) (maxL := 3) (ret := (some .int)) (by decide) rfl (Nat.le_of_ble_eq_true rfl) ?_
  intro p e s m below meth c ls Q A hQ hx hb hr hml hts hown hlocks hE hA0 hsz hP hD hA hS hl
  have hl : lv_has ls 3 [(0, .ref (a_pl 0)), (1, .int x1)] := hl
  refine lv_aload_n hx hb dX2_removeLast_0 rfl (lv_at hl 0 rfl) ?_
  refine lv_iload_n hx hb dX2_removeLast_1 rfl (lv_at hl 1 rfl) ?_
  refine gCi0 (gRunV (As := [.int x1]) (rest := []) ⟨hx, hb, hml, hown, hts⟩ (ctX2_has l g a_pl _ q_place q_target q_minutesLeft q_waiting q_orders q_count x1 hw) (cwV 1 hts gX2_removeLast_X2_has rfl rfl rfl (by decide +kernel) ⟨Nat.le_of_ble_eq_true rfl, Nat.le_of_ble_eq_true rfl⟩) hE (gSub hP [0]) (gDSub hD [0] rfl) 0 6 rfl rfl rfl rfl rfl hl.1 rfl (lv_room (Nat.le_of_ble_eq_true rfl)) dX2_removeLast_2 ⟨Nat.le_of_ble_eq_true rfl, Nat.le_of_ble_eq_true rfl⟩) hP hD hS hA [0] rfl rfl rfl (fun r1 H locs hw hP hD hS => ?_)
  have hP : va_P g.1 vwCl (List.flatten [kPl g a_pl q_place q_target q_minutesLeft q_waiting q_orders q_count]) H := hP
  have hD : va_D A (List.flatten [kPl g a_pl q_place q_target q_minutesLeft q_waiting q_orders q_count]) := hD
  refine lv_if_ne (tgt := 10) hx hb dX2_removeLast_5 (by decide) (fun c_5 => ?_) (fun c_5 => ?_)
  · have hw := hw.1 c_5
    refine lv_aload_n hx hb dX2_removeLast_10 rfl (lv_at hl 0 rfl) ?_
    refine lv_iload_n hx hb dX2_removeLast_11 rfl (lv_at hl 1 rfl) ?_
    refine lv_aload_n hx hb dX2_removeLast_12 rfl (lv_at hl 0 rfl) ?_
    refine va_get (D := g.1) (ci := 6) (v := .ref (a_pl 4)) (C := RX2) (T := TX2) (N := 6) hx hb hts inX2_removeLast_X2 hown hE.1 hP 0 rfl rfl 3 (by decide) (gW hts 1 (.fieldLink RX2 21 "SnowDispatcher$Ploughs" "waiting" "[I") rfl) (fun _ h9 => h9) rfl dX2_removeLast_13 ?_
    refine lv_iload_n hx hb dX2_removeLast_16 rfl (lv_at hl 1 rfl) ?_
    have h2 := hw.1
    have hw := hw.2
    refine va_iald hx hb hE.1 hP 4 0 rfl rfl h2 dX2_removeLast_17 ?_
    refine lv_iconst (v := 1) hx hb dX2_removeLast_18 (by decide) ?_
    refine lv_isub hx hb dX2_removeLast_19 ?_
    refine gCi0 (gRunV (As := [.int x1, .int ((q_waiting x1.toNatClampNeg) - 1)]) (rest := []) ⟨hx, hb, hml, hown, hts⟩ (ctX2_waitingAt l g a_pl _ q_place q_target q_minutesLeft q_waiting q_orders q_count x1 ((q_waiting x1.toNatClampNeg) - 1) hw) (cwV 2 hts gX2_removeLast_X2_waitingAt rfl rfl rfl (by decide +kernel) ⟨Nat.le_of_ble_eq_true rfl, Nat.le_of_ble_eq_true rfl⟩) hE (gSub hP [0]) (gDSub hD [0] rfl) 0 6 rfl rfl rfl rfl rfl hl.1 rfl (lv_room (Nat.le_of_ble_eq_true rfl)) dX2_removeLast_20 ⟨Nat.le_of_ble_eq_true rfl, Nat.le_of_ble_eq_true rfl⟩) hP hD hS hA [0] rfl rfl rfl (fun r3 H locs hw hP hD hS => ?_)
    have hP : va_P g.1 vwCl (List.flatten [kPl g a_pl q_place q_target q_minutesLeft q_waiting q_orders q_count]) H := hP
    have hD : va_D A (List.flatten [kPl g a_pl q_place q_target q_minutesLeft q_waiting q_orders q_count]) := hD
    refine lv_istore_n (lv' := [(2, .int r3), (0, .ref (a_pl 0)), (1, .int x1)]) hx hb dX2_removeLast_23 rfl hl (by decide) rfl (fun ls hl => ?_)
    refine lv_iload_n hx hb dX2_removeLast_24 rfl (lv_at hl 0 rfl) ?_
    refine lv_if_ge (tgt := 31) hx hb dX2_removeLast_25 (by decide) (fun c_25 => ?_) (fun c_25 => ?_)
    · have hw := hw.1 c_25
      refine lv_aload_n hx hb dX2_removeLast_31 rfl (lv_at hl 1 rfl) ?_
      refine va_get (D := g.1) (ci := 6) (v := .ref (a_pl 4)) (C := RX2) (T := TX2) (N := 6) hx hb hts inX2_removeLast_X2 hown hE.1 hP 0 rfl rfl 3 (by decide) (gW hts 1 (.fieldLink RX2 21 "SnowDispatcher$Ploughs" "waiting" "[I") rfl) (fun _ h9 => h9) rfl dX2_removeLast_32 ?_
      refine lv_iload_n hx hb dX2_removeLast_35 rfl (lv_at hl 2 rfl) ?_
      refine lv_dup2_11 hx hb dX2_removeLast_36 rfl rfl ?_
      have h4 := hw.1
      have hw := hw.2
      refine va_iald hx hb hE.1 hP 4 0 rfl rfl h4 dX2_removeLast_37 ?_
      refine lv_iconst (v := 1) hx hb dX2_removeLast_38 (by decide) ?_
      refine lv_isub hx hb dX2_removeLast_39 ?_
      have h5 := hw.1
      have hw := hw.2
      refine va_iast hx hb hE.1 hP hD hS 4 0 rfl rfl h5 dX2_removeLast_40 (fun H locs hP hD hS => ?_)
      have hP : va_P g.1 vwCl (List.flatten [kPl g a_pl q_place q_target q_minutesLeft (upd q_waiting x1.toNatClampNeg ((q_waiting x1.toNatClampNeg) - 1)) q_orders q_count]) H := hP
      have hD : va_D A (List.flatten [kPl g a_pl q_place q_target q_minutesLeft (upd q_waiting x1.toNatClampNeg ((q_waiting x1.toNatClampNeg) - 1)) q_orders q_count]) := hD
      refine lv_iload_n hx hb dX2_removeLast_41 rfl (lv_at hl 0 rfl) ?_
      subst hQ
      exact W.iret hx hb hr (gRi1 (c1 := (upd q_waiting x1.toNatClampNeg ((q_waiting x1.toNatClampNeg) - 1))) (wf := _) hA0 hsz hw hP hD hS) hS.2.2 dX2_removeLast_42
    · have hw := hw.2 c_25
      refine lv_bipush (v := (-5)) hx hb dX2_removeLast_28 (by decide) ?_
      subst hQ
      exact W.iret hx hb hr (gRi1 (c1 := q_waiting) (wf := _) hA0 hsz hw hP hD hS) hS.2.2 dX2_removeLast_30
  · have hw := hw.2 c_5
    refine lv_iconst (v := (-1)) hx hb dX2_removeLast_8 (by decide) ?_
    subst hQ
    exact W.iret hx hb hr (gRi1 (c1 := q_waiting) (wf := _) hA0 hsz hw hP hD hS) hS.2.2 dX2_removeLast_9
abbrev rmX2_canBegin : Room := { frames := 2, cells := 0, slots := 0, locals := 122 }
set_option maxRecDepth 20000 in
theorem inX2_canBegin_X2 : ∀ w ∈ wsX20, w ∈ wsX2_canBegin := by decide +kernel
set_option maxHeartbeats 4000000 in
set_option maxRecDepth 100000 in
theorem ctX2_canBegin (l : Launch) (g : GG) (a_pl : Nat → Nat) (sz : Nat) (q_place : Nat → Int32) (q_target : Nat → Int32) (q_minutesLeft : Nat → Int32) (q_waiting : Nat → Int32) (q_orders : Nat → Int32) (q_count : Int32) (x1 : Int32) {post : Int32 → Prop} (hw : wpX2_canBegin x1 q_minutesLeft q_waiting q_count post) :
    Met l yX2_canBegin wsX2_canBegin rmX2_canBegin (gPc g sz (List.flatten [kPl g a_pl q_place q_target q_minutesLeft q_waiting q_orders q_count]) [.ref (a_pl 0), .int x1]) (gQi0 post (gB g (List.flatten [kPl g a_pl q_place q_target q_minutesLeft q_waiting q_orders q_count]) sz (List.flatten [kPl g a_pl q_place q_target q_minutesLeft q_waiting q_orders q_count])) (va_A (List.flatten [kPl g a_pl q_place q_target q_minutesLeft q_waiting q_orders q_count]) sz)) 0 0 (va_A (List.flatten [kPl g a_pl q_place q_target q_minutesLeft q_waiting q_orders q_count]) sz) := by
  refine gOf (cc := cX2_canBegin) (maxL := 2) (ret := (some .boolean)) (by decide) rfl (Nat.le_of_ble_eq_true rfl) ?_
  intro p e s m below meth c ls Q A hQ hx hb hr hml hts hown hlocks hE hA0 hsz hP hD hA hS hl
  have hl : lv_has ls 2 [(0, .ref (a_pl 0)), (1, .int x1)] := hl
  refine lv_aload_n hx hb dX2_canBegin_0 rfl (lv_at hl 0 rfl) ?_
  refine lv_iload_n hx hb dX2_canBegin_1 rfl (lv_at hl 1 rfl) ?_
  refine gCi0 (gRunV (As := [.int x1]) (rest := []) ⟨hx, hb, hml, hown, hts⟩ (ctX2_has l g a_pl _ q_place q_target q_minutesLeft q_waiting q_orders q_count x1 hw) (cwV 1 hts gX2_canBegin_X2_has rfl rfl rfl (by decide +kernel) ⟨Nat.le_of_ble_eq_true rfl, Nat.le_of_ble_eq_true rfl⟩) hE (gSub hP [0]) (gDSub hD [0] rfl) 0 6 rfl rfl rfl rfl rfl hl.1 rfl (lv_room (Nat.le_of_ble_eq_true rfl)) dX2_canBegin_2 ⟨Nat.le_of_ble_eq_true rfl, Nat.le_of_ble_eq_true rfl⟩) hP hD hS hA [0] rfl rfl rfl (fun r1 H locs hw hP hD hS => ?_)
  have hP : va_P g.1 vwCl (List.flatten [kPl g a_pl q_place q_target q_minutesLeft q_waiting q_orders q_count]) H := hP
  have hD : va_D A (List.flatten [kPl g a_pl q_place q_target q_minutesLeft q_waiting q_orders q_count]) := hD
  refine lv_if_eq (tgt := 30) hx hb dX2_canBegin_5 (by decide) (fun c_5 => ?_) (fun c_5 => ?_)
  · have hw := hw.1 c_5
    refine lv_iconst (v := 0) hx hb dX2_canBegin_30 (by decide) ?_
    subst hQ
    exact W.zret (ty := .boolean) hx hb hr (by decide) (gRi0 (wf := _) hA0 hsz hw hP hD hS) hS.2.2 dX2_canBegin_31
  · have hw := hw.2 c_5
    refine lv_aload_n hx hb dX2_canBegin_8 rfl (lv_at hl 0 rfl) ?_
    refine va_get (D := g.1) (ci := 6) (v := .ref (a_pl 3)) (C := RX2) (T := TX2) (N := 6) hx hb hts inX2_canBegin_X2 hown hE.1 hP 0 rfl rfl 2 (by decide) (gW hts 1 (.fieldLink RX2 18 "SnowDispatcher$Ploughs" "minutesLeft" "[I") rfl) (fun _ h9 => h9) rfl dX2_canBegin_9 ?_
    refine lv_iload_n hx hb dX2_canBegin_12 rfl (lv_at hl 1 rfl) ?_
    have h2 := hw.1
    have hw := hw.2
    refine va_iald hx hb hE.1 hP 3 0 rfl rfl h2 dX2_canBegin_13 ?_
    refine lv_if_ne (tgt := 30) hx hb dX2_canBegin_14 (by decide) (fun c_14 => ?_) (fun c_14 => ?_)
    · have hw := hw.1 c_14
      refine lv_iconst (v := 0) hx hb dX2_canBegin_30 (by decide) ?_
      subst hQ
      exact W.zret (ty := .boolean) hx hb hr (by decide) (gRi0 (wf := _) hA0 hsz hw hP hD hS) hS.2.2 dX2_canBegin_31
    · have hw := hw.2 c_14
      refine lv_aload_n hx hb dX2_canBegin_17 rfl (lv_at hl 0 rfl) ?_
      refine va_get (D := g.1) (ci := 6) (v := .ref (a_pl 4)) (C := RX2) (T := TX2) (N := 6) hx hb hts inX2_canBegin_X2 hown hE.1 hP 0 rfl rfl 3 (by decide) (gW hts 2 (.fieldLink RX2 21 "SnowDispatcher$Ploughs" "waiting" "[I") rfl) (fun _ h9 => h9) rfl dX2_canBegin_18 ?_
      refine lv_iload_n hx hb dX2_canBegin_21 rfl (lv_at hl 1 rfl) ?_
      have h3 := hw.1
      have hw := hw.2
      refine va_iald hx hb hE.1 hP 4 0 rfl rfl h3 dX2_canBegin_22 ?_
      refine lv_if_le (tgt := 30) hx hb dX2_canBegin_23 (by decide) (fun c_23 => ?_) (fun c_23 => ?_)
      · have hw := hw.1 c_23
        refine lv_iconst (v := 0) hx hb dX2_canBegin_30 (by decide) ?_
        subst hQ
        exact W.zret (ty := .boolean) hx hb hr (by decide) (gRi0 (wf := _) hA0 hsz hw hP hD hS) hS.2.2 dX2_canBegin_31
      · have hw := hw.2 c_23
        refine lv_iconst (v := 1) hx hb dX2_canBegin_26 (by decide) ?_
        refine lv_goto (tgt := 31) hx hb dX2_canBegin_27 (by decide) ?_
        subst hQ
        exact W.zret (ty := .boolean) hx hb hr (by decide) (gRi0 (wf := _) hA0 hsz hw hP hD hS) hS.2.2 dX2_canBegin_31
abbrev rmX2_removeFirst : Room := { frames := 3, cells := 0, slots := 0, locals := 145 }
set_option maxRecDepth 20000 in
theorem inX2_removeFirst_X2 : ∀ w ∈ wsX20, w ∈ wsX2_removeFirst := by decide +kernel
set_option maxHeartbeats 4000000 in
set_option maxRecDepth 100000 in
theorem ctX2_removeFirst (l : Launch) (g : GG) (a_pl : Nat → Nat) (sz : Nat) (q_place : Nat → Int32) (q_target : Nat → Int32) (q_minutesLeft : Nat → Int32) (q_waiting : Nat → Int32) (q_orders : Nat → Int32) (q_count : Int32) (x1 : Int32) {post : Int32 → (Nat → Int32) → (Nat → Int32) → Prop} (hw : wpX2_removeFirst x1 q_waiting q_orders q_count post) :
    Met l yX2_removeFirst wsX2_removeFirst rmX2_removeFirst (gPc g sz (List.flatten [kPl g a_pl q_place q_target q_minutesLeft q_waiting q_orders q_count]) [.ref (a_pl 0), .int x1]) (gQi2 post (fun u1 u2 => gB g (List.flatten [kPl g a_pl q_place q_target q_minutesLeft q_waiting q_orders q_count]) sz (List.flatten [kPl g a_pl q_place q_target q_minutesLeft u1 u2 q_count])) (va_A (List.flatten [kPl g a_pl q_place q_target q_minutesLeft q_waiting q_orders q_count]) sz)) 0 0 (va_A (List.flatten [kPl g a_pl q_place q_target q_minutesLeft q_waiting q_orders q_count]) sz) := by
  refine gOf (cc := cX2_removeFirst) (maxL := 5) (ret := (some .int)) (by decide) rfl (Nat.le_of_ble_eq_true rfl) ?_
  intro p e s m below meth c ls Q A hQ hx hb hr hml hts hown hlocks hE hA0 hsz hP hD hA hS hl
  have hl : lv_has ls 5 [(0, .ref (a_pl 0)), (1, .int x1)] := hl
  have L28 : ∀ (n : Nat) (x2_28 : Int32) (x3_28 : Int32) (q_waiting_28 : Nat → Int32) (x4_28 : Int32) (q_orders_28 : Nat → Int32) (H : Heap) (locs : List Loc) (ls : Array Slot), wpX2_removeFirst_L28 x1 q_count x2_28 x3_28 q_waiting_28 post n x4_28 q_orders_28 → va_P g.1 vwCl (List.flatten [kPl g a_pl q_place q_target q_minutesLeft q_waiting_28 q_orders_28 q_count]) H → va_D A (List.flatten [kPl g a_pl q_place q_target q_minutesLeft q_waiting_28 q_orders_28 q_count]) → va_S A s.heap H locs → lv_has ls 5 [(0, .ref (a_pl 0)), (1, .int x1), (2, .int x2_28), (3, .int x3_28), (4, .int x4_28)] → W p l e rmX2_removeFirst s m (([.ref (a_pl 0), .int x1] : List Value).toArray) below meth c H locs 0 0 Q (F0 m 28 ls []) := by
    intro n_28
    induction n_28 with
    | zero => intro x2_28 x3_28 q_waiting_28 x4_28 q_orders_28 H locs ls hw; exact False.elim hw
    | succ n_28 ih_28 =>
      intro x2_28 x3_28 q_waiting_28 x4_28 q_orders_28 H locs ls hw hP hD hS hl
      refine lv_iload hx hb dX2_removeFirst_28 (lv_at hl 4 rfl) ?_
      refine lv_iconst (v := 5) hx hb dX2_removeFirst_30 (by decide) ?_
      refine lv_icmp_ge (tgt := 60) hx hb dX2_removeFirst_31 (by decide) (fun c_31 => ?_) (fun c_31 => ?_)
      · have hw := hw.1 c_31
        refine lv_aload_n hx hb dX2_removeFirst_60 rfl (lv_at hl 0 rfl) ?_
        refine va_get (D := g.1) (ci := 6) (v := .ref (a_pl 4)) (C := RX2) (T := TX2) (N := 6) hx hb hts inX2_removeFirst_X2 hown hE.1 hP 0 rfl rfl 3 (by decide) (gW hts 2 (.fieldLink RX2 21 "SnowDispatcher$Ploughs" "waiting" "[I") rfl) (fun _ h9 => h9) rfl dX2_removeFirst_61 ?_
        refine lv_iload_n hx hb dX2_removeFirst_64 rfl (lv_at hl 1 rfl) ?_
        refine lv_dup2_11 hx hb dX2_removeFirst_65 rfl rfl ?_
        have h3 := hw.1
        have hw := hw.2
        refine va_iald hx hb hE.1 hP 4 0 rfl rfl h3 dX2_removeFirst_66 ?_
        refine lv_iconst (v := 1) hx hb dX2_removeFirst_67 (by decide) ?_
        refine lv_isub hx hb dX2_removeFirst_68 ?_
        have h4 := hw.1
        have hw := hw.2
        refine va_iast hx hb hE.1 hP hD hS 4 0 rfl rfl h4 dX2_removeFirst_69 (fun H locs hP hD hS => ?_)
        have hP : va_P g.1 vwCl (List.flatten [kPl g a_pl q_place q_target q_minutesLeft (upd q_waiting_28 x1.toNatClampNeg ((q_waiting_28 x1.toNatClampNeg) - 1)) q_orders_28 q_count]) H := hP
        have hD : va_D A (List.flatten [kPl g a_pl q_place q_target q_minutesLeft (upd q_waiting_28 x1.toNatClampNeg ((q_waiting_28 x1.toNatClampNeg) - 1)) q_orders_28 q_count]) := hD
        refine lv_iload_n hx hb dX2_removeFirst_70 rfl (lv_at hl 2 rfl) ?_
        subst hQ
        exact W.iret hx hb hr (gRi2 (c1 := (upd q_waiting_28 x1.toNatClampNeg ((q_waiting_28 x1.toNatClampNeg) - 1))) (c2 := q_orders_28) (wf := _) hA0 hsz hw hP hD hS) hS.2.2 dX2_removeFirst_71
      · have hw := hw.2 c_31
        refine lv_aload_n hx hb dX2_removeFirst_34 rfl (lv_at hl 0 rfl) ?_
        refine va_get (D := g.1) (ci := 6) (v := .ref (a_pl 5)) (C := RX2) (T := TX2) (N := 6) hx hb hts inX2_removeFirst_X2 hown hE.1 hP 0 rfl rfl 4 (by decide) (gW hts 1 (.fieldLink RX2 24 "SnowDispatcher$Ploughs" "orders" "[I") rfl) (fun _ h9 => h9) rfl dX2_removeFirst_35 ?_
        refine lv_iload_n hx hb dX2_removeFirst_38 rfl (lv_at hl 3 rfl) ?_
        refine lv_iload hx hb dX2_removeFirst_39 (lv_at hl 4 rfl) ?_
        refine lv_iadd hx hb dX2_removeFirst_41 ?_
        refine lv_iconst (v := 1) hx hb dX2_removeFirst_42 (by decide) ?_
        refine lv_isub hx hb dX2_removeFirst_43 ?_
        refine lv_aload_n hx hb dX2_removeFirst_44 rfl (lv_at hl 0 rfl) ?_
        refine va_get (D := g.1) (ci := 6) (v := .ref (a_pl 5)) (C := RX2) (T := TX2) (N := 6) hx hb hts inX2_removeFirst_X2 hown hE.1 hP 0 rfl rfl 4 (by decide) (gW hts 1 (.fieldLink RX2 24 "SnowDispatcher$Ploughs" "orders" "[I") rfl) (fun _ h9 => h9) rfl dX2_removeFirst_45 ?_
        refine lv_iload_n hx hb dX2_removeFirst_48 rfl (lv_at hl 3 rfl) ?_
        refine lv_iload hx hb dX2_removeFirst_49 (lv_at hl 4 rfl) ?_
        refine lv_iadd hx hb dX2_removeFirst_51 ?_
        have h5 := hw.1
        have hw := hw.2
        refine va_iald hx hb hE.1 hP 5 0 rfl rfl h5 dX2_removeFirst_52 ?_
        have h6 := hw.1
        have hw := hw.2
        refine va_iast hx hb hE.1 hP hD hS 5 0 rfl rfl h6 dX2_removeFirst_53 (fun H locs hP hD hS => ?_)
        have hP : va_P g.1 vwCl (List.flatten [kPl g a_pl q_place q_target q_minutesLeft q_waiting_28 (upd q_orders_28 ((x3_28 + x4_28) - 1).toNatClampNeg (q_orders_28 (x3_28 + x4_28).toNatClampNeg)) q_count]) H := hP
        have hD : va_D A (List.flatten [kPl g a_pl q_place q_target q_minutesLeft q_waiting_28 (upd q_orders_28 ((x3_28 + x4_28) - 1).toNatClampNeg (q_orders_28 (x3_28 + x4_28).toNatClampNeg)) q_count]) := hD
        refine lv_iinc (v := (x4_28 + 1)) (lv' := [(4, .int (x4_28 + 1)), (0, .ref (a_pl 0)), (1, .int x1), (2, .int x2_28), (3, .int x3_28)]) hx hb dX2_removeFirst_54 hl (k := 4) rfl rfl (by decide) rfl (fun ls hl => ?_)
        refine lv_goto (tgt := 28) hx hb dX2_removeFirst_57 (by decide) ?_
        exact ih_28 x2_28 x3_28 q_waiting_28 (x4_28 + 1) (upd q_orders_28 ((x3_28 + x4_28) - 1).toNatClampNeg (q_orders_28 (x3_28 + x4_28).toNatClampNeg)) _ _ _ hw hP hD hS (lv_sub hl [1, 2, 3, 4, 0] rfl)
  refine lv_aload_n hx hb dX2_removeFirst_0 rfl (lv_at hl 0 rfl) ?_
  refine lv_iload_n hx hb dX2_removeFirst_1 rfl (lv_at hl 1 rfl) ?_
  refine lv_iconst (v := 0) hx hb dX2_removeFirst_2 (by decide) ?_
  refine gCi0 (gRunV (As := [.int x1, .int 0]) (rest := []) ⟨hx, hb, hml, hown, hts⟩ (ctX2_waitingAt l g a_pl _ q_place q_target q_minutesLeft q_waiting q_orders q_count x1 0 hw) (cwV 2 hts gX2_removeFirst_X2_waitingAt rfl rfl rfl (by decide +kernel) ⟨Nat.le_of_ble_eq_true rfl, Nat.le_of_ble_eq_true rfl⟩) hE (gSub hP [0]) (gDSub hD [0] rfl) 0 6 rfl rfl rfl rfl rfl hl.1 rfl (lv_room (Nat.le_of_ble_eq_true rfl)) dX2_removeFirst_3 ⟨Nat.le_of_ble_eq_true rfl, Nat.le_of_ble_eq_true rfl⟩) hP hD hS hA [0] rfl rfl rfl (fun r1 H locs hw hP hD hS => ?_)
  have hP : va_P g.1 vwCl (List.flatten [kPl g a_pl q_place q_target q_minutesLeft q_waiting q_orders q_count]) H := hP
  have hD : va_D A (List.flatten [kPl g a_pl q_place q_target q_minutesLeft q_waiting q_orders q_count]) := hD
  refine lv_istore_n (lv' := [(2, .int r1), (0, .ref (a_pl 0)), (1, .int x1)]) hx hb dX2_removeFirst_6 rfl hl (by decide) rfl (fun ls hl => ?_)
  refine lv_aload_n hx hb dX2_removeFirst_7 rfl (lv_at hl 1 rfl) ?_
  refine lv_iload_n hx hb dX2_removeFirst_8 rfl (lv_at hl 2 rfl) ?_
  refine gCi0 (gRunV (As := [.int x1]) (rest := []) ⟨hx, hb, hml, hown, hts⟩ (ctX2_has l g a_pl _ q_place q_target q_minutesLeft q_waiting q_orders q_count x1 hw) (cwV 1 hts gX2_removeFirst_X2_has rfl rfl rfl (by decide +kernel) ⟨Nat.le_of_ble_eq_true rfl, Nat.le_of_ble_eq_true rfl⟩) hE (gSub hP [0]) (gDSub hD [0] rfl) 0 6 rfl rfl rfl rfl rfl hl.1 rfl (lv_room (Nat.le_of_ble_eq_true rfl)) dX2_removeFirst_9 ⟨Nat.le_of_ble_eq_true rfl, Nat.le_of_ble_eq_true rfl⟩) hP hD hS hA [0] rfl rfl rfl (fun r2 H locs hw hP hD hS => ?_)
  have hP : va_P g.1 vwCl (List.flatten [kPl g a_pl q_place q_target q_minutesLeft q_waiting q_orders q_count]) H := hP
  have hD : va_D A (List.flatten [kPl g a_pl q_place q_target q_minutesLeft q_waiting q_orders q_count]) := hD
  refine lv_if_eq (tgt := 19) hx hb dX2_removeFirst_12 (by decide) (fun c_12 => ?_) (fun c_12 => ?_)
  · have hw := hw.1 c_12
    refine lv_iconst (v := (-1)) hx hb dX2_removeFirst_19 (by decide) ?_
    subst hQ
    exact W.iret hx hb hr (gRi2 (c1 := q_waiting) (c2 := q_orders) (wf := _) hA0 hsz hw hP hD hS) hS.2.2 dX2_removeFirst_20
  · have hw := hw.2 c_12
    refine lv_iload_n hx hb dX2_removeFirst_15 rfl (lv_at hl 0 rfl) ?_
    refine lv_if_ge (tgt := 21) hx hb dX2_removeFirst_16 (by decide) (fun c_16 => ?_) (fun c_16 => ?_)
    · have hw := hw.1 c_16
      refine lv_iload_n hx hb dX2_removeFirst_21 rfl (lv_at hl 2 rfl) ?_
      refine lv_iconst (v := 5) hx hb dX2_removeFirst_22 (by decide) ?_
      refine lv_imul hx hb dX2_removeFirst_23 ?_
      refine lv_istore_n (lv' := [(3, .int (x1 * 5)), (2, .int r1), (0, .ref (a_pl 0)), (1, .int x1)]) hx hb dX2_removeFirst_24 rfl hl (by decide) rfl (fun ls hl => ?_)
      refine lv_iconst (v := 1) hx hb dX2_removeFirst_25 (by decide) ?_
      refine lv_istore (lv' := [(4, .int 1), (3, .int (x1 * 5)), (2, .int r1), (0, .ref (a_pl 0)), (1, .int x1)]) hx hb dX2_removeFirst_26 hl (by decide) rfl (fun ls hl => ?_)
      obtain ⟨n, hw⟩ := hw
      exact L28 n r1 (x1 * 5) q_waiting 1 q_orders _ _ _ hw hP hD hS (lv_sub hl [3, 4, 2, 1, 0] rfl)
    · have hw := hw.2 c_16
      refine lv_iconst (v := (-1)) hx hb dX2_removeFirst_19 (by decide) ?_
      subst hQ
      exact W.iret hx hb hr (gRi2 (c1 := q_waiting) (c2 := q_orders) (wf := _) hA0 hsz hw hP hD hS) hS.2.2 dX2_removeFirst_20
abbrev rmX2_begin : Room := { frames := 2, cells := 0, slots := 0, locals := 122 }
set_option maxRecDepth 20000 in
theorem inX2_begin_X2 : ∀ w ∈ wsX20, w ∈ wsX2_begin := by decide +kernel
set_option maxHeartbeats 4000000 in
set_option maxRecDepth 100000 in
theorem ctX2_begin (l : Launch) (g : GG) (a_pl : Nat → Nat) (sz : Nat) (q_place : Nat → Int32) (q_target : Nat → Int32) (q_minutesLeft : Nat → Int32) (q_waiting : Nat → Int32) (q_orders : Nat → Int32) (q_count : Int32) (x1 : Int32) (x2 : Int32) (x3 : Int32) (x4 : Int32) {post : (Nat → Int32) → (Nat → Int32) → (Nat → Int32) → Prop} (hw : wpX2_begin x1 x2 x3 x4 q_place q_target q_minutesLeft q_count post) :
    Met l yX2_begin wsX2_begin rmX2_begin (gPc g sz (List.flatten [kPl g a_pl q_place q_target q_minutesLeft q_waiting q_orders q_count]) [.ref (a_pl 0), .int x1, .int x2, .int x3, .int x4]) (gQv3 post (fun u1 u2 u3 => gB g (List.flatten [kPl g a_pl q_place q_target q_minutesLeft q_waiting q_orders q_count]) sz (List.flatten [kPl g a_pl u1 u2 u3 q_waiting q_orders q_count])) (va_A (List.flatten [kPl g a_pl q_place q_target q_minutesLeft q_waiting q_orders q_count]) sz)) 0 0 (va_A (List.flatten [kPl g a_pl q_place q_target q_minutesLeft q_waiting q_orders q_count]) sz) := by
  refine gOf (cc := cX2_begin) (maxL := 5) (ret := none) (by decide) rfl (Nat.le_of_ble_eq_true rfl) ?_
  intro p e s m below meth c ls Q A hQ hx hb hr hml hts hown hlocks hE hA0 hsz hP hD hA hS hl
  have hl : lv_has ls 5 [(0, .ref (a_pl 0)), (1, .int x1), (2, .int x2), (3, .int x3), (4, .int x4)] := hl
  refine lv_aload_n hx hb dX2_begin_0 rfl (lv_at hl 0 rfl) ?_
  refine lv_iload_n hx hb dX2_begin_1 rfl (lv_at hl 1 rfl) ?_
  refine gCi0 (gRunV (As := [.int x1]) (rest := []) ⟨hx, hb, hml, hown, hts⟩ (ctX2_has l g a_pl _ q_place q_target q_minutesLeft q_waiting q_orders q_count x1 hw) (cwV 1 hts gX2_begin_X2_has rfl rfl rfl (by decide +kernel) ⟨Nat.le_of_ble_eq_true rfl, Nat.le_of_ble_eq_true rfl⟩) hE (gSub hP [0]) (gDSub hD [0] rfl) 0 6 rfl rfl rfl rfl rfl hl.1 rfl (lv_room (Nat.le_of_ble_eq_true rfl)) dX2_begin_2 ⟨Nat.le_of_ble_eq_true rfl, Nat.le_of_ble_eq_true rfl⟩) hP hD hS hA [0] rfl rfl rfl (fun r1 H locs hw hP hD hS => ?_)
  have hP : va_P g.1 vwCl (List.flatten [kPl g a_pl q_place q_target q_minutesLeft q_waiting q_orders q_count]) H := hP
  have hD : va_D A (List.flatten [kPl g a_pl q_place q_target q_minutesLeft q_waiting q_orders q_count]) := hD
  refine lv_if_eq (tgt := 30) hx hb dX2_begin_5 (by decide) (fun c_5 => ?_) (fun c_5 => ?_)
  · have hw := hw.1 c_5
    subst hQ
    exact W.vret hx hb hr (gRv3 (c1 := q_place) (c2 := q_target) (c3 := q_minutesLeft) (wf := _) hA0 hsz hw hP hD hS) hS.2.2 dX2_begin_30
  · have hw := hw.2 c_5
    refine lv_aload_n hx hb dX2_begin_8 rfl (lv_at hl 0 rfl) ?_
    refine va_get (D := g.1) (ci := 6) (v := .ref (a_pl 2)) (C := RX2) (T := TX2) (N := 6) hx hb hts inX2_begin_X2 hown hE.1 hP 0 rfl rfl 1 (by decide) (gW hts 1 (.fieldLink RX2 15 "SnowDispatcher$Ploughs" "target" "[I") rfl) (fun _ h9 => h9) rfl dX2_begin_9 ?_
    refine lv_iload_n hx hb dX2_begin_12 rfl (lv_at hl 1 rfl) ?_
    refine lv_iload_n hx hb dX2_begin_13 rfl (lv_at hl 2 rfl) ?_
    have h2 := hw.1
    have hw := hw.2
    refine va_iast hx hb hE.1 hP hD hS 2 0 rfl rfl h2 dX2_begin_14 (fun H locs hP hD hS => ?_)
    have hP : va_P g.1 vwCl (List.flatten [kPl g a_pl q_place (upd q_target x1.toNatClampNeg x2) q_minutesLeft q_waiting q_orders q_count]) H := hP
    have hD : va_D A (List.flatten [kPl g a_pl q_place (upd q_target x1.toNatClampNeg x2) q_minutesLeft q_waiting q_orders q_count]) := hD
    refine lv_aload_n hx hb dX2_begin_15 rfl (lv_at hl 0 rfl) ?_
    refine va_get (D := g.1) (ci := 6) (v := .ref (a_pl 3)) (C := RX2) (T := TX2) (N := 6) hx hb hts inX2_begin_X2 hown hE.1 hP 0 rfl rfl 2 (by decide) (gW hts 2 (.fieldLink RX2 18 "SnowDispatcher$Ploughs" "minutesLeft" "[I") rfl) (fun _ h9 => h9) rfl dX2_begin_16 ?_
    refine lv_iload_n hx hb dX2_begin_19 rfl (lv_at hl 1 rfl) ?_
    refine lv_iload_n hx hb dX2_begin_20 rfl (lv_at hl 3 rfl) ?_
    have h3 := hw.1
    have hw := hw.2
    refine va_iast hx hb hE.1 hP hD hS 3 0 rfl rfl h3 dX2_begin_21 (fun H locs hP hD hS => ?_)
    have hP : va_P g.1 vwCl (List.flatten [kPl g a_pl q_place (upd q_target x1.toNatClampNeg x2) (upd q_minutesLeft x1.toNatClampNeg x3) q_waiting q_orders q_count]) H := hP
    have hD : va_D A (List.flatten [kPl g a_pl q_place (upd q_target x1.toNatClampNeg x2) (upd q_minutesLeft x1.toNatClampNeg x3) q_waiting q_orders q_count]) := hD
    refine lv_aload_n hx hb dX2_begin_22 rfl (lv_at hl 0 rfl) ?_
    refine va_get (D := g.1) (ci := 6) (v := .ref (a_pl 1)) (C := RX2) (T := TX2) (N := 6) hx hb hts inX2_begin_X2 hown hE.1 hP 0 rfl rfl 0 (by decide) (gW hts 3 (.fieldLink RX2 9 "SnowDispatcher$Ploughs" "place" "[I") rfl) (fun _ h9 => h9) rfl dX2_begin_23 ?_
    refine lv_iload_n hx hb dX2_begin_26 rfl (lv_at hl 1 rfl) ?_
    refine lv_iload hx hb dX2_begin_27 (lv_at hl 4 rfl) ?_
    have h4 := hw.1
    have hw := hw.2
    refine va_iast hx hb hE.1 hP hD hS 1 0 rfl rfl h4 dX2_begin_29 (fun H locs hP hD hS => ?_)
    have hP : va_P g.1 vwCl (List.flatten [kPl g a_pl (upd q_place x1.toNatClampNeg x4) (upd q_target x1.toNatClampNeg x2) (upd q_minutesLeft x1.toNatClampNeg x3) q_waiting q_orders q_count]) H := hP
    have hD : va_D A (List.flatten [kPl g a_pl (upd q_place x1.toNatClampNeg x4) (upd q_target x1.toNatClampNeg x2) (upd q_minutesLeft x1.toNatClampNeg x3) q_waiting q_orders q_count]) := hD
    subst hQ
    exact W.vret hx hb hr (gRv3 (c1 := (upd q_place x1.toNatClampNeg x4)) (c2 := (upd q_target x1.toNatClampNeg x2)) (c3 := (upd q_minutesLeft x1.toNatClampNeg x3)) (wf := _) hA0 hsz hw hP hD hS) hS.2.2 dX2_begin_30
abbrev rmX2_work : Room := { frames := 2, cells := 0, slots := 0, locals := 122 }
set_option maxRecDepth 20000 in
theorem inX2_work_X2 : ∀ w ∈ wsX20, w ∈ wsX2_work := by decide +kernel
set_option maxHeartbeats 4000000 in
set_option maxRecDepth 100000 in
theorem ctX2_work (l : Launch) (g : GG) (a_pl : Nat → Nat) (sz : Nat) (q_place : Nat → Int32) (q_target : Nat → Int32) (q_minutesLeft : Nat → Int32) (q_waiting : Nat → Int32) (q_orders : Nat → Int32) (q_count : Int32) (x1 : Int32) {post : Int32 → (Nat → Int32) → Prop} (hw : wpX2_work x1 q_target q_minutesLeft q_count post) :
    Met l yX2_work wsX2_work rmX2_work (gPc g sz (List.flatten [kPl g a_pl q_place q_target q_minutesLeft q_waiting q_orders q_count]) [.ref (a_pl 0), .int x1]) (gQi1 post (fun u1 => gB g (List.flatten [kPl g a_pl q_place q_target q_minutesLeft q_waiting q_orders q_count]) sz (List.flatten [kPl g a_pl q_place q_target u1 q_waiting q_orders q_count])) (va_A (List.flatten [kPl g a_pl q_place q_target q_minutesLeft q_waiting q_orders q_count]) sz)) 0 0 (va_A (List.flatten [kPl g a_pl q_place q_target q_minutesLeft q_waiting q_orders q_count]) sz) := by
  refine gOf (cc := cX2_work) (maxL := 2) (ret := (some .int)) (by decide) rfl (Nat.le_of_ble_eq_true rfl) ?_
  intro p e s m below meth c ls Q A hQ hx hb hr hml hts hown hlocks hE hA0 hsz hP hD hA hS hl
  have hl : lv_has ls 2 [(0, .ref (a_pl 0)), (1, .int x1)] := hl
  refine lv_aload_n hx hb dX2_work_0 rfl (lv_at hl 0 rfl) ?_
  refine lv_iload_n hx hb dX2_work_1 rfl (lv_at hl 1 rfl) ?_
  refine gCi0 (gRunV (As := [.int x1]) (rest := []) ⟨hx, hb, hml, hown, hts⟩ (ctX2_has l g a_pl _ q_place q_target q_minutesLeft q_waiting q_orders q_count x1 hw) (cwV 1 hts gX2_work_X2_has rfl rfl rfl (by decide +kernel) ⟨Nat.le_of_ble_eq_true rfl, Nat.le_of_ble_eq_true rfl⟩) hE (gSub hP [0]) (gDSub hD [0] rfl) 0 6 rfl rfl rfl rfl rfl hl.1 rfl (lv_room (Nat.le_of_ble_eq_true rfl)) dX2_work_2 ⟨Nat.le_of_ble_eq_true rfl, Nat.le_of_ble_eq_true rfl⟩) hP hD hS hA [0] rfl rfl rfl (fun r1 H locs hw hP hD hS => ?_)
  have hP : va_P g.1 vwCl (List.flatten [kPl g a_pl q_place q_target q_minutesLeft q_waiting q_orders q_count]) H := hP
  have hD : va_D A (List.flatten [kPl g a_pl q_place q_target q_minutesLeft q_waiting q_orders q_count]) := hD
  refine lv_if_eq (tgt := 17) hx hb dX2_work_5 (by decide) (fun c_5 => ?_) (fun c_5 => ?_)
  · have hw := hw.1 c_5
    refine lv_iconst (v := (-1)) hx hb dX2_work_17 (by decide) ?_
    subst hQ
    exact W.iret hx hb hr (gRi1 (c1 := q_minutesLeft) (wf := _) hA0 hsz hw hP hD hS) hS.2.2 dX2_work_18
  · have hw := hw.2 c_5
    refine lv_aload_n hx hb dX2_work_8 rfl (lv_at hl 0 rfl) ?_
    refine va_get (D := g.1) (ci := 6) (v := .ref (a_pl 3)) (C := RX2) (T := TX2) (N := 6) hx hb hts inX2_work_X2 hown hE.1 hP 0 rfl rfl 2 (by decide) (gW hts 1 (.fieldLink RX2 18 "SnowDispatcher$Ploughs" "minutesLeft" "[I") rfl) (fun _ h9 => h9) rfl dX2_work_9 ?_
    refine lv_iload_n hx hb dX2_work_12 rfl (lv_at hl 1 rfl) ?_
    have h2 := hw.1
    have hw := hw.2
    refine va_iald hx hb hE.1 hP 3 0 rfl rfl h2 dX2_work_13 ?_
    refine lv_if_gt (tgt := 19) hx hb dX2_work_14 (by decide) (fun c_14 => ?_) (fun c_14 => ?_)
    · have hw := hw.1 c_14
      refine lv_aload_n hx hb dX2_work_19 rfl (lv_at hl 0 rfl) ?_
      refine va_get (D := g.1) (ci := 6) (v := .ref (a_pl 3)) (C := RX2) (T := TX2) (N := 6) hx hb hts inX2_work_X2 hown hE.1 hP 0 rfl rfl 2 (by decide) (gW hts 1 (.fieldLink RX2 18 "SnowDispatcher$Ploughs" "minutesLeft" "[I") rfl) (fun _ h9 => h9) rfl dX2_work_20 ?_
      refine lv_iload_n hx hb dX2_work_23 rfl (lv_at hl 1 rfl) ?_
      refine lv_dup2_11 hx hb dX2_work_24 rfl rfl ?_
      have h3 := hw.1
      have hw := hw.2
      refine va_iald hx hb hE.1 hP 3 0 rfl rfl h3 dX2_work_25 ?_
      refine lv_iconst (v := 1) hx hb dX2_work_26 (by decide) ?_
      refine lv_isub hx hb dX2_work_27 ?_
      have h4 := hw.1
      have hw := hw.2
      refine va_iast hx hb hE.1 hP hD hS 3 0 rfl rfl h4 dX2_work_28 (fun H locs hP hD hS => ?_)
      have hP : va_P g.1 vwCl (List.flatten [kPl g a_pl q_place q_target (upd q_minutesLeft x1.toNatClampNeg ((q_minutesLeft x1.toNatClampNeg) - 1)) q_waiting q_orders q_count]) H := hP
      have hD : va_D A (List.flatten [kPl g a_pl q_place q_target (upd q_minutesLeft x1.toNatClampNeg ((q_minutesLeft x1.toNatClampNeg) - 1)) q_waiting q_orders q_count]) := hD
      refine lv_aload_n hx hb dX2_work_29 rfl (lv_at hl 0 rfl) ?_
      refine va_get (D := g.1) (ci := 6) (v := .ref (a_pl 3)) (C := RX2) (T := TX2) (N := 6) hx hb hts inX2_work_X2 hown hE.1 hP 0 rfl rfl 2 (by decide) (gW hts 1 (.fieldLink RX2 18 "SnowDispatcher$Ploughs" "minutesLeft" "[I") rfl) (fun _ h9 => h9) rfl dX2_work_30 ?_
      refine lv_iload_n hx hb dX2_work_33 rfl (lv_at hl 1 rfl) ?_
      have h5 := hw.1
      have hw := hw.2
      refine va_iald hx hb hE.1 hP 3 0 rfl rfl h5 dX2_work_34 ?_
      refine lv_if_ne (tgt := 47) hx hb dX2_work_35 (by decide) (fun c_35 => ?_) (fun c_35 => ?_)
      · have hw := hw.1 c_35
        refine lv_iconst (v := (-1)) hx hb dX2_work_47 (by decide) ?_
        subst hQ
        exact W.iret hx hb hr (gRi1 (c1 := (upd q_minutesLeft x1.toNatClampNeg ((q_minutesLeft x1.toNatClampNeg) - 1))) (wf := _) hA0 hsz hw hP hD hS) hS.2.2 dX2_work_48
      · have hw := hw.2 c_35
        refine lv_aload_n hx hb dX2_work_38 rfl (lv_at hl 0 rfl) ?_
        refine va_get (D := g.1) (ci := 6) (v := .ref (a_pl 2)) (C := RX2) (T := TX2) (N := 6) hx hb hts inX2_work_X2 hown hE.1 hP 0 rfl rfl 1 (by decide) (gW hts 2 (.fieldLink RX2 15 "SnowDispatcher$Ploughs" "target" "[I") rfl) (fun _ h9 => h9) rfl dX2_work_39 ?_
        refine lv_iload_n hx hb dX2_work_42 rfl (lv_at hl 1 rfl) ?_
        have h6 := hw.1
        have hw := hw.2
        refine va_iald hx hb hE.1 hP 2 0 rfl rfl h6 dX2_work_43 ?_
        refine lv_goto (tgt := 48) hx hb dX2_work_44 (by decide) ?_
        subst hQ
        exact W.iret hx hb hr (gRi1 (c1 := (upd q_minutesLeft x1.toNatClampNeg ((q_minutesLeft x1.toNatClampNeg) - 1))) (wf := _) hA0 hsz hw hP hD hS) hS.2.2 dX2_work_48
    · have hw := hw.2 c_14
      refine lv_iconst (v := (-1)) hx hb dX2_work_17 (by decide) ?_
      subst hQ
      exact W.iret hx hb hr (gRi1 (c1 := q_minutesLeft) (wf := _) hA0 hsz hw hP hD hS) hS.2.2 dX2_work_18
