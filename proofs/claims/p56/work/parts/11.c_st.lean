/-! contracts: by program (wip/whole/gen) -/
abbrev rmX4_has : Room := { frames := 1, cells := 0, slots := 0, locals := 100 }
set_option maxRecDepth 20000 in
theorem inX4_has_X4 : ∀ w ∈ wsX40, w ∈ wsX4_has := by decide +kernel
set_option maxHeartbeats 4000000 in
set_option maxRecDepth 100000 in
theorem ctX4_has (l : Launch) (g : GG) (a_st : Nat → Nat) (sz : Nat) (s_lower : Nat → Int32) (s_higher : Nat → Int32) (s_kind : Nat → Int32) (s_size : Nat → Int32) (s_snow : Nat → Int32) (s_saltEnd : Nat → Int32) (s_complained : Nat → Int32) (s_clearings : Nat → Int32) (s_count : Int32) (x1 : Int32) {post : Int32 → Prop} (hw : wpX4_has x1 s_count post) :
    Met l yX4_has wsX4_has rmX4_has (gPc g sz (List.flatten [kSt g a_st s_lower s_higher s_kind s_size s_snow s_saltEnd s_complained s_clearings s_count]) [.ref (a_st 0), .int x1]) (gQi0 post (gB g (List.flatten [kSt g a_st s_lower s_higher s_kind s_size s_snow s_saltEnd s_complained s_clearings s_count]) sz (List.flatten [kSt g a_st s_lower s_higher s_kind s_size s_snow s_saltEnd s_complained s_clearings s_count])) (va_A (List.flatten [kSt g a_st s_lower s_higher s_kind s_size s_snow s_saltEnd s_complained s_clearings s_count]) sz)) 0 0 (va_A (List.flatten [kSt g a_st s_lower s_higher s_kind s_size s_snow s_saltEnd s_complained s_clearings s_count]) sz) := by
  refine gOf (cc := cX4_has) (maxL := 2) (ret := (some .boolean)) (by decide) rfl (Nat.le_of_ble_eq_true rfl) ?_
  intro p e s m below meth c ls Q A hQ hx hb hr hml hts hown hlocks hE hA0 hsz hP hD hA hS hl
  have hl : lv_has ls 2 [(0, .ref (a_st 0)), (1, .int x1)] := hl
  refine lv_iload_n hx hb dX4_has_0 rfl (lv_at hl 1 rfl) ?_
  refine lv_if_lt (tgt := 22) hx hb dX4_has_1 (by decide) (fun c_1 => ?_) (fun c_1 => ?_)
  · have hw := hw.1 c_1
    refine lv_iconst (v := 0) hx hb dX4_has_22 (by decide) ?_
    subst hQ
    exact W.zret (ty := .boolean) hx hb hr (by decide) (gRi0 (wf := _) hA0 hsz hw hP hD hS) hS.2.2 dX4_has_23
  · have hw := hw.2 c_1
    refine lv_iload_n hx hb dX4_has_4 rfl (lv_at hl 1 rfl) ?_
    refine lv_aload_n hx hb dX4_has_5 rfl (lv_at hl 0 rfl) ?_
    refine va_get (D := g.1) (ci := 8) (v := .int s_count) (C := RX4) (T := TX4) (N := 9) hx hb hts inX4_has_X4 hown hE.1 hP 0 rfl rfl 8 (by decide) (gW hts 1 (.fieldLink RX4 37 "SnowDispatcher$Streets" "count" "I") rfl) (fun _ h9 => h9) rfl dX4_has_6 ?_
    refine lv_icmp_ge (tgt := 22) hx hb dX4_has_9 (by decide) (fun c_9 => ?_) (fun c_9 => ?_)
    · have hw := hw.1 c_9
      refine lv_iconst (v := 0) hx hb dX4_has_22 (by decide) ?_
      subst hQ
      exact W.zret (ty := .boolean) hx hb hr (by decide) (gRi0 (wf := _) hA0 hsz hw hP hD hS) hS.2.2 dX4_has_23
    · have hw := hw.2 c_9
      refine lv_iload_n hx hb dX4_has_12 rfl (lv_at hl 1 rfl) ?_
      refine lv_bipush (v := 12) hx hb dX4_has_13 (by decide) ?_
      refine lv_icmp_ge (tgt := 22) hx hb dX4_has_15 (by decide) (fun c_15 => ?_) (fun c_15 => ?_)
      · have hw := hw.1 c_15
        refine lv_iconst (v := 0) hx hb dX4_has_22 (by decide) ?_
        subst hQ
        exact W.zret (ty := .boolean) hx hb hr (by decide) (gRi0 (wf := _) hA0 hsz hw hP hD hS) hS.2.2 dX4_has_23
      · have hw := hw.2 c_15
        refine lv_iconst (v := 1) hx hb dX4_has_18 (by decide) ?_
        refine lv_goto (tgt := 23) hx hb dX4_has_19 (by decide) ?_
        subst hQ
        exact W.zret (ty := .boolean) hx hb hr (by decide) (gRi0 (wf := _) hA0 hsz hw hP hD hS) hS.2.2 dX4_has_23
abbrev rmX4_copyFrom : Room := { frames := 1, cells := 0, slots := 0, locals := 100 }
set_option maxRecDepth 20000 in
theorem inX4_copyFrom_X4 : ∀ w ∈ wsX40, w ∈ wsX4_copyFrom := by decide +kernel
set_option maxHeartbeats 4000000 in
set_option maxRecDepth 100000 in
theorem ctX4_copyFrom (l : Launch) (g : GG) (a_st : Nat → Nat) (a_so : Nat → Nat) (sz : Nat) (s_lower : Nat → Int32) (s_higher : Nat → Int32) (s_kind : Nat → Int32) (s_size : Nat → Int32) (s_snow : Nat → Int32) (s_saltEnd : Nat → Int32) (s_complained : Nat → Int32) (s_clearings : Nat → Int32) (s_count : Int32) (s_lowero : Nat → Int32) (s_highero : Nat → Int32) (s_kindo : Nat → Int32) (s_sizeo : Nat → Int32) (s_snowo : Nat → Int32) (s_saltEndo : Nat → Int32) (s_complainedo : Nat → Int32) (s_clearingso : Nat → Int32) (s_counto : Int32) {post : (Nat → Int32) → (Nat → Int32) → (Nat → Int32) → (Nat → Int32) → (Nat → Int32) → (Nat → Int32) → (Nat → Int32) → (Nat → Int32) → Int32 → Prop} (hw : wpX4_copyFrom s_lower s_higher s_kind s_size s_snow s_saltEnd s_complained s_clearings s_count s_lowero s_highero s_kindo s_sizeo s_snowo s_saltEndo s_complainedo s_clearingso s_counto post) :
    Met l yX4_copyFrom wsX4_copyFrom rmX4_copyFrom (gPc g sz (List.flatten [kSt g a_st s_lower s_higher s_kind s_size s_snow s_saltEnd s_complained s_clearings s_count, kSt g a_so s_lowero s_highero s_kindo s_sizeo s_snowo s_saltEndo s_complainedo s_clearingso s_counto]) [.ref (a_st 0), .ref (a_so 0)]) (gQv9 post (fun u1 u2 u3 u4 u5 u6 u7 u8 u9 => gB g (List.flatten [kSt g a_st s_lower s_higher s_kind s_size s_snow s_saltEnd s_complained s_clearings s_count, kSt g a_so s_lowero s_highero s_kindo s_sizeo s_snowo s_saltEndo s_complainedo s_clearingso s_counto]) sz (List.flatten [kSt g a_st u1 u2 u3 u4 u5 u6 u7 u8 u9, kSt g a_so s_lowero s_highero s_kindo s_sizeo s_snowo s_saltEndo s_complainedo s_clearingso s_counto])) (va_A (List.flatten [kSt g a_st s_lower s_higher s_kind s_size s_snow s_saltEnd s_complained s_clearings s_count, kSt g a_so s_lowero s_highero s_kindo s_sizeo s_snowo s_saltEndo s_complainedo s_clearingso s_counto]) sz)) 0 0 (va_A (List.flatten [kSt g a_st s_lower s_higher s_kind s_size s_snow s_saltEnd s_complained s_clearings s_count, kSt g a_so s_lowero s_highero s_kindo s_sizeo s_snowo s_saltEndo s_complainedo s_clearingso s_counto]) sz) := by
  refine gOf (cc := cX4_copyFrom) (maxL := 2) (ret := none) (by decide) rfl (Nat.le_of_ble_eq_true rfl) ?_
  intro p e s m below meth c ls Q A hQ hx hb hr hml hts hown hlocks hE hA0 hsz hP hD hA hS hl
  have hl : lv_has ls 2 [(0, .ref (a_st 0)), (1, .ref (a_so 0))] := hl
  refine lv_aload_n hx hb dX4_copyFrom_0 rfl (lv_at hl 1 rfl) ?_
  refine va_get (D := g.1) (ci := 8) (v := .ref (a_so 1)) (C := RX4) (T := TX4) (N := 9) hx hb hts inX4_copyFrom_X4 hown hE.1 hP 9 rfl rfl 0 (by decide) (gW hts 1 (.fieldLink RX4 9 "SnowDispatcher$Streets" "lower" "[I") rfl) (fun _ h9 => h9) rfl dX4_copyFrom_1 ?_
  refine lv_iconst (v := 0) hx hb dX4_copyFrom_4 (by decide) ?_
  refine lv_aload_n hx hb dX4_copyFrom_5 rfl (lv_at hl 0 rfl) ?_
  refine va_get (D := g.1) (ci := 8) (v := .ref (a_st 1)) (C := RX4) (T := TX4) (N := 9) hx hb hts inX4_copyFrom_X4 hown hE.1 hP 0 rfl rfl 0 (by decide) (gW hts 1 (.fieldLink RX4 9 "SnowDispatcher$Streets" "lower" "[I") rfl) (fun _ h9 => h9) rfl dX4_copyFrom_6 ?_
  refine lv_iconst (v := 0) hx hb dX4_copyFrom_9 (by decide) ?_
  refine lv_bipush (v := 12) hx hb dX4_copyFrom_10 (by decide) ?_
  refine va_copyi hx hb (hml.trans hl.1.symm) hown (gW hts 2 (.methodLink RX4 41 arraycopyName) rfl) (gW hts 3 (.native arraycopyName) rfl) (gW hts 4 (.static arraycopyName) rfl) (gW hts 5 (.initialized "java/lang/System") rfl) hE.1 hP hD hS 10 1 0 0 rfl rfl rfl rfl rfl (by decide) (by decide) (by decide) (by decide) (by decide) (fun _ _ => rfl) (Nat.le_of_ble_eq_true rfl) (by decide +kernel) dX4_copyFrom_12 (fun H locs hP hD hS => ?_)
  have hP : va_P g.1 vwCl (List.flatten [kSt g a_st (va_cpy s_lowero s_lower (0 : Int32).toNatClampNeg (0 : Int32).toNatClampNeg (12 : Int32).toNatClampNeg) s_higher s_kind s_size s_snow s_saltEnd s_complained s_clearings s_count, kSt g a_so s_lowero s_highero s_kindo s_sizeo s_snowo s_saltEndo s_complainedo s_clearingso s_counto]) H := hP
  have hD : va_D A (List.flatten [kSt g a_st (va_cpy s_lowero s_lower (0 : Int32).toNatClampNeg (0 : Int32).toNatClampNeg (12 : Int32).toNatClampNeg) s_higher s_kind s_size s_snow s_saltEnd s_complained s_clearings s_count, kSt g a_so s_lowero s_highero s_kindo s_sizeo s_snowo s_saltEndo s_complainedo s_clearingso s_counto]) := hD
  refine lv_aload_n hx hb dX4_copyFrom_15 rfl (lv_at hl 1 rfl) ?_
  refine va_get (D := g.1) (ci := 8) (v := .ref (a_so 2)) (C := RX4) (T := TX4) (N := 9) hx hb hts inX4_copyFrom_X4 hown hE.1 hP 9 rfl rfl 1 (by decide) (gW hts 6 (.fieldLink RX4 15 "SnowDispatcher$Streets" "higher" "[I") rfl) (fun _ h9 => h9) rfl dX4_copyFrom_16 ?_
  refine lv_iconst (v := 0) hx hb dX4_copyFrom_19 (by decide) ?_
  refine lv_aload_n hx hb dX4_copyFrom_20 rfl (lv_at hl 0 rfl) ?_
  refine va_get (D := g.1) (ci := 8) (v := .ref (a_st 2)) (C := RX4) (T := TX4) (N := 9) hx hb hts inX4_copyFrom_X4 hown hE.1 hP 0 rfl rfl 1 (by decide) (gW hts 6 (.fieldLink RX4 15 "SnowDispatcher$Streets" "higher" "[I") rfl) (fun _ h9 => h9) rfl dX4_copyFrom_21 ?_
  refine lv_iconst (v := 0) hx hb dX4_copyFrom_24 (by decide) ?_
  refine lv_bipush (v := 12) hx hb dX4_copyFrom_25 (by decide) ?_
  refine va_copyi hx hb (hml.trans hl.1.symm) hown (gW hts 2 (.methodLink RX4 41 arraycopyName) rfl) (gW hts 3 (.native arraycopyName) rfl) (gW hts 4 (.static arraycopyName) rfl) (gW hts 5 (.initialized "java/lang/System") rfl) hE.1 hP hD hS 11 2 0 0 rfl rfl rfl rfl rfl (by decide) (by decide) (by decide) (by decide) (by decide) (fun _ _ => rfl) (Nat.le_of_ble_eq_true rfl) (by decide +kernel) dX4_copyFrom_27 (fun H locs hP hD hS => ?_)
  have hP : va_P g.1 vwCl (List.flatten [kSt g a_st (va_cpy s_lowero s_lower (0 : Int32).toNatClampNeg (0 : Int32).toNatClampNeg (12 : Int32).toNatClampNeg) (va_cpy s_highero s_higher (0 : Int32).toNatClampNeg (0 : Int32).toNatClampNeg (12 : Int32).toNatClampNeg) s_kind s_size s_snow s_saltEnd s_complained s_clearings s_count, kSt g a_so s_lowero s_highero s_kindo s_sizeo s_snowo s_saltEndo s_complainedo s_clearingso s_counto]) H := hP
  have hD : va_D A (List.flatten [kSt g a_st (va_cpy s_lowero s_lower (0 : Int32).toNatClampNeg (0 : Int32).toNatClampNeg (12 : Int32).toNatClampNeg) (va_cpy s_highero s_higher (0 : Int32).toNatClampNeg (0 : Int32).toNatClampNeg (12 : Int32).toNatClampNeg) s_kind s_size s_snow s_saltEnd s_complained s_clearings s_count, kSt g a_so s_lowero s_highero s_kindo s_sizeo s_snowo s_saltEndo s_complainedo s_clearingso s_counto]) := hD
  refine lv_aload_n hx hb dX4_copyFrom_30 rfl (lv_at hl 1 rfl) ?_
  refine va_get (D := g.1) (ci := 8) (v := .ref (a_so 3)) (C := RX4) (T := TX4) (N := 9) hx hb hts inX4_copyFrom_X4 hown hE.1 hP 9 rfl rfl 2 (by decide) (gW hts 7 (.fieldLink RX4 18 "SnowDispatcher$Streets" "kind" "[C") rfl) (fun _ h9 => h9) rfl dX4_copyFrom_31 ?_
  refine lv_iconst (v := 0) hx hb dX4_copyFrom_34 (by decide) ?_
  refine lv_aload_n hx hb dX4_copyFrom_35 rfl (lv_at hl 0 rfl) ?_
  refine va_get (D := g.1) (ci := 8) (v := .ref (a_st 3)) (C := RX4) (T := TX4) (N := 9) hx hb hts inX4_copyFrom_X4 hown hE.1 hP 0 rfl rfl 2 (by decide) (gW hts 7 (.fieldLink RX4 18 "SnowDispatcher$Streets" "kind" "[C") rfl) (fun _ h9 => h9) rfl dX4_copyFrom_36 ?_
  refine lv_iconst (v := 0) hx hb dX4_copyFrom_39 (by decide) ?_
  refine lv_bipush (v := 12) hx hb dX4_copyFrom_40 (by decide) ?_
  have h1 := hw.1
  have hw := hw.2
  refine va_copyi hx hb (hml.trans hl.1.symm) hown (gW hts 2 (.methodLink RX4 41 arraycopyName) rfl) (gW hts 3 (.native arraycopyName) rfl) (gW hts 4 (.static arraycopyName) rfl) (gW hts 5 (.initialized "java/lang/System") rfl) hE.1 hP hD hS 12 3 1 1 rfl rfl rfl rfl rfl (by decide) (by decide) (by decide) (by decide) (by decide) h1 (Nat.le_of_ble_eq_true rfl) (by decide +kernel) dX4_copyFrom_42 (fun H locs hP hD hS => ?_)
  have hP : va_P g.1 vwCl (List.flatten [kSt g a_st (va_cpy s_lowero s_lower (0 : Int32).toNatClampNeg (0 : Int32).toNatClampNeg (12 : Int32).toNatClampNeg) (va_cpy s_highero s_higher (0 : Int32).toNatClampNeg (0 : Int32).toNatClampNeg (12 : Int32).toNatClampNeg) (va_cpy s_kindo s_kind (0 : Int32).toNatClampNeg (0 : Int32).toNatClampNeg (12 : Int32).toNatClampNeg) s_size s_snow s_saltEnd s_complained s_clearings s_count, kSt g a_so s_lowero s_highero s_kindo s_sizeo s_snowo s_saltEndo s_complainedo s_clearingso s_counto]) H := hP
  have hD : va_D A (List.flatten [kSt g a_st (va_cpy s_lowero s_lower (0 : Int32).toNatClampNeg (0 : Int32).toNatClampNeg (12 : Int32).toNatClampNeg) (va_cpy s_highero s_higher (0 : Int32).toNatClampNeg (0 : Int32).toNatClampNeg (12 : Int32).toNatClampNeg) (va_cpy s_kindo s_kind (0 : Int32).toNatClampNeg (0 : Int32).toNatClampNeg (12 : Int32).toNatClampNeg) s_size s_snow s_saltEnd s_complained s_clearings s_count, kSt g a_so s_lowero s_highero s_kindo s_sizeo s_snowo s_saltEndo s_complainedo s_clearingso s_counto]) := hD
  refine lv_aload_n hx hb dX4_copyFrom_45 rfl (lv_at hl 1 rfl) ?_
  refine va_get (D := g.1) (ci := 8) (v := .ref (a_so 4)) (C := RX4) (T := TX4) (N := 9) hx hb hts inX4_copyFrom_X4 hown hE.1 hP 9 rfl rfl 3 (by decide) (gW hts 8 (.fieldLink RX4 22 "SnowDispatcher$Streets" "size" "[I") rfl) (fun _ h9 => h9) rfl dX4_copyFrom_46 ?_
  refine lv_iconst (v := 0) hx hb dX4_copyFrom_49 (by decide) ?_
  refine lv_aload_n hx hb dX4_copyFrom_50 rfl (lv_at hl 0 rfl) ?_
  refine va_get (D := g.1) (ci := 8) (v := .ref (a_st 4)) (C := RX4) (T := TX4) (N := 9) hx hb hts inX4_copyFrom_X4 hown hE.1 hP 0 rfl rfl 3 (by decide) (gW hts 8 (.fieldLink RX4 22 "SnowDispatcher$Streets" "size" "[I") rfl) (fun _ h9 => h9) rfl dX4_copyFrom_51 ?_
  refine lv_iconst (v := 0) hx hb dX4_copyFrom_54 (by decide) ?_
  refine lv_bipush (v := 12) hx hb dX4_copyFrom_55 (by decide) ?_
  refine va_copyi hx hb (hml.trans hl.1.symm) hown (gW hts 2 (.methodLink RX4 41 arraycopyName) rfl) (gW hts 3 (.native arraycopyName) rfl) (gW hts 4 (.static arraycopyName) rfl) (gW hts 5 (.initialized "java/lang/System") rfl) hE.1 hP hD hS 13 4 0 0 rfl rfl rfl rfl rfl (by decide) (by decide) (by decide) (by decide) (by decide) (fun _ _ => rfl) (Nat.le_of_ble_eq_true rfl) (by decide +kernel) dX4_copyFrom_57 (fun H locs hP hD hS => ?_)
  have hP : va_P g.1 vwCl (List.flatten [kSt g a_st (va_cpy s_lowero s_lower (0 : Int32).toNatClampNeg (0 : Int32).toNatClampNeg (12 : Int32).toNatClampNeg) (va_cpy s_highero s_higher (0 : Int32).toNatClampNeg (0 : Int32).toNatClampNeg (12 : Int32).toNatClampNeg) (va_cpy s_kindo s_kind (0 : Int32).toNatClampNeg (0 : Int32).toNatClampNeg (12 : Int32).toNatClampNeg) (va_cpy s_sizeo s_size (0 : Int32).toNatClampNeg (0 : Int32).toNatClampNeg (12 : Int32).toNatClampNeg) s_snow s_saltEnd s_complained s_clearings s_count, kSt g a_so s_lowero s_highero s_kindo s_sizeo s_snowo s_saltEndo s_complainedo s_clearingso s_counto]) H := hP
  have hD : va_D A (List.flatten [kSt g a_st (va_cpy s_lowero s_lower (0 : Int32).toNatClampNeg (0 : Int32).toNatClampNeg (12 : Int32).toNatClampNeg) (va_cpy s_highero s_higher (0 : Int32).toNatClampNeg (0 : Int32).toNatClampNeg (12 : Int32).toNatClampNeg) (va_cpy s_kindo s_kind (0 : Int32).toNatClampNeg (0 : Int32).toNatClampNeg (12 : Int32).toNatClampNeg) (va_cpy s_sizeo s_size (0 : Int32).toNatClampNeg (0 : Int32).toNatClampNeg (12 : Int32).toNatClampNeg) s_snow s_saltEnd s_complained s_clearings s_count, kSt g a_so s_lowero s_highero s_kindo s_sizeo s_snowo s_saltEndo s_complainedo s_clearingso s_counto]) := hD
  refine lv_aload_n hx hb dX4_copyFrom_60 rfl (lv_at hl 1 rfl) ?_
  refine va_get (D := g.1) (ci := 8) (v := .ref (a_so 5)) (C := RX4) (T := TX4) (N := 9) hx hb hts inX4_copyFrom_X4 hown hE.1 hP 9 rfl rfl 4 (by decide) (gW hts 9 (.fieldLink RX4 25 "SnowDispatcher$Streets" "snow" "[I") rfl) (fun _ h9 => h9) rfl dX4_copyFrom_61 ?_
  refine lv_iconst (v := 0) hx hb dX4_copyFrom_64 (by decide) ?_
  refine lv_aload_n hx hb dX4_copyFrom_65 rfl (lv_at hl 0 rfl) ?_
  refine va_get (D := g.1) (ci := 8) (v := .ref (a_st 5)) (C := RX4) (T := TX4) (N := 9) hx hb hts inX4_copyFrom_X4 hown hE.1 hP 0 rfl rfl 4 (by decide) (gW hts 9 (.fieldLink RX4 25 "SnowDispatcher$Streets" "snow" "[I") rfl) (fun _ h9 => h9) rfl dX4_copyFrom_66 ?_
  refine lv_iconst (v := 0) hx hb dX4_copyFrom_69 (by decide) ?_
  refine lv_bipush (v := 12) hx hb dX4_copyFrom_70 (by decide) ?_
  refine va_copyi hx hb (hml.trans hl.1.symm) hown (gW hts 2 (.methodLink RX4 41 arraycopyName) rfl) (gW hts 3 (.native arraycopyName) rfl) (gW hts 4 (.static arraycopyName) rfl) (gW hts 5 (.initialized "java/lang/System") rfl) hE.1 hP hD hS 14 5 0 0 rfl rfl rfl rfl rfl (by decide) (by decide) (by decide) (by decide) (by decide) (fun _ _ => rfl) (Nat.le_of_ble_eq_true rfl) (by decide +kernel) dX4_copyFrom_72 (fun H locs hP hD hS => ?_)
  have hP : va_P g.1 vwCl (List.flatten [kSt g a_st (va_cpy s_lowero s_lower (0 : Int32).toNatClampNeg (0 : Int32).toNatClampNeg (12 : Int32).toNatClampNeg) (va_cpy s_highero s_higher (0 : Int32).toNatClampNeg (0 : Int32).toNatClampNeg (12 : Int32).toNatClampNeg) (va_cpy s_kindo s_kind (0 : Int32).toNatClampNeg (0 : Int32).toNatClampNeg (12 : Int32).toNatClampNeg) (va_cpy s_sizeo s_size (0 : Int32).toNatClampNeg (0 : Int32).toNatClampNeg (12 : Int32).toNatClampNeg) (va_cpy s_snowo s_snow (0 : Int32).toNatClampNeg (0 : Int32).toNatClampNeg (12 : Int32).toNatClampNeg) s_saltEnd s_complained s_clearings s_count, kSt g a_so s_lowero s_highero s_kindo s_sizeo s_snowo s_saltEndo s_complainedo s_clearingso s_counto]) H := hP
  have hD : va_D A (List.flatten [kSt g a_st (va_cpy s_lowero s_lower (0 : Int32).toNatClampNeg (0 : Int32).toNatClampNeg (12 : Int32).toNatClampNeg) (va_cpy s_highero s_higher (0 : Int32).toNatClampNeg (0 : Int32).toNatClampNeg (12 : Int32).toNatClampNeg) (va_cpy s_kindo s_kind (0 : Int32).toNatClampNeg (0 : Int32).toNatClampNeg (12 : Int32).toNatClampNeg) (va_cpy s_sizeo s_size (0 : Int32).toNatClampNeg (0 : Int32).toNatClampNeg (12 : Int32).toNatClampNeg) (va_cpy s_snowo s_snow (0 : Int32).toNatClampNeg (0 : Int32).toNatClampNeg (12 : Int32).toNatClampNeg) s_saltEnd s_complained s_clearings s_count, kSt g a_so s_lowero s_highero s_kindo s_sizeo s_snowo s_saltEndo s_complainedo s_clearingso s_counto]) := hD
  refine lv_aload_n hx hb dX4_copyFrom_75 rfl (lv_at hl 1 rfl) ?_
  refine va_get (D := g.1) (ci := 8) (v := .ref (a_so 6)) (C := RX4) (T := TX4) (N := 9) hx hb hts inX4_copyFrom_X4 hown hE.1 hP 9 rfl rfl 5 (by decide) (gW hts 10 (.fieldLink RX4 28 "SnowDispatcher$Streets" "saltEnd" "[I") rfl) (fun _ h9 => h9) rfl dX4_copyFrom_76 ?_
  refine lv_iconst (v := 0) hx hb dX4_copyFrom_79 (by decide) ?_
  refine lv_aload_n hx hb dX4_copyFrom_80 rfl (lv_at hl 0 rfl) ?_
  refine va_get (D := g.1) (ci := 8) (v := .ref (a_st 6)) (C := RX4) (T := TX4) (N := 9) hx hb hts inX4_copyFrom_X4 hown hE.1 hP 0 rfl rfl 5 (by decide) (gW hts 10 (.fieldLink RX4 28 "SnowDispatcher$Streets" "saltEnd" "[I") rfl) (fun _ h9 => h9) rfl dX4_copyFrom_81 ?_
  refine lv_iconst (v := 0) hx hb dX4_copyFrom_84 (by decide) ?_
  refine lv_bipush (v := 12) hx hb dX4_copyFrom_85 (by decide) ?_
  refine va_copyi hx hb (hml.trans hl.1.symm) hown (gW hts 2 (.methodLink RX4 41 arraycopyName) rfl) (gW hts 3 (.native arraycopyName) rfl) (gW hts 4 (.static arraycopyName) rfl) (gW hts 5 (.initialized "java/lang/System") rfl) hE.1 hP hD hS 15 6 0 0 rfl rfl rfl rfl rfl (by decide) (by decide) (by decide) (by decide) (by decide) (fun _ _ => rfl) (Nat.le_of_ble_eq_true rfl) (by decide +kernel) dX4_copyFrom_87 (fun H locs hP hD hS => ?_)
  have hP : va_P g.1 vwCl (List.flatten [kSt g a_st (va_cpy s_lowero s_lower (0 : Int32).toNatClampNeg (0 : Int32).toNatClampNeg (12 : Int32).toNatClampNeg) (va_cpy s_highero s_higher (0 : Int32).toNatClampNeg (0 : Int32).toNatClampNeg (12 : Int32).toNatClampNeg) (va_cpy s_kindo s_kind (0 : Int32).toNatClampNeg (0 : Int32).toNatClampNeg (12 : Int32).toNatClampNeg) (va_cpy s_sizeo s_size (0 : Int32).toNatClampNeg (0 : Int32).toNatClampNeg (12 : Int32).toNatClampNeg) (va_cpy s_snowo s_snow (0 : Int32).toNatClampNeg (0 : Int32).toNatClampNeg (12 : Int32).toNatClampNeg) (va_cpy s_saltEndo s_saltEnd (0 : Int32).toNatClampNeg (0 : Int32).toNatClampNeg (12 : Int32).toNatClampNeg) s_complained s_clearings s_count, kSt g a_so s_lowero s_highero s_kindo s_sizeo s_snowo s_saltEndo s_complainedo s_clearingso s_counto]) H := hP
  have hD : va_D A (List.flatten [kSt g a_st (va_cpy s_lowero s_lower (0 : Int32).toNatClampNeg (0 : Int32).toNatClampNeg (12 : Int32).toNatClampNeg) (va_cpy s_highero s_higher (0 : Int32).toNatClampNeg (0 : Int32).toNatClampNeg (12 : Int32).toNatClampNeg) (va_cpy s_kindo s_kind (0 : Int32).toNatClampNeg (0 : Int32).toNatClampNeg (12 : Int32).toNatClampNeg) (va_cpy s_sizeo s_size (0 : Int32).toNatClampNeg (0 : Int32).toNatClampNeg (12 : Int32).toNatClampNeg) (va_cpy s_snowo s_snow (0 : Int32).toNatClampNeg (0 : Int32).toNatClampNeg (12 : Int32).toNatClampNeg) (va_cpy s_saltEndo s_saltEnd (0 : Int32).toNatClampNeg (0 : Int32).toNatClampNeg (12 : Int32).toNatClampNeg) s_complained s_clearings s_count, kSt g a_so s_lowero s_highero s_kindo s_sizeo s_snowo s_saltEndo s_complainedo s_clearingso s_counto]) := hD
  refine lv_aload_n hx hb dX4_copyFrom_90 rfl (lv_at hl 1 rfl) ?_
  refine va_get (D := g.1) (ci := 8) (v := .ref (a_so 7)) (C := RX4) (T := TX4) (N := 9) hx hb hts inX4_copyFrom_X4 hown hE.1 hP 9 rfl rfl 6 (by decide) (gW hts 11 (.fieldLink RX4 31 "SnowDispatcher$Streets" "complained" "[I") rfl) (fun _ h9 => h9) rfl dX4_copyFrom_91 ?_
  refine lv_iconst (v := 0) hx hb dX4_copyFrom_94 (by decide) ?_
  refine lv_aload_n hx hb dX4_copyFrom_95 rfl (lv_at hl 0 rfl) ?_
  refine va_get (D := g.1) (ci := 8) (v := .ref (a_st 7)) (C := RX4) (T := TX4) (N := 9) hx hb hts inX4_copyFrom_X4 hown hE.1 hP 0 rfl rfl 6 (by decide) (gW hts 11 (.fieldLink RX4 31 "SnowDispatcher$Streets" "complained" "[I") rfl) (fun _ h9 => h9) rfl dX4_copyFrom_96 ?_
  refine lv_iconst (v := 0) hx hb dX4_copyFrom_99 (by decide) ?_
  refine lv_bipush (v := 12) hx hb dX4_copyFrom_100 (by decide) ?_
  refine va_copyi hx hb (hml.trans hl.1.symm) hown (gW hts 2 (.methodLink RX4 41 arraycopyName) rfl) (gW hts 3 (.native arraycopyName) rfl) (gW hts 4 (.static arraycopyName) rfl) (gW hts 5 (.initialized "java/lang/System") rfl) hE.1 hP hD hS 16 7 0 0 rfl rfl rfl rfl rfl (by decide) (by decide) (by decide) (by decide) (by decide) (fun _ _ => rfl) (Nat.le_of_ble_eq_true rfl) (by decide +kernel) dX4_copyFrom_102 (fun H locs hP hD hS => ?_)
  have hP : va_P g.1 vwCl (List.flatten [kSt g a_st (va_cpy s_lowero s_lower (0 : Int32).toNatClampNeg (0 : Int32).toNatClampNeg (12 : Int32).toNatClampNeg) (va_cpy s_highero s_higher (0 : Int32).toNatClampNeg (0 : Int32).toNatClampNeg (12 : Int32).toNatClampNeg) (va_cpy s_kindo s_kind (0 : Int32).toNatClampNeg (0 : Int32).toNatClampNeg (12 : Int32).toNatClampNeg) (va_cpy s_sizeo s_size (0 : Int32).toNatClampNeg (0 : Int32).toNatClampNeg (12 : Int32).toNatClampNeg) (va_cpy s_snowo s_snow (0 : Int32).toNatClampNeg (0 : Int32).toNatClampNeg (12 : Int32).toNatClampNeg) (va_cpy s_saltEndo s_saltEnd (0 : Int32).toNatClampNeg (0 : Int32).toNatClampNeg (12 : Int32).toNatClampNeg) (va_cpy s_complainedo s_complained (0 : Int32).toNatClampNeg (0 : Int32).toNatClampNeg (12 : Int32).toNatClampNeg) s_clearings s_count, kSt g a_so s_lowero s_highero s_kindo s_sizeo s_snowo s_saltEndo s_complainedo s_clearingso s_counto]) H := hP
  have hD : va_D A (List.flatten [kSt g a_st (va_cpy s_lowero s_lower (0 : Int32).toNatClampNeg (0 : Int32).toNatClampNeg (12 : Int32).toNatClampNeg) (va_cpy s_highero s_higher (0 : Int32).toNatClampNeg (0 : Int32).toNatClampNeg (12 : Int32).toNatClampNeg) (va_cpy s_kindo s_kind (0 : Int32).toNatClampNeg (0 : Int32).toNatClampNeg (12 : Int32).toNatClampNeg) (va_cpy s_sizeo s_size (0 : Int32).toNatClampNeg (0 : Int32).toNatClampNeg (12 : Int32).toNatClampNeg) (va_cpy s_snowo s_snow (0 : Int32).toNatClampNeg (0 : Int32).toNatClampNeg (12 : Int32).toNatClampNeg) (va_cpy s_saltEndo s_saltEnd (0 : Int32).toNatClampNeg (0 : Int32).toNatClampNeg (12 : Int32).toNatClampNeg) (va_cpy s_complainedo s_complained (0 : Int32).toNatClampNeg (0 : Int32).toNatClampNeg (12 : Int32).toNatClampNeg) s_clearings s_count, kSt g a_so s_lowero s_highero s_kindo s_sizeo s_snowo s_saltEndo s_complainedo s_clearingso s_counto]) := hD
  refine lv_aload_n hx hb dX4_copyFrom_105 rfl (lv_at hl 1 rfl) ?_
  refine va_get (D := g.1) (ci := 8) (v := .ref (a_so 8)) (C := RX4) (T := TX4) (N := 9) hx hb hts inX4_copyFrom_X4 hown hE.1 hP 9 rfl rfl 7 (by decide) (gW hts 12 (.fieldLink RX4 34 "SnowDispatcher$Streets" "clearings" "[I") rfl) (fun _ h9 => h9) rfl dX4_copyFrom_106 ?_
  refine lv_iconst (v := 0) hx hb dX4_copyFrom_109 (by decide) ?_
  refine lv_aload_n hx hb dX4_copyFrom_110 rfl (lv_at hl 0 rfl) ?_
  refine va_get (D := g.1) (ci := 8) (v := .ref (a_st 8)) (C := RX4) (T := TX4) (N := 9) hx hb hts inX4_copyFrom_X4 hown hE.1 hP 0 rfl rfl 7 (by decide) (gW hts 12 (.fieldLink RX4 34 "SnowDispatcher$Streets" "clearings" "[I") rfl) (fun _ h9 => h9) rfl dX4_copyFrom_111 ?_
  refine lv_iconst (v := 0) hx hb dX4_copyFrom_114 (by decide) ?_
  refine lv_bipush (v := 12) hx hb dX4_copyFrom_115 (by decide) ?_
  refine va_copyi hx hb (hml.trans hl.1.symm) hown (gW hts 2 (.methodLink RX4 41 arraycopyName) rfl) (gW hts 3 (.native arraycopyName) rfl) (gW hts 4 (.static arraycopyName) rfl) (gW hts 5 (.initialized "java/lang/System") rfl) hE.1 hP hD hS 17 8 0 0 rfl rfl rfl rfl rfl (by decide) (by decide) (by decide) (by decide) (by decide) (fun _ _ => rfl) (Nat.le_of_ble_eq_true rfl) (by decide +kernel) dX4_copyFrom_117 (fun H locs hP hD hS => ?_)
  have hP : va_P g.1 vwCl (List.flatten [kSt g a_st (va_cpy s_lowero s_lower (0 : Int32).toNatClampNeg (0 : Int32).toNatClampNeg (12 : Int32).toNatClampNeg) (va_cpy s_highero s_higher (0 : Int32).toNatClampNeg (0 : Int32).toNatClampNeg (12 : Int32).toNatClampNeg) (va_cpy s_kindo s_kind (0 : Int32).toNatClampNeg (0 : Int32).toNatClampNeg (12 : Int32).toNatClampNeg) (va_cpy s_sizeo s_size (0 : Int32).toNatClampNeg (0 : Int32).toNatClampNeg (12 : Int32).toNatClampNeg) (va_cpy s_snowo s_snow (0 : Int32).toNatClampNeg (0 : Int32).toNatClampNeg (12 : Int32).toNatClampNeg) (va_cpy s_saltEndo s_saltEnd (0 : Int32).toNatClampNeg (0 : Int32).toNatClampNeg (12 : Int32).toNatClampNeg) (va_cpy s_complainedo s_complained (0 : Int32).toNatClampNeg (0 : Int32).toNatClampNeg (12 : Int32).toNatClampNeg) (va_cpy s_clearingso s_clearings (0 : Int32).toNatClampNeg (0 : Int32).toNatClampNeg (12 : Int32).toNatClampNeg) s_count, kSt g a_so s_lowero s_highero s_kindo s_sizeo s_snowo s_saltEndo s_complainedo s_clearingso s_counto]) H := hP
  have hD : va_D A (List.flatten [kSt g a_st (va_cpy s_lowero s_lower (0 : Int32).toNatClampNeg (0 : Int32).toNatClampNeg (12 : Int32).toNatClampNeg) (va_cpy s_highero s_higher (0 : Int32).toNatClampNeg (0 : Int32).toNatClampNeg (12 : Int32).toNatClampNeg) (va_cpy s_kindo s_kind (0 : Int32).toNatClampNeg (0 : Int32).toNatClampNeg (12 : Int32).toNatClampNeg) (va_cpy s_sizeo s_size (0 : Int32).toNatClampNeg (0 : Int32).toNatClampNeg (12 : Int32).toNatClampNeg) (va_cpy s_snowo s_snow (0 : Int32).toNatClampNeg (0 : Int32).toNatClampNeg (12 : Int32).toNatClampNeg) (va_cpy s_saltEndo s_saltEnd (0 : Int32).toNatClampNeg (0 : Int32).toNatClampNeg (12 : Int32).toNatClampNeg) (va_cpy s_complainedo s_complained (0 : Int32).toNatClampNeg (0 : Int32).toNatClampNeg (12 : Int32).toNatClampNeg) (va_cpy s_clearingso s_clearings (0 : Int32).toNatClampNeg (0 : Int32).toNatClampNeg (12 : Int32).toNatClampNeg) s_count, kSt g a_so s_lowero s_highero s_kindo s_sizeo s_snowo s_saltEndo s_complainedo s_clearingso s_counto]) := hD
  refine lv_aload_n hx hb dX4_copyFrom_120 rfl (lv_at hl 0 rfl) ?_
  refine lv_aload_n hx hb dX4_copyFrom_121 rfl (lv_at hl 1 rfl) ?_
  refine va_get (D := g.1) (ci := 8) (v := .int s_counto) (C := RX4) (T := TX4) (N := 9) hx hb hts inX4_copyFrom_X4 hown hE.1 hP 9 rfl rfl 8 (by decide) (gW hts 13 (.fieldLink RX4 37 "SnowDispatcher$Streets" "count" "I") rfl) (fun _ h9 => h9) rfl dX4_copyFrom_122 ?_
  refine va_put (D := g.1) (ci := 8) (v := .int s_counto) (ty := .int) (C := RX4) (T := TX4) (N := 9) hx hb hts inX4_copyFrom_X4 tyX4 tyX4_ok nmX4 hown hE.1 hP hD hS 0 rfl rfl 8 (by decide) (gW hts 13 (.fieldLink RX4 37 "SnowDispatcher$Streets" "count" "I") rfl) (fun _ h9 => h9) rfl (by decide +kernel) rfl rfl (Nat.le_of_ble_eq_true rfl) dX4_copyFrom_125 (fun H locs hP hD hS => ?_)
  have hP : va_P g.1 vwCl (List.flatten [kSt g a_st (va_cpy s_lowero s_lower (0 : Int32).toNatClampNeg (0 : Int32).toNatClampNeg (12 : Int32).toNatClampNeg) (va_cpy s_highero s_higher (0 : Int32).toNatClampNeg (0 : Int32).toNatClampNeg (12 : Int32).toNatClampNeg) (va_cpy s_kindo s_kind (0 : Int32).toNatClampNeg (0 : Int32).toNatClampNeg (12 : Int32).toNatClampNeg) (va_cpy s_sizeo s_size (0 : Int32).toNatClampNeg (0 : Int32).toNatClampNeg (12 : Int32).toNatClampNeg) (va_cpy s_snowo s_snow (0 : Int32).toNatClampNeg (0 : Int32).toNatClampNeg (12 : Int32).toNatClampNeg) (va_cpy s_saltEndo s_saltEnd (0 : Int32).toNatClampNeg (0 : Int32).toNatClampNeg (12 : Int32).toNatClampNeg) (va_cpy s_complainedo s_complained (0 : Int32).toNatClampNeg (0 : Int32).toNatClampNeg (12 : Int32).toNatClampNeg) (va_cpy s_clearingso s_clearings (0 : Int32).toNatClampNeg (0 : Int32).toNatClampNeg (12 : Int32).toNatClampNeg) s_counto, kSt g a_so s_lowero s_highero s_kindo s_sizeo s_snowo s_saltEndo s_complainedo s_clearingso s_counto]) H := hP
  have hD : va_D A (List.flatten [kSt g a_st (va_cpy s_lowero s_lower (0 : Int32).toNatClampNeg (0 : Int32).toNatClampNeg (12 : Int32).toNatClampNeg) (va_cpy s_highero s_higher (0 : Int32).toNatClampNeg (0 : Int32).toNatClampNeg (12 : Int32).toNatClampNeg) (va_cpy s_kindo s_kind (0 : Int32).toNatClampNeg (0 : Int32).toNatClampNeg (12 : Int32).toNatClampNeg) (va_cpy s_sizeo s_size (0 : Int32).toNatClampNeg (0 : Int32).toNatClampNeg (12 : Int32).toNatClampNeg) (va_cpy s_snowo s_snow (0 : Int32).toNatClampNeg (0 : Int32).toNatClampNeg (12 : Int32).toNatClampNeg) (va_cpy s_saltEndo s_saltEnd (0 : Int32).toNatClampNeg (0 : Int32).toNatClampNeg (12 : Int32).toNatClampNeg) (va_cpy s_complainedo s_complained (0 : Int32).toNatClampNeg (0 : Int32).toNatClampNeg (12 : Int32).toNatClampNeg) (va_cpy s_clearingso s_clearings (0 : Int32).toNatClampNeg (0 : Int32).toNatClampNeg (12 : Int32).toNatClampNeg) s_counto, kSt g a_so s_lowero s_highero s_kindo s_sizeo s_snowo s_saltEndo s_complainedo s_clearingso s_counto]) := hD
  subst hQ
  exact W.vret hx hb hr (gRv9 (c1 := (va_cpy s_lowero s_lower (0 : Int32).toNatClampNeg (0 : Int32).toNatClampNeg (12 : Int32).toNatClampNeg)) (c2 := (va_cpy s_highero s_higher (0 : Int32).toNatClampNeg (0 : Int32).toNatClampNeg (12 : Int32).toNatClampNeg)) (c3 := (va_cpy s_kindo s_kind (0 : Int32).toNatClampNeg (0 : Int32).toNatClampNeg (12 : Int32).toNatClampNeg)) (c4 := (va_cpy s_sizeo s_size (0 : Int32).toNatClampNeg (0 : Int32).toNatClampNeg (12 : Int32).toNatClampNeg)) (c5 := (va_cpy s_snowo s_snow (0 : Int32).toNatClampNeg (0 : Int32).toNatClampNeg (12 : Int32).toNatClampNeg)) (c6 := (va_cpy s_saltEndo s_saltEnd (0 : Int32).toNatClampNeg (0 : Int32).toNatClampNeg (12 : Int32).toNatClampNeg)) (c7 := (va_cpy s_complainedo s_complained (0 : Int32).toNatClampNeg (0 : Int32).toNatClampNeg (12 : Int32).toNatClampNeg)) (c8 := (va_cpy s_clearingso s_clearings (0 : Int32).toNatClampNeg (0 : Int32).toNatClampNeg (12 : Int32).toNatClampNeg)) (c9 := s_counto) (wf := _) hA0 hsz hw hP hD hS) hS.2.2 dX4_copyFrom_128
abbrev rmX4_areConnected : Room := { frames := 1, cells := 0, slots := 0, locals := 100 }
set_option maxRecDepth 20000 in
theorem inX4_areConnected_X4 : ∀ w ∈ wsX40, w ∈ wsX4_areConnected := by decide +kernel
set_option maxHeartbeats 4000000 in
set_option maxRecDepth 100000 in
theorem ctX4_areConnected (l : Launch) (g : GG) (a_st : Nat → Nat) (sz : Nat) (s_lower : Nat → Int32) (s_higher : Nat → Int32) (s_kind : Nat → Int32) (s_size : Nat → Int32) (s_snow : Nat → Int32) (s_saltEnd : Nat → Int32) (s_complained : Nat → Int32) (s_clearings : Nat → Int32) (s_count : Int32) (x1 : Int32) (x2 : Int32) {post : Int32 → Prop} (hw : wpX4_areConnected x1 x2 s_lower s_higher s_count post) :
    Met l yX4_areConnected wsX4_areConnected rmX4_areConnected (gPc g sz (List.flatten [kSt g a_st s_lower s_higher s_kind s_size s_snow s_saltEnd s_complained s_clearings s_count]) [.ref (a_st 0), .int x1, .int x2]) (gQi0 post (gB g (List.flatten [kSt g a_st s_lower s_higher s_kind s_size s_snow s_saltEnd s_complained s_clearings s_count]) sz (List.flatten [kSt g a_st s_lower s_higher s_kind s_size s_snow s_saltEnd s_complained s_clearings s_count])) (va_A (List.flatten [kSt g a_st s_lower s_higher s_kind s_size s_snow s_saltEnd s_complained s_clearings s_count]) sz)) 0 0 (va_A (List.flatten [kSt g a_st s_lower s_higher s_kind s_size s_snow s_saltEnd s_complained s_clearings s_count]) sz) := by
  refine gOf (cc := cX4_areConnected) (maxL := 4) (ret := (some .boolean)) (by decide) rfl (Nat.le_of_ble_eq_true rfl) ?_
  intro p e s m below meth c ls Q A hQ hx hb hr hml hts hown hlocks hE hA0 hsz hP hD hA hS hl
  have hl : lv_has ls 4 [(0, .ref (a_st 0)), (1, .int x1), (2, .int x2)] := hl
  have L2 : ∀ (n : Nat) (x3_2 : Int32) (H : Heap) (locs : List Loc) (ls : Array Slot), wpX4_areConnected_L2 x1 x2 s_lower s_higher s_count post n x3_2 → va_P g.1 vwCl (List.flatten [kSt g a_st s_lower s_higher s_kind s_size s_snow s_saltEnd s_complained s_clearings s_count]) H → va_D A (List.flatten [kSt g a_st s_lower s_higher s_kind s_size s_snow s_saltEnd s_complained s_clearings s_count]) → va_S A s.heap H locs → lv_has ls 4 [(0, .ref (a_st 0)), (1, .int x1), (2, .int x2), (3, .int x3_2)] → W p l e rmX4_areConnected s m (([.ref (a_st 0), .int x1, .int x2] : List Value).toArray) below meth c H locs 0 0 Q (F0 m 2 ls []) := by
    intro n_2
    induction n_2 with
    | zero => intro x3_2 H locs ls hw; exact False.elim hw
    | succ n_2 ih_2 =>
      intro x3_2 H locs ls hw hP hD hS hl
      refine lv_iload_n hx hb dX4_areConnected_2 rfl (lv_at hl 3 rfl) ?_
      refine lv_aload_n hx hb dX4_areConnected_3 rfl (lv_at hl 0 rfl) ?_
      refine va_get (D := g.1) (ci := 8) (v := .int s_count) (C := RX4) (T := TX4) (N := 9) hx hb hts inX4_areConnected_X4 hown hE.1 hP 0 rfl rfl 8 (by decide) (gW hts 1 (.fieldLink RX4 37 "SnowDispatcher$Streets" "count" "I") rfl) (fun _ h9 => h9) rfl dX4_areConnected_4 ?_
      refine lv_icmp_ge (tgt := 44) hx hb dX4_areConnected_7 (by decide) (fun c_7 => ?_) (fun c_7 => ?_)
      · have hw := hw.1 c_7
        refine lv_iconst (v := 0) hx hb dX4_areConnected_44 (by decide) ?_
        subst hQ
        exact W.zret (ty := .boolean) hx hb hr (by decide) (gRi0 (wf := _) hA0 hsz hw hP hD hS) hS.2.2 dX4_areConnected_45
      · have hw := hw.2 c_7
        refine lv_iload_n hx hb dX4_areConnected_10 rfl (lv_at hl 3 rfl) ?_
        refine lv_bipush (v := 12) hx hb dX4_areConnected_11 (by decide) ?_
        refine lv_icmp_ge (tgt := 44) hx hb dX4_areConnected_13 (by decide) (fun c_13 => ?_) (fun c_13 => ?_)
        · have hw := hw.1 c_13
          refine lv_iconst (v := 0) hx hb dX4_areConnected_44 (by decide) ?_
          subst hQ
          exact W.zret (ty := .boolean) hx hb hr (by decide) (gRi0 (wf := _) hA0 hsz hw hP hD hS) hS.2.2 dX4_areConnected_45
        · have hw := hw.2 c_13
          refine lv_aload_n hx hb dX4_areConnected_16 rfl (lv_at hl 0 rfl) ?_
          refine va_get (D := g.1) (ci := 8) (v := .ref (a_st 1)) (C := RX4) (T := TX4) (N := 9) hx hb hts inX4_areConnected_X4 hown hE.1 hP 0 rfl rfl 0 (by decide) (gW hts 2 (.fieldLink RX4 9 "SnowDispatcher$Streets" "lower" "[I") rfl) (fun _ h9 => h9) rfl dX4_areConnected_17 ?_
          refine lv_iload_n hx hb dX4_areConnected_20 rfl (lv_at hl 3 rfl) ?_
          have h1 := hw.1
          have hw := hw.2
          refine va_iald hx hb hE.1 hP 1 0 rfl rfl h1 dX4_areConnected_21 ?_
          refine lv_iload_n hx hb dX4_areConnected_22 rfl (lv_at hl 1 rfl) ?_
          refine lv_icmp_ne (tgt := 38) hx hb dX4_areConnected_23 (by decide) (fun c_23 => ?_) (fun c_23 => ?_)
          · have hw := hw.1 c_23
            refine lv_iinc (v := (x3_2 + 1)) (lv' := [(3, .int (x3_2 + 1)), (0, .ref (a_st 0)), (1, .int x1), (2, .int x2)]) hx hb dX4_areConnected_38 hl (k := 3) rfl rfl (by decide) rfl (fun ls hl => ?_)
            refine lv_goto (tgt := 2) hx hb dX4_areConnected_41 (by decide) ?_
            exact ih_2 (x3_2 + 1) _ _ _ hw hP hD hS (lv_sub hl [1, 2, 3, 0] rfl)
          · have hw := hw.2 c_23
            refine lv_aload_n hx hb dX4_areConnected_26 rfl (lv_at hl 0 rfl) ?_
            refine va_get (D := g.1) (ci := 8) (v := .ref (a_st 2)) (C := RX4) (T := TX4) (N := 9) hx hb hts inX4_areConnected_X4 hown hE.1 hP 0 rfl rfl 1 (by decide) (gW hts 3 (.fieldLink RX4 15 "SnowDispatcher$Streets" "higher" "[I") rfl) (fun _ h9 => h9) rfl dX4_areConnected_27 ?_
            refine lv_iload_n hx hb dX4_areConnected_30 rfl (lv_at hl 3 rfl) ?_
            have h2 := hw.1
            have hw := hw.2
            refine va_iald hx hb hE.1 hP 2 0 rfl rfl h2 dX4_areConnected_31 ?_
            refine lv_iload_n hx hb dX4_areConnected_32 rfl (lv_at hl 2 rfl) ?_
            refine lv_icmp_ne (tgt := 38) hx hb dX4_areConnected_33 (by decide) (fun c_33 => ?_) (fun c_33 => ?_)
            · have hw := hw.1 c_33
              refine lv_iinc (v := (x3_2 + 1)) (lv' := [(3, .int (x3_2 + 1)), (0, .ref (a_st 0)), (1, .int x1), (2, .int x2)]) hx hb dX4_areConnected_38 hl (k := 3) rfl rfl (by decide) rfl (fun ls hl => ?_)
              refine lv_goto (tgt := 2) hx hb dX4_areConnected_41 (by decide) ?_
              exact ih_2 (x3_2 + 1) _ _ _ hw hP hD hS (lv_sub hl [1, 2, 3, 0] rfl)
            · have hw := hw.2 c_33
              refine lv_iconst (v := 1) hx hb dX4_areConnected_36 (by decide) ?_
              subst hQ
              exact W.zret (ty := .boolean) hx hb hr (by decide) (gRi0 (wf := _) hA0 hsz hw hP hD hS) hS.2.2 dX4_areConnected_37
  refine lv_iconst (v := 0) hx hb dX4_areConnected_0 (by decide) ?_
  refine lv_istore_n (lv' := [(3, .int 0), (0, .ref (a_st 0)), (1, .int x1), (2, .int x2)]) hx hb dX4_areConnected_1 rfl hl (by decide) rfl (fun ls hl => ?_)
  obtain ⟨n, hw⟩ := hw
  exact L2 n 0 _ _ _ hw hP hD hS (lv_sub hl [1, 2, 3, 0] rfl)
abbrev rmX4_put : Room := { frames := 1, cells := 0, slots := 0, locals := 100 }
set_option maxRecDepth 20000 in
theorem inX4_put_X4 : ∀ w ∈ wsX40, w ∈ wsX4_put := by decide +kernel
set_option maxHeartbeats 4000000 in
set_option maxRecDepth 100000 in
theorem ctX4_put (l : Launch) (g : GG) (a_st : Nat → Nat) (sz : Nat) (s_lower : Nat → Int32) (s_higher : Nat → Int32) (s_kind : Nat → Int32) (s_size : Nat → Int32) (s_snow : Nat → Int32) (s_saltEnd : Nat → Int32) (s_complained : Nat → Int32) (s_clearings : Nat → Int32) (s_count : Int32) (x1 : Int32) (x2 : Int32) (x3 : Int32) (x4 : Int32) {post : Int32 → (Nat → Int32) → (Nat → Int32) → (Nat → Int32) → (Nat → Int32) → (Nat → Int32) → (Nat → Int32) → (Nat → Int32) → (Nat → Int32) → Int32 → Prop} (hw : wpX4_put x1 x2 x3 x4 s_lower s_higher s_kind s_size s_snow s_saltEnd s_complained s_clearings s_count post) :
    Met l yX4_put wsX4_put rmX4_put (gPc g sz (List.flatten [kSt g a_st s_lower s_higher s_kind s_size s_snow s_saltEnd s_complained s_clearings s_count]) [.ref (a_st 0), .int x1, .int x2, .int x3, .int x4]) (gQi9 post (fun u1 u2 u3 u4 u5 u6 u7 u8 u9 => gB g (List.flatten [kSt g a_st s_lower s_higher s_kind s_size s_snow s_saltEnd s_complained s_clearings s_count]) sz (List.flatten [kSt g a_st u1 u2 u3 u4 u5 u6 u7 u8 u9])) (va_A (List.flatten [kSt g a_st s_lower s_higher s_kind s_size s_snow s_saltEnd s_complained s_clearings s_count]) sz)) 0 0 (va_A (List.flatten [kSt g a_st s_lower s_higher s_kind s_size s_snow s_saltEnd s_complained s_clearings s_count]) sz) := by
  refine gOf (cc := cX4_put) (maxL := 6) (ret := (some .int)) (by decide) rfl (Nat.le_of_ble_eq_true rfl) ?_
  intro p e s m below meth c ls Q A hQ hx hb hr hml hts hown hlocks hE hA0 hsz hP hD hA hS hl
  have hl : lv_has ls 6 [(0, .ref (a_st 0)), (1, .int x1), (2, .int x2), (3, .int x3), (4, .int x4)] := hl
  refine lv_aload_n hx hb dX4_put_0 rfl (lv_at hl 0 rfl) ?_
  refine va_get (D := g.1) (ci := 8) (v := .int s_count) (C := RX4) (T := TX4) (N := 9) hx hb hts inX4_put_X4 hown hE.1 hP 0 rfl rfl 8 (by decide) (gW hts 1 (.fieldLink RX4 37 "SnowDispatcher$Streets" "count" "I") rfl) (fun _ h9 => h9) rfl dX4_put_1 ?_
  refine lv_if_lt (tgt := 16) hx hb dX4_put_4 (by decide) (fun c_4 => ?_) (fun c_4 => ?_)
  · have hw := hw.1 c_4
    refine lv_bipush (v := (-4)) hx hb dX4_put_16 (by decide) ?_
    subst hQ
    exact W.iret hx hb hr (gRi9 (c1 := s_lower) (c2 := s_higher) (c3 := s_kind) (c4 := s_size) (c5 := s_snow) (c6 := s_saltEnd) (c7 := s_complained) (c8 := s_clearings) (c9 := s_count) (wf := _) hA0 hsz hw hP hD hS) hS.2.2 dX4_put_18
  · have hw := hw.2 c_4
    refine lv_aload_n hx hb dX4_put_7 rfl (lv_at hl 0 rfl) ?_
    refine va_get (D := g.1) (ci := 8) (v := .int s_count) (C := RX4) (T := TX4) (N := 9) hx hb hts inX4_put_X4 hown hE.1 hP 0 rfl rfl 8 (by decide) (gW hts 1 (.fieldLink RX4 37 "SnowDispatcher$Streets" "count" "I") rfl) (fun _ h9 => h9) rfl dX4_put_8 ?_
    refine lv_bipush (v := 12) hx hb dX4_put_11 (by decide) ?_
    refine lv_icmp_lt (tgt := 19) hx hb dX4_put_13 (by decide) (fun c_13 => ?_) (fun c_13 => ?_)
    · have hw := hw.1 c_13
      refine lv_aload_n hx hb dX4_put_19 rfl (lv_at hl 0 rfl) ?_
      refine va_get (D := g.1) (ci := 8) (v := .int s_count) (C := RX4) (T := TX4) (N := 9) hx hb hts inX4_put_X4 hown hE.1 hP 0 rfl rfl 8 (by decide) (gW hts 1 (.fieldLink RX4 37 "SnowDispatcher$Streets" "count" "I") rfl) (fun _ h9 => h9) rfl dX4_put_20 ?_
      refine lv_istore (lv' := [(5, .int s_count), (0, .ref (a_st 0)), (1, .int x1), (2, .int x2), (3, .int x3), (4, .int x4)]) hx hb dX4_put_23 hl (by decide) rfl (fun ls hl => ?_)
      refine lv_aload_n hx hb dX4_put_25 rfl (lv_at hl 1 rfl) ?_
      refine va_get (D := g.1) (ci := 8) (v := .ref (a_st 1)) (C := RX4) (T := TX4) (N := 9) hx hb hts inX4_put_X4 hown hE.1 hP 0 rfl rfl 0 (by decide) (gW hts 2 (.fieldLink RX4 9 "SnowDispatcher$Streets" "lower" "[I") rfl) (fun _ h9 => h9) rfl dX4_put_26 ?_
      refine lv_iload hx hb dX4_put_29 (lv_at hl 0 rfl) ?_
      refine lv_iload_n hx hb dX4_put_31 rfl (lv_at hl 2 rfl) ?_
      have h1 := hw.1
      have hw := hw.2
      refine va_iast hx hb hE.1 hP hD hS 1 0 rfl rfl h1 dX4_put_32 (fun H locs hP hD hS => ?_)
      have hP : va_P g.1 vwCl (List.flatten [kSt g a_st (upd s_lower s_count.toNatClampNeg x1) s_higher s_kind s_size s_snow s_saltEnd s_complained s_clearings s_count]) H := hP
      have hD : va_D A (List.flatten [kSt g a_st (upd s_lower s_count.toNatClampNeg x1) s_higher s_kind s_size s_snow s_saltEnd s_complained s_clearings s_count]) := hD
      refine lv_aload_n hx hb dX4_put_33 rfl (lv_at hl 1 rfl) ?_
      refine va_get (D := g.1) (ci := 8) (v := .ref (a_st 2)) (C := RX4) (T := TX4) (N := 9) hx hb hts inX4_put_X4 hown hE.1 hP 0 rfl rfl 1 (by decide) (gW hts 3 (.fieldLink RX4 15 "SnowDispatcher$Streets" "higher" "[I") rfl) (fun _ h9 => h9) rfl dX4_put_34 ?_
      refine lv_iload hx hb dX4_put_37 (lv_at hl 0 rfl) ?_
      refine lv_iload_n hx hb dX4_put_39 rfl (lv_at hl 3 rfl) ?_
      have h2 := hw.1
      have hw := hw.2
      refine va_iast hx hb hE.1 hP hD hS 2 0 rfl rfl h2 dX4_put_40 (fun H locs hP hD hS => ?_)
      have hP : va_P g.1 vwCl (List.flatten [kSt g a_st (upd s_lower s_count.toNatClampNeg x1) (upd s_higher s_count.toNatClampNeg x2) s_kind s_size s_snow s_saltEnd s_complained s_clearings s_count]) H := hP
      have hD : va_D A (List.flatten [kSt g a_st (upd s_lower s_count.toNatClampNeg x1) (upd s_higher s_count.toNatClampNeg x2) s_kind s_size s_snow s_saltEnd s_complained s_clearings s_count]) := hD
      refine lv_aload_n hx hb dX4_put_41 rfl (lv_at hl 1 rfl) ?_
      refine va_get (D := g.1) (ci := 8) (v := .ref (a_st 3)) (C := RX4) (T := TX4) (N := 9) hx hb hts inX4_put_X4 hown hE.1 hP 0 rfl rfl 2 (by decide) (gW hts 4 (.fieldLink RX4 18 "SnowDispatcher$Streets" "kind" "[C") rfl) (fun _ h9 => h9) rfl dX4_put_42 ?_
      refine lv_iload hx hb dX4_put_45 (lv_at hl 0 rfl) ?_
      refine lv_iload_n hx hb dX4_put_47 rfl (lv_at hl 4 rfl) ?_
      have h3 := hw.1
      have hw := hw.2
      refine va_cast hx hb hE.1 hP hD hS 3 1 rfl rfl h3 dX4_put_48 (fun H locs hP hD hS => ?_)
      have hP : va_P g.1 vwCl (List.flatten [kSt g a_st (upd s_lower s_count.toNatClampNeg x1) (upd s_higher s_count.toNatClampNeg x2) (upd s_kind s_count.toNatClampNeg (vp_nar .char x3)) s_size s_snow s_saltEnd s_complained s_clearings s_count]) H := hP
      have hD : va_D A (List.flatten [kSt g a_st (upd s_lower s_count.toNatClampNeg x1) (upd s_higher s_count.toNatClampNeg x2) (upd s_kind s_count.toNatClampNeg (vp_nar .char x3)) s_size s_snow s_saltEnd s_complained s_clearings s_count]) := hD
      refine lv_aload_n hx hb dX4_put_49 rfl (lv_at hl 1 rfl) ?_
      refine va_get (D := g.1) (ci := 8) (v := .ref (a_st 4)) (C := RX4) (T := TX4) (N := 9) hx hb hts inX4_put_X4 hown hE.1 hP 0 rfl rfl 3 (by decide) (gW hts 5 (.fieldLink RX4 22 "SnowDispatcher$Streets" "size" "[I") rfl) (fun _ h9 => h9) rfl dX4_put_50 ?_
      refine lv_iload hx hb dX4_put_53 (lv_at hl 0 rfl) ?_
      refine lv_iload hx hb dX4_put_55 (lv_at hl 5 rfl) ?_
      have h4 := hw.1
      have hw := hw.2
      refine va_iast hx hb hE.1 hP hD hS 4 0 rfl rfl h4 dX4_put_57 (fun H locs hP hD hS => ?_)
      have hP : va_P g.1 vwCl (List.flatten [kSt g a_st (upd s_lower s_count.toNatClampNeg x1) (upd s_higher s_count.toNatClampNeg x2) (upd s_kind s_count.toNatClampNeg (vp_nar .char x3)) (upd s_size s_count.toNatClampNeg x4) s_snow s_saltEnd s_complained s_clearings s_count]) H := hP
      have hD : va_D A (List.flatten [kSt g a_st (upd s_lower s_count.toNatClampNeg x1) (upd s_higher s_count.toNatClampNeg x2) (upd s_kind s_count.toNatClampNeg (vp_nar .char x3)) (upd s_size s_count.toNatClampNeg x4) s_snow s_saltEnd s_complained s_clearings s_count]) := hD
      refine lv_aload_n hx hb dX4_put_58 rfl (lv_at hl 1 rfl) ?_
      refine va_get (D := g.1) (ci := 8) (v := .ref (a_st 5)) (C := RX4) (T := TX4) (N := 9) hx hb hts inX4_put_X4 hown hE.1 hP 0 rfl rfl 4 (by decide) (gW hts 6 (.fieldLink RX4 25 "SnowDispatcher$Streets" "snow" "[I") rfl) (fun _ h9 => h9) rfl dX4_put_59 ?_
      refine lv_iload hx hb dX4_put_62 (lv_at hl 0 rfl) ?_
      refine lv_iconst (v := 0) hx hb dX4_put_64 (by decide) ?_
      have h5 := hw.1
      have hw := hw.2
      refine va_iast hx hb hE.1 hP hD hS 5 0 rfl rfl h5 dX4_put_65 (fun H locs hP hD hS => ?_)
      have hP : va_P g.1 vwCl (List.flatten [kSt g a_st (upd s_lower s_count.toNatClampNeg x1) (upd s_higher s_count.toNatClampNeg x2) (upd s_kind s_count.toNatClampNeg (vp_nar .char x3)) (upd s_size s_count.toNatClampNeg x4) (upd s_snow s_count.toNatClampNeg 0) s_saltEnd s_complained s_clearings s_count]) H := hP
      have hD : va_D A (List.flatten [kSt g a_st (upd s_lower s_count.toNatClampNeg x1) (upd s_higher s_count.toNatClampNeg x2) (upd s_kind s_count.toNatClampNeg (vp_nar .char x3)) (upd s_size s_count.toNatClampNeg x4) (upd s_snow s_count.toNatClampNeg 0) s_saltEnd s_complained s_clearings s_count]) := hD
      refine lv_aload_n hx hb dX4_put_66 rfl (lv_at hl 1 rfl) ?_
      refine va_get (D := g.1) (ci := 8) (v := .ref (a_st 6)) (C := RX4) (T := TX4) (N := 9) hx hb hts inX4_put_X4 hown hE.1 hP 0 rfl rfl 5 (by decide) (gW hts 7 (.fieldLink RX4 28 "SnowDispatcher$Streets" "saltEnd" "[I") rfl) (fun _ h9 => h9) rfl dX4_put_67 ?_
      refine lv_iload hx hb dX4_put_70 (lv_at hl 0 rfl) ?_
      refine lv_iconst (v := 0) hx hb dX4_put_72 (by decide) ?_
      have h6 := hw.1
      have hw := hw.2
      refine va_iast hx hb hE.1 hP hD hS 6 0 rfl rfl h6 dX4_put_73 (fun H locs hP hD hS => ?_)
      have hP : va_P g.1 vwCl (List.flatten [kSt g a_st (upd s_lower s_count.toNatClampNeg x1) (upd s_higher s_count.toNatClampNeg x2) (upd s_kind s_count.toNatClampNeg (vp_nar .char x3)) (upd s_size s_count.toNatClampNeg x4) (upd s_snow s_count.toNatClampNeg 0) (upd s_saltEnd s_count.toNatClampNeg 0) s_complained s_clearings s_count]) H := hP
      have hD : va_D A (List.flatten [kSt g a_st (upd s_lower s_count.toNatClampNeg x1) (upd s_higher s_count.toNatClampNeg x2) (upd s_kind s_count.toNatClampNeg (vp_nar .char x3)) (upd s_size s_count.toNatClampNeg x4) (upd s_snow s_count.toNatClampNeg 0) (upd s_saltEnd s_count.toNatClampNeg 0) s_complained s_clearings s_count]) := hD
      refine lv_aload_n hx hb dX4_put_74 rfl (lv_at hl 1 rfl) ?_
      refine va_get (D := g.1) (ci := 8) (v := .ref (a_st 7)) (C := RX4) (T := TX4) (N := 9) hx hb hts inX4_put_X4 hown hE.1 hP 0 rfl rfl 6 (by decide) (gW hts 8 (.fieldLink RX4 31 "SnowDispatcher$Streets" "complained" "[I") rfl) (fun _ h9 => h9) rfl dX4_put_75 ?_
      refine lv_iload hx hb dX4_put_78 (lv_at hl 0 rfl) ?_
      refine lv_iconst (v := 0) hx hb dX4_put_80 (by decide) ?_
      have h7 := hw.1
      have hw := hw.2
      refine va_iast hx hb hE.1 hP hD hS 7 0 rfl rfl h7 dX4_put_81 (fun H locs hP hD hS => ?_)
      have hP : va_P g.1 vwCl (List.flatten [kSt g a_st (upd s_lower s_count.toNatClampNeg x1) (upd s_higher s_count.toNatClampNeg x2) (upd s_kind s_count.toNatClampNeg (vp_nar .char x3)) (upd s_size s_count.toNatClampNeg x4) (upd s_snow s_count.toNatClampNeg 0) (upd s_saltEnd s_count.toNatClampNeg 0) (upd s_complained s_count.toNatClampNeg 0) s_clearings s_count]) H := hP
      have hD : va_D A (List.flatten [kSt g a_st (upd s_lower s_count.toNatClampNeg x1) (upd s_higher s_count.toNatClampNeg x2) (upd s_kind s_count.toNatClampNeg (vp_nar .char x3)) (upd s_size s_count.toNatClampNeg x4) (upd s_snow s_count.toNatClampNeg 0) (upd s_saltEnd s_count.toNatClampNeg 0) (upd s_complained s_count.toNatClampNeg 0) s_clearings s_count]) := hD
      refine lv_aload_n hx hb dX4_put_82 rfl (lv_at hl 1 rfl) ?_
      refine va_get (D := g.1) (ci := 8) (v := .ref (a_st 8)) (C := RX4) (T := TX4) (N := 9) hx hb hts inX4_put_X4 hown hE.1 hP 0 rfl rfl 7 (by decide) (gW hts 9 (.fieldLink RX4 34 "SnowDispatcher$Streets" "clearings" "[I") rfl) (fun _ h9 => h9) rfl dX4_put_83 ?_
      refine lv_iload hx hb dX4_put_86 (lv_at hl 0 rfl) ?_
      refine lv_iconst (v := 0) hx hb dX4_put_88 (by decide) ?_
      have h8 := hw.1
      have hw := hw.2
      refine va_iast hx hb hE.1 hP hD hS 8 0 rfl rfl h8 dX4_put_89 (fun H locs hP hD hS => ?_)
      have hP : va_P g.1 vwCl (List.flatten [kSt g a_st (upd s_lower s_count.toNatClampNeg x1) (upd s_higher s_count.toNatClampNeg x2) (upd s_kind s_count.toNatClampNeg (vp_nar .char x3)) (upd s_size s_count.toNatClampNeg x4) (upd s_snow s_count.toNatClampNeg 0) (upd s_saltEnd s_count.toNatClampNeg 0) (upd s_complained s_count.toNatClampNeg 0) (upd s_clearings s_count.toNatClampNeg 0) s_count]) H := hP
      have hD : va_D A (List.flatten [kSt g a_st (upd s_lower s_count.toNatClampNeg x1) (upd s_higher s_count.toNatClampNeg x2) (upd s_kind s_count.toNatClampNeg (vp_nar .char x3)) (upd s_size s_count.toNatClampNeg x4) (upd s_snow s_count.toNatClampNeg 0) (upd s_saltEnd s_count.toNatClampNeg 0) (upd s_complained s_count.toNatClampNeg 0) (upd s_clearings s_count.toNatClampNeg 0) s_count]) := hD
      refine lv_aload_n hx hb dX4_put_90 rfl (lv_at hl 1 rfl) ?_
      refine lv_dup hx hb dX4_put_91 rfl ?_
      refine va_get (D := g.1) (ci := 8) (v := .int s_count) (C := RX4) (T := TX4) (N := 9) hx hb hts inX4_put_X4 hown hE.1 hP 0 rfl rfl 8 (by decide) (gW hts 1 (.fieldLink RX4 37 "SnowDispatcher$Streets" "count" "I") rfl) (fun _ h9 => h9) rfl dX4_put_92 ?_
      refine lv_iconst (v := 1) hx hb dX4_put_95 (by decide) ?_
      refine lv_iadd hx hb dX4_put_96 ?_
      refine va_put (D := g.1) (ci := 8) (v := .int (s_count + 1)) (ty := .int) (C := RX4) (T := TX4) (N := 9) hx hb hts inX4_put_X4 tyX4 tyX4_ok nmX4 hown hE.1 hP hD hS 0 rfl rfl 8 (by decide) (gW hts 1 (.fieldLink RX4 37 "SnowDispatcher$Streets" "count" "I") rfl) (fun _ h9 => h9) rfl (by decide +kernel) rfl rfl (Nat.le_of_ble_eq_true rfl) dX4_put_97 (fun H locs hP hD hS => ?_)
      have hP : va_P g.1 vwCl (List.flatten [kSt g a_st (upd s_lower s_count.toNatClampNeg x1) (upd s_higher s_count.toNatClampNeg x2) (upd s_kind s_count.toNatClampNeg (vp_nar .char x3)) (upd s_size s_count.toNatClampNeg x4) (upd s_snow s_count.toNatClampNeg 0) (upd s_saltEnd s_count.toNatClampNeg 0) (upd s_complained s_count.toNatClampNeg 0) (upd s_clearings s_count.toNatClampNeg 0) (s_count + 1)]) H := hP
      have hD : va_D A (List.flatten [kSt g a_st (upd s_lower s_count.toNatClampNeg x1) (upd s_higher s_count.toNatClampNeg x2) (upd s_kind s_count.toNatClampNeg (vp_nar .char x3)) (upd s_size s_count.toNatClampNeg x4) (upd s_snow s_count.toNatClampNeg 0) (upd s_saltEnd s_count.toNatClampNeg 0) (upd s_complained s_count.toNatClampNeg 0) (upd s_clearings s_count.toNatClampNeg 0) (s_count + 1)]) := hD
      refine lv_iload hx hb dX4_put_100 (lv_at hl 0 rfl) ?_
      subst hQ
      exact W.iret hx hb hr (gRi9 (c1 := (upd s_lower s_count.toNatClampNeg x1)) (c2 := (upd s_higher s_count.toNatClampNeg x2)) (c3 := (upd s_kind s_count.toNatClampNeg (vp_nar .char x3))) (c4 := (upd s_size s_count.toNatClampNeg x4)) (c5 := (upd s_snow s_count.toNatClampNeg 0)) (c6 := (upd s_saltEnd s_count.toNatClampNeg 0)) (c7 := (upd s_complained s_count.toNatClampNeg 0)) (c8 := (upd s_clearings s_count.toNatClampNeg 0)) (c9 := (s_count + 1)) (wf := _) hA0 hsz hw hP hD hS) hS.2.2 dX4_put_102
    · have hw := hw.2 c_13
      refine lv_bipush (v := (-4)) hx hb dX4_put_16 (by decide) ?_
      subst hQ
      exact W.iret hx hb hr (gRi9 (c1 := s_lower) (c2 := s_higher) (c3 := s_kind) (c4 := s_size) (c5 := s_snow) (c6 := s_saltEnd) (c7 := s_complained) (c8 := s_clearings) (c9 := s_count) (wf := _) hA0 hsz hw hP hD hS) hS.2.2 dX4_put_18
abbrev rmX4_otherEnd : Room := { frames := 1, cells := 0, slots := 0, locals := 100 }
set_option maxRecDepth 20000 in
theorem inX4_otherEnd_X4 : ∀ w ∈ wsX40, w ∈ wsX4_otherEnd := by decide +kernel
set_option maxHeartbeats 4000000 in
set_option maxRecDepth 100000 in
theorem ctX4_otherEnd (l : Launch) (g : GG) (a_st : Nat → Nat) (sz : Nat) (s_lower : Nat → Int32) (s_higher : Nat → Int32) (s_kind : Nat → Int32) (s_size : Nat → Int32) (s_snow : Nat → Int32) (s_saltEnd : Nat → Int32) (s_complained : Nat → Int32) (s_clearings : Nat → Int32) (s_count : Int32) (x1 : Int32) (x2 : Int32) {post : Int32 → Prop} (hw : wpX4_otherEnd x1 x2 s_lower s_higher post) :
    Met l yX4_otherEnd wsX4_otherEnd rmX4_otherEnd (gPc g sz (List.flatten [kSt g a_st s_lower s_higher s_kind s_size s_snow s_saltEnd s_complained s_clearings s_count]) [.ref (a_st 0), .int x1, .int x2]) (gQi0 post (gB g (List.flatten [kSt g a_st s_lower s_higher s_kind s_size s_snow s_saltEnd s_complained s_clearings s_count]) sz (List.flatten [kSt g a_st s_lower s_higher s_kind s_size s_snow s_saltEnd s_complained s_clearings s_count])) (va_A (List.flatten [kSt g a_st s_lower s_higher s_kind s_size s_snow s_saltEnd s_complained s_clearings s_count]) sz)) 0 0 (va_A (List.flatten [kSt g a_st s_lower s_higher s_kind s_size s_snow s_saltEnd s_complained s_clearings s_count]) sz) := by
  refine gOf (cc := cX4_otherEnd) (maxL := 3) (ret := (some .int)) (by decide) rfl (Nat.le_of_ble_eq_true rfl) ?_
  intro p e s m below meth c ls Q A hQ hx hb hr hml hts hown hlocks hE hA0 hsz hP hD hA hS hl
  have hl : lv_has ls 3 [(0, .ref (a_st 0)), (1, .int x1), (2, .int x2)] := hl
  refine lv_iload_n hx hb dX4_otherEnd_0 rfl (lv_at hl 1 rfl) ?_
  refine lv_if_lt (tgt := 10) hx hb dX4_otherEnd_1 (by decide) (fun c_1 => ?_) (fun c_1 => ?_)
  · have hw := hw.1 c_1
    refine lv_iconst (v := (-1)) hx hb dX4_otherEnd_10 (by decide) ?_
    subst hQ
    exact W.iret hx hb hr (gRi0 (wf := _) hA0 hsz hw hP hD hS) hS.2.2 dX4_otherEnd_11
  · have hw := hw.2 c_1
    refine lv_iload_n hx hb dX4_otherEnd_4 rfl (lv_at hl 1 rfl) ?_
    refine lv_bipush (v := 12) hx hb dX4_otherEnd_5 (by decide) ?_
    refine lv_icmp_lt (tgt := 12) hx hb dX4_otherEnd_7 (by decide) (fun c_7 => ?_) (fun c_7 => ?_)
    · have hw := hw.1 c_7
      refine lv_aload_n hx hb dX4_otherEnd_12 rfl (lv_at hl 0 rfl) ?_
      refine va_get (D := g.1) (ci := 8) (v := .ref (a_st 1)) (C := RX4) (T := TX4) (N := 9) hx hb hts inX4_otherEnd_X4 hown hE.1 hP 0 rfl rfl 0 (by decide) (gW hts 1 (.fieldLink RX4 9 "SnowDispatcher$Streets" "lower" "[I") rfl) (fun _ h9 => h9) rfl dX4_otherEnd_13 ?_
      refine lv_iload_n hx hb dX4_otherEnd_16 rfl (lv_at hl 1 rfl) ?_
      have h1 := hw.1
      have hw := hw.2
      refine va_iald hx hb hE.1 hP 1 0 rfl rfl h1 dX4_otherEnd_17 ?_
      refine lv_iload_n hx hb dX4_otherEnd_18 rfl (lv_at hl 2 rfl) ?_
      refine lv_icmp_ne (tgt := 29) hx hb dX4_otherEnd_19 (by decide) (fun c_19 => ?_) (fun c_19 => ?_)
      · have hw := hw.1 c_19
        refine lv_aload_n hx hb dX4_otherEnd_29 rfl (lv_at hl 0 rfl) ?_
        refine va_get (D := g.1) (ci := 8) (v := .ref (a_st 2)) (C := RX4) (T := TX4) (N := 9) hx hb hts inX4_otherEnd_X4 hown hE.1 hP 0 rfl rfl 1 (by decide) (gW hts 2 (.fieldLink RX4 15 "SnowDispatcher$Streets" "higher" "[I") rfl) (fun _ h9 => h9) rfl dX4_otherEnd_30 ?_
        refine lv_iload_n hx hb dX4_otherEnd_33 rfl (lv_at hl 1 rfl) ?_
        have h2 := hw.1
        have hw := hw.2
        refine va_iald hx hb hE.1 hP 2 0 rfl rfl h2 dX4_otherEnd_34 ?_
        refine lv_iload_n hx hb dX4_otherEnd_35 rfl (lv_at hl 2 rfl) ?_
        refine lv_icmp_ne (tgt := 48) hx hb dX4_otherEnd_36 (by decide) (fun c_36 => ?_) (fun c_36 => ?_)
        · have hw := hw.1 c_36
          refine lv_iconst (v := (-1)) hx hb dX4_otherEnd_48 (by decide) ?_
          subst hQ
          exact W.iret hx hb hr (gRi0 (wf := _) hA0 hsz hw hP hD hS) hS.2.2 dX4_otherEnd_49
        · have hw := hw.2 c_36
          refine lv_aload_n hx hb dX4_otherEnd_39 rfl (lv_at hl 0 rfl) ?_
          refine va_get (D := g.1) (ci := 8) (v := .ref (a_st 1)) (C := RX4) (T := TX4) (N := 9) hx hb hts inX4_otherEnd_X4 hown hE.1 hP 0 rfl rfl 0 (by decide) (gW hts 1 (.fieldLink RX4 9 "SnowDispatcher$Streets" "lower" "[I") rfl) (fun _ h9 => h9) rfl dX4_otherEnd_40 ?_
          refine lv_iload_n hx hb dX4_otherEnd_43 rfl (lv_at hl 1 rfl) ?_
          have h3 := hw.1
          have hw := hw.2
          refine va_iald hx hb hE.1 hP 1 0 rfl rfl h3 dX4_otherEnd_44 ?_
          refine lv_goto (tgt := 49) hx hb dX4_otherEnd_45 (by decide) ?_
          subst hQ
          exact W.iret hx hb hr (gRi0 (wf := _) hA0 hsz hw hP hD hS) hS.2.2 dX4_otherEnd_49
      · have hw := hw.2 c_19
        refine lv_aload_n hx hb dX4_otherEnd_22 rfl (lv_at hl 0 rfl) ?_
        refine va_get (D := g.1) (ci := 8) (v := .ref (a_st 2)) (C := RX4) (T := TX4) (N := 9) hx hb hts inX4_otherEnd_X4 hown hE.1 hP 0 rfl rfl 1 (by decide) (gW hts 2 (.fieldLink RX4 15 "SnowDispatcher$Streets" "higher" "[I") rfl) (fun _ h9 => h9) rfl dX4_otherEnd_23 ?_
        refine lv_iload_n hx hb dX4_otherEnd_26 rfl (lv_at hl 1 rfl) ?_
        have h4 := hw.1
        have hw := hw.2
        refine va_iald hx hb hE.1 hP 2 0 rfl rfl h4 dX4_otherEnd_27 ?_
        subst hQ
        exact W.iret hx hb hr (gRi0 (wf := _) hA0 hsz hw hP hD hS) hS.2.2 dX4_otherEnd_28
    · have hw := hw.2 c_7
      refine lv_iconst (v := (-1)) hx hb dX4_otherEnd_10 (by decide) ?_
      subst hQ
      exact W.iret hx hb hr (gRi0 (wf := _) hA0 hsz hw hP hD hS) hS.2.2 dX4_otherEnd_11
abbrev rmX4_excess : Room := { frames := 2, cells := 0, slots := 0, locals := 122 }
set_option maxRecDepth 20000 in
theorem inX4_excess_X4 : ∀ w ∈ wsX40, w ∈ wsX4_excess := by decide +kernel
set_option maxHeartbeats 4000000 in
set_option maxRecDepth 100000 in
theorem ctX4_excess (l : Launch) (g : GG) (a_st : Nat → Nat) (sz : Nat) (s_lower : Nat → Int32) (s_higher : Nat → Int32) (s_kind : Nat → Int32) (s_size : Nat → Int32) (s_snow : Nat → Int32) (s_saltEnd : Nat → Int32) (s_complained : Nat → Int32) (s_clearings : Nat → Int32) (s_count : Int32) (x1 : Int32) {post : Int32 → Prop} (hw : wpX4_excess x1 s_kind s_snow s_count post) :
    Met l yX4_excess wsX4_excess rmX4_excess (gPc g sz (List.flatten [kSt g a_st s_lower s_higher s_kind s_size s_snow s_saltEnd s_complained s_clearings s_count]) [.ref (a_st 0), .int x1]) (gQi0 post (gB g (List.flatten [kSt g a_st s_lower s_higher s_kind s_size s_snow s_saltEnd s_complained s_clearings s_count]) sz (List.flatten [kSt g a_st s_lower s_higher s_kind s_size s_snow s_saltEnd s_complained s_clearings s_count])) (va_A (List.flatten [kSt g a_st s_lower s_higher s_kind s_size s_snow s_saltEnd s_complained s_clearings s_count]) sz)) 0 0 (va_A (List.flatten [kSt g a_st s_lower s_higher s_kind s_size s_snow s_saltEnd s_complained s_clearings s_count]) sz) := by
  refine gOf (cc := cX4_excess) (maxL := 3) (ret := (some .int)) (by decide) rfl (Nat.le_of_ble_eq_true rfl) ?_
  intro p e s m below meth c ls Q A hQ hx hb hr hml hts hown hlocks hE hA0 hsz hP hD hA hS hl
  have hl : lv_has ls 3 [(0, .ref (a_st 0)), (1, .int x1)] := hl
  refine lv_aload_n hx hb dX4_excess_0 rfl (lv_at hl 0 rfl) ?_
  refine lv_iload_n hx hb dX4_excess_1 rfl (lv_at hl 1 rfl) ?_
  refine gCi0 (gRunV (As := [.int x1]) (rest := []) ⟨hx, hb, hml, hown, hts⟩ (ctX4_has l g a_st _ s_lower s_higher s_kind s_size s_snow s_saltEnd s_complained s_clearings s_count x1 hw) (cwV 1 hts gX4_excess_X4_has rfl rfl rfl (by decide +kernel) ⟨Nat.le_of_ble_eq_true rfl, Nat.le_of_ble_eq_true rfl⟩) hE (gSub hP [0]) (gDSub hD [0] rfl) 0 8 rfl rfl rfl rfl rfl hl.1 rfl (lv_room (Nat.le_of_ble_eq_true rfl)) dX4_excess_2 ⟨Nat.le_of_ble_eq_true rfl, Nat.le_of_ble_eq_true rfl⟩) hP hD hS hA [0] rfl rfl rfl (fun r1 H locs hw hP hD hS => ?_)
  have hP : va_P g.1 vwCl (List.flatten [kSt g a_st s_lower s_higher s_kind s_size s_snow s_saltEnd s_complained s_clearings s_count]) H := hP
  have hD : va_D A (List.flatten [kSt g a_st s_lower s_higher s_kind s_size s_snow s_saltEnd s_complained s_clearings s_count]) := hD
  refine lv_if_ne (tgt := 10) hx hb dX4_excess_5 (by decide) (fun c_5 => ?_) (fun c_5 => ?_)
  · have hw := hw.1 c_5
    refine lv_aload_n hx hb dX4_excess_10 rfl (lv_at hl 0 rfl) ?_
    refine va_get (D := g.1) (ci := 8) (v := .ref (a_st 3)) (C := RX4) (T := TX4) (N := 9) hx hb hts inX4_excess_X4 hown hE.1 hP 0 rfl rfl 2 (by decide) (gW hts 1 (.fieldLink RX4 18 "SnowDispatcher$Streets" "kind" "[C") rfl) (fun _ h9 => h9) rfl dX4_excess_11 ?_
    refine lv_iload_n hx hb dX4_excess_14 rfl (lv_at hl 1 rfl) ?_
    have h2 := hw.1
    have hw := hw.2
    refine va_cald hx hb hE.1 hP 3 1 rfl rfl h2 dX4_excess_15 ?_
    refine lv_bipush (v := 97) hx hb dX4_excess_16 (by decide) ?_
    refine lv_icmp_ne (tgt := 25) hx hb dX4_excess_18 (by decide) (fun c_18 => ?_) (fun c_18 => ?_)
    · have hw := hw.1 c_18
      refine lv_aload_n hx hb dX4_excess_25 rfl (lv_at hl 0 rfl) ?_
      refine va_get (D := g.1) (ci := 8) (v := .ref (a_st 3)) (C := RX4) (T := TX4) (N := 9) hx hb hts inX4_excess_X4 hown hE.1 hP 0 rfl rfl 2 (by decide) (gW hts 1 (.fieldLink RX4 18 "SnowDispatcher$Streets" "kind" "[C") rfl) (fun _ h9 => h9) rfl dX4_excess_26 ?_
      refine lv_iload_n hx hb dX4_excess_29 rfl (lv_at hl 1 rfl) ?_
      have h3 := hw.1
      have hw := hw.2
      refine va_cald hx hb hE.1 hP 3 1 rfl rfl h3 dX4_excess_30 ?_
      refine lv_bipush (v := 98) hx hb dX4_excess_31 (by decide) ?_
      refine lv_icmp_ne (tgt := 41) hx hb dX4_excess_33 (by decide) (fun c_33 => ?_) (fun c_33 => ?_)
      · have hw := hw.1 c_33
        refine lv_bipush (v := 15) hx hb dX4_excess_41 (by decide) ?_
        refine lv_istore_n (lv' := [(2, .int 15), (0, .ref (a_st 0)), (1, .int x1)]) hx hb dX4_excess_43 rfl hl (by decide) rfl (fun ls hl => ?_)
        refine lv_aload_n hx hb dX4_excess_44 rfl (lv_at hl 1 rfl) ?_
        refine va_get (D := g.1) (ci := 8) (v := .ref (a_st 5)) (C := RX4) (T := TX4) (N := 9) hx hb hts inX4_excess_X4 hown hE.1 hP 0 rfl rfl 4 (by decide) (gW hts 2 (.fieldLink RX4 25 "SnowDispatcher$Streets" "snow" "[I") rfl) (fun _ h9 => h9) rfl dX4_excess_45 ?_
        refine lv_iload_n hx hb dX4_excess_48 rfl (lv_at hl 2 rfl) ?_
        have h4 := hw.1
        have hw := hw.2
        refine va_iald hx hb hE.1 hP 5 0 rfl rfl h4 dX4_excess_49 ?_
        refine lv_iload_n hx hb dX4_excess_50 rfl (lv_at hl 0 rfl) ?_
        refine lv_isub hx hb dX4_excess_51 ?_
        subst hQ
        exact W.iret hx hb hr (gRi0 (wf := _) hA0 hsz hw hP hD hS) hS.2.2 dX4_excess_52
      · have hw := hw.2 c_33
        refine lv_bipush (v := 10) hx hb dX4_excess_36 (by decide) ?_
        refine lv_goto (tgt := 43) hx hb dX4_excess_38 (by decide) ?_
        refine lv_istore_n (lv' := [(2, .int 10), (0, .ref (a_st 0)), (1, .int x1)]) hx hb dX4_excess_43 rfl hl (by decide) rfl (fun ls hl => ?_)
        refine lv_aload_n hx hb dX4_excess_44 rfl (lv_at hl 1 rfl) ?_
        refine va_get (D := g.1) (ci := 8) (v := .ref (a_st 5)) (C := RX4) (T := TX4) (N := 9) hx hb hts inX4_excess_X4 hown hE.1 hP 0 rfl rfl 4 (by decide) (gW hts 2 (.fieldLink RX4 25 "SnowDispatcher$Streets" "snow" "[I") rfl) (fun _ h9 => h9) rfl dX4_excess_45 ?_
        refine lv_iload_n hx hb dX4_excess_48 rfl (lv_at hl 2 rfl) ?_
        have h5 := hw.1
        have hw := hw.2
        refine va_iald hx hb hE.1 hP 5 0 rfl rfl h5 dX4_excess_49 ?_
        refine lv_iload_n hx hb dX4_excess_50 rfl (lv_at hl 0 rfl) ?_
        refine lv_isub hx hb dX4_excess_51 ?_
        subst hQ
        exact W.iret hx hb hr (gRi0 (wf := _) hA0 hsz hw hP hD hS) hS.2.2 dX4_excess_52
    · have hw := hw.2 c_18
      refine lv_iconst (v := 5) hx hb dX4_excess_21 (by decide) ?_
      refine lv_goto (tgt := 43) hx hb dX4_excess_22 (by decide) ?_
      refine lv_istore_n (lv' := [(2, .int 5), (0, .ref (a_st 0)), (1, .int x1)]) hx hb dX4_excess_43 rfl hl (by decide) rfl (fun ls hl => ?_)
      refine lv_aload_n hx hb dX4_excess_44 rfl (lv_at hl 1 rfl) ?_
      refine va_get (D := g.1) (ci := 8) (v := .ref (a_st 5)) (C := RX4) (T := TX4) (N := 9) hx hb hts inX4_excess_X4 hown hE.1 hP 0 rfl rfl 4 (by decide) (gW hts 2 (.fieldLink RX4 25 "SnowDispatcher$Streets" "snow" "[I") rfl) (fun _ h9 => h9) rfl dX4_excess_45 ?_
      refine lv_iload_n hx hb dX4_excess_48 rfl (lv_at hl 2 rfl) ?_
      have h6 := hw.1
      have hw := hw.2
      refine va_iald hx hb hE.1 hP 5 0 rfl rfl h6 dX4_excess_49 ?_
      refine lv_iload_n hx hb dX4_excess_50 rfl (lv_at hl 0 rfl) ?_
      refine lv_isub hx hb dX4_excess_51 ?_
      subst hQ
      exact W.iret hx hb hr (gRi0 (wf := _) hA0 hsz hw hP hD hS) hS.2.2 dX4_excess_52
  · have hw := hw.2 c_5
    refine lv_iconst (v := 0) hx hb dX4_excess_8 (by decide) ?_
    subst hQ
    exact W.iret hx hb hr (gRi0 (wf := _) hA0 hsz hw hP hD hS) hS.2.2 dX4_excess_9
abbrev rmX4_saltLeft : Room := { frames := 2, cells := 0, slots := 0, locals := 122 }
set_option maxRecDepth 20000 in
theorem inX4_saltLeft_X4 : ∀ w ∈ wsX40, w ∈ wsX4_saltLeft := by decide +kernel
set_option maxHeartbeats 4000000 in
set_option maxRecDepth 100000 in
theorem ctX4_saltLeft (l : Launch) (g : GG) (a_st : Nat → Nat) (sz : Nat) (s_lower : Nat → Int32) (s_higher : Nat → Int32) (s_kind : Nat → Int32) (s_size : Nat → Int32) (s_snow : Nat → Int32) (s_saltEnd : Nat → Int32) (s_complained : Nat → Int32) (s_clearings : Nat → Int32) (s_count : Int32) (x1 : Int32) (x2 : Int32) {post : Int32 → Prop} (hw : wpX4_saltLeft x1 x2 s_saltEnd s_count post) :
    Met l yX4_saltLeft wsX4_saltLeft rmX4_saltLeft (gPc g sz (List.flatten [kSt g a_st s_lower s_higher s_kind s_size s_snow s_saltEnd s_complained s_clearings s_count]) [.ref (a_st 0), .int x1, .int x2]) (gQi0 post (gB g (List.flatten [kSt g a_st s_lower s_higher s_kind s_size s_snow s_saltEnd s_complained s_clearings s_count]) sz (List.flatten [kSt g a_st s_lower s_higher s_kind s_size s_snow s_saltEnd s_complained s_clearings s_count])) (va_A (List.flatten [kSt g a_st s_lower s_higher s_kind s_size s_snow s_saltEnd s_complained s_clearings s_count]) sz)) 0 0 (va_A (List.flatten [kSt g a_st s_lower s_higher s_kind s_size s_snow s_saltEnd s_complained s_clearings s_count]) sz) := by
  refine gOf (cc := cX4_saltLeft) (maxL := 3) (ret := (some .int)) (by decide) rfl (Nat.le_of_ble_eq_true rfl) ?_
  intro p e s m below meth c ls Q A hQ hx hb hr hml hts hown hlocks hE hA0 hsz hP hD hA hS hl
  have hl : lv_has ls 3 [(0, .ref (a_st 0)), (1, .int x1), (2, .int x2)] := hl
  refine lv_aload_n hx hb dX4_saltLeft_0 rfl (lv_at hl 0 rfl) ?_
  refine lv_iload_n hx hb dX4_saltLeft_1 rfl (lv_at hl 1 rfl) ?_
  refine gCi0 (gRunV (As := [.int x1]) (rest := []) ⟨hx, hb, hml, hown, hts⟩ (ctX4_has l g a_st _ s_lower s_higher s_kind s_size s_snow s_saltEnd s_complained s_clearings s_count x1 hw) (cwV 1 hts gX4_saltLeft_X4_has rfl rfl rfl (by decide +kernel) ⟨Nat.le_of_ble_eq_true rfl, Nat.le_of_ble_eq_true rfl⟩) hE (gSub hP [0]) (gDSub hD [0] rfl) 0 8 rfl rfl rfl rfl rfl hl.1 rfl (lv_room (Nat.le_of_ble_eq_true rfl)) dX4_saltLeft_2 ⟨Nat.le_of_ble_eq_true rfl, Nat.le_of_ble_eq_true rfl⟩) hP hD hS hA [0] rfl rfl rfl (fun r1 H locs hw hP hD hS => ?_)
  have hP : va_P g.1 vwCl (List.flatten [kSt g a_st s_lower s_higher s_kind s_size s_snow s_saltEnd s_complained s_clearings s_count]) H := hP
  have hD : va_D A (List.flatten [kSt g a_st s_lower s_higher s_kind s_size s_snow s_saltEnd s_complained s_clearings s_count]) := hD
  refine lv_if_eq (tgt := 19) hx hb dX4_saltLeft_5 (by decide) (fun c_5 => ?_) (fun c_5 => ?_)
  · have hw := hw.1 c_5
    refine lv_iconst (v := 0) hx hb dX4_saltLeft_19 (by decide) ?_
    subst hQ
    exact W.iret hx hb hr (gRi0 (wf := _) hA0 hsz hw hP hD hS) hS.2.2 dX4_saltLeft_20
  · have hw := hw.2 c_5
    refine lv_aload_n hx hb dX4_saltLeft_8 rfl (lv_at hl 0 rfl) ?_
    refine va_get (D := g.1) (ci := 8) (v := .ref (a_st 6)) (C := RX4) (T := TX4) (N := 9) hx hb hts inX4_saltLeft_X4 hown hE.1 hP 0 rfl rfl 5 (by decide) (gW hts 1 (.fieldLink RX4 28 "SnowDispatcher$Streets" "saltEnd" "[I") rfl) (fun _ h9 => h9) rfl dX4_saltLeft_9 ?_
    refine lv_iload_n hx hb dX4_saltLeft_12 rfl (lv_at hl 1 rfl) ?_
    have h2 := hw.1
    have hw := hw.2
    refine va_iald hx hb hE.1 hP 6 0 rfl rfl h2 dX4_saltLeft_13 ?_
    refine lv_iload_n hx hb dX4_saltLeft_14 rfl (lv_at hl 2 rfl) ?_
    refine lv_isub hx hb dX4_saltLeft_15 ?_
    refine lv_goto (tgt := 20) hx hb dX4_saltLeft_16 (by decide) ?_
    subst hQ
    exact W.iret hx hb hr (gRi0 (wf := _) hA0 hsz hw hP hD hS) hS.2.2 dX4_saltLeft_20
abbrev rmX4_timesCleared : Room := { frames := 2, cells := 0, slots := 0, locals := 122 }
set_option maxRecDepth 20000 in
theorem inX4_timesCleared_X4 : ∀ w ∈ wsX40, w ∈ wsX4_timesCleared := by decide +kernel
set_option maxHeartbeats 4000000 in
set_option maxRecDepth 100000 in
theorem ctX4_timesCleared (l : Launch) (g : GG) (a_st : Nat → Nat) (sz : Nat) (s_lower : Nat → Int32) (s_higher : Nat → Int32) (s_kind : Nat → Int32) (s_size : Nat → Int32) (s_snow : Nat → Int32) (s_saltEnd : Nat → Int32) (s_complained : Nat → Int32) (s_clearings : Nat → Int32) (s_count : Int32) (x1 : Int32) {post : Int32 → Prop} (hw : wpX4_timesCleared x1 s_clearings s_count post) :
    Met l yX4_timesCleared wsX4_timesCleared rmX4_timesCleared (gPc g sz (List.flatten [kSt g a_st s_lower s_higher s_kind s_size s_snow s_saltEnd s_complained s_clearings s_count]) [.ref (a_st 0), .int x1]) (gQi0 post (gB g (List.flatten [kSt g a_st s_lower s_higher s_kind s_size s_snow s_saltEnd s_complained s_clearings s_count]) sz (List.flatten [kSt g a_st s_lower s_higher s_kind s_size s_snow s_saltEnd s_complained s_clearings s_count])) (va_A (List.flatten [kSt g a_st s_lower s_higher s_kind s_size s_snow s_saltEnd s_complained s_clearings s_count]) sz)) 0 0 (va_A (List.flatten [kSt g a_st s_lower s_higher s_kind s_size s_snow s_saltEnd s_complained s_clearings s_count]) sz) := by
  refine gOf (cc := cX4_timesCleared) (maxL := 2) (ret := (some .int)) (by decide) rfl (Nat.le_of_ble_eq_true rfl) ?_
  intro p e s m below meth c ls Q A hQ hx hb hr hml hts hown hlocks hE hA0 hsz hP hD hA hS hl
  have hl : lv_has ls 2 [(0, .ref (a_st 0)), (1, .int x1)] := hl
  refine lv_aload_n hx hb dX4_timesCleared_0 rfl (lv_at hl 0 rfl) ?_
  refine lv_iload_n hx hb dX4_timesCleared_1 rfl (lv_at hl 1 rfl) ?_
  refine gCi0 (gRunV (As := [.int x1]) (rest := []) ⟨hx, hb, hml, hown, hts⟩ (ctX4_has l g a_st _ s_lower s_higher s_kind s_size s_snow s_saltEnd s_complained s_clearings s_count x1 hw) (cwV 1 hts gX4_timesCleared_X4_has rfl rfl rfl (by decide +kernel) ⟨Nat.le_of_ble_eq_true rfl, Nat.le_of_ble_eq_true rfl⟩) hE (gSub hP [0]) (gDSub hD [0] rfl) 0 8 rfl rfl rfl rfl rfl hl.1 rfl (lv_room (Nat.le_of_ble_eq_true rfl)) dX4_timesCleared_2 ⟨Nat.le_of_ble_eq_true rfl, Nat.le_of_ble_eq_true rfl⟩) hP hD hS hA [0] rfl rfl rfl (fun r1 H locs hw hP hD hS => ?_)
  have hP : va_P g.1 vwCl (List.flatten [kSt g a_st s_lower s_higher s_kind s_size s_snow s_saltEnd s_complained s_clearings s_count]) H := hP
  have hD : va_D A (List.flatten [kSt g a_st s_lower s_higher s_kind s_size s_snow s_saltEnd s_complained s_clearings s_count]) := hD
  refine lv_if_eq (tgt := 17) hx hb dX4_timesCleared_5 (by decide) (fun c_5 => ?_) (fun c_5 => ?_)
  · have hw := hw.1 c_5
    refine lv_iconst (v := 0) hx hb dX4_timesCleared_17 (by decide) ?_
    subst hQ
    exact W.iret hx hb hr (gRi0 (wf := _) hA0 hsz hw hP hD hS) hS.2.2 dX4_timesCleared_18
  · have hw := hw.2 c_5
    refine lv_aload_n hx hb dX4_timesCleared_8 rfl (lv_at hl 0 rfl) ?_
    refine va_get (D := g.1) (ci := 8) (v := .ref (a_st 8)) (C := RX4) (T := TX4) (N := 9) hx hb hts inX4_timesCleared_X4 hown hE.1 hP 0 rfl rfl 7 (by decide) (gW hts 1 (.fieldLink RX4 34 "SnowDispatcher$Streets" "clearings" "[I") rfl) (fun _ h9 => h9) rfl dX4_timesCleared_9 ?_
    refine lv_iload_n hx hb dX4_timesCleared_12 rfl (lv_at hl 1 rfl) ?_
    have h2 := hw.1
    have hw := hw.2
    refine va_iald hx hb hE.1 hP 8 0 rfl rfl h2 dX4_timesCleared_13 ?_
    refine lv_goto (tgt := 18) hx hb dX4_timesCleared_14 (by decide) ?_
    subst hQ
    exact W.iret hx hb hr (gRi0 (wf := _) hA0 hsz hw hP hD hS) hS.2.2 dX4_timesCleared_18
abbrev rmX4_precedes : Room := { frames := 3, cells := 0, slots := 0, locals := 145 }
set_option maxRecDepth 20000 in
theorem inX4_precedes_X4 : ∀ w ∈ wsX40, w ∈ wsX4_precedes := by decide +kernel
set_option maxHeartbeats 4000000 in
set_option maxRecDepth 100000 in
theorem ctX4_precedes (l : Launch) (g : GG) (a_st : Nat → Nat) (sz : Nat) (s_lower : Nat → Int32) (s_higher : Nat → Int32) (s_kind : Nat → Int32) (s_size : Nat → Int32) (s_snow : Nat → Int32) (s_saltEnd : Nat → Int32) (s_complained : Nat → Int32) (s_clearings : Nat → Int32) (s_count : Int32) (x1 : Int32) (x2 : Int32) {post : Int32 → Prop} (hw : wpX4_precedes x1 x2 s_kind s_snow s_count post) :
    Met l yX4_precedes wsX4_precedes rmX4_precedes (gPc g sz (List.flatten [kSt g a_st s_lower s_higher s_kind s_size s_snow s_saltEnd s_complained s_clearings s_count]) [.ref (a_st 0), .int x1, .int x2]) (gQi0 post (gB g (List.flatten [kSt g a_st s_lower s_higher s_kind s_size s_snow s_saltEnd s_complained s_clearings s_count]) sz (List.flatten [kSt g a_st s_lower s_higher s_kind s_size s_snow s_saltEnd s_complained s_clearings s_count])) (va_A (List.flatten [kSt g a_st s_lower s_higher s_kind s_size s_snow s_saltEnd s_complained s_clearings s_count]) sz)) 0 0 (va_A (List.flatten [kSt g a_st s_lower s_higher s_kind s_size s_snow s_saltEnd s_complained s_clearings s_count]) sz) := by
  refine gOf (cc := cX4_precedes) (maxL := 3) (ret := (some .boolean)) (by decide) rfl (Nat.le_of_ble_eq_true rfl) ?_
  intro p e s m below meth c ls Q A hQ hx hb hr hml hts hown hlocks hE hA0 hsz hP hD hA hS hl
  have hl : lv_has ls 3 [(0, .ref (a_st 0)), (1, .int x1), (2, .int x2)] := hl
  refine lv_aload_n hx hb dX4_precedes_0 rfl (lv_at hl 0 rfl) ?_
  refine lv_iload_n hx hb dX4_precedes_1 rfl (lv_at hl 1 rfl) ?_
  refine gCi0 (gRunV (As := [.int x1]) (rest := []) ⟨hx, hb, hml, hown, hts⟩ (ctX4_has l g a_st _ s_lower s_higher s_kind s_size s_snow s_saltEnd s_complained s_clearings s_count x1 hw) (cwV 1 hts gX4_precedes_X4_has rfl rfl rfl (by decide +kernel) ⟨Nat.le_of_ble_eq_true rfl, Nat.le_of_ble_eq_true rfl⟩) hE (gSub hP [0]) (gDSub hD [0] rfl) 0 8 rfl rfl rfl rfl rfl hl.1 rfl (lv_room (Nat.le_of_ble_eq_true rfl)) dX4_precedes_2 ⟨Nat.le_of_ble_eq_true rfl, Nat.le_of_ble_eq_true rfl⟩) hP hD hS hA [0] rfl rfl rfl (fun r1 H locs hw hP hD hS => ?_)
  have hP : va_P g.1 vwCl (List.flatten [kSt g a_st s_lower s_higher s_kind s_size s_snow s_saltEnd s_complained s_clearings s_count]) H := hP
  have hD : va_D A (List.flatten [kSt g a_st s_lower s_higher s_kind s_size s_snow s_saltEnd s_complained s_clearings s_count]) := hD
  refine lv_if_eq (tgt := 16) hx hb dX4_precedes_5 (by decide) (fun c_5 => ?_) (fun c_5 => ?_)
  · have hw := hw.1 c_5
    refine lv_iconst (v := 0) hx hb dX4_precedes_16 (by decide) ?_
    subst hQ
    exact W.zret (ty := .boolean) hx hb hr (by decide) (gRi0 (wf := _) hA0 hsz hw hP hD hS) hS.2.2 dX4_precedes_17
  · have hw := hw.2 c_5
    refine lv_aload_n hx hb dX4_precedes_8 rfl (lv_at hl 0 rfl) ?_
    refine lv_iload_n hx hb dX4_precedes_9 rfl (lv_at hl 2 rfl) ?_
    refine gCi0 (gRunV (As := [.int x2]) (rest := []) ⟨hx, hb, hml, hown, hts⟩ (ctX4_has l g a_st _ s_lower s_higher s_kind s_size s_snow s_saltEnd s_complained s_clearings s_count x2 hw) (cwV 1 hts gX4_precedes_X4_has rfl rfl rfl (by decide +kernel) ⟨Nat.le_of_ble_eq_true rfl, Nat.le_of_ble_eq_true rfl⟩) hE (gSub hP [0]) (gDSub hD [0] rfl) 0 8 rfl rfl rfl rfl rfl hl.1 rfl (lv_room (Nat.le_of_ble_eq_true rfl)) dX4_precedes_10 ⟨Nat.le_of_ble_eq_true rfl, Nat.le_of_ble_eq_true rfl⟩) hP hD hS hA [0] rfl rfl rfl (fun r2 H locs hw hP hD hS => ?_)
    have hP : va_P g.1 vwCl (List.flatten [kSt g a_st s_lower s_higher s_kind s_size s_snow s_saltEnd s_complained s_clearings s_count]) H := hP
    have hD : va_D A (List.flatten [kSt g a_st s_lower s_higher s_kind s_size s_snow s_saltEnd s_complained s_clearings s_count]) := hD
    refine lv_if_ne (tgt := 18) hx hb dX4_precedes_13 (by decide) (fun c_13 => ?_) (fun c_13 => ?_)
    · have hw := hw.1 c_13
      refine lv_aload_n hx hb dX4_precedes_18 rfl (lv_at hl 0 rfl) ?_
      refine lv_iload_n hx hb dX4_precedes_19 rfl (lv_at hl 1 rfl) ?_
      refine gCi0 (gRunV (As := [.int x1]) (rest := []) ⟨hx, hb, hml, hown, hts⟩ (ctX4_excess l g a_st _ s_lower s_higher s_kind s_size s_snow s_saltEnd s_complained s_clearings s_count x1 hw) (cwV 1 hts gX4_precedes_X4_excess rfl rfl rfl (by decide +kernel) ⟨Nat.le_of_ble_eq_true rfl, Nat.le_of_ble_eq_true rfl⟩) hE (gSub hP [0]) (gDSub hD [0] rfl) 0 8 rfl rfl rfl rfl rfl hl.1 rfl (lv_room (Nat.le_of_ble_eq_true rfl)) dX4_precedes_20 ⟨Nat.le_of_ble_eq_true rfl, Nat.le_of_ble_eq_true rfl⟩) hP hD hS hA [0] rfl rfl rfl (fun r3 H locs hw hP hD hS => ?_)
      have hP : va_P g.1 vwCl (List.flatten [kSt g a_st s_lower s_higher s_kind s_size s_snow s_saltEnd s_complained s_clearings s_count]) H := hP
      have hD : va_D A (List.flatten [kSt g a_st s_lower s_higher s_kind s_size s_snow s_saltEnd s_complained s_clearings s_count]) := hD
      refine lv_aload_n hx hb dX4_precedes_23 rfl (lv_at hl 0 rfl) ?_
      refine lv_iload_n hx hb dX4_precedes_24 rfl (lv_at hl 2 rfl) ?_
      refine gCi0 (gRunV (As := [.int x2]) (rest := [.int r3]) ⟨hx, hb, hml, hown, hts⟩ (ctX4_excess l g a_st _ s_lower s_higher s_kind s_size s_snow s_saltEnd s_complained s_clearings s_count x2 hw) (cwV 1 hts gX4_precedes_X4_excess rfl rfl rfl (by decide +kernel) ⟨Nat.le_of_ble_eq_true rfl, Nat.le_of_ble_eq_true rfl⟩) hE (gSub hP [0]) (gDSub hD [0] rfl) 0 8 rfl rfl rfl rfl rfl hl.1 rfl (lv_room (Nat.le_of_ble_eq_true rfl)) dX4_precedes_25 ⟨Nat.le_of_ble_eq_true rfl, Nat.le_of_ble_eq_true rfl⟩) hP hD hS hA [0] rfl rfl rfl (fun r4 H locs hw hP hD hS => ?_)
      have hP : va_P g.1 vwCl (List.flatten [kSt g a_st s_lower s_higher s_kind s_size s_snow s_saltEnd s_complained s_clearings s_count]) H := hP
      have hD : va_D A (List.flatten [kSt g a_st s_lower s_higher s_kind s_size s_snow s_saltEnd s_complained s_clearings s_count]) := hD
      refine lv_icmp_eq (tgt := 50) hx hb dX4_precedes_28 (by decide) (fun c_28 => ?_) (fun c_28 => ?_)
      · have hw := hw.1 c_28
        refine lv_aload_n hx hb dX4_precedes_50 rfl (lv_at hl 0 rfl) ?_
        refine va_get (D := g.1) (ci := 8) (v := .ref (a_st 3)) (C := RX4) (T := TX4) (N := 9) hx hb hts inX4_precedes_X4 hown hE.1 hP 0 rfl rfl 2 (by decide) (gW hts 1 (.fieldLink RX4 18 "SnowDispatcher$Streets" "kind" "[C") rfl) (fun _ h9 => h9) rfl dX4_precedes_51 ?_
        refine lv_iload_n hx hb dX4_precedes_54 rfl (lv_at hl 1 rfl) ?_
        have h5 := hw.1
        have hw := hw.2
        refine va_cald hx hb hE.1 hP 3 1 rfl rfl h5 dX4_precedes_55 ?_
        refine lv_aload_n hx hb dX4_precedes_56 rfl (lv_at hl 0 rfl) ?_
        refine va_get (D := g.1) (ci := 8) (v := .ref (a_st 3)) (C := RX4) (T := TX4) (N := 9) hx hb hts inX4_precedes_X4 hown hE.1 hP 0 rfl rfl 2 (by decide) (gW hts 1 (.fieldLink RX4 18 "SnowDispatcher$Streets" "kind" "[C") rfl) (fun _ h9 => h9) rfl dX4_precedes_57 ?_
        refine lv_iload_n hx hb dX4_precedes_60 rfl (lv_at hl 2 rfl) ?_
        have h6 := hw.1
        have hw := hw.2
        refine va_cald hx hb hE.1 hP 3 1 rfl rfl h6 dX4_precedes_61 ?_
        refine lv_icmp_eq (tgt := 86) hx hb dX4_precedes_62 (by decide) (fun c_62 => ?_) (fun c_62 => ?_)
        · have hw := hw.1 c_62
          refine lv_iload_n hx hb dX4_precedes_86 rfl (lv_at hl 1 rfl) ?_
          refine lv_iload_n hx hb dX4_precedes_87 rfl (lv_at hl 2 rfl) ?_
          refine lv_icmp_ge (tgt := 95) hx hb dX4_precedes_88 (by decide) (fun c_88 => ?_) (fun c_88 => ?_)
          · have hw := hw.1 c_88
            refine lv_iconst (v := 0) hx hb dX4_precedes_95 (by decide) ?_
            subst hQ
            exact W.zret (ty := .boolean) hx hb hr (by decide) (gRi0 (wf := _) hA0 hsz hw hP hD hS) hS.2.2 dX4_precedes_96
          · have hw := hw.2 c_88
            refine lv_iconst (v := 1) hx hb dX4_precedes_91 (by decide) ?_
            refine lv_goto (tgt := 96) hx hb dX4_precedes_92 (by decide) ?_
            subst hQ
            exact W.zret (ty := .boolean) hx hb hr (by decide) (gRi0 (wf := _) hA0 hsz hw hP hD hS) hS.2.2 dX4_precedes_96
        · have hw := hw.2 c_62
          refine lv_aload_n hx hb dX4_precedes_65 rfl (lv_at hl 0 rfl) ?_
          refine va_get (D := g.1) (ci := 8) (v := .ref (a_st 3)) (C := RX4) (T := TX4) (N := 9) hx hb hts inX4_precedes_X4 hown hE.1 hP 0 rfl rfl 2 (by decide) (gW hts 1 (.fieldLink RX4 18 "SnowDispatcher$Streets" "kind" "[C") rfl) (fun _ h9 => h9) rfl dX4_precedes_66 ?_
          refine lv_iload_n hx hb dX4_precedes_69 rfl (lv_at hl 1 rfl) ?_
          have h7 := hw.1
          have hw := hw.2
          refine va_cald hx hb hE.1 hP 3 1 rfl rfl h7 dX4_precedes_70 ?_
          refine lv_aload_n hx hb dX4_precedes_71 rfl (lv_at hl 0 rfl) ?_
          refine va_get (D := g.1) (ci := 8) (v := .ref (a_st 3)) (C := RX4) (T := TX4) (N := 9) hx hb hts inX4_precedes_X4 hown hE.1 hP 0 rfl rfl 2 (by decide) (gW hts 1 (.fieldLink RX4 18 "SnowDispatcher$Streets" "kind" "[C") rfl) (fun _ h9 => h9) rfl dX4_precedes_72 ?_
          refine lv_iload_n hx hb dX4_precedes_75 rfl (lv_at hl 2 rfl) ?_
          have h8 := hw.1
          have hw := hw.2
          refine va_cald hx hb hE.1 hP 3 1 rfl rfl h8 dX4_precedes_76 ?_
          refine lv_icmp_ge (tgt := 84) hx hb dX4_precedes_77 (by decide) (fun c_77 => ?_) (fun c_77 => ?_)
          · have hw := hw.1 c_77
            refine lv_iconst (v := 0) hx hb dX4_precedes_84 (by decide) ?_
            subst hQ
            exact W.zret (ty := .boolean) hx hb hr (by decide) (gRi0 (wf := _) hA0 hsz hw hP hD hS) hS.2.2 dX4_precedes_85
          · have hw := hw.2 c_77
            refine lv_iconst (v := 1) hx hb dX4_precedes_80 (by decide) ?_
            refine lv_goto (tgt := 85) hx hb dX4_precedes_81 (by decide) ?_
            subst hQ
            exact W.zret (ty := .boolean) hx hb hr (by decide) (gRi0 (wf := _) hA0 hsz hw hP hD hS) hS.2.2 dX4_precedes_85
      · have hw := hw.2 c_28
        refine lv_aload_n hx hb dX4_precedes_31 rfl (lv_at hl 0 rfl) ?_
        refine lv_iload_n hx hb dX4_precedes_32 rfl (lv_at hl 1 rfl) ?_
        refine gCi0 (gRunV (As := [.int x1]) (rest := []) ⟨hx, hb, hml, hown, hts⟩ (ctX4_excess l g a_st _ s_lower s_higher s_kind s_size s_snow s_saltEnd s_complained s_clearings s_count x1 hw) (cwV 1 hts gX4_precedes_X4_excess rfl rfl rfl (by decide +kernel) ⟨Nat.le_of_ble_eq_true rfl, Nat.le_of_ble_eq_true rfl⟩) hE (gSub hP [0]) (gDSub hD [0] rfl) 0 8 rfl rfl rfl rfl rfl hl.1 rfl (lv_room (Nat.le_of_ble_eq_true rfl)) dX4_precedes_33 ⟨Nat.le_of_ble_eq_true rfl, Nat.le_of_ble_eq_true rfl⟩) hP hD hS hA [0] rfl rfl rfl (fun r9 H locs hw hP hD hS => ?_)
        have hP : va_P g.1 vwCl (List.flatten [kSt g a_st s_lower s_higher s_kind s_size s_snow s_saltEnd s_complained s_clearings s_count]) H := hP
        have hD : va_D A (List.flatten [kSt g a_st s_lower s_higher s_kind s_size s_snow s_saltEnd s_complained s_clearings s_count]) := hD
        refine lv_aload_n hx hb dX4_precedes_36 rfl (lv_at hl 0 rfl) ?_
        refine lv_iload_n hx hb dX4_precedes_37 rfl (lv_at hl 2 rfl) ?_
        refine gCi0 (gRunV (As := [.int x2]) (rest := [.int r9]) ⟨hx, hb, hml, hown, hts⟩ (ctX4_excess l g a_st _ s_lower s_higher s_kind s_size s_snow s_saltEnd s_complained s_clearings s_count x2 hw) (cwV 1 hts gX4_precedes_X4_excess rfl rfl rfl (by decide +kernel) ⟨Nat.le_of_ble_eq_true rfl, Nat.le_of_ble_eq_true rfl⟩) hE (gSub hP [0]) (gDSub hD [0] rfl) 0 8 rfl rfl rfl rfl rfl hl.1 rfl (lv_room (Nat.le_of_ble_eq_true rfl)) dX4_precedes_38 ⟨Nat.le_of_ble_eq_true rfl, Nat.le_of_ble_eq_true rfl⟩) hP hD hS hA [0] rfl rfl rfl (fun r10 H locs hw hP hD hS => ?_)
        have hP : va_P g.1 vwCl (List.flatten [kSt g a_st s_lower s_higher s_kind s_size s_snow s_saltEnd s_complained s_clearings s_count]) H := hP
        have hD : va_D A (List.flatten [kSt g a_st s_lower s_higher s_kind s_size s_snow s_saltEnd s_complained s_clearings s_count]) := hD
        refine lv_icmp_le (tgt := 48) hx hb dX4_precedes_41 (by decide) (fun c_41 => ?_) (fun c_41 => ?_)
        · have hw := hw.1 c_41
          refine lv_iconst (v := 0) hx hb dX4_precedes_48 (by decide) ?_
          subst hQ
          exact W.zret (ty := .boolean) hx hb hr (by decide) (gRi0 (wf := _) hA0 hsz hw hP hD hS) hS.2.2 dX4_precedes_49
        · have hw := hw.2 c_41
          refine lv_iconst (v := 1) hx hb dX4_precedes_44 (by decide) ?_
          refine lv_goto (tgt := 49) hx hb dX4_precedes_45 (by decide) ?_
          subst hQ
          exact W.zret (ty := .boolean) hx hb hr (by decide) (gRi0 (wf := _) hA0 hsz hw hP hD hS) hS.2.2 dX4_precedes_49
    · have hw := hw.2 c_13
      refine lv_iconst (v := 0) hx hb dX4_precedes_16 (by decide) ?_
      subst hQ
      exact W.zret (ty := .boolean) hx hb hr (by decide) (gRi0 (wf := _) hA0 hsz hw hP hD hS) hS.2.2 dX4_precedes_17
abbrev rmX4_rankOf : Room := { frames := 4, cells := 0, slots := 0, locals := 168 }
set_option maxRecDepth 20000 in
theorem inX4_rankOf_X4 : ∀ w ∈ wsX40, w ∈ wsX4_rankOf := by decide +kernel
set_option maxHeartbeats 4000000 in
set_option maxRecDepth 100000 in
theorem ctX4_rankOf (l : Launch) (g : GG) (a_st : Nat → Nat) (sz : Nat) (s_lower : Nat → Int32) (s_higher : Nat → Int32) (s_kind : Nat → Int32) (s_size : Nat → Int32) (s_snow : Nat → Int32) (s_saltEnd : Nat → Int32) (s_complained : Nat → Int32) (s_clearings : Nat → Int32) (s_count : Int32) (x1 : Int32) {post : Int32 → Prop} (hw : wpX4_rankOf x1 s_kind s_snow s_count post) :
    Met l yX4_rankOf wsX4_rankOf rmX4_rankOf (gPc g sz (List.flatten [kSt g a_st s_lower s_higher s_kind s_size s_snow s_saltEnd s_complained s_clearings s_count]) [.ref (a_st 0), .int x1]) (gQi0 post (gB g (List.flatten [kSt g a_st s_lower s_higher s_kind s_size s_snow s_saltEnd s_complained s_clearings s_count]) sz (List.flatten [kSt g a_st s_lower s_higher s_kind s_size s_snow s_saltEnd s_complained s_clearings s_count])) (va_A (List.flatten [kSt g a_st s_lower s_higher s_kind s_size s_snow s_saltEnd s_complained s_clearings s_count]) sz)) 0 0 (va_A (List.flatten [kSt g a_st s_lower s_higher s_kind s_size s_snow s_saltEnd s_complained s_clearings s_count]) sz) := by
  refine gOf (cc := cX4_rankOf) (maxL := 4) (ret := (some .int)) (by decide) rfl (Nat.le_of_ble_eq_true rfl) ?_
  intro p e s m below meth c ls Q A hQ hx hb hr hml hts hown hlocks hE hA0 hsz hP hD hA hS hl
  have hl : lv_has ls 4 [(0, .ref (a_st 0)), (1, .int x1)] := hl
  have L4 : ∀ (n : Nat) (x2_4 : Int32) (x3_4 : Int32) (H : Heap) (locs : List Loc) (ls : Array Slot), wpX4_rankOf_L4 x1 s_kind s_snow s_count post n x2_4 x3_4 → va_P g.1 vwCl (List.flatten [kSt g a_st s_lower s_higher s_kind s_size s_snow s_saltEnd s_complained s_clearings s_count]) H → va_D A (List.flatten [kSt g a_st s_lower s_higher s_kind s_size s_snow s_saltEnd s_complained s_clearings s_count]) → va_S A s.heap H locs → lv_has ls 4 [(0, .ref (a_st 0)), (1, .int x1), (2, .int x2_4), (3, .int x3_4)] → W p l e rmX4_rankOf s m (([.ref (a_st 0), .int x1] : List Value).toArray) below meth c H locs 0 0 Q (F0 m 4 ls []) := by
    intro n_4
    induction n_4 with
    | zero => intro x2_4 x3_4 H locs ls hw; exact False.elim hw
    | succ n_4 ih_4 =>
      intro x2_4 x3_4 H locs ls hw hP hD hS hl
      refine lv_iload_n hx hb dX4_rankOf_4 rfl (lv_at hl 3 rfl) ?_
      refine lv_aload_n hx hb dX4_rankOf_5 rfl (lv_at hl 0 rfl) ?_
      refine va_get (D := g.1) (ci := 8) (v := .int s_count) (C := RX4) (T := TX4) (N := 9) hx hb hts inX4_rankOf_X4 hown hE.1 hP 0 rfl rfl 8 (by decide) (gW hts 1 (.fieldLink RX4 37 "SnowDispatcher$Streets" "count" "I") rfl) (fun _ h9 => h9) rfl dX4_rankOf_6 ?_
      refine lv_icmp_ge (tgt := 30) hx hb dX4_rankOf_9 (by decide) (fun c_9 => ?_) (fun c_9 => ?_)
      · have hw := hw.1 c_9
        refine lv_iload_n hx hb dX4_rankOf_30 rfl (lv_at hl 2 rfl) ?_
        subst hQ
        exact W.iret hx hb hr (gRi0 (wf := _) hA0 hsz hw hP hD hS) hS.2.2 dX4_rankOf_31
      · have hw := hw.2 c_9
        refine lv_aload_n hx hb dX4_rankOf_12 rfl (lv_at hl 0 rfl) ?_
        refine lv_iload_n hx hb dX4_rankOf_13 rfl (lv_at hl 3 rfl) ?_
        refine lv_iload_n hx hb dX4_rankOf_14 rfl (lv_at hl 1 rfl) ?_
        refine gCi0 (gRunV (As := [.int x3_4, .int x1]) (rest := []) ⟨hx, hb, hml, hown, hts⟩ (ctX4_precedes l g a_st _ s_lower s_higher s_kind s_size s_snow s_saltEnd s_complained s_clearings s_count x3_4 x1 hw) (cwV 2 hts gX4_rankOf_X4_precedes rfl rfl rfl (by decide +kernel) ⟨Nat.le_of_ble_eq_true rfl, Nat.le_of_ble_eq_true rfl⟩) hE (gSub hP [0]) (gDSub hD [0] rfl) 0 8 rfl rfl rfl rfl rfl hl.1 rfl (lv_room (Nat.le_of_ble_eq_true rfl)) dX4_rankOf_15 ⟨Nat.le_of_ble_eq_true rfl, Nat.le_of_ble_eq_true rfl⟩) hP hD hS hA [0] rfl rfl rfl (fun r1 H locs hw hP hD hS => ?_)
        have hP : va_P g.1 vwCl (List.flatten [kSt g a_st s_lower s_higher s_kind s_size s_snow s_saltEnd s_complained s_clearings s_count]) H := hP
        have hD : va_D A (List.flatten [kSt g a_st s_lower s_higher s_kind s_size s_snow s_saltEnd s_complained s_clearings s_count]) := hD
        refine lv_if_eq (tgt := 24) hx hb dX4_rankOf_18 (by decide) (fun c_18 => ?_) (fun c_18 => ?_)
        · have hw := hw.1 c_18
          refine lv_iinc (v := (x3_4 + 1)) (lv' := [(3, .int (x3_4 + 1)), (0, .ref (a_st 0)), (1, .int x1), (2, .int x2_4)]) hx hb dX4_rankOf_24 hl (k := 3) rfl rfl (by decide) rfl (fun ls hl => ?_)
          refine lv_goto (tgt := 4) hx hb dX4_rankOf_27 (by decide) ?_
          exact ih_4 x2_4 (x3_4 + 1) _ _ _ hw hP hD hS (lv_sub hl [1, 2, 3, 0] rfl)
        · have hw := hw.2 c_18
          refine lv_iinc (v := (x2_4 + 1)) (lv' := [(2, .int (x2_4 + 1)), (0, .ref (a_st 0)), (1, .int x1), (3, .int x3_4)]) hx hb dX4_rankOf_21 hl (k := 2) rfl rfl (by decide) rfl (fun ls hl => ?_)
          refine lv_iinc (v := (x3_4 + 1)) (lv' := [(3, .int (x3_4 + 1)), (2, .int (x2_4 + 1)), (0, .ref (a_st 0)), (1, .int x1)]) hx hb dX4_rankOf_24 hl (k := 3) rfl rfl (by decide) rfl (fun ls hl => ?_)
          refine lv_goto (tgt := 4) hx hb dX4_rankOf_27 (by decide) ?_
          exact ih_4 (x2_4 + 1) (x3_4 + 1) _ _ _ hw hP hD hS (lv_sub hl [2, 3, 1, 0] rfl)
  refine lv_iconst (v := 0) hx hb dX4_rankOf_0 (by decide) ?_
  refine lv_istore_n (lv' := [(2, .int 0), (0, .ref (a_st 0)), (1, .int x1)]) hx hb dX4_rankOf_1 rfl hl (by decide) rfl (fun ls hl => ?_)
  refine lv_iconst (v := 0) hx hb dX4_rankOf_2 (by decide) ?_
  refine lv_istore_n (lv' := [(3, .int 0), (2, .int 0), (0, .ref (a_st 0)), (1, .int x1)]) hx hb dX4_rankOf_3 rfl hl (by decide) rfl (fun ls hl => ?_)
  obtain ⟨n, hw⟩ := hw
  exact L4 n 0 0 _ _ _ hw hP hD hS (lv_sub hl [2, 3, 1, 0] rfl)
abbrev rmX4_atRank : Room := { frames := 5, cells := 0, slots := 0, locals := 192 }
set_option maxRecDepth 20000 in
theorem inX4_atRank_X4 : ∀ w ∈ wsX40, w ∈ wsX4_atRank := by decide +kernel
set_option maxHeartbeats 4000000 in
set_option maxRecDepth 100000 in
theorem ctX4_atRank (l : Launch) (g : GG) (a_st : Nat → Nat) (sz : Nat) (s_lower : Nat → Int32) (s_higher : Nat → Int32) (s_kind : Nat → Int32) (s_size : Nat → Int32) (s_snow : Nat → Int32) (s_saltEnd : Nat → Int32) (s_complained : Nat → Int32) (s_clearings : Nat → Int32) (s_count : Int32) (x1 : Int32) {post : Int32 → Prop} (hw : wpX4_atRank x1 s_kind s_snow s_count post) :
    Met l yX4_atRank wsX4_atRank rmX4_atRank (gPc g sz (List.flatten [kSt g a_st s_lower s_higher s_kind s_size s_snow s_saltEnd s_complained s_clearings s_count]) [.ref (a_st 0), .int x1]) (gQi0 post (gB g (List.flatten [kSt g a_st s_lower s_higher s_kind s_size s_snow s_saltEnd s_complained s_clearings s_count]) sz (List.flatten [kSt g a_st s_lower s_higher s_kind s_size s_snow s_saltEnd s_complained s_clearings s_count])) (va_A (List.flatten [kSt g a_st s_lower s_higher s_kind s_size s_snow s_saltEnd s_complained s_clearings s_count]) sz)) 0 0 (va_A (List.flatten [kSt g a_st s_lower s_higher s_kind s_size s_snow s_saltEnd s_complained s_clearings s_count]) sz) := by
  refine gOf (cc := cX4_atRank) (maxL := 3) (ret := (some .int)) (by decide) rfl (Nat.le_of_ble_eq_true rfl) ?_
  intro p e s m below meth c ls Q A hQ hx hb hr hml hts hown hlocks hE hA0 hsz hP hD hA hS hl
  have hl : lv_has ls 3 [(0, .ref (a_st 0)), (1, .int x1)] := hl
  have L2 : ∀ (n : Nat) (x2_2 : Int32) (H : Heap) (locs : List Loc) (ls : Array Slot), wpX4_atRank_L2 x1 s_kind s_snow s_count post n x2_2 → va_P g.1 vwCl (List.flatten [kSt g a_st s_lower s_higher s_kind s_size s_snow s_saltEnd s_complained s_clearings s_count]) H → va_D A (List.flatten [kSt g a_st s_lower s_higher s_kind s_size s_snow s_saltEnd s_complained s_clearings s_count]) → va_S A s.heap H locs → lv_has ls 3 [(0, .ref (a_st 0)), (1, .int x1), (2, .int x2_2)] → W p l e rmX4_atRank s m (([.ref (a_st 0), .int x1] : List Value).toArray) below meth c H locs 0 0 Q (F0 m 2 ls []) := by
    intro n_2
    induction n_2 with
    | zero => intro x2_2 H locs ls hw; exact False.elim hw
    | succ n_2 ih_2 =>
      intro x2_2 H locs ls hw hP hD hS hl
      refine lv_iload_n hx hb dX4_atRank_2 rfl (lv_at hl 2 rfl) ?_
      refine lv_aload_n hx hb dX4_atRank_3 rfl (lv_at hl 0 rfl) ?_
      refine va_get (D := g.1) (ci := 8) (v := .int s_count) (C := RX4) (T := TX4) (N := 9) hx hb hts inX4_atRank_X4 hown hE.1 hP 0 rfl rfl 8 (by decide) (gW hts 1 (.fieldLink RX4 37 "SnowDispatcher$Streets" "count" "I") rfl) (fun _ h9 => h9) rfl dX4_atRank_4 ?_
      refine lv_icmp_ge (tgt := 27) hx hb dX4_atRank_7 (by decide) (fun c_7 => ?_) (fun c_7 => ?_)
      · have hw := hw.1 c_7
        refine lv_iconst (v := (-1)) hx hb dX4_atRank_27 (by decide) ?_
        subst hQ
        exact W.iret hx hb hr (gRi0 (wf := _) hA0 hsz hw hP hD hS) hS.2.2 dX4_atRank_28
      · have hw := hw.2 c_7
        refine lv_aload_n hx hb dX4_atRank_10 rfl (lv_at hl 0 rfl) ?_
        refine lv_iload_n hx hb dX4_atRank_11 rfl (lv_at hl 2 rfl) ?_
        refine gCi0 (gRunV (As := [.int x2_2]) (rest := []) ⟨hx, hb, hml, hown, hts⟩ (ctX4_rankOf l g a_st _ s_lower s_higher s_kind s_size s_snow s_saltEnd s_complained s_clearings s_count x2_2 hw) (cwV 1 hts gX4_atRank_X4_rankOf rfl rfl rfl (by decide +kernel) ⟨Nat.le_of_ble_eq_true rfl, Nat.le_of_ble_eq_true rfl⟩) hE (gSub hP [0]) (gDSub hD [0] rfl) 0 8 rfl rfl rfl rfl rfl hl.1 rfl (lv_room (Nat.le_of_ble_eq_true rfl)) dX4_atRank_12 ⟨Nat.le_of_ble_eq_true rfl, Nat.le_of_ble_eq_true rfl⟩) hP hD hS hA [0] rfl rfl rfl (fun r1 H locs hw hP hD hS => ?_)
        have hP : va_P g.1 vwCl (List.flatten [kSt g a_st s_lower s_higher s_kind s_size s_snow s_saltEnd s_complained s_clearings s_count]) H := hP
        have hD : va_D A (List.flatten [kSt g a_st s_lower s_higher s_kind s_size s_snow s_saltEnd s_complained s_clearings s_count]) := hD
        refine lv_iload_n hx hb dX4_atRank_15 rfl (lv_at hl 1 rfl) ?_
        refine lv_icmp_ne (tgt := 21) hx hb dX4_atRank_16 (by decide) (fun c_16 => ?_) (fun c_16 => ?_)
        · have hw := hw.1 c_16
          refine lv_iinc (v := (x2_2 + 1)) (lv' := [(2, .int (x2_2 + 1)), (0, .ref (a_st 0)), (1, .int x1)]) hx hb dX4_atRank_21 hl (k := 2) rfl rfl (by decide) rfl (fun ls hl => ?_)
          refine lv_goto (tgt := 2) hx hb dX4_atRank_24 (by decide) ?_
          exact ih_2 (x2_2 + 1) _ _ _ hw hP hD hS (lv_sub hl [1, 2, 0] rfl)
        · have hw := hw.2 c_16
          refine lv_iload_n hx hb dX4_atRank_19 rfl (lv_at hl 2 rfl) ?_
          subst hQ
          exact W.iret hx hb hr (gRi0 (wf := _) hA0 hsz hw hP hD hS) hS.2.2 dX4_atRank_20
  refine lv_iconst (v := 0) hx hb dX4_atRank_0 (by decide) ?_
  refine lv_istore_n (lv' := [(2, .int 0), (0, .ref (a_st 0)), (1, .int x1)]) hx hb dX4_atRank_1 rfl hl (by decide) rfl (fun ls hl => ?_)
  obtain ⟨n, hw⟩ := hw
  exact L2 n 0 _ _ _ hw hP hD hS (lv_sub hl [1, 2, 0] rfl)
abbrev rmX4_complaintSum : Room := { frames := 1, cells := 0, slots := 0, locals := 100 }
set_option maxRecDepth 20000 in
theorem inX4_complaintSum_X4 : ∀ w ∈ wsX40, w ∈ wsX4_complaintSum := by decide +kernel
set_option maxHeartbeats 4000000 in
set_option maxRecDepth 100000 in
theorem ctX4_complaintSum (l : Launch) (g : GG) (a_st : Nat → Nat) (sz : Nat) (s_lower : Nat → Int32) (s_higher : Nat → Int32) (s_kind : Nat → Int32) (s_size : Nat → Int32) (s_snow : Nat → Int32) (s_saltEnd : Nat → Int32) (s_complained : Nat → Int32) (s_clearings : Nat → Int32) (s_count : Int32) {post : Int32 → Prop} (hw : wpX4_complaintSum s_complained s_count post) :
    Met l yX4_complaintSum wsX4_complaintSum rmX4_complaintSum (gPc g sz (List.flatten [kSt g a_st s_lower s_higher s_kind s_size s_snow s_saltEnd s_complained s_clearings s_count]) [.ref (a_st 0)]) (gQi0 post (gB g (List.flatten [kSt g a_st s_lower s_higher s_kind s_size s_snow s_saltEnd s_complained s_clearings s_count]) sz (List.flatten [kSt g a_st s_lower s_higher s_kind s_size s_snow s_saltEnd s_complained s_clearings s_count])) (va_A (List.flatten [kSt g a_st s_lower s_higher s_kind s_size s_snow s_saltEnd s_complained s_clearings s_count]) sz)) 0 0 (va_A (List.flatten [kSt g a_st s_lower s_higher s_kind s_size s_snow s_saltEnd s_complained s_clearings s_count]) sz) := by
  refine gOf (cc := cX4_complaintSum) (maxL := 3) (ret := (some .int)) (by decide) rfl (Nat.le_of_ble_eq_true rfl) ?_
  intro p e s m below meth c ls Q A hQ hx hb hr hml hts hown hlocks hE hA0 hsz hP hD hA hS hl
  have hl : lv_has ls 3 [(0, .ref (a_st 0))] := hl
  have L4 : ∀ (n : Nat) (x1_4 : Int32) (x2_4 : Int32) (H : Heap) (locs : List Loc) (ls : Array Slot), wpX4_complaintSum_L4 s_complained s_count post n x1_4 x2_4 → va_P g.1 vwCl (List.flatten [kSt g a_st s_lower s_higher s_kind s_size s_snow s_saltEnd s_complained s_clearings s_count]) H → va_D A (List.flatten [kSt g a_st s_lower s_higher s_kind s_size s_snow s_saltEnd s_complained s_clearings s_count]) → va_S A s.heap H locs → lv_has ls 3 [(0, .ref (a_st 0)), (1, .int x1_4), (2, .int x2_4)] → W p l e rmX4_complaintSum s m (([.ref (a_st 0)] : List Value).toArray) below meth c H locs 0 0 Q (F0 m 4 ls []) := by
    intro n_4
    induction n_4 with
    | zero => intro x1_4 x2_4 H locs ls hw; exact False.elim hw
    | succ n_4 ih_4 =>
      intro x1_4 x2_4 H locs ls hw hP hD hS hl
      refine lv_iload_n hx hb dX4_complaintSum_4 rfl (lv_at hl 2 rfl) ?_
      refine lv_aload_n hx hb dX4_complaintSum_5 rfl (lv_at hl 0 rfl) ?_
      refine va_get (D := g.1) (ci := 8) (v := .int s_count) (C := RX4) (T := TX4) (N := 9) hx hb hts inX4_complaintSum_X4 hown hE.1 hP 0 rfl rfl 8 (by decide) (gW hts 1 (.fieldLink RX4 37 "SnowDispatcher$Streets" "count" "I") rfl) (fun _ h9 => h9) rfl dX4_complaintSum_6 ?_
      refine lv_icmp_ge (tgt := 33) hx hb dX4_complaintSum_9 (by decide) (fun c_9 => ?_) (fun c_9 => ?_)
      · have hw := hw.1 c_9
        refine lv_iload_n hx hb dX4_complaintSum_33 rfl (lv_at hl 1 rfl) ?_
        subst hQ
        exact W.iret hx hb hr (gRi0 (wf := _) hA0 hsz hw hP hD hS) hS.2.2 dX4_complaintSum_34
      · have hw := hw.2 c_9
        refine lv_iload_n hx hb dX4_complaintSum_12 rfl (lv_at hl 2 rfl) ?_
        refine lv_bipush (v := 12) hx hb dX4_complaintSum_13 (by decide) ?_
        refine lv_icmp_ge (tgt := 33) hx hb dX4_complaintSum_15 (by decide) (fun c_15 => ?_) (fun c_15 => ?_)
        · have hw := hw.1 c_15
          refine lv_iload_n hx hb dX4_complaintSum_33 rfl (lv_at hl 1 rfl) ?_
          subst hQ
          exact W.iret hx hb hr (gRi0 (wf := _) hA0 hsz hw hP hD hS) hS.2.2 dX4_complaintSum_34
        · have hw := hw.2 c_15
          refine lv_iload_n hx hb dX4_complaintSum_18 rfl (lv_at hl 1 rfl) ?_
          refine lv_aload_n hx hb dX4_complaintSum_19 rfl (lv_at hl 0 rfl) ?_
          refine va_get (D := g.1) (ci := 8) (v := .ref (a_st 7)) (C := RX4) (T := TX4) (N := 9) hx hb hts inX4_complaintSum_X4 hown hE.1 hP 0 rfl rfl 6 (by decide) (gW hts 2 (.fieldLink RX4 31 "SnowDispatcher$Streets" "complained" "[I") rfl) (fun _ h9 => h9) rfl dX4_complaintSum_20 ?_
          refine lv_iload_n hx hb dX4_complaintSum_23 rfl (lv_at hl 2 rfl) ?_
          have h1 := hw.1
          have hw := hw.2
          refine va_iald hx hb hE.1 hP 7 0 rfl rfl h1 dX4_complaintSum_24 ?_
          refine lv_iadd hx hb dX4_complaintSum_25 ?_
          refine lv_istore_n (lv' := [(1, .int (x1_4 + (s_complained x2_4.toNatClampNeg))), (0, .ref (a_st 0)), (2, .int x2_4)]) hx hb dX4_complaintSum_26 rfl hl (by decide) rfl (fun ls hl => ?_)
          refine lv_iinc (v := (x2_4 + 1)) (lv' := [(2, .int (x2_4 + 1)), (1, .int (x1_4 + (s_complained x2_4.toNatClampNeg))), (0, .ref (a_st 0))]) hx hb dX4_complaintSum_27 hl (k := 2) rfl rfl (by decide) rfl (fun ls hl => ?_)
          refine lv_goto (tgt := 4) hx hb dX4_complaintSum_30 (by decide) ?_
          exact ih_4 (x1_4 + (s_complained x2_4.toNatClampNeg)) (x2_4 + 1) _ _ _ hw hP hD hS (lv_sub hl [2, 1, 0] rfl)
  refine lv_iconst (v := 0) hx hb dX4_complaintSum_0 (by decide) ?_
  refine lv_istore_n (lv' := [(1, .int 0), (0, .ref (a_st 0))]) hx hb dX4_complaintSum_1 rfl hl (by decide) rfl (fun ls hl => ?_)
  refine lv_iconst (v := 0) hx hb dX4_complaintSum_2 (by decide) ?_
  refine lv_istore_n (lv' := [(2, .int 0), (1, .int 0), (0, .ref (a_st 0))]) hx hb dX4_complaintSum_3 rfl hl (by decide) rfl (fun ls hl => ?_)
  obtain ⟨n, hw⟩ := hw
  exact L4 n 0 0 _ _ _ hw hP hD hS (lv_sub hl [2, 1, 0] rfl)
abbrev rmX4_depthsAllowed : Room := { frames := 1, cells := 0, slots := 0, locals := 100 }
set_option maxRecDepth 20000 in
theorem inX4_depthsAllowed_X4 : ∀ w ∈ wsX40, w ∈ wsX4_depthsAllowed := by decide +kernel
set_option maxHeartbeats 4000000 in
set_option maxRecDepth 100000 in
theorem ctX4_depthsAllowed (l : Launch) (g : GG) (a_st : Nat → Nat) (sz : Nat) (s_lower : Nat → Int32) (s_higher : Nat → Int32) (s_kind : Nat → Int32) (s_size : Nat → Int32) (s_snow : Nat → Int32) (s_saltEnd : Nat → Int32) (s_complained : Nat → Int32) (s_clearings : Nat → Int32) (s_count : Int32) {post : Int32 → Prop} (hw : wpX4_depthsAllowed s_snow s_count post) :
    Met l yX4_depthsAllowed wsX4_depthsAllowed rmX4_depthsAllowed (gPc g sz (List.flatten [kSt g a_st s_lower s_higher s_kind s_size s_snow s_saltEnd s_complained s_clearings s_count]) [.ref (a_st 0)]) (gQi0 post (gB g (List.flatten [kSt g a_st s_lower s_higher s_kind s_size s_snow s_saltEnd s_complained s_clearings s_count]) sz (List.flatten [kSt g a_st s_lower s_higher s_kind s_size s_snow s_saltEnd s_complained s_clearings s_count])) (va_A (List.flatten [kSt g a_st s_lower s_higher s_kind s_size s_snow s_saltEnd s_complained s_clearings s_count]) sz)) 0 0 (va_A (List.flatten [kSt g a_st s_lower s_higher s_kind s_size s_snow s_saltEnd s_complained s_clearings s_count]) sz) := by
  refine gOf (cc := cX4_depthsAllowed) (maxL := 2) (ret := (some .boolean)) (by decide) rfl (Nat.le_of_ble_eq_true rfl) ?_
  intro p e s m below meth c ls Q A hQ hx hb hr hml hts hown hlocks hE hA0 hsz hP hD hA hS hl
  have hl : lv_has ls 2 [(0, .ref (a_st 0))] := hl
  have L2 : ∀ (n : Nat) (x1_2 : Int32) (H : Heap) (locs : List Loc) (ls : Array Slot), wpX4_depthsAllowed_L2 s_snow s_count post n x1_2 → va_P g.1 vwCl (List.flatten [kSt g a_st s_lower s_higher s_kind s_size s_snow s_saltEnd s_complained s_clearings s_count]) H → va_D A (List.flatten [kSt g a_st s_lower s_higher s_kind s_size s_snow s_saltEnd s_complained s_clearings s_count]) → va_S A s.heap H locs → lv_has ls 2 [(0, .ref (a_st 0)), (1, .int x1_2)] → W p l e rmX4_depthsAllowed s m (([.ref (a_st 0)] : List Value).toArray) below meth c H locs 0 0 Q (F0 m 2 ls []) := by
    intro n_2
    induction n_2 with
    | zero => intro x1_2 H locs ls hw; exact False.elim hw
    | succ n_2 ih_2 =>
      intro x1_2 H locs ls hw hP hD hS hl
      refine lv_iload_n hx hb dX4_depthsAllowed_2 rfl (lv_at hl 1 rfl) ?_
      refine lv_aload_n hx hb dX4_depthsAllowed_3 rfl (lv_at hl 0 rfl) ?_
      refine va_get (D := g.1) (ci := 8) (v := .int s_count) (C := RX4) (T := TX4) (N := 9) hx hb hts inX4_depthsAllowed_X4 hown hE.1 hP 0 rfl rfl 8 (by decide) (gW hts 1 (.fieldLink RX4 37 "SnowDispatcher$Streets" "count" "I") rfl) (fun _ h9 => h9) rfl dX4_depthsAllowed_4 ?_
      refine lv_icmp_ge (tgt := 45) hx hb dX4_depthsAllowed_7 (by decide) (fun c_7 => ?_) (fun c_7 => ?_)
      · have hw := hw.1 c_7
        refine lv_iconst (v := 1) hx hb dX4_depthsAllowed_45 (by decide) ?_
        subst hQ
        exact W.zret (ty := .boolean) hx hb hr (by decide) (gRi0 (wf := _) hA0 hsz hw hP hD hS) hS.2.2 dX4_depthsAllowed_46
      · have hw := hw.2 c_7
        refine lv_iload_n hx hb dX4_depthsAllowed_10 rfl (lv_at hl 1 rfl) ?_
        refine lv_bipush (v := 12) hx hb dX4_depthsAllowed_11 (by decide) ?_
        refine lv_icmp_ge (tgt := 45) hx hb dX4_depthsAllowed_13 (by decide) (fun c_13 => ?_) (fun c_13 => ?_)
        · have hw := hw.1 c_13
          refine lv_iconst (v := 1) hx hb dX4_depthsAllowed_45 (by decide) ?_
          subst hQ
          exact W.zret (ty := .boolean) hx hb hr (by decide) (gRi0 (wf := _) hA0 hsz hw hP hD hS) hS.2.2 dX4_depthsAllowed_46
        · have hw := hw.2 c_13
          refine lv_aload_n hx hb dX4_depthsAllowed_16 rfl (lv_at hl 0 rfl) ?_
          refine va_get (D := g.1) (ci := 8) (v := .ref (a_st 5)) (C := RX4) (T := TX4) (N := 9) hx hb hts inX4_depthsAllowed_X4 hown hE.1 hP 0 rfl rfl 4 (by decide) (gW hts 2 (.fieldLink RX4 25 "SnowDispatcher$Streets" "snow" "[I") rfl) (fun _ h9 => h9) rfl dX4_depthsAllowed_17 ?_
          refine lv_iload_n hx hb dX4_depthsAllowed_20 rfl (lv_at hl 1 rfl) ?_
          have h1 := hw.1
          have hw := hw.2
          refine va_iald hx hb hE.1 hP 5 0 rfl rfl h1 dX4_depthsAllowed_21 ?_
          refine lv_if_lt (tgt := 37) hx hb dX4_depthsAllowed_22 (by decide) (fun c_22 => ?_) (fun c_22 => ?_)
          · have hw := hw.1 c_22
            refine lv_iconst (v := 0) hx hb dX4_depthsAllowed_37 (by decide) ?_
            subst hQ
            exact W.zret (ty := .boolean) hx hb hr (by decide) (gRi0 (wf := _) hA0 hsz hw hP hD hS) hS.2.2 dX4_depthsAllowed_38
          · have hw := hw.2 c_22
            refine lv_aload_n hx hb dX4_depthsAllowed_25 rfl (lv_at hl 0 rfl) ?_
            refine va_get (D := g.1) (ci := 8) (v := .ref (a_st 5)) (C := RX4) (T := TX4) (N := 9) hx hb hts inX4_depthsAllowed_X4 hown hE.1 hP 0 rfl rfl 4 (by decide) (gW hts 2 (.fieldLink RX4 25 "SnowDispatcher$Streets" "snow" "[I") rfl) (fun _ h9 => h9) rfl dX4_depthsAllowed_26 ?_
            refine lv_iload_n hx hb dX4_depthsAllowed_29 rfl (lv_at hl 1 rfl) ?_
            have h2 := hw.1
            have hw := hw.2
            refine va_iald hx hb hE.1 hP 5 0 rfl rfl h2 dX4_depthsAllowed_30 ?_
            refine lv_sipush (v := 200) hx hb dX4_depthsAllowed_31 (by decide) ?_
            refine lv_icmp_le (tgt := 39) hx hb dX4_depthsAllowed_34 (by decide) (fun c_34 => ?_) (fun c_34 => ?_)
            · have hw := hw.1 c_34
              refine lv_iinc (v := (x1_2 + 1)) (lv' := [(1, .int (x1_2 + 1)), (0, .ref (a_st 0))]) hx hb dX4_depthsAllowed_39 hl (k := 1) rfl rfl (by decide) rfl (fun ls hl => ?_)
              refine lv_goto (tgt := 2) hx hb dX4_depthsAllowed_42 (by decide) ?_
              exact ih_2 (x1_2 + 1) _ _ _ hw hP hD hS (lv_sub hl [1, 0] rfl)
            · have hw := hw.2 c_34
              refine lv_iconst (v := 0) hx hb dX4_depthsAllowed_37 (by decide) ?_
              subst hQ
              exact W.zret (ty := .boolean) hx hb hr (by decide) (gRi0 (wf := _) hA0 hsz hw hP hD hS) hS.2.2 dX4_depthsAllowed_38
  refine lv_iconst (v := 0) hx hb dX4_depthsAllowed_0 (by decide) ?_
  refine lv_istore_n (lv' := [(1, .int 0), (0, .ref (a_st 0))]) hx hb dX4_depthsAllowed_1 rfl hl (by decide) rfl (fun ls hl => ?_)
  obtain ⟨n, hw⟩ := hw
  exact L2 n 0 _ _ _ hw hP hD hS (lv_sub hl [1, 0] rfl)
abbrev rmX4_fall : Room := { frames := 1, cells := 0, slots := 0, locals := 100 }
set_option maxRecDepth 20000 in
theorem inX4_fall_X4 : ∀ w ∈ wsX40, w ∈ wsX4_fall := by decide +kernel
set_option maxHeartbeats 4000000 in
set_option maxRecDepth 100000 in
theorem ctX4_fall (l : Launch) (g : GG) (a_st : Nat → Nat) (sz : Nat) (s_lower : Nat → Int32) (s_higher : Nat → Int32) (s_kind : Nat → Int32) (s_size : Nat → Int32) (s_snow : Nat → Int32) (s_saltEnd : Nat → Int32) (s_complained : Nat → Int32) (s_clearings : Nat → Int32) (s_count : Int32) (x1 : Int32) {post : (Nat → Int32) → Prop} (hw : wpX4_fall x1 s_snow s_count post) :
    Met l yX4_fall wsX4_fall rmX4_fall (gPc g sz (List.flatten [kSt g a_st s_lower s_higher s_kind s_size s_snow s_saltEnd s_complained s_clearings s_count]) [.ref (a_st 0), .int x1]) (gQv1 post (fun u1 => gB g (List.flatten [kSt g a_st s_lower s_higher s_kind s_size s_snow s_saltEnd s_complained s_clearings s_count]) sz (List.flatten [kSt g a_st s_lower s_higher s_kind s_size u1 s_saltEnd s_complained s_clearings s_count])) (va_A (List.flatten [kSt g a_st s_lower s_higher s_kind s_size s_snow s_saltEnd s_complained s_clearings s_count]) sz)) 0 0 (va_A (List.flatten [kSt g a_st s_lower s_higher s_kind s_size s_snow s_saltEnd s_complained s_clearings s_count]) sz) := by
  refine gOf (cc := cX4_fall) (maxL := 3) (ret := none) (by decide) rfl (Nat.le_of_ble_eq_true rfl) ?_
  intro p e s m below meth c ls Q A hQ hx hb hr hml hts hown hlocks hE hA0 hsz hP hD hA hS hl
  have hl : lv_has ls 3 [(0, .ref (a_st 0)), (1, .int x1)] := hl
  have L2 : ∀ (n : Nat) (x2_2 : Int32) (s_snow_2 : Nat → Int32) (H : Heap) (locs : List Loc) (ls : Array Slot), wpX4_fall_L2 x1 s_count post n x2_2 s_snow_2 → va_P g.1 vwCl (List.flatten [kSt g a_st s_lower s_higher s_kind s_size s_snow_2 s_saltEnd s_complained s_clearings s_count]) H → va_D A (List.flatten [kSt g a_st s_lower s_higher s_kind s_size s_snow_2 s_saltEnd s_complained s_clearings s_count]) → va_S A s.heap H locs → lv_has ls 3 [(0, .ref (a_st 0)), (1, .int x1), (2, .int x2_2)] → W p l e rmX4_fall s m (([.ref (a_st 0), .int x1] : List Value).toArray) below meth c H locs 0 0 Q (F0 m 2 ls []) := by
    intro n_2
    induction n_2 with
    | zero => intro x2_2 s_snow_2 H locs ls hw; exact False.elim hw
    | succ n_2 ih_2 =>
      intro x2_2 s_snow_2 H locs ls hw hP hD hS hl
      refine lv_iload_n hx hb dX4_fall_2 rfl (lv_at hl 2 rfl) ?_
      refine lv_aload_n hx hb dX4_fall_3 rfl (lv_at hl 0 rfl) ?_
      refine va_get (D := g.1) (ci := 8) (v := .int s_count) (C := RX4) (T := TX4) (N := 9) hx hb hts inX4_fall_X4 hown hE.1 hP 0 rfl rfl 8 (by decide) (gW hts 1 (.fieldLink RX4 37 "SnowDispatcher$Streets" "count" "I") rfl) (fun _ h9 => h9) rfl dX4_fall_4 ?_
      refine lv_icmp_ge (tgt := 42) hx hb dX4_fall_7 (by decide) (fun c_7 => ?_) (fun c_7 => ?_)
      · have hw := hw.1 c_7
        subst hQ
        exact W.vret hx hb hr (gRv1 (c1 := s_snow_2) (wf := _) hA0 hsz hw hP hD hS) hS.2.2 dX4_fall_42
      · have hw := hw.2 c_7
        refine lv_iload_n hx hb dX4_fall_10 rfl (lv_at hl 2 rfl) ?_
        refine lv_bipush (v := 12) hx hb dX4_fall_11 (by decide) ?_
        refine lv_icmp_ge (tgt := 42) hx hb dX4_fall_13 (by decide) (fun c_13 => ?_) (fun c_13 => ?_)
        · have hw := hw.1 c_13
          subst hQ
          exact W.vret hx hb hr (gRv1 (c1 := s_snow_2) (wf := _) hA0 hsz hw hP hD hS) hS.2.2 dX4_fall_42
        · have hw := hw.2 c_13
          refine lv_aload_n hx hb dX4_fall_16 rfl (lv_at hl 0 rfl) ?_
          refine va_get (D := g.1) (ci := 8) (v := .ref (a_st 5)) (C := RX4) (T := TX4) (N := 9) hx hb hts inX4_fall_X4 hown hE.1 hP 0 rfl rfl 4 (by decide) (gW hts 2 (.fieldLink RX4 25 "SnowDispatcher$Streets" "snow" "[I") rfl) (fun _ h9 => h9) rfl dX4_fall_17 ?_
          refine lv_iload_n hx hb dX4_fall_20 rfl (lv_at hl 2 rfl) ?_
          refine lv_aload_n hx hb dX4_fall_21 rfl (lv_at hl 0 rfl) ?_
          refine va_get (D := g.1) (ci := 8) (v := .ref (a_st 5)) (C := RX4) (T := TX4) (N := 9) hx hb hts inX4_fall_X4 hown hE.1 hP 0 rfl rfl 4 (by decide) (gW hts 2 (.fieldLink RX4 25 "SnowDispatcher$Streets" "snow" "[I") rfl) (fun _ h9 => h9) rfl dX4_fall_22 ?_
          refine lv_iload_n hx hb dX4_fall_25 rfl (lv_at hl 2 rfl) ?_
          have h1 := hw.1
          have hw := hw.2
          refine va_iald hx hb hE.1 hP 5 0 rfl rfl h1 dX4_fall_26 ?_
          refine lv_iload_n hx hb dX4_fall_27 rfl (lv_at hl 1 rfl) ?_
          refine lv_iadd hx hb dX4_fall_28 ?_
          refine lv_sipush (v := 200) hx hb dX4_fall_29 (by decide) ?_
          refine va_mmin hx hb (hml.trans hl.1.symm) hown (gW hts 3 (.methodLink RX4 66 Lib.Math.min.name) rfl) (gW hts 4 (.static Lib.Math.min.name) rfl) (gW hts 5 (.initialized "java/lang/Math") rfl) (gW hts 6 (.code Lib.Math.min.name Lib.Math.min.code 2 (some .int)) rfl) (Nat.le_of_ble_eq_true rfl) (Nat.le_of_ble_eq_true rfl) (Nat.le_of_ble_eq_true rfl) (Nat.le_of_ble_eq_true rfl) dX4_fall_32 ?_
          have h2 := hw.1
          have hw := hw.2
          refine va_iast hx hb hE.1 hP hD hS 5 0 rfl rfl h2 dX4_fall_35 (fun H locs hP hD hS => ?_)
          have hP : va_P g.1 vwCl (List.flatten [kSt g a_st s_lower s_higher s_kind s_size (upd s_snow_2 x2_2.toNatClampNeg (if 200 < ((s_snow_2 x2_2.toNatClampNeg) + x1) then 200 else ((s_snow_2 x2_2.toNatClampNeg) + x1))) s_saltEnd s_complained s_clearings s_count]) H := hP
          have hD : va_D A (List.flatten [kSt g a_st s_lower s_higher s_kind s_size (upd s_snow_2 x2_2.toNatClampNeg (if 200 < ((s_snow_2 x2_2.toNatClampNeg) + x1) then 200 else ((s_snow_2 x2_2.toNatClampNeg) + x1))) s_saltEnd s_complained s_clearings s_count]) := hD
          refine lv_iinc (v := (x2_2 + 1)) (lv' := [(2, .int (x2_2 + 1)), (0, .ref (a_st 0)), (1, .int x1)]) hx hb dX4_fall_36 hl (k := 2) rfl rfl (by decide) rfl (fun ls hl => ?_)
          refine lv_goto (tgt := 2) hx hb dX4_fall_39 (by decide) ?_
          exact ih_2 (x2_2 + 1) (upd s_snow_2 x2_2.toNatClampNeg (if 200 < ((s_snow_2 x2_2.toNatClampNeg) + x1) then 200 else ((s_snow_2 x2_2.toNatClampNeg) + x1))) _ _ _ hw hP hD hS (lv_sub hl [1, 2, 0] rfl)
  refine lv_iconst (v := 0) hx hb dX4_fall_0 (by decide) ?_
  refine lv_istore_n (lv' := [(2, .int 0), (0, .ref (a_st 0)), (1, .int x1)]) hx hb dX4_fall_1 rfl hl (by decide) rfl (fun ls hl => ?_)
  obtain ⟨n, hw⟩ := hw
  exact L2 n 0 s_snow _ _ _ hw hP hD hS (lv_sub hl [1, 2, 0] rfl)
abbrev rmX4_melt : Room := { frames := 1, cells := 0, slots := 0, locals := 100 }
set_option maxRecDepth 20000 in
theorem inX4_melt_X4 : ∀ w ∈ wsX40, w ∈ wsX4_melt := by decide +kernel
set_option maxHeartbeats 4000000 in
set_option maxRecDepth 100000 in
theorem ctX4_melt (l : Launch) (g : GG) (a_st : Nat → Nat) (sz : Nat) (s_lower : Nat → Int32) (s_higher : Nat → Int32) (s_kind : Nat → Int32) (s_size : Nat → Int32) (s_snow : Nat → Int32) (s_saltEnd : Nat → Int32) (s_complained : Nat → Int32) (s_clearings : Nat → Int32) (s_count : Int32) (x1 : Int32) {post : (Nat → Int32) → Prop} (hw : wpX4_melt x1 s_snow s_saltEnd s_count post) :
    Met l yX4_melt wsX4_melt rmX4_melt (gPc g sz (List.flatten [kSt g a_st s_lower s_higher s_kind s_size s_snow s_saltEnd s_complained s_clearings s_count]) [.ref (a_st 0), .int x1]) (gQv1 post (fun u1 => gB g (List.flatten [kSt g a_st s_lower s_higher s_kind s_size s_snow s_saltEnd s_complained s_clearings s_count]) sz (List.flatten [kSt g a_st s_lower s_higher s_kind s_size u1 s_saltEnd s_complained s_clearings s_count])) (va_A (List.flatten [kSt g a_st s_lower s_higher s_kind s_size s_snow s_saltEnd s_complained s_clearings s_count]) sz)) 0 0 (va_A (List.flatten [kSt g a_st s_lower s_higher s_kind s_size s_snow s_saltEnd s_complained s_clearings s_count]) sz) := by
  refine gOf (cc := cX4_melt) (maxL := 3) (ret := none) (by decide) rfl (Nat.le_of_ble_eq_true rfl) ?_
  intro p e s m below meth c ls Q A hQ hx hb hr hml hts hown hlocks hE hA0 hsz hP hD hA hS hl
  have hl : lv_has ls 3 [(0, .ref (a_st 0)), (1, .int x1)] := hl
  have L2 : ∀ (n : Nat) (x2_2 : Int32) (s_snow_2 : Nat → Int32) (H : Heap) (locs : List Loc) (ls : Array Slot), wpX4_melt_L2 x1 s_saltEnd s_count post n x2_2 s_snow_2 → va_P g.1 vwCl (List.flatten [kSt g a_st s_lower s_higher s_kind s_size s_snow_2 s_saltEnd s_complained s_clearings s_count]) H → va_D A (List.flatten [kSt g a_st s_lower s_higher s_kind s_size s_snow_2 s_saltEnd s_complained s_clearings s_count]) → va_S A s.heap H locs → lv_has ls 3 [(0, .ref (a_st 0)), (1, .int x1), (2, .int x2_2)] → W p l e rmX4_melt s m (([.ref (a_st 0), .int x1] : List Value).toArray) below meth c H locs 0 0 Q (F0 m 2 ls []) := by
    intro n_2
    induction n_2 with
    | zero => intro x2_2 s_snow_2 H locs ls hw; exact False.elim hw
    | succ n_2 ih_2 =>
      intro x2_2 s_snow_2 H locs ls hw hP hD hS hl
      refine lv_iload_n hx hb dX4_melt_2 rfl (lv_at hl 2 rfl) ?_
      refine lv_aload_n hx hb dX4_melt_3 rfl (lv_at hl 0 rfl) ?_
      refine va_get (D := g.1) (ci := 8) (v := .int s_count) (C := RX4) (T := TX4) (N := 9) hx hb hts inX4_melt_X4 hown hE.1 hP 0 rfl rfl 8 (by decide) (gW hts 1 (.fieldLink RX4 37 "SnowDispatcher$Streets" "count" "I") rfl) (fun _ h9 => h9) rfl dX4_melt_4 ?_
      refine lv_icmp_ge (tgt := 50) hx hb dX4_melt_7 (by decide) (fun c_7 => ?_) (fun c_7 => ?_)
      · have hw := hw.1 c_7
        subst hQ
        exact W.vret hx hb hr (gRv1 (c1 := s_snow_2) (wf := _) hA0 hsz hw hP hD hS) hS.2.2 dX4_melt_50
      · have hw := hw.2 c_7
        refine lv_iload_n hx hb dX4_melt_10 rfl (lv_at hl 2 rfl) ?_
        refine lv_bipush (v := 12) hx hb dX4_melt_11 (by decide) ?_
        refine lv_icmp_ge (tgt := 50) hx hb dX4_melt_13 (by decide) (fun c_13 => ?_) (fun c_13 => ?_)
        · have hw := hw.1 c_13
          subst hQ
          exact W.vret hx hb hr (gRv1 (c1 := s_snow_2) (wf := _) hA0 hsz hw hP hD hS) hS.2.2 dX4_melt_50
        · have hw := hw.2 c_13
          refine lv_aload_n hx hb dX4_melt_16 rfl (lv_at hl 0 rfl) ?_
          refine va_get (D := g.1) (ci := 8) (v := .ref (a_st 6)) (C := RX4) (T := TX4) (N := 9) hx hb hts inX4_melt_X4 hown hE.1 hP 0 rfl rfl 5 (by decide) (gW hts 2 (.fieldLink RX4 28 "SnowDispatcher$Streets" "saltEnd" "[I") rfl) (fun _ h9 => h9) rfl dX4_melt_17 ?_
          refine lv_iload_n hx hb dX4_melt_20 rfl (lv_at hl 2 rfl) ?_
          have h1 := hw.1
          have hw := hw.2
          refine va_iald hx hb hE.1 hP 6 0 rfl rfl h1 dX4_melt_21 ?_
          refine lv_iload_n hx hb dX4_melt_22 rfl (lv_at hl 1 rfl) ?_
          refine lv_icmp_le (tgt := 44) hx hb dX4_melt_23 (by decide) (fun c_23 => ?_) (fun c_23 => ?_)
          · have hw := hw.1 c_23
            refine lv_iinc (v := (x2_2 + 1)) (lv' := [(2, .int (x2_2 + 1)), (0, .ref (a_st 0)), (1, .int x1)]) hx hb dX4_melt_44 hl (k := 2) rfl rfl (by decide) rfl (fun ls hl => ?_)
            refine lv_goto (tgt := 2) hx hb dX4_melt_47 (by decide) ?_
            exact ih_2 (x2_2 + 1) s_snow_2 _ _ _ hw hP hD hS (lv_sub hl [1, 2, 0] rfl)
          · have hw := hw.2 c_23
            refine lv_aload_n hx hb dX4_melt_26 rfl (lv_at hl 0 rfl) ?_
            refine va_get (D := g.1) (ci := 8) (v := .ref (a_st 5)) (C := RX4) (T := TX4) (N := 9) hx hb hts inX4_melt_X4 hown hE.1 hP 0 rfl rfl 4 (by decide) (gW hts 3 (.fieldLink RX4 25 "SnowDispatcher$Streets" "snow" "[I") rfl) (fun _ h9 => h9) rfl dX4_melt_27 ?_
            refine lv_iload_n hx hb dX4_melt_30 rfl (lv_at hl 2 rfl) ?_
            refine lv_aload_n hx hb dX4_melt_31 rfl (lv_at hl 0 rfl) ?_
            refine va_get (D := g.1) (ci := 8) (v := .ref (a_st 5)) (C := RX4) (T := TX4) (N := 9) hx hb hts inX4_melt_X4 hown hE.1 hP 0 rfl rfl 4 (by decide) (gW hts 3 (.fieldLink RX4 25 "SnowDispatcher$Streets" "snow" "[I") rfl) (fun _ h9 => h9) rfl dX4_melt_32 ?_
            refine lv_iload_n hx hb dX4_melt_35 rfl (lv_at hl 2 rfl) ?_
            have h2 := hw.1
            have hw := hw.2
            refine va_iald hx hb hE.1 hP 5 0 rfl rfl h2 dX4_melt_36 ?_
            refine lv_iconst (v := 3) hx hb dX4_melt_37 (by decide) ?_
            refine lv_isub hx hb dX4_melt_38 ?_
            refine lv_iconst (v := 0) hx hb dX4_melt_39 (by decide) ?_
            refine va_mmax hx hb (hml.trans hl.1.symm) hown (gW hts 4 (.methodLink RX4 71 Lib.Math.max.name) rfl) (gW hts 5 (.static Lib.Math.max.name) rfl) (gW hts 6 (.initialized "java/lang/Math") rfl) (gW hts 7 (.code Lib.Math.max.name Lib.Math.max.code 2 (some .int)) rfl) (Nat.le_of_ble_eq_true rfl) (Nat.le_of_ble_eq_true rfl) (Nat.le_of_ble_eq_true rfl) (Nat.le_of_ble_eq_true rfl) dX4_melt_40 ?_
            have h3 := hw.1
            have hw := hw.2
            refine va_iast hx hb hE.1 hP hD hS 5 0 rfl rfl h3 dX4_melt_43 (fun H locs hP hD hS => ?_)
            have hP : va_P g.1 vwCl (List.flatten [kSt g a_st s_lower s_higher s_kind s_size (upd s_snow_2 x2_2.toNatClampNeg (if ((s_snow_2 x2_2.toNatClampNeg) - 3) < 0 then 0 else ((s_snow_2 x2_2.toNatClampNeg) - 3))) s_saltEnd s_complained s_clearings s_count]) H := hP
            have hD : va_D A (List.flatten [kSt g a_st s_lower s_higher s_kind s_size (upd s_snow_2 x2_2.toNatClampNeg (if ((s_snow_2 x2_2.toNatClampNeg) - 3) < 0 then 0 else ((s_snow_2 x2_2.toNatClampNeg) - 3))) s_saltEnd s_complained s_clearings s_count]) := hD
            refine lv_iinc (v := (x2_2 + 1)) (lv' := [(2, .int (x2_2 + 1)), (0, .ref (a_st 0)), (1, .int x1)]) hx hb dX4_melt_44 hl (k := 2) rfl rfl (by decide) rfl (fun ls hl => ?_)
            refine lv_goto (tgt := 2) hx hb dX4_melt_47 (by decide) ?_
            exact ih_2 (x2_2 + 1) (upd s_snow_2 x2_2.toNatClampNeg (if ((s_snow_2 x2_2.toNatClampNeg) - 3) < 0 then 0 else ((s_snow_2 x2_2.toNatClampNeg) - 3))) _ _ _ hw hP hD hS (lv_sub hl [1, 2, 0] rfl)
  refine lv_iconst (v := 0) hx hb dX4_melt_0 (by decide) ?_
  refine lv_istore_n (lv' := [(2, .int 0), (0, .ref (a_st 0)), (1, .int x1)]) hx hb dX4_melt_1 rfl hl (by decide) rfl (fun ls hl => ?_)
  obtain ⟨n, hw⟩ := hw
  exact L2 n 0 s_snow _ _ _ hw hP hD hS (lv_sub hl [1, 2, 0] rfl)
abbrev rmX4_drift : Room := { frames := 2, cells := 0, slots := 0, locals := 122 }
set_option maxRecDepth 20000 in
theorem inX4_drift_X4 : ∀ w ∈ wsX40, w ∈ wsX4_drift := by decide +kernel
set_option maxHeartbeats 4000000 in
set_option maxRecDepth 100000 in
theorem ctX4_drift (l : Launch) (g : GG) (a_st : Nat → Nat) (sz : Nat) (s_lower : Nat → Int32) (s_higher : Nat → Int32) (s_kind : Nat → Int32) (s_size : Nat → Int32) (s_snow : Nat → Int32) (s_saltEnd : Nat → Int32) (s_complained : Nat → Int32) (s_clearings : Nat → Int32) (s_count : Int32) (x1 : Int32) {post : (Nat → Int32) → Prop} (hw : wpX4_drift x1 s_snow s_count post) :
    Met l yX4_drift wsX4_drift rmX4_drift (gPc g sz (List.flatten [kSt g a_st s_lower s_higher s_kind s_size s_snow s_saltEnd s_complained s_clearings s_count]) [.ref (a_st 0), .int x1]) (gQv1 post (fun u1 => gB g (List.flatten [kSt g a_st s_lower s_higher s_kind s_size s_snow s_saltEnd s_complained s_clearings s_count]) sz (List.flatten [kSt g a_st s_lower s_higher s_kind s_size u1 s_saltEnd s_complained s_clearings s_count])) (va_A (List.flatten [kSt g a_st s_lower s_higher s_kind s_size s_snow s_saltEnd s_complained s_clearings s_count]) sz)) 0 0 (va_A (List.flatten [kSt g a_st s_lower s_higher s_kind s_size s_snow s_saltEnd s_complained s_clearings s_count]) sz) := by
  refine gOf (cc := cX4_drift) (maxL := 5) (ret := none) (by decide) rfl (Nat.le_of_ble_eq_true rfl) ?_
  intro p e s m below meth c ls Q A hQ hx hb hr hml hts hown hlocks hE hA0 hsz hP hD hA hS hl
  have hl : lv_has ls 5 [(0, .ref (a_st 0)), (1, .int x1)] := hl
  have L42 : ∀ (n : Nat) (x2_42 : Int32) (x3_42 : Int32) (s_snow_42 : Nat → Int32) (H : Heap) (locs : List Loc) (ls : Array Slot), wpX4_drift_L42 x1 s_count post n x2_42 x3_42 s_snow_42 → va_P g.1 vwCl (List.flatten [kSt g a_st s_lower s_higher s_kind s_size s_snow_42 s_saltEnd s_complained s_clearings s_count]) H → va_D A (List.flatten [kSt g a_st s_lower s_higher s_kind s_size s_snow_42 s_saltEnd s_complained s_clearings s_count]) → va_S A s.heap H locs → lv_has ls 5 [(0, .ref (a_st 0)), (1, .int x1), (2, .int x2_42), (3, .int x3_42)] → W p l e rmX4_drift s m (([.ref (a_st 0), .int x1] : List Value).toArray) below meth c H locs 0 0 Q (F0 m 42 ls []) := by
    intro n_42
    induction n_42 with
    | zero => intro x2_42 x3_42 s_snow_42 H locs ls hw; exact False.elim hw
    | succ n_42 ih_42 =>
      intro x2_42 x3_42 s_snow_42 H locs ls hw hP hD hS hl
      refine lv_iload_n hx hb dX4_drift_42 rfl (lv_at hl 3 rfl) ?_
      refine lv_aload_n hx hb dX4_drift_43 rfl (lv_at hl 0 rfl) ?_
      refine va_get (D := g.1) (ci := 8) (v := .int s_count) (C := RX4) (T := TX4) (N := 9) hx hb hts inX4_drift_X4 hown hE.1 hP 0 rfl rfl 8 (by decide) (gW hts 1 (.fieldLink RX4 37 "SnowDispatcher$Streets" "count" "I") rfl) (fun _ h9 => h9) rfl dX4_drift_44 ?_
      refine lv_icmp_ge (tgt := 102) hx hb dX4_drift_47 (by decide) (fun c_47 => ?_) (fun c_47 => ?_)
      · have hw := hw.1 c_47
        subst hQ
        exact W.vret hx hb hr (gRv1 (c1 := s_snow_42) (wf := _) hA0 hsz hw hP hD hS) hS.2.2 dX4_drift_102
      · have hw := hw.2 c_47
        refine lv_iload_n hx hb dX4_drift_50 rfl (lv_at hl 3 rfl) ?_
        refine lv_bipush (v := 12) hx hb dX4_drift_51 (by decide) ?_
        refine lv_icmp_ge (tgt := 102) hx hb dX4_drift_53 (by decide) (fun c_53 => ?_) (fun c_53 => ?_)
        · have hw := hw.1 c_53
          subst hQ
          exact W.vret hx hb hr (gRv1 (c1 := s_snow_42) (wf := _) hA0 hsz hw hP hD hS) hS.2.2 dX4_drift_102
        · have hw := hw.2 c_53
          refine lv_iload_n hx hb dX4_drift_56 rfl (lv_at hl 1 rfl) ?_
          refine lv_aload_n hx hb dX4_drift_57 rfl (lv_at hl 0 rfl) ?_
          refine va_get (D := g.1) (ci := 8) (v := .ref (a_st 5)) (C := RX4) (T := TX4) (N := 9) hx hb hts inX4_drift_X4 hown hE.1 hP 0 rfl rfl 4 (by decide) (gW hts 2 (.fieldLink RX4 25 "SnowDispatcher$Streets" "snow" "[I") rfl) (fun _ h9 => h9) rfl dX4_drift_58 ?_
          refine lv_iload_n hx hb dX4_drift_61 rfl (lv_at hl 3 rfl) ?_
          have h3 := hw.1
          have hw := hw.2
          refine va_iald hx hb hE.1 hP 5 0 rfl rfl h3 dX4_drift_62 ?_
          refine lv_iconst (v := 4) hx hb dX4_drift_63 (by decide) ?_
          refine lv_idiv hx hb dX4_drift_64 (by decide) ?_
          refine va_mmin hx hb (hml.trans hl.1.symm) hown (gW hts 3 (.methodLink RX4 66 Lib.Math.min.name) rfl) (gW hts 4 (.static Lib.Math.min.name) rfl) (gW hts 5 (.initialized "java/lang/Math") rfl) (gW hts 6 (.code Lib.Math.min.name Lib.Math.min.code 2 (some .int)) rfl) (Nat.le_of_ble_eq_true rfl) (Nat.le_of_ble_eq_true rfl) (Nat.le_of_ble_eq_true rfl) (Nat.le_of_ble_eq_true rfl) dX4_drift_65 ?_
          refine lv_istore (lv' := [(4, .int (if ((s_snow_42 x3_42.toNatClampNeg) / 4) < x1 then ((s_snow_42 x3_42.toNatClampNeg) / 4) else x1)), (0, .ref (a_st 0)), (1, .int x1), (2, .int x2_42), (3, .int x3_42)]) hx hb dX4_drift_68 hl (by decide) rfl (fun ls hl => ?_)
          refine lv_aload_n hx hb dX4_drift_70 rfl (lv_at hl 1 rfl) ?_
          refine va_get (D := g.1) (ci := 8) (v := .ref (a_st 5)) (C := RX4) (T := TX4) (N := 9) hx hb hts inX4_drift_X4 hown hE.1 hP 0 rfl rfl 4 (by decide) (gW hts 2 (.fieldLink RX4 25 "SnowDispatcher$Streets" "snow" "[I") rfl) (fun _ h9 => h9) rfl dX4_drift_71 ?_
          refine lv_iload_n hx hb dX4_drift_74 rfl (lv_at hl 4 rfl) ?_
          refine lv_aload_n hx hb dX4_drift_75 rfl (lv_at hl 1 rfl) ?_
          refine va_get (D := g.1) (ci := 8) (v := .ref (a_st 5)) (C := RX4) (T := TX4) (N := 9) hx hb hts inX4_drift_X4 hown hE.1 hP 0 rfl rfl 4 (by decide) (gW hts 2 (.fieldLink RX4 25 "SnowDispatcher$Streets" "snow" "[I") rfl) (fun _ h9 => h9) rfl dX4_drift_76 ?_
          refine lv_iload_n hx hb dX4_drift_79 rfl (lv_at hl 4 rfl) ?_
          have h4 := hw.1
          have hw := hw.2
          refine va_iald hx hb hE.1 hP 5 0 rfl rfl h4 dX4_drift_80 ?_
          refine lv_iload hx hb dX4_drift_81 (lv_at hl 0 rfl) ?_
          refine lv_isub hx hb dX4_drift_83 ?_
          refine lv_iload_n hx hb dX4_drift_84 rfl (lv_at hl 3 rfl) ?_
          refine lv_iadd hx hb dX4_drift_85 ?_
          refine lv_sipush (v := 200) hx hb dX4_drift_86 (by decide) ?_
          refine va_mmin hx hb (hml.trans hl.1.symm) hown (gW hts 3 (.methodLink RX4 66 Lib.Math.min.name) rfl) (gW hts 4 (.static Lib.Math.min.name) rfl) (gW hts 5 (.initialized "java/lang/Math") rfl) (gW hts 6 (.code Lib.Math.min.name Lib.Math.min.code 2 (some .int)) rfl) (Nat.le_of_ble_eq_true rfl) (Nat.le_of_ble_eq_true rfl) (Nat.le_of_ble_eq_true rfl) (Nat.le_of_ble_eq_true rfl) dX4_drift_89 ?_
          have h5 := hw.1
          have hw := hw.2
          refine va_iast hx hb hE.1 hP hD hS 5 0 rfl rfl h5 dX4_drift_92 (fun H locs hP hD hS => ?_)
          have hP : va_P g.1 vwCl (List.flatten [kSt g a_st s_lower s_higher s_kind s_size (upd s_snow_42 x3_42.toNatClampNeg (if 200 < (((s_snow_42 x3_42.toNatClampNeg) - (if ((s_snow_42 x3_42.toNatClampNeg) / 4) < x1 then ((s_snow_42 x3_42.toNatClampNeg) / 4) else x1)) + x2_42) then 200 else (((s_snow_42 x3_42.toNatClampNeg) - (if ((s_snow_42 x3_42.toNatClampNeg) / 4) < x1 then ((s_snow_42 x3_42.toNatClampNeg) / 4) else x1)) + x2_42))) s_saltEnd s_complained s_clearings s_count]) H := hP
          have hD : va_D A (List.flatten [kSt g a_st s_lower s_higher s_kind s_size (upd s_snow_42 x3_42.toNatClampNeg (if 200 < (((s_snow_42 x3_42.toNatClampNeg) - (if ((s_snow_42 x3_42.toNatClampNeg) / 4) < x1 then ((s_snow_42 x3_42.toNatClampNeg) / 4) else x1)) + x2_42) then 200 else (((s_snow_42 x3_42.toNatClampNeg) - (if ((s_snow_42 x3_42.toNatClampNeg) / 4) < x1 then ((s_snow_42 x3_42.toNatClampNeg) / 4) else x1)) + x2_42))) s_saltEnd s_complained s_clearings s_count]) := hD
          refine lv_iload hx hb dX4_drift_93 (lv_at hl 0 rfl) ?_
          refine lv_istore_n (lv' := [(2, .int (if ((s_snow_42 x3_42.toNatClampNeg) / 4) < x1 then ((s_snow_42 x3_42.toNatClampNeg) / 4) else x1)), (4, .int (if ((s_snow_42 x3_42.toNatClampNeg) / 4) < x1 then ((s_snow_42 x3_42.toNatClampNeg) / 4) else x1)), (0, .ref (a_st 0)), (1, .int x1), (3, .int x3_42)]) hx hb dX4_drift_95 rfl hl (by decide) rfl (fun ls hl => ?_)
          refine lv_iinc (v := (x3_42 + 1)) (lv' := [(3, .int (x3_42 + 1)), (2, .int (if ((s_snow_42 x3_42.toNatClampNeg) / 4) < x1 then ((s_snow_42 x3_42.toNatClampNeg) / 4) else x1)), (4, .int (if ((s_snow_42 x3_42.toNatClampNeg) / 4) < x1 then ((s_snow_42 x3_42.toNatClampNeg) / 4) else x1)), (0, .ref (a_st 0)), (1, .int x1)]) hx hb dX4_drift_96 hl (k := 4) rfl rfl (by decide) rfl (fun ls hl => ?_)
          refine lv_goto (tgt := 42) hx hb dX4_drift_99 (by decide) ?_
          exact ih_42 (if ((s_snow_42 x3_42.toNatClampNeg) / 4) < x1 then ((s_snow_42 x3_42.toNatClampNeg) / 4) else x1) (x3_42 + 1) (upd s_snow_42 x3_42.toNatClampNeg (if 200 < (((s_snow_42 x3_42.toNatClampNeg) - (if ((s_snow_42 x3_42.toNatClampNeg) / 4) < x1 then ((s_snow_42 x3_42.toNatClampNeg) / 4) else x1)) + x2_42) then 200 else (((s_snow_42 x3_42.toNatClampNeg) - (if ((s_snow_42 x3_42.toNatClampNeg) / 4) < x1 then ((s_snow_42 x3_42.toNatClampNeg) / 4) else x1)) + x2_42))) _ _ _ hw hP hD hS (lv_sub hl [3, 4, 1, 0] rfl)
  refine lv_aload_n hx hb dX4_drift_0 rfl (lv_at hl 0 rfl) ?_
  refine va_get (D := g.1) (ci := 8) (v := .int s_count) (C := RX4) (T := TX4) (N := 9) hx hb hts inX4_drift_X4 hown hE.1 hP 0 rfl rfl 8 (by decide) (gW hts 1 (.fieldLink RX4 37 "SnowDispatcher$Streets" "count" "I") rfl) (fun _ h9 => h9) rfl dX4_drift_1 ?_
  refine lv_iconst (v := 2) hx hb dX4_drift_4 (by decide) ?_
  refine lv_icmp_lt (tgt := 21) hx hb dX4_drift_5 (by decide) (fun c_5 => ?_) (fun c_5 => ?_)
  · have hw := hw.1 c_5
    subst hQ
    exact W.vret hx hb hr (gRv1 (c1 := s_snow) (wf := _) hA0 hsz hw hP hD hS) hS.2.2 dX4_drift_21
  · have hw := hw.2 c_5
    refine lv_aload_n hx hb dX4_drift_8 rfl (lv_at hl 0 rfl) ?_
    refine lv_aload_n hx hb dX4_drift_9 rfl (lv_at hl 0 rfl) ?_
    refine va_get (D := g.1) (ci := 8) (v := .int s_count) (C := RX4) (T := TX4) (N := 9) hx hb hts inX4_drift_X4 hown hE.1 hP 0 rfl rfl 8 (by decide) (gW hts 1 (.fieldLink RX4 37 "SnowDispatcher$Streets" "count" "I") rfl) (fun _ h9 => h9) rfl dX4_drift_10 ?_
    refine lv_iconst (v := 1) hx hb dX4_drift_13 (by decide) ?_
    refine lv_isub hx hb dX4_drift_14 ?_
    refine gCi0 (gRunV (As := [.int (s_count - 1)]) (rest := []) ⟨hx, hb, hml, hown, hts⟩ (ctX4_has l g a_st _ s_lower s_higher s_kind s_size s_snow s_saltEnd s_complained s_clearings s_count (s_count - 1) hw) (cwV 1 hts gX4_drift_X4_has rfl rfl rfl (by decide +kernel) ⟨Nat.le_of_ble_eq_true rfl, Nat.le_of_ble_eq_true rfl⟩) hE (gSub hP [0]) (gDSub hD [0] rfl) 0 8 rfl rfl rfl rfl rfl hl.1 rfl (lv_room (Nat.le_of_ble_eq_true rfl)) dX4_drift_15 ⟨Nat.le_of_ble_eq_true rfl, Nat.le_of_ble_eq_true rfl⟩) hP hD hS hA [0] rfl rfl rfl (fun r1 H locs hw hP hD hS => ?_)
    have hP : va_P g.1 vwCl (List.flatten [kSt g a_st s_lower s_higher s_kind s_size s_snow s_saltEnd s_complained s_clearings s_count]) H := hP
    have hD : va_D A (List.flatten [kSt g a_st s_lower s_higher s_kind s_size s_snow s_saltEnd s_complained s_clearings s_count]) := hD
    refine lv_if_ne (tgt := 22) hx hb dX4_drift_18 (by decide) (fun c_18 => ?_) (fun c_18 => ?_)
    · have hw := hw.1 c_18
      refine lv_iload_n hx hb dX4_drift_22 rfl (lv_at hl 1 rfl) ?_
      refine lv_aload_n hx hb dX4_drift_23 rfl (lv_at hl 0 rfl) ?_
      refine va_get (D := g.1) (ci := 8) (v := .ref (a_st 5)) (C := RX4) (T := TX4) (N := 9) hx hb hts inX4_drift_X4 hown hE.1 hP 0 rfl rfl 4 (by decide) (gW hts 2 (.fieldLink RX4 25 "SnowDispatcher$Streets" "snow" "[I") rfl) (fun _ h9 => h9) rfl dX4_drift_24 ?_
      refine lv_aload_n hx hb dX4_drift_27 rfl (lv_at hl 0 rfl) ?_
      refine va_get (D := g.1) (ci := 8) (v := .int s_count) (C := RX4) (T := TX4) (N := 9) hx hb hts inX4_drift_X4 hown hE.1 hP 0 rfl rfl 8 (by decide) (gW hts 1 (.fieldLink RX4 37 "SnowDispatcher$Streets" "count" "I") rfl) (fun _ h9 => h9) rfl dX4_drift_28 ?_
      refine lv_iconst (v := 1) hx hb dX4_drift_31 (by decide) ?_
      refine lv_isub hx hb dX4_drift_32 ?_
      have h2 := hw.1
      have hw := hw.2
      refine va_iald hx hb hE.1 hP 5 0 rfl rfl h2 dX4_drift_33 ?_
      refine lv_iconst (v := 4) hx hb dX4_drift_34 (by decide) ?_
      refine lv_idiv hx hb dX4_drift_35 (by decide) ?_
      refine va_mmin hx hb (hml.trans hl.1.symm) hown (gW hts 3 (.methodLink RX4 66 Lib.Math.min.name) rfl) (gW hts 4 (.static Lib.Math.min.name) rfl) (gW hts 5 (.initialized "java/lang/Math") rfl) (gW hts 6 (.code Lib.Math.min.name Lib.Math.min.code 2 (some .int)) rfl) (Nat.le_of_ble_eq_true rfl) (Nat.le_of_ble_eq_true rfl) (Nat.le_of_ble_eq_true rfl) (Nat.le_of_ble_eq_true rfl) dX4_drift_36 ?_
      refine lv_istore_n (lv' := [(2, .int (if ((s_snow (s_count - 1).toNatClampNeg) / 4) < x1 then ((s_snow (s_count - 1).toNatClampNeg) / 4) else x1)), (0, .ref (a_st 0)), (1, .int x1)]) hx hb dX4_drift_39 rfl hl (by decide) rfl (fun ls hl => ?_)
      refine lv_iconst (v := 0) hx hb dX4_drift_40 (by decide) ?_
      refine lv_istore_n (lv' := [(3, .int 0), (2, .int (if ((s_snow (s_count - 1).toNatClampNeg) / 4) < x1 then ((s_snow (s_count - 1).toNatClampNeg) / 4) else x1)), (0, .ref (a_st 0)), (1, .int x1)]) hx hb dX4_drift_41 rfl hl (by decide) rfl (fun ls hl => ?_)
      obtain ⟨n, hw⟩ := hw
      exact L42 n (if ((s_snow (s_count - 1).toNatClampNeg) / 4) < x1 then ((s_snow (s_count - 1).toNatClampNeg) / 4) else x1) 0 s_snow _ _ _ hw hP hD hS (lv_sub hl [2, 3, 1, 0] rfl)
    · have hw := hw.2 c_18
      subst hQ
      exact W.vret hx hb hr (gRv1 (c1 := s_snow) (wf := _) hA0 hsz hw hP hD hS) hS.2.2 dX4_drift_21
abbrev rmX4_complain : Room := { frames := 3, cells := 0, slots := 0, locals := 145 }
set_option maxRecDepth 20000 in
theorem inX4_complain_X4 : ∀ w ∈ wsX40, w ∈ wsX4_complain := by decide +kernel
set_option maxHeartbeats 4000000 in
set_option maxRecDepth 100000 in
theorem ctX4_complain (l : Launch) (g : GG) (a_st : Nat → Nat) (sz : Nat) (s_lower : Nat → Int32) (s_higher : Nat → Int32) (s_kind : Nat → Int32) (s_size : Nat → Int32) (s_snow : Nat → Int32) (s_saltEnd : Nat → Int32) (s_complained : Nat → Int32) (s_clearings : Nat → Int32) (s_count : Int32) {post : Int32 → (Nat → Int32) → Prop} (hw : wpX4_complain s_kind s_snow s_complained s_count post) :
    Met l yX4_complain wsX4_complain rmX4_complain (gPc g sz (List.flatten [kSt g a_st s_lower s_higher s_kind s_size s_snow s_saltEnd s_complained s_clearings s_count]) [.ref (a_st 0)]) (gQi1 post (fun u1 => gB g (List.flatten [kSt g a_st s_lower s_higher s_kind s_size s_snow s_saltEnd s_complained s_clearings s_count]) sz (List.flatten [kSt g a_st s_lower s_higher s_kind s_size s_snow s_saltEnd u1 s_clearings s_count])) (va_A (List.flatten [kSt g a_st s_lower s_higher s_kind s_size s_snow s_saltEnd s_complained s_clearings s_count]) sz)) 0 0 (va_A (List.flatten [kSt g a_st s_lower s_higher s_kind s_size s_snow s_saltEnd s_complained s_clearings s_count]) sz) := by
  refine gOf (cc := cX4_complain) (maxL := 3) (ret := (some .int)) (by decide) rfl (Nat.le_of_ble_eq_true rfl) ?_
  intro p e s m below meth c ls Q A hQ hx hb hr hml hts hown hlocks hE hA0 hsz hP hD hA hS hl
  have hl : lv_has ls 3 [(0, .ref (a_st 0))] := hl
  have L4 : ∀ (n : Nat) (x1_4 : Int32) (x2_4 : Int32) (s_complained_4 : Nat → Int32) (H : Heap) (locs : List Loc) (ls : Array Slot), wpX4_complain_L4 s_kind s_snow s_count post n x1_4 x2_4 s_complained_4 → va_P g.1 vwCl (List.flatten [kSt g a_st s_lower s_higher s_kind s_size s_snow s_saltEnd s_complained_4 s_clearings s_count]) H → va_D A (List.flatten [kSt g a_st s_lower s_higher s_kind s_size s_snow s_saltEnd s_complained_4 s_clearings s_count]) → va_S A s.heap H locs → lv_has ls 3 [(0, .ref (a_st 0)), (1, .int x1_4), (2, .int x2_4)] → W p l e rmX4_complain s m (([.ref (a_st 0)] : List Value).toArray) below meth c H locs 0 0 Q (F0 m 4 ls []) := by
    intro n_4
    induction n_4 with
    | zero => intro x1_4 x2_4 s_complained_4 H locs ls hw; exact False.elim hw
    | succ n_4 ih_4 =>
      intro x1_4 x2_4 s_complained_4 H locs ls hw hP hD hS hl
      refine lv_iload_n hx hb dX4_complain_4 rfl (lv_at hl 2 rfl) ?_
      refine lv_aload_n hx hb dX4_complain_5 rfl (lv_at hl 0 rfl) ?_
      refine va_get (D := g.1) (ci := 8) (v := .int s_count) (C := RX4) (T := TX4) (N := 9) hx hb hts inX4_complain_X4 hown hE.1 hP 0 rfl rfl 8 (by decide) (gW hts 1 (.fieldLink RX4 37 "SnowDispatcher$Streets" "count" "I") rfl) (fun _ h9 => h9) rfl dX4_complain_6 ?_
      refine lv_icmp_ge (tgt := 45) hx hb dX4_complain_9 (by decide) (fun c_9 => ?_) (fun c_9 => ?_)
      · have hw := hw.1 c_9
        refine lv_iload_n hx hb dX4_complain_45 rfl (lv_at hl 1 rfl) ?_
        subst hQ
        exact W.iret hx hb hr (gRi1 (c1 := s_complained_4) (wf := _) hA0 hsz hw hP hD hS) hS.2.2 dX4_complain_46
      · have hw := hw.2 c_9
        refine lv_iload_n hx hb dX4_complain_12 rfl (lv_at hl 2 rfl) ?_
        refine lv_bipush (v := 12) hx hb dX4_complain_13 (by decide) ?_
        refine lv_icmp_ge (tgt := 45) hx hb dX4_complain_15 (by decide) (fun c_15 => ?_) (fun c_15 => ?_)
        · have hw := hw.1 c_15
          refine lv_iload_n hx hb dX4_complain_45 rfl (lv_at hl 1 rfl) ?_
          subst hQ
          exact W.iret hx hb hr (gRi1 (c1 := s_complained_4) (wf := _) hA0 hsz hw hP hD hS) hS.2.2 dX4_complain_46
        · have hw := hw.2 c_15
          refine lv_aload_n hx hb dX4_complain_18 rfl (lv_at hl 0 rfl) ?_
          refine lv_iload_n hx hb dX4_complain_19 rfl (lv_at hl 2 rfl) ?_
          refine gCi0 (gRunV (As := [.int x2_4]) (rest := []) ⟨hx, hb, hml, hown, hts⟩ (ctX4_excess l g a_st _ s_lower s_higher s_kind s_size s_snow s_saltEnd s_complained_4 s_clearings s_count x2_4 hw) (cwV 1 hts gX4_complain_X4_excess rfl rfl rfl (by decide +kernel) ⟨Nat.le_of_ble_eq_true rfl, Nat.le_of_ble_eq_true rfl⟩) hE (gSub hP [0]) (gDSub hD [0] rfl) 0 8 rfl rfl rfl rfl rfl hl.1 rfl (lv_room (Nat.le_of_ble_eq_true rfl)) dX4_complain_20 ⟨Nat.le_of_ble_eq_true rfl, Nat.le_of_ble_eq_true rfl⟩) hP hD hS hA [0] rfl rfl rfl (fun r1 H locs hw hP hD hS => ?_)
          have hP : va_P g.1 vwCl (List.flatten [kSt g a_st s_lower s_higher s_kind s_size s_snow s_saltEnd s_complained_4 s_clearings s_count]) H := hP
          have hD : va_D A (List.flatten [kSt g a_st s_lower s_higher s_kind s_size s_snow s_saltEnd s_complained_4 s_clearings s_count]) := hD
          refine lv_if_le (tgt := 39) hx hb dX4_complain_23 (by decide) (fun c_23 => ?_) (fun c_23 => ?_)
          · have hw := hw.1 c_23
            refine lv_iinc (v := (x2_4 + 1)) (lv' := [(2, .int (x2_4 + 1)), (0, .ref (a_st 0)), (1, .int x1_4)]) hx hb dX4_complain_39 hl (k := 2) rfl rfl (by decide) rfl (fun ls hl => ?_)
            refine lv_goto (tgt := 4) hx hb dX4_complain_42 (by decide) ?_
            exact ih_4 x1_4 (x2_4 + 1) s_complained_4 _ _ _ hw hP hD hS (lv_sub hl [1, 2, 0] rfl)
          · have hw := hw.2 c_23
            refine lv_aload_n hx hb dX4_complain_26 rfl (lv_at hl 0 rfl) ?_
            refine va_get (D := g.1) (ci := 8) (v := .ref (a_st 7)) (C := RX4) (T := TX4) (N := 9) hx hb hts inX4_complain_X4 hown hE.1 hP 0 rfl rfl 6 (by decide) (gW hts 2 (.fieldLink RX4 31 "SnowDispatcher$Streets" "complained" "[I") rfl) (fun _ h9 => h9) rfl dX4_complain_27 ?_
            refine lv_iload_n hx hb dX4_complain_30 rfl (lv_at hl 2 rfl) ?_
            refine lv_dup2_11 hx hb dX4_complain_31 rfl rfl ?_
            have h2 := hw.1
            have hw := hw.2
            refine va_iald hx hb hE.1 hP 7 0 rfl rfl h2 dX4_complain_32 ?_
            refine lv_iconst (v := 1) hx hb dX4_complain_33 (by decide) ?_
            refine lv_iadd hx hb dX4_complain_34 ?_
            have h3 := hw.1
            have hw := hw.2
            refine va_iast hx hb hE.1 hP hD hS 7 0 rfl rfl h3 dX4_complain_35 (fun H locs hP hD hS => ?_)
            have hP : va_P g.1 vwCl (List.flatten [kSt g a_st s_lower s_higher s_kind s_size s_snow s_saltEnd (upd s_complained_4 x2_4.toNatClampNeg ((s_complained_4 x2_4.toNatClampNeg) + 1)) s_clearings s_count]) H := hP
            have hD : va_D A (List.flatten [kSt g a_st s_lower s_higher s_kind s_size s_snow s_saltEnd (upd s_complained_4 x2_4.toNatClampNeg ((s_complained_4 x2_4.toNatClampNeg) + 1)) s_clearings s_count]) := hD
            refine lv_iinc (v := (x1_4 + 1)) (lv' := [(1, .int (x1_4 + 1)), (0, .ref (a_st 0)), (2, .int x2_4)]) hx hb dX4_complain_36 hl (k := 1) rfl rfl (by decide) rfl (fun ls hl => ?_)
            refine lv_iinc (v := (x2_4 + 1)) (lv' := [(2, .int (x2_4 + 1)), (1, .int (x1_4 + 1)), (0, .ref (a_st 0))]) hx hb dX4_complain_39 hl (k := 2) rfl rfl (by decide) rfl (fun ls hl => ?_)
            refine lv_goto (tgt := 4) hx hb dX4_complain_42 (by decide) ?_
            exact ih_4 (x1_4 + 1) (x2_4 + 1) (upd s_complained_4 x2_4.toNatClampNeg ((s_complained_4 x2_4.toNatClampNeg) + 1)) _ _ _ hw hP hD hS (lv_sub hl [2, 1, 0] rfl)
  refine lv_iconst (v := 0) hx hb dX4_complain_0 (by decide) ?_
  refine lv_istore_n (lv' := [(1, .int 0), (0, .ref (a_st 0))]) hx hb dX4_complain_1 rfl hl (by decide) rfl (fun ls hl => ?_)
  refine lv_iconst (v := 0) hx hb dX4_complain_2 (by decide) ?_
  refine lv_istore_n (lv' := [(2, .int 0), (1, .int 0), (0, .ref (a_st 0))]) hx hb dX4_complain_3 rfl hl (by decide) rfl (fun ls hl => ?_)
  obtain ⟨n, hw⟩ := hw
  exact L4 n 0 0 s_complained _ _ _ hw hP hD hS (lv_sub hl [2, 1, 0] rfl)
