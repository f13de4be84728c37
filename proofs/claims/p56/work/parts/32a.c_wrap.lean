/-! contracts: by program -/
abbrev rmL_addStreet : Room := { frames := 7, cells := 1, slots := 6, locals := 349 }
set_option maxHeartbeats 4000000 in
set_option maxRecDepth 100000 in
theorem ctL_addStreet (l : Launch) (hl0 : l.stackTraces = false) (g : GG) (t : GT) (a ra : Nat → Nat → Nat) (sz : Nat) (V : DV) (x1 : Int32) (x2 : Int32) (x3 : Int32) (x4 : Int32) {post : Int32 → DV → Prop} (hw : wpL_addStreet x1 x2 x3 x4 V post) :
    Met l yL_addStreet wsB_L_addStreet rmL_addStreet (gPX g t sz (List.flatten [kDW g a ra V]) [.ref (a 0 0), .int x1, .int x2, .int x3, .int x4]) (va_Qi post (fun v => gB g (List.flatten [kDW g a ra V]) sz (List.flatten [kDW g a ra v])) (va_A (List.flatten [kDW g a ra V]) sz)) 1 6 (va_A (List.flatten [kDW g a ra V]) sz) := by
  refine gOfXW (cc := cL_addStreet) (maxL := 6) (ret := (some .int)) (hh := [(0, 9, 10, 15), (0, 9, 15, 18), (0, 9, 20, 21)]) (by decide) rfl (Nat.le_of_ble_eq_true rfl) ?_
  intro p e s m below meth c ls Q A hQ hx hb hr hml hts hown hlocks hE hA0 hsz hP hD hA hS hl hX hT
  have hl : lv_has ls 6 [(0, .ref (a 0 0)), (1, .int x1), (2, .int x2), (3, .int x3), (4, .int x4)] := hl
  refine lv_aload_n hx hb dL_addStreet_0 rfl (lv_at hl 0 rfl) ?_
  refine lv_iload_n hx hb dL_addStreet_1 rfl (lv_at hl 1 rfl) ?_
  refine lv_iload_n hx hb dL_addStreet_2 rfl (lv_at hl 2 rfl) ?_
  refine lv_iload_n hx hb dL_addStreet_3 rfl (lv_at hl 3 rfl) ?_
  refine lv_iload hx hb dL_addStreet_4 (lv_at hl 4 rfl) ?_
  refine gXi1 (bs := [kDW g a ra V]) (wf := fun v => [kDW g a ra v]) (gRunVT (As := [.int x1, .int x2, .int x3, .int x4]) (rest := []) ⟨hx, hb, hml, hown, hts⟩ (ctP_addStreet l hl0 g t a ra _ V x1 x2 x3 x4 hw) (cwV 4 hts (goodF gV_X6_addStreet) rfl rfl rfl (by decide +kernel) ⟨Nat.le_of_ble_eq_true rfl, Nat.le_of_ble_eq_true rfl⟩) hE hX hS (gFree (bs := [kDW g a ra V]) hD hS hA [0]) (gSub (bs := [kDW g a ra V]) hP [0]) (gDSub (bs := [kDW g a ra V]) hD [0] rfl) 0 10 rfl rfl rfl rfl rfl hl.1 rfl (lv_room (Nat.le_of_ble_eq_true rfl)) dL_addStreet_6 ⟨Nat.le_of_ble_eq_true rfl, Nat.le_of_ble_eq_true rfl⟩) hP hD hS hA [0] rfl (fun _ => rfl) rfl (fun E ce q v H locs hw hP hD hS hc hcv hcl => ?_) (fun r v H locs hw hP hD hS => ?_)
  · have hP : va_P g.1 vwCl (List.flatten [kDW g a ra v]) H := hP
    have hD : va_D A (List.flatten [kDW g a ra v]) := hD
    rcases hw with ⟨rfl, hw⟩ | ⟨rfl, hw⟩ | ⟨rfl, hw⟩
    · refine vx_catch (own := RL) (name := "java/lang/IndexOutOfBoundsException") hown (tableOf []) ⟨0, 9, 10, 15⟩ (tableOf [(0, 9, 15, 18), (0, 9, 20, 21)]) (hT.trans rfl) (fun z hz => absurd hz List.not_mem_nil) (by decide) (by decide) (hts _ (lwM tw96)) (hX.cast (E := "java/lang/IndexOutOfBoundsException") (by decide)) hc hcv hcl ?_
      refine lv_astore (lv' := (5, .ref q) :: [(0, .ref (a 0 0)), (1, .int x1), (2, .int x2), (3, .int x3), (4, .int x4)]) hx hb dL_addStreet_10 hl (by decide) rfl (fun ls hl => ?_)
      refine lv_ldc (v := (-900001)) hx hb hown (hts _ (lwM tw97)) dL_addStreet_12 ?_
      subst hQ
      refine W.widen (k := 1) (n := 6) (Nat.le_of_ble_eq_true rfl) (Nat.le_of_ble_eq_true rfl) ?_
      exact W.iret hx hb hr (gRi1 (c1 := v) (wf := fun v => [kDW g a ra v]) hA0 hsz hw hP hD hS) hS.2.2 dL_addStreet_14
    · refine vx_catch (own := RL) (name := "java/lang/IllegalArgumentException") hown (tableOf [(0, 9, 10, 15)]) ⟨0, 9, 15, 18⟩ (tableOf [(0, 9, 20, 21)]) (hT.trans rfl) (List.forall_mem_cons.mpr ⟨Or.inr ⟨by decide, "java/lang/IndexOutOfBoundsException", hts _ (lwM tw96), hX.2.2.2 "java/lang/IllegalArgumentException" (by decide) "java/lang/IndexOutOfBoundsException" (by decide) (by decide)⟩, (fun z hz => absurd hz List.not_mem_nil)⟩) (by decide) (by decide) (hts _ (lwM tw98)) (hX.cast (E := "java/lang/IllegalArgumentException") (by decide)) hc hcv hcl ?_
      refine lv_astore (lv' := (5, .ref q) :: [(0, .ref (a 0 0)), (1, .int x1), (2, .int x2), (3, .int x3), (4, .int x4)]) hx hb dL_addStreet_15 hl (by decide) rfl (fun ls hl => ?_)
      refine lv_ldc (v := (-900002)) hx hb hown (hts _ (lwM tw99)) dL_addStreet_17 ?_
      subst hQ
      refine W.widen (k := 1) (n := 6) (Nat.le_of_ble_eq_true rfl) (Nat.le_of_ble_eq_true rfl) ?_
      exact W.iret hx hb hr (gRi1 (c1 := v) (wf := fun v => [kDW g a ra v]) hA0 hsz hw hP hD hS) hS.2.2 dL_addStreet_19
    · refine vx_catch (own := RL) (name := "java/lang/IllegalStateException") hown (tableOf [(0, 9, 10, 15), (0, 9, 15, 18)]) ⟨0, 9, 20, 21⟩ (tableOf []) (hT.trans rfl) (List.forall_mem_cons.mpr ⟨Or.inr ⟨by decide, "java/lang/IndexOutOfBoundsException", hts _ (lwM tw96), hX.2.2.2 "java/lang/IllegalStateException" (by decide) "java/lang/IndexOutOfBoundsException" (by decide) (by decide)⟩, (List.forall_mem_cons.mpr ⟨Or.inr ⟨by decide, "java/lang/IllegalArgumentException", hts _ (lwM tw98), hX.2.2.2 "java/lang/IllegalStateException" (by decide) "java/lang/IllegalArgumentException" (by decide) (by decide)⟩, (fun z hz => absurd hz List.not_mem_nil)⟩)⟩) (by decide) (by decide) (hts _ (lwM tw100)) (hX.cast (E := "java/lang/IllegalStateException") (by decide)) hc hcv hcl ?_
      refine lv_astore (lv' := (5, .ref q) :: [(0, .ref (a 0 0)), (1, .int x1), (2, .int x2), (3, .int x3), (4, .int x4)]) hx hb dL_addStreet_20 hl (by decide) rfl (fun ls hl => ?_)
      refine lv_ldc (v := (-900003)) hx hb hown (hts _ (lwM tw101)) dL_addStreet_22 ?_
      subst hQ
      refine W.widen (k := 1) (n := 6) (Nat.le_of_ble_eq_true rfl) (Nat.le_of_ble_eq_true rfl) ?_
      exact W.iret hx hb hr (gRi1 (c1 := v) (wf := fun v => [kDW g a ra v]) hA0 hsz hw hP hD hS) hS.2.2 dL_addStreet_24
  · have hP : va_P g.1 vwCl (List.flatten [kDW g a ra v]) H := hP
    have hD : va_D A (List.flatten [kDW g a ra v]) := hD
    subst hQ
    refine W.widen (k := 1) (n := 6) (Nat.le_of_ble_eq_true rfl) (Nat.le_of_ble_eq_true rfl) ?_
    exact W.iret hx hb hr (gRi1 (c1 := v) (wf := fun v => [kDW g a ra v]) hA0 hsz hw hP hD hS) hS.2.2 dL_addStreet_9
abbrev rmL_addPlough : Room := { frames := 7, cells := 1, slots := 6, locals := 346 }
set_option maxHeartbeats 4000000 in
set_option maxRecDepth 100000 in
theorem ctL_addPlough (l : Launch) (hl0 : l.stackTraces = false) (g : GG) (t : GT) (a ra : Nat → Nat → Nat) (sz : Nat) (V : DV) (x1 : Int32) {post : Int32 → DV → Prop} (hw : wpL_addPlough x1 V post) :
    Met l yL_addPlough wsB_L_addPlough rmL_addPlough (gPX g t sz (List.flatten [kDW g a ra V]) [.ref (a 0 0), .int x1]) (va_Qi post (fun v => gB g (List.flatten [kDW g a ra V]) sz (List.flatten [kDW g a ra v])) (va_A (List.flatten [kDW g a ra V]) sz)) 1 6 (va_A (List.flatten [kDW g a ra V]) sz) := by
  refine gOfXW (cc := cL_addPlough) (maxL := 3) (ret := (some .int)) (hh := [(0, 5, 6, 15), (0, 5, 10, 21)]) (by decide) rfl (Nat.le_of_ble_eq_true rfl) ?_
  intro p e s m below meth c ls Q A hQ hx hb hr hml hts hown hlocks hE hA0 hsz hP hD hA hS hl hX hT
  have hl : lv_has ls 3 [(0, .ref (a 0 0)), (1, .int x1)] := hl
  refine lv_aload_n hx hb dL_addPlough_0 rfl (lv_at hl 0 rfl) ?_
  refine lv_iload_n hx hb dL_addPlough_1 rfl (lv_at hl 1 rfl) ?_
  refine gXi1 (bs := [kDW g a ra V]) (wf := fun v => [kDW g a ra v]) (gRunVT (As := [.int x1]) (rest := []) ⟨hx, hb, hml, hown, hts⟩ (ctP_addPlough l hl0 g t a ra _ V x1 hw) (cwV 1 hts (goodF gV_X6_addPlough) rfl rfl rfl (by decide +kernel) ⟨Nat.le_of_ble_eq_true rfl, Nat.le_of_ble_eq_true rfl⟩) hE hX hS (gFree (bs := [kDW g a ra V]) hD hS hA [0]) (gSub (bs := [kDW g a ra V]) hP [0]) (gDSub (bs := [kDW g a ra V]) hD [0] rfl) 0 10 rfl rfl rfl rfl rfl hl.1 rfl (lv_room (Nat.le_of_ble_eq_true rfl)) dL_addPlough_2 ⟨Nat.le_of_ble_eq_true rfl, Nat.le_of_ble_eq_true rfl⟩) hP hD hS hA [0] rfl (fun _ => rfl) rfl (fun E ce q v H locs hw hP hD hS hc hcv hcl => ?_) (fun r v H locs hw hP hD hS => ?_)
  · have hP : va_P g.1 vwCl (List.flatten [kDW g a ra v]) H := hP
    have hD : va_D A (List.flatten [kDW g a ra v]) := hD
    rcases hw with ⟨rfl, hw⟩ | ⟨rfl, hw⟩
    · refine vx_catch (own := RL) (name := "java/lang/IndexOutOfBoundsException") hown (tableOf []) ⟨0, 5, 6, 15⟩ (tableOf [(0, 5, 10, 21)]) (hT.trans rfl) (fun z hz => absurd hz List.not_mem_nil) (by decide) (by decide) (hts _ (lwM tw96)) (hX.cast (E := "java/lang/IndexOutOfBoundsException") (by decide)) hc hcv hcl ?_
      refine lv_astore_n (lv' := (2, .ref q) :: [(0, .ref (a 0 0)), (1, .int x1)]) hx hb dL_addPlough_6 rfl hl (by decide) rfl (fun ls hl => ?_)
      refine lv_ldc (v := (-900001)) hx hb hown (hts _ (lwM tw97)) dL_addPlough_7 ?_
      subst hQ
      refine W.widen (k := 1) (n := 6) (Nat.le_of_ble_eq_true rfl) (Nat.le_of_ble_eq_true rfl) ?_
      exact W.iret hx hb hr (gRi1 (c1 := v) (wf := fun v => [kDW g a ra v]) hA0 hsz hw hP hD hS) hS.2.2 dL_addPlough_9
    · refine vx_catch (own := RL) (name := "java/lang/IllegalStateException") hown (tableOf [(0, 5, 6, 15)]) ⟨0, 5, 10, 21⟩ (tableOf []) (hT.trans rfl) (List.forall_mem_cons.mpr ⟨Or.inr ⟨by decide, "java/lang/IndexOutOfBoundsException", hts _ (lwM tw96), hX.2.2.2 "java/lang/IllegalStateException" (by decide) "java/lang/IndexOutOfBoundsException" (by decide) (by decide)⟩, (fun z hz => absurd hz List.not_mem_nil)⟩) (by decide) (by decide) (hts _ (lwM tw100)) (hX.cast (E := "java/lang/IllegalStateException") (by decide)) hc hcv hcl ?_
      refine lv_astore_n (lv' := (2, .ref q) :: [(0, .ref (a 0 0)), (1, .int x1)]) hx hb dL_addPlough_10 rfl hl (by decide) rfl (fun ls hl => ?_)
      refine lv_ldc (v := (-900002)) hx hb hown (hts _ (lwM tw99)) dL_addPlough_11 ?_
      subst hQ
      refine W.widen (k := 1) (n := 6) (Nat.le_of_ble_eq_true rfl) (Nat.le_of_ble_eq_true rfl) ?_
      exact W.iret hx hb hr (gRi1 (c1 := v) (wf := fun v => [kDW g a ra v]) hA0 hsz hw hP hD hS) hS.2.2 dL_addPlough_13
  · have hP : va_P g.1 vwCl (List.flatten [kDW g a ra v]) H := hP
    have hD : va_D A (List.flatten [kDW g a ra v]) := hD
    subst hQ
    refine W.widen (k := 1) (n := 6) (Nat.le_of_ble_eq_true rfl) (Nat.le_of_ble_eq_true rfl) ?_
    exact W.iret hx hb hr (gRi1 (c1 := v) (wf := fun v => [kDW g a ra v]) hA0 hsz hw hP hD hS) hS.2.2 dL_addPlough_5
abbrev rmL_order : Room := { frames := 7, cells := 1, slots := 6, locals := 347 }
set_option maxHeartbeats 4000000 in
set_option maxRecDepth 100000 in
theorem ctL_order (l : Launch) (hl0 : l.stackTraces = false) (g : GG) (t : GT) (a ra : Nat → Nat → Nat) (sz : Nat) (V : DV) (x1 : Int32) (x2 : Int32) {post : Int32 → DV → Prop} (hw : wpL_order x1 x2 V post) :
    Met l yL_order wsB_L_order rmL_order (gPX g t sz (List.flatten [kDW g a ra V]) [.ref (a 0 0), .int x1, .int x2]) (va_Qi post (fun v => gB g (List.flatten [kDW g a ra V]) sz (List.flatten [kDW g a ra v])) (va_A (List.flatten [kDW g a ra V]) sz)) 1 6 (va_A (List.flatten [kDW g a ra V]) sz) := by
  refine gOfXW (cc := cL_order) (maxL := 4) (ret := (some .int)) (hh := [(0, 6, 7, 15), (0, 6, 11, 21)]) (by decide) rfl (Nat.le_of_ble_eq_true rfl) ?_
  intro p e s m below meth c ls Q A hQ hx hb hr hml hts hown hlocks hE hA0 hsz hP hD hA hS hl hX hT
  have hl : lv_has ls 4 [(0, .ref (a 0 0)), (1, .int x1), (2, .int x2)] := hl
  refine lv_aload_n hx hb dL_order_0 rfl (lv_at hl 0 rfl) ?_
  refine lv_iload_n hx hb dL_order_1 rfl (lv_at hl 1 rfl) ?_
  refine lv_iload_n hx hb dL_order_2 rfl (lv_at hl 2 rfl) ?_
  refine gXi1 (bs := [kDW g a ra V]) (wf := fun v => [kDW g a ra v]) (gRunVT (As := [.int x1, .int x2]) (rest := []) ⟨hx, hb, hml, hown, hts⟩ (ctP_order l hl0 g t a ra _ V x1 x2 hw) (cwV 2 hts (goodF gV_X6_order) rfl rfl rfl (by decide +kernel) ⟨Nat.le_of_ble_eq_true rfl, Nat.le_of_ble_eq_true rfl⟩) hE hX hS (gFree (bs := [kDW g a ra V]) hD hS hA [0]) (gSub (bs := [kDW g a ra V]) hP [0]) (gDSub (bs := [kDW g a ra V]) hD [0] rfl) 0 10 rfl rfl rfl rfl rfl hl.1 rfl (lv_room (Nat.le_of_ble_eq_true rfl)) dL_order_3 ⟨Nat.le_of_ble_eq_true rfl, Nat.le_of_ble_eq_true rfl⟩) hP hD hS hA [0] rfl (fun _ => rfl) rfl (fun E ce q v H locs hw hP hD hS hc hcv hcl => ?_) (fun r v H locs hw hP hD hS => ?_)
  · have hP : va_P g.1 vwCl (List.flatten [kDW g a ra v]) H := hP
    have hD : va_D A (List.flatten [kDW g a ra v]) := hD
    rcases hw with ⟨rfl, hw⟩ | ⟨rfl, hw⟩
    · refine vx_catch (own := RL) (name := "java/lang/IndexOutOfBoundsException") hown (tableOf []) ⟨0, 6, 7, 15⟩ (tableOf [(0, 6, 11, 21)]) (hT.trans rfl) (fun z hz => absurd hz List.not_mem_nil) (by decide) (by decide) (hts _ (lwM tw96)) (hX.cast (E := "java/lang/IndexOutOfBoundsException") (by decide)) hc hcv hcl ?_
      refine lv_astore_n (lv' := (3, .ref q) :: [(0, .ref (a 0 0)), (1, .int x1), (2, .int x2)]) hx hb dL_order_7 rfl hl (by decide) rfl (fun ls hl => ?_)
      refine lv_ldc (v := (-900001)) hx hb hown (hts _ (lwM tw97)) dL_order_8 ?_
      subst hQ
      refine W.widen (k := 1) (n := 6) (Nat.le_of_ble_eq_true rfl) (Nat.le_of_ble_eq_true rfl) ?_
      exact W.iret hx hb hr (gRi1 (c1 := v) (wf := fun v => [kDW g a ra v]) hA0 hsz hw hP hD hS) hS.2.2 dL_order_10
    · refine vx_catch (own := RL) (name := "java/lang/IllegalStateException") hown (tableOf [(0, 6, 7, 15)]) ⟨0, 6, 11, 21⟩ (tableOf []) (hT.trans rfl) (List.forall_mem_cons.mpr ⟨Or.inr ⟨by decide, "java/lang/IndexOutOfBoundsException", hts _ (lwM tw96), hX.2.2.2 "java/lang/IllegalStateException" (by decide) "java/lang/IndexOutOfBoundsException" (by decide) (by decide)⟩, (fun z hz => absurd hz List.not_mem_nil)⟩) (by decide) (by decide) (hts _ (lwM tw100)) (hX.cast (E := "java/lang/IllegalStateException") (by decide)) hc hcv hcl ?_
      refine lv_astore_n (lv' := (3, .ref q) :: [(0, .ref (a 0 0)), (1, .int x1), (2, .int x2)]) hx hb dL_order_11 rfl hl (by decide) rfl (fun ls hl => ?_)
      refine lv_ldc (v := (-900002)) hx hb hown (hts _ (lwM tw99)) dL_order_12 ?_
      subst hQ
      refine W.widen (k := 1) (n := 6) (Nat.le_of_ble_eq_true rfl) (Nat.le_of_ble_eq_true rfl) ?_
      exact W.iret hx hb hr (gRi1 (c1 := v) (wf := fun v => [kDW g a ra v]) hA0 hsz hw hP hD hS) hS.2.2 dL_order_14
  · have hP : va_P g.1 vwCl (List.flatten [kDW g a ra v]) H := hP
    have hD : va_D A (List.flatten [kDW g a ra v]) := hD
    subst hQ
    refine W.widen (k := 1) (n := 6) (Nat.le_of_ble_eq_true rfl) (Nat.le_of_ble_eq_true rfl) ?_
    exact W.iret hx hb hr (gRi1 (c1 := v) (wf := fun v => [kDW g a ra v]) hA0 hsz hw hP hD hS) hS.2.2 dL_order_6
abbrev rmL_cancelOrder : Room := { frames := 7, cells := 1, slots := 6, locals := 346 }
set_option maxHeartbeats 4000000 in
set_option maxRecDepth 100000 in
theorem ctL_cancelOrder (l : Launch) (hl0 : l.stackTraces = false) (g : GG) (t : GT) (a ra : Nat → Nat → Nat) (sz : Nat) (V : DV) (x1 : Int32) {post : Int32 → DV → Prop} (hw : wpL_cancelOrder x1 V post) :
    Met l yL_cancelOrder wsB_L_cancelOrder rmL_cancelOrder (gPX g t sz (List.flatten [kDW g a ra V]) [.ref (a 0 0), .int x1]) (va_Qi post (fun v => gB g (List.flatten [kDW g a ra V]) sz (List.flatten [kDW g a ra v])) (va_A (List.flatten [kDW g a ra V]) sz)) 1 6 (va_A (List.flatten [kDW g a ra V]) sz) := by
  refine gOfXW (cc := cL_cancelOrder) (maxL := 3) (ret := (some .int)) (hh := [(0, 5, 6, 15), (0, 5, 10, 35)]) (by decide) rfl (Nat.le_of_ble_eq_true rfl) ?_
  intro p e s m below meth c ls Q A hQ hx hb hr hml hts hown hlocks hE hA0 hsz hP hD hA hS hl hX hT
  have hl : lv_has ls 3 [(0, .ref (a 0 0)), (1, .int x1)] := hl
  refine lv_aload_n hx hb dL_cancelOrder_0 rfl (lv_at hl 0 rfl) ?_
  refine lv_iload_n hx hb dL_cancelOrder_1 rfl (lv_at hl 1 rfl) ?_
  refine gXi1 (bs := [kDW g a ra V]) (wf := fun v => [kDW g a ra v]) (gRunVT (As := [.int x1]) (rest := []) ⟨hx, hb, hml, hown, hts⟩ (ctP_cancelOrder l hl0 g t a ra _ V x1 hw) (cwV 1 hts (goodF gV_X6_cancelOrder) rfl rfl rfl (by decide +kernel) ⟨Nat.le_of_ble_eq_true rfl, Nat.le_of_ble_eq_true rfl⟩) hE hX hS (gFree (bs := [kDW g a ra V]) hD hS hA [0]) (gSub (bs := [kDW g a ra V]) hP [0]) (gDSub (bs := [kDW g a ra V]) hD [0] rfl) 0 10 rfl rfl rfl rfl rfl hl.1 rfl (lv_room (Nat.le_of_ble_eq_true rfl)) dL_cancelOrder_2 ⟨Nat.le_of_ble_eq_true rfl, Nat.le_of_ble_eq_true rfl⟩) hP hD hS hA [0] rfl (fun _ => rfl) rfl (fun E ce q v H locs hw hP hD hS hc hcv hcl => ?_) (fun r v H locs hw hP hD hS => ?_)
  · have hP : va_P g.1 vwCl (List.flatten [kDW g a ra v]) H := hP
    have hD : va_D A (List.flatten [kDW g a ra v]) := hD
    rcases hw with ⟨rfl, hw⟩ | ⟨rfl, hw⟩
    · refine vx_catch (own := RL) (name := "java/lang/IndexOutOfBoundsException") hown (tableOf []) ⟨0, 5, 6, 15⟩ (tableOf [(0, 5, 10, 35)]) (hT.trans rfl) (fun z hz => absurd hz List.not_mem_nil) (by decide) (by decide) (hts _ (lwM tw96)) (hX.cast (E := "java/lang/IndexOutOfBoundsException") (by decide)) hc hcv hcl ?_
      refine lv_astore_n (lv' := (2, .ref q) :: [(0, .ref (a 0 0)), (1, .int x1)]) hx hb dL_cancelOrder_6 rfl hl (by decide) rfl (fun ls hl => ?_)
      refine lv_ldc (v := (-900001)) hx hb hown (hts _ (lwM tw97)) dL_cancelOrder_7 ?_
      subst hQ
      refine W.widen (k := 1) (n := 6) (Nat.le_of_ble_eq_true rfl) (Nat.le_of_ble_eq_true rfl) ?_
      exact W.iret hx hb hr (gRi1 (c1 := v) (wf := fun v => [kDW g a ra v]) hA0 hsz hw hP hD hS) hS.2.2 dL_cancelOrder_9
    · refine vx_catch (own := RL) (name := "java/util/NoSuchElementException") hown (tableOf [(0, 5, 6, 15)]) ⟨0, 5, 10, 35⟩ (tableOf []) (hT.trans rfl) (List.forall_mem_cons.mpr ⟨Or.inr ⟨by decide, "java/lang/IndexOutOfBoundsException", hts _ (lwM tw96), hX.2.2.2 "java/util/NoSuchElementException" (by decide) "java/lang/IndexOutOfBoundsException" (by decide) (by decide)⟩, (fun z hz => absurd hz List.not_mem_nil)⟩) (by decide) (by decide) (hts _ (lwM tw152)) (hX.cast (E := "java/util/NoSuchElementException") (by decide)) hc hcv hcl ?_
      refine lv_astore_n (lv' := (2, .ref q) :: [(0, .ref (a 0 0)), (1, .int x1)]) hx hb dL_cancelOrder_10 rfl hl (by decide) rfl (fun ls hl => ?_)
      refine lv_ldc (v := (-900002)) hx hb hown (hts _ (lwM tw99)) dL_cancelOrder_11 ?_
      subst hQ
      refine W.widen (k := 1) (n := 6) (Nat.le_of_ble_eq_true rfl) (Nat.le_of_ble_eq_true rfl) ?_
      exact W.iret hx hb hr (gRi1 (c1 := v) (wf := fun v => [kDW g a ra v]) hA0 hsz hw hP hD hS) hS.2.2 dL_cancelOrder_13
  · have hP : va_P g.1 vwCl (List.flatten [kDW g a ra v]) H := hP
    have hD : va_D A (List.flatten [kDW g a ra v]) := hD
    subst hQ
    refine W.widen (k := 1) (n := 6) (Nat.le_of_ble_eq_true rfl) (Nat.le_of_ble_eq_true rfl) ?_
    exact W.iret hx hb hr (gRi1 (c1 := v) (wf := fun v => [kDW g a ra v]) hA0 hsz hw hP hD hS) hS.2.2 dL_cancelOrder_5
abbrev rmL_salt : Room := { frames := 7, cells := 1, slots := 6, locals := 346 }
set_option maxHeartbeats 4000000 in
set_option maxRecDepth 100000 in
theorem ctL_salt (l : Launch) (hl0 : l.stackTraces = false) (g : GG) (t : GT) (a ra : Nat → Nat → Nat) (sz : Nat) (V : DV) (x1 : Int32) {post : Int32 → DV → Prop} (hw : wpL_salt x1 V post) :
    Met l yL_salt wsB_L_salt rmL_salt (gPX g t sz (List.flatten [kDW g a ra V]) [.ref (a 0 0), .int x1]) (va_Qi post (fun v => gB g (List.flatten [kDW g a ra V]) sz (List.flatten [kDW g a ra v])) (va_A (List.flatten [kDW g a ra V]) sz)) 1 6 (va_A (List.flatten [kDW g a ra V]) sz) := by
  refine gOfXW (cc := cL_salt) (maxL := 3) (ret := (some .int)) (hh := [(0, 5, 6, 15), (0, 5, 10, 40), (0, 5, 14, 21)]) (by decide) rfl (Nat.le_of_ble_eq_true rfl) ?_
  intro p e s m below meth c ls Q A hQ hx hb hr hml hts hown hlocks hE hA0 hsz hP hD hA hS hl hX hT
  have hl : lv_has ls 3 [(0, .ref (a 0 0)), (1, .int x1)] := hl
  refine lv_aload_n hx hb dL_salt_0 rfl (lv_at hl 0 rfl) ?_
  refine lv_iload_n hx hb dL_salt_1 rfl (lv_at hl 1 rfl) ?_
  refine gXi1 (bs := [kDW g a ra V]) (wf := fun v => [kDW g a ra v]) (gRunVT (As := [.int x1]) (rest := []) ⟨hx, hb, hml, hown, hts⟩ (ctP_salt l hl0 g t a ra _ V x1 hw) (cwV 1 hts (goodF gV_X6_salt) rfl rfl rfl (by decide +kernel) ⟨Nat.le_of_ble_eq_true rfl, Nat.le_of_ble_eq_true rfl⟩) hE hX hS (gFree (bs := [kDW g a ra V]) hD hS hA [0]) (gSub (bs := [kDW g a ra V]) hP [0]) (gDSub (bs := [kDW g a ra V]) hD [0] rfl) 0 10 rfl rfl rfl rfl rfl hl.1 rfl (lv_room (Nat.le_of_ble_eq_true rfl)) dL_salt_2 ⟨Nat.le_of_ble_eq_true rfl, Nat.le_of_ble_eq_true rfl⟩) hP hD hS hA [0] rfl (fun _ => rfl) rfl (fun E ce q v H locs hw hP hD hS hc hcv hcl => ?_) (fun r v H locs hw hP hD hS => ?_)
  · have hP : va_P g.1 vwCl (List.flatten [kDW g a ra v]) H := hP
    have hD : va_D A (List.flatten [kDW g a ra v]) := hD
    rcases hw with ⟨rfl, hw⟩ | ⟨rfl, hw⟩ | ⟨rfl, hw⟩
    · refine vx_catch (own := RL) (name := "java/lang/IndexOutOfBoundsException") hown (tableOf []) ⟨0, 5, 6, 15⟩ (tableOf [(0, 5, 10, 40), (0, 5, 14, 21)]) (hT.trans rfl) (fun z hz => absurd hz List.not_mem_nil) (by decide) (by decide) (hts _ (lwM tw96)) (hX.cast (E := "java/lang/IndexOutOfBoundsException") (by decide)) hc hcv hcl ?_
      refine lv_astore_n (lv' := (2, .ref q) :: [(0, .ref (a 0 0)), (1, .int x1)]) hx hb dL_salt_6 rfl hl (by decide) rfl (fun ls hl => ?_)
      refine lv_ldc (v := (-900001)) hx hb hown (hts _ (lwM tw97)) dL_salt_7 ?_
      subst hQ
      refine W.widen (k := 1) (n := 6) (Nat.le_of_ble_eq_true rfl) (Nat.le_of_ble_eq_true rfl) ?_
      exact W.iret hx hb hr (gRi1 (c1 := v) (wf := fun v => [kDW g a ra v]) hA0 hsz hw hP hD hS) hS.2.2 dL_salt_9
    · refine vx_catch (own := RL) (name := "java/lang/UnsupportedOperationException") hown (tableOf [(0, 5, 6, 15)]) ⟨0, 5, 10, 40⟩ (tableOf [(0, 5, 14, 21)]) (hT.trans rfl) (List.forall_mem_cons.mpr ⟨Or.inr ⟨by decide, "java/lang/IndexOutOfBoundsException", hts _ (lwM tw96), hX.2.2.2 "java/lang/UnsupportedOperationException" (by decide) "java/lang/IndexOutOfBoundsException" (by decide) (by decide)⟩, (fun z hz => absurd hz List.not_mem_nil)⟩) (by decide) (by decide) (hts _ (lwM tw170)) (hX.cast (E := "java/lang/UnsupportedOperationException") (by decide)) hc hcv hcl ?_
      refine lv_astore_n (lv' := (2, .ref q) :: [(0, .ref (a 0 0)), (1, .int x1)]) hx hb dL_salt_10 rfl hl (by decide) rfl (fun ls hl => ?_)
      refine lv_ldc (v := (-900002)) hx hb hown (hts _ (lwM tw99)) dL_salt_11 ?_
      subst hQ
      refine W.widen (k := 1) (n := 6) (Nat.le_of_ble_eq_true rfl) (Nat.le_of_ble_eq_true rfl) ?_
      exact W.iret hx hb hr (gRi1 (c1 := v) (wf := fun v => [kDW g a ra v]) hA0 hsz hw hP hD hS) hS.2.2 dL_salt_13
    · refine vx_catch (own := RL) (name := "java/lang/IllegalStateException") hown (tableOf [(0, 5, 6, 15), (0, 5, 10, 40)]) ⟨0, 5, 14, 21⟩ (tableOf []) (hT.trans rfl) (List.forall_mem_cons.mpr ⟨Or.inr ⟨by decide, "java/lang/IndexOutOfBoundsException", hts _ (lwM tw96), hX.2.2.2 "java/lang/IllegalStateException" (by decide) "java/lang/IndexOutOfBoundsException" (by decide) (by decide)⟩, (List.forall_mem_cons.mpr ⟨Or.inr ⟨by decide, "java/lang/UnsupportedOperationException", hts _ (lwM tw170), hX.2.2.2 "java/lang/IllegalStateException" (by decide) "java/lang/UnsupportedOperationException" (by decide) (by decide)⟩, (fun z hz => absurd hz List.not_mem_nil)⟩)⟩) (by decide) (by decide) (hts _ (lwM tw100)) (hX.cast (E := "java/lang/IllegalStateException") (by decide)) hc hcv hcl ?_
      refine lv_astore_n (lv' := (2, .ref q) :: [(0, .ref (a 0 0)), (1, .int x1)]) hx hb dL_salt_14 rfl hl (by decide) rfl (fun ls hl => ?_)
      refine lv_ldc (v := (-900003)) hx hb hown (hts _ (lwM tw101)) dL_salt_15 ?_
      subst hQ
      refine W.widen (k := 1) (n := 6) (Nat.le_of_ble_eq_true rfl) (Nat.le_of_ble_eq_true rfl) ?_
      exact W.iret hx hb hr (gRi1 (c1 := v) (wf := fun v => [kDW g a ra v]) hA0 hsz hw hP hD hS) hS.2.2 dL_salt_17
  · have hP : va_P g.1 vwCl (List.flatten [kDW g a ra v]) H := hP
    have hD : va_D A (List.flatten [kDW g a ra v]) := hD
    subst hQ
    refine W.widen (k := 1) (n := 6) (Nat.le_of_ble_eq_true rfl) (Nat.le_of_ble_eq_true rfl) ?_
    exact W.iret hx hb hr (gRi1 (c1 := v) (wf := fun v => [kDW g a ra v]) hA0 hsz hw hP hD hS) hS.2.2 dL_salt_5
abbrev rmL_loadSalt : Room := { frames := 7, cells := 1, slots := 6, locals := 346 }
set_option maxHeartbeats 4000000 in
set_option maxRecDepth 100000 in
theorem ctL_loadSalt (l : Launch) (hl0 : l.stackTraces = false) (g : GG) (t : GT) (a ra : Nat → Nat → Nat) (sz : Nat) (V : DV) (x1 : Int32) {post : Int32 → DV → Prop} (hw : wpL_loadSalt x1 V post) :
    Met l yL_loadSalt wsB_L_loadSalt rmL_loadSalt (gPX g t sz (List.flatten [kDW g a ra V]) [.ref (a 0 0), .int x1]) (va_Qi post (fun v => gB g (List.flatten [kDW g a ra V]) sz (List.flatten [kDW g a ra v])) (va_A (List.flatten [kDW g a ra V]) sz)) 1 6 (va_A (List.flatten [kDW g a ra V]) sz) := by
  refine gOfXW (cc := cL_loadSalt) (maxL := 3) (ret := (some .int)) (hh := [(0, 5, 6, 18), (0, 5, 10, 40)]) (by decide) rfl (Nat.le_of_ble_eq_true rfl) ?_
  intro p e s m below meth c ls Q A hQ hx hb hr hml hts hown hlocks hE hA0 hsz hP hD hA hS hl hX hT
  have hl : lv_has ls 3 [(0, .ref (a 0 0)), (1, .int x1)] := hl
  refine lv_aload_n hx hb dL_loadSalt_0 rfl (lv_at hl 0 rfl) ?_
  refine lv_iload_n hx hb dL_loadSalt_1 rfl (lv_at hl 1 rfl) ?_
  refine gXi1 (bs := [kDW g a ra V]) (wf := fun v => [kDW g a ra v]) (gRunVT (As := [.int x1]) (rest := []) ⟨hx, hb, hml, hown, hts⟩ (ctP_loadSalt l hl0 g t a ra _ V x1 hw) (cwV 1 hts (goodF gV_X6_loadSalt) rfl rfl rfl (by decide +kernel) ⟨Nat.le_of_ble_eq_true rfl, Nat.le_of_ble_eq_true rfl⟩) hE hX hS (gFree (bs := [kDW g a ra V]) hD hS hA [0]) (gSub (bs := [kDW g a ra V]) hP [0]) (gDSub (bs := [kDW g a ra V]) hD [0] rfl) 0 10 rfl rfl rfl rfl rfl hl.1 rfl (lv_room (Nat.le_of_ble_eq_true rfl)) dL_loadSalt_2 ⟨Nat.le_of_ble_eq_true rfl, Nat.le_of_ble_eq_true rfl⟩) hP hD hS hA [0] rfl (fun _ => rfl) rfl (fun E ce q v H locs hw hP hD hS hc hcv hcl => ?_) (fun r v H locs hw hP hD hS => ?_)
  · have hP : va_P g.1 vwCl (List.flatten [kDW g a ra v]) H := hP
    have hD : va_D A (List.flatten [kDW g a ra v]) := hD
    rcases hw with ⟨rfl, hw⟩ | ⟨rfl, hw⟩
    · refine vx_catch (own := RL) (name := "java/lang/IllegalArgumentException") hown (tableOf []) ⟨0, 5, 6, 18⟩ (tableOf [(0, 5, 10, 40)]) (hT.trans rfl) (fun z hz => absurd hz List.not_mem_nil) (by decide) (by decide) (hts _ (lwM tw98)) (hX.cast (E := "java/lang/IllegalArgumentException") (by decide)) hc hcv hcl ?_
      refine lv_astore_n (lv' := (2, .ref q) :: [(0, .ref (a 0 0)), (1, .int x1)]) hx hb dL_loadSalt_6 rfl hl (by decide) rfl (fun ls hl => ?_)
      refine lv_ldc (v := (-900001)) hx hb hown (hts _ (lwM tw97)) dL_loadSalt_7 ?_
      subst hQ
      refine W.widen (k := 1) (n := 6) (Nat.le_of_ble_eq_true rfl) (Nat.le_of_ble_eq_true rfl) ?_
      exact W.iret hx hb hr (gRi1 (c1 := v) (wf := fun v => [kDW g a ra v]) hA0 hsz hw hP hD hS) hS.2.2 dL_loadSalt_9
    · refine vx_catch (own := RL) (name := "java/lang/UnsupportedOperationException") hown (tableOf [(0, 5, 6, 18)]) ⟨0, 5, 10, 40⟩ (tableOf []) (hT.trans rfl) (List.forall_mem_cons.mpr ⟨Or.inr ⟨by decide, "java/lang/IllegalArgumentException", hts _ (lwM tw98), hX.2.2.2 "java/lang/UnsupportedOperationException" (by decide) "java/lang/IllegalArgumentException" (by decide) (by decide)⟩, (fun z hz => absurd hz List.not_mem_nil)⟩) (by decide) (by decide) (hts _ (lwM tw170)) (hX.cast (E := "java/lang/UnsupportedOperationException") (by decide)) hc hcv hcl ?_
      refine lv_astore_n (lv' := (2, .ref q) :: [(0, .ref (a 0 0)), (1, .int x1)]) hx hb dL_loadSalt_10 rfl hl (by decide) rfl (fun ls hl => ?_)
      refine lv_ldc (v := (-900002)) hx hb hown (hts _ (lwM tw99)) dL_loadSalt_11 ?_
      subst hQ
      refine W.widen (k := 1) (n := 6) (Nat.le_of_ble_eq_true rfl) (Nat.le_of_ble_eq_true rfl) ?_
      exact W.iret hx hb hr (gRi1 (c1 := v) (wf := fun v => [kDW g a ra v]) hA0 hsz hw hP hD hS) hS.2.2 dL_loadSalt_13
  · have hP : va_P g.1 vwCl (List.flatten [kDW g a ra v]) H := hP
    have hD : va_D A (List.flatten [kDW g a ra v]) := hD
    subst hQ
    refine W.widen (k := 1) (n := 6) (Nat.le_of_ble_eq_true rfl) (Nat.le_of_ble_eq_true rfl) ?_
    exact W.iret hx hb hr (gRi1 (c1 := v) (wf := fun v => [kDW g a ra v]) hA0 hsz hw hP hD hS) hS.2.2 dL_loadSalt_5
abbrev rmL_setSnowfall : Room := { frames := 7, cells := 1, slots := 6, locals := 346 }
set_option maxHeartbeats 4000000 in
set_option maxRecDepth 100000 in
theorem ctL_setSnowfall (l : Launch) (hl0 : l.stackTraces = false) (g : GG) (t : GT) (a ra : Nat → Nat → Nat) (sz : Nat) (V : DV) (x1 : Int32) {post : Int32 → DV → Prop} (hw : wpL_setSnowfall x1 V post) :
    Met l yL_setSnowfall wsB_L_setSnowfall rmL_setSnowfall (gPX g t sz (List.flatten [kDW g a ra V]) [.ref (a 0 0), .int x1]) (va_Qi post (fun v => gB g (List.flatten [kDW g a ra V]) sz (List.flatten [kDW g a ra v])) (va_A (List.flatten [kDW g a ra V]) sz)) 1 6 (va_A (List.flatten [kDW g a ra V]) sz) := by
  refine gOfXW (cc := cL_setSnowfall) (maxL := 3) (ret := (some .int)) (hh := [(0, 5, 6, 18)]) (by decide) rfl (Nat.le_of_ble_eq_true rfl) ?_
  intro p e s m below meth c ls Q A hQ hx hb hr hml hts hown hlocks hE hA0 hsz hP hD hA hS hl hX hT
  have hl : lv_has ls 3 [(0, .ref (a 0 0)), (1, .int x1)] := hl
  refine lv_aload_n hx hb dL_setSnowfall_0 rfl (lv_at hl 0 rfl) ?_
  refine lv_iload_n hx hb dL_setSnowfall_1 rfl (lv_at hl 1 rfl) ?_
  refine gXi1 (bs := [kDW g a ra V]) (wf := fun v => [kDW g a ra v]) (gRunVT (As := [.int x1]) (rest := []) ⟨hx, hb, hml, hown, hts⟩ (ctP_setSnowfall l hl0 g t a ra _ V x1 hw) (cwV 1 hts (goodF gV_X6_setSnowfall) rfl rfl rfl (by decide +kernel) ⟨Nat.le_of_ble_eq_true rfl, Nat.le_of_ble_eq_true rfl⟩) hE hX hS (gFree (bs := [kDW g a ra V]) hD hS hA [0]) (gSub (bs := [kDW g a ra V]) hP [0]) (gDSub (bs := [kDW g a ra V]) hD [0] rfl) 0 10 rfl rfl rfl rfl rfl hl.1 rfl (lv_room (Nat.le_of_ble_eq_true rfl)) dL_setSnowfall_2 ⟨Nat.le_of_ble_eq_true rfl, Nat.le_of_ble_eq_true rfl⟩) hP hD hS hA [0] rfl (fun _ => rfl) rfl (fun E ce q v H locs hw hP hD hS hc hcv hcl => ?_) (fun r v H locs hw hP hD hS => ?_)
  · have hP : va_P g.1 vwCl (List.flatten [kDW g a ra v]) H := hP
    have hD : va_D A (List.flatten [kDW g a ra v]) := hD
    obtain ⟨rfl, hw⟩ := hw
    refine vx_catch (own := RL) (name := "java/lang/IllegalArgumentException") hown (tableOf []) ⟨0, 5, 6, 18⟩ (tableOf []) (hT.trans rfl) (fun z hz => absurd hz List.not_mem_nil) (by decide) (by decide) (hts _ (lwM tw98)) (hX.cast (E := "java/lang/IllegalArgumentException") (by decide)) hc hcv hcl ?_
    refine lv_astore_n (lv' := (2, .ref q) :: [(0, .ref (a 0 0)), (1, .int x1)]) hx hb dL_setSnowfall_6 rfl hl (by decide) rfl (fun ls hl => ?_)
    refine lv_ldc (v := (-900001)) hx hb hown (hts _ (lwM tw97)) dL_setSnowfall_7 ?_
    subst hQ
    refine W.widen (k := 1) (n := 6) (Nat.le_of_ble_eq_true rfl) (Nat.le_of_ble_eq_true rfl) ?_
    exact W.iret hx hb hr (gRi1 (c1 := v) (wf := fun v => [kDW g a ra v]) hA0 hsz hw hP hD hS) hS.2.2 dL_setSnowfall_9
  · have hP : va_P g.1 vwCl (List.flatten [kDW g a ra v]) H := hP
    have hD : va_D A (List.flatten [kDW g a ra v]) := hD
    subst hQ
    refine W.widen (k := 1) (n := 6) (Nat.le_of_ble_eq_true rfl) (Nat.le_of_ble_eq_true rfl) ?_
    exact W.iret hx hb hr (gRi1 (c1 := v) (wf := fun v => [kDW g a ra v]) hA0 hsz hw hP hD hS) hS.2.2 dL_setSnowfall_5
abbrev rmL_setWind : Room := { frames := 7, cells := 1, slots := 6, locals := 346 }
set_option maxHeartbeats 4000000 in
set_option maxRecDepth 100000 in
theorem ctL_setWind (l : Launch) (hl0 : l.stackTraces = false) (g : GG) (t : GT) (a ra : Nat → Nat → Nat) (sz : Nat) (V : DV) (x1 : Int32) {post : Int32 → DV → Prop} (hw : wpL_setWind x1 V post) :
    Met l yL_setWind wsB_L_setWind rmL_setWind (gPX g t sz (List.flatten [kDW g a ra V]) [.ref (a 0 0), .int x1]) (va_Qi post (fun v => gB g (List.flatten [kDW g a ra V]) sz (List.flatten [kDW g a ra v])) (va_A (List.flatten [kDW g a ra V]) sz)) 1 6 (va_A (List.flatten [kDW g a ra V]) sz) := by
  refine gOfXW (cc := cL_setWind) (maxL := 3) (ret := (some .int)) (hh := [(0, 5, 6, 18)]) (by decide) rfl (Nat.le_of_ble_eq_true rfl) ?_
  intro p e s m below meth c ls Q A hQ hx hb hr hml hts hown hlocks hE hA0 hsz hP hD hA hS hl hX hT
  have hl : lv_has ls 3 [(0, .ref (a 0 0)), (1, .int x1)] := hl
  refine lv_aload_n hx hb dL_setWind_0 rfl (lv_at hl 0 rfl) ?_
  refine lv_iload_n hx hb dL_setWind_1 rfl (lv_at hl 1 rfl) ?_
  refine gXi1 (bs := [kDW g a ra V]) (wf := fun v => [kDW g a ra v]) (gRunVT (As := [.int x1]) (rest := []) ⟨hx, hb, hml, hown, hts⟩ (ctP_setWind l hl0 g t a ra _ V x1 hw) (cwV 1 hts (goodF gV_X6_setWind) rfl rfl rfl (by decide +kernel) ⟨Nat.le_of_ble_eq_true rfl, Nat.le_of_ble_eq_true rfl⟩) hE hX hS (gFree (bs := [kDW g a ra V]) hD hS hA [0]) (gSub (bs := [kDW g a ra V]) hP [0]) (gDSub (bs := [kDW g a ra V]) hD [0] rfl) 0 10 rfl rfl rfl rfl rfl hl.1 rfl (lv_room (Nat.le_of_ble_eq_true rfl)) dL_setWind_2 ⟨Nat.le_of_ble_eq_true rfl, Nat.le_of_ble_eq_true rfl⟩) hP hD hS hA [0] rfl (fun _ => rfl) rfl (fun E ce q v H locs hw hP hD hS hc hcv hcl => ?_) (fun r v H locs hw hP hD hS => ?_)
  · have hP : va_P g.1 vwCl (List.flatten [kDW g a ra v]) H := hP
    have hD : va_D A (List.flatten [kDW g a ra v]) := hD
    obtain ⟨rfl, hw⟩ := hw
    refine vx_catch (own := RL) (name := "java/lang/IllegalArgumentException") hown (tableOf []) ⟨0, 5, 6, 18⟩ (tableOf []) (hT.trans rfl) (fun z hz => absurd hz List.not_mem_nil) (by decide) (by decide) (hts _ (lwM tw98)) (hX.cast (E := "java/lang/IllegalArgumentException") (by decide)) hc hcv hcl ?_
    refine lv_astore_n (lv' := (2, .ref q) :: [(0, .ref (a 0 0)), (1, .int x1)]) hx hb dL_setWind_6 rfl hl (by decide) rfl (fun ls hl => ?_)
    refine lv_ldc (v := (-900001)) hx hb hown (hts _ (lwM tw97)) dL_setWind_7 ?_
    subst hQ
    refine W.widen (k := 1) (n := 6) (Nat.le_of_ble_eq_true rfl) (Nat.le_of_ble_eq_true rfl) ?_
    exact W.iret hx hb hr (gRi1 (c1 := v) (wf := fun v => [kDW g a ra v]) hA0 hsz hw hP hD hS) hS.2.2 dL_setWind_9
  · have hP : va_P g.1 vwCl (List.flatten [kDW g a ra v]) H := hP
    have hD : va_D A (List.flatten [kDW g a ra v]) := hD
    subst hQ
    refine W.widen (k := 1) (n := 6) (Nat.le_of_ble_eq_true rfl) (Nat.le_of_ble_eq_true rfl) ?_
    exact W.iret hx hb hr (gRi1 (c1 := v) (wf := fun v => [kDW g a ra v]) hA0 hsz hw hP hD hS) hS.2.2 dL_setWind_5
abbrev rmL_advance : Room := { frames := 7, cells := 1, slots := 6, locals := 346 }
set_option maxHeartbeats 4000000 in
set_option maxRecDepth 100000 in
theorem ctL_advance (l : Launch) (hl0 : l.stackTraces = false) (g : GG) (t : GT) (a ra : Nat → Nat → Nat) (sz : Nat) (V : DV) (x1 : Int32) {post : Int32 → DV → Prop} (hw : wpL_advance x1 V post) :
    Met l yL_advance wsB_L_advance rmL_advance (gPX g t sz (List.flatten [kDW g a ra V]) [.ref (a 0 0), .int x1]) (va_Qi post (fun v => gB g (List.flatten [kDW g a ra V]) sz (List.flatten [kDW g a ra v])) (va_A (List.flatten [kDW g a ra V]) sz)) 1 6 (va_A (List.flatten [kDW g a ra V]) sz) := by
  refine gOfXW (cc := cL_advance) (maxL := 3) (ret := (some .int)) (hh := [(0, 5, 6, 18)]) (by decide) rfl (Nat.le_of_ble_eq_true rfl) ?_
  intro p e s m below meth c ls Q A hQ hx hb hr hml hts hown hlocks hE hA0 hsz hP hD hA hS hl hX hT
  have hl : lv_has ls 3 [(0, .ref (a 0 0)), (1, .int x1)] := hl
  refine lv_aload_n hx hb dL_advance_0 rfl (lv_at hl 0 rfl) ?_
  refine lv_iload_n hx hb dL_advance_1 rfl (lv_at hl 1 rfl) ?_
  refine gXi1 (bs := [kDW g a ra V]) (wf := fun v => [kDW g a ra v]) (gRunVT (As := [.int x1]) (rest := []) ⟨hx, hb, hml, hown, hts⟩ (ctP_advance l hl0 g t a ra _ V x1 hw) (cwV 1 hts (goodF gV_X6_advance) rfl rfl rfl (by decide +kernel) ⟨Nat.le_of_ble_eq_true rfl, Nat.le_of_ble_eq_true rfl⟩) hE hX hS (gFree (bs := [kDW g a ra V]) hD hS hA [0]) (gSub (bs := [kDW g a ra V]) hP [0]) (gDSub (bs := [kDW g a ra V]) hD [0] rfl) 0 10 rfl rfl rfl rfl rfl hl.1 rfl (lv_room (Nat.le_of_ble_eq_true rfl)) dL_advance_2 ⟨Nat.le_of_ble_eq_true rfl, Nat.le_of_ble_eq_true rfl⟩) hP hD hS hA [0] rfl (fun _ => rfl) rfl (fun E ce q v H locs hw hP hD hS hc hcv hcl => ?_) (fun r v H locs hw hP hD hS => ?_)
  · have hP : va_P g.1 vwCl (List.flatten [kDW g a ra v]) H := hP
    have hD : va_D A (List.flatten [kDW g a ra v]) := hD
    obtain ⟨rfl, hw⟩ := hw
    refine vx_catch (own := RL) (name := "java/lang/IllegalArgumentException") hown (tableOf []) ⟨0, 5, 6, 18⟩ (tableOf []) (hT.trans rfl) (fun z hz => absurd hz List.not_mem_nil) (by decide) (by decide) (hts _ (lwM tw98)) (hX.cast (E := "java/lang/IllegalArgumentException") (by decide)) hc hcv hcl ?_
    refine lv_astore_n (lv' := (2, .ref q) :: [(0, .ref (a 0 0)), (1, .int x1)]) hx hb dL_advance_6 rfl hl (by decide) rfl (fun ls hl => ?_)
    refine lv_ldc (v := (-900001)) hx hb hown (hts _ (lwM tw97)) dL_advance_7 ?_
    subst hQ
    refine W.widen (k := 1) (n := 6) (Nat.le_of_ble_eq_true rfl) (Nat.le_of_ble_eq_true rfl) ?_
    exact W.iret hx hb hr (gRi1 (c1 := v) (wf := fun v => [kDW g a ra v]) hA0 hsz hw hP hD hS) hS.2.2 dL_advance_9
  · have hP : va_P g.1 vwCl (List.flatten [kDW g a ra v]) H := hP
    have hD : va_D A (List.flatten [kDW g a ra v]) := hD
    subst hQ
    refine W.widen (k := 1) (n := 6) (Nat.le_of_ble_eq_true rfl) (Nat.le_of_ble_eq_true rfl) ?_
    exact W.iret hx hb hr (gRi1 (c1 := v) (wf := fun v => [kDW g a ra v]) hA0 hsz hw hP hD hS) hS.2.2 dL_advance_5
abbrev rmL_saltMinutes : Room := { frames := 7, cells := 1, slots := 6, locals := 168 }
set_option maxHeartbeats 4000000 in
set_option maxRecDepth 100000 in
theorem ctL_saltMinutes (l : Launch) (hl0 : l.stackTraces = false) (g : GG) (t : GT) (a ra : Nat → Nat → Nat) (sz : Nat) (V : DV) (x1 : Int32) {post : Int32 → DV → Prop} (hw : wpL_saltMinutes x1 V post) :
    Met l yL_saltMinutes wsB_L_saltMinutes rmL_saltMinutes (gPX g t sz (List.flatten [kDW g a ra V]) [.ref (a 0 0), .int x1]) (va_Qi post (fun v => gB g (List.flatten [kDW g a ra V]) sz (List.flatten [kDW g a ra v])) (va_A (List.flatten [kDW g a ra V]) sz)) 1 6 (va_A (List.flatten [kDW g a ra V]) sz) := by
  refine gOfXW (cc := cL_saltMinutes) (maxL := 3) (ret := (some .int)) (hh := [(0, 5, 6, 15), (0, 5, 10, 35)]) (by decide) rfl (Nat.le_of_ble_eq_true rfl) ?_
  intro p e s m below meth c ls Q A hQ hx hb hr hml hts hown hlocks hE hA0 hsz hP hD hA hS hl hX hT
  have hl : lv_has ls 3 [(0, .ref (a 0 0)), (1, .int x1)] := hl
  refine lv_aload_n hx hb dL_saltMinutes_0 rfl (lv_at hl 0 rfl) ?_
  refine lv_iload_n hx hb dL_saltMinutes_1 rfl (lv_at hl 1 rfl) ?_
  refine gXi1 (bs := [kDW g a ra V]) (wf := fun v => [kDW g a ra v]) (gRunVT (As := [.int x1]) (rest := []) ⟨hx, hb, hml, hown, hts⟩ (ctP_saltMinutes l hl0 g t a ra _ V x1 hw) (cwV 1 hts (goodF gV_X6_saltMinutes) rfl rfl rfl (by decide +kernel) ⟨Nat.le_of_ble_eq_true rfl, Nat.le_of_ble_eq_true rfl⟩) hE hX hS (gFree (bs := [kDW g a ra V]) hD hS hA [0]) (gSub (bs := [kDW g a ra V]) hP [0]) (gDSub (bs := [kDW g a ra V]) hD [0] rfl) 0 10 rfl rfl rfl rfl rfl hl.1 rfl (lv_room (Nat.le_of_ble_eq_true rfl)) dL_saltMinutes_2 ⟨Nat.le_of_ble_eq_true rfl, Nat.le_of_ble_eq_true rfl⟩) hP hD hS hA [0] rfl (fun _ => rfl) rfl (fun E ce q v H locs hw hP hD hS hc hcv hcl => ?_) (fun r v H locs hw hP hD hS => ?_)
  · have hP : va_P g.1 vwCl (List.flatten [kDW g a ra v]) H := hP
    have hD : va_D A (List.flatten [kDW g a ra v]) := hD
    rcases hw with ⟨rfl, hw⟩ | ⟨rfl, hw⟩
    · refine vx_catch (own := RL) (name := "java/lang/IndexOutOfBoundsException") hown (tableOf []) ⟨0, 5, 6, 15⟩ (tableOf [(0, 5, 10, 35)]) (hT.trans rfl) (fun z hz => absurd hz List.not_mem_nil) (by decide) (by decide) (hts _ (lwM tw96)) (hX.cast (E := "java/lang/IndexOutOfBoundsException") (by decide)) hc hcv hcl ?_
      refine lv_astore_n (lv' := (2, .ref q) :: [(0, .ref (a 0 0)), (1, .int x1)]) hx hb dL_saltMinutes_6 rfl hl (by decide) rfl (fun ls hl => ?_)
      refine lv_ldc (v := (-900001)) hx hb hown (hts _ (lwM tw97)) dL_saltMinutes_7 ?_
      subst hQ
      refine W.widen (k := 1) (n := 6) (Nat.le_of_ble_eq_true rfl) (Nat.le_of_ble_eq_true rfl) ?_
      exact W.iret hx hb hr (gRi1 (c1 := v) (wf := fun v => [kDW g a ra v]) hA0 hsz hw hP hD hS) hS.2.2 dL_saltMinutes_9
    · refine vx_catch (own := RL) (name := "java/util/NoSuchElementException") hown (tableOf [(0, 5, 6, 15)]) ⟨0, 5, 10, 35⟩ (tableOf []) (hT.trans rfl) (List.forall_mem_cons.mpr ⟨Or.inr ⟨by decide, "java/lang/IndexOutOfBoundsException", hts _ (lwM tw96), hX.2.2.2 "java/util/NoSuchElementException" (by decide) "java/lang/IndexOutOfBoundsException" (by decide) (by decide)⟩, (fun z hz => absurd hz List.not_mem_nil)⟩) (by decide) (by decide) (hts _ (lwM tw152)) (hX.cast (E := "java/util/NoSuchElementException") (by decide)) hc hcv hcl ?_
      refine lv_astore_n (lv' := (2, .ref q) :: [(0, .ref (a 0 0)), (1, .int x1)]) hx hb dL_saltMinutes_10 rfl hl (by decide) rfl (fun ls hl => ?_)
      refine lv_ldc (v := (-900002)) hx hb hown (hts _ (lwM tw99)) dL_saltMinutes_11 ?_
      subst hQ
      refine W.widen (k := 1) (n := 6) (Nat.le_of_ble_eq_true rfl) (Nat.le_of_ble_eq_true rfl) ?_
      exact W.iret hx hb hr (gRi1 (c1 := v) (wf := fun v => [kDW g a ra v]) hA0 hsz hw hP hD hS) hS.2.2 dL_saltMinutes_13
  · have hP : va_P g.1 vwCl (List.flatten [kDW g a ra v]) H := hP
    have hD : va_D A (List.flatten [kDW g a ra v]) := hD
    subst hQ
    refine W.widen (k := 1) (n := 6) (Nat.le_of_ble_eq_true rfl) (Nat.le_of_ble_eq_true rfl) ?_
    exact W.iret hx hb hr (gRi1 (c1 := v) (wf := fun v => [kDW g a ra v]) hA0 hsz hw hP hD hS) hS.2.2 dL_saltMinutes_5
abbrev rmL_distance : Room := { frames := 7, cells := 1, slots := 6, locals := 175 }
set_option maxHeartbeats 4000000 in
set_option maxRecDepth 100000 in
theorem ctL_distance (l : Launch) (hl0 : l.stackTraces = false) (g : GG) (t : GT) (a ra : Nat → Nat → Nat) (sz : Nat) (V : DV) (x1 : Int32) (x2 : Int32) {post : Int32 → DV → Prop} (hw : wpL_distance x1 x2 V post) :
    Met l yL_distance wsB_L_distance rmL_distance (gPX g t sz (List.flatten [kDW g a ra V]) [.ref (a 0 0), .int x1, .int x2]) (va_Qi post (fun v => gB g (List.flatten [kDW g a ra V]) sz (List.flatten [kDW g a ra v])) (va_A (List.flatten [kDW g a ra V]) sz)) 1 6 (va_A (List.flatten [kDW g a ra V]) sz) := by
  refine gOfXW (cc := cL_distance) (maxL := 4) (ret := (some .int)) (hh := [(0, 6, 7, 15), (0, 6, 11, 35)]) (by decide) rfl (Nat.le_of_ble_eq_true rfl) ?_
  intro p e s m below meth c ls Q A hQ hx hb hr hml hts hown hlocks hE hA0 hsz hP hD hA hS hl hX hT
  have hl : lv_has ls 4 [(0, .ref (a 0 0)), (1, .int x1), (2, .int x2)] := hl
  refine lv_aload_n hx hb dL_distance_0 rfl (lv_at hl 0 rfl) ?_
  refine lv_iload_n hx hb dL_distance_1 rfl (lv_at hl 1 rfl) ?_
  refine lv_iload_n hx hb dL_distance_2 rfl (lv_at hl 2 rfl) ?_
  refine gXi1 (bs := [kDW g a ra V]) (wf := fun v => [kDW g a ra v]) (gRunVT (As := [.int x1, .int x2]) (rest := []) ⟨hx, hb, hml, hown, hts⟩ (ctP_distance l hl0 g t a ra _ V x1 x2 hw) (cwV 2 hts (goodF gV_X6_distance) rfl rfl rfl (by decide +kernel) ⟨Nat.le_of_ble_eq_true rfl, Nat.le_of_ble_eq_true rfl⟩) hE hX hS (gFree (bs := [kDW g a ra V]) hD hS hA [0]) (gSub (bs := [kDW g a ra V]) hP [0]) (gDSub (bs := [kDW g a ra V]) hD [0] rfl) 0 10 rfl rfl rfl rfl rfl hl.1 rfl (lv_room (Nat.le_of_ble_eq_true rfl)) dL_distance_3 ⟨Nat.le_of_ble_eq_true rfl, Nat.le_of_ble_eq_true rfl⟩) hP hD hS hA [0] rfl (fun _ => rfl) rfl (fun E ce q v H locs hw hP hD hS hc hcv hcl => ?_) (fun r v H locs hw hP hD hS => ?_)
  · have hP : va_P g.1 vwCl (List.flatten [kDW g a ra v]) H := hP
    have hD : va_D A (List.flatten [kDW g a ra v]) := hD
    rcases hw with ⟨rfl, hw⟩ | ⟨rfl, hw⟩
    · refine vx_catch (own := RL) (name := "java/lang/IndexOutOfBoundsException") hown (tableOf []) ⟨0, 6, 7, 15⟩ (tableOf [(0, 6, 11, 35)]) (hT.trans rfl) (fun z hz => absurd hz List.not_mem_nil) (by decide) (by decide) (hts _ (lwM tw96)) (hX.cast (E := "java/lang/IndexOutOfBoundsException") (by decide)) hc hcv hcl ?_
      refine lv_astore_n (lv' := (3, .ref q) :: [(0, .ref (a 0 0)), (1, .int x1), (2, .int x2)]) hx hb dL_distance_7 rfl hl (by decide) rfl (fun ls hl => ?_)
      refine lv_ldc (v := (-900001)) hx hb hown (hts _ (lwM tw97)) dL_distance_8 ?_
      subst hQ
      refine W.widen (k := 1) (n := 6) (Nat.le_of_ble_eq_true rfl) (Nat.le_of_ble_eq_true rfl) ?_
      exact W.iret hx hb hr (gRi1 (c1 := v) (wf := fun v => [kDW g a ra v]) hA0 hsz hw hP hD hS) hS.2.2 dL_distance_10
    · refine vx_catch (own := RL) (name := "java/util/NoSuchElementException") hown (tableOf [(0, 6, 7, 15)]) ⟨0, 6, 11, 35⟩ (tableOf []) (hT.trans rfl) (List.forall_mem_cons.mpr ⟨Or.inr ⟨by decide, "java/lang/IndexOutOfBoundsException", hts _ (lwM tw96), hX.2.2.2 "java/util/NoSuchElementException" (by decide) "java/lang/IndexOutOfBoundsException" (by decide) (by decide)⟩, (fun z hz => absurd hz List.not_mem_nil)⟩) (by decide) (by decide) (hts _ (lwM tw152)) (hX.cast (E := "java/util/NoSuchElementException") (by decide)) hc hcv hcl ?_
      refine lv_astore_n (lv' := (3, .ref q) :: [(0, .ref (a 0 0)), (1, .int x1), (2, .int x2)]) hx hb dL_distance_11 rfl hl (by decide) rfl (fun ls hl => ?_)
      refine lv_ldc (v := (-900002)) hx hb hown (hts _ (lwM tw99)) dL_distance_12 ?_
      subst hQ
      refine W.widen (k := 1) (n := 6) (Nat.le_of_ble_eq_true rfl) (Nat.le_of_ble_eq_true rfl) ?_
      exact W.iret hx hb hr (gRi1 (c1 := v) (wf := fun v => [kDW g a ra v]) hA0 hsz hw hP hD hS) hS.2.2 dL_distance_14
  · have hP : va_P g.1 vwCl (List.flatten [kDW g a ra v]) H := hP
    have hD : va_D A (List.flatten [kDW g a ra v]) := hD
    subst hQ
    refine W.widen (k := 1) (n := 6) (Nat.le_of_ble_eq_true rfl) (Nat.le_of_ble_eq_true rfl) ?_
    exact W.iret hx hb hr (gRi1 (c1 := v) (wf := fun v => [kDW g a ra v]) hA0 hsz hw hP hD hS) hS.2.2 dL_distance_6
abbrev rmL_distanceByJunctions : Room := { frames := 7, cells := 1, slots := 6, locals := 217 }
set_option maxHeartbeats 4000000 in
set_option maxRecDepth 100000 in
theorem ctL_distanceByJunctions (l : Launch) (hl0 : l.stackTraces = false) (g : GG) (t : GT) (a ra : Nat → Nat → Nat) (sz : Nat) (V : DV) (x1 : Int32) (x2 : Int32) {post : Int32 → DV → Prop} (hw : wpL_distanceByJunctions x1 x2 V post) :
    Met l yL_distanceByJunctions wsB_L_distanceByJunctions rmL_distanceByJunctions (gPX g t sz (List.flatten [kDW g a ra V]) [.ref (a 0 0), .int x1, .int x2]) (va_Qi post (fun v => gB g (List.flatten [kDW g a ra V]) sz (List.flatten [kDW g a ra v])) (va_A (List.flatten [kDW g a ra V]) sz)) 1 6 (va_A (List.flatten [kDW g a ra V]) sz) := by
  refine gOfXW (cc := cL_distanceByJunctions) (maxL := 4) (ret := (some .int)) (hh := [(0, 6, 7, 15), (0, 6, 11, 35)]) (by decide) rfl (Nat.le_of_ble_eq_true rfl) ?_
  intro p e s m below meth c ls Q A hQ hx hb hr hml hts hown hlocks hE hA0 hsz hP hD hA hS hl hX hT
  have hl : lv_has ls 4 [(0, .ref (a 0 0)), (1, .int x1), (2, .int x2)] := hl
  refine lv_aload_n hx hb dL_distanceByJunctions_0 rfl (lv_at hl 0 rfl) ?_
  refine lv_iload_n hx hb dL_distanceByJunctions_1 rfl (lv_at hl 1 rfl) ?_
  refine lv_iload_n hx hb dL_distanceByJunctions_2 rfl (lv_at hl 2 rfl) ?_
  refine gXi1 (bs := [kDW g a ra V]) (wf := fun v => [kDW g a ra v]) (gRunVT (As := [.int x1, .int x2]) (rest := []) ⟨hx, hb, hml, hown, hts⟩ (ctP_distanceByJunctions l hl0 g t a ra _ V x1 x2 hw) (cwV 2 hts (goodF gV_X6_distanceByJunctions) rfl rfl rfl (by decide +kernel) ⟨Nat.le_of_ble_eq_true rfl, Nat.le_of_ble_eq_true rfl⟩) hE hX hS (gFree (bs := [kDW g a ra V]) hD hS hA [0]) (gSub (bs := [kDW g a ra V]) hP [0]) (gDSub (bs := [kDW g a ra V]) hD [0] rfl) 0 10 rfl rfl rfl rfl rfl hl.1 rfl (lv_room (Nat.le_of_ble_eq_true rfl)) dL_distanceByJunctions_3 ⟨Nat.le_of_ble_eq_true rfl, Nat.le_of_ble_eq_true rfl⟩) hP hD hS hA [0] rfl (fun _ => rfl) rfl (fun E ce q v H locs hw hP hD hS hc hcv hcl => ?_) (fun r v H locs hw hP hD hS => ?_)
  · have hP : va_P g.1 vwCl (List.flatten [kDW g a ra v]) H := hP
    have hD : va_D A (List.flatten [kDW g a ra v]) := hD
    rcases hw with ⟨rfl, hw⟩ | ⟨rfl, hw⟩
    · refine vx_catch (own := RL) (name := "java/lang/IndexOutOfBoundsException") hown (tableOf []) ⟨0, 6, 7, 15⟩ (tableOf [(0, 6, 11, 35)]) (hT.trans rfl) (fun z hz => absurd hz List.not_mem_nil) (by decide) (by decide) (hts _ (lwM tw96)) (hX.cast (E := "java/lang/IndexOutOfBoundsException") (by decide)) hc hcv hcl ?_
      refine lv_astore_n (lv' := (3, .ref q) :: [(0, .ref (a 0 0)), (1, .int x1), (2, .int x2)]) hx hb dL_distanceByJunctions_7 rfl hl (by decide) rfl (fun ls hl => ?_)
      refine lv_ldc (v := (-900001)) hx hb hown (hts _ (lwM tw97)) dL_distanceByJunctions_8 ?_
      subst hQ
      refine W.widen (k := 1) (n := 6) (Nat.le_of_ble_eq_true rfl) (Nat.le_of_ble_eq_true rfl) ?_
      exact W.iret hx hb hr (gRi1 (c1 := v) (wf := fun v => [kDW g a ra v]) hA0 hsz hw hP hD hS) hS.2.2 dL_distanceByJunctions_10
    · refine vx_catch (own := RL) (name := "java/util/NoSuchElementException") hown (tableOf [(0, 6, 7, 15)]) ⟨0, 6, 11, 35⟩ (tableOf []) (hT.trans rfl) (List.forall_mem_cons.mpr ⟨Or.inr ⟨by decide, "java/lang/IndexOutOfBoundsException", hts _ (lwM tw96), hX.2.2.2 "java/util/NoSuchElementException" (by decide) "java/lang/IndexOutOfBoundsException" (by decide) (by decide)⟩, (fun z hz => absurd hz List.not_mem_nil)⟩) (by decide) (by decide) (hts _ (lwM tw152)) (hX.cast (E := "java/util/NoSuchElementException") (by decide)) hc hcv hcl ?_
      refine lv_astore_n (lv' := (3, .ref q) :: [(0, .ref (a 0 0)), (1, .int x1), (2, .int x2)]) hx hb dL_distanceByJunctions_11 rfl hl (by decide) rfl (fun ls hl => ?_)
      refine lv_ldc (v := (-900002)) hx hb hown (hts _ (lwM tw99)) dL_distanceByJunctions_12 ?_
      subst hQ
      refine W.widen (k := 1) (n := 6) (Nat.le_of_ble_eq_true rfl) (Nat.le_of_ble_eq_true rfl) ?_
      exact W.iret hx hb hr (gRi1 (c1 := v) (wf := fun v => [kDW g a ra v]) hA0 hsz hw hP hD hS) hS.2.2 dL_distanceByJunctions_14
  · have hP : va_P g.1 vwCl (List.flatten [kDW g a ra v]) H := hP
    have hD : va_D A (List.flatten [kDW g a ra v]) := hD
    subst hQ
    refine W.widen (k := 1) (n := 6) (Nat.le_of_ble_eq_true rfl) (Nat.le_of_ble_eq_true rfl) ?_
    exact W.iret hx hb hr (gRi1 (c1 := v) (wf := fun v => [kDW g a ra v]) hA0 hsz hw hP hD hS) hS.2.2 dL_distanceByJunctions_6
abbrev rmL_streetByUrgency : Room := { frames := 7, cells := 1, slots := 6, locals := 238 }
set_option maxHeartbeats 4000000 in
set_option maxRecDepth 100000 in
theorem ctL_streetByUrgency (l : Launch) (hl0 : l.stackTraces = false) (g : GG) (t : GT) (a ra : Nat → Nat → Nat) (sz : Nat) (V : DV) (x1 : Int32) {post : Int32 → DV → Prop} (hw : wpL_streetByUrgency x1 V post) :
    Met l yL_streetByUrgency wsB_L_streetByUrgency rmL_streetByUrgency (gPX g t sz (List.flatten [kDW g a ra V]) [.ref (a 0 0), .int x1]) (va_Qi post (fun v => gB g (List.flatten [kDW g a ra V]) sz (List.flatten [kDW g a ra v])) (va_A (List.flatten [kDW g a ra V]) sz)) 1 6 (va_A (List.flatten [kDW g a ra V]) sz) := by
  refine gOfXW (cc := cL_streetByUrgency) (maxL := 3) (ret := (some .int)) (hh := [(0, 5, 6, 35)]) (by decide) rfl (Nat.le_of_ble_eq_true rfl) ?_
  intro p e s m below meth c ls Q A hQ hx hb hr hml hts hown hlocks hE hA0 hsz hP hD hA hS hl hX hT
  have hl : lv_has ls 3 [(0, .ref (a 0 0)), (1, .int x1)] := hl
  refine lv_aload_n hx hb dL_streetByUrgency_0 rfl (lv_at hl 0 rfl) ?_
  refine lv_iload_n hx hb dL_streetByUrgency_1 rfl (lv_at hl 1 rfl) ?_
  refine gXi1 (bs := [kDW g a ra V]) (wf := fun v => [kDW g a ra v]) (gRunVT (As := [.int x1]) (rest := []) ⟨hx, hb, hml, hown, hts⟩ (ctP_streetByUrgency l hl0 g t a ra _ V x1 hw) (cwV 1 hts (goodF gV_X6_streetByUrgency) rfl rfl rfl (by decide +kernel) ⟨Nat.le_of_ble_eq_true rfl, Nat.le_of_ble_eq_true rfl⟩) hE hX hS (gFree (bs := [kDW g a ra V]) hD hS hA [0]) (gSub (bs := [kDW g a ra V]) hP [0]) (gDSub (bs := [kDW g a ra V]) hD [0] rfl) 0 10 rfl rfl rfl rfl rfl hl.1 rfl (lv_room (Nat.le_of_ble_eq_true rfl)) dL_streetByUrgency_2 ⟨Nat.le_of_ble_eq_true rfl, Nat.le_of_ble_eq_true rfl⟩) hP hD hS hA [0] rfl (fun _ => rfl) rfl (fun E ce q v H locs hw hP hD hS hc hcv hcl => ?_) (fun r v H locs hw hP hD hS => ?_)
  · have hP : va_P g.1 vwCl (List.flatten [kDW g a ra v]) H := hP
    have hD : va_D A (List.flatten [kDW g a ra v]) := hD
    obtain ⟨rfl, hw⟩ := hw
    refine vx_catch (own := RL) (name := "java/util/NoSuchElementException") hown (tableOf []) ⟨0, 5, 6, 35⟩ (tableOf []) (hT.trans rfl) (fun z hz => absurd hz List.not_mem_nil) (by decide) (by decide) (hts _ (lwM tw152)) (hX.cast (E := "java/util/NoSuchElementException") (by decide)) hc hcv hcl ?_
    refine lv_astore_n (lv' := (2, .ref q) :: [(0, .ref (a 0 0)), (1, .int x1)]) hx hb dL_streetByUrgency_6 rfl hl (by decide) rfl (fun ls hl => ?_)
    refine lv_ldc (v := (-900001)) hx hb hown (hts _ (lwM tw97)) dL_streetByUrgency_7 ?_
    subst hQ
    refine W.widen (k := 1) (n := 6) (Nat.le_of_ble_eq_true rfl) (Nat.le_of_ble_eq_true rfl) ?_
    exact W.iret hx hb hr (gRi1 (c1 := v) (wf := fun v => [kDW g a ra v]) hA0 hsz hw hP hD hS) hS.2.2 dL_streetByUrgency_9
  · have hP : va_P g.1 vwCl (List.flatten [kDW g a ra v]) H := hP
    have hD : va_D A (List.flatten [kDW g a ra v]) := hD
    subst hQ
    refine W.widen (k := 1) (n := 6) (Nat.le_of_ble_eq_true rfl) (Nat.le_of_ble_eq_true rfl) ?_
    exact W.iret hx hb hr (gRi1 (c1 := v) (wf := fun v => [kDW g a ra v]) hA0 hsz hw hP hD hS) hS.2.2 dL_streetByUrgency_5
abbrev rmL_currentStreet : Room := { frames := 7, cells := 1, slots := 6, locals := 144 }
set_option maxHeartbeats 4000000 in
set_option maxRecDepth 100000 in
theorem ctL_currentStreet (l : Launch) (hl0 : l.stackTraces = false) (g : GG) (t : GT) (a ra : Nat → Nat → Nat) (sz : Nat) (V : DV) (x1 : Int32) {post : Int32 → DV → Prop} (hw : wpL_currentStreet x1 V post) :
    Met l yL_currentStreet wsB_L_currentStreet rmL_currentStreet (gPX g t sz (List.flatten [kDW g a ra V]) [.ref (a 0 0), .int x1]) (va_Qi post (fun v => gB g (List.flatten [kDW g a ra V]) sz (List.flatten [kDW g a ra v])) (va_A (List.flatten [kDW g a ra V]) sz)) 1 6 (va_A (List.flatten [kDW g a ra V]) sz) := by
  refine gOfXW (cc := cL_currentStreet) (maxL := 3) (ret := (some .int)) (hh := [(0, 5, 6, 15), (0, 5, 10, 35)]) (by decide) rfl (Nat.le_of_ble_eq_true rfl) ?_
  intro p e s m below meth c ls Q A hQ hx hb hr hml hts hown hlocks hE hA0 hsz hP hD hA hS hl hX hT
  have hl : lv_has ls 3 [(0, .ref (a 0 0)), (1, .int x1)] := hl
  refine lv_aload_n hx hb dL_currentStreet_0 rfl (lv_at hl 0 rfl) ?_
  refine lv_iload_n hx hb dL_currentStreet_1 rfl (lv_at hl 1 rfl) ?_
  refine gXi1 (bs := [kDW g a ra V]) (wf := fun v => [kDW g a ra v]) (gRunVT (As := [.int x1]) (rest := []) ⟨hx, hb, hml, hown, hts⟩ (ctP_currentStreet l hl0 g t a ra _ V x1 hw) (cwV 1 hts (goodF gV_X6_currentStreet) rfl rfl rfl (by decide +kernel) ⟨Nat.le_of_ble_eq_true rfl, Nat.le_of_ble_eq_true rfl⟩) hE hX hS (gFree (bs := [kDW g a ra V]) hD hS hA [0]) (gSub (bs := [kDW g a ra V]) hP [0]) (gDSub (bs := [kDW g a ra V]) hD [0] rfl) 0 10 rfl rfl rfl rfl rfl hl.1 rfl (lv_room (Nat.le_of_ble_eq_true rfl)) dL_currentStreet_2 ⟨Nat.le_of_ble_eq_true rfl, Nat.le_of_ble_eq_true rfl⟩) hP hD hS hA [0] rfl (fun _ => rfl) rfl (fun E ce q v H locs hw hP hD hS hc hcv hcl => ?_) (fun r v H locs hw hP hD hS => ?_)
  · have hP : va_P g.1 vwCl (List.flatten [kDW g a ra v]) H := hP
    have hD : va_D A (List.flatten [kDW g a ra v]) := hD
    rcases hw with ⟨rfl, hw⟩ | ⟨rfl, hw⟩
    · refine vx_catch (own := RL) (name := "java/lang/IndexOutOfBoundsException") hown (tableOf []) ⟨0, 5, 6, 15⟩ (tableOf [(0, 5, 10, 35)]) (hT.trans rfl) (fun z hz => absurd hz List.not_mem_nil) (by decide) (by decide) (hts _ (lwM tw96)) (hX.cast (E := "java/lang/IndexOutOfBoundsException") (by decide)) hc hcv hcl ?_
      refine lv_astore_n (lv' := (2, .ref q) :: [(0, .ref (a 0 0)), (1, .int x1)]) hx hb dL_currentStreet_6 rfl hl (by decide) rfl (fun ls hl => ?_)
      refine lv_ldc (v := (-900001)) hx hb hown (hts _ (lwM tw97)) dL_currentStreet_7 ?_
      subst hQ
      refine W.widen (k := 1) (n := 6) (Nat.le_of_ble_eq_true rfl) (Nat.le_of_ble_eq_true rfl) ?_
      exact W.iret hx hb hr (gRi1 (c1 := v) (wf := fun v => [kDW g a ra v]) hA0 hsz hw hP hD hS) hS.2.2 dL_currentStreet_9
    · refine vx_catch (own := RL) (name := "java/util/NoSuchElementException") hown (tableOf [(0, 5, 6, 15)]) ⟨0, 5, 10, 35⟩ (tableOf []) (hT.trans rfl) (List.forall_mem_cons.mpr ⟨Or.inr ⟨by decide, "java/lang/IndexOutOfBoundsException", hts _ (lwM tw96), hX.2.2.2 "java/util/NoSuchElementException" (by decide) "java/lang/IndexOutOfBoundsException" (by decide) (by decide)⟩, (fun z hz => absurd hz List.not_mem_nil)⟩) (by decide) (by decide) (hts _ (lwM tw152)) (hX.cast (E := "java/util/NoSuchElementException") (by decide)) hc hcv hcl ?_
      refine lv_astore_n (lv' := (2, .ref q) :: [(0, .ref (a 0 0)), (1, .int x1)]) hx hb dL_currentStreet_10 rfl hl (by decide) rfl (fun ls hl => ?_)
      refine lv_ldc (v := (-900002)) hx hb hown (hts _ (lwM tw99)) dL_currentStreet_11 ?_
      subst hQ
      refine W.widen (k := 1) (n := 6) (Nat.le_of_ble_eq_true rfl) (Nat.le_of_ble_eq_true rfl) ?_
      exact W.iret hx hb hr (gRi1 (c1 := v) (wf := fun v => [kDW g a ra v]) hA0 hsz hw hP hD hS) hS.2.2 dL_currentStreet_13
  · have hP : va_P g.1 vwCl (List.flatten [kDW g a ra v]) H := hP
    have hD : va_D A (List.flatten [kDW g a ra v]) := hD
    subst hQ
    refine W.widen (k := 1) (n := 6) (Nat.le_of_ble_eq_true rfl) (Nat.le_of_ble_eq_true rfl) ?_
    exact W.iret hx hb hr (gRi1 (c1 := v) (wf := fun v => [kDW g a ra v]) hA0 hsz hw hP hD hS) hS.2.2 dL_currentStreet_5
abbrev rmL_queuedStreet : Room := { frames := 7, cells := 1, slots := 6, locals := 169 }
set_option maxHeartbeats 4000000 in
set_option maxRecDepth 100000 in
theorem ctL_queuedStreet (l : Launch) (hl0 : l.stackTraces = false) (g : GG) (t : GT) (a ra : Nat → Nat → Nat) (sz : Nat) (V : DV) (x1 : Int32) (x2 : Int32) {post : Int32 → DV → Prop} (hw : wpL_queuedStreet x1 x2 V post) :
    Met l yL_queuedStreet wsB_L_queuedStreet rmL_queuedStreet (gPX g t sz (List.flatten [kDW g a ra V]) [.ref (a 0 0), .int x1, .int x2]) (va_Qi post (fun v => gB g (List.flatten [kDW g a ra V]) sz (List.flatten [kDW g a ra v])) (va_A (List.flatten [kDW g a ra V]) sz)) 1 6 (va_A (List.flatten [kDW g a ra V]) sz) := by
  refine gOfXW (cc := cL_queuedStreet) (maxL := 4) (ret := (some .int)) (hh := [(0, 6, 7, 15), (0, 6, 11, 35)]) (by decide) rfl (Nat.le_of_ble_eq_true rfl) ?_
  intro p e s m below meth c ls Q A hQ hx hb hr hml hts hown hlocks hE hA0 hsz hP hD hA hS hl hX hT
  have hl : lv_has ls 4 [(0, .ref (a 0 0)), (1, .int x1), (2, .int x2)] := hl
  refine lv_aload_n hx hb dL_queuedStreet_0 rfl (lv_at hl 0 rfl) ?_
  refine lv_iload_n hx hb dL_queuedStreet_1 rfl (lv_at hl 1 rfl) ?_
  refine lv_iload_n hx hb dL_queuedStreet_2 rfl (lv_at hl 2 rfl) ?_
  refine gXi1 (bs := [kDW g a ra V]) (wf := fun v => [kDW g a ra v]) (gRunVT (As := [.int x1, .int x2]) (rest := []) ⟨hx, hb, hml, hown, hts⟩ (ctP_queuedStreet l hl0 g t a ra _ V x1 x2 hw) (cwV 2 hts (goodF gV_X6_queuedStreet) rfl rfl rfl (by decide +kernel) ⟨Nat.le_of_ble_eq_true rfl, Nat.le_of_ble_eq_true rfl⟩) hE hX hS (gFree (bs := [kDW g a ra V]) hD hS hA [0]) (gSub (bs := [kDW g a ra V]) hP [0]) (gDSub (bs := [kDW g a ra V]) hD [0] rfl) 0 10 rfl rfl rfl rfl rfl hl.1 rfl (lv_room (Nat.le_of_ble_eq_true rfl)) dL_queuedStreet_3 ⟨Nat.le_of_ble_eq_true rfl, Nat.le_of_ble_eq_true rfl⟩) hP hD hS hA [0] rfl (fun _ => rfl) rfl (fun E ce q v H locs hw hP hD hS hc hcv hcl => ?_) (fun r v H locs hw hP hD hS => ?_)
  · have hP : va_P g.1 vwCl (List.flatten [kDW g a ra v]) H := hP
    have hD : va_D A (List.flatten [kDW g a ra v]) := hD
    rcases hw with ⟨rfl, hw⟩ | ⟨rfl, hw⟩
    · refine vx_catch (own := RL) (name := "java/lang/IndexOutOfBoundsException") hown (tableOf []) ⟨0, 6, 7, 15⟩ (tableOf [(0, 6, 11, 35)]) (hT.trans rfl) (fun z hz => absurd hz List.not_mem_nil) (by decide) (by decide) (hts _ (lwM tw96)) (hX.cast (E := "java/lang/IndexOutOfBoundsException") (by decide)) hc hcv hcl ?_
      refine lv_astore_n (lv' := (3, .ref q) :: [(0, .ref (a 0 0)), (1, .int x1), (2, .int x2)]) hx hb dL_queuedStreet_7 rfl hl (by decide) rfl (fun ls hl => ?_)
      refine lv_ldc (v := (-900001)) hx hb hown (hts _ (lwM tw97)) dL_queuedStreet_8 ?_
      subst hQ
      refine W.widen (k := 1) (n := 6) (Nat.le_of_ble_eq_true rfl) (Nat.le_of_ble_eq_true rfl) ?_
      exact W.iret hx hb hr (gRi1 (c1 := v) (wf := fun v => [kDW g a ra v]) hA0 hsz hw hP hD hS) hS.2.2 dL_queuedStreet_10
    · refine vx_catch (own := RL) (name := "java/util/NoSuchElementException") hown (tableOf [(0, 6, 7, 15)]) ⟨0, 6, 11, 35⟩ (tableOf []) (hT.trans rfl) (List.forall_mem_cons.mpr ⟨Or.inr ⟨by decide, "java/lang/IndexOutOfBoundsException", hts _ (lwM tw96), hX.2.2.2 "java/util/NoSuchElementException" (by decide) "java/lang/IndexOutOfBoundsException" (by decide) (by decide)⟩, (fun z hz => absurd hz List.not_mem_nil)⟩) (by decide) (by decide) (hts _ (lwM tw152)) (hX.cast (E := "java/util/NoSuchElementException") (by decide)) hc hcv hcl ?_
      refine lv_astore_n (lv' := (3, .ref q) :: [(0, .ref (a 0 0)), (1, .int x1), (2, .int x2)]) hx hb dL_queuedStreet_11 rfl hl (by decide) rfl (fun ls hl => ?_)
      refine lv_ldc (v := (-900002)) hx hb hown (hts _ (lwM tw99)) dL_queuedStreet_12 ?_
      subst hQ
      refine W.widen (k := 1) (n := 6) (Nat.le_of_ble_eq_true rfl) (Nat.le_of_ble_eq_true rfl) ?_
      exact W.iret hx hb hr (gRi1 (c1 := v) (wf := fun v => [kDW g a ra v]) hA0 hsz hw hP hD hS) hS.2.2 dL_queuedStreet_14
  · have hP : va_P g.1 vwCl (List.flatten [kDW g a ra v]) H := hP
    have hD : va_D A (List.flatten [kDW g a ra v]) := hD
    subst hQ
    refine W.widen (k := 1) (n := 6) (Nat.le_of_ble_eq_true rfl) (Nat.le_of_ble_eq_true rfl) ?_
    exact W.iret hx hb hr (gRi1 (c1 := v) (wf := fun v => [kDW g a ra v]) hA0 hsz hw hP hD hS) hS.2.2 dL_queuedStreet_6
abbrev rmL_orderMinutes : Room := { frames := 7, cells := 1, slots := 6, locals := 199 }
set_option maxHeartbeats 4000000 in
set_option maxRecDepth 100000 in
theorem ctL_orderMinutes (l : Launch) (hl0 : l.stackTraces = false) (g : GG) (t : GT) (a ra : Nat → Nat → Nat) (sz : Nat) (V : DV) (x1 : Int32) (x2 : Int32) {post : Int32 → DV → Prop} (hw : wpL_orderMinutes x1 x2 V post) :
    Met l yL_orderMinutes wsB_L_orderMinutes rmL_orderMinutes (gPX g t sz (List.flatten [kDW g a ra V]) [.ref (a 0 0), .int x1, .int x2]) (va_Qi post (fun v => gB g (List.flatten [kDW g a ra V]) sz (List.flatten [kDW g a ra v])) (va_A (List.flatten [kDW g a ra V]) sz)) 1 6 (va_A (List.flatten [kDW g a ra V]) sz) := by
  refine gOfXW (cc := cL_orderMinutes) (maxL := 4) (ret := (some .int)) (hh := [(0, 6, 7, 15), (0, 6, 11, 35)]) (by decide) rfl (Nat.le_of_ble_eq_true rfl) ?_
  intro p e s m below meth c ls Q A hQ hx hb hr hml hts hown hlocks hE hA0 hsz hP hD hA hS hl hX hT
  have hl : lv_has ls 4 [(0, .ref (a 0 0)), (1, .int x1), (2, .int x2)] := hl
  refine lv_aload_n hx hb dL_orderMinutes_0 rfl (lv_at hl 0 rfl) ?_
  refine lv_iload_n hx hb dL_orderMinutes_1 rfl (lv_at hl 1 rfl) ?_
  refine lv_iload_n hx hb dL_orderMinutes_2 rfl (lv_at hl 2 rfl) ?_
  refine gXi1 (bs := [kDW g a ra V]) (wf := fun v => [kDW g a ra v]) (gRunVT (As := [.int x1, .int x2]) (rest := []) ⟨hx, hb, hml, hown, hts⟩ (ctP_orderMinutes l hl0 g t a ra _ V x1 x2 hw) (cwV 2 hts (goodF gV_X6_orderMinutes) rfl rfl rfl (by decide +kernel) ⟨Nat.le_of_ble_eq_true rfl, Nat.le_of_ble_eq_true rfl⟩) hE hX hS (gFree (bs := [kDW g a ra V]) hD hS hA [0]) (gSub (bs := [kDW g a ra V]) hP [0]) (gDSub (bs := [kDW g a ra V]) hD [0] rfl) 0 10 rfl rfl rfl rfl rfl hl.1 rfl (lv_room (Nat.le_of_ble_eq_true rfl)) dL_orderMinutes_3 ⟨Nat.le_of_ble_eq_true rfl, Nat.le_of_ble_eq_true rfl⟩) hP hD hS hA [0] rfl (fun _ => rfl) rfl (fun E ce q v H locs hw hP hD hS hc hcv hcl => ?_) (fun r v H locs hw hP hD hS => ?_)
  · have hP : va_P g.1 vwCl (List.flatten [kDW g a ra v]) H := hP
    have hD : va_D A (List.flatten [kDW g a ra v]) := hD
    rcases hw with ⟨rfl, hw⟩ | ⟨rfl, hw⟩
    · refine vx_catch (own := RL) (name := "java/lang/IndexOutOfBoundsException") hown (tableOf []) ⟨0, 6, 7, 15⟩ (tableOf [(0, 6, 11, 35)]) (hT.trans rfl) (fun z hz => absurd hz List.not_mem_nil) (by decide) (by decide) (hts _ (lwM tw96)) (hX.cast (E := "java/lang/IndexOutOfBoundsException") (by decide)) hc hcv hcl ?_
      refine lv_astore_n (lv' := (3, .ref q) :: [(0, .ref (a 0 0)), (1, .int x1), (2, .int x2)]) hx hb dL_orderMinutes_7 rfl hl (by decide) rfl (fun ls hl => ?_)
      refine lv_ldc (v := (-900001)) hx hb hown (hts _ (lwM tw97)) dL_orderMinutes_8 ?_
      subst hQ
      refine W.widen (k := 1) (n := 6) (Nat.le_of_ble_eq_true rfl) (Nat.le_of_ble_eq_true rfl) ?_
      exact W.iret hx hb hr (gRi1 (c1 := v) (wf := fun v => [kDW g a ra v]) hA0 hsz hw hP hD hS) hS.2.2 dL_orderMinutes_10
    · refine vx_catch (own := RL) (name := "java/util/NoSuchElementException") hown (tableOf [(0, 6, 7, 15)]) ⟨0, 6, 11, 35⟩ (tableOf []) (hT.trans rfl) (List.forall_mem_cons.mpr ⟨Or.inr ⟨by decide, "java/lang/IndexOutOfBoundsException", hts _ (lwM tw96), hX.2.2.2 "java/util/NoSuchElementException" (by decide) "java/lang/IndexOutOfBoundsException" (by decide) (by decide)⟩, (fun z hz => absurd hz List.not_mem_nil)⟩) (by decide) (by decide) (hts _ (lwM tw152)) (hX.cast (E := "java/util/NoSuchElementException") (by decide)) hc hcv hcl ?_
      refine lv_astore_n (lv' := (3, .ref q) :: [(0, .ref (a 0 0)), (1, .int x1), (2, .int x2)]) hx hb dL_orderMinutes_11 rfl hl (by decide) rfl (fun ls hl => ?_)
      refine lv_ldc (v := (-900002)) hx hb hown (hts _ (lwM tw99)) dL_orderMinutes_12 ?_
      subst hQ
      refine W.widen (k := 1) (n := 6) (Nat.le_of_ble_eq_true rfl) (Nat.le_of_ble_eq_true rfl) ?_
      exact W.iret hx hb hr (gRi1 (c1 := v) (wf := fun v => [kDW g a ra v]) hA0 hsz hw hP hD hS) hS.2.2 dL_orderMinutes_14
  · have hP : va_P g.1 vwCl (List.flatten [kDW g a ra v]) H := hP
    have hD : va_D A (List.flatten [kDW g a ra v]) := hD
    subst hQ
    refine W.widen (k := 1) (n := 6) (Nat.le_of_ble_eq_true rfl) (Nat.le_of_ble_eq_true rfl) ?_
    exact W.iret hx hb hr (gRi1 (c1 := v) (wf := fun v => [kDW g a ra v]) hA0 hsz hw hP hD hS) hS.2.2 dL_orderMinutes_6
abbrev rmL_minutesUntilCleared : Room := { frames := 8, cells := 1, slots := 6, locals := 274 }
set_option maxHeartbeats 4000000 in
set_option maxRecDepth 100000 in
theorem ctL_minutesUntilCleared (l : Launch) (hl0 : l.stackTraces = false) (g : GG) (t : GT) (a ra : Nat → Nat → Nat) (sz : Nat) (V : DV) (x1 : Int32) {post : Int32 → DV → Prop} (hw : wpL_minutesUntilCleared x1 V post) :
    Met l yL_minutesUntilCleared wsB_L_minutesUntilCleared rmL_minutesUntilCleared (gPX g t sz (List.flatten [kDW g a ra V]) [.ref (a 0 0), .int x1]) (va_Qi post (fun v => gB g (List.flatten [kDW g a ra V]) sz (List.flatten [kDW g a ra v])) (va_A (List.flatten [kDW g a ra V]) sz)) 1 6 (va_A (List.flatten [kDW g a ra V]) sz) := by
  refine gOfXW (cc := cL_minutesUntilCleared) (maxL := 3) (ret := (some .int)) (hh := [(0, 5, 6, 15), (0, 5, 10, 35)]) (by decide) rfl (Nat.le_of_ble_eq_true rfl) ?_
  intro p e s m below meth c ls Q A hQ hx hb hr hml hts hown hlocks hE hA0 hsz hP hD hA hS hl hX hT
  have hl : lv_has ls 3 [(0, .ref (a 0 0)), (1, .int x1)] := hl
  refine lv_aload_n hx hb dL_minutesUntilCleared_0 rfl (lv_at hl 0 rfl) ?_
  refine lv_iload_n hx hb dL_minutesUntilCleared_1 rfl (lv_at hl 1 rfl) ?_
  refine gXi1 (bs := [kDW g a ra V]) (wf := fun v => [kDW g a ra v]) (gRunVT (As := [.int x1]) (rest := []) ⟨hx, hb, hml, hown, hts⟩ (ctP_minutesUntilCleared l hl0 g t a ra _ V x1 hw) (cwV 1 hts (goodF gV_X6_minutesUntilCleared) rfl rfl rfl (by decide +kernel) ⟨Nat.le_of_ble_eq_true rfl, Nat.le_of_ble_eq_true rfl⟩) hE hX hS (gFree (bs := [kDW g a ra V]) hD hS hA [0]) (gSub (bs := [kDW g a ra V]) hP [0]) (gDSub (bs := [kDW g a ra V]) hD [0] rfl) 0 10 rfl rfl rfl rfl rfl hl.1 rfl (lv_room (Nat.le_of_ble_eq_true rfl)) dL_minutesUntilCleared_2 ⟨Nat.le_of_ble_eq_true rfl, Nat.le_of_ble_eq_true rfl⟩) hP hD hS hA [0] rfl (fun _ => rfl) rfl (fun E ce q v H locs hw hP hD hS hc hcv hcl => ?_) (fun r v H locs hw hP hD hS => ?_)
  · have hP : va_P g.1 vwCl (List.flatten [kDW g a ra v]) H := hP
    have hD : va_D A (List.flatten [kDW g a ra v]) := hD
    rcases hw with ⟨rfl, hw⟩ | ⟨rfl, hw⟩
    · refine vx_catch (own := RL) (name := "java/lang/IndexOutOfBoundsException") hown (tableOf []) ⟨0, 5, 6, 15⟩ (tableOf [(0, 5, 10, 35)]) (hT.trans rfl) (fun z hz => absurd hz List.not_mem_nil) (by decide) (by decide) (hts _ (lwM tw96)) (hX.cast (E := "java/lang/IndexOutOfBoundsException") (by decide)) hc hcv hcl ?_
      refine lv_astore_n (lv' := (2, .ref q) :: [(0, .ref (a 0 0)), (1, .int x1)]) hx hb dL_minutesUntilCleared_6 rfl hl (by decide) rfl (fun ls hl => ?_)
      refine lv_ldc (v := (-900001)) hx hb hown (hts _ (lwM tw97)) dL_minutesUntilCleared_7 ?_
      subst hQ
      refine W.widen (k := 1) (n := 6) (Nat.le_of_ble_eq_true rfl) (Nat.le_of_ble_eq_true rfl) ?_
      exact W.iret hx hb hr (gRi1 (c1 := v) (wf := fun v => [kDW g a ra v]) hA0 hsz hw hP hD hS) hS.2.2 dL_minutesUntilCleared_9
    · refine vx_catch (own := RL) (name := "java/util/NoSuchElementException") hown (tableOf [(0, 5, 6, 15)]) ⟨0, 5, 10, 35⟩ (tableOf []) (hT.trans rfl) (List.forall_mem_cons.mpr ⟨Or.inr ⟨by decide, "java/lang/IndexOutOfBoundsException", hts _ (lwM tw96), hX.2.2.2 "java/util/NoSuchElementException" (by decide) "java/lang/IndexOutOfBoundsException" (by decide) (by decide)⟩, (fun z hz => absurd hz List.not_mem_nil)⟩) (by decide) (by decide) (hts _ (lwM tw152)) (hX.cast (E := "java/util/NoSuchElementException") (by decide)) hc hcv hcl ?_
      refine lv_astore_n (lv' := (2, .ref q) :: [(0, .ref (a 0 0)), (1, .int x1)]) hx hb dL_minutesUntilCleared_10 rfl hl (by decide) rfl (fun ls hl => ?_)
      refine lv_ldc (v := (-900002)) hx hb hown (hts _ (lwM tw99)) dL_minutesUntilCleared_11 ?_
      subst hQ
      refine W.widen (k := 1) (n := 6) (Nat.le_of_ble_eq_true rfl) (Nat.le_of_ble_eq_true rfl) ?_
      exact W.iret hx hb hr (gRi1 (c1 := v) (wf := fun v => [kDW g a ra v]) hA0 hsz hw hP hD hS) hS.2.2 dL_minutesUntilCleared_13
  · have hP : va_P g.1 vwCl (List.flatten [kDW g a ra v]) H := hP
    have hD : va_D A (List.flatten [kDW g a ra v]) := hD
    subst hQ
    refine W.widen (k := 1) (n := 6) (Nat.le_of_ble_eq_true rfl) (Nat.le_of_ble_eq_true rfl) ?_
    exact W.iret hx hb hr (gRi1 (c1 := v) (wf := fun v => [kDW g a ra v]) hA0 hsz hw hP hD hS) hS.2.2 dL_minutesUntilCleared_5
abbrev rmL_depthAfter : Room := { frames := 7, cells := 1, slots := 6, locals := 250 }
set_option maxHeartbeats 4000000 in
set_option maxRecDepth 100000 in
theorem ctL_depthAfter (l : Launch) (hl0 : l.stackTraces = false) (g : GG) (t : GT) (a ra : Nat → Nat → Nat) (sz : Nat) (V : DV) (x1 : Int32) (x2 : Int32) {post : Int32 → DV → Prop} (hw : wpL_depthAfter x1 x2 V post) :
    Met l yL_depthAfter wsB_L_depthAfter rmL_depthAfter (gPX g t sz (List.flatten [kDW g a ra V]) [.ref (a 0 0), .int x1, .int x2]) (va_Qi post (fun v => gB g (List.flatten [kDW g a ra V]) sz (List.flatten [kDW g a ra v])) (va_A (List.flatten [kDW g a ra V]) sz)) 1 6 (va_A (List.flatten [kDW g a ra V]) sz) := by
  refine gOfXW (cc := cL_depthAfter) (maxL := 4) (ret := (some .int)) (hh := [(0, 6, 7, 15), (0, 6, 11, 18)]) (by decide) rfl (Nat.le_of_ble_eq_true rfl) ?_
  intro p e s m below meth c ls Q A hQ hx hb hr hml hts hown hlocks hE hA0 hsz hP hD hA hS hl hX hT
  have hl : lv_has ls 4 [(0, .ref (a 0 0)), (1, .int x1), (2, .int x2)] := hl
  refine lv_aload_n hx hb dL_depthAfter_0 rfl (lv_at hl 0 rfl) ?_
  refine lv_iload_n hx hb dL_depthAfter_1 rfl (lv_at hl 1 rfl) ?_
  refine lv_iload_n hx hb dL_depthAfter_2 rfl (lv_at hl 2 rfl) ?_
  refine gXi1 (bs := [kDW g a ra V]) (wf := fun v => [kDW g a ra v]) (gRunVT (As := [.int x1, .int x2]) (rest := []) ⟨hx, hb, hml, hown, hts⟩ (ctP_depthAfter l hl0 g t a ra _ V x1 x2 hw) (cwV 2 hts (goodF gV_X6_depthAfter) rfl rfl rfl (by decide +kernel) ⟨Nat.le_of_ble_eq_true rfl, Nat.le_of_ble_eq_true rfl⟩) hE hX hS (gFree (bs := [kDW g a ra V]) hD hS hA [0]) (gSub (bs := [kDW g a ra V]) hP [0]) (gDSub (bs := [kDW g a ra V]) hD [0] rfl) 0 10 rfl rfl rfl rfl rfl hl.1 rfl (lv_room (Nat.le_of_ble_eq_true rfl)) dL_depthAfter_3 ⟨Nat.le_of_ble_eq_true rfl, Nat.le_of_ble_eq_true rfl⟩) hP hD hS hA [0] rfl (fun _ => rfl) rfl (fun E ce q v H locs hw hP hD hS hc hcv hcl => ?_) (fun r v H locs hw hP hD hS => ?_)
  · have hP : va_P g.1 vwCl (List.flatten [kDW g a ra v]) H := hP
    have hD : va_D A (List.flatten [kDW g a ra v]) := hD
    rcases hw with ⟨rfl, hw⟩ | ⟨rfl, hw⟩
    · refine vx_catch (own := RL) (name := "java/lang/IndexOutOfBoundsException") hown (tableOf []) ⟨0, 6, 7, 15⟩ (tableOf [(0, 6, 11, 18)]) (hT.trans rfl) (fun z hz => absurd hz List.not_mem_nil) (by decide) (by decide) (hts _ (lwM tw96)) (hX.cast (E := "java/lang/IndexOutOfBoundsException") (by decide)) hc hcv hcl ?_
      refine lv_astore_n (lv' := (3, .ref q) :: [(0, .ref (a 0 0)), (1, .int x1), (2, .int x2)]) hx hb dL_depthAfter_7 rfl hl (by decide) rfl (fun ls hl => ?_)
      refine lv_ldc (v := (-900001)) hx hb hown (hts _ (lwM tw97)) dL_depthAfter_8 ?_
      subst hQ
      refine W.widen (k := 1) (n := 6) (Nat.le_of_ble_eq_true rfl) (Nat.le_of_ble_eq_true rfl) ?_
      exact W.iret hx hb hr (gRi1 (c1 := v) (wf := fun v => [kDW g a ra v]) hA0 hsz hw hP hD hS) hS.2.2 dL_depthAfter_10
    · refine vx_catch (own := RL) (name := "java/lang/IllegalArgumentException") hown (tableOf [(0, 6, 7, 15)]) ⟨0, 6, 11, 18⟩ (tableOf []) (hT.trans rfl) (List.forall_mem_cons.mpr ⟨Or.inr ⟨by decide, "java/lang/IndexOutOfBoundsException", hts _ (lwM tw96), hX.2.2.2 "java/lang/IllegalArgumentException" (by decide) "java/lang/IndexOutOfBoundsException" (by decide) (by decide)⟩, (fun z hz => absurd hz List.not_mem_nil)⟩) (by decide) (by decide) (hts _ (lwM tw98)) (hX.cast (E := "java/lang/IllegalArgumentException") (by decide)) hc hcv hcl ?_
      refine lv_astore_n (lv' := (3, .ref q) :: [(0, .ref (a 0 0)), (1, .int x1), (2, .int x2)]) hx hb dL_depthAfter_11 rfl hl (by decide) rfl (fun ls hl => ?_)
      refine lv_ldc (v := (-900002)) hx hb hown (hts _ (lwM tw99)) dL_depthAfter_12 ?_
      subst hQ
      refine W.widen (k := 1) (n := 6) (Nat.le_of_ble_eq_true rfl) (Nat.le_of_ble_eq_true rfl) ?_
      exact W.iret hx hb hr (gRi1 (c1 := v) (wf := fun v => [kDW g a ra v]) hA0 hsz hw hP hD hS) hS.2.2 dL_depthAfter_14
  · have hP : va_P g.1 vwCl (List.flatten [kDW g a ra v]) H := hP
    have hD : va_D A (List.flatten [kDW g a ra v]) := hD
    subst hQ
    refine W.widen (k := 1) (n := 6) (Nat.le_of_ble_eq_true rfl) (Nat.le_of_ble_eq_true rfl) ?_
    exact W.iret hx hb hr (gRi1 (c1 := v) (wf := fun v => [kDW g a ra v]) hA0 hsz hw hP hD hS) hS.2.2 dL_depthAfter_6
abbrev rmL_runScript : Room := { frames := 12, cells := 1, slots := 6, locals := 352 }
set_option maxHeartbeats 4000000 in
set_option maxRecDepth 100000 in
theorem ctL_runScript (l : Launch) (hl0 : l.stackTraces = false) (g : GG) (t : GT) (a ra : Nat → Nat → Nat) (sz : Nat) (V : DV) {post : Int32 → DV → Prop} (hw : wpL_runScript V post) :
    Met l yL_runScript wsB_L_runScript rmL_runScript (gPX g t sz (List.flatten [kDW g a ra V]) [.ref (a 0 0)]) (va_Qi post (fun v => gB g (List.flatten [kDW g a ra V]) sz (List.flatten [kDW g a ra v])) (va_A (List.flatten [kDW g a ra V]) sz)) 1 6 (va_A (List.flatten [kDW g a ra V]) sz) := by
  refine gOfXW (cc := cL_runScript) (maxL := 2) (ret := (some .int)) (hh := [(0, 4, 5, 18), (0, 4, 9, 21)]) (by decide) rfl (Nat.le_of_ble_eq_true rfl) ?_
  intro p e s m below meth c ls Q A hQ hx hb hr hml hts hown hlocks hE hA0 hsz hP hD hA hS hl hX hT
  have hl : lv_has ls 2 [(0, .ref (a 0 0))] := hl
  refine lv_aload_n hx hb dL_runScript_0 rfl (lv_at hl 0 rfl) ?_
  refine gXi1 (bs := [kDW g a ra V]) (wf := fun v => [kDW g a ra v]) (gRunVT (As := []) (rest := []) ⟨hx, hb, hml, hown, hts⟩ (ctP_runScript l hl0 g t a ra _ V hw) (cwV 0 hts (goodF gV_X6_runScript) rfl rfl rfl (by decide +kernel) ⟨Nat.le_of_ble_eq_true rfl, Nat.le_of_ble_eq_true rfl⟩) hE hX hS (gFree (bs := [kDW g a ra V]) hD hS hA [0]) (gSub (bs := [kDW g a ra V]) hP [0]) (gDSub (bs := [kDW g a ra V]) hD [0] rfl) 0 10 rfl rfl rfl rfl rfl hl.1 rfl (lv_room (Nat.le_of_ble_eq_true rfl)) dL_runScript_1 ⟨Nat.le_of_ble_eq_true rfl, Nat.le_of_ble_eq_true rfl⟩) hP hD hS hA [0] rfl (fun _ => rfl) rfl (fun E ce q v H locs hw hP hD hS hc hcv hcl => ?_) (fun r v H locs hw hP hD hS => ?_)
  · have hP : va_P g.1 vwCl (List.flatten [kDW g a ra v]) H := hP
    have hD : va_D A (List.flatten [kDW g a ra v]) := hD
    rcases hw with ⟨rfl, hw⟩ | ⟨rfl, hw⟩
    · refine vx_catch (own := RL) (name := "java/lang/IllegalArgumentException") hown (tableOf []) ⟨0, 4, 5, 18⟩ (tableOf [(0, 4, 9, 21)]) (hT.trans rfl) (fun z hz => absurd hz List.not_mem_nil) (by decide) (by decide) (hts _ (lwM tw98)) (hX.cast (E := "java/lang/IllegalArgumentException") (by decide)) hc hcv hcl ?_
      refine lv_astore_n (lv' := (1, .ref q) :: [(0, .ref (a 0 0))]) hx hb dL_runScript_5 rfl hl (by decide) rfl (fun ls hl => ?_)
      refine lv_ldc (v := (-900001)) hx hb hown (hts _ (lwM tw97)) dL_runScript_6 ?_
      subst hQ
      refine W.widen (k := 1) (n := 6) (Nat.le_of_ble_eq_true rfl) (Nat.le_of_ble_eq_true rfl) ?_
      exact W.iret hx hb hr (gRi1 (c1 := v) (wf := fun v => [kDW g a ra v]) hA0 hsz hw hP hD hS) hS.2.2 dL_runScript_8
    · refine vx_catch (own := RL) (name := "java/lang/IllegalStateException") hown (tableOf [(0, 4, 5, 18)]) ⟨0, 4, 9, 21⟩ (tableOf []) (hT.trans rfl) (List.forall_mem_cons.mpr ⟨Or.inr ⟨by decide, "java/lang/IllegalArgumentException", hts _ (lwM tw98), hX.2.2.2 "java/lang/IllegalStateException" (by decide) "java/lang/IllegalArgumentException" (by decide) (by decide)⟩, (fun z hz => absurd hz List.not_mem_nil)⟩) (by decide) (by decide) (hts _ (lwM tw100)) (hX.cast (E := "java/lang/IllegalStateException") (by decide)) hc hcv hcl ?_
      refine lv_astore_n (lv' := (1, .ref q) :: [(0, .ref (a 0 0))]) hx hb dL_runScript_9 rfl hl (by decide) rfl (fun ls hl => ?_)
      refine lv_ldc (v := (-900002)) hx hb hown (hts _ (lwM tw99)) dL_runScript_10 ?_
      subst hQ
      refine W.widen (k := 1) (n := 6) (Nat.le_of_ble_eq_true rfl) (Nat.le_of_ble_eq_true rfl) ?_
      exact W.iret hx hb hr (gRi1 (c1 := v) (wf := fun v => [kDW g a ra v]) hA0 hsz hw hP hD hS) hS.2.2 dL_runScript_12
  · have hP : va_P g.1 vwCl (List.flatten [kDW g a ra v]) H := hP
    have hD : va_D A (List.flatten [kDW g a ra v]) := hD
    subst hQ
    refine W.widen (k := 1) (n := 6) (Nat.le_of_ble_eq_true rfl) (Nat.le_of_ble_eq_true rfl) ?_
    exact W.iret hx hb hr (gRi1 (c1 := v) (wf := fun v => [kDW g a ra v]) hA0 hsz hw hP hD hS) hS.2.2 dL_runScript_4
abbrev rmL_undo : Room := { frames := 7, cells := 1, slots := 6, locals := 344 }
set_option maxHeartbeats 4000000 in
set_option maxRecDepth 100000 in
theorem ctL_undo (l : Launch) (hl0 : l.stackTraces = false) (g : GG) (t : GT) (a ra : Nat → Nat → Nat) (sz : Nat) (V : DV) {post : Int32 → DV → Prop} (hw : wpL_undo V post) :
    Met l yL_undo wsB_L_undo rmL_undo (gPX g t sz (List.flatten [kDW g a ra V]) [.ref (a 0 0)]) (va_Qi post (fun v => gB g (List.flatten [kDW g a ra V]) sz (List.flatten [kDW g a ra v])) (va_A (List.flatten [kDW g a ra V]) sz)) 1 6 (va_A (List.flatten [kDW g a ra V]) sz) := by
  refine gOfXW (cc := cL_undo) (maxL := 2) (ret := (some .int)) (hh := [(0, 4, 5, 35)]) (by decide) rfl (Nat.le_of_ble_eq_true rfl) ?_
  intro p e s m below meth c ls Q A hQ hx hb hr hml hts hown hlocks hE hA0 hsz hP hD hA hS hl hX hT
  have hl : lv_has ls 2 [(0, .ref (a 0 0))] := hl
  refine lv_aload_n hx hb dL_undo_0 rfl (lv_at hl 0 rfl) ?_
  refine gXi1 (bs := [kDW g a ra V]) (wf := fun v => [kDW g a ra v]) (gRunVT (As := []) (rest := []) ⟨hx, hb, hml, hown, hts⟩ (ctP_undo l hl0 g t a ra _ V hw) (cwV 0 hts (goodF gV_X6_undo) rfl rfl rfl (by decide +kernel) ⟨Nat.le_of_ble_eq_true rfl, Nat.le_of_ble_eq_true rfl⟩) hE hX hS (gFree (bs := [kDW g a ra V]) hD hS hA [0]) (gSub (bs := [kDW g a ra V]) hP [0]) (gDSub (bs := [kDW g a ra V]) hD [0] rfl) 0 10 rfl rfl rfl rfl rfl hl.1 rfl (lv_room (Nat.le_of_ble_eq_true rfl)) dL_undo_1 ⟨Nat.le_of_ble_eq_true rfl, Nat.le_of_ble_eq_true rfl⟩) hP hD hS hA [0] rfl (fun _ => rfl) rfl (fun E ce q v H locs hw hP hD hS hc hcv hcl => ?_) (fun r v H locs hw hP hD hS => ?_)
  · have hP : va_P g.1 vwCl (List.flatten [kDW g a ra v]) H := hP
    have hD : va_D A (List.flatten [kDW g a ra v]) := hD
    obtain ⟨rfl, hw⟩ := hw
    refine vx_catch (own := RL) (name := "java/util/NoSuchElementException") hown (tableOf []) ⟨0, 4, 5, 35⟩ (tableOf []) (hT.trans rfl) (fun z hz => absurd hz List.not_mem_nil) (by decide) (by decide) (hts _ (lwM tw152)) (hX.cast (E := "java/util/NoSuchElementException") (by decide)) hc hcv hcl ?_
    refine lv_astore_n (lv' := (1, .ref q) :: [(0, .ref (a 0 0))]) hx hb dL_undo_5 rfl hl (by decide) rfl (fun ls hl => ?_)
    refine lv_ldc (v := (-900001)) hx hb hown (hts _ (lwM tw97)) dL_undo_6 ?_
    subst hQ
    refine W.widen (k := 1) (n := 6) (Nat.le_of_ble_eq_true rfl) (Nat.le_of_ble_eq_true rfl) ?_
    exact W.iret hx hb hr (gRi1 (c1 := v) (wf := fun v => [kDW g a ra v]) hA0 hsz hw hP hD hS) hS.2.2 dL_undo_8
  · have hP : va_P g.1 vwCl (List.flatten [kDW g a ra v]) H := hP
    have hD : va_D A (List.flatten [kDW g a ra v]) := hD
    subst hQ
    refine W.widen (k := 1) (n := 6) (Nat.le_of_ble_eq_true rfl) (Nat.le_of_ble_eq_true rfl) ?_
    exact W.iret hx hb hr (gRi1 (c1 := v) (wf := fun v => [kDW g a ra v]) hA0 hsz hw hP hD hS) hS.2.2 dL_undo_4
abbrev rmL_restore : Room := { frames := 7, cells := 1, slots := 6, locals := 165 }
set_option maxHeartbeats 4000000 in
set_option maxRecDepth 100000 in
theorem ctL_restore (l : Launch) (hl0 : l.stackTraces = false) (g : GG) (t : GT) (a ra : Nat → Nat → Nat) (sz : Nat) (V : DV) {post : Int32 → DV → Prop} (hw : wpL_restore V post) :
    Met l yL_restore wsB_L_restore rmL_restore (gPX g t sz (List.flatten [kDW g a ra V]) [.ref (a 0 0)]) (va_Qi post (fun v => gB g (List.flatten [kDW g a ra V]) sz (List.flatten [kDW g a ra v])) (va_A (List.flatten [kDW g a ra V]) sz)) 1 6 (va_A (List.flatten [kDW g a ra V]) sz) := by
  refine gOfXW (cc := cL_restore) (maxL := 2) (ret := (some .int)) (hh := [(0, 4, 5, 21)]) (by decide) rfl (Nat.le_of_ble_eq_true rfl) ?_
  intro p e s m below meth c ls Q A hQ hx hb hr hml hts hown hlocks hE hA0 hsz hP hD hA hS hl hX hT
  have hl : lv_has ls 2 [(0, .ref (a 0 0))] := hl
  refine lv_aload_n hx hb dL_restore_0 rfl (lv_at hl 0 rfl) ?_
  refine gXi1 (bs := [kDW g a ra V]) (wf := fun v => [kDW g a ra v]) (gRunVT (As := []) (rest := []) ⟨hx, hb, hml, hown, hts⟩ (ctP_restore l hl0 g t a ra _ V hw) (cwV 0 hts (goodF gV_X6_restore) rfl rfl rfl (by decide +kernel) ⟨Nat.le_of_ble_eq_true rfl, Nat.le_of_ble_eq_true rfl⟩) hE hX hS (gFree (bs := [kDW g a ra V]) hD hS hA [0]) (gSub (bs := [kDW g a ra V]) hP [0]) (gDSub (bs := [kDW g a ra V]) hD [0] rfl) 0 10 rfl rfl rfl rfl rfl hl.1 rfl (lv_room (Nat.le_of_ble_eq_true rfl)) dL_restore_1 ⟨Nat.le_of_ble_eq_true rfl, Nat.le_of_ble_eq_true rfl⟩) hP hD hS hA [0] rfl (fun _ => rfl) rfl (fun E ce q v H locs hw hP hD hS hc hcv hcl => ?_) (fun r v H locs hw hP hD hS => ?_)
  · have hP : va_P g.1 vwCl (List.flatten [kDW g a ra v]) H := hP
    have hD : va_D A (List.flatten [kDW g a ra v]) := hD
    obtain ⟨rfl, hw⟩ := hw
    refine vx_catch (own := RL) (name := "java/lang/IllegalStateException") hown (tableOf []) ⟨0, 4, 5, 21⟩ (tableOf []) (hT.trans rfl) (fun z hz => absurd hz List.not_mem_nil) (by decide) (by decide) (hts _ (lwM tw100)) (hX.cast (E := "java/lang/IllegalStateException") (by decide)) hc hcv hcl ?_
    refine lv_astore_n (lv' := (1, .ref q) :: [(0, .ref (a 0 0))]) hx hb dL_restore_5 rfl hl (by decide) rfl (fun ls hl => ?_)
    refine lv_ldc (v := (-900001)) hx hb hown (hts _ (lwM tw97)) dL_restore_6 ?_
    subst hQ
    refine W.widen (k := 1) (n := 6) (Nat.le_of_ble_eq_true rfl) (Nat.le_of_ble_eq_true rfl) ?_
    exact W.iret hx hb hr (gRi1 (c1 := v) (wf := fun v => [kDW g a ra v]) hA0 hsz hw hP hD hS) hS.2.2 dL_restore_8
  · have hP : va_P g.1 vwCl (List.flatten [kDW g a ra v]) H := hP
    have hD : va_D A (List.flatten [kDW g a ra v]) := hD
    subst hQ
    refine W.widen (k := 1) (n := 6) (Nat.le_of_ble_eq_true rfl) (Nat.le_of_ble_eq_true rfl) ?_
    exact W.iret hx hb hr (gRi1 (c1 := v) (wf := fun v => [kDW g a ra v]) hA0 hsz hw hP hD hS) hS.2.2 dL_restore_4
