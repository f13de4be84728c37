/-! contract: by program -/
abbrev rmL_limit : Room := { frames := 7, cells := 1, slots := 6, locals := 144 }
set_option maxHeartbeats 8000000 in
set_option maxRecDepth 100000 in
theorem ctL_limit (l : Launch) (hl0 : l.stackTraces = false) (g : GG) (t : GT) (a_dw0 : Nat → Nat → Nat) (ra_dw0 : Nat → Nat → Nat) (V_dw0 : DV) (sz : Nat) (x1 : Int32) {post : Int32 → DV → Prop} (hw : wpL_limit x1 V_dw0 post) :
    Met l yL_limit wsB_L_limit rmL_limit (gPL g t sz (List.flatten [kDW g a_dw0 ra_dw0 V_dw0]) [.ref (a_dw0 0 0), .int x1]) (gQi1 post (fun u1 => gB g (List.flatten [kDW g a_dw0 ra_dw0 V_dw0]) sz (List.flatten ((fun c1 => [kDW g a_dw0 ra_dw0 c1]) u1))) (va_A (List.flatten [kDW g a_dw0 ra_dw0 V_dw0]) sz)) 1 6 (va_A (List.flatten [kDW g a_dw0 ra_dw0 V_dw0]) sz) := by
  refine gOfL (cc := cL_limit) (maxL := 2) (ret := (some .int)) (by decide) rfl (Nat.le_of_ble_eq_true rfl) ?_
  intro p e s m below meth c ls Q A hQ hx hb hr hml hts hown hlocks hE hA0 hsz hP hD hA hS hl hX hN
  have hl : lv_has ls 2 [(0, .ref (a_dw0 0 0)), (1, .int x1)] := hl
  refine lv_iconst (v := 5) hx hb dL_limit_0 (by decide) ?_
  refine lv_aload_n hx hb dL_limit_1 rfl (lv_at hl 0 rfl) ?_
  refine lv_iload_n hx hb dL_limit_2 rfl (lv_at hl 1 rfl) ?_
  refine gCi1 (bs := [kDW g a_dw0 ra_dw0 V_dw0]) (wf := (fun v => [kDW g a_dw0 ra_dw0 v])) (gRunVL (As := [.int x1]) (rest := [.int 5]) ⟨hx, hb, hml, hown, hts⟩ (gMetL (ctP_streetClass l hl0 g t a_dw0 ra_dw0 _ V_dw0 x1 (show wpD_streetClass x1 V_dw0 _ from hw))) (cwV 1 hts (goodF gV_X6_streetClass) rfl rfl rfl (by decide +kernel) ⟨Nat.le_of_ble_eq_true rfl, Nat.le_of_ble_eq_true rfl⟩) hE hN hX hS (gFree (bs := [kDW g a_dw0 ra_dw0 V_dw0]) hD hS hA [0]) (gSub (bs := [kDW g a_dw0 ra_dw0 V_dw0]) hP [0]) (gDSub (bs := [kDW g a_dw0 ra_dw0 V_dw0]) hD [0] rfl) 0 10 rfl rfl rfl rfl rfl hl.1 rfl (lv_room (Nat.le_of_ble_eq_true rfl)) dL_limit_3 ⟨(by show _ ≤ 1; omega), (by show _ ≤ 6; omega)⟩) hP hD hS hA [0] rfl (fun _ => rfl) rfl (fun r1 V_v1 H locs hw hP hD hS => ?_)
  have hP : va_P g.1 vwCl (List.flatten [kDW g a_dw0 ra_dw0 V_v1]) H := hP
  have hD : va_D A (List.flatten [kDW g a_dw0 ra_dw0 V_v1]) := hD
  refine lv_bipush (v := 97) hx hb dL_limit_6 (by decide) ?_
  refine lv_isub hx hb dL_limit_8 ?_
  refine lv_iconst (v := 1) hx hb dL_limit_9 (by decide) ?_
  refine lv_iadd hx hb dL_limit_10 ?_
  refine lv_imul hx hb dL_limit_11 ?_
  subst hQ
  refine W.widen (k := 1) (n := 6) (by omega) (by omega) ?_
  exact W.iret hx hb hr (gRi1 (c1 := V_v1) (wf := (fun c1 => [kDW g a_dw0 ra_dw0 c1])) hA0 hsz hw hP hD hS) hS.2.2 dL_limit_12
