/-! contract: by program -/
abbrev rmL_isWell : Room := { frames := 8, cells := 835, slots := 5028, locals := 274 }
set_option maxHeartbeats 8000000 in
set_option maxRecDepth 100000 in
theorem ctL_isWell (l : Launch) (hl0 : l.stackTraces = false) (g : GG) (t : GT) (a_dw0 : Nat → Nat → Nat) (ra_dw0 : Nat → Nat → Nat) (V_dw0 : DV) (sz : Nat) {post : Int32 → DV → Prop} (hw : wpL_isWell V_dw0 post) :
    Met l yL_isWell wsB_L_isWell rmL_isWell (gPL g t sz (List.flatten [kDW g a_dw0 ra_dw0 V_dw0]) [.ref (a_dw0 0 0)]) (gQi1 post (fun u1 => gB g (List.flatten [kDW g a_dw0 ra_dw0 V_dw0]) sz (List.flatten ((fun c1 => [kDW g a_dw0 ra_dw0 c1]) u1))) (va_A (List.flatten [kDW g a_dw0 ra_dw0 V_dw0]) sz)) 835 5028 (va_A (List.flatten [kDW g a_dw0 ra_dw0 V_dw0]) sz) := by
  refine gOfL (cc := cL_isWell) (maxL := 8) (ret := (some .boolean)) (by decide) rfl (Nat.le_of_ble_eq_true rfl) ?_
  intro p e s m below meth c ls Q A hQ hx hb hr hml hts hown hlocks hE hA0 hsz hP hD hA hS hl hX hN
  have hl : lv_has ls 8 [(0, .ref (a_dw0 0 0))] := hl
  have L221 : ∀ (n : Nat) (x2_221 : Int32) (x3_221 : Int32) (V_dw0_221 : DV) (at_y1_221 : Nat → Nat) (f_y1_221 : Nat → Nat → Int32) (H : Heap) (locs : List Loc) (ls : Array Slot) (cl sl : Nat), cl + zbud 86 n ≤ 835 → sl + zbud 516 n ≤ 5028 → wpL_isWell_L221 post n x2_221 x3_221 V_dw0_221 at_y1_221 f_y1_221 → va_P g.1 vwCl (List.flatten [kDW g a_dw0 ra_dw0 V_dw0_221, kDd g at_y1_221 f_y1_221]) H → va_D A (List.flatten [kDW g a_dw0 ra_dw0 V_dw0_221, kDd g at_y1_221 f_y1_221]) → va_S A s.heap H locs → lv_has ls 8 [(0, .ref (a_dw0 0 0)), (1, .ref (at_y1_221 0)), (2, .int x2_221), (3, .int x3_221)] → W p l e rmL_isWell s m (([.ref (a_dw0 0 0)] : List Value).toArray) below meth c H locs cl sl Q (F0 m 221 ls []) := by
    intro n_221
    induction n_221 with
    | zero => intro x2_221 x3_221 V_dw0_221 at_y1_221 f_y1_221 H locs ls cl sl _ _ hw; exact False.elim hw
    | succ n_221 ih_221 =>
      intro x2_221 x3_221 V_dw0_221 at_y1_221 f_y1_221 H locs ls cl_221 sl_221 hc_221 hs_221 hw hP hD hS hl
      have hc_221 := zbud_s hc_221
      have hs_221 := zbud_s hs_221
      have L323 : ∀ (n : Nat) (x2_323 : Int32) (x3_323 : Int32) (x6_323 : Int32) (V_dw0_323 : DV) (at_y1_323 : Nat → Nat) (f_y1_323 : Nat → Nat → Int32) (H : Heap) (locs : List Loc) (ls : Array Slot) (cl sl : Nat), cl + zbud 6 n ≤ cl_221 + 86 → sl + zbud 36 n ≤ sl_221 + 516 → wpL_isWell_L323 (wpL_isWell_L221 post n_221) post n x2_323 x3_323 x6_323 V_dw0_323 at_y1_323 f_y1_323 → va_P g.1 vwCl (List.flatten [kDW g a_dw0 ra_dw0 V_dw0_323, kDd g at_y1_323 f_y1_323]) H → va_D A (List.flatten [kDW g a_dw0 ra_dw0 V_dw0_323, kDd g at_y1_323 f_y1_323]) → va_S A s.heap H locs → lv_has ls 8 [(0, .ref (a_dw0 0 0)), (1, .ref (at_y1_323 0)), (2, .int x2_323), (3, .int x3_323), (6, .int x6_323)] → W p l e rmL_isWell s m (([.ref (a_dw0 0 0)] : List Value).toArray) below meth c H locs cl sl Q (F0 m 323 ls []) := by
        intro n_323
        induction n_323 with
        | zero => intro x2_323 x3_323 x6_323 V_dw0_323 at_y1_323 f_y1_323 H locs ls cl sl _ _ hw; exact False.elim hw
        | succ n_323 ih_323 =>
          intro x2_323 x3_323 x6_323 V_dw0_323 at_y1_323 f_y1_323 H locs ls cl_323 sl_323 hc_323 hs_323 hw hP hD hS hl
          have hc_323 := zbud_s hc_323
          have hs_323 := zbud_s hs_323
          refine lv_iload hx hb dL_isWell_323 (lv_at hl 4 rfl) ?_
          refine lv_aload_n hx hb dL_isWell_325 rfl (lv_at hl 0 rfl) ?_
          refine gCi1 (bs := [kDW g a_dw0 ra_dw0 V_dw0_323, kDd g at_y1_323 f_y1_323]) (wf := (fun v => [kDW g a_dw0 ra_dw0 v])) (gRunVL (As := []) (rest := [.int x6_323]) ⟨hx, hb, hml, hown, hts⟩ (gMetL (ctP_streetCount l hl0 g t a_dw0 ra_dw0 _ V_dw0_323 hw)) (cwV 0 hts (goodF gV_X6_streetCount) rfl rfl rfl (by decide +kernel) ⟨Nat.le_of_ble_eq_true rfl, Nat.le_of_ble_eq_true rfl⟩) hE hN hX hS (gFree (bs := [kDW g a_dw0 ra_dw0 V_dw0_323, kDd g at_y1_323 f_y1_323]) hD hS hA [0]) (gSub (bs := [kDW g a_dw0 ra_dw0 V_dw0_323, kDd g at_y1_323 f_y1_323]) hP [0]) (gDSub (bs := [kDW g a_dw0 ra_dw0 V_dw0_323, kDd g at_y1_323 f_y1_323]) hD [0] rfl) 0 10 rfl rfl rfl rfl rfl hl.1 rfl (lv_room (Nat.le_of_ble_eq_true rfl)) dL_isWell_326 ⟨(by show _ ≤ 835; omega), (by show _ ≤ 5028; omega)⟩) hP hD hS hA [0] rfl (fun _ => rfl) rfl (fun r12 V_v12 H locs hw hP hD hS => ?_)
          have hP : va_P g.1 vwCl (List.flatten [kDW g a_dw0 ra_dw0 V_v12, kDd g at_y1_323 f_y1_323]) H := hP
          have hD : va_D A (List.flatten [kDW g a_dw0 ra_dw0 V_v12, kDd g at_y1_323 f_y1_323]) := hD
          refine lv_icmp_ge (tgt := 409) hx hb dL_isWell_329 (by decide) (fun c_329 => ?_) (fun c_329 => ?_)
          · have hw := hw.1 c_329
            refine lv_iinc (v := (x3_323 + 1)) (lv' := [(3, .int (x3_323 + 1)), (0, .ref (a_dw0 0 0)), (1, .ref (at_y1_323 0)), (2, .int x2_323), (6, .int x6_323)]) hx hb dL_isWell_409 hl (k := 3) rfl rfl (by decide) rfl (fun ls hl => ?_)
            refine lv_goto (tgt := 221) hx hb dL_isWell_412 (by decide) ?_
            exact ih_221 x2_323 (x3_323 + 1) V_v12 at_y1_323 f_y1_323 _ _ _ _ _ (by omega) (by omega) hw hP hD hS (lv_sub hl [1, 2, 3, 0] rfl)
          · have hw := hw.2 c_329
            refine lv_aload_n hx hb dL_isWell_332 rfl (lv_at hl 1 rfl) ?_
            refine lv_aload_n hx hb dL_isWell_333 rfl (lv_at hl 0 rfl) ?_
            refine lv_iload_n hx hb dL_isWell_334 rfl (lv_at hl 3 rfl) ?_
            refine gCi1 (bs := [kDW g a_dw0 ra_dw0 V_v12, kDd g at_y1_323 f_y1_323]) (wf := (fun v => [kDW g a_dw0 ra_dw0 v])) (gRunVL (As := [.int x3_323]) (rest := [.ref (at_y1_323 0)]) ⟨hx, hb, hml, hown, hts⟩ (gMetL (ctP_junction l hl0 g t a_dw0 ra_dw0 _ V_v12 x3_323 (show wpD_junction x3_323 V_v12 _ from hw))) (cwV 1 hts (goodF gV_X6_junction) rfl rfl rfl (by decide +kernel) ⟨Nat.le_of_ble_eq_true rfl, Nat.le_of_ble_eq_true rfl⟩) hE hN hX hS (gFree (bs := [kDW g a_dw0 ra_dw0 V_v12, kDd g at_y1_323 f_y1_323]) hD hS hA [0]) (gSub (bs := [kDW g a_dw0 ra_dw0 V_v12, kDd g at_y1_323 f_y1_323]) hP [0]) (gDSub (bs := [kDW g a_dw0 ra_dw0 V_v12, kDd g at_y1_323 f_y1_323]) hD [0] rfl) 0 10 rfl rfl rfl rfl rfl hl.1 rfl (lv_room (Nat.le_of_ble_eq_true rfl)) dL_isWell_335 ⟨(by show _ ≤ 835; omega), (by show _ ≤ 5028; omega)⟩) hP hD hS hA [0] rfl (fun _ => rfl) rfl (fun r13 V_v13 H locs hw hP hD hS => ?_)
            have hP : va_P g.1 vwCl (List.flatten [kDW g a_dw0 ra_dw0 V_v13, kDd g at_y1_323 f_y1_323]) H := hP
            have hD : va_D A (List.flatten [kDW g a_dw0 ra_dw0 V_v13, kDd g at_y1_323 f_y1_323]) := hD
            have h14 := hw.1
            have hw := hw.2
            refine kDd_ld hx hb hE hP h14 dL_isWell_338 ?_
            refine lv_aload_n hx hb dL_isWell_339 rfl (lv_at hl 0 rfl) ?_
            refine lv_iload hx hb dL_isWell_340 (lv_at hl 4 rfl) ?_
            refine gCi1 (bs := [kDW g a_dw0 ra_dw0 V_v13, kDd g at_y1_323 f_y1_323]) (wf := (fun v => [kDW g a_dw0 ra_dw0 v])) (gRunVL (As := [.int x6_323]) (rest := [.ref (at_y1_323 (1 + r13.toNatClampNeg))]) ⟨hx, hb, hml, hown, hts⟩ (gMetL (ctP_lowerEnd l hl0 g t a_dw0 ra_dw0 _ V_v13 x6_323 (show wpD_lowerEnd x6_323 V_v13 _ from hw))) (cwV 1 hts (goodF gV_X6_lowerEnd) rfl rfl rfl (by decide +kernel) ⟨Nat.le_of_ble_eq_true rfl, Nat.le_of_ble_eq_true rfl⟩) hE hN hX hS (gFree (bs := [kDW g a_dw0 ra_dw0 V_v13, kDd g at_y1_323 f_y1_323]) hD hS hA [0]) (gSub (bs := [kDW g a_dw0 ra_dw0 V_v13, kDd g at_y1_323 f_y1_323]) hP [0]) (gDSub (bs := [kDW g a_dw0 ra_dw0 V_v13, kDd g at_y1_323 f_y1_323]) hD [0] rfl) 0 10 rfl rfl rfl rfl rfl hl.1 rfl (lv_room (Nat.le_of_ble_eq_true rfl)) dL_isWell_342 ⟨(by show _ ≤ 835; omega), (by show _ ≤ 5028; omega)⟩) hP hD hS hA [0] rfl (fun _ => rfl) rfl (fun r15 V_v15 H locs hw hP hD hS => ?_)
            have hP : va_P g.1 vwCl (List.flatten [kDW g a_dw0 ra_dw0 V_v15, kDd g at_y1_323 f_y1_323]) H := hP
            have hD : va_D A (List.flatten [kDW g a_dw0 ra_dw0 V_v15, kDd g at_y1_323 f_y1_323]) := hD
            have h16 := hw.1
            have hw := hw.2
            refine va_iald hx hb hE.1 hP _ 0 (kDd_get (va_lt8 h14)) rfl h16 dL_isWell_345 ?_
            refine lv_aload_n hx hb dL_isWell_346 rfl (lv_at hl 1 rfl) ?_
            refine lv_aload_n hx hb dL_isWell_347 rfl (lv_at hl 0 rfl) ?_
            refine lv_iload_n hx hb dL_isWell_348 rfl (lv_at hl 3 rfl) ?_
            refine gCi1 (bs := [kDW g a_dw0 ra_dw0 V_v15, kDd g at_y1_323 f_y1_323]) (wf := (fun v => [kDW g a_dw0 ra_dw0 v])) (gRunVL (As := [.int x3_323]) (rest := [.ref (at_y1_323 0), .int (f_y1_323 r13.toNatClampNeg r15.toNatClampNeg)]) ⟨hx, hb, hml, hown, hts⟩ (gMetL (ctP_junction l hl0 g t a_dw0 ra_dw0 _ V_v15 x3_323 (show wpD_junction x3_323 V_v15 _ from hw))) (cwV 1 hts (goodF gV_X6_junction) rfl rfl rfl (by decide +kernel) ⟨Nat.le_of_ble_eq_true rfl, Nat.le_of_ble_eq_true rfl⟩) hE hN hX hS (gFree (bs := [kDW g a_dw0 ra_dw0 V_v15, kDd g at_y1_323 f_y1_323]) hD hS hA [0]) (gSub (bs := [kDW g a_dw0 ra_dw0 V_v15, kDd g at_y1_323 f_y1_323]) hP [0]) (gDSub (bs := [kDW g a_dw0 ra_dw0 V_v15, kDd g at_y1_323 f_y1_323]) hD [0] rfl) 0 10 rfl rfl rfl rfl rfl hl.1 rfl (lv_room (Nat.le_of_ble_eq_true rfl)) dL_isWell_349 ⟨(by show _ ≤ 835; omega), (by show _ ≤ 5028; omega)⟩) hP hD hS hA [0] rfl (fun _ => rfl) rfl (fun r17 V_v17 H locs hw hP hD hS => ?_)
            have hP : va_P g.1 vwCl (List.flatten [kDW g a_dw0 ra_dw0 V_v17, kDd g at_y1_323 f_y1_323]) H := hP
            have hD : va_D A (List.flatten [kDW g a_dw0 ra_dw0 V_v17, kDd g at_y1_323 f_y1_323]) := hD
            have h18 := hw.1
            have hw := hw.2
            refine kDd_ld hx hb hE hP h18 dL_isWell_352 ?_
            refine lv_aload_n hx hb dL_isWell_353 rfl (lv_at hl 0 rfl) ?_
            refine lv_iload hx hb dL_isWell_354 (lv_at hl 4 rfl) ?_
            refine gCi1 (bs := [kDW g a_dw0 ra_dw0 V_v17, kDd g at_y1_323 f_y1_323]) (wf := (fun v => [kDW g a_dw0 ra_dw0 v])) (gRunVL (As := [.int x6_323]) (rest := [.ref (at_y1_323 (1 + r17.toNatClampNeg)), .int (f_y1_323 r13.toNatClampNeg r15.toNatClampNeg)]) ⟨hx, hb, hml, hown, hts⟩ (gMetL (ctP_higherEnd l hl0 g t a_dw0 ra_dw0 _ V_v17 x6_323 (show wpD_higherEnd x6_323 V_v17 _ from hw))) (cwV 1 hts (goodF gV_X6_higherEnd) rfl rfl rfl (by decide +kernel) ⟨Nat.le_of_ble_eq_true rfl, Nat.le_of_ble_eq_true rfl⟩) hE hN hX hS (gFree (bs := [kDW g a_dw0 ra_dw0 V_v17, kDd g at_y1_323 f_y1_323]) hD hS hA [0]) (gSub (bs := [kDW g a_dw0 ra_dw0 V_v17, kDd g at_y1_323 f_y1_323]) hP [0]) (gDSub (bs := [kDW g a_dw0 ra_dw0 V_v17, kDd g at_y1_323 f_y1_323]) hD [0] rfl) 0 10 rfl rfl rfl rfl rfl hl.1 rfl (lv_room (Nat.le_of_ble_eq_true rfl)) dL_isWell_356 ⟨(by show _ ≤ 835; omega), (by show _ ≤ 5028; omega)⟩) hP hD hS hA [0] rfl (fun _ => rfl) rfl (fun r19 V_v19 H locs hw hP hD hS => ?_)
            have hP : va_P g.1 vwCl (List.flatten [kDW g a_dw0 ra_dw0 V_v19, kDd g at_y1_323 f_y1_323]) H := hP
            have hD : va_D A (List.flatten [kDW g a_dw0 ra_dw0 V_v19, kDd g at_y1_323 f_y1_323]) := hD
            have h20 := hw.1
            have hw := hw.2
            refine va_iald hx hb hE.1 hP _ 0 (kDd_get (va_lt8 h18)) rfl h20 dL_isWell_359 ?_
            refine va_mmin hx hb (hml.trans hl.1.symm) hown (hts _ (lwM tw716)) (hts _ (lwM tw55)) (hts _ (lwM tw54)) (hts _ (lwM tw53)) (Nat.le_of_ble_eq_true rfl) (Nat.le_of_ble_eq_true rfl) (by show _ ≤ 835; omega) (by show _ ≤ 5028; omega) dL_isWell_360 ?_
            refine lv_istore (lv' := [(7, .int (if (f_y1_323 r17.toNatClampNeg r19.toNatClampNeg) < (f_y1_323 r13.toNatClampNeg r15.toNatClampNeg) then (f_y1_323 r17.toNatClampNeg r19.toNatClampNeg) else (f_y1_323 r13.toNatClampNeg r15.toNatClampNeg))), (0, .ref (a_dw0 0 0)), (1, .ref (at_y1_323 0)), (2, .int x2_323), (3, .int x3_323), (6, .int x6_323)]) hx hb dL_isWell_363 hl (by decide) rfl (fun ls hl => ?_)
            refine lv_aload_n hx hb dL_isWell_365 rfl (lv_at hl 1 rfl) ?_
            refine lv_iload_n hx hb dL_isWell_366 rfl (lv_at hl 4 rfl) ?_
            refine lv_iload hx hb dL_isWell_367 (lv_at hl 5 rfl) ?_
            refine gCi1 (bs := [kDW g a_dw0 ra_dw0 V_v19, kDd g at_y1_323 f_y1_323]) (wf := (fun v => [kDW g a_dw0 ra_dw0 v])) (gRunSWL (As := [.ref (a_dw0 0 0), .int x3_323, .int x6_323]) (rest := []) ⟨hx, hb, hml, hown, hts⟩ (gMetL (ctL_orderMinutes l hl0 g t a_dw0 ra_dw0 _ V_v19 x3_323 x6_323 hw)) (vx_cwSW 3 hts (goodF gS_L_orderMinutes) rfl rfl rfl (by decide +kernel) ⟨Nat.le_of_ble_eq_true rfl, Nat.le_of_ble_eq_true rfl⟩) hE hN hX hS (gFree (bs := [kDW g a_dw0 ra_dw0 V_v19, kDd g at_y1_323 f_y1_323]) hD hS hA [0]) (gSub (bs := [kDW g a_dw0 ra_dw0 V_v19, kDd g at_y1_323 f_y1_323]) hP [0]) (gDSub (bs := [kDW g a_dw0 ra_dw0 V_v19, kDd g at_y1_323 f_y1_323]) hD [0] rfl) rfl rfl hl.1 rfl (lv_room (Nat.le_of_ble_eq_true rfl)) dL_isWell_369 ⟨(by show _ ≤ 835; omega), (by show _ ≤ 5028; omega)⟩) hP hD hS hA [0] rfl (fun _ => rfl) rfl (fun r21 V_v21 H locs hw hP hD hS => ?_)
            have hP : va_P g.1 vwCl (List.flatten [kDW g a_dw0 ra_dw0 V_v21, kDd g at_y1_323 f_y1_323]) H := hP
            have hD : va_D A (List.flatten [kDW g a_dw0 ra_dw0 V_v21, kDd g at_y1_323 f_y1_323]) := hD
            refine lv_iload hx hb dL_isWell_372 (lv_at hl 0 rfl) ?_
            refine lv_sipush (v := 9999) hx hb dL_isWell_374 (by decide) ?_
            refine lv_icmp_lt (tgt := 385) hx hb dL_isWell_377 (by decide) (fun c_377 => ?_) (fun c_377 => ?_)
            · have hw := hw.1 c_377
              refine lv_iconst (v := 2) hx hb dL_isWell_385 (by decide) ?_
              refine lv_iload hx hb dL_isWell_386 (lv_at hl 0 rfl) ?_
              refine lv_imul hx hb dL_isWell_388 ?_
              refine lv_iconst (v := 4) hx hb dL_isWell_389 (by decide) ?_
              refine lv_aload_n hx hb dL_isWell_390 rfl (lv_at hl 1 rfl) ?_
              refine lv_iload hx hb dL_isWell_391 (lv_at hl 5 rfl) ?_
              refine gCi1 (bs := [kDW g a_dw0 ra_dw0 V_v21, kDd g at_y1_323 f_y1_323]) (wf := (fun v => [kDW g a_dw0 ra_dw0 v])) (gRunVL (As := [.int x6_323]) (rest := [.int 4, .int (2 * (if (f_y1_323 r17.toNatClampNeg r19.toNatClampNeg) < (f_y1_323 r13.toNatClampNeg r15.toNatClampNeg) then (f_y1_323 r17.toNatClampNeg r19.toNatClampNeg) else (f_y1_323 r13.toNatClampNeg r15.toNatClampNeg))), .int r21]) ⟨hx, hb, hml, hown, hts⟩ (gMetL (ctP_length l hl0 g t a_dw0 ra_dw0 _ V_v21 x6_323 (show wpD_length x6_323 V_v21 _ from hw))) (cwV 1 hts (goodF gV_X6_length) rfl rfl rfl (by decide +kernel) ⟨Nat.le_of_ble_eq_true rfl, Nat.le_of_ble_eq_true rfl⟩) hE hN hX hS (gFree (bs := [kDW g a_dw0 ra_dw0 V_v21, kDd g at_y1_323 f_y1_323]) hD hS hA [0]) (gSub (bs := [kDW g a_dw0 ra_dw0 V_v21, kDd g at_y1_323 f_y1_323]) hP [0]) (gDSub (bs := [kDW g a_dw0 ra_dw0 V_v21, kDd g at_y1_323 f_y1_323]) hD [0] rfl) 0 10 rfl rfl rfl rfl rfl hl.1 rfl (lv_room (Nat.le_of_ble_eq_true rfl)) dL_isWell_393 ⟨(by show _ ≤ 835; omega), (by show _ ≤ 5028; omega)⟩) hP hD hS hA [0] rfl (fun _ => rfl) rfl (fun r22 V_v22 H locs hw hP hD hS => ?_)
              have hP : va_P g.1 vwCl (List.flatten [kDW g a_dw0 ra_dw0 V_v22, kDd g at_y1_323 f_y1_323]) H := hP
              have hD : va_D A (List.flatten [kDW g a_dw0 ra_dw0 V_v22, kDd g at_y1_323 f_y1_323]) := hD
              refine lv_imul hx hb dL_isWell_396 ?_
              refine lv_iadd hx hb dL_isWell_397 ?_
              refine lv_icmp_eq (tgt := 403) hx hb dL_isWell_398 (by decide) (fun c_398 => ?_) (fun c_398 => ?_)
              · have hw := hw.1 c_398
                refine lv_iinc (v := (x6_323 + 1)) (lv' := [(6, .int (x6_323 + 1)), (7, .int (if (f_y1_323 r17.toNatClampNeg r19.toNatClampNeg) < (f_y1_323 r13.toNatClampNeg r15.toNatClampNeg) then (f_y1_323 r17.toNatClampNeg r19.toNatClampNeg) else (f_y1_323 r13.toNatClampNeg r15.toNatClampNeg))), (0, .ref (a_dw0 0 0)), (1, .ref (at_y1_323 0)), (2, .int x2_323), (3, .int x3_323)]) hx hb dL_isWell_403 hl (k := 5) rfl rfl (by decide) rfl (fun ls hl => ?_)
                refine lv_goto (tgt := 323) hx hb dL_isWell_406 (by decide) ?_
                exact ih_323 x2_323 x3_323 (x6_323 + 1) V_v22 at_y1_323 f_y1_323 _ _ _ _ _ (by omega) (by omega) hw hP hD hS (lv_sub hl [2, 3, 4, 5, 0] rfl)
              · have hw := hw.2 c_398
                refine lv_iconst (v := 0) hx hb dL_isWell_401 (by decide) ?_
                have hP := gSub hP [0]
                have hD := gDSub hD [0] rfl
                have hP : va_P g.1 vwCl (List.flatten [kDW g a_dw0 ra_dw0 V_v22]) H := hP
                have hD : va_D A (List.flatten [kDW g a_dw0 ra_dw0 V_v22]) := hD
                subst hQ
                refine W.widen (k := 835) (n := 5028) (by omega) (by omega) ?_
                exact W.zret (ty := .boolean) hx hb hr (by decide) (gRi1 (c1 := V_v22) (wf := (fun c1 => [kDW g a_dw0 ra_dw0 c1])) hA0 hsz hw hP hD hS) hS.2.2 dL_isWell_402
            · have hw := hw.2 c_377
              refine lv_ldc (v := (-900002)) hx hb hown (hts _ (lwM tw99)) dL_isWell_380 ?_
              refine lv_goto (tgt := 398) hx hb dL_isWell_382 (by decide) ?_
              refine lv_icmp_eq (tgt := 403) hx hb dL_isWell_398 (by decide) (fun c_398 => ?_) (fun c_398 => ?_)
              · have hw := hw.1 c_398
                refine lv_iinc (v := (x6_323 + 1)) (lv' := [(6, .int (x6_323 + 1)), (7, .int (if (f_y1_323 r17.toNatClampNeg r19.toNatClampNeg) < (f_y1_323 r13.toNatClampNeg r15.toNatClampNeg) then (f_y1_323 r17.toNatClampNeg r19.toNatClampNeg) else (f_y1_323 r13.toNatClampNeg r15.toNatClampNeg))), (0, .ref (a_dw0 0 0)), (1, .ref (at_y1_323 0)), (2, .int x2_323), (3, .int x3_323)]) hx hb dL_isWell_403 hl (k := 5) rfl rfl (by decide) rfl (fun ls hl => ?_)
                refine lv_goto (tgt := 323) hx hb dL_isWell_406 (by decide) ?_
                exact ih_323 x2_323 x3_323 (x6_323 + 1) V_v21 at_y1_323 f_y1_323 _ _ _ _ _ (by omega) (by omega) hw hP hD hS (lv_sub hl [2, 3, 4, 5, 0] rfl)
              · have hw := hw.2 c_398
                refine lv_iconst (v := 0) hx hb dL_isWell_401 (by decide) ?_
                have hP := gSub hP [0]
                have hD := gDSub hD [0] rfl
                have hP : va_P g.1 vwCl (List.flatten [kDW g a_dw0 ra_dw0 V_v21]) H := hP
                have hD : va_D A (List.flatten [kDW g a_dw0 ra_dw0 V_v21]) := hD
                subst hQ
                refine W.widen (k := 835) (n := 5028) (by omega) (by omega) ?_
                exact W.zret (ty := .boolean) hx hb hr (by decide) (gRi1 (c1 := V_v21) (wf := (fun c1 => [kDW g a_dw0 ra_dw0 c1])) hA0 hsz hw hP hD hS) hS.2.2 dL_isWell_402
      have J273 : ∀ (z0_273 : Int32) (z1_273 : Int32) (x2_273 : Int32) (x3_273 : Int32) (x4_273 : Int32) (x5_273 : Int32) (V_dw0_273 : DV) (at_y1_273 : Nat → Nat) (f_y1_273 : Nat → Nat → Int32) (H : Heap) (locs : List Loc) (ls : Array Slot) (cl sl : Nat), cl ≤ cl_221 + 3 → sl ≤ sl_221 + 18 → wpL_isWell_L273 (wpL_isWell_L221 post n_221) post z0_273 z1_273 x2_273 x3_273 x4_273 x5_273 V_dw0_273 at_y1_273 f_y1_273 → va_P g.1 vwCl (List.flatten [kDW g a_dw0 ra_dw0 V_dw0_273, kDd g at_y1_273 f_y1_273]) H → va_D A (List.flatten [kDW g a_dw0 ra_dw0 V_dw0_273, kDd g at_y1_273 f_y1_273]) → va_S A s.heap H locs → lv_has ls 8 [(0, .ref (a_dw0 0 0)), (1, .ref (at_y1_273 0)), (2, .int x2_273), (3, .int x3_273), (4, .int x4_273), (5, .int x5_273)] → W p l e rmL_isWell s m (([.ref (a_dw0 0 0)] : List Value).toArray) below meth c H locs cl sl Q (F0 m 273 ls [.int z1_273, .int z0_273]) := by
        intro z0_273 z1_273 x2_273 x3_273 x4_273 x5_273 V_dw0_273 at_y1_273 f_y1_273 H locs ls cl_273 sl_273 hc_273 hs_273 hw hP hD hS hl
        unfold wpL_isWell_L273 at hw
        refine lv_icmp_ne (tgt := 318) hx hb dL_isWell_273 (by decide) (fun c_273 => ?_) (fun c_273 => ?_)
        · have hw := hw.1 c_273
          refine lv_iconst (v := 0) hx hb dL_isWell_318 (by decide) ?_
          have hP := gSub hP [0]
          have hD := gDSub hD [0] rfl
          have hP : va_P g.1 vwCl (List.flatten [kDW g a_dw0 ra_dw0 V_dw0_273]) H := hP
          have hD : va_D A (List.flatten [kDW g a_dw0 ra_dw0 V_dw0_273]) := hD
          subst hQ
          refine W.widen (k := 835) (n := 5028) (by omega) (by omega) ?_
          exact W.zret (ty := .boolean) hx hb hr (by decide) (gRi1 (c1 := V_dw0_273) (wf := (fun c1 => [kDW g a_dw0 ra_dw0 c1])) hA0 hsz hw hP hD hS) hS.2.2 dL_isWell_319
        · have hw := hw.2 c_273
          refine lv_aload_n hx hb dL_isWell_276 rfl (lv_at hl 0 rfl) ?_
          refine lv_iload_n hx hb dL_isWell_277 rfl (lv_at hl 3 rfl) ?_
          refine gCi1 (bs := [kDW g a_dw0 ra_dw0 V_dw0_273, kDd g at_y1_273 f_y1_273]) (wf := (fun v => [kDW g a_dw0 ra_dw0 v])) (gRunVL (As := [.int x3_273]) (rest := []) ⟨hx, hb, hml, hown, hts⟩ (gMetL (ctP_queueLength l hl0 g t a_dw0 ra_dw0 _ V_dw0_273 x3_273 (show wpD_queueLength x3_273 V_dw0_273 _ from hw))) (cwV 1 hts (goodF gV_X6_queueLength) rfl rfl rfl (by decide +kernel) ⟨Nat.le_of_ble_eq_true rfl, Nat.le_of_ble_eq_true rfl⟩) hE hN hX hS (gFree (bs := [kDW g a_dw0 ra_dw0 V_dw0_273, kDd g at_y1_273 f_y1_273]) hD hS hA [0]) (gSub (bs := [kDW g a_dw0 ra_dw0 V_dw0_273, kDd g at_y1_273 f_y1_273]) hP [0]) (gDSub (bs := [kDW g a_dw0 ra_dw0 V_dw0_273, kDd g at_y1_273 f_y1_273]) hD [0] rfl) 0 10 rfl rfl rfl rfl rfl hl.1 rfl (lv_room (Nat.le_of_ble_eq_true rfl)) dL_isWell_278 ⟨(by show _ ≤ 835; omega), (by show _ ≤ 5028; omega)⟩) hP hD hS hA [0] rfl (fun _ => rfl) rfl (fun r11 V_v11 H locs hw hP hD hS => ?_)
          have hP : va_P g.1 vwCl (List.flatten [kDW g a_dw0 ra_dw0 V_v11, kDd g at_y1_273 f_y1_273]) H := hP
          have hD : va_D A (List.flatten [kDW g a_dw0 ra_dw0 V_v11, kDd g at_y1_273 f_y1_273]) := hD
          refine lv_iconst (v := 5) hx hb dL_isWell_281 (by decide) ?_
          refine lv_icmp_gt (tgt := 318) hx hb dL_isWell_282 (by decide) (fun c_282 => ?_) (fun c_282 => ?_)
          · have hw := hw.1 c_282
            refine lv_iconst (v := 0) hx hb dL_isWell_318 (by decide) ?_
            have hP := gSub hP [0]
            have hD := gDSub hD [0] rfl
            have hP : va_P g.1 vwCl (List.flatten [kDW g a_dw0 ra_dw0 V_v11]) H := hP
            have hD : va_D A (List.flatten [kDW g a_dw0 ra_dw0 V_v11]) := hD
            subst hQ
            refine W.widen (k := 835) (n := 5028) (by omega) (by omega) ?_
            exact W.zret (ty := .boolean) hx hb hr (by decide) (gRi1 (c1 := V_v11) (wf := (fun c1 => [kDW g a_dw0 ra_dw0 c1])) hA0 hsz hw hP hD hS) hS.2.2 dL_isWell_319
          · have hw := hw.2 c_282
            refine lv_iload hx hb dL_isWell_285 (lv_at hl 4 rfl) ?_
            refine lv_if_eq (tgt := 320) hx hb dL_isWell_287 (by decide) (fun c_287 => ?_) (fun c_287 => ?_)
            · have hw := hw.1 c_287
              refine lv_iconst (v := 0) hx hb dL_isWell_320 (by decide) ?_
              refine lv_istore (lv' := [(6, .int 0), (0, .ref (a_dw0 0 0)), (1, .ref (at_y1_273 0)), (2, .int x2_273), (3, .int x3_273), (4, .int x4_273), (5, .int x5_273)]) hx hb dL_isWell_321 hl (by decide) rfl (fun ls hl => ?_)
              obtain ⟨n, hn, hw⟩ := hw
              have hbc := zbud_le (a := 6) hn
              have hbs := zbud_le (a := 36) hn
              have hbc : zbud 6 n ≤ 78 := hbc
              have hbs : zbud 36 n ≤ 468 := hbs
              exact L323 n x2_273 x3_273 0 V_v11 at_y1_273 f_y1_273 _ _ _ _ _ (by omega) (by omega) hw hP hD hS (lv_sub hl [1, 2, 3, 4, 0] rfl)
            · have hw := hw.2 c_287
              refine lv_aload_n hx hb dL_isWell_290 rfl (lv_at hl 0 rfl) ?_
              refine lv_iload_n hx hb dL_isWell_291 rfl (lv_at hl 3 rfl) ?_
              refine gCi1 (bs := [kDW g a_dw0 ra_dw0 V_v11, kDd g at_y1_273 f_y1_273]) (wf := (fun v => [kDW g a_dw0 ra_dw0 v])) (gRunVL (As := [.int x3_273]) (rest := []) ⟨hx, hb, hml, hown, hts⟩ (gMetL (ctP_junction l hl0 g t a_dw0 ra_dw0 _ V_v11 x3_273 (show wpD_junction x3_273 V_v11 _ from hw))) (cwV 1 hts (goodF gV_X6_junction) rfl rfl rfl (by decide +kernel) ⟨Nat.le_of_ble_eq_true rfl, Nat.le_of_ble_eq_true rfl⟩) hE hN hX hS (gFree (bs := [kDW g a_dw0 ra_dw0 V_v11, kDd g at_y1_273 f_y1_273]) hD hS hA [0]) (gSub (bs := [kDW g a_dw0 ra_dw0 V_v11, kDd g at_y1_273 f_y1_273]) hP [0]) (gDSub (bs := [kDW g a_dw0 ra_dw0 V_v11, kDd g at_y1_273 f_y1_273]) hD [0] rfl) 0 10 rfl rfl rfl rfl rfl hl.1 rfl (lv_room (Nat.le_of_ble_eq_true rfl)) dL_isWell_292 ⟨(by show _ ≤ 835; omega), (by show _ ≤ 5028; omega)⟩) hP hD hS hA [0] rfl (fun _ => rfl) rfl (fun r23 V_v23 H locs hw hP hD hS => ?_)
              have hP : va_P g.1 vwCl (List.flatten [kDW g a_dw0 ra_dw0 V_v23, kDd g at_y1_273 f_y1_273]) H := hP
              have hD : va_D A (List.flatten [kDW g a_dw0 ra_dw0 V_v23, kDd g at_y1_273 f_y1_273]) := hD
              refine lv_aload_n hx hb dL_isWell_295 rfl (lv_at hl 0 rfl) ?_
              refine lv_iload hx hb dL_isWell_296 (lv_at hl 5 rfl) ?_
              refine gCi1 (bs := [kDW g a_dw0 ra_dw0 V_v23, kDd g at_y1_273 f_y1_273]) (wf := (fun v => [kDW g a_dw0 ra_dw0 v])) (gRunVL (As := [.int x5_273]) (rest := [.int r23]) ⟨hx, hb, hml, hown, hts⟩ (gMetL (ctP_lowerEnd l hl0 g t a_dw0 ra_dw0 _ V_v23 x5_273 (show wpD_lowerEnd x5_273 V_v23 _ from hw))) (cwV 1 hts (goodF gV_X6_lowerEnd) rfl rfl rfl (by decide +kernel) ⟨Nat.le_of_ble_eq_true rfl, Nat.le_of_ble_eq_true rfl⟩) hE hN hX hS (gFree (bs := [kDW g a_dw0 ra_dw0 V_v23, kDd g at_y1_273 f_y1_273]) hD hS hA [0]) (gSub (bs := [kDW g a_dw0 ra_dw0 V_v23, kDd g at_y1_273 f_y1_273]) hP [0]) (gDSub (bs := [kDW g a_dw0 ra_dw0 V_v23, kDd g at_y1_273 f_y1_273]) hD [0] rfl) 0 10 rfl rfl rfl rfl rfl hl.1 rfl (lv_room (Nat.le_of_ble_eq_true rfl)) dL_isWell_298 ⟨(by show _ ≤ 835; omega), (by show _ ≤ 5028; omega)⟩) hP hD hS hA [0] rfl (fun _ => rfl) rfl (fun r24 V_v24 H locs hw hP hD hS => ?_)
              have hP : va_P g.1 vwCl (List.flatten [kDW g a_dw0 ra_dw0 V_v24, kDd g at_y1_273 f_y1_273]) H := hP
              have hD : va_D A (List.flatten [kDW g a_dw0 ra_dw0 V_v24, kDd g at_y1_273 f_y1_273]) := hD
              refine lv_icmp_eq (tgt := 320) hx hb dL_isWell_301 (by decide) (fun c_301 => ?_) (fun c_301 => ?_)
              · have hw := hw.1 c_301
                refine lv_iconst (v := 0) hx hb dL_isWell_320 (by decide) ?_
                refine lv_istore (lv' := [(6, .int 0), (0, .ref (a_dw0 0 0)), (1, .ref (at_y1_273 0)), (2, .int x2_273), (3, .int x3_273), (4, .int x4_273), (5, .int x5_273)]) hx hb dL_isWell_321 hl (by decide) rfl (fun ls hl => ?_)
                obtain ⟨n, hn, hw⟩ := hw
                have hbc := zbud_le (a := 6) hn
                have hbs := zbud_le (a := 36) hn
                have hbc : zbud 6 n ≤ 78 := hbc
                have hbs : zbud 36 n ≤ 468 := hbs
                exact L323 n x2_273 x3_273 0 V_v24 at_y1_273 f_y1_273 _ _ _ _ _ (by omega) (by omega) hw hP hD hS (lv_sub hl [1, 2, 3, 4, 0] rfl)
              · have hw := hw.2 c_301
                refine lv_aload_n hx hb dL_isWell_304 rfl (lv_at hl 0 rfl) ?_
                refine lv_iload_n hx hb dL_isWell_305 rfl (lv_at hl 3 rfl) ?_
                refine gCi1 (bs := [kDW g a_dw0 ra_dw0 V_v24, kDd g at_y1_273 f_y1_273]) (wf := (fun v => [kDW g a_dw0 ra_dw0 v])) (gRunVL (As := [.int x3_273]) (rest := []) ⟨hx, hb, hml, hown, hts⟩ (gMetL (ctP_junction l hl0 g t a_dw0 ra_dw0 _ V_v24 x3_273 (show wpD_junction x3_273 V_v24 _ from hw))) (cwV 1 hts (goodF gV_X6_junction) rfl rfl rfl (by decide +kernel) ⟨Nat.le_of_ble_eq_true rfl, Nat.le_of_ble_eq_true rfl⟩) hE hN hX hS (gFree (bs := [kDW g a_dw0 ra_dw0 V_v24, kDd g at_y1_273 f_y1_273]) hD hS hA [0]) (gSub (bs := [kDW g a_dw0 ra_dw0 V_v24, kDd g at_y1_273 f_y1_273]) hP [0]) (gDSub (bs := [kDW g a_dw0 ra_dw0 V_v24, kDd g at_y1_273 f_y1_273]) hD [0] rfl) 0 10 rfl rfl rfl rfl rfl hl.1 rfl (lv_room (Nat.le_of_ble_eq_true rfl)) dL_isWell_306 ⟨(by show _ ≤ 835; omega), (by show _ ≤ 5028; omega)⟩) hP hD hS hA [0] rfl (fun _ => rfl) rfl (fun r25 V_v25 H locs hw hP hD hS => ?_)
                have hP : va_P g.1 vwCl (List.flatten [kDW g a_dw0 ra_dw0 V_v25, kDd g at_y1_273 f_y1_273]) H := hP
                have hD : va_D A (List.flatten [kDW g a_dw0 ra_dw0 V_v25, kDd g at_y1_273 f_y1_273]) := hD
                refine lv_aload_n hx hb dL_isWell_309 rfl (lv_at hl 0 rfl) ?_
                refine lv_iload hx hb dL_isWell_310 (lv_at hl 5 rfl) ?_
                refine gCi1 (bs := [kDW g a_dw0 ra_dw0 V_v25, kDd g at_y1_273 f_y1_273]) (wf := (fun v => [kDW g a_dw0 ra_dw0 v])) (gRunVL (As := [.int x5_273]) (rest := [.int r25]) ⟨hx, hb, hml, hown, hts⟩ (gMetL (ctP_higherEnd l hl0 g t a_dw0 ra_dw0 _ V_v25 x5_273 (show wpD_higherEnd x5_273 V_v25 _ from hw))) (cwV 1 hts (goodF gV_X6_higherEnd) rfl rfl rfl (by decide +kernel) ⟨Nat.le_of_ble_eq_true rfl, Nat.le_of_ble_eq_true rfl⟩) hE hN hX hS (gFree (bs := [kDW g a_dw0 ra_dw0 V_v25, kDd g at_y1_273 f_y1_273]) hD hS hA [0]) (gSub (bs := [kDW g a_dw0 ra_dw0 V_v25, kDd g at_y1_273 f_y1_273]) hP [0]) (gDSub (bs := [kDW g a_dw0 ra_dw0 V_v25, kDd g at_y1_273 f_y1_273]) hD [0] rfl) 0 10 rfl rfl rfl rfl rfl hl.1 rfl (lv_room (Nat.le_of_ble_eq_true rfl)) dL_isWell_312 ⟨(by show _ ≤ 835; omega), (by show _ ≤ 5028; omega)⟩) hP hD hS hA [0] rfl (fun _ => rfl) rfl (fun r26 V_v26 H locs hw hP hD hS => ?_)
                have hP : va_P g.1 vwCl (List.flatten [kDW g a_dw0 ra_dw0 V_v26, kDd g at_y1_273 f_y1_273]) H := hP
                have hD : va_D A (List.flatten [kDW g a_dw0 ra_dw0 V_v26, kDd g at_y1_273 f_y1_273]) := hD
                refine lv_icmp_eq (tgt := 320) hx hb dL_isWell_315 (by decide) (fun c_315 => ?_) (fun c_315 => ?_)
                · have hw := hw.1 c_315
                  refine lv_iconst (v := 0) hx hb dL_isWell_320 (by decide) ?_
                  refine lv_istore (lv' := [(6, .int 0), (0, .ref (a_dw0 0 0)), (1, .ref (at_y1_273 0)), (2, .int x2_273), (3, .int x3_273), (4, .int x4_273), (5, .int x5_273)]) hx hb dL_isWell_321 hl (by decide) rfl (fun ls hl => ?_)
                  obtain ⟨n, hn, hw⟩ := hw
                  have hbc := zbud_le (a := 6) hn
                  have hbs := zbud_le (a := 36) hn
                  have hbc : zbud 6 n ≤ 78 := hbc
                  have hbs : zbud 36 n ≤ 468 := hbs
                  exact L323 n x2_273 x3_273 0 V_v26 at_y1_273 f_y1_273 _ _ _ _ _ (by omega) (by omega) hw hP hD hS (lv_sub hl [1, 2, 3, 4, 0] rfl)
                · have hw := hw.2 c_315
                  refine lv_iconst (v := 0) hx hb dL_isWell_318 (by decide) ?_
                  have hP := gSub hP [0]
                  have hD := gDSub hD [0] rfl
                  have hP : va_P g.1 vwCl (List.flatten [kDW g a_dw0 ra_dw0 V_v26]) H := hP
                  have hD : va_D A (List.flatten [kDW g a_dw0 ra_dw0 V_v26]) := hD
                  subst hQ
                  refine W.widen (k := 835) (n := 5028) (by omega) (by omega) ?_
                  exact W.zret (ty := .boolean) hx hb hr (by decide) (gRi1 (c1 := V_v26) (wf := (fun c1 => [kDW g a_dw0 ra_dw0 c1])) hA0 hsz hw hP hD hS) hS.2.2 dL_isWell_319
      have J258 : ∀ (z0_258 : Int32) (z1_258 : Int32) (x2_258 : Int32) (x3_258 : Int32) (x4_258 : Int32) (x5_258 : Int32) (V_dw0_258 : DV) (at_y1_258 : Nat → Nat) (f_y1_258 : Nat → Nat → Int32) (H : Heap) (locs : List Loc) (ls : Array Slot) (cl sl : Nat), cl ≤ cl_221 + 3 → sl ≤ sl_221 + 18 → wpL_isWell_L258 (wpL_isWell_L221 post n_221) post z0_258 z1_258 x2_258 x3_258 x4_258 x5_258 V_dw0_258 at_y1_258 f_y1_258 → va_P g.1 vwCl (List.flatten [kDW g a_dw0 ra_dw0 V_dw0_258, kDd g at_y1_258 f_y1_258]) H → va_D A (List.flatten [kDW g a_dw0 ra_dw0 V_dw0_258, kDd g at_y1_258 f_y1_258]) → va_S A s.heap H locs → lv_has ls 8 [(0, .ref (a_dw0 0 0)), (1, .ref (at_y1_258 0)), (2, .int x2_258), (3, .int x3_258), (4, .int x4_258), (5, .int x5_258)] → W p l e rmL_isWell s m (([.ref (a_dw0 0 0)] : List Value).toArray) below meth c H locs cl sl Q (F0 m 258 ls [.int z1_258, .int z0_258]) := by
        intro z0_258 z1_258 x2_258 x3_258 x4_258 x5_258 V_dw0_258 at_y1_258 f_y1_258 H locs ls cl_258 sl_258 hc_258 hs_258 hw hP hD hS hl
        unfold wpL_isWell_L258 at hw
        refine lv_icmp_ne (tgt := 318) hx hb dL_isWell_258 (by decide) (fun c_258 => ?_) (fun c_258 => ?_)
        · have hw := hw.1 c_258
          refine lv_iconst (v := 0) hx hb dL_isWell_318 (by decide) ?_
          have hP := gSub hP [0]
          have hD := gDSub hD [0] rfl
          have hP : va_P g.1 vwCl (List.flatten [kDW g a_dw0 ra_dw0 V_dw0_258]) H := hP
          have hD : va_D A (List.flatten [kDW g a_dw0 ra_dw0 V_dw0_258]) := hD
          subst hQ
          refine W.widen (k := 835) (n := 5028) (by omega) (by omega) ?_
          exact W.zret (ty := .boolean) hx hb hr (by decide) (gRi1 (c1 := V_dw0_258) (wf := (fun c1 => [kDW g a_dw0 ra_dw0 c1])) hA0 hsz hw hP hD hS) hS.2.2 dL_isWell_319
        · have hw := hw.2 c_258
          refine lv_iload hx hb dL_isWell_261 (lv_at hl 4 rfl) ?_
          refine lv_iload hx hb dL_isWell_263 (lv_at hl 5 rfl) ?_
          refine lv_if_lt (tgt := 272) hx hb dL_isWell_265 (by decide) (fun c_265 => ?_) (fun c_265 => ?_)
          · have hw := hw.1 c_265
            refine lv_iconst (v := 0) hx hb dL_isWell_272 (by decide) ?_
            exact J273 x4_258 0 x2_258 x3_258 x4_258 x5_258 V_dw0_258 at_y1_258 f_y1_258 _ _ _ _ _ (by omega) (by omega) hw hP hD hS (lv_sub hl [0, 1, 2, 3, 4, 5] rfl)
          · have hw := hw.2 c_265
            refine lv_iconst (v := 1) hx hb dL_isWell_268 (by decide) ?_
            refine lv_goto (tgt := 273) hx hb dL_isWell_269 (by decide) ?_
            exact J273 x4_258 1 x2_258 x3_258 x4_258 x5_258 V_dw0_258 at_y1_258 f_y1_258 _ _ _ _ _ (by omega) (by omega) hw hP hD hS (lv_sub hl [0, 1, 2, 3, 4, 5] rfl)
      refine lv_iload_n hx hb dL_isWell_221 rfl (lv_at hl 3 rfl) ?_
      refine lv_aload_n hx hb dL_isWell_222 rfl (lv_at hl 0 rfl) ?_
      refine gCi1 (bs := [kDW g a_dw0 ra_dw0 V_dw0_221, kDd g at_y1_221 f_y1_221]) (wf := (fun v => [kDW g a_dw0 ra_dw0 v])) (gRunVL (As := []) (rest := [.int x3_221]) ⟨hx, hb, hml, hown, hts⟩ (gMetL (ctP_ploughCount l hl0 g t a_dw0 ra_dw0 _ V_dw0_221 hw)) (cwV 0 hts (goodF gV_X6_ploughCount) rfl rfl rfl (by decide +kernel) ⟨Nat.le_of_ble_eq_true rfl, Nat.le_of_ble_eq_true rfl⟩) hE hN hX hS (gFree (bs := [kDW g a_dw0 ra_dw0 V_dw0_221, kDd g at_y1_221 f_y1_221]) hD hS hA [0]) (gSub (bs := [kDW g a_dw0 ra_dw0 V_dw0_221, kDd g at_y1_221 f_y1_221]) hP [0]) (gDSub (bs := [kDW g a_dw0 ra_dw0 V_dw0_221, kDd g at_y1_221 f_y1_221]) hD [0] rfl) 0 10 rfl rfl rfl rfl rfl hl.1 rfl (lv_room (Nat.le_of_ble_eq_true rfl)) dL_isWell_223 ⟨(by show _ ≤ 835; omega), (by show _ ≤ 5028; omega)⟩) hP hD hS hA [0] rfl (fun _ => rfl) rfl (fun r3 V_v3 H locs hw hP hD hS => ?_)
      have hP : va_P g.1 vwCl (List.flatten [kDW g a_dw0 ra_dw0 V_v3, kDd g at_y1_221 f_y1_221]) H := hP
      have hD : va_D A (List.flatten [kDW g a_dw0 ra_dw0 V_v3, kDd g at_y1_221 f_y1_221]) := hD
      refine lv_icmp_ge (tgt := 415) hx hb dL_isWell_226 (by decide) (fun c_226 => ?_) (fun c_226 => ?_)
      · have hw := hw.1 c_226
        refine lv_iload_n hx hb dL_isWell_415 rfl (lv_at hl 2 rfl) ?_
        refine lv_aload_n hx hb dL_isWell_416 rfl (lv_at hl 0 rfl) ?_
        refine gCi1 (bs := [kDW g a_dw0 ra_dw0 V_v3, kDd g at_y1_221 f_y1_221]) (wf := (fun v => [kDW g a_dw0 ra_dw0 v])) (gRunVL (As := []) (rest := [.int x2_221]) ⟨hx, hb, hml, hown, hts⟩ (gMetL (ctP_complaintTotal l hl0 g t a_dw0 ra_dw0 _ V_v3 hw)) (cwV 0 hts (goodF gV_X6_complaintTotal) rfl rfl rfl (by decide +kernel) ⟨Nat.le_of_ble_eq_true rfl, Nat.le_of_ble_eq_true rfl⟩) hE hN hX hS (gFree (bs := [kDW g a_dw0 ra_dw0 V_v3, kDd g at_y1_221 f_y1_221]) hD hS hA [0]) (gSub (bs := [kDW g a_dw0 ra_dw0 V_v3, kDd g at_y1_221 f_y1_221]) hP [0]) (gDSub (bs := [kDW g a_dw0 ra_dw0 V_v3, kDd g at_y1_221 f_y1_221]) hD [0] rfl) 0 10 rfl rfl rfl rfl rfl hl.1 rfl (lv_room (Nat.le_of_ble_eq_true rfl)) dL_isWell_417 ⟨(by show _ ≤ 835; omega), (by show _ ≤ 5028; omega)⟩) hP hD hS hA [0] rfl (fun _ => rfl) rfl (fun r4 V_v4 H locs hw hP hD hS => ?_)
        have hP : va_P g.1 vwCl (List.flatten [kDW g a_dw0 ra_dw0 V_v4, kDd g at_y1_221 f_y1_221]) H := hP
        have hD : va_D A (List.flatten [kDW g a_dw0 ra_dw0 V_v4, kDd g at_y1_221 f_y1_221]) := hD
        refine lv_icmp_ne (tgt := 451) hx hb dL_isWell_420 (by decide) (fun c_420 => ?_) (fun c_420 => ?_)
        · have hw := hw.1 c_420
          refine lv_iconst (v := 0) hx hb dL_isWell_451 (by decide) ?_
          have hP := gSub hP [0]
          have hD := gDSub hD [0] rfl
          have hP : va_P g.1 vwCl (List.flatten [kDW g a_dw0 ra_dw0 V_v4]) H := hP
          have hD : va_D A (List.flatten [kDW g a_dw0 ra_dw0 V_v4]) := hD
          subst hQ
          refine W.widen (k := 835) (n := 5028) (by omega) (by omega) ?_
          exact W.zret (ty := .boolean) hx hb hr (by decide) (gRi1 (c1 := V_v4) (wf := (fun c1 => [kDW g a_dw0 ra_dw0 c1])) hA0 hsz hw hP hD hS) hS.2.2 dL_isWell_452
        · have hw := hw.2 c_420
          refine lv_aload_n hx hb dL_isWell_423 rfl (lv_at hl 0 rfl) ?_
          refine gCi1 (bs := [kDW g a_dw0 ra_dw0 V_v4, kDd g at_y1_221 f_y1_221]) (wf := (fun v => [kDW g a_dw0 ra_dw0 v])) (gRunVL (As := []) (rest := []) ⟨hx, hb, hml, hown, hts⟩ (gMetL (ctP_saltStore l hl0 g t a_dw0 ra_dw0 _ V_v4 hw)) (cwV 0 hts (goodF gV_X6_saltStore) rfl rfl rfl (by decide +kernel) ⟨Nat.le_of_ble_eq_true rfl, Nat.le_of_ble_eq_true rfl⟩) hE hN hX hS (gFree (bs := [kDW g a_dw0 ra_dw0 V_v4, kDd g at_y1_221 f_y1_221]) hD hS hA [0]) (gSub (bs := [kDW g a_dw0 ra_dw0 V_v4, kDd g at_y1_221 f_y1_221]) hP [0]) (gDSub (bs := [kDW g a_dw0 ra_dw0 V_v4, kDd g at_y1_221 f_y1_221]) hD [0] rfl) 0 10 rfl rfl rfl rfl rfl hl.1 rfl (lv_room (Nat.le_of_ble_eq_true rfl)) dL_isWell_424 ⟨(by show _ ≤ 835; omega), (by show _ ≤ 5028; omega)⟩) hP hD hS hA [0] rfl (fun _ => rfl) rfl (fun r5 V_v5 H locs hw hP hD hS => ?_)
          have hP : va_P g.1 vwCl (List.flatten [kDW g a_dw0 ra_dw0 V_v5, kDd g at_y1_221 f_y1_221]) H := hP
          have hD : va_D A (List.flatten [kDW g a_dw0 ra_dw0 V_v5, kDd g at_y1_221 f_y1_221]) := hD
          refine lv_if_lt (tgt := 451) hx hb dL_isWell_427 (by decide) (fun c_427 => ?_) (fun c_427 => ?_)
          · have hw := hw.1 c_427
            refine lv_iconst (v := 0) hx hb dL_isWell_451 (by decide) ?_
            have hP := gSub hP [0]
            have hD := gDSub hD [0] rfl
            have hP : va_P g.1 vwCl (List.flatten [kDW g a_dw0 ra_dw0 V_v5]) H := hP
            have hD : va_D A (List.flatten [kDW g a_dw0 ra_dw0 V_v5]) := hD
            subst hQ
            refine W.widen (k := 835) (n := 5028) (by omega) (by omega) ?_
            exact W.zret (ty := .boolean) hx hb hr (by decide) (gRi1 (c1 := V_v5) (wf := (fun c1 => [kDW g a_dw0 ra_dw0 c1])) hA0 hsz hw hP hD hS) hS.2.2 dL_isWell_452
          · have hw := hw.2 c_427
            refine lv_aload_n hx hb dL_isWell_430 rfl (lv_at hl 0 rfl) ?_
            refine gCi1 (bs := [kDW g a_dw0 ra_dw0 V_v5, kDd g at_y1_221 f_y1_221]) (wf := (fun v => [kDW g a_dw0 ra_dw0 v])) (gRunVL (As := []) (rest := []) ⟨hx, hb, hml, hown, hts⟩ (gMetL (ctP_saltStore l hl0 g t a_dw0 ra_dw0 _ V_v5 hw)) (cwV 0 hts (goodF gV_X6_saltStore) rfl rfl rfl (by decide +kernel) ⟨Nat.le_of_ble_eq_true rfl, Nat.le_of_ble_eq_true rfl⟩) hE hN hX hS (gFree (bs := [kDW g a_dw0 ra_dw0 V_v5, kDd g at_y1_221 f_y1_221]) hD hS hA [0]) (gSub (bs := [kDW g a_dw0 ra_dw0 V_v5, kDd g at_y1_221 f_y1_221]) hP [0]) (gDSub (bs := [kDW g a_dw0 ra_dw0 V_v5, kDd g at_y1_221 f_y1_221]) hD [0] rfl) 0 10 rfl rfl rfl rfl rfl hl.1 rfl (lv_room (Nat.le_of_ble_eq_true rfl)) dL_isWell_431 ⟨(by show _ ≤ 835; omega), (by show _ ≤ 5028; omega)⟩) hP hD hS hA [0] rfl (fun _ => rfl) rfl (fun r6 V_v6 H locs hw hP hD hS => ?_)
            have hP : va_P g.1 vwCl (List.flatten [kDW g a_dw0 ra_dw0 V_v6, kDd g at_y1_221 f_y1_221]) H := hP
            have hD : va_D A (List.flatten [kDW g a_dw0 ra_dw0 V_v6, kDd g at_y1_221 f_y1_221]) := hD
            refine lv_sipush (v := 500) hx hb dL_isWell_434 (by decide) ?_
            refine lv_icmp_gt (tgt := 451) hx hb dL_isWell_437 (by decide) (fun c_437 => ?_) (fun c_437 => ?_)
            · have hw := hw.1 c_437
              refine lv_iconst (v := 0) hx hb dL_isWell_451 (by decide) ?_
              have hP := gSub hP [0]
              have hD := gDSub hD [0] rfl
              have hP : va_P g.1 vwCl (List.flatten [kDW g a_dw0 ra_dw0 V_v6]) H := hP
              have hD : va_D A (List.flatten [kDW g a_dw0 ra_dw0 V_v6]) := hD
              subst hQ
              refine W.widen (k := 835) (n := 5028) (by omega) (by omega) ?_
              exact W.zret (ty := .boolean) hx hb hr (by decide) (gRi1 (c1 := V_v6) (wf := (fun c1 => [kDW g a_dw0 ra_dw0 c1])) hA0 hsz hw hP hD hS) hS.2.2 dL_isWell_452
            · have hw := hw.2 c_437
              refine lv_aload_n hx hb dL_isWell_440 rfl (lv_at hl 0 rfl) ?_
              refine gCi1 (bs := [kDW g a_dw0 ra_dw0 V_v6, kDd g at_y1_221 f_y1_221]) (wf := (fun v => [kDW g a_dw0 ra_dw0 v])) (gRunVL (As := []) (rest := []) ⟨hx, hb, hml, hown, hts⟩ (gMetL (ctP_isConsistent l hl0 g t a_dw0 ra_dw0 _ V_v6 hw)) (cwV 0 hts (goodF gV_X6_isConsistent) rfl rfl rfl (by decide +kernel) ⟨Nat.le_of_ble_eq_true rfl, Nat.le_of_ble_eq_true rfl⟩) hE hN hX hS (gFree (bs := [kDW g a_dw0 ra_dw0 V_v6, kDd g at_y1_221 f_y1_221]) hD hS hA [0]) (gSub (bs := [kDW g a_dw0 ra_dw0 V_v6, kDd g at_y1_221 f_y1_221]) hP [0]) (gDSub (bs := [kDW g a_dw0 ra_dw0 V_v6, kDd g at_y1_221 f_y1_221]) hD [0] rfl) 0 10 rfl rfl rfl rfl rfl hl.1 rfl (lv_room (Nat.le_of_ble_eq_true rfl)) dL_isWell_441 ⟨(by show _ ≤ 835; omega), (by show _ ≤ 5028; omega)⟩) hP hD hS hA [0] rfl (fun _ => rfl) rfl (fun r7 V_v7 H locs hw hP hD hS => ?_)
              have hP : va_P g.1 vwCl (List.flatten [kDW g a_dw0 ra_dw0 V_v7, kDd g at_y1_221 f_y1_221]) H := hP
              have hD : va_D A (List.flatten [kDW g a_dw0 ra_dw0 V_v7, kDd g at_y1_221 f_y1_221]) := hD
              refine lv_if_eq (tgt := 451) hx hb dL_isWell_444 (by decide) (fun c_444 => ?_) (fun c_444 => ?_)
              · have hw := hw.1 c_444
                refine lv_iconst (v := 0) hx hb dL_isWell_451 (by decide) ?_
                have hP := gSub hP [0]
                have hD := gDSub hD [0] rfl
                have hP : va_P g.1 vwCl (List.flatten [kDW g a_dw0 ra_dw0 V_v7]) H := hP
                have hD : va_D A (List.flatten [kDW g a_dw0 ra_dw0 V_v7]) := hD
                subst hQ
                refine W.widen (k := 835) (n := 5028) (by omega) (by omega) ?_
                exact W.zret (ty := .boolean) hx hb hr (by decide) (gRi1 (c1 := V_v7) (wf := (fun c1 => [kDW g a_dw0 ra_dw0 c1])) hA0 hsz hw hP hD hS) hS.2.2 dL_isWell_452
              · have hw := hw.2 c_444
                refine lv_iconst (v := 1) hx hb dL_isWell_447 (by decide) ?_
                refine lv_goto (tgt := 452) hx hb dL_isWell_448 (by decide) ?_
                have hP := gSub hP [0]
                have hD := gDSub hD [0] rfl
                have hP : va_P g.1 vwCl (List.flatten [kDW g a_dw0 ra_dw0 V_v7]) H := hP
                have hD : va_D A (List.flatten [kDW g a_dw0 ra_dw0 V_v7]) := hD
                subst hQ
                refine W.widen (k := 835) (n := 5028) (by omega) (by omega) ?_
                exact W.zret (ty := .boolean) hx hb hr (by decide) (gRi1 (c1 := V_v7) (wf := (fun c1 => [kDW g a_dw0 ra_dw0 c1])) hA0 hsz hw hP hD hS) hS.2.2 dL_isWell_452
      · have hw := hw.2 c_226
        refine lv_aload_n hx hb dL_isWell_229 rfl (lv_at hl 0 rfl) ?_
        refine lv_iload_n hx hb dL_isWell_230 rfl (lv_at hl 3 rfl) ?_
        refine gCi1 (bs := [kDW g a_dw0 ra_dw0 V_v3, kDd g at_y1_221 f_y1_221]) (wf := (fun v => [kDW g a_dw0 ra_dw0 v])) (gRunVL (As := [.int x3_221]) (rest := []) ⟨hx, hb, hml, hown, hts⟩ (gMetL (ctP_isBusy l hl0 g t a_dw0 ra_dw0 _ V_v3 x3_221 (show wpD_isBusy x3_221 V_v3 _ from hw))) (cwV 1 hts (goodF gV_X6_isBusy) rfl rfl rfl (by decide +kernel) ⟨Nat.le_of_ble_eq_true rfl, Nat.le_of_ble_eq_true rfl⟩) hE hN hX hS (gFree (bs := [kDW g a_dw0 ra_dw0 V_v3, kDd g at_y1_221 f_y1_221]) hD hS hA [0]) (gSub (bs := [kDW g a_dw0 ra_dw0 V_v3, kDd g at_y1_221 f_y1_221]) hP [0]) (gDSub (bs := [kDW g a_dw0 ra_dw0 V_v3, kDd g at_y1_221 f_y1_221]) hD [0] rfl) 0 10 rfl rfl rfl rfl rfl hl.1 rfl (lv_room (Nat.le_of_ble_eq_true rfl)) dL_isWell_231 ⟨(by show _ ≤ 835; omega), (by show _ ≤ 5028; omega)⟩) hP hD hS hA [0] rfl (fun _ => rfl) rfl (fun r8 V_v8 H locs hw hP hD hS => ?_)
        have hP : va_P g.1 vwCl (List.flatten [kDW g a_dw0 ra_dw0 V_v8, kDd g at_y1_221 f_y1_221]) H := hP
        have hD : va_D A (List.flatten [kDW g a_dw0 ra_dw0 V_v8, kDd g at_y1_221 f_y1_221]) := hD
        refine lv_istore (lv' := [(4, .int r8), (0, .ref (a_dw0 0 0)), (1, .ref (at_y1_221 0)), (2, .int x2_221), (3, .int x3_221)]) hx hb dL_isWell_234 hl (by decide) rfl (fun ls hl => ?_)
        refine lv_aload_n hx hb dL_isWell_236 rfl (lv_at hl 1 rfl) ?_
        refine lv_iload_n hx hb dL_isWell_237 rfl (lv_at hl 4 rfl) ?_
        refine gCi1 (bs := [kDW g a_dw0 ra_dw0 V_v8, kDd g at_y1_221 f_y1_221]) (wf := (fun v => [kDW g a_dw0 ra_dw0 v])) (gRunSWL (As := [.ref (a_dw0 0 0), .int x3_221]) (rest := []) ⟨hx, hb, hml, hown, hts⟩ (gMetL (ctL_currentStreet l hl0 g t a_dw0 ra_dw0 _ V_v8 x3_221 hw)) (vx_cwSW 2 hts (goodF gS_L_currentStreet) rfl rfl rfl (by decide +kernel) ⟨Nat.le_of_ble_eq_true rfl, Nat.le_of_ble_eq_true rfl⟩) hE hN hX hS (gFree (bs := [kDW g a_dw0 ra_dw0 V_v8, kDd g at_y1_221 f_y1_221]) hD hS hA [0]) (gSub (bs := [kDW g a_dw0 ra_dw0 V_v8, kDd g at_y1_221 f_y1_221]) hP [0]) (gDSub (bs := [kDW g a_dw0 ra_dw0 V_v8, kDd g at_y1_221 f_y1_221]) hD [0] rfl) rfl rfl hl.1 rfl (lv_room (Nat.le_of_ble_eq_true rfl)) dL_isWell_238 ⟨(by show _ ≤ 835; omega), (by show _ ≤ 5028; omega)⟩) hP hD hS hA [0] rfl (fun _ => rfl) rfl (fun r9 V_v9 H locs hw hP hD hS => ?_)
        have hP : va_P g.1 vwCl (List.flatten [kDW g a_dw0 ra_dw0 V_v9, kDd g at_y1_221 f_y1_221]) H := hP
        have hD : va_D A (List.flatten [kDW g a_dw0 ra_dw0 V_v9, kDd g at_y1_221 f_y1_221]) := hD
        refine lv_istore (lv' := [(5, .int r9), (4, .int r8), (0, .ref (a_dw0 0 0)), (1, .ref (at_y1_221 0)), (2, .int x2_221), (3, .int x3_221)]) hx hb dL_isWell_241 hl (by decide) rfl (fun ls hl => ?_)
        refine lv_iload hx hb dL_isWell_243 (lv_at hl 1 rfl) ?_
        refine lv_aload_n hx hb dL_isWell_245 rfl (lv_at hl 2 rfl) ?_
        refine lv_iload_n hx hb dL_isWell_246 rfl (lv_at hl 5 rfl) ?_
        refine gCi1 (bs := [kDW g a_dw0 ra_dw0 V_v9, kDd g at_y1_221 f_y1_221]) (wf := (fun v => [kDW g a_dw0 ra_dw0 v])) (gRunVL (As := [.int x3_221]) (rest := [.int r8]) ⟨hx, hb, hml, hown, hts⟩ (gMetL (ctP_busyMinutes l hl0 g t a_dw0 ra_dw0 _ V_v9 x3_221 (show wpD_busyMinutes x3_221 V_v9 _ from hw))) (cwV 1 hts (goodF gV_X6_busyMinutes) rfl rfl rfl (by decide +kernel) ⟨Nat.le_of_ble_eq_true rfl, Nat.le_of_ble_eq_true rfl⟩) hE hN hX hS (gFree (bs := [kDW g a_dw0 ra_dw0 V_v9, kDd g at_y1_221 f_y1_221]) hD hS hA [0]) (gSub (bs := [kDW g a_dw0 ra_dw0 V_v9, kDd g at_y1_221 f_y1_221]) hP [0]) (gDSub (bs := [kDW g a_dw0 ra_dw0 V_v9, kDd g at_y1_221 f_y1_221]) hD [0] rfl) 0 10 rfl rfl rfl rfl rfl hl.1 rfl (lv_room (Nat.le_of_ble_eq_true rfl)) dL_isWell_247 ⟨(by show _ ≤ 835; omega), (by show _ ≤ 5028; omega)⟩) hP hD hS hA [0] rfl (fun _ => rfl) rfl (fun r10 V_v10 H locs hw hP hD hS => ?_)
        have hP : va_P g.1 vwCl (List.flatten [kDW g a_dw0 ra_dw0 V_v10, kDd g at_y1_221 f_y1_221]) H := hP
        have hD : va_D A (List.flatten [kDW g a_dw0 ra_dw0 V_v10, kDd g at_y1_221 f_y1_221]) := hD
        refine lv_if_le (tgt := 257) hx hb dL_isWell_250 (by decide) (fun c_250 => ?_) (fun c_250 => ?_)
        · have hw := hw.1 c_250
          refine lv_iconst (v := 0) hx hb dL_isWell_257 (by decide) ?_
          exact J258 r8 0 x2_221 x3_221 r8 r9 V_v10 at_y1_221 f_y1_221 _ _ _ _ _ (by omega) (by omega) hw hP hD hS (lv_sub hl [2, 3, 4, 5, 1, 0] rfl)
        · have hw := hw.2 c_250
          refine lv_iconst (v := 1) hx hb dL_isWell_253 (by decide) ?_
          refine lv_goto (tgt := 258) hx hb dL_isWell_254 (by decide) ?_
          exact J258 r8 1 x2_221 x3_221 r8 r9 V_v10 at_y1_221 f_y1_221 _ _ _ _ _ (by omega) (by omega) hw hP hD hS (lv_sub hl [2, 3, 4, 5, 1, 0] rfl)
  have L90 : ∀ (n : Nat) (x2_90 : Int32) (x3_90 : Int32) (V_dw0_90 : DV) (at_y1_90 : Nat → Nat) (f_y1_90 : Nat → Nat → Int32) (H : Heap) (locs : List Loc) (ls : Array Slot) (cl sl : Nat), cl + zbud 12 n ≤ 405 → sl + zbud 72 n ≤ 2448 → wpL_isWell_L90 post n x2_90 x3_90 V_dw0_90 at_y1_90 f_y1_90 → va_P g.1 vwCl (List.flatten [kDW g a_dw0 ra_dw0 V_dw0_90, kDd g at_y1_90 f_y1_90]) H → va_D A (List.flatten [kDW g a_dw0 ra_dw0 V_dw0_90, kDd g at_y1_90 f_y1_90]) → va_S A s.heap H locs → lv_has ls 8 [(0, .ref (a_dw0 0 0)), (1, .ref (at_y1_90 0)), (2, .int x2_90), (3, .int x3_90)] → W p l e rmL_isWell s m (([.ref (a_dw0 0 0)] : List Value).toArray) below meth c H locs cl sl Q (F0 m 90 ls []) := by
    intro n_90
    induction n_90 with
    | zero => intro x2_90 x3_90 V_dw0_90 at_y1_90 f_y1_90 H locs ls cl sl _ _ hw; exact False.elim hw
    | succ n_90 ih_90 =>
      intro x2_90 x3_90 V_dw0_90 at_y1_90 f_y1_90 H locs ls cl_90 sl_90 hc_90 hs_90 hw hP hD hS hl
      have hc_90 := zbud_s hc_90
      have hs_90 := zbud_s hs_90
      have J186 : ∀ (z0_186 : Int32) (z1_186 : Int32) (x2_186 : Int32) (x3_186 : Int32) (x4_186 : Int32) (V_dw0_186 : DV) (at_y1_186 : Nat → Nat) (f_y1_186 : Nat → Nat → Int32) (H : Heap) (locs : List Loc) (ls : Array Slot) (cl sl : Nat), cl ≤ cl_90 + 10 → sl ≤ sl_90 + 60 → wpL_isWell_L186 (wpL_isWell_L90 post n_90) post z0_186 z1_186 x2_186 x3_186 x4_186 V_dw0_186 at_y1_186 f_y1_186 → va_P g.1 vwCl (List.flatten [kDW g a_dw0 ra_dw0 V_dw0_186, kDd g at_y1_186 f_y1_186]) H → va_D A (List.flatten [kDW g a_dw0 ra_dw0 V_dw0_186, kDd g at_y1_186 f_y1_186]) → va_S A s.heap H locs → lv_has ls 8 [(0, .ref (a_dw0 0 0)), (1, .ref (at_y1_186 0)), (2, .int x2_186), (3, .int x3_186), (4, .int x4_186)] → W p l e rmL_isWell s m (([.ref (a_dw0 0 0)] : List Value).toArray) below meth c H locs cl sl Q (F0 m 186 ls [.int z1_186, .int z0_186]) := by
        intro z0_186 z1_186 x2_186 x3_186 x4_186 V_dw0_186 at_y1_186 f_y1_186 H locs ls cl_186 sl_186 hc_186 hs_186 hw hP hD hS hl
        unfold wpL_isWell_L186 at hw
        refine lv_icmp_ne (tgt := 211) hx hb dL_isWell_186 (by decide) (fun c_186 => ?_) (fun c_186 => ?_)
        · have hw := hw.1 c_186
          refine lv_iconst (v := 0) hx hb dL_isWell_211 (by decide) ?_
          have hP := gSub hP [0]
          have hD := gDSub hD [0] rfl
          have hP : va_P g.1 vwCl (List.flatten [kDW g a_dw0 ra_dw0 V_dw0_186]) H := hP
          have hD : va_D A (List.flatten [kDW g a_dw0 ra_dw0 V_dw0_186]) := hD
          subst hQ
          refine W.widen (k := 835) (n := 5028) (by omega) (by omega) ?_
          exact W.zret (ty := .boolean) hx hb hr (by decide) (gRi1 (c1 := V_dw0_186) (wf := (fun c1 => [kDW g a_dw0 ra_dw0 c1])) hA0 hsz hw hP hD hS) hS.2.2 dL_isWell_212
        · have hw := hw.2 c_186
          refine lv_iload hx hb dL_isWell_189 (lv_at hl 4 rfl) ?_
          refine lv_sipush (v := 240) hx hb dL_isWell_191 (by decide) ?_
          refine lv_icmp_gt (tgt := 211) hx hb dL_isWell_194 (by decide) (fun c_194 => ?_) (fun c_194 => ?_)
          · have hw := hw.1 c_194
            refine lv_iconst (v := 0) hx hb dL_isWell_211 (by decide) ?_
            have hP := gSub hP [0]
            have hD := gDSub hD [0] rfl
            have hP : va_P g.1 vwCl (List.flatten [kDW g a_dw0 ra_dw0 V_dw0_186]) H := hP
            have hD : va_D A (List.flatten [kDW g a_dw0 ra_dw0 V_dw0_186]) := hD
            subst hQ
            refine W.widen (k := 835) (n := 5028) (by omega) (by omega) ?_
            exact W.zret (ty := .boolean) hx hb hr (by decide) (gRi1 (c1 := V_dw0_186) (wf := (fun c1 => [kDW g a_dw0 ra_dw0 c1])) hA0 hsz hw hP hD hS) hS.2.2 dL_isWell_212
          · have hw := hw.2 c_194
            refine lv_aload_n hx hb dL_isWell_197 rfl (lv_at hl 0 rfl) ?_
            refine lv_iload_n hx hb dL_isWell_198 rfl (lv_at hl 3 rfl) ?_
            refine lv_iconst (v := 0) hx hb dL_isWell_199 (by decide) ?_
            refine gCi1 (bs := [kDW g a_dw0 ra_dw0 V_dw0_186, kDd g at_y1_186 f_y1_186]) (wf := (fun v => [kDW g a_dw0 ra_dw0 v])) (gRunSWL (As := [.ref (a_dw0 0 0), .int x3_186, .int 0]) (rest := []) ⟨hx, hb, hml, hown, hts⟩ (gMetL (ctL_depthAfter l hl0 g t a_dw0 ra_dw0 _ V_dw0_186 x3_186 0 hw)) (vx_cwSW 3 hts (goodF gS_L_depthAfter) rfl rfl rfl (by decide +kernel) ⟨Nat.le_of_ble_eq_true rfl, Nat.le_of_ble_eq_true rfl⟩) hE hN hX hS (gFree (bs := [kDW g a_dw0 ra_dw0 V_dw0_186, kDd g at_y1_186 f_y1_186]) hD hS hA [0]) (gSub (bs := [kDW g a_dw0 ra_dw0 V_dw0_186, kDd g at_y1_186 f_y1_186]) hP [0]) (gDSub (bs := [kDW g a_dw0 ra_dw0 V_dw0_186, kDd g at_y1_186 f_y1_186]) hD [0] rfl) rfl rfl hl.1 rfl (lv_room (Nat.le_of_ble_eq_true rfl)) dL_isWell_200 ⟨(by show _ ≤ 835; omega), (by show _ ≤ 5028; omega)⟩) hP hD hS hA [0] rfl (fun _ => rfl) rfl (fun r37 V_v37 H locs hw hP hD hS => ?_)
            have hP : va_P g.1 vwCl (List.flatten [kDW g a_dw0 ra_dw0 V_v37, kDd g at_y1_186 f_y1_186]) H := hP
            have hD : va_D A (List.flatten [kDW g a_dw0 ra_dw0 V_v37, kDd g at_y1_186 f_y1_186]) := hD
            refine lv_aload_n hx hb dL_isWell_203 rfl (lv_at hl 0 rfl) ?_
            refine lv_iload_n hx hb dL_isWell_204 rfl (lv_at hl 3 rfl) ?_
            refine gCi1 (bs := [kDW g a_dw0 ra_dw0 V_v37, kDd g at_y1_186 f_y1_186]) (wf := (fun v => [kDW g a_dw0 ra_dw0 v])) (gRunVL (As := [.int x3_186]) (rest := [.int r37]) ⟨hx, hb, hml, hown, hts⟩ (gMetL (ctP_depth l hl0 g t a_dw0 ra_dw0 _ V_v37 x3_186 (show wpD_depth x3_186 V_v37 _ from hw))) (cwV 1 hts (goodF gV_X6_depth) rfl rfl rfl (by decide +kernel) ⟨Nat.le_of_ble_eq_true rfl, Nat.le_of_ble_eq_true rfl⟩) hE hN hX hS (gFree (bs := [kDW g a_dw0 ra_dw0 V_v37, kDd g at_y1_186 f_y1_186]) hD hS hA [0]) (gSub (bs := [kDW g a_dw0 ra_dw0 V_v37, kDd g at_y1_186 f_y1_186]) hP [0]) (gDSub (bs := [kDW g a_dw0 ra_dw0 V_v37, kDd g at_y1_186 f_y1_186]) hD [0] rfl) 0 10 rfl rfl rfl rfl rfl hl.1 rfl (lv_room (Nat.le_of_ble_eq_true rfl)) dL_isWell_205 ⟨(by show _ ≤ 835; omega), (by show _ ≤ 5028; omega)⟩) hP hD hS hA [0] rfl (fun _ => rfl) rfl (fun r38 V_v38 H locs hw hP hD hS => ?_)
            have hP : va_P g.1 vwCl (List.flatten [kDW g a_dw0 ra_dw0 V_v38, kDd g at_y1_186 f_y1_186]) H := hP
            have hD : va_D A (List.flatten [kDW g a_dw0 ra_dw0 V_v38, kDd g at_y1_186 f_y1_186]) := hD
            refine lv_icmp_eq (tgt := 213) hx hb dL_isWell_208 (by decide) (fun c_208 => ?_) (fun c_208 => ?_)
            · have hw := hw.1 c_208
              refine lv_iinc (v := (x3_186 + 1)) (lv' := [(3, .int (x3_186 + 1)), (0, .ref (a_dw0 0 0)), (1, .ref (at_y1_186 0)), (2, .int x2_186), (4, .int x4_186)]) hx hb dL_isWell_213 hl (k := 3) rfl rfl (by decide) rfl (fun ls hl => ?_)
              refine lv_goto (tgt := 90) hx hb dL_isWell_216 (by decide) ?_
              exact ih_90 x2_186 (x3_186 + 1) V_v38 at_y1_186 f_y1_186 _ _ _ _ _ (by omega) (by omega) hw hP hD hS (lv_sub hl [1, 2, 3, 0] rfl)
            · have hw := hw.2 c_208
              refine lv_iconst (v := 0) hx hb dL_isWell_211 (by decide) ?_
              have hP := gSub hP [0]
              have hD := gDSub hD [0] rfl
              have hP : va_P g.1 vwCl (List.flatten [kDW g a_dw0 ra_dw0 V_v38]) H := hP
              have hD : va_D A (List.flatten [kDW g a_dw0 ra_dw0 V_v38]) := hD
              subst hQ
              refine W.widen (k := 835) (n := 5028) (by omega) (by omega) ?_
              exact W.zret (ty := .boolean) hx hb hr (by decide) (gRi1 (c1 := V_v38) (wf := (fun c1 => [kDW g a_dw0 ra_dw0 c1])) hA0 hsz hw hP hD hS) hS.2.2 dL_isWell_212
      have J168 : ∀ (z0_168 : Int32) (z1_168 : Int32) (x2_168 : Int32) (x3_168 : Int32) (x4_168 : Int32) (V_dw0_168 : DV) (at_y1_168 : Nat → Nat) (f_y1_168 : Nat → Nat → Int32) (H : Heap) (locs : List Loc) (ls : Array Slot) (cl sl : Nat), cl ≤ cl_90 + 9 → sl ≤ sl_90 + 54 → wpL_isWell_L168 (wpL_isWell_L90 post n_90) post z0_168 z1_168 x2_168 x3_168 x4_168 V_dw0_168 at_y1_168 f_y1_168 → va_P g.1 vwCl (List.flatten [kDW g a_dw0 ra_dw0 V_dw0_168, kDd g at_y1_168 f_y1_168]) H → va_D A (List.flatten [kDW g a_dw0 ra_dw0 V_dw0_168, kDd g at_y1_168 f_y1_168]) → va_S A s.heap H locs → lv_has ls 8 [(0, .ref (a_dw0 0 0)), (1, .ref (at_y1_168 0)), (2, .int x2_168), (3, .int x3_168), (4, .int x4_168)] → W p l e rmL_isWell s m (([.ref (a_dw0 0 0)] : List Value).toArray) below meth c H locs cl sl Q (F0 m 168 ls [.int z1_168, .int z0_168]) := by
        intro z0_168 z1_168 x2_168 x3_168 x4_168 V_dw0_168 at_y1_168 f_y1_168 H locs ls cl_168 sl_168 hc_168 hs_168 hw hP hD hS hl
        unfold wpL_isWell_L168 at hw
        refine lv_icmp_ne (tgt := 211) hx hb dL_isWell_168 (by decide) (fun c_168 => ?_) (fun c_168 => ?_)
        · have hw := hw.1 c_168
          refine lv_iconst (v := 0) hx hb dL_isWell_211 (by decide) ?_
          have hP := gSub hP [0]
          have hD := gDSub hD [0] rfl
          have hP : va_P g.1 vwCl (List.flatten [kDW g a_dw0 ra_dw0 V_dw0_168]) H := hP
          have hD : va_D A (List.flatten [kDW g a_dw0 ra_dw0 V_dw0_168]) := hD
          subst hQ
          refine W.widen (k := 835) (n := 5028) (by omega) (by omega) ?_
          exact W.zret (ty := .boolean) hx hb hr (by decide) (gRi1 (c1 := V_dw0_168) (wf := (fun c1 => [kDW g a_dw0 ra_dw0 c1])) hA0 hsz hw hP hD hS) hS.2.2 dL_isWell_212
        · have hw := hw.2 c_168
          refine lv_aload_n hx hb dL_isWell_171 rfl (lv_at hl 0 rfl) ?_
          refine lv_iload_n hx hb dL_isWell_172 rfl (lv_at hl 3 rfl) ?_
          refine gCi1 (bs := [kDW g a_dw0 ra_dw0 V_dw0_168, kDd g at_y1_168 f_y1_168]) (wf := (fun v => [kDW g a_dw0 ra_dw0 v])) (gRunVL (As := [.int x3_168]) (rest := []) ⟨hx, hb, hml, hown, hts⟩ (gMetL (ctP_isSalted l hl0 g t a_dw0 ra_dw0 _ V_dw0_168 x3_168 (show wpD_isSalted x3_168 V_dw0_168 _ from hw))) (cwV 1 hts (goodF gV_X6_isSalted) rfl rfl rfl (by decide +kernel) ⟨Nat.le_of_ble_eq_true rfl, Nat.le_of_ble_eq_true rfl⟩) hE hN hX hS (gFree (bs := [kDW g a_dw0 ra_dw0 V_dw0_168, kDd g at_y1_168 f_y1_168]) hD hS hA [0]) (gSub (bs := [kDW g a_dw0 ra_dw0 V_dw0_168, kDd g at_y1_168 f_y1_168]) hP [0]) (gDSub (bs := [kDW g a_dw0 ra_dw0 V_dw0_168, kDd g at_y1_168 f_y1_168]) hD [0] rfl) 0 10 rfl rfl rfl rfl rfl hl.1 rfl (lv_room (Nat.le_of_ble_eq_true rfl)) dL_isWell_173 ⟨(by show _ ≤ 835; omega), (by show _ ≤ 5028; omega)⟩) hP hD hS hA [0] rfl (fun _ => rfl) rfl (fun r36 V_v36 H locs hw hP hD hS => ?_)
          have hP : va_P g.1 vwCl (List.flatten [kDW g a_dw0 ra_dw0 V_v36, kDd g at_y1_168 f_y1_168]) H := hP
          have hD : va_D A (List.flatten [kDW g a_dw0 ra_dw0 V_v36, kDd g at_y1_168 f_y1_168]) := hD
          refine lv_iload hx hb dL_isWell_176 (lv_at hl 4 rfl) ?_
          refine lv_if_le (tgt := 185) hx hb dL_isWell_178 (by decide) (fun c_178 => ?_) (fun c_178 => ?_)
          · have hw := hw.1 c_178
            refine lv_iconst (v := 0) hx hb dL_isWell_185 (by decide) ?_
            exact J186 r36 0 x2_168 x3_168 x4_168 V_v36 at_y1_168 f_y1_168 _ _ _ _ _ (by omega) (by omega) hw hP hD hS (lv_sub hl [0, 1, 2, 3, 4] rfl)
          · have hw := hw.2 c_178
            refine lv_iconst (v := 1) hx hb dL_isWell_181 (by decide) ?_
            refine lv_goto (tgt := 186) hx hb dL_isWell_182 (by decide) ?_
            exact J186 r36 1 x2_168 x3_168 x4_168 V_v36 at_y1_168 f_y1_168 _ _ _ _ _ (by omega) (by omega) hw hP hD hS (lv_sub hl [0, 1, 2, 3, 4] rfl)
      refine lv_iload_n hx hb dL_isWell_90 rfl (lv_at hl 3 rfl) ?_
      refine lv_aload_n hx hb dL_isWell_91 rfl (lv_at hl 0 rfl) ?_
      refine gCi1 (bs := [kDW g a_dw0 ra_dw0 V_dw0_90, kDd g at_y1_90 f_y1_90]) (wf := (fun v => [kDW g a_dw0 ra_dw0 v])) (gRunVL (As := []) (rest := [.int x3_90]) ⟨hx, hb, hml, hown, hts⟩ (gMetL (ctP_streetCount l hl0 g t a_dw0 ra_dw0 _ V_dw0_90 hw)) (cwV 0 hts (goodF gV_X6_streetCount) rfl rfl rfl (by decide +kernel) ⟨Nat.le_of_ble_eq_true rfl, Nat.le_of_ble_eq_true rfl⟩) hE hN hX hS (gFree (bs := [kDW g a_dw0 ra_dw0 V_dw0_90, kDd g at_y1_90 f_y1_90]) hD hS hA [0]) (gSub (bs := [kDW g a_dw0 ra_dw0 V_dw0_90, kDd g at_y1_90 f_y1_90]) hP [0]) (gDSub (bs := [kDW g a_dw0 ra_dw0 V_dw0_90, kDd g at_y1_90 f_y1_90]) hD [0] rfl) 0 10 rfl rfl rfl rfl rfl hl.1 rfl (lv_room (Nat.le_of_ble_eq_true rfl)) dL_isWell_92 ⟨(by show _ ≤ 835; omega), (by show _ ≤ 5028; omega)⟩) hP hD hS hA [0] rfl (fun _ => rfl) rfl (fun r2 V_v2 H locs hw hP hD hS => ?_)
      have hP : va_P g.1 vwCl (List.flatten [kDW g a_dw0 ra_dw0 V_v2, kDd g at_y1_90 f_y1_90]) H := hP
      have hD : va_D A (List.flatten [kDW g a_dw0 ra_dw0 V_v2, kDd g at_y1_90 f_y1_90]) := hD
      refine lv_icmp_ge (tgt := 219) hx hb dL_isWell_95 (by decide) (fun c_95 => ?_) (fun c_95 => ?_)
      · have hw := hw.1 c_95
        refine lv_iconst (v := 0) hx hb dL_isWell_219 (by decide) ?_
        refine lv_istore_n (lv' := [(3, .int 0), (0, .ref (a_dw0 0 0)), (1, .ref (at_y1_90 0)), (2, .int x2_90)]) hx hb dL_isWell_220 rfl hl (by decide) rfl (fun ls hl => ?_)
        obtain ⟨n, hn, hw⟩ := hw
        have hbc := zbud_le (a := 86) hn
        have hbs := zbud_le (a := 516) hn
        have hbc : zbud 86 n ≤ 430 := hbc
        have hbs : zbud 516 n ≤ 2580 := hbs
        exact L221 n x2_90 0 V_v2 at_y1_90 f_y1_90 _ _ _ _ _ (by omega) (by omega) hw hP hD hS (lv_sub hl [1, 2, 3, 0] rfl)
      · have hw := hw.2 c_95
        refine lv_aload_n hx hb dL_isWell_98 rfl (lv_at hl 0 rfl) ?_
        refine lv_iload_n hx hb dL_isWell_99 rfl (lv_at hl 3 rfl) ?_
        refine gCi1 (bs := [kDW g a_dw0 ra_dw0 V_v2, kDd g at_y1_90 f_y1_90]) (wf := (fun v => [kDW g a_dw0 ra_dw0 v])) (gRunSWL (As := [.ref (a_dw0 0 0), .int x3_90]) (rest := []) ⟨hx, hb, hml, hown, hts⟩ (gMetL (ctL_saltMinutes l hl0 g t a_dw0 ra_dw0 _ V_v2 x3_90 hw)) (vx_cwSW 2 hts (goodF gS_L_saltMinutes) rfl rfl rfl (by decide +kernel) ⟨Nat.le_of_ble_eq_true rfl, Nat.le_of_ble_eq_true rfl⟩) hE hN hX hS (gFree (bs := [kDW g a_dw0 ra_dw0 V_v2, kDd g at_y1_90 f_y1_90]) hD hS hA [0]) (gSub (bs := [kDW g a_dw0 ra_dw0 V_v2, kDd g at_y1_90 f_y1_90]) hP [0]) (gDSub (bs := [kDW g a_dw0 ra_dw0 V_v2, kDd g at_y1_90 f_y1_90]) hD [0] rfl) rfl rfl hl.1 rfl (lv_room (Nat.le_of_ble_eq_true rfl)) dL_isWell_100 ⟨(by show _ ≤ 835; omega), (by show _ ≤ 5028; omega)⟩) hP hD hS hA [0] rfl (fun _ => rfl) rfl (fun r27 V_v27 H locs hw hP hD hS => ?_)
        have hP : va_P g.1 vwCl (List.flatten [kDW g a_dw0 ra_dw0 V_v27, kDd g at_y1_90 f_y1_90]) H := hP
        have hD : va_D A (List.flatten [kDW g a_dw0 ra_dw0 V_v27, kDd g at_y1_90 f_y1_90]) := hD
        refine lv_istore (lv' := [(4, .int r27), (0, .ref (a_dw0 0 0)), (1, .ref (at_y1_90 0)), (2, .int x2_90), (3, .int x3_90)]) hx hb dL_isWell_103 hl (by decide) rfl (fun ls hl => ?_)
        refine lv_iload_n hx hb dL_isWell_105 rfl (lv_at hl 3 rfl) ?_
        refine lv_aload_n hx hb dL_isWell_106 rfl (lv_at hl 1 rfl) ?_
        refine lv_iload_n hx hb dL_isWell_107 rfl (lv_at hl 4 rfl) ?_
        refine gCi1 (bs := [kDW g a_dw0 ra_dw0 V_v27, kDd g at_y1_90 f_y1_90]) (wf := (fun v => [kDW g a_dw0 ra_dw0 v])) (gRunVL (As := [.int x3_90]) (rest := [.int x2_90]) ⟨hx, hb, hml, hown, hts⟩ (gMetL (ctP_complaints l hl0 g t a_dw0 ra_dw0 _ V_v27 x3_90 (show wpD_complaints x3_90 V_v27 _ from hw))) (cwV 1 hts (goodF gV_X6_complaints) rfl rfl rfl (by decide +kernel) ⟨Nat.le_of_ble_eq_true rfl, Nat.le_of_ble_eq_true rfl⟩) hE hN hX hS (gFree (bs := [kDW g a_dw0 ra_dw0 V_v27, kDd g at_y1_90 f_y1_90]) hD hS hA [0]) (gSub (bs := [kDW g a_dw0 ra_dw0 V_v27, kDd g at_y1_90 f_y1_90]) hP [0]) (gDSub (bs := [kDW g a_dw0 ra_dw0 V_v27, kDd g at_y1_90 f_y1_90]) hD [0] rfl) 0 10 rfl rfl rfl rfl rfl hl.1 rfl (lv_room (Nat.le_of_ble_eq_true rfl)) dL_isWell_108 ⟨(by show _ ≤ 835; omega), (by show _ ≤ 5028; omega)⟩) hP hD hS hA [0] rfl (fun _ => rfl) rfl (fun r28 V_v28 H locs hw hP hD hS => ?_)
        have hP : va_P g.1 vwCl (List.flatten [kDW g a_dw0 ra_dw0 V_v28, kDd g at_y1_90 f_y1_90]) H := hP
        have hD : va_D A (List.flatten [kDW g a_dw0 ra_dw0 V_v28, kDd g at_y1_90 f_y1_90]) := hD
        refine lv_iadd hx hb dL_isWell_111 ?_
        refine lv_istore_n (lv' := [(2, .int (x2_90 + r28)), (4, .int r27), (0, .ref (a_dw0 0 0)), (1, .ref (at_y1_90 0)), (3, .int x3_90)]) hx hb dL_isWell_112 rfl hl (by decide) rfl (fun ls hl => ?_)
        refine lv_aload_n hx hb dL_isWell_113 rfl (lv_at hl 2 rfl) ?_
        refine lv_iload_n hx hb dL_isWell_114 rfl (lv_at hl 4 rfl) ?_
        refine gCi1 (bs := [kDW g a_dw0 ra_dw0 V_v28, kDd g at_y1_90 f_y1_90]) (wf := (fun v => [kDW g a_dw0 ra_dw0 v])) (gRunVL (As := [.int x3_90]) (rest := []) ⟨hx, hb, hml, hown, hts⟩ (gMetL (ctP_lowerEnd l hl0 g t a_dw0 ra_dw0 _ V_v28 x3_90 (show wpD_lowerEnd x3_90 V_v28 _ from hw))) (cwV 1 hts (goodF gV_X6_lowerEnd) rfl rfl rfl (by decide +kernel) ⟨Nat.le_of_ble_eq_true rfl, Nat.le_of_ble_eq_true rfl⟩) hE hN hX hS (gFree (bs := [kDW g a_dw0 ra_dw0 V_v28, kDd g at_y1_90 f_y1_90]) hD hS hA [0]) (gSub (bs := [kDW g a_dw0 ra_dw0 V_v28, kDd g at_y1_90 f_y1_90]) hP [0]) (gDSub (bs := [kDW g a_dw0 ra_dw0 V_v28, kDd g at_y1_90 f_y1_90]) hD [0] rfl) 0 10 rfl rfl rfl rfl rfl hl.1 rfl (lv_room (Nat.le_of_ble_eq_true rfl)) dL_isWell_115 ⟨(by show _ ≤ 835; omega), (by show _ ≤ 5028; omega)⟩) hP hD hS hA [0] rfl (fun _ => rfl) rfl (fun r29 V_v29 H locs hw hP hD hS => ?_)
        have hP : va_P g.1 vwCl (List.flatten [kDW g a_dw0 ra_dw0 V_v29, kDd g at_y1_90 f_y1_90]) H := hP
        have hD : va_D A (List.flatten [kDW g a_dw0 ra_dw0 V_v29, kDd g at_y1_90 f_y1_90]) := hD
        refine lv_aload_n hx hb dL_isWell_118 rfl (lv_at hl 2 rfl) ?_
        refine lv_iload_n hx hb dL_isWell_119 rfl (lv_at hl 4 rfl) ?_
        refine gCi1 (bs := [kDW g a_dw0 ra_dw0 V_v29, kDd g at_y1_90 f_y1_90]) (wf := (fun v => [kDW g a_dw0 ra_dw0 v])) (gRunVL (As := [.int x3_90]) (rest := [.int r29]) ⟨hx, hb, hml, hown, hts⟩ (gMetL (ctP_higherEnd l hl0 g t a_dw0 ra_dw0 _ V_v29 x3_90 (show wpD_higherEnd x3_90 V_v29 _ from hw))) (cwV 1 hts (goodF gV_X6_higherEnd) rfl rfl rfl (by decide +kernel) ⟨Nat.le_of_ble_eq_true rfl, Nat.le_of_ble_eq_true rfl⟩) hE hN hX hS (gFree (bs := [kDW g a_dw0 ra_dw0 V_v29, kDd g at_y1_90 f_y1_90]) hD hS hA [0]) (gSub (bs := [kDW g a_dw0 ra_dw0 V_v29, kDd g at_y1_90 f_y1_90]) hP [0]) (gDSub (bs := [kDW g a_dw0 ra_dw0 V_v29, kDd g at_y1_90 f_y1_90]) hD [0] rfl) 0 10 rfl rfl rfl rfl rfl hl.1 rfl (lv_room (Nat.le_of_ble_eq_true rfl)) dL_isWell_120 ⟨(by show _ ≤ 835; omega), (by show _ ≤ 5028; omega)⟩) hP hD hS hA [0] rfl (fun _ => rfl) rfl (fun r30 V_v30 H locs hw hP hD hS => ?_)
        have hP : va_P g.1 vwCl (List.flatten [kDW g a_dw0 ra_dw0 V_v30, kDd g at_y1_90 f_y1_90]) H := hP
        have hD : va_D A (List.flatten [kDW g a_dw0 ra_dw0 V_v30, kDd g at_y1_90 f_y1_90]) := hD
        refine lv_icmp_ge (tgt := 211) hx hb dL_isWell_123 (by decide) (fun c_123 => ?_) (fun c_123 => ?_)
        · have hw := hw.1 c_123
          refine lv_iconst (v := 0) hx hb dL_isWell_211 (by decide) ?_
          have hP := gSub hP [0]
          have hD := gDSub hD [0] rfl
          have hP : va_P g.1 vwCl (List.flatten [kDW g a_dw0 ra_dw0 V_v30]) H := hP
          have hD : va_D A (List.flatten [kDW g a_dw0 ra_dw0 V_v30]) := hD
          subst hQ
          refine W.widen (k := 835) (n := 5028) (by omega) (by omega) ?_
          exact W.zret (ty := .boolean) hx hb hr (by decide) (gRi1 (c1 := V_v30) (wf := (fun c1 => [kDW g a_dw0 ra_dw0 c1])) hA0 hsz hw hP hD hS) hS.2.2 dL_isWell_212
        · have hw := hw.2 c_123
          refine lv_aload_n hx hb dL_isWell_126 rfl (lv_at hl 2 rfl) ?_
          refine lv_iload_n hx hb dL_isWell_127 rfl (lv_at hl 4 rfl) ?_
          refine gCi1 (bs := [kDW g a_dw0 ra_dw0 V_v30, kDd g at_y1_90 f_y1_90]) (wf := (fun v => [kDW g a_dw0 ra_dw0 v])) (gRunVL (As := [.int x3_90]) (rest := []) ⟨hx, hb, hml, hown, hts⟩ (gMetL (ctP_depth l hl0 g t a_dw0 ra_dw0 _ V_v30 x3_90 (show wpD_depth x3_90 V_v30 _ from hw))) (cwV 1 hts (goodF gV_X6_depth) rfl rfl rfl (by decide +kernel) ⟨Nat.le_of_ble_eq_true rfl, Nat.le_of_ble_eq_true rfl⟩) hE hN hX hS (gFree (bs := [kDW g a_dw0 ra_dw0 V_v30, kDd g at_y1_90 f_y1_90]) hD hS hA [0]) (gSub (bs := [kDW g a_dw0 ra_dw0 V_v30, kDd g at_y1_90 f_y1_90]) hP [0]) (gDSub (bs := [kDW g a_dw0 ra_dw0 V_v30, kDd g at_y1_90 f_y1_90]) hD [0] rfl) 0 10 rfl rfl rfl rfl rfl hl.1 rfl (lv_room (Nat.le_of_ble_eq_true rfl)) dL_isWell_128 ⟨(by show _ ≤ 835; omega), (by show _ ≤ 5028; omega)⟩) hP hD hS hA [0] rfl (fun _ => rfl) rfl (fun r31 V_v31 H locs hw hP hD hS => ?_)
          have hP : va_P g.1 vwCl (List.flatten [kDW g a_dw0 ra_dw0 V_v31, kDd g at_y1_90 f_y1_90]) H := hP
          have hD : va_D A (List.flatten [kDW g a_dw0 ra_dw0 V_v31, kDd g at_y1_90 f_y1_90]) := hD
          refine lv_if_lt (tgt := 211) hx hb dL_isWell_131 (by decide) (fun c_131 => ?_) (fun c_131 => ?_)
          · have hw := hw.1 c_131
            refine lv_iconst (v := 0) hx hb dL_isWell_211 (by decide) ?_
            have hP := gSub hP [0]
            have hD := gDSub hD [0] rfl
            have hP : va_P g.1 vwCl (List.flatten [kDW g a_dw0 ra_dw0 V_v31]) H := hP
            have hD : va_D A (List.flatten [kDW g a_dw0 ra_dw0 V_v31]) := hD
            subst hQ
            refine W.widen (k := 835) (n := 5028) (by omega) (by omega) ?_
            exact W.zret (ty := .boolean) hx hb hr (by decide) (gRi1 (c1 := V_v31) (wf := (fun c1 => [kDW g a_dw0 ra_dw0 c1])) hA0 hsz hw hP hD hS) hS.2.2 dL_isWell_212
          · have hw := hw.2 c_131
            refine lv_aload_n hx hb dL_isWell_134 rfl (lv_at hl 2 rfl) ?_
            refine lv_iload_n hx hb dL_isWell_135 rfl (lv_at hl 4 rfl) ?_
            refine gCi1 (bs := [kDW g a_dw0 ra_dw0 V_v31, kDd g at_y1_90 f_y1_90]) (wf := (fun v => [kDW g a_dw0 ra_dw0 v])) (gRunVL (As := [.int x3_90]) (rest := []) ⟨hx, hb, hml, hown, hts⟩ (gMetL (ctP_depth l hl0 g t a_dw0 ra_dw0 _ V_v31 x3_90 (show wpD_depth x3_90 V_v31 _ from hw))) (cwV 1 hts (goodF gV_X6_depth) rfl rfl rfl (by decide +kernel) ⟨Nat.le_of_ble_eq_true rfl, Nat.le_of_ble_eq_true rfl⟩) hE hN hX hS (gFree (bs := [kDW g a_dw0 ra_dw0 V_v31, kDd g at_y1_90 f_y1_90]) hD hS hA [0]) (gSub (bs := [kDW g a_dw0 ra_dw0 V_v31, kDd g at_y1_90 f_y1_90]) hP [0]) (gDSub (bs := [kDW g a_dw0 ra_dw0 V_v31, kDd g at_y1_90 f_y1_90]) hD [0] rfl) 0 10 rfl rfl rfl rfl rfl hl.1 rfl (lv_room (Nat.le_of_ble_eq_true rfl)) dL_isWell_136 ⟨(by show _ ≤ 835; omega), (by show _ ≤ 5028; omega)⟩) hP hD hS hA [0] rfl (fun _ => rfl) rfl (fun r32 V_v32 H locs hw hP hD hS => ?_)
            have hP : va_P g.1 vwCl (List.flatten [kDW g a_dw0 ra_dw0 V_v32, kDd g at_y1_90 f_y1_90]) H := hP
            have hD : va_D A (List.flatten [kDW g a_dw0 ra_dw0 V_v32, kDd g at_y1_90 f_y1_90]) := hD
            refine lv_sipush (v := 200) hx hb dL_isWell_139 (by decide) ?_
            refine lv_icmp_gt (tgt := 211) hx hb dL_isWell_142 (by decide) (fun c_142 => ?_) (fun c_142 => ?_)
            · have hw := hw.1 c_142
              refine lv_iconst (v := 0) hx hb dL_isWell_211 (by decide) ?_
              have hP := gSub hP [0]
              have hD := gDSub hD [0] rfl
              have hP : va_P g.1 vwCl (List.flatten [kDW g a_dw0 ra_dw0 V_v32]) H := hP
              have hD : va_D A (List.flatten [kDW g a_dw0 ra_dw0 V_v32]) := hD
              subst hQ
              refine W.widen (k := 835) (n := 5028) (by omega) (by omega) ?_
              exact W.zret (ty := .boolean) hx hb hr (by decide) (gRi1 (c1 := V_v32) (wf := (fun c1 => [kDW g a_dw0 ra_dw0 c1])) hA0 hsz hw hP hD hS) hS.2.2 dL_isWell_212
            · have hw := hw.2 c_142
              refine lv_aload_n hx hb dL_isWell_145 rfl (lv_at hl 2 rfl) ?_
              refine lv_iload_n hx hb dL_isWell_146 rfl (lv_at hl 4 rfl) ?_
              refine gCi1 (bs := [kDW g a_dw0 ra_dw0 V_v32, kDd g at_y1_90 f_y1_90]) (wf := (fun v => [kDW g a_dw0 ra_dw0 v])) (gRunVL (As := [.int x3_90]) (rest := []) ⟨hx, hb, hml, hown, hts⟩ (gMetL (ctP_isOverdue l hl0 g t a_dw0 ra_dw0 _ V_v32 x3_90 (show wpD_isOverdue x3_90 V_v32 _ from hw))) (cwV 1 hts (goodF gV_X6_isOverdue) rfl rfl rfl (by decide +kernel) ⟨Nat.le_of_ble_eq_true rfl, Nat.le_of_ble_eq_true rfl⟩) hE hN hX hS (gFree (bs := [kDW g a_dw0 ra_dw0 V_v32, kDd g at_y1_90 f_y1_90]) hD hS hA [0]) (gSub (bs := [kDW g a_dw0 ra_dw0 V_v32, kDd g at_y1_90 f_y1_90]) hP [0]) (gDSub (bs := [kDW g a_dw0 ra_dw0 V_v32, kDd g at_y1_90 f_y1_90]) hD [0] rfl) 0 10 rfl rfl rfl rfl rfl hl.1 rfl (lv_room (Nat.le_of_ble_eq_true rfl)) dL_isWell_147 ⟨(by show _ ≤ 835; omega), (by show _ ≤ 5028; omega)⟩) hP hD hS hA [0] rfl (fun _ => rfl) rfl (fun r33 V_v33 H locs hw hP hD hS => ?_)
              have hP : va_P g.1 vwCl (List.flatten [kDW g a_dw0 ra_dw0 V_v33, kDd g at_y1_90 f_y1_90]) H := hP
              have hD : va_D A (List.flatten [kDW g a_dw0 ra_dw0 V_v33, kDd g at_y1_90 f_y1_90]) := hD
              refine lv_aload_n hx hb dL_isWell_150 rfl (lv_at hl 2 rfl) ?_
              refine lv_iload_n hx hb dL_isWell_151 rfl (lv_at hl 4 rfl) ?_
              refine gCi1 (bs := [kDW g a_dw0 ra_dw0 V_v33, kDd g at_y1_90 f_y1_90]) (wf := (fun v => [kDW g a_dw0 ra_dw0 v])) (gRunVL (As := [.int x3_90]) (rest := [.int r33]) ⟨hx, hb, hml, hown, hts⟩ (gMetL (ctP_depth l hl0 g t a_dw0 ra_dw0 _ V_v33 x3_90 (show wpD_depth x3_90 V_v33 _ from hw))) (cwV 1 hts (goodF gV_X6_depth) rfl rfl rfl (by decide +kernel) ⟨Nat.le_of_ble_eq_true rfl, Nat.le_of_ble_eq_true rfl⟩) hE hN hX hS (gFree (bs := [kDW g a_dw0 ra_dw0 V_v33, kDd g at_y1_90 f_y1_90]) hD hS hA [0]) (gSub (bs := [kDW g a_dw0 ra_dw0 V_v33, kDd g at_y1_90 f_y1_90]) hP [0]) (gDSub (bs := [kDW g a_dw0 ra_dw0 V_v33, kDd g at_y1_90 f_y1_90]) hD [0] rfl) 0 10 rfl rfl rfl rfl rfl hl.1 rfl (lv_room (Nat.le_of_ble_eq_true rfl)) dL_isWell_152 ⟨(by show _ ≤ 835; omega), (by show _ ≤ 5028; omega)⟩) hP hD hS hA [0] rfl (fun _ => rfl) rfl (fun r34 V_v34 H locs hw hP hD hS => ?_)
              have hP : va_P g.1 vwCl (List.flatten [kDW g a_dw0 ra_dw0 V_v34, kDd g at_y1_90 f_y1_90]) H := hP
              have hD : va_D A (List.flatten [kDW g a_dw0 ra_dw0 V_v34, kDd g at_y1_90 f_y1_90]) := hD
              refine lv_aload_n hx hb dL_isWell_155 rfl (lv_at hl 2 rfl) ?_
              refine lv_iload_n hx hb dL_isWell_156 rfl (lv_at hl 4 rfl) ?_
              refine gCi1 (bs := [kDW g a_dw0 ra_dw0 V_v34, kDd g at_y1_90 f_y1_90]) (wf := (fun c1 => [kDW g a_dw0 ra_dw0 c1])) (gRunSL (As := [.ref (a_dw0 0 0), .int x3_90]) (rest := [.int r34, .int r33]) ⟨hx, hb, hml, hown, hts⟩ (ctL_limit l hl0 g t a_dw0 ra_dw0 V_v34 _ x3_90 hw) (va_cwS 2 hts (goodF gS_L_limit) rfl rfl rfl (by decide +kernel) ⟨Nat.le_of_ble_eq_true rfl, Nat.le_of_ble_eq_true rfl⟩) hE hN hX hS (gFree (bs := [kDW g a_dw0 ra_dw0 V_v34, kDd g at_y1_90 f_y1_90]) hD hS hA [0]) (gSub (bs := [kDW g a_dw0 ra_dw0 V_v34, kDd g at_y1_90 f_y1_90]) hP [0]) (gDSub (bs := [kDW g a_dw0 ra_dw0 V_v34, kDd g at_y1_90 f_y1_90]) hD [0] rfl) rfl rfl hl.1 rfl (lv_room (Nat.le_of_ble_eq_true rfl)) dL_isWell_157 ⟨(by show _ ≤ 835; omega), (by show _ ≤ 5028; omega)⟩) hP hD hS hA [0] rfl (fun _ => rfl) rfl (fun r35 V_dw0_v35 H locs hw hP hD hS => ?_)
              have hP : va_P g.1 vwCl (List.flatten [kDW g a_dw0 ra_dw0 V_dw0_v35, kDd g at_y1_90 f_y1_90]) H := hP
              have hD : va_D A (List.flatten [kDW g a_dw0 ra_dw0 V_dw0_v35, kDd g at_y1_90 f_y1_90]) := hD
              refine lv_icmp_le (tgt := 167) hx hb dL_isWell_160 (by decide) (fun c_160 => ?_) (fun c_160 => ?_)
              · have hw := hw.1 c_160
                refine lv_iconst (v := 0) hx hb dL_isWell_167 (by decide) ?_
                exact J168 r33 0 (x2_90 + r28) x3_90 r27 V_dw0_v35 at_y1_90 f_y1_90 _ _ _ _ _ (by omega) (by omega) hw hP hD hS (lv_sub hl [2, 3, 0, 4, 1] rfl)
              · have hw := hw.2 c_160
                refine lv_iconst (v := 1) hx hb dL_isWell_163 (by decide) ?_
                refine lv_goto (tgt := 168) hx hb dL_isWell_164 (by decide) ?_
                exact J168 r33 1 (x2_90 + r28) x3_90 r27 V_dw0_v35 at_y1_90 f_y1_90 _ _ _ _ _ (by omega) (by omega) hw hP hD hS (lv_sub hl [2, 3, 0, 4, 1] rfl)
  have L9 : ∀ (n : Nat) (x2_9 : Int32) (x3_9 : Int32) (V_dw0_9 : DV) (at_y1_9 : Nat → Nat) (f_y1_9 : Nat → Nat → Int32) (H : Heap) (locs : List Loc) (ls : Array Slot) (cl sl : Nat), cl + zbud 18 n ≤ 249 → sl + zbud 108 n ≤ 1512 → wpL_isWell_L9 post n x2_9 x3_9 V_dw0_9 at_y1_9 f_y1_9 → va_P g.1 vwCl (List.flatten [kDW g a_dw0 ra_dw0 V_dw0_9, kDd g at_y1_9 f_y1_9]) H → va_D A (List.flatten [kDW g a_dw0 ra_dw0 V_dw0_9, kDd g at_y1_9 f_y1_9]) → va_S A s.heap H locs → lv_has ls 8 [(0, .ref (a_dw0 0 0)), (1, .ref (at_y1_9 0)), (2, .int x2_9), (3, .int x3_9)] → W p l e rmL_isWell s m (([.ref (a_dw0 0 0)] : List Value).toArray) below meth c H locs cl sl Q (F0 m 9 ls []) := by
    intro n_9
    induction n_9 with
    | zero => intro x2_9 x3_9 V_dw0_9 at_y1_9 f_y1_9 H locs ls cl sl _ _ hw; exact False.elim hw
    | succ n_9 ih_9 =>
      intro x2_9 x3_9 V_dw0_9 at_y1_9 f_y1_9 H locs ls cl_9 sl_9 hc_9 hs_9 hw hP hD hS hl
      have hc_9 := zbud_s hc_9
      have hs_9 := zbud_s hs_9
      have L18 : ∀ (n : Nat) (x2_18 : Int32) (x3_18 : Int32) (x4_18 : Int32) (V_dw0_18 : DV) (at_y1_18 : Nat → Nat) (f_y1_18 : Nat → Nat → Int32) (H : Heap) (locs : List Loc) (ls : Array Slot) (cl sl : Nat), cl + zbud 2 n ≤ cl_9 + 18 → sl + zbud 12 n ≤ sl_9 + 108 → wpL_isWell_L18 (wpL_isWell_L9 post n_9) post n x2_18 x3_18 x4_18 V_dw0_18 at_y1_18 f_y1_18 → va_P g.1 vwCl (List.flatten [kDW g a_dw0 ra_dw0 V_dw0_18, kDd g at_y1_18 f_y1_18]) H → va_D A (List.flatten [kDW g a_dw0 ra_dw0 V_dw0_18, kDd g at_y1_18 f_y1_18]) → va_S A s.heap H locs → lv_has ls 8 [(0, .ref (a_dw0 0 0)), (1, .ref (at_y1_18 0)), (2, .int x2_18), (3, .int x3_18), (4, .int x4_18)] → W p l e rmL_isWell s m (([.ref (a_dw0 0 0)] : List Value).toArray) below meth c H locs cl sl Q (F0 m 18 ls []) := by
        intro n_18
        induction n_18 with
        | zero => intro x2_18 x3_18 x4_18 V_dw0_18 at_y1_18 f_y1_18 H locs ls cl sl _ _ hw; exact False.elim hw
        | succ n_18 ih_18 =>
          intro x2_18 x3_18 x4_18 V_dw0_18 at_y1_18 f_y1_18 H locs ls cl_18 sl_18 hc_18 hs_18 hw hP hD hS hl
          have hc_18 := zbud_s hc_18
          have hs_18 := zbud_s hs_18
          have J48 : ∀ (z0_48 : Int32) (x2_48 : Int32) (x3_48 : Int32) (x4_48 : Int32) (V_dw0_48 : DV) (at_y1_48 : Nat → Nat) (f_y1_48 : Nat → Nat → Int32) (H : Heap) (locs : List Loc) (ls : Array Slot) (cl sl : Nat), cl ≤ cl_18 + 0 → sl ≤ sl_18 + 0 → wpL_isWell_L48 (wpL_isWell_L18 (wpL_isWell_L9 post n_9) post n_18) (wpL_isWell_L9 post n_9) post z0_48 x2_48 x3_48 x4_48 V_dw0_48 at_y1_48 f_y1_48 → va_P g.1 vwCl (List.flatten [kDW g a_dw0 ra_dw0 V_dw0_48, kDd g at_y1_48 f_y1_48]) H → va_D A (List.flatten [kDW g a_dw0 ra_dw0 V_dw0_48, kDd g at_y1_48 f_y1_48]) → va_S A s.heap H locs → lv_has ls 8 [(0, .ref (a_dw0 0 0)), (1, .ref (at_y1_48 0)), (2, .int x2_48), (3, .int x3_48), (4, .int x4_48)] → W p l e rmL_isWell s m (([.ref (a_dw0 0 0)] : List Value).toArray) below meth c H locs cl sl Q (F0 m 48 ls [.int z0_48]) := by
            intro z0_48 x2_48 x3_48 x4_48 V_dw0_48 at_y1_48 f_y1_48 H locs ls cl_48 sl_48 hc_48 hs_48 hw hP hD hS hl
            unfold wpL_isWell_L48 at hw
            refine lv_istore (lv' := [(5, .int z0_48), (0, .ref (a_dw0 0 0)), (1, .ref (at_y1_48 0)), (2, .int x2_48), (3, .int x3_48), (4, .int x4_48)]) hx hb dL_isWell_48 hl (by decide) rfl (fun ls hl => ?_)
            refine lv_aload_n hx hb dL_isWell_50 rfl (lv_at hl 1 rfl) ?_
            refine lv_iload_n hx hb dL_isWell_51 rfl (lv_at hl 4 rfl) ?_
            refine lv_iload hx hb dL_isWell_52 (lv_at hl 5 rfl) ?_
            refine gCi1 (bs := [kDW g a_dw0 ra_dw0 V_dw0_48, kDd g at_y1_48 f_y1_48]) (wf := (fun v => [kDW g a_dw0 ra_dw0 v])) (gRunSWL (As := [.ref (a_dw0 0 0), .int x3_48, .int x4_48]) (rest := []) ⟨hx, hb, hml, hown, hts⟩ (gMetL (ctL_distance l hl0 g t a_dw0 ra_dw0 _ V_dw0_48 x3_48 x4_48 hw)) (vx_cwSW 3 hts (goodF gS_L_distance) rfl rfl rfl (by decide +kernel) ⟨Nat.le_of_ble_eq_true rfl, Nat.le_of_ble_eq_true rfl⟩) hE hN hX hS (gFree (bs := [kDW g a_dw0 ra_dw0 V_dw0_48, kDd g at_y1_48 f_y1_48]) hD hS hA [0]) (gSub (bs := [kDW g a_dw0 ra_dw0 V_dw0_48, kDd g at_y1_48 f_y1_48]) hP [0]) (gDSub (bs := [kDW g a_dw0 ra_dw0 V_dw0_48, kDd g at_y1_48 f_y1_48]) hD [0] rfl) rfl rfl hl.1 rfl (lv_room (Nat.le_of_ble_eq_true rfl)) dL_isWell_54 ⟨(by show _ ≤ 835; omega), (by show _ ≤ 5028; omega)⟩) hP hD hS hA [0] rfl (fun _ => rfl) rfl (fun r43 V_v43 H locs hw hP hD hS => ?_)
            have hP : va_P g.1 vwCl (List.flatten [kDW g a_dw0 ra_dw0 V_v43, kDd g at_y1_48 f_y1_48]) H := hP
            have hD : va_D A (List.flatten [kDW g a_dw0 ra_dw0 V_v43, kDd g at_y1_48 f_y1_48]) := hD
            refine lv_iload hx hb dL_isWell_57 (lv_at hl 0 rfl) ?_
            refine lv_icmp_ne (tgt := 74) hx hb dL_isWell_59 (by decide) (fun c_59 => ?_) (fun c_59 => ?_)
            · have hw := hw.1 c_59
              refine lv_iconst (v := 0) hx hb dL_isWell_74 (by decide) ?_
              have hP := gSub hP [0]
              have hD := gDSub hD [0] rfl
              have hP : va_P g.1 vwCl (List.flatten [kDW g a_dw0 ra_dw0 V_v43]) H := hP
              have hD : va_D A (List.flatten [kDW g a_dw0 ra_dw0 V_v43]) := hD
              subst hQ
              refine W.widen (k := 835) (n := 5028) (by omega) (by omega) ?_
              exact W.zret (ty := .boolean) hx hb hr (by decide) (gRi1 (c1 := V_v43) (wf := (fun c1 => [kDW g a_dw0 ra_dw0 c1])) hA0 hsz hw hP hD hS) hS.2.2 dL_isWell_75
            · have hw := hw.2 c_59
              refine lv_aload_n hx hb dL_isWell_62 rfl (lv_at hl 1 rfl) ?_
              refine lv_iload_n hx hb dL_isWell_63 rfl (lv_at hl 4 rfl) ?_
              refine lv_iload hx hb dL_isWell_64 (lv_at hl 5 rfl) ?_
              refine gCi1 (bs := [kDW g a_dw0 ra_dw0 V_v43, kDd g at_y1_48 f_y1_48]) (wf := (fun v => [kDW g a_dw0 ra_dw0 v])) (gRunSWL (As := [.ref (a_dw0 0 0), .int x3_48, .int x4_48]) (rest := []) ⟨hx, hb, hml, hown, hts⟩ (gMetL (ctL_distanceByJunctions l hl0 g t a_dw0 ra_dw0 _ V_v43 x3_48 x4_48 hw)) (vx_cwSW 3 hts (goodF gS_L_distanceByJunctions) rfl rfl rfl (by decide +kernel) ⟨Nat.le_of_ble_eq_true rfl, Nat.le_of_ble_eq_true rfl⟩) hE hN hX hS (gFree (bs := [kDW g a_dw0 ra_dw0 V_v43, kDd g at_y1_48 f_y1_48]) hD hS hA [0]) (gSub (bs := [kDW g a_dw0 ra_dw0 V_v43, kDd g at_y1_48 f_y1_48]) hP [0]) (gDSub (bs := [kDW g a_dw0 ra_dw0 V_v43, kDd g at_y1_48 f_y1_48]) hD [0] rfl) rfl rfl hl.1 rfl (lv_room (Nat.le_of_ble_eq_true rfl)) dL_isWell_66 ⟨(by show _ ≤ 835; omega), (by show _ ≤ 5028; omega)⟩) hP hD hS hA [0] rfl (fun _ => rfl) rfl (fun r44 V_v44 H locs hw hP hD hS => ?_)
              have hP : va_P g.1 vwCl (List.flatten [kDW g a_dw0 ra_dw0 V_v44, kDd g at_y1_48 f_y1_48]) H := hP
              have hD : va_D A (List.flatten [kDW g a_dw0 ra_dw0 V_v44, kDd g at_y1_48 f_y1_48]) := hD
              refine lv_iload hx hb dL_isWell_69 (lv_at hl 0 rfl) ?_
              refine lv_icmp_eq (tgt := 76) hx hb dL_isWell_71 (by decide) (fun c_71 => ?_) (fun c_71 => ?_)
              · have hw := hw.1 c_71
                refine lv_iinc (v := (x4_48 + 1)) (lv' := [(4, .int (x4_48 + 1)), (5, .int z0_48), (0, .ref (a_dw0 0 0)), (1, .ref (at_y1_48 0)), (2, .int x2_48), (3, .int x3_48)]) hx hb dL_isWell_76 hl (k := 5) rfl rfl (by decide) rfl (fun ls hl => ?_)
                refine lv_goto (tgt := 18) hx hb dL_isWell_79 (by decide) ?_
                exact ih_18 x2_48 x3_48 (x4_48 + 1) V_v44 at_y1_48 f_y1_48 _ _ _ _ _ (by omega) (by omega) hw hP hD hS (lv_sub hl [2, 3, 4, 5, 0] rfl)
              · have hw := hw.2 c_71
                refine lv_iconst (v := 0) hx hb dL_isWell_74 (by decide) ?_
                have hP := gSub hP [0]
                have hD := gDSub hD [0] rfl
                have hP : va_P g.1 vwCl (List.flatten [kDW g a_dw0 ra_dw0 V_v44]) H := hP
                have hD : va_D A (List.flatten [kDW g a_dw0 ra_dw0 V_v44]) := hD
                subst hQ
                refine W.widen (k := 835) (n := 5028) (by omega) (by omega) ?_
                exact W.zret (ty := .boolean) hx hb hr (by decide) (gRi1 (c1 := V_v44) (wf := (fun c1 => [kDW g a_dw0 ra_dw0 c1])) hA0 hsz hw hP hD hS) hS.2.2 dL_isWell_75
          refine lv_iload hx hb dL_isWell_18 (lv_at hl 4 rfl) ?_
          refine lv_bipush (v := 8) hx hb dL_isWell_20 (by decide) ?_
          refine lv_icmp_ge (tgt := 82) hx hb dL_isWell_22 (by decide) (fun c_22 => ?_) (fun c_22 => ?_)
          · have hw := hw.1 c_22
            refine lv_iinc (v := (x3_18 + 1)) (lv' := [(3, .int (x3_18 + 1)), (0, .ref (a_dw0 0 0)), (1, .ref (at_y1_18 0)), (2, .int x2_18), (4, .int x4_18)]) hx hb dL_isWell_82 hl (k := 3) rfl rfl (by decide) rfl (fun ls hl => ?_)
            refine lv_goto (tgt := 9) hx hb dL_isWell_85 (by decide) ?_
            exact ih_9 x2_18 (x3_18 + 1) V_dw0_18 at_y1_18 f_y1_18 _ _ _ _ _ (by omega) (by omega) hw hP hD hS (lv_sub hl [1, 2, 3, 0] rfl)
          · have hw := hw.2 c_22
            refine lv_aload_n hx hb dL_isWell_25 rfl (lv_at hl 1 rfl) ?_
            refine lv_iload_n hx hb dL_isWell_26 rfl (lv_at hl 3 rfl) ?_
            have h39 := hw.1
            have hw := hw.2
            refine kDd_ld hx hb hE hP h39 dL_isWell_27 ?_
            refine lv_iload hx hb dL_isWell_28 (lv_at hl 4 rfl) ?_
            have h40 := hw.1
            have hw := hw.2
            refine va_iald hx hb hE.1 hP _ 0 (kDd_get (va_lt8 h39)) rfl h40 dL_isWell_30 ?_
            refine lv_sipush (v := 9999) hx hb dL_isWell_31 (by decide) ?_
            refine lv_icmp_lt (tgt := 42) hx hb dL_isWell_34 (by decide) (fun c_34 => ?_) (fun c_34 => ?_)
            · have hw := hw.1 c_34
              refine lv_aload_n hx hb dL_isWell_42 rfl (lv_at hl 1 rfl) ?_
              refine lv_iload_n hx hb dL_isWell_43 rfl (lv_at hl 3 rfl) ?_
              have h41 := hw.1
              have hw := hw.2
              refine kDd_ld hx hb hE hP h41 dL_isWell_44 ?_
              refine lv_iload hx hb dL_isWell_45 (lv_at hl 4 rfl) ?_
              have h42 := hw.1
              have hw := hw.2
              refine va_iald hx hb hE.1 hP _ 0 (kDd_get (va_lt8 h41)) rfl h42 dL_isWell_47 ?_
              exact J48 (f_y1_18 x3_18.toNatClampNeg x4_18.toNatClampNeg) x2_18 x3_18 x4_18 V_dw0_18 at_y1_18 f_y1_18 _ _ _ _ _ (by omega) (by omega) hw hP hD hS (lv_sub hl [0, 1, 2, 3, 4] rfl)
            · have hw := hw.2 c_34
              refine lv_ldc (v := (-900002)) hx hb hown (hts _ (lwM tw99)) dL_isWell_37 ?_
              refine lv_goto (tgt := 48) hx hb dL_isWell_39 (by decide) ?_
              exact J48 (-900002) x2_18 x3_18 x4_18 V_dw0_18 at_y1_18 f_y1_18 _ _ _ _ _ (by omega) (by omega) hw hP hD hS (lv_sub hl [0, 1, 2, 3, 4] rfl)
      refine lv_iload_n hx hb dL_isWell_9 rfl (lv_at hl 3 rfl) ?_
      refine lv_bipush (v := 8) hx hb dL_isWell_10 (by decide) ?_
      refine lv_icmp_ge (tgt := 88) hx hb dL_isWell_12 (by decide) (fun c_12 => ?_) (fun c_12 => ?_)
      · have hw := hw.1 c_12
        refine lv_iconst (v := 0) hx hb dL_isWell_88 (by decide) ?_
        refine lv_istore_n (lv' := [(3, .int 0), (0, .ref (a_dw0 0 0)), (1, .ref (at_y1_9 0)), (2, .int x2_9)]) hx hb dL_isWell_89 rfl hl (by decide) rfl (fun ls hl => ?_)
        obtain ⟨n, hn, hw⟩ := hw
        have hbc := zbud_le (a := 12) hn
        have hbs := zbud_le (a := 72) hn
        have hbc : zbud 12 n ≤ 156 := hbc
        have hbs : zbud 72 n ≤ 936 := hbs
        exact L90 n x2_9 0 V_dw0_9 at_y1_9 f_y1_9 _ _ _ _ _ (by omega) (by omega) hw hP hD hS (lv_sub hl [1, 2, 3, 0] rfl)
      · have hw := hw.2 c_12
        refine lv_iconst (v := 0) hx hb dL_isWell_15 (by decide) ?_
        refine lv_istore (lv' := [(4, .int 0), (0, .ref (a_dw0 0 0)), (1, .ref (at_y1_9 0)), (2, .int x2_9), (3, .int x3_9)]) hx hb dL_isWell_16 hl (by decide) rfl (fun ls hl => ?_)
        obtain ⟨n, hn, hw⟩ := hw
        have hbc := zbud_le (a := 2) hn
        have hbs := zbud_le (a := 12) hn
        have hbc : zbud 2 n ≤ 18 := hbc
        have hbs : zbud 12 n ≤ 108 := hbs
        exact L18 n x2_9 x3_9 0 V_dw0_9 at_y1_9 f_y1_9 _ _ _ _ _ (by omega) (by omega) hw hP hD hS (lv_sub hl [1, 2, 3, 4, 0] rfl)
  refine lv_aload_n hx hb dL_isWell_0 rfl (lv_at hl 0 rfl) ?_
  have hP : va_P g.1 vwCl (List.flatten [kDW g a_dw0 ra_dw0 V_dw0, ([] : va_W)]) _ := hP
  have hD : va_D A (List.flatten [kDW g a_dw0 ra_dw0 V_dw0, ([] : va_W)]) := hD
  refine gCn (bs := [kDW g a_dw0 ra_dw0 V_dw0, ([] : va_W)]) (ad := (fun w : DV × (Nat → Nat) × (Nat → Nat → Int32) => w.2.1 0)) (wf := (fun w : DV × (Nat → Nat) × (Nat → Nat → Int32) => [kDW g a_dw0 ra_dw0 w.1, kDd g w.2.1 w.2.2])) (gRunSL (As := [.ref (a_dw0 0 0)]) (rest := []) ⟨hx, hb, hml, hown, hts⟩ (ctL_distances l hl0 g t a_dw0 ra_dw0 V_dw0 _ hw) (va_cwS 1 hts (goodF gS_L_distances) rfl rfl rfl (by decide +kernel) ⟨Nat.le_of_ble_eq_true rfl, Nat.le_of_ble_eq_true rfl⟩) hE hN hX hS (gFree (bs := [kDW g a_dw0 ra_dw0 V_dw0, ([] : va_W)]) hD hS hA [0, 1]) (gSub (bs := [kDW g a_dw0 ra_dw0 V_dw0, ([] : va_W)]) hP [0, 1]) (gDSub (bs := [kDW g a_dw0 ra_dw0 V_dw0, ([] : va_W)]) hD [0, 1] rfl) rfl rfl hl.1 rfl (lv_room (Nat.le_of_ble_eq_true rfl)) dL_isWell_1 ⟨(by show _ ≤ 835; omega), (by show _ ≤ 5028; omega)⟩) hP hD hS hA [0, 1] rfl (fun _ => rfl) rfl (fun w H locs hw hP hD hS => ?_)
  obtain ⟨V_dw0_v1, at_y1, f_y1⟩ := w
  have hw := hw
  have hP : va_P g.1 vwCl (List.flatten [kDW g a_dw0 ra_dw0 V_dw0_v1, kDd g at_y1 f_y1]) H := hP
  have hD : va_D A (List.flatten [kDW g a_dw0 ra_dw0 V_dw0_v1, kDd g at_y1 f_y1]) := hD
  refine lv_astore_n (lv' := [(1, .ref (at_y1 0)), (0, .ref (a_dw0 0 0))]) hx hb dL_isWell_4 rfl hl (by decide) rfl (fun ls hl => ?_)
  refine lv_iconst (v := 0) hx hb dL_isWell_5 (by decide) ?_
  refine lv_istore_n (lv' := [(2, .int 0), (1, .ref (at_y1 0)), (0, .ref (a_dw0 0 0))]) hx hb dL_isWell_6 rfl hl (by decide) rfl (fun ls hl => ?_)
  refine lv_iconst (v := 0) hx hb dL_isWell_7 (by decide) ?_
  refine lv_istore_n (lv' := [(3, .int 0), (2, .int 0), (1, .ref (at_y1 0)), (0, .ref (a_dw0 0 0))]) hx hb dL_isWell_8 rfl hl (by decide) rfl (fun ls hl => ?_)
  obtain ⟨n, hn, hw⟩ := hw
  have hbc := zbud_le (a := 18) hn
  have hbs := zbud_le (a := 108) hn
  have hbc : zbud 18 n ≤ 162 := hbc
  have hbs : zbud 108 n ≤ 972 := hbs
  exact L9 n 0 0 V_dw0_v1 at_y1 f_y1 _ _ _ _ _ (by omega) (by omega) hw hP hD hS (lv_sub hl [3, 2, 1, 0] rfl)
