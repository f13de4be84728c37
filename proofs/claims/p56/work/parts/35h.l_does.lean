/-! contract: by program -/
abbrev rmL_does : Room := { frames := 13, cells := 42, slots := 8206, locals := 489 }
set_option maxHeartbeats 8000000 in
set_option maxRecDepth 100000 in
theorem ctL_does (l : Launch) (hl0 : l.stackTraces = false) (g : GG) (t : GT) (a_dw0 : Nat → Nat → Nat) (ra_dw0 : Nat → Nat → Nat) (V_dw0 : DV) (a_sw1 : Nat → Nat) (at_sw1 : Nat → Nat) (n_sw1 : Nat) (f_sw1 : Nat → Int32) (sz : Nat) {post : Int32 → DV → Prop} (hw : wpL_does V_dw0 n_sw1 f_sw1 post) :
    Met l yL_does wsB_L_does rmL_does (gPL g t sz (List.flatten [kDW g a_dw0 ra_dw0 V_dw0, kSw g a_sw1 at_sw1 n_sw1 f_sw1]) [.ref (a_dw0 0 0), .ref (a_sw1 0)]) (gQi1 post (fun u1 => gB g (List.flatten [kDW g a_dw0 ra_dw0 V_dw0, kSw g a_sw1 at_sw1 n_sw1 f_sw1]) sz (List.flatten ((fun c1 => [kDW g a_dw0 ra_dw0 c1, kSw g a_sw1 at_sw1 n_sw1 f_sw1]) u1))) (va_A (List.flatten [kDW g a_dw0 ra_dw0 V_dw0, kSw g a_sw1 at_sw1 n_sw1 f_sw1]) sz)) 42 8206 (va_A (List.flatten [kDW g a_dw0 ra_dw0 V_dw0, kSw g a_sw1 at_sw1 n_sw1 f_sw1]) sz) := by
  refine gOfL (cc := cL_does) (maxL := 4) (ret := (some .int)) (by decide) rfl (Nat.le_of_ble_eq_true rfl) ?_
  intro p e s m below meth c ls Q A hQ hx hb hr hml hts hown hlocks hE hA0 hsz hP hD hA hS hl hX hN
  have hl : lv_has ls 4 [(0, .ref (a_dw0 0 0)), (1, .ref (a_sw1 0))] := hl
  have L4 : ∀ (n : Nat) (x2_4 : Int32) (x3_4 : Int32) (V_dw0_4 : DV) (H : Heap) (locs : List Loc) (ls : Array Slot) (cl sl : Nat), cl + zbud 1 n ≤ 41 → sl + zbud 200 n ≤ 8200 → wpL_does_L4 n_sw1 f_sw1 post n x2_4 x3_4 V_dw0_4 → va_P g.1 vwCl (List.flatten [kDW g a_dw0 ra_dw0 V_dw0_4, kSw g a_sw1 at_sw1 n_sw1 f_sw1]) H → va_D A (List.flatten [kDW g a_dw0 ra_dw0 V_dw0_4, kSw g a_sw1 at_sw1 n_sw1 f_sw1]) → va_S A s.heap H locs → lv_has ls 4 [(0, .ref (a_dw0 0 0)), (1, .ref (a_sw1 0)), (2, .int x2_4), (3, .int x3_4)] → W p l e rmL_does s m (([.ref (a_dw0 0 0), .ref (a_sw1 0)] : List Value).toArray) below meth c H locs cl sl Q (F0 m 4 ls []) := by
    intro n_4
    induction n_4 with
    | zero => intro x2_4 x3_4 V_dw0_4 H locs ls cl sl _ _ hw; exact False.elim hw
    | succ n_4 ih_4 =>
      intro x2_4 x3_4 V_dw0_4 H locs ls cl_4 sl_4 hc_4 hs_4 hw hP hD hS hl
      have hc_4 := zbud_s hc_4
      have hs_4 := zbud_s hs_4
      refine lv_iload_n hx hb dL_does_4 rfl (lv_at hl 3 rfl) ?_
      refine lv_aload_n hx hb dL_does_5 rfl (lv_at hl 1 rfl) ?_
      refine gCi0 (bs := [kDW g a_dw0 ra_dw0 V_dw0_4, kSw g a_sw1 at_sw1 n_sw1 f_sw1]) (wf := [kSw g a_sw1 at_sw1 n_sw1 f_sw1]) (gRunVL (As := []) (rest := [.int x3_4]) ⟨hx, hb, hml, hown, hts⟩ (gMetL (ctJ0_length_8abf5_w l g t a_sw1 _ at_sw1 n_sw1 f_sw1 hw)) (cwV 0 hts (goodF gV_J0_length_8abf5) rfl rfl rfl (by decide +kernel) ⟨Nat.le_of_ble_eq_true rfl, Nat.le_of_ble_eq_true rfl⟩) hE hN hX hS (gFree (bs := [kDW g a_dw0 ra_dw0 V_dw0_4, kSw g a_sw1 at_sw1 n_sw1 f_sw1]) hD hS hA [1]) (gSub (bs := [kDW g a_dw0 ra_dw0 V_dw0_4, kSw g a_sw1 at_sw1 n_sw1 f_sw1]) hP [1]) (gDSub (bs := [kDW g a_dw0 ra_dw0 V_dw0_4, kSw g a_sw1 at_sw1 n_sw1 f_sw1]) hD [1] rfl) 0 0 rfl rfl rfl rfl rfl hl.1 rfl (lv_room (Nat.le_of_ble_eq_true rfl)) dL_does_6 ⟨(by show _ ≤ 42; omega), (by show _ ≤ 8206; omega)⟩) hP hD hS hA [1] rfl rfl rfl (fun r1 H locs hw hP hD hS => ?_)
      have hP : va_P g.1 vwCl (List.flatten [kDW g a_dw0 ra_dw0 V_dw0_4, kSw g a_sw1 at_sw1 n_sw1 f_sw1]) H := hP
      have hD : va_D A (List.flatten [kDW g a_dw0 ra_dw0 V_dw0_4, kSw g a_sw1 at_sw1 n_sw1 f_sw1]) := hD
      refine lv_icmp_ge (tgt := 30) hx hb dL_does_9 (by decide) (fun c_9 => ?_) (fun c_9 => ?_)
      · have hw := hw.1 c_9
        refine lv_iload_n hx hb dL_does_30 rfl (lv_at hl 2 rfl) ?_
        refine lv_if_ge (tgt := 39) hx hb dL_does_31 (by decide) (fun c_31 => ?_) (fun c_31 => ?_)
        · have hw := hw.1 c_31
          refine lv_aload_n hx hb dL_does_39 rfl (lv_at hl 0 rfl) ?_
          refine gCi1 (bs := [kDW g a_dw0 ra_dw0 V_dw0_4, kSw g a_sw1 at_sw1 n_sw1 f_sw1]) (wf := (fun v => [kDW g a_dw0 ra_dw0 v])) (gRunSWL (As := [.ref (a_dw0 0 0)]) (rest := []) ⟨hx, hb, hml, hown, hts⟩ (gMetL (ctL_runScript l hl0 g t a_dw0 ra_dw0 _ V_dw0_4 hw)) (vx_cwSW 1 hts (goodF gS_L_runScript) rfl rfl rfl (by decide +kernel) ⟨Nat.le_of_ble_eq_true rfl, Nat.le_of_ble_eq_true rfl⟩) hE hN hX hS (gFree (bs := [kDW g a_dw0 ra_dw0 V_dw0_4, kSw g a_sw1 at_sw1 n_sw1 f_sw1]) hD hS hA [0]) (gSub (bs := [kDW g a_dw0 ra_dw0 V_dw0_4, kSw g a_sw1 at_sw1 n_sw1 f_sw1]) hP [0]) (gDSub (bs := [kDW g a_dw0 ra_dw0 V_dw0_4, kSw g a_sw1 at_sw1 n_sw1 f_sw1]) hD [0] rfl) rfl rfl hl.1 rfl (lv_room (Nat.le_of_ble_eq_true rfl)) dL_does_40 ⟨(by show _ ≤ 42; omega), (by show _ ≤ 8206; omega)⟩) hP hD hS hA [0] rfl (fun _ => rfl) rfl (fun r2 V_v2 H locs hw hP hD hS => ?_)
          have hP : va_P g.1 vwCl (List.flatten [kDW g a_dw0 ra_dw0 V_v2, kSw g a_sw1 at_sw1 n_sw1 f_sw1]) H := hP
          have hD : va_D A (List.flatten [kDW g a_dw0 ra_dw0 V_v2, kSw g a_sw1 at_sw1 n_sw1 f_sw1]) := hD
          subst hQ
          refine W.widen (k := 42) (n := 8206) (by omega) (by omega) ?_
          exact W.iret hx hb hr (gRi1 (c1 := V_v2) (wf := (fun c1 => [kDW g a_dw0 ra_dw0 c1, kSw g a_sw1 at_sw1 n_sw1 f_sw1])) hA0 hsz hw hP hD hS) hS.2.2 dL_does_43
        · have hw := hw.2 c_31
          refine lv_ldc (v := (-900009)) hx hb hown (hts _ (lwM tw768)) dL_does_34 ?_
          refine lv_goto (tgt := 43) hx hb dL_does_36 (by decide) ?_
          subst hQ
          refine W.widen (k := 42) (n := 8206) (by omega) (by omega) ?_
          exact W.iret hx hb hr (gRi1 (c1 := V_dw0_4) (wf := (fun c1 => [kDW g a_dw0 ra_dw0 c1, kSw g a_sw1 at_sw1 n_sw1 f_sw1])) hA0 hsz hw hP hD hS) hS.2.2 dL_does_43
      · have hw := hw.2 c_9
        refine lv_iload_n hx hb dL_does_12 rfl (lv_at hl 2 rfl) ?_
        refine lv_aload_n hx hb dL_does_13 rfl (lv_at hl 0 rfl) ?_
        refine lv_aload_n hx hb dL_does_14 rfl (lv_at hl 1 rfl) ?_
        refine lv_iload_n hx hb dL_does_15 rfl (lv_at hl 3 rfl) ?_
        refine gCi0 (bs := [kDW g a_dw0 ra_dw0 V_dw0_4, kSw g a_sw1 at_sw1 n_sw1 f_sw1]) (wf := [kSw g a_sw1 at_sw1 n_sw1 f_sw1]) (gRunVL (As := [.int x3_4]) (rest := [.ref (a_dw0 0 0), .int x2_4]) ⟨hx, hb, hml, hown, hts⟩ (gMetL (ctJ0_charAt_5068e_w l g t a_sw1 _ at_sw1 n_sw1 f_sw1 x3_4 hw)) (cwV 1 hts (goodF gV_J0_charAt_5068e) rfl rfl rfl (by decide +kernel) ⟨Nat.le_of_ble_eq_true rfl, Nat.le_of_ble_eq_true rfl⟩) hE hN hX hS (gFree (bs := [kDW g a_dw0 ra_dw0 V_dw0_4, kSw g a_sw1 at_sw1 n_sw1 f_sw1]) hD hS hA [1]) (gSub (bs := [kDW g a_dw0 ra_dw0 V_dw0_4, kSw g a_sw1 at_sw1 n_sw1 f_sw1]) hP [1]) (gDSub (bs := [kDW g a_dw0 ra_dw0 V_dw0_4, kSw g a_sw1 at_sw1 n_sw1 f_sw1]) hD [1] rfl) 0 0 rfl rfl rfl rfl rfl hl.1 rfl (lv_room (Nat.le_of_ble_eq_true rfl)) dL_does_16 ⟨(by show _ ≤ 42; omega), (by show _ ≤ 8206; omega)⟩) hP hD hS hA [1] rfl rfl rfl (fun r3 H locs hw hP hD hS => ?_)
        have hP : va_P g.1 vwCl (List.flatten [kDW g a_dw0 ra_dw0 V_dw0_4, kSw g a_sw1 at_sw1 n_sw1 f_sw1]) H := hP
        have hD : va_D A (List.flatten [kDW g a_dw0 ra_dw0 V_dw0_4, kSw g a_sw1 at_sw1 n_sw1 f_sw1]) := hD
        refine gCi1 (bs := [kDW g a_dw0 ra_dw0 V_dw0_4, kSw g a_sw1 at_sw1 n_sw1 f_sw1]) (wf := (fun v => [kDW g a_dw0 ra_dw0 v])) (gRunVL (As := [.int r3]) (rest := [.int x2_4]) ⟨hx, hb, hml, hown, hts⟩ (gMetL (ctP_type l hl0 g t a_dw0 ra_dw0 _ V_dw0_4 r3 (show wpD_type r3 V_dw0_4 _ from hw))) (cwV 1 hts (goodF gV_X6_type) rfl rfl rfl (by decide +kernel) ⟨Nat.le_of_ble_eq_true rfl, Nat.le_of_ble_eq_true rfl⟩) hE hN hX hS (gFree (bs := [kDW g a_dw0 ra_dw0 V_dw0_4, kSw g a_sw1 at_sw1 n_sw1 f_sw1]) hD hS hA [0]) (gSub (bs := [kDW g a_dw0 ra_dw0 V_dw0_4, kSw g a_sw1 at_sw1 n_sw1 f_sw1]) hP [0]) (gDSub (bs := [kDW g a_dw0 ra_dw0 V_dw0_4, kSw g a_sw1 at_sw1 n_sw1 f_sw1]) hD [0] rfl) 0 10 rfl rfl rfl rfl rfl hl.1 rfl (lv_room (Nat.le_of_ble_eq_true rfl)) dL_does_19 ⟨(by show _ ≤ 42; omega), (by show _ ≤ 8206; omega)⟩) hP hD hS hA [0] rfl (fun _ => rfl) rfl (fun r4 V_v4 H locs hw hP hD hS => ?_)
        have hP : va_P g.1 vwCl (List.flatten [kDW g a_dw0 ra_dw0 V_v4, kSw g a_sw1 at_sw1 n_sw1 f_sw1]) H := hP
        have hD : va_D A (List.flatten [kDW g a_dw0 ra_dw0 V_v4, kSw g a_sw1 at_sw1 n_sw1 f_sw1]) := hD
        refine lv_iadd hx hb dL_does_22 ?_
        refine lv_istore_n (lv' := [(2, .int (x2_4 + r4)), (0, .ref (a_dw0 0 0)), (1, .ref (a_sw1 0)), (3, .int x3_4)]) hx hb dL_does_23 rfl hl (by decide) rfl (fun ls hl => ?_)
        refine lv_iinc (v := (x3_4 + 1)) (lv' := [(3, .int (x3_4 + 1)), (2, .int (x2_4 + r4)), (0, .ref (a_dw0 0 0)), (1, .ref (a_sw1 0))]) hx hb dL_does_24 hl (k := 3) rfl rfl (by decide) rfl (fun ls hl => ?_)
        refine lv_goto (tgt := 4) hx hb dL_does_27 (by decide) ?_
        exact ih_4 (x2_4 + r4) (x3_4 + 1) V_v4 _ _ _ _ _ (by omega) (by omega) hw hP hD hS (lv_sub hl [2, 3, 1, 0] rfl)
  refine lv_iconst (v := 0) hx hb dL_does_0 (by decide) ?_
  refine lv_istore_n (lv' := [(2, .int 0), (0, .ref (a_dw0 0 0)), (1, .ref (a_sw1 0))]) hx hb dL_does_1 rfl hl (by decide) rfl (fun ls hl => ?_)
  refine lv_iconst (v := 0) hx hb dL_does_2 (by decide) ?_
  refine lv_istore_n (lv' := [(3, .int 0), (2, .int 0), (0, .ref (a_dw0 0 0)), (1, .ref (a_sw1 0))]) hx hb dL_does_3 rfl hl (by decide) rfl (fun ls hl => ?_)
  obtain ⟨n, hn, hw⟩ := hw
  have hbc := zbud_le (a := 1) hn
  have hbs := zbud_le (a := 200) hn
  have hbc : zbud 1 n ≤ 41 := hbc
  have hbs : zbud 200 n ≤ 8200 := hbs
  exact L4 n 0 0 V_dw0 _ _ _ _ _ (by omega) (by omega) hw hP hD hS (lv_sub hl [2, 3, 1, 0] rfl)
